/-! from the law's entry to its end -/
theorem F10_cg {M M' : Mm} (k : ∀ g : Nat, g < 31 → g ≠ 11 → M' g = M g) (h : F10 M) : F10 M' := by
  have hk : ∀ q : Nat × Nat, q ∈ rf10 → q.1 < 31 ∧ q.1 ≠ 11 := by decide
  obtain ⟨h1, hs, hC, hR, hg, h13, l1, e1, e2, o1⟩ := h
  refine ⟨fun q hq => by rw [k q.1 (hk q hq).1 (hk q hq).2]; exact h1 q hq, ?_, CI_cg (k 12 (by decide) (by decide)) hC, RI_cg (k 22 (by decide) (by decide)) hR, ?_, ?_, ?_, ?_, ?_, ?_⟩
  · rw [k 8 (by decide) (by decide), k 30 (by decide) (by decide)]; exact hs
  · rw [k 1 (by decide) (by decide)]; exact hg
  · rw [k 13 (by decide) (by decide)]; exact h13
  · rw [k 2 (by decide) (by decide)]; exact l1
  · rw [k 6 (by decide) (by decide)]; exact e1
  · rw [k 6 (by decide) (by decide)]; exact e2
  · rw [k 7 (by decide) (by decide)]; exact o1
theorem F11_cg {M M' : Mm} (k : ∀ g : Nat, g ∈ [11, 32, 33, 46] → M' g = M g) (h : F11 M) : F11 M' := by
  unfold F11
  rw [k 11 (by decide), k 32 (by decide), k 46 (by decide)]
  exact ⟨h.1, CE_cg (k 33 (by decide)) h.2.1, h.2.2⟩
theorem wl_D0 {ad : Nat → Nat → Nat} {cA : Nat → ClassId} {A : Nat → Prop} {base : Nat} (hA : AdP base ad) (h : ∀ q, base ≤ q → A q) (M : Mm) : va_D A (wl ad cA M) := by
  have key : ∀ (k : Nat) (q : Nat × va_E), (wl ad cA M)[k]? = some q → ∃ a : Nat × Nat, en[k]? = some a ∧ a.2 < cnt a.1 ∧ q.1 = ad a.1 a.2 := by
    intro k q hk
    unfold wl at hk
    rw [List.getElem?_map] at hk
    cases hq : en[k]? with
    | none => rw [hq] at hk; cases hk
    | some a =>
      rw [hq] at hk
      cases hk
      obtain ⟨g, hg, ha⟩ := List.mem_flatMap.mp (List.mem_of_getElem? hq)
      obtain ⟨s, hs, rfl⟩ := List.mem_map.mp ha
      exact ⟨(g, s), rfl, List.mem_range.mp hs, rfl⟩
  refine ⟨fun i j p q hi hj e => ?_, fun k q hk => ?_⟩
  · obtain ⟨a, ha, ha2, ea⟩ := key i p hi
    obtain ⟨b, hb, hb2, eb⟩ := key j q hj
    rw [ea, eb, hA _ _ ha2, hA _ _ hb2] at e
    have e2 : ix a.1 a.2 = ix b.1 b.2 := by omega
    have e3 : a = b := by
      have h1 := ix_al ha2
      have h2 := ix_al hb2
      rw [e2, h2] at h1
      exact (Option.some.inj h1).symm
    subst e3
    exact (List.getElem?_inj (List.getElem?_eq_some_iff.mp ha).1 en_nd).mp (ha.trans hb.symm)
  · obtain ⟨a, ha, ha2, ea⟩ := key k q hk
    rw [ea, hA _ _ ha2]
    exact h _ (by omega)
set_option maxRecDepth 20000 in
/-- THE LAW, from its entry, in a launch without stack traces -/
theorem whole_start {p : Program} {e : Env} {s : State} {m : MethodId} {below : List Frame} {meth : Method} {c : Code} (l : Launch) (hl : l.stackTraces = false) {b L : Nat} {xs : Nat → Int32} (hL : L ≤ 2560) (C0 : lw_At p s m meth c b L xs) : W p l e room_1 s m #[Value.ref b] below meth c s.heap [] 0 0 (lw_Z below #[Value.ref b] s) (entryFrame m ([Value.ref b] : List Value).toArray 8) := by
  obtain ⟨hx, hb, hr, hml, hown, hts, hX, hbl, hlocks, hgv⟩ := C0
  have hgT : ∀ w ∈ gT, w.before #[Value.ref b] s = true := fun w hw => hts w (List.mem_filter.mp hw).1
  have hgN : ∀ w ∈ gN, va_Nw w s := fun w hw => va_Nw.of (gN_tab hw) (hts w (List.mem_append_right _ (List.mem_filter.mp hw).1))
  have hO : va_AO RX8 s := va_AO.of (hts _ (tb_of 29 (by decide +kernel)))
  obtain ⟨D, cA, hK⟩ := K_start hgT hO
  have hSx : Sx (fun q => s.heap.size ≤ q) s := Sx_start hts hgv (fun a h z => by omega)
  obtain ⟨ad, had, h56⟩ : ∃ ad : Nat → Nat → Nat, AdP s.heap.size ad ∧ ad 56 0 = b := ⟨fun g q => if g = 56 then b else s.heap.size + ix g q, fun g q h => if_neg (by have := cnt_lt h; omega), rfl⟩
  have CP : CxP (p, l, e, room_1, s, m, #[Value.ref b], below, meth, c, (s.heap.size, 0), lw_Z below #[Value.ref b] s, D, ad, cA, fun q => s.heap.size ≤ q, 8) l cL_law RL 8 840 70 := ⟨hx, hb, hml, hown, hgT, hK, had, fun q h => h, rfl, ⟨by decide +kernel, by decide +kernel⟩, hlocks, rfl, rfl, ⟨by decide, by decide⟩, hgN, hO⟩
  have CL : Cx (p, l, e, room_1, s, m, #[Value.ref b], below, meth, c, (70, sls 70), lw_Z below #[Value.ref b] s, D, ad, cA, fun q => s.heap.size ≤ q, 8) l cL_law RL 8 840 := ⟨hx, hb, hml, hown, hgT, hK, fun M => wl_D0 had (fun q h => h) M, fun q h => h, by decide +kernel, by decide +kernel, hlocks, rfl, rfl, ⟨by decide, by decide⟩, hgN⟩
  have LL : LX (p, l, e, room_1, s, m, #[Value.ref b], below, meth, c, (70, sls 70), lw_Z below #[Value.ref b] s, D, ad, cA, fun q => s.heap.size ≤ q, 8) L (fun j => (xs j).toInt) (2 * 512) := ⟨⟨xs, fun _ => rfl, by rw [h56]; exact hX⟩, by rw [h56]; exact hbl, rfl, hL, rfl, by rw [h56], rfl, hr, ⟨by decide +kernel, by decide +kernel⟩, hSx⟩
  have go : JP (p, l, e, room_1, s, m, #[Value.ref b], below, meth, c, (s.heap.size, 0), lw_Z below #[Value.ref b] s, D, ad, cA, fun q => s.heap.size ≤ q, 8) 0 (pad 8 (elo [zr 56 0])) [] (fun _ _ _ => 0) := by
    refine BP_L_law_0 CP (k_X10_init l) (by decide) (k_X11_init l) (by decide) _ _ _ ?_
    simp only [c_iadd, c_isub, c_imul, c_ladd, c_lsub, c_lmul, c_ineg, c_lneg, c_ic, c_lc, c_iload, c_lload, c_aload, c_istore, c_astore, c_lstore, c_iinc, c_dup, c_dup2, c_goto, c_i2l, c_l2i, c_idiv, c_ldiv, c_lrem, c_lshl, c_gi, c_gl, c_gr, c_pi, c_pz, c_pl, c_iald, c_lald, c_bald, c_aald, c_iast, c_last, c_bast, c_callV, c_callS, c_mmax, c_mmin, c_mabs, c_mmaxl, c_mabsl, c_iret, c_zret, c_lret, c_vret, c_tsw, c_lsw, c_icmp_eq, c_icmp_ne, c_icmp_lt, c_icmp_ge, c_icmp_gt, c_icmp_le, c_if_eq, c_if_ne, c_if_lt, c_if_ge, c_if_gt, c_if_le, c_lcmp_eq, c_lcmp_ne, c_lcmp_lt, c_lcmp_ge, c_lcmp_gt, c_lcmp_le, c_lraw_eq, c_lraw_lt, c_lraw_ge, c_lraw_gt, c_lraw_le, acat, scat, tswP, pops, st1, st2, klo, pad, elo, List.getElem?_cons_zero, List.getElem?_cons_succ, List.getElem?_nil, List.set_cons_zero, List.set_cons_succ, List.set_nil, Option.toList_some, Option.toList_none, List.cons_append, List.nil_append, List.length_cons, List.length_nil, stc_ap, stm_ap, false_and, and_false, and_self, true_and, and_true, Nat.reduceEqDiff, reduceIte, al_12, al_13, al_14, al_15, al_16, al_17, al_18, al_19, al_20, al_21, al_22, al_23, al_24, al_25, al_26, al_27, al_28, al_29, al_30, al_31, al_32, al_33, al_34, al_35, al_36, al_37, al_38, al_39, al_40, al_41, al_42, al_43, al_44, al_45, al_46, al_47, al_48, al_49, al_50, al_51, al_52, al_53, al_54, al_55, at_12, at_13, at_14, at_15, at_16, at_17, at_18, at_19, at_20, at_21, at_22, at_23, at_24, at_25, at_26, at_27, at_28, at_29, at_30, at_31, at_32, at_33, at_34, at_35, at_36, at_37, at_38, at_39, at_40, at_41, at_42, at_43, at_44, at_45, at_46, at_47, at_48, at_49, at_50, at_51, at_52, at_53, at_54, at_55, cn_0, cn_1, cn_2, cn_3, cn_4, cn_5, cn_6, cn_7, cn_8, cn_9, cn_10, cn_11, cn_12, cn_13, cn_14, cn_15, cn_16, cn_17, cn_18, cn_19, cn_20, cn_21, cn_22, cn_23, cn_24, cn_25, cn_26, cn_27, cn_28, cn_29, cn_30, cn_31, cn_32, cn_33, cn_34, cn_35, cn_36, cn_37, cn_38, cn_39, cn_40, cn_41, cn_42, cn_43, cn_44, cn_45, cn_46, cn_47, cn_48, cn_49, cn_50, cn_51, cn_52, cn_53, cn_54, cn_55, Nat.reduceAdd, Nat.reduceLT, Nat.reduceLeDiff, Nat.lt_add_one, Nat.zero_lt_succ, Nat.reduceSub, ite_true, ite_false, reduceCtorEq, forall_const, Nat.reduceSucc, Nat.zero_add, Nat.add_zero, Nat.le_refl, Nat.zero_le, Nat.reducePow, Int.reduceNeg, Nat.reduceMul, eq_self, Int.cast_ofNat_Int, Int.toNat_natCast, iR, lR, Int.reduceEq, Int.reduceLT, Int.reduceLE, Int.reduceNe, not_false_eq_true, not_true_eq_false, false_implies, true_implies, Int.reduceAdd, Int.reduceSub, Int.reduceMul, Int.reduceToNat, implies_true, or_true, true_or, or_false, false_or, c_new, c_newE, c_newa, c_newaE, c_oinit, c_grP, c_pr, c_piP, c_laldP, c_lastP, c_iastP, c_aastP, c_callI, c_callSP, c_vretP, c_iretP, ix_0, ix_1, ix_2, ix_3, ix_4, ix_5, ix_6, ix_7, ix_8, ix_9, ix_10, ix_11, ix_12, ix_13, ix_14, ix_15, ix_16, ix_17, ix_18, ix_19, ix_20, ix_21, ix_22, ix_23, ix_24, ix_25, ix_26, ix_27, ix_28, ix_29, ix_30, ix_31, ix_32, ix_33, ix_34, ix_35, ix_36, ix_37, ix_38, ix_39, ix_40, ix_41, ix_42, ix_43, ix_44, ix_45, ix_46, ix_47, ix_48, ix_49, ix_50, ix_51, ix_52, ix_53, ix_54, ix_55, nof_nw, nw_ap, T_X10_init, T_X11_init]
    refine ⟨by decide +kernel, fun M1 h1 hF1 => ⟨h1, by decide +kernel, fun M2 h2 hfr hF2 => ⟨h2, ?_⟩⟩⟩
    have f10 : F10 (nw M2 55 0) := F10_cg (M := M1) (fun g h1 h2 => by rw [nw_ne _ _ _ (by omega) (by omega), hfr g h1 h2, nw_ne _ _ _ (by omega) (by omega)]) hF1
    have f11 : F11 (nw M2 55 0) := F11_cg (M := M2) (fun g hg => nw_ne _ _ _ (fun z => by subst z; revert hg; decide) (fun z => by subst z; revert hg; decide)) hF2
    have h70 : nw M2 55 0 99 0 0 = 70 := by simp only [stc_ap, stm_ap, false_and, and_false, and_self, true_and, and_true, Nat.reduceEqDiff, reduceIte, nw_ap, ix_55]; rfl
    have run : J (p, l, e, room_1, s, m, #[Value.ref b], below, meth, c, (70, sls 70), lw_Z below #[Value.ref b] s, D, ad, cA, fun q => s.heap.size ≤ q, 8) 20 [some (zr 56 0), some (zr 10 0), some (zr 11 0), some (zr 55 0), none, none, none, none] [] (nw M2 55 0) := by
      refine B_L_law_20 CL LL _ _ _ ?_
      simp only [c_iadd, c_isub, c_imul, c_ladd, c_lsub, c_lmul, c_ineg, c_lneg, c_ic, c_lc, c_iload, c_lload, c_aload, c_istore, c_astore, c_lstore, c_iinc, c_dup, c_dup2, c_goto, c_i2l, c_l2i, c_idiv, c_ldiv, c_lrem, c_lshl, c_gi, c_gl, c_gr, c_pi, c_pz, c_pl, c_iald, c_lald, c_bald, c_aald, c_iast, c_last, c_bast, c_callV, c_callS, c_mmax, c_mmin, c_mabs, c_mmaxl, c_mabsl, c_iret, c_zret, c_lret, c_vret, c_tsw, c_lsw, c_icmp_eq, c_icmp_ne, c_icmp_lt, c_icmp_ge, c_icmp_gt, c_icmp_le, c_if_eq, c_if_ne, c_if_lt, c_if_ge, c_if_gt, c_if_le, c_lcmp_eq, c_lcmp_ne, c_lcmp_lt, c_lcmp_ge, c_lcmp_gt, c_lcmp_le, c_lraw_eq, c_lraw_lt, c_lraw_ge, c_lraw_gt, c_lraw_le, acat, scat, tswP, pops, st1, st2, klo, pad, elo, List.getElem?_cons_zero, List.getElem?_cons_succ, List.getElem?_nil, List.set_cons_zero, List.set_cons_succ, List.set_nil, Option.toList_some, Option.toList_none, List.cons_append, List.nil_append, List.length_cons, List.length_nil, stc_ap, stm_ap, false_and, and_false, and_self, true_and, and_true, Nat.reduceEqDiff, reduceIte, al_12, al_13, al_14, al_15, al_16, al_17, al_18, al_19, al_20, al_21, al_22, al_23, al_24, al_25, al_26, al_27, al_28, al_29, al_30, al_31, al_32, al_33, al_34, al_35, al_36, al_37, al_38, al_39, al_40, al_41, al_42, al_43, al_44, al_45, al_46, al_47, al_48, al_49, al_50, al_51, al_52, al_53, al_54, al_55, at_12, at_13, at_14, at_15, at_16, at_17, at_18, at_19, at_20, at_21, at_22, at_23, at_24, at_25, at_26, at_27, at_28, at_29, at_30, at_31, at_32, at_33, at_34, at_35, at_36, at_37, at_38, at_39, at_40, at_41, at_42, at_43, at_44, at_45, at_46, at_47, at_48, at_49, at_50, at_51, at_52, at_53, at_54, at_55, cn_0, cn_1, cn_2, cn_3, cn_4, cn_5, cn_6, cn_7, cn_8, cn_9, cn_10, cn_11, cn_12, cn_13, cn_14, cn_15, cn_16, cn_17, cn_18, cn_19, cn_20, cn_21, cn_22, cn_23, cn_24, cn_25, cn_26, cn_27, cn_28, cn_29, cn_30, cn_31, cn_32, cn_33, cn_34, cn_35, cn_36, cn_37, cn_38, cn_39, cn_40, cn_41, cn_42, cn_43, cn_44, cn_45, cn_46, cn_47, cn_48, cn_49, cn_50, cn_51, cn_52, cn_53, cn_54, cn_55, Nat.reduceAdd, Nat.reduceLT, Nat.reduceLeDiff, Nat.lt_add_one, Nat.zero_lt_succ, Nat.reduceSub, ite_true, ite_false, reduceCtorEq, forall_const, Nat.reduceSucc, Nat.zero_add, Nat.add_zero, Nat.le_refl, Nat.zero_le, Nat.reducePow, Int.reduceNeg, Nat.reduceMul, eq_self, Int.cast_ofNat_Int, Int.toNat_natCast, iR, lR, Int.reduceEq, Int.reduceLT, Int.reduceLE, Int.reduceNe, not_false_eq_true, not_true_eq_false, false_implies, true_implies, Int.reduceAdd, Int.reduceSub, Int.reduceMul, Int.reduceToNat, implies_true, or_true, true_or, or_false, false_or]
      exact law_loop hl (by decide) 512 _ CL LL 0 _ (INV_start f10 f11) (by omega) (by omega)
    intro H locs ls hV hS hlv
    have q := run H locs ls (wq_wl (Rf_start f10 f11) h70 hV.2.2) hS hlv
    have e70 : nof (nw M2 55 0) = 70 := by unfold nof; rw [h70]; rfl
    have e0 : sls 0 = 0 := rfl
    rw [e70, e0]
    exact q
  have hlv := lv_entry ([Value.ref b]) (n := 8) (Nat.le_of_ble_eq_true rfl)
  rw [lg_entry_eq]
  have q := go s.heap [] _ ⟨Nat.le_refl _, Nat.le_refl _, fun k z h => by simp [wq, nof] at h⟩ va_S.rf ⟨hlv.1, hlv.2.1, fun i v h => hlv.2.2 (i, cv ad v) (by
    have := elo_args ad [zr 56 0] 0 i v (pad_at h)
    rw [Nat.zero_add] at this
    simp only [List.map, cv, h56] at this
    exact this)⟩
  exact q
