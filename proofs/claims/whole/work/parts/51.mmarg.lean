/-! CloudBenchModel.margins -/
theorem phM_0 (o c0 : Int) : phM 0 o c0 = fun _ v => v := by
  funext fx v
  unfold phM
  rw [if_pos rfl]
theorem phM_W {w : Int} (h : 2 ≤ w ∧ w ≤ 5) (o c0 : Int) : phM w o c0 = phW w o c0 := by
  funext fx v
  unfold phM phW
  rw [if_neg (by omega)]
  rcases (show w = 2 ∨ w = 3 ∨ w = 4 ∨ w = 5 by omega) with e | e | e | e
  · subst e; rfl
  · subst e; rfl
  · subst e; rfl
  · subst e; rfl
theorem owF_n {M : Mm} (h : GI M) : owF (M 13 0) 4 = owF (M 13 0) (M 1 0 5).toNat := by
  obtain ⟨⟨hr, hc⟩, h0, -, -, h5⟩ := h
  have key : ∀ j : Nat, j < 4 → M 1 0 5 ≤ j → owF (M 13 0) (j + 1) = owF (M 13 0) j := by
    intro j hj hn
    show owF (M 13 0) j * tri (clF (M 13 0) j) (M 13 0 j) (M 13 0 (4 + j)) = _
    have e0 := h5 0 j (by decide) hj (Or.inr hn)
    have e1 := h5 1 j (by decide) hj (Or.inr hn)
    have e2 := h5 2 j (by decide) hj (Or.inr hn)
    rw [show 4 * 0 + j = j by omega] at e0
    rw [show 4 * 1 + j = 4 + j by omega] at e1
    rw [show 4 * 2 + j = 8 + j by omega] at e2
    rw [clF_3, e0, e1, e2, show (0 : Int) + 0 + 0 = 0 from rfl, show tri 0 0 0 = 1 by decide, Int.mul_one]
  rcases (show M 1 0 5 = 2 ∨ M 1 0 5 = 3 ∨ M 1 0 5 = 4 by omega) with e | e | e
  · rw [e]; exact (key 3 (by decide) (by omega)).trans (key 2 (by decide) (by omega))
  · rw [e]; exact key 3 (by decide) (by omega)
  · rw [e]; rfl
def T_X11_margins : Ct := fun as M P => match as with
  | [.inr (some (g, s)), .inl (.inl w)] => g = 11 ∧ s = 0 ∧ iR w ∧ GI M ∧ GE M ∧ CE M ∧ ∀ M' : Mm, (∀ g' : Nat, ¬ g' = 11 → ¬ g' = 47 → ¬ g' = 48 → ¬ g' = 49 → ¬ g' = 50 → M' g' = M g') → M' 11 = (stm M 11 0 2 0) 11 → P (some (zl (figF (M 13 0) (M 1 0 5).toNat w))) M'
  | _ => False
set_option maxRecDepth 100000 in
theorem k_X11_margins (l : Launch) : MetT l yX11_margins cX11_margins 12 (some .long) 1 T_X11_margins := by
  refine MetT.of (by decide +kernel) (fun as M P h => by unfold T_X11_margins at h; split at h <;> first | (simp [elo]; done) | exact h.elim) (fun x as M P h C hR => ?_)
  unfold T_X11_margins at h
  split at h
  rotate_left
  · exact h.elim
  rename_i g s w
  obtain ⟨rfl, rfl, hw, hG, hE, hCE, hP⟩ := h
  obtain ⟨⟨hr, hc⟩, h0, h6, h40, h5⟩ := id hG
  obtain ⟨hE1, hE2, hE3⟩ := hE
  have hsum := GI_sum hG
  have hon := owF_n hG
  obtain ⟨n, hn⟩ : ∃ n : Nat, M 1 0 5 = n := ⟨(M 1 0 5).toNat, by omega⟩
  have hnn : (M 1 0 5).toNat = n := by omega
  rw [hnn] at hP hsum hon
  generalize hf : M 13 0 = f at *
  refine B_X11_margins_0 C hR _ _ _ ?_
  simp only [c_iadd, c_isub, c_imul, c_ladd, c_lsub, c_lmul, c_ineg, c_lneg, c_ic, c_lc, c_iload, c_lload, c_aload, c_istore, c_astore, c_lstore, c_iinc, c_dup, c_dup2, c_goto, c_i2l, c_l2i, c_idiv, c_ldiv, c_lrem, c_lshl, c_gi, c_gl, c_gr, c_pi, c_pz, c_pl, c_iald, c_lald, c_bald, c_aald, c_iast, c_last, c_bast, c_callV, c_callS, c_mmax, c_mmin, c_mabs, c_mmaxl, c_mabsl, c_iret, c_zret, c_lret, c_vret, c_tsw, c_lsw, c_icmp_eq, c_icmp_ne, c_icmp_lt, c_icmp_ge, c_icmp_gt, c_icmp_le, c_if_eq, c_if_ne, c_if_lt, c_if_ge, c_if_gt, c_if_le, c_lcmp_eq, c_lcmp_ne, c_lcmp_lt, c_lcmp_ge, c_lcmp_gt, c_lcmp_le, c_lraw_eq, c_lraw_lt, c_lraw_ge, c_lraw_gt, c_lraw_le, acat, scat, tswP, pops, st1, st2, klo, pad, elo, List.getElem?_cons_zero, List.getElem?_cons_succ, List.getElem?_nil, List.set_cons_zero, List.set_cons_succ, List.set_nil, Option.toList_some, Option.toList_none, List.cons_append, List.nil_append, List.length_cons, List.length_nil, stc_ap, stm_ap, false_and, and_false, and_self, true_and, and_true, Nat.reduceEqDiff, reduceIte, al_12, al_13, al_14, al_15, al_16, al_17, al_18, al_19, al_20, al_21, al_22, al_23, al_24, al_25, al_26, al_27, al_28, al_29, al_30, al_31, al_32, al_33, al_34, al_35, al_36, al_37, al_38, al_39, al_40, al_41, al_42, al_43, al_44, al_45, al_46, al_47, al_48, al_49, al_50, al_51, al_52, al_53, al_54, al_55, at_12, at_13, at_14, at_15, at_16, at_17, at_18, at_19, at_20, at_21, at_22, at_23, at_24, at_25, at_26, at_27, at_28, at_29, at_30, at_31, at_32, at_33, at_34, at_35, at_36, at_37, at_38, at_39, at_40, at_41, at_42, at_43, at_44, at_45, at_46, at_47, at_48, at_49, at_50, at_51, at_52, at_53, at_54, at_55, cn_0, cn_1, cn_2, cn_3, cn_4, cn_5, cn_6, cn_7, cn_8, cn_9, cn_10, cn_11, cn_12, cn_13, cn_14, cn_15, cn_16, cn_17, cn_18, cn_19, cn_20, cn_21, cn_22, cn_23, cn_24, cn_25, cn_26, cn_27, cn_28, cn_29, cn_30, cn_31, cn_32, cn_33, cn_34, cn_35, cn_36, cn_37, cn_38, cn_39, cn_40, cn_41, cn_42, cn_43, cn_44, cn_45, cn_46, cn_47, cn_48, cn_49, cn_50, cn_51, cn_52, cn_53, cn_54, cn_55, Nat.reduceAdd, Nat.reduceLT, Nat.reduceLeDiff, Nat.lt_add_one, Nat.zero_lt_succ, Nat.reduceSub, ite_true, ite_false, reduceCtorEq, forall_const, Nat.reduceSucc, Nat.zero_add, Nat.add_zero, Nat.le_refl, Nat.zero_le, Nat.reducePow, Int.reduceNeg, Nat.reduceMul, eq_self, Int.cast_ofNat_Int, Int.toNat_natCast, iR, lR, Int.reduceEq, Int.reduceLT, Int.reduceLE, Int.reduceNe, not_false_eq_true, not_true_eq_false, false_implies, true_implies, Int.reduceAdd, Int.reduceSub, Int.reduceMul, Int.reduceToNat, implies_true, or_true, true_or, or_false, false_or]
  generalize hM0 : stm M 11 0 2 0 = M0 at hP ⊢
  have o46 : M0 46 = M 46 := by rw [← hM0]; exact stm_ne _ _ _ _ _ (by decide)
  have h46 : ∀ j, j < 12 → M0 46 0 j = f j := fun j hj => by rw [o46]; exact hE3 j hj
  have h26 : M0 11 0 26 = M 1 0 4 := by rw [← hM0]; exact hE1
  have h27 : M0 11 0 27 = n := by rw [← hM0]; exact hE2.trans hn
  have hC0 : CE M0 := CE_cg (by rw [← hM0]; exact stm_ne _ _ _ _ _ (by decide)) hCE
  have hP : ∀ F S L D : Nat → Int, P (some (zl (figF f n w))) (mst M0 F S L D) := fun F S L D => hP _ (fun g' a1 a2 a3 a4 a5 => by rw [mst_o M0 F S L D a2 a3 a4 a5, ← hM0, stm_ne _ _ _ _ _ a1]) (by rw [mst_r11])
  have hzr : ∀ r : Nat, r < 3 → M 1 0 4 ≤ r → ∀ t : Nat, t < 4 → f (4 * r + t) = 0 := fun r a b t ht => h5 r t a ht (Or.inl b)
  have hN1 : ¬ (0 ≤ w ∧ w ≤ 5) → P (some (zl (-1))) M0 := fun z => by
    have := hP (M0 47 0) (M0 48 0) (M0 49 0) (M0 50 0)
    rw [← mst_id] at this
    unfold figF at this
    rw [if_neg (by omega), if_neg (by omega), if_neg (by omega)] at this
    exact this
  refine ⟨hw, fun z => hN1 (by omega), fun z => ⟨hw, fun z2 => ?_, fun z2 => hN1 (by omega)⟩⟩
  rw [mst_id M0]
  generalize M0 47 0 = F0
  generalize M0 48 0 = S0
  generalize M0 50 0 = D0
  -- the rows' sums
  refine loopU 3 (fun r M' => (0 ≤ r ∧ r ≤ 3) ∧ ∃ L : Nat → Int, M' = mst M0 F0 S0 L D0 ∧ ∀ j : Nat, (j : Int) < r → L j = sm (fun t => f (4 * j + t)) n) (fun r M' => J x 23 [some (zr 11 0), some (zi w), some (zl 1), none, some (zi r), none, none, none, none, none, none, none] [] M') ?_ 0 _ ⟨by omega, _, rfl, fun j hj => by omega⟩
  rintro r M' ⟨hr0, L, rfl, hL⟩ ih
  refine B_X11_margins_23 C _ _ _ ?_
  simp only [c_iadd, c_isub, c_imul, c_ladd, c_lsub, c_lmul, c_ineg, c_lneg, c_ic, c_lc, c_iload, c_lload, c_aload, c_istore, c_astore, c_lstore, c_iinc, c_dup, c_dup2, c_goto, c_i2l, c_l2i, c_idiv, c_ldiv, c_lrem, c_lshl, c_gi, c_gl, c_gr, c_pi, c_pz, c_pl, c_iald, c_lald, c_bald, c_aald, c_iast, c_last, c_bast, c_callV, c_callS, c_mmax, c_mmin, c_mabs, c_mmaxl, c_mabsl, c_iret, c_zret, c_lret, c_vret, c_tsw, c_lsw, c_icmp_eq, c_icmp_ne, c_icmp_lt, c_icmp_ge, c_icmp_gt, c_icmp_le, c_if_eq, c_if_ne, c_if_lt, c_if_ge, c_if_gt, c_if_le, c_lcmp_eq, c_lcmp_ne, c_lcmp_lt, c_lcmp_ge, c_lcmp_gt, c_lcmp_le, c_lraw_eq, c_lraw_lt, c_lraw_ge, c_lraw_gt, c_lraw_le, acat, scat, tswP, pops, st1, st2, klo, pad, elo, List.getElem?_cons_zero, List.getElem?_cons_succ, List.getElem?_nil, List.set_cons_zero, List.set_cons_succ, List.set_nil, Option.toList_some, Option.toList_none, List.cons_append, List.nil_append, List.length_cons, List.length_nil, stc_ap, stm_ap, false_and, and_false, and_self, true_and, and_true, Nat.reduceEqDiff, reduceIte, al_12, al_13, al_14, al_15, al_16, al_17, al_18, al_19, al_20, al_21, al_22, al_23, al_24, al_25, al_26, al_27, al_28, al_29, al_30, al_31, al_32, al_33, al_34, al_35, al_36, al_37, al_38, al_39, al_40, al_41, al_42, al_43, al_44, al_45, al_46, al_47, al_48, al_49, al_50, al_51, al_52, al_53, al_54, al_55, at_12, at_13, at_14, at_15, at_16, at_17, at_18, at_19, at_20, at_21, at_22, at_23, at_24, at_25, at_26, at_27, at_28, at_29, at_30, at_31, at_32, at_33, at_34, at_35, at_36, at_37, at_38, at_39, at_40, at_41, at_42, at_43, at_44, at_45, at_46, at_47, at_48, at_49, at_50, at_51, at_52, at_53, at_54, at_55, cn_0, cn_1, cn_2, cn_3, cn_4, cn_5, cn_6, cn_7, cn_8, cn_9, cn_10, cn_11, cn_12, cn_13, cn_14, cn_15, cn_16, cn_17, cn_18, cn_19, cn_20, cn_21, cn_22, cn_23, cn_24, cn_25, cn_26, cn_27, cn_28, cn_29, cn_30, cn_31, cn_32, cn_33, cn_34, cn_35, cn_36, cn_37, cn_38, cn_39, cn_40, cn_41, cn_42, cn_43, cn_44, cn_45, cn_46, cn_47, cn_48, cn_49, cn_50, cn_51, cn_52, cn_53, cn_54, cn_55, Nat.reduceAdd, Nat.reduceLT, Nat.reduceLeDiff, Nat.lt_add_one, Nat.zero_lt_succ, Nat.reduceSub, ite_true, ite_false, reduceCtorEq, forall_const, Nat.reduceSucc, Nat.zero_add, Nat.add_zero, Nat.le_refl, Nat.zero_le, Nat.reducePow, Int.reduceNeg, Nat.reduceMul, eq_self, Int.cast_ofNat_Int, Int.toNat_natCast, iR, lR, Int.reduceEq, Int.reduceLT, Int.reduceLE, Int.reduceNe, not_false_eq_true, not_true_eq_false, false_implies, true_implies, Int.reduceAdd, Int.reduceSub, Int.reduceMul, Int.reduceToNat, implies_true, or_true, true_or, or_false, false_or, mst_49]
  refine ⟨by omega, fun z3 => ?_, fun z3 => ⟨by omega, ?_⟩⟩
  rotate_left
  · refine loopU n (fun c M' => (0 ≤ c ∧ c ≤ n) ∧ ∃ L : Nat → Int, M' = mst M0 F0 S0 L D0 ∧ L r.toNat = sm (fun t => f (4 * r.toNat + t)) c.toNat ∧ ∀ j : Nat, (j : Int) < r → L j = sm (fun t => f (4 * j + t)) n) (fun c M' => J x 40 [some (zr 11 0), some (zi w), some (zl 1), none, some (zi r), some (zi c), none, none, none, none, none, none] [] M') ?_ 0 _ ⟨by omega, _, rfl, by show (if r.toNat = r.toNat then 0 else _) = _; rw [if_pos rfl]; rfl, fun j hj => by show (if j = r.toNat then 0 else L j) = _; rw [if_neg (by omega)]; exact hL j hj⟩
    rintro c M' ⟨hc0, L, rfl, hLr, hL⟩ ih2
    have h82 : ∀ v : Int, c < n → v = f (4 * r.toNat + c.toNat) → J x 82 [some (zr 11 0), some (zi w), some (zl 1), none, some (zi r), some (zi c), none, none, none, none, none, none] [zi v, zi (L r.toNat), zi r, zr 49 0] (mst M0 F0 S0 L D0) := by
      intro v hlt hv
      refine B_X11_margins_82 C _ _ _ ?_
      simp only [c_iadd, c_isub, c_imul, c_ladd, c_lsub, c_lmul, c_ineg, c_lneg, c_ic, c_lc, c_iload, c_lload, c_aload, c_istore, c_astore, c_lstore, c_iinc, c_dup, c_dup2, c_goto, c_i2l, c_l2i, c_idiv, c_ldiv, c_lrem, c_lshl, c_gi, c_gl, c_gr, c_pi, c_pz, c_pl, c_iald, c_lald, c_bald, c_aald, c_iast, c_last, c_bast, c_callV, c_callS, c_mmax, c_mmin, c_mabs, c_mmaxl, c_mabsl, c_iret, c_zret, c_lret, c_vret, c_tsw, c_lsw, c_icmp_eq, c_icmp_ne, c_icmp_lt, c_icmp_ge, c_icmp_gt, c_icmp_le, c_if_eq, c_if_ne, c_if_lt, c_if_ge, c_if_gt, c_if_le, c_lcmp_eq, c_lcmp_ne, c_lcmp_lt, c_lcmp_ge, c_lcmp_gt, c_lcmp_le, c_lraw_eq, c_lraw_lt, c_lraw_ge, c_lraw_gt, c_lraw_le, acat, scat, tswP, pops, st1, st2, klo, pad, elo, List.getElem?_cons_zero, List.getElem?_cons_succ, List.getElem?_nil, List.set_cons_zero, List.set_cons_succ, List.set_nil, Option.toList_some, Option.toList_none, List.cons_append, List.nil_append, List.length_cons, List.length_nil, stc_ap, stm_ap, false_and, and_false, and_self, true_and, and_true, Nat.reduceEqDiff, reduceIte, al_12, al_13, al_14, al_15, al_16, al_17, al_18, al_19, al_20, al_21, al_22, al_23, al_24, al_25, al_26, al_27, al_28, al_29, al_30, al_31, al_32, al_33, al_34, al_35, al_36, al_37, al_38, al_39, al_40, al_41, al_42, al_43, al_44, al_45, al_46, al_47, al_48, al_49, al_50, al_51, al_52, al_53, al_54, al_55, at_12, at_13, at_14, at_15, at_16, at_17, at_18, at_19, at_20, at_21, at_22, at_23, at_24, at_25, at_26, at_27, at_28, at_29, at_30, at_31, at_32, at_33, at_34, at_35, at_36, at_37, at_38, at_39, at_40, at_41, at_42, at_43, at_44, at_45, at_46, at_47, at_48, at_49, at_50, at_51, at_52, at_53, at_54, at_55, cn_0, cn_1, cn_2, cn_3, cn_4, cn_5, cn_6, cn_7, cn_8, cn_9, cn_10, cn_11, cn_12, cn_13, cn_14, cn_15, cn_16, cn_17, cn_18, cn_19, cn_20, cn_21, cn_22, cn_23, cn_24, cn_25, cn_26, cn_27, cn_28, cn_29, cn_30, cn_31, cn_32, cn_33, cn_34, cn_35, cn_36, cn_37, cn_38, cn_39, cn_40, cn_41, cn_42, cn_43, cn_44, cn_45, cn_46, cn_47, cn_48, cn_49, cn_50, cn_51, cn_52, cn_53, cn_54, cn_55, Nat.reduceAdd, Nat.reduceLT, Nat.reduceLeDiff, Nat.lt_add_one, Nat.zero_lt_succ, Nat.reduceSub, ite_true, ite_false, reduceCtorEq, forall_const, Nat.reduceSucc, Nat.zero_add, Nat.add_zero, Nat.le_refl, Nat.zero_le, Nat.reducePow, Int.reduceNeg, Nat.reduceMul, eq_self, Int.cast_ofNat_Int, Int.toNat_natCast, iR, lR, Int.reduceEq, Int.reduceLT, Int.reduceLE, Int.reduceNe, not_false_eq_true, not_true_eq_false, false_implies, true_implies, Int.reduceAdd, Int.reduceSub, Int.reduceMul, Int.reduceToNat, implies_true, or_true, true_or, or_false, false_or, mst_49]
      refine ⟨by omega, ih2 hlt _ ⟨by omega, _, rfl, ?_, fun j hj => ?_⟩⟩
      · show (if r.toNat = r.toNat then _ else _) = _
        rw [if_pos rfl, hLr, hv, show (c + 1).toNat = c.toNat + 1 by omega, sm_s]
      · show (if j = r.toNat then _ else L j) = _
        rw [if_neg (by omega)]
        exact hL j hj
    refine B_X11_margins_40 C _ _ _ ?_
    simp only [c_iadd, c_isub, c_imul, c_ladd, c_lsub, c_lmul, c_ineg, c_lneg, c_ic, c_lc, c_iload, c_lload, c_aload, c_istore, c_astore, c_lstore, c_iinc, c_dup, c_dup2, c_goto, c_i2l, c_l2i, c_idiv, c_ldiv, c_lrem, c_lshl, c_gi, c_gl, c_gr, c_pi, c_pz, c_pl, c_iald, c_lald, c_bald, c_aald, c_iast, c_last, c_bast, c_callV, c_callS, c_mmax, c_mmin, c_mabs, c_mmaxl, c_mabsl, c_iret, c_zret, c_lret, c_vret, c_tsw, c_lsw, c_icmp_eq, c_icmp_ne, c_icmp_lt, c_icmp_ge, c_icmp_gt, c_icmp_le, c_if_eq, c_if_ne, c_if_lt, c_if_ge, c_if_gt, c_if_le, c_lcmp_eq, c_lcmp_ne, c_lcmp_lt, c_lcmp_ge, c_lcmp_gt, c_lcmp_le, c_lraw_eq, c_lraw_lt, c_lraw_ge, c_lraw_gt, c_lraw_le, acat, scat, tswP, pops, st1, st2, klo, pad, elo, List.getElem?_cons_zero, List.getElem?_cons_succ, List.getElem?_nil, List.set_cons_zero, List.set_cons_succ, List.set_nil, Option.toList_some, Option.toList_none, List.cons_append, List.nil_append, List.length_cons, List.length_nil, stc_ap, stm_ap, false_and, and_false, and_self, true_and, and_true, Nat.reduceEqDiff, reduceIte, al_12, al_13, al_14, al_15, al_16, al_17, al_18, al_19, al_20, al_21, al_22, al_23, al_24, al_25, al_26, al_27, al_28, al_29, al_30, al_31, al_32, al_33, al_34, al_35, al_36, al_37, al_38, al_39, al_40, al_41, al_42, al_43, al_44, al_45, al_46, al_47, al_48, al_49, al_50, al_51, al_52, al_53, al_54, al_55, at_12, at_13, at_14, at_15, at_16, at_17, at_18, at_19, at_20, at_21, at_22, at_23, at_24, at_25, at_26, at_27, at_28, at_29, at_30, at_31, at_32, at_33, at_34, at_35, at_36, at_37, at_38, at_39, at_40, at_41, at_42, at_43, at_44, at_45, at_46, at_47, at_48, at_49, at_50, at_51, at_52, at_53, at_54, at_55, cn_0, cn_1, cn_2, cn_3, cn_4, cn_5, cn_6, cn_7, cn_8, cn_9, cn_10, cn_11, cn_12, cn_13, cn_14, cn_15, cn_16, cn_17, cn_18, cn_19, cn_20, cn_21, cn_22, cn_23, cn_24, cn_25, cn_26, cn_27, cn_28, cn_29, cn_30, cn_31, cn_32, cn_33, cn_34, cn_35, cn_36, cn_37, cn_38, cn_39, cn_40, cn_41, cn_42, cn_43, cn_44, cn_45, cn_46, cn_47, cn_48, cn_49, cn_50, cn_51, cn_52, cn_53, cn_54, cn_55, Nat.reduceAdd, Nat.reduceLT, Nat.reduceLeDiff, Nat.lt_add_one, Nat.zero_lt_succ, Nat.reduceSub, ite_true, ite_false, reduceCtorEq, forall_const, Nat.reduceSucc, Nat.zero_add, Nat.add_zero, Nat.le_refl, Nat.zero_le, Nat.reducePow, Int.reduceNeg, Nat.reduceMul, eq_self, Int.cast_ofNat_Int, Int.toNat_natCast, iR, lR, Int.reduceEq, Int.reduceLT, Int.reduceLE, Int.reduceNe, not_false_eq_true, not_true_eq_false, false_implies, true_implies, Int.reduceAdd, Int.reduceSub, Int.reduceMul, Int.reduceToNat, implies_true, or_true, true_or, or_false, false_or, mst_r49, mst_r46, mst_r11, h26, h27]
    refine ⟨by omega, by omega, fun z4 => ?_, fun z4 => ⟨by omega, by omega, by omega, fun z5 => h82 _ (by omega) ?_, fun z5 => ⟨by omega, h82 _ (by omega) ?_⟩⟩⟩
    · refine J_fgt [true, true, true, true, true, false, true, true, true, true, true, true] (ih (by omega) _ ⟨by omega, L, rfl, fun j hj => ?_⟩)
      by_cases e : j = r.toNat
      · rw [e, hLr, show c.toNat = n by omega]
      · exact hL j (by omega)
    · exact (hzr r.toNat (by omega) (by omega) c.toNat (by omega)).symm
    · rw [show (4 * r + c).toNat = 4 * r.toNat + c.toNat by omega]
      exact h46 _ (by omega)
  have hL : ∀ j : Nat, j < 3 → L j = rsF f j := fun j hj => by
    rw [hL j (by omega)]
    exact (sm_ext (by omega) fun t a b => h5 j t hj b (Or.inr (by omega))).symm
  clear ih
  -- the own ways
  suffices hh : ∀ (c : Int) (M' : Mm), (M' = mst M0 F0 S0 L D0 ∧ (0 ≤ c ∧ c ≤ n)) → J x 99 [some (zr 11 0), some (zi w), some (zl (owF f c.toNat)), none, some (zi c), none, none, none, none, none, none, none] [] M' by
    exact hh 0 _ ⟨rfl, by omega⟩
  refine loopU n _ _ ?_
  rintro c M' ⟨rfl, hc0⟩ ih
  have h148 : ∀ v : Int, c < n → v = f (8 + c.toNat) → J x 148 [some (zr 11 0), some (zi w), some (zl (owF f c.toNat)), none, some (zi c), none, none, none, none, none, none, none] [zi v, zi (f (4 + c.toNat)), zi (f c.toNat), zr 11 0, zl (owF f c.toNat)] (mst M0 F0 S0 L D0) := by
    intro v hlt hv
    refine B_X11_margins_148 C (k_X11_put_ l) (by decide) _ _ _ ?_
    simp only [c_iadd, c_isub, c_imul, c_ladd, c_lsub, c_lmul, c_ineg, c_lneg, c_ic, c_lc, c_iload, c_lload, c_aload, c_istore, c_astore, c_lstore, c_iinc, c_dup, c_dup2, c_goto, c_i2l, c_l2i, c_idiv, c_ldiv, c_lrem, c_lshl, c_gi, c_gl, c_gr, c_pi, c_pz, c_pl, c_iald, c_lald, c_bald, c_aald, c_iast, c_last, c_bast, c_callV, c_callS, c_mmax, c_mmin, c_mabs, c_mmaxl, c_mabsl, c_iret, c_zret, c_lret, c_vret, c_tsw, c_lsw, c_icmp_eq, c_icmp_ne, c_icmp_lt, c_icmp_ge, c_icmp_gt, c_icmp_le, c_if_eq, c_if_ne, c_if_lt, c_if_ge, c_if_gt, c_if_le, c_lcmp_eq, c_lcmp_ne, c_lcmp_lt, c_lcmp_ge, c_lcmp_gt, c_lcmp_le, c_lraw_eq, c_lraw_lt, c_lraw_ge, c_lraw_gt, c_lraw_le, acat, scat, tswP, pops, st1, st2, klo, pad, elo, List.getElem?_cons_zero, List.getElem?_cons_succ, List.getElem?_nil, List.set_cons_zero, List.set_cons_succ, List.set_nil, Option.toList_some, Option.toList_none, List.cons_append, List.nil_append, List.length_cons, List.length_nil, stc_ap, stm_ap, false_and, and_false, and_self, true_and, and_true, Nat.reduceEqDiff, reduceIte, al_12, al_13, al_14, al_15, al_16, al_17, al_18, al_19, al_20, al_21, al_22, al_23, al_24, al_25, al_26, al_27, al_28, al_29, al_30, al_31, al_32, al_33, al_34, al_35, al_36, al_37, al_38, al_39, al_40, al_41, al_42, al_43, al_44, al_45, al_46, al_47, al_48, al_49, al_50, al_51, al_52, al_53, al_54, al_55, at_12, at_13, at_14, at_15, at_16, at_17, at_18, at_19, at_20, at_21, at_22, at_23, at_24, at_25, at_26, at_27, at_28, at_29, at_30, at_31, at_32, at_33, at_34, at_35, at_36, at_37, at_38, at_39, at_40, at_41, at_42, at_43, at_44, at_45, at_46, at_47, at_48, at_49, at_50, at_51, at_52, at_53, at_54, at_55, cn_0, cn_1, cn_2, cn_3, cn_4, cn_5, cn_6, cn_7, cn_8, cn_9, cn_10, cn_11, cn_12, cn_13, cn_14, cn_15, cn_16, cn_17, cn_18, cn_19, cn_20, cn_21, cn_22, cn_23, cn_24, cn_25, cn_26, cn_27, cn_28, cn_29, cn_30, cn_31, cn_32, cn_33, cn_34, cn_35, cn_36, cn_37, cn_38, cn_39, cn_40, cn_41, cn_42, cn_43, cn_44, cn_45, cn_46, cn_47, cn_48, cn_49, cn_50, cn_51, cn_52, cn_53, cn_54, cn_55, Nat.reduceAdd, Nat.reduceLT, Nat.reduceLeDiff, Nat.lt_add_one, Nat.zero_lt_succ, Nat.reduceSub, ite_true, ite_false, reduceCtorEq, forall_const, Nat.reduceSucc, Nat.zero_add, Nat.add_zero, Nat.le_refl, Nat.zero_le, Nat.reducePow, Int.reduceNeg, Nat.reduceMul, eq_self, Int.cast_ofNat_Int, Int.toNat_natCast, iR, lR, Int.reduceEq, Int.reduceLT, Int.reduceLE, Int.reduceNe, not_false_eq_true, not_true_eq_false, false_implies, true_implies, Int.reduceAdd, Int.reduceSub, Int.reduceMul, Int.reduceToNat, implies_true, or_true, true_or, or_false, false_or, T_X11_put_]
    have b1 := h0 c.toNat (by omega)
    have b2 := h0 (4 + c.toNat) (by omega)
    have b3' := h0 (8 + c.toNat) (by omega)
    have b4 := (clF_in h0 (j := c.toNat) (by omega)).2.1
    have e3 := clF_3 f c.toNat
    refine ⟨CE_cg (mst_r33 _ _ _ _ _) hC0, by omega, ?_⟩
    have := ih hlt _ ⟨rfl, by omega⟩
    rw [show (c + 1).toNat = c.toNat + 1 by omega, show owF f (c.toNat + 1) = owF f c.toNat * tri (clF f c.toNat) (f c.toNat) (f (4 + c.toNat)) from rfl, e3] at this
    rw [hv]
    exact this
  have ho := owF_in h0 (j := 4) (by omega)
  rw [sm_clF] at ho
  have ho2 := b3_40 (n := sm f 12) (by omega)
  refine B_X11_margins_99 C hR _ _ _ ?_
  simp only [c_iadd, c_isub, c_imul, c_ladd, c_lsub, c_lmul, c_ineg, c_lneg, c_ic, c_lc, c_iload, c_lload, c_aload, c_istore, c_astore, c_lstore, c_iinc, c_dup, c_dup2, c_goto, c_i2l, c_l2i, c_idiv, c_ldiv, c_lrem, c_lshl, c_gi, c_gl, c_gr, c_pi, c_pz, c_pl, c_iald, c_lald, c_bald, c_aald, c_iast, c_last, c_bast, c_callV, c_callS, c_mmax, c_mmin, c_mabs, c_mmaxl, c_mabsl, c_iret, c_zret, c_lret, c_vret, c_tsw, c_lsw, c_icmp_eq, c_icmp_ne, c_icmp_lt, c_icmp_ge, c_icmp_gt, c_icmp_le, c_if_eq, c_if_ne, c_if_lt, c_if_ge, c_if_gt, c_if_le, c_lcmp_eq, c_lcmp_ne, c_lcmp_lt, c_lcmp_ge, c_lcmp_gt, c_lcmp_le, c_lraw_eq, c_lraw_lt, c_lraw_ge, c_lraw_gt, c_lraw_le, acat, scat, tswP, pops, st1, st2, klo, pad, elo, List.getElem?_cons_zero, List.getElem?_cons_succ, List.getElem?_nil, List.set_cons_zero, List.set_cons_succ, List.set_nil, Option.toList_some, Option.toList_none, List.cons_append, List.nil_append, List.length_cons, List.length_nil, stc_ap, stm_ap, false_and, and_false, and_self, true_and, and_true, Nat.reduceEqDiff, reduceIte, al_12, al_13, al_14, al_15, al_16, al_17, al_18, al_19, al_20, al_21, al_22, al_23, al_24, al_25, al_26, al_27, al_28, al_29, al_30, al_31, al_32, al_33, al_34, al_35, al_36, al_37, al_38, al_39, al_40, al_41, al_42, al_43, al_44, al_45, al_46, al_47, al_48, al_49, al_50, al_51, al_52, al_53, al_54, al_55, at_12, at_13, at_14, at_15, at_16, at_17, at_18, at_19, at_20, at_21, at_22, at_23, at_24, at_25, at_26, at_27, at_28, at_29, at_30, at_31, at_32, at_33, at_34, at_35, at_36, at_37, at_38, at_39, at_40, at_41, at_42, at_43, at_44, at_45, at_46, at_47, at_48, at_49, at_50, at_51, at_52, at_53, at_54, at_55, cn_0, cn_1, cn_2, cn_3, cn_4, cn_5, cn_6, cn_7, cn_8, cn_9, cn_10, cn_11, cn_12, cn_13, cn_14, cn_15, cn_16, cn_17, cn_18, cn_19, cn_20, cn_21, cn_22, cn_23, cn_24, cn_25, cn_26, cn_27, cn_28, cn_29, cn_30, cn_31, cn_32, cn_33, cn_34, cn_35, cn_36, cn_37, cn_38, cn_39, cn_40, cn_41, cn_42, cn_43, cn_44, cn_45, cn_46, cn_47, cn_48, cn_49, cn_50, cn_51, cn_52, cn_53, cn_54, cn_55, Nat.reduceAdd, Nat.reduceLT, Nat.reduceLeDiff, Nat.lt_add_one, Nat.zero_lt_succ, Nat.reduceSub, ite_true, ite_false, reduceCtorEq, forall_const, Nat.reduceSucc, Nat.zero_add, Nat.add_zero, Nat.le_refl, Nat.zero_le, Nat.reducePow, Int.reduceNeg, Nat.reduceMul, eq_self, Int.cast_ofNat_Int, Int.toNat_natCast, iR, lR, Int.reduceEq, Int.reduceLT, Int.reduceLE, Int.reduceNe, not_false_eq_true, not_true_eq_false, false_implies, true_implies, Int.reduceAdd, Int.reduceSub, Int.reduceMul, Int.reduceToNat, implies_true, or_true, true_or, or_false, false_or, mst_r46, mst_r11, h26, h27, mst_47, mst_48, mst_50]
  refine ⟨by omega, by omega, fun z4 => ⟨by omega, fun z5 => ?_, fun z5 => ?_⟩, fun z4 => ?_⟩
  · have hcn : c.toNat = n := by omega
    rw [hcn, ← hon]
    have hlv := mg_lv (l := l) (x := x) (M0 := M0) C hR (f := f) (n := n) (w := w) (own := owF f 4) hC0 h46 (by omega) (fun h j hj => hzr 2 (by decide) (by omega) j hj) h27 (by omega) h0 (by omega) (by omega) z5 (by omega) (n - 1)
    have rr := rsF_e f
    have bb := f12 h0
    refine hlv 0 (by omega) _ _ _ _ 0 (rsF f 0) (rsF f 1) (rsF f 2) 1 0 (hL 0 (by decide)) (hL 1 (by decide)) (hL 2 (by decide)) rfl rfl rfl (fun h => absurd rfl h) (by omega) (by rw [show n - 1 + 1 = n by omega, hsum.1]; exact hsum.2) ?_ (show (0 : Int) ≤ 1 ∧ (1 : Int) ≤ b3 0 by decide) (fun F' S' L' D' _ _ _ => ?_)
    · show 0 + (rsF f 0 + rsF f 1 + rsF f 2) ≤ 40
      omega
    · rw [show n - 1 + 1 = n by omega, Int.zero_add]
      refine B_X11_margins_193 C hR _ _ _ ?_
      simp only [c_iadd, c_isub, c_imul, c_ladd, c_lsub, c_lmul, c_ineg, c_lneg, c_ic, c_lc, c_iload, c_lload, c_aload, c_istore, c_astore, c_lstore, c_iinc, c_dup, c_dup2, c_goto, c_i2l, c_l2i, c_idiv, c_ldiv, c_lrem, c_lshl, c_gi, c_gl, c_gr, c_pi, c_pz, c_pl, c_iald, c_lald, c_bald, c_aald, c_iast, c_last, c_bast, c_callV, c_callS, c_mmax, c_mmin, c_mabs, c_mmaxl, c_mabsl, c_iret, c_zret, c_lret, c_vret, c_tsw, c_lsw, c_icmp_eq, c_icmp_ne, c_icmp_lt, c_icmp_ge, c_icmp_gt, c_icmp_le, c_if_eq, c_if_ne, c_if_lt, c_if_ge, c_if_gt, c_if_le, c_lcmp_eq, c_lcmp_ne, c_lcmp_lt, c_lcmp_ge, c_lcmp_gt, c_lcmp_le, c_lraw_eq, c_lraw_lt, c_lraw_ge, c_lraw_gt, c_lraw_le, acat, scat, tswP, pops, st1, st2, klo, pad, elo, List.getElem?_cons_zero, List.getElem?_cons_succ, List.getElem?_nil, List.set_cons_zero, List.set_cons_succ, List.set_nil, Option.toList_some, Option.toList_none, List.cons_append, List.nil_append, List.length_cons, List.length_nil, stc_ap, stm_ap, false_and, and_false, and_self, true_and, and_true, Nat.reduceEqDiff, reduceIte, al_12, al_13, al_14, al_15, al_16, al_17, al_18, al_19, al_20, al_21, al_22, al_23, al_24, al_25, al_26, al_27, al_28, al_29, al_30, al_31, al_32, al_33, al_34, al_35, al_36, al_37, al_38, al_39, al_40, al_41, al_42, al_43, al_44, al_45, al_46, al_47, al_48, al_49, al_50, al_51, al_52, al_53, al_54, al_55, at_12, at_13, at_14, at_15, at_16, at_17, at_18, at_19, at_20, at_21, at_22, at_23, at_24, at_25, at_26, at_27, at_28, at_29, at_30, at_31, at_32, at_33, at_34, at_35, at_36, at_37, at_38, at_39, at_40, at_41, at_42, at_43, at_44, at_45, at_46, at_47, at_48, at_49, at_50, at_51, at_52, at_53, at_54, at_55, cn_0, cn_1, cn_2, cn_3, cn_4, cn_5, cn_6, cn_7, cn_8, cn_9, cn_10, cn_11, cn_12, cn_13, cn_14, cn_15, cn_16, cn_17, cn_18, cn_19, cn_20, cn_21, cn_22, cn_23, cn_24, cn_25, cn_26, cn_27, cn_28, cn_29, cn_30, cn_31, cn_32, cn_33, cn_34, cn_35, cn_36, cn_37, cn_38, cn_39, cn_40, cn_41, cn_42, cn_43, cn_44, cn_45, cn_46, cn_47, cn_48, cn_49, cn_50, cn_51, cn_52, cn_53, cn_54, cn_55, Nat.reduceAdd, Nat.reduceLT, Nat.reduceLeDiff, Nat.lt_add_one, Nat.zero_lt_succ, Nat.reduceSub, ite_true, ite_false, reduceCtorEq, forall_const, Nat.reduceSucc, Nat.zero_add, Nat.add_zero, Nat.le_refl, Nat.zero_le, Nat.reducePow, Int.reduceNeg, Nat.reduceMul, eq_self, Int.cast_ofNat_Int, Int.toNat_natCast, iR, lR, Int.reduceEq, Int.reduceLT, Int.reduceLE, Int.reduceNe, not_false_eq_true, not_true_eq_false, false_implies, true_implies, Int.reduceAdd, Int.reduceSub, Int.reduceMul, Int.reduceToNat, implies_true, or_true, true_or, or_false, false_or]
      have := hP F' S' L' D'
      unfold figF at this
      by_cases e0 : w = 0
      · rw [if_pos e0] at this
        rw [e0, phM_0, TS_all (clF f) n 0 _ _ _ _ _ (fun j a b => (clF_in h0 (by omega)).1) (by omega) (by omega) (by omega) (by rw [hsum.1]; exact hsum.2), hsum.1, Int.one_mul]
        exact this
      · rw [if_neg e0, if_neg z5, if_pos (by omega)] at this
        rw [phM_W (by omega)]
        exact this
  · have := hP F0 S0 L D0
    unfold figF at this
    rw [if_neg (by omega), if_pos (by omega), hon] at this
    rw [show c.toNat = n by omega]
    exact this
  · rw [show (4 + c).toNat = 4 + c.toNat by omega, h46 _ (by omega), h46 _ (by omega)]
    refine ⟨by omega, by omega, by omega, fun z5 => h148 _ (by omega) ?_, fun z5 => ⟨by omega, h148 _ (by omega) ?_⟩⟩
    · exact (hzr 2 (by decide) (by omega) c.toNat (by omega)).symm
    · rw [show (8 + c).toNat = 8 + c.toNat by omega]
      exact h46 _ (by omega)
