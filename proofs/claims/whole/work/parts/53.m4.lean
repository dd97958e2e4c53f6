/-! CloudBenchModel: differences, noughts, the list of scores, what is counted -/
def dst (M : Mm) (f h : Nat → Int) (n z : Int) : Mm := stm (stm (stc (stc M 38 0 f) 40 0 h) 11 0 15 n) 11 0 18 z
theorem dst_38 (M : Mm) (f h : Nat → Int) (n z : Int) (k : Nat) (v : Int) : stm (dst M f h n z) 38 0 k v = dst M (fun j => if j = k then v else f j) h n z := by
  unfold dst
  rw [stm_cm _ 11 0 18 38 0 k z v (by decide), stm_cm _ 11 0 15 38 0 k n v (by decide), stc_cm _ 38 0 40 0 f h (by decide), stm_on, stc_cm _ 40 0 38 0 h _ (by decide)]
theorem dst_40 (M : Mm) (f h : Nat → Int) (n z : Int) (k : Nat) (v : Int) : stm (dst M f h n z) 40 0 k v = dst M f (fun j => if j = k then v else h j) n z := by
  unfold dst
  rw [stm_cm _ 11 0 18 40 0 k z v (by decide), stm_cm _ 11 0 15 40 0 k n v (by decide), stm_on]
theorem dst_15 (M : Mm) (f h : Nat → Int) (n z v : Int) : stm (dst M f h n z) 11 0 15 v = dst M f h v z := by
  unfold dst
  rw [stm_kc _ _ _ _ _ _ _ _ _ (by decide), stm_sm]
theorem dst_18 (M : Mm) (f h : Nat → Int) (n z v : Int) : stm (dst M f h n z) 11 0 18 v = dst M f h n v := by
  unfold dst
  rw [stm_sm]
theorem dst_r15 (M : Mm) (f h : Nat → Int) (n z : Int) : dst M f h n z 11 0 15 = n := rfl
theorem dst_r18 (M : Mm) (f h : Nat → Int) (n z : Int) : dst M f h n z 11 0 18 = z := rfl
theorem dst_o (M : Mm) (f h : Nat → Int) (n z : Int) {g : Nat} (h1 : ¬ g = 11) (h2 : ¬ g = 38) (h3 : ¬ g = 40) : dst M f h n z g = M g := by
  unfold dst
  rw [stm_ne _ _ _ _ _ h1, stm_ne _ _ _ _ _ h1, stc_ne _ _ _ _ h3, stc_ne _ _ _ _ h2]
theorem dst_r31 (M : Mm) (f h : Nat → Int) (n z : Int) : dst M f h n z 31 = M 31 := dst_o M f h n z (by decide) (by decide) (by decide)
theorem dst_r32 (M : Mm) (f h : Nat → Int) (n z : Int) : dst M f h n z 32 = M 32 := dst_o M f h n z (by decide) (by decide) (by decide)
theorem dst_r38 (M : Mm) (f h : Nat → Int) (n z : Int) : dst M f h n z 38 0 = f := by
  funext k; simp [dst, stm_ap, stc_ap]
theorem dst_r40 (M : Mm) (f h : Nat → Int) (n z : Int) : dst M f h n z 40 0 = h := by
  funext k; simp [dst, stm_ap, stc_ap]
theorem dst_11 (M : Mm) (f h : Nat → Int) (n z : Int) {k : Nat} (h1 : ¬ k = 15) (h2 : ¬ k = 18) : dst M f h n z 11 0 k = M 11 0 k := by
  unfold dst
  rw [stm_ap, if_neg (by omega), stm_ap, if_neg (by omega), stc_ne _ _ _ _ (by decide), stc_ne _ _ _ _ (by decide)]
/-- the sizes and the signs of the differences ds -/
def DK (ds : List Int) (f h : Nat → Int) : Prop := ∀ (q : Nat) (v : Int), ds[q]? = some v → f q = zab v ∧ h q = if 0 < v then 1 else 0
def T_X11_takeDifferences : Ct := fun as M P => match as with
  | [.inr (some (g, s)), .inl (.inl a), .inl (.inl b)] => g = 11 ∧ s = 0 ∧ (0 ≤ a ∧ a < 8) ∧ (0 ≤ b ∧ b < 8) ∧ M 8 a.toNat 1 = M 8 b.toNat 1 ∧ SI M ∧ SE M ∧ ∀ f h : Nat → Int, DK (nzl (dif M a.toNat b.toNat) (M 8 a.toNat 1).toNat) f h → P none (dst M f h (nzl (dif M a.toNat b.toNat) (M 8 a.toNat 1).toNat).length (M 8 a.toNat 1 - (nzl (dif M a.toNat b.toNat) (M 8 a.toNat 1).toNat).length))
  | _ => False
theorem k_X11_takeDifferences (l : Launch) : MetT l yX11_takeDifferences cX11_takeDifferences 5 none 0 T_X11_takeDifferences := by
  refine MetT.of (by decide +kernel) (fun as M P h => by unfold T_X11_takeDifferences at h; split at h <;> first | (simp [elo]; done) | exact h.elim) (fun x as M P h C hR => ?_)
  unfold T_X11_takeDifferences at h
  split at h
  rotate_left
  · exact h.elim
  rename_i g s a b
  obtain ⟨rfl, rfl, ha, hb, hab, hI, hE, hP⟩ := h
  have ia := hI a.toNat (by omega)
  have ib := hI b.toNat (by omega)
  have ea := hE.sz ha
  refine B_X11_takeDifferences_0 C _ _ _ ?_
  simp only [c_iadd, c_isub, c_imul, c_ladd, c_lsub, c_lmul, c_ineg, c_lneg, c_ic, c_lc, c_iload, c_lload, c_aload, c_istore, c_astore, c_lstore, c_iinc, c_dup, c_dup2, c_goto, c_i2l, c_l2i, c_idiv, c_ldiv, c_lrem, c_lshl, c_gi, c_gl, c_gr, c_pi, c_pz, c_pl, c_iald, c_lald, c_bald, c_aald, c_iast, c_last, c_bast, c_callV, c_callS, c_mmax, c_mmin, c_mabs, c_mmaxl, c_mabsl, c_iret, c_zret, c_lret, c_vret, c_tsw, c_lsw, c_icmp_eq, c_icmp_ne, c_icmp_lt, c_icmp_ge, c_icmp_gt, c_icmp_le, c_if_eq, c_if_ne, c_if_lt, c_if_ge, c_if_gt, c_if_le, c_lcmp_eq, c_lcmp_ne, c_lcmp_lt, c_lcmp_ge, c_lcmp_gt, c_lcmp_le, c_lraw_eq, c_lraw_lt, c_lraw_ge, c_lraw_gt, c_lraw_le, acat, scat, tswP, pops, st1, st2, klo, pad, elo, List.getElem?_cons_zero, List.getElem?_cons_succ, List.getElem?_nil, List.set_cons_zero, List.set_cons_succ, List.set_nil, Option.toList_some, Option.toList_none, List.cons_append, List.nil_append, List.length_cons, List.length_nil, stc_ap, stm_ap, false_and, and_false, and_self, true_and, and_true, Nat.reduceEqDiff, reduceIte, al_12, al_13, al_14, al_15, al_16, al_17, al_18, al_19, al_20, al_21, al_22, al_23, al_24, al_25, al_26, al_27, al_28, al_29, al_30, al_31, al_32, al_33, al_34, al_35, al_36, al_37, al_38, al_39, al_40, al_41, al_42, al_43, al_44, al_45, al_46, al_47, al_48, al_49, al_50, al_51, al_52, al_53, al_54, al_55, at_12, at_13, at_14, at_15, at_16, at_17, at_18, at_19, at_20, at_21, at_22, at_23, at_24, at_25, at_26, at_27, at_28, at_29, at_30, at_31, at_32, at_33, at_34, at_35, at_36, at_37, at_38, at_39, at_40, at_41, at_42, at_43, at_44, at_45, at_46, at_47, at_48, at_49, at_50, at_51, at_52, at_53, at_54, at_55, cn_0, cn_1, cn_2, cn_3, cn_4, cn_5, cn_6, cn_7, cn_8, cn_9, cn_10, cn_11, cn_12, cn_13, cn_14, cn_15, cn_16, cn_17, cn_18, cn_19, cn_20, cn_21, cn_22, cn_23, cn_24, cn_25, cn_26, cn_27, cn_28, cn_29, cn_30, cn_31, cn_32, cn_33, cn_34, cn_35, cn_36, cn_37, cn_38, cn_39, cn_40, cn_41, cn_42, cn_43, cn_44, cn_45, cn_46, cn_47, cn_48, cn_49, cn_50, cn_51, cn_52, cn_53, cn_54, cn_55, Nat.reduceAdd, Nat.reduceLT, Nat.reduceLeDiff, Nat.lt_add_one, Nat.zero_lt_succ, Nat.reduceSub, ite_true, ite_false, reduceCtorEq, forall_const, Nat.reduceSucc, Nat.zero_add, Nat.add_zero, Nat.le_refl, Nat.zero_le, Nat.reducePow, Int.reduceNeg, Nat.reduceMul, eq_self, Int.cast_ofNat_Int, Int.toNat_natCast, iR, lR, Int.reduceEq, Int.reduceLT, Int.reduceLE, Int.reduceNe, not_false_eq_true, not_true_eq_false, false_implies, true_implies, Int.reduceAdd, Int.reduceSub, Int.reduceMul, Int.reduceToNat, implies_true, or_true, true_or, or_false, false_or]
  refine loopU (M 8 a.toNat 1) (fun i M' => (0 ≤ i ∧ i ≤ M 8 a.toNat 1) ∧ ∃ f h : Nat → Int, M' = dst M f h (nzl (dif M a.toNat b.toNat) i.toNat).length (i - (nzl (dif M a.toNat b.toNat) i.toNat).length) ∧ DK (nzl (dif M a.toNat b.toNat) i.toNat) f h) (fun i M' => J x 12 [some (zr 11 0), some (zi a), some (zi b), some (zi i), none] [] M') ?_ 0 _ ⟨by omega, M 38 0, M 40 0, ?_, fun q v hq => by cases hq⟩
  rotate_left
  · unfold dst
    rw [stc_id, stc_id]
    rfl
  rintro i M' ⟨hi, f, h, rfl, hdk⟩ ih
  have hlen := nzl_len (dif M a.toNat b.toNat) i.toNat
  have hst : i < M 8 a.toNat 1 → nzl (dif M a.toNat b.toNat) (i + 1).toNat = if dif M a.toNat b.toNat i.toNat = 0 then nzl (dif M a.toNat b.toNat) i.toNat else nzl (dif M a.toNat b.toNat) i.toNat ++ [dif M a.toNat b.toNat i.toNat] := fun _ => by
    rw [show (i + 1).toNat = i.toNat + 1 by omega]
    rfl
  obtain ⟨ds, hds⟩ : ∃ ds : List Int, ds = nzl (dif M a.toNat b.toNat) i.toNat := ⟨_, rfl⟩
  rw [← hds] at hdk hlen hst ⊢
  have h116 : ∀ (f2 h2 : Nat → Int) (n2 z2 d : Int), i < M 8 a.toNat 1 → n2 = (nzl (dif M a.toNat b.toNat) (i + 1).toNat).length → z2 = i + 1 - (nzl (dif M a.toNat b.toNat) (i + 1).toNat).length → DK (nzl (dif M a.toNat b.toNat) (i + 1).toNat) f2 h2 → J x 116 [some (zr 11 0), some (zi a), some (zi b), some (zi i), some (zi d)] [] (dst M f2 h2 n2 z2) := by
    intro f2 h2 n2 z2 d hlt e1 e2 hd
    refine B_X11_takeDifferences_116 C _ _ _ ?_
    simp only [c_iadd, c_isub, c_imul, c_ladd, c_lsub, c_lmul, c_ineg, c_lneg, c_ic, c_lc, c_iload, c_lload, c_aload, c_istore, c_astore, c_lstore, c_iinc, c_dup, c_dup2, c_goto, c_i2l, c_l2i, c_idiv, c_ldiv, c_lrem, c_lshl, c_gi, c_gl, c_gr, c_pi, c_pz, c_pl, c_iald, c_lald, c_bald, c_aald, c_iast, c_last, c_bast, c_callV, c_callS, c_mmax, c_mmin, c_mabs, c_mmaxl, c_mabsl, c_iret, c_zret, c_lret, c_vret, c_tsw, c_lsw, c_icmp_eq, c_icmp_ne, c_icmp_lt, c_icmp_ge, c_icmp_gt, c_icmp_le, c_if_eq, c_if_ne, c_if_lt, c_if_ge, c_if_gt, c_if_le, c_lcmp_eq, c_lcmp_ne, c_lcmp_lt, c_lcmp_ge, c_lcmp_gt, c_lcmp_le, c_lraw_eq, c_lraw_lt, c_lraw_ge, c_lraw_gt, c_lraw_le, acat, scat, tswP, pops, st1, st2, klo, pad, elo, List.getElem?_cons_zero, List.getElem?_cons_succ, List.getElem?_nil, List.set_cons_zero, List.set_cons_succ, List.set_nil, Option.toList_some, Option.toList_none, List.cons_append, List.nil_append, List.length_cons, List.length_nil, stc_ap, stm_ap, false_and, and_false, and_self, true_and, and_true, Nat.reduceEqDiff, reduceIte, al_12, al_13, al_14, al_15, al_16, al_17, al_18, al_19, al_20, al_21, al_22, al_23, al_24, al_25, al_26, al_27, al_28, al_29, al_30, al_31, al_32, al_33, al_34, al_35, al_36, al_37, al_38, al_39, al_40, al_41, al_42, al_43, al_44, al_45, al_46, al_47, al_48, al_49, al_50, al_51, al_52, al_53, al_54, al_55, at_12, at_13, at_14, at_15, at_16, at_17, at_18, at_19, at_20, at_21, at_22, at_23, at_24, at_25, at_26, at_27, at_28, at_29, at_30, at_31, at_32, at_33, at_34, at_35, at_36, at_37, at_38, at_39, at_40, at_41, at_42, at_43, at_44, at_45, at_46, at_47, at_48, at_49, at_50, at_51, at_52, at_53, at_54, at_55, cn_0, cn_1, cn_2, cn_3, cn_4, cn_5, cn_6, cn_7, cn_8, cn_9, cn_10, cn_11, cn_12, cn_13, cn_14, cn_15, cn_16, cn_17, cn_18, cn_19, cn_20, cn_21, cn_22, cn_23, cn_24, cn_25, cn_26, cn_27, cn_28, cn_29, cn_30, cn_31, cn_32, cn_33, cn_34, cn_35, cn_36, cn_37, cn_38, cn_39, cn_40, cn_41, cn_42, cn_43, cn_44, cn_45, cn_46, cn_47, cn_48, cn_49, cn_50, cn_51, cn_52, cn_53, cn_54, cn_55, Nat.reduceAdd, Nat.reduceLT, Nat.reduceLeDiff, Nat.lt_add_one, Nat.zero_lt_succ, Nat.reduceSub, ite_true, ite_false, reduceCtorEq, forall_const, Nat.reduceSucc, Nat.zero_add, Nat.add_zero, Nat.le_refl, Nat.zero_le, Nat.reducePow, Int.reduceNeg, Nat.reduceMul, eq_self, Int.cast_ofNat_Int, Int.toNat_natCast, iR, lR, Int.reduceEq, Int.reduceLT, Int.reduceLE, Int.reduceNe, not_false_eq_true, not_true_eq_false, false_implies, true_implies, Int.reduceAdd, Int.reduceSub, Int.reduceMul, Int.reduceToNat, implies_true, or_true, true_or, or_false, false_or]
    exact J_fgt [true, true, true, true, false] (ih hlt _ ⟨by omega, f2, h2, by rw [e1, e2], hd⟩)
  have hgo : ∀ (d sz : Int), i < M 8 a.toNat 1 → d = dif M a.toNat b.toNat i.toNat → ¬ d = 0 → sz = zab d → -1000 ≤ d → d ≤ 1000 → J x 86 [some (zr 11 0), some (zi a), some (zi b), some (zi i), some (zi d)] [zi sz, zi ds.length, zr 38 0] (dst M f h ds.length (i - ds.length)) := by
    intro d sz hlt hd hd0 hsz hd1 hd2
    have h105 : ∀ sg : Int, sg = (if 0 < d then 1 else 0) → J x 105 [some (zr 11 0), some (zi a), some (zi b), some (zi i), some (zi d)] [zi sg, zi ds.length, zr 40 0] (dst M (fun j => if j = ds.length then sz else f j) h ds.length (i - ds.length)) := by
      intro sg hsg
      refine B_X11_takeDifferences_105 C _ _ _ ?_
      simp only [c_iadd, c_isub, c_imul, c_ladd, c_lsub, c_lmul, c_ineg, c_lneg, c_ic, c_lc, c_iload, c_lload, c_aload, c_istore, c_astore, c_lstore, c_iinc, c_dup, c_dup2, c_goto, c_i2l, c_l2i, c_idiv, c_ldiv, c_lrem, c_lshl, c_gi, c_gl, c_gr, c_pi, c_pz, c_pl, c_iald, c_lald, c_bald, c_aald, c_iast, c_last, c_bast, c_callV, c_callS, c_mmax, c_mmin, c_mabs, c_mmaxl, c_mabsl, c_iret, c_zret, c_lret, c_vret, c_tsw, c_lsw, c_icmp_eq, c_icmp_ne, c_icmp_lt, c_icmp_ge, c_icmp_gt, c_icmp_le, c_if_eq, c_if_ne, c_if_lt, c_if_ge, c_if_gt, c_if_le, c_lcmp_eq, c_lcmp_ne, c_lcmp_lt, c_lcmp_ge, c_lcmp_gt, c_lcmp_le, c_lraw_eq, c_lraw_lt, c_lraw_ge, c_lraw_gt, c_lraw_le, acat, scat, tswP, pops, st1, st2, klo, pad, elo, List.getElem?_cons_zero, List.getElem?_cons_succ, List.getElem?_nil, List.set_cons_zero, List.set_cons_succ, List.set_nil, Option.toList_some, Option.toList_none, List.cons_append, List.nil_append, List.length_cons, List.length_nil, stc_ap, stm_ap, false_and, and_false, and_self, true_and, and_true, Nat.reduceEqDiff, reduceIte, al_12, al_13, al_14, al_15, al_16, al_17, al_18, al_19, al_20, al_21, al_22, al_23, al_24, al_25, al_26, al_27, al_28, al_29, al_30, al_31, al_32, al_33, al_34, al_35, al_36, al_37, al_38, al_39, al_40, al_41, al_42, al_43, al_44, al_45, al_46, al_47, al_48, al_49, al_50, al_51, al_52, al_53, al_54, al_55, at_12, at_13, at_14, at_15, at_16, at_17, at_18, at_19, at_20, at_21, at_22, at_23, at_24, at_25, at_26, at_27, at_28, at_29, at_30, at_31, at_32, at_33, at_34, at_35, at_36, at_37, at_38, at_39, at_40, at_41, at_42, at_43, at_44, at_45, at_46, at_47, at_48, at_49, at_50, at_51, at_52, at_53, at_54, at_55, cn_0, cn_1, cn_2, cn_3, cn_4, cn_5, cn_6, cn_7, cn_8, cn_9, cn_10, cn_11, cn_12, cn_13, cn_14, cn_15, cn_16, cn_17, cn_18, cn_19, cn_20, cn_21, cn_22, cn_23, cn_24, cn_25, cn_26, cn_27, cn_28, cn_29, cn_30, cn_31, cn_32, cn_33, cn_34, cn_35, cn_36, cn_37, cn_38, cn_39, cn_40, cn_41, cn_42, cn_43, cn_44, cn_45, cn_46, cn_47, cn_48, cn_49, cn_50, cn_51, cn_52, cn_53, cn_54, cn_55, Nat.reduceAdd, Nat.reduceLT, Nat.reduceLeDiff, Nat.lt_add_one, Nat.zero_lt_succ, Nat.reduceSub, ite_true, ite_false, reduceCtorEq, forall_const, Nat.reduceSucc, Nat.zero_add, Nat.add_zero, Nat.le_refl, Nat.zero_le, Nat.reducePow, Int.reduceNeg, Nat.reduceMul, eq_self, Int.cast_ofNat_Int, Int.toNat_natCast, iR, lR, Int.reduceEq, Int.reduceLT, Int.reduceLE, Int.reduceNe, not_false_eq_true, not_true_eq_false, false_implies, true_implies, Int.reduceAdd, Int.reduceSub, Int.reduceMul, Int.reduceToNat, implies_true, or_true, true_or, or_false, false_or, dst_40, dst_15, dst_r15]
      have e3 := hst hlt
      rw [if_neg (by rw [← hd]; exact hd0), ← hd] at e3
      refine ⟨by omega, by rw [hsg]; split <;> omega, h116 _ _ _ _ _ hlt ?_ ?_ ?_⟩
      · rw [e3, List.length_append]; rfl
      · rw [e3, List.length_append]; simp only [List.length_cons, List.length_nil]; omega
      · rw [e3]
        intro q v hq
        show (if q = ds.length then sz else f q) = _ ∧ (if q = ds.length then sg else h q) = _
        by_cases e : q < ds.length
        · rw [List.getElem?_append_left e] at hq
          rw [if_neg (by omega), if_neg (by omega)]
          exact hdk q v hq
        · rw [List.getElem?_append_right (by omega)] at hq
          have hl := (List.getElem?_eq_some_iff.mp hq).1
          simp only [List.length_cons, List.length_nil] at hl
          have e2 : q - ds.length = 0 := by omega
          rw [e2] at hq
          cases hq
          rw [if_pos (by omega), if_pos (by omega)]
          exact ⟨hsz, hsg⟩
    refine B_X11_takeDifferences_86 C _ _ _ ?_
    simp only [c_iadd, c_isub, c_imul, c_ladd, c_lsub, c_lmul, c_ineg, c_lneg, c_ic, c_lc, c_iload, c_lload, c_aload, c_istore, c_astore, c_lstore, c_iinc, c_dup, c_dup2, c_goto, c_i2l, c_l2i, c_idiv, c_ldiv, c_lrem, c_lshl, c_gi, c_gl, c_gr, c_pi, c_pz, c_pl, c_iald, c_lald, c_bald, c_aald, c_iast, c_last, c_bast, c_callV, c_callS, c_mmax, c_mmin, c_mabs, c_mmaxl, c_mabsl, c_iret, c_zret, c_lret, c_vret, c_tsw, c_lsw, c_icmp_eq, c_icmp_ne, c_icmp_lt, c_icmp_ge, c_icmp_gt, c_icmp_le, c_if_eq, c_if_ne, c_if_lt, c_if_ge, c_if_gt, c_if_le, c_lcmp_eq, c_lcmp_ne, c_lcmp_lt, c_lcmp_ge, c_lcmp_gt, c_lcmp_le, c_lraw_eq, c_lraw_lt, c_lraw_ge, c_lraw_gt, c_lraw_le, acat, scat, tswP, pops, st1, st2, klo, pad, elo, List.getElem?_cons_zero, List.getElem?_cons_succ, List.getElem?_nil, List.set_cons_zero, List.set_cons_succ, List.set_nil, Option.toList_some, Option.toList_none, List.cons_append, List.nil_append, List.length_cons, List.length_nil, stc_ap, stm_ap, false_and, and_false, and_self, true_and, and_true, Nat.reduceEqDiff, reduceIte, al_12, al_13, al_14, al_15, al_16, al_17, al_18, al_19, al_20, al_21, al_22, al_23, al_24, al_25, al_26, al_27, al_28, al_29, al_30, al_31, al_32, al_33, al_34, al_35, al_36, al_37, al_38, al_39, al_40, al_41, al_42, al_43, al_44, al_45, al_46, al_47, al_48, al_49, al_50, al_51, al_52, al_53, al_54, al_55, at_12, at_13, at_14, at_15, at_16, at_17, at_18, at_19, at_20, at_21, at_22, at_23, at_24, at_25, at_26, at_27, at_28, at_29, at_30, at_31, at_32, at_33, at_34, at_35, at_36, at_37, at_38, at_39, at_40, at_41, at_42, at_43, at_44, at_45, at_46, at_47, at_48, at_49, at_50, at_51, at_52, at_53, at_54, at_55, cn_0, cn_1, cn_2, cn_3, cn_4, cn_5, cn_6, cn_7, cn_8, cn_9, cn_10, cn_11, cn_12, cn_13, cn_14, cn_15, cn_16, cn_17, cn_18, cn_19, cn_20, cn_21, cn_22, cn_23, cn_24, cn_25, cn_26, cn_27, cn_28, cn_29, cn_30, cn_31, cn_32, cn_33, cn_34, cn_35, cn_36, cn_37, cn_38, cn_39, cn_40, cn_41, cn_42, cn_43, cn_44, cn_45, cn_46, cn_47, cn_48, cn_49, cn_50, cn_51, cn_52, cn_53, cn_54, cn_55, Nat.reduceAdd, Nat.reduceLT, Nat.reduceLeDiff, Nat.lt_add_one, Nat.zero_lt_succ, Nat.reduceSub, ite_true, ite_false, reduceCtorEq, forall_const, Nat.reduceSucc, Nat.zero_add, Nat.add_zero, Nat.le_refl, Nat.zero_le, Nat.reducePow, Int.reduceNeg, Nat.reduceMul, eq_self, Int.cast_ofNat_Int, Int.toNat_natCast, iR, lR, Int.reduceEq, Int.reduceLT, Int.reduceLE, Int.reduceNe, not_false_eq_true, not_true_eq_false, false_implies, true_implies, Int.reduceAdd, Int.reduceSub, Int.reduceMul, Int.reduceToNat, implies_true, or_true, true_or, or_false, false_or, dst_38, dst_r15]
    exact ⟨by omega, by omega, fun z => h105 0 (by rw [if_neg (by omega)]), fun z => h105 1 (by rw [if_pos (by omega)])⟩
  refine B_X11_takeDifferences_12 C hR _ _ _ ?_
  simp only [c_iadd, c_isub, c_imul, c_ladd, c_lsub, c_lmul, c_ineg, c_lneg, c_ic, c_lc, c_iload, c_lload, c_aload, c_istore, c_astore, c_lstore, c_iinc, c_dup, c_dup2, c_goto, c_i2l, c_l2i, c_idiv, c_ldiv, c_lrem, c_lshl, c_gi, c_gl, c_gr, c_pi, c_pz, c_pl, c_iald, c_lald, c_bald, c_aald, c_iast, c_last, c_bast, c_callV, c_callS, c_mmax, c_mmin, c_mabs, c_mmaxl, c_mabsl, c_iret, c_zret, c_lret, c_vret, c_tsw, c_lsw, c_icmp_eq, c_icmp_ne, c_icmp_lt, c_icmp_ge, c_icmp_gt, c_icmp_le, c_if_eq, c_if_ne, c_if_lt, c_if_ge, c_if_gt, c_if_le, c_lcmp_eq, c_lcmp_ne, c_lcmp_lt, c_lcmp_ge, c_lcmp_gt, c_lcmp_le, c_lraw_eq, c_lraw_lt, c_lraw_ge, c_lraw_gt, c_lraw_le, acat, scat, tswP, pops, st1, st2, klo, pad, elo, List.getElem?_cons_zero, List.getElem?_cons_succ, List.getElem?_nil, List.set_cons_zero, List.set_cons_succ, List.set_nil, Option.toList_some, Option.toList_none, List.cons_append, List.nil_append, List.length_cons, List.length_nil, stc_ap, stm_ap, false_and, and_false, and_self, true_and, and_true, Nat.reduceEqDiff, reduceIte, al_12, al_13, al_14, al_15, al_16, al_17, al_18, al_19, al_20, al_21, al_22, al_23, al_24, al_25, al_26, al_27, al_28, al_29, al_30, al_31, al_32, al_33, al_34, al_35, al_36, al_37, al_38, al_39, al_40, al_41, al_42, al_43, al_44, al_45, al_46, al_47, al_48, al_49, al_50, al_51, al_52, al_53, al_54, al_55, at_12, at_13, at_14, at_15, at_16, at_17, at_18, at_19, at_20, at_21, at_22, at_23, at_24, at_25, at_26, at_27, at_28, at_29, at_30, at_31, at_32, at_33, at_34, at_35, at_36, at_37, at_38, at_39, at_40, at_41, at_42, at_43, at_44, at_45, at_46, at_47, at_48, at_49, at_50, at_51, at_52, at_53, at_54, at_55, cn_0, cn_1, cn_2, cn_3, cn_4, cn_5, cn_6, cn_7, cn_8, cn_9, cn_10, cn_11, cn_12, cn_13, cn_14, cn_15, cn_16, cn_17, cn_18, cn_19, cn_20, cn_21, cn_22, cn_23, cn_24, cn_25, cn_26, cn_27, cn_28, cn_29, cn_30, cn_31, cn_32, cn_33, cn_34, cn_35, cn_36, cn_37, cn_38, cn_39, cn_40, cn_41, cn_42, cn_43, cn_44, cn_45, cn_46, cn_47, cn_48, cn_49, cn_50, cn_51, cn_52, cn_53, cn_54, cn_55, Nat.reduceAdd, Nat.reduceLT, Nat.reduceLeDiff, Nat.lt_add_one, Nat.zero_lt_succ, Nat.reduceSub, ite_true, ite_false, reduceCtorEq, forall_const, Nat.reduceSucc, Nat.zero_add, Nat.add_zero, Nat.le_refl, Nat.zero_le, Nat.reducePow, Int.reduceNeg, Nat.reduceMul, eq_self, Int.cast_ofNat_Int, Int.toNat_natCast, iR, lR, Int.reduceEq, Int.reduceLT, Int.reduceLE, Int.reduceNe, not_false_eq_true, not_true_eq_false, false_implies, true_implies, Int.reduceAdd, Int.reduceSub, Int.reduceMul, Int.reduceToNat, implies_true, or_true, true_or, or_false, false_or, dst_r31, dst_r32, dst_r15, dst_r18, dst_18, ea]
  refine ⟨by omega, by omega, by omega, fun z => ?_, fun z => ?_⟩
  · obtain e : i = M 8 a.toNat 1 := by omega
    rw [hds, e] at hdk ⊢
    exact hP f h hdk
  · rw [hE.at ha (by omega) (by omega), hE.at hb (by omega) (by omega)]
    have u1 := ia.2 i.toNat (by omega)
    have u2 := ib.2 i.toNat (by omega)
    refine ⟨by omega, by omega, by omega, fun z2 => ⟨by omega, fun z3 => hgo _ _ (by omega) rfl z2 (by unfold zab; rw [if_neg (by omega)]) (by omega) (by omega), fun z3 => hgo _ _ (by omega) rfl z2 (by unfold zab; rw [if_pos (by omega)]) (by omega) (by omega)⟩, fun z2 => ?_⟩
    have e3 := hst (by omega)
    rw [if_pos (show dif M a.toNat b.toNat i.toNat = 0 from z2)] at e3
    exact h116 _ _ _ _ _ (by omega) (by rw [e3]) (by rw [e3]; omega) (by rw [e3]; exact hdk)
theorem dif_cg {M M' : Mm} (h27 : M' 27 = M 27) (a b : Nat) : dif M' a b = dif M a b := by
  unfold dif
  rw [h27]
def T_X11_noughts : Ct := fun as M P => match as with
  | [.inr (some (g, s)), .inl (.inl a), .inl (.inl b)] => g = 11 ∧ s = 0 ∧ iR a ∧ iR b ∧ SI M ∧ SE M ∧ ((two M a b ∧ M 8 a.toNat 1 = M 8 b.toNat 1) → ∀ M' : Mm, (∀ g' : Nat, ¬ g' = 11 → ¬ g' = 38 → ¬ g' = 40 → M' g' = M g') → (∀ q : Nat, ¬ q = 2 → ¬ q = 15 → ¬ q = 18 → M' 11 0 q = M 11 0 q) → P (some (zi (M 8 a.toNat 1 - (nzl (dif M a.toNat b.toNat) (M 8 a.toNat 1).toNat).length))) M') ∧ (¬ (two M a b ∧ M 8 a.toNat 1 = M 8 b.toNat 1) → P (some (zi (-1))) (stm M 11 0 2 0))
  | _ => False
theorem k_X11_noughts (l : Launch) : MetT l yX11_noughts cX11_noughts 3 (some .int) 2 T_X11_noughts := by
  refine MetT.of (by decide +kernel) (fun as M P h => by unfold T_X11_noughts at h; split at h <;> first | (simp [elo]; done) | exact h.elim) (fun x as M P h C hR => ?_)
  unfold T_X11_noughts at h
  split at h
  rotate_left
  · exact h.elim
  rename_i g s a b
  obtain ⟨rfl, rfl, ha, hb, hI, hE, h1, h2⟩ := h
  refine B_X11_noughts_0 C hR (k_X11_isPair l) (by decide) (k_X11_takeDifferences l) (by decide) _ _ _ ?_
  simp only [c_iadd, c_isub, c_imul, c_ladd, c_lsub, c_lmul, c_ineg, c_lneg, c_ic, c_lc, c_iload, c_lload, c_aload, c_istore, c_astore, c_lstore, c_iinc, c_dup, c_dup2, c_goto, c_i2l, c_l2i, c_idiv, c_ldiv, c_lrem, c_lshl, c_gi, c_gl, c_gr, c_pi, c_pz, c_pl, c_iald, c_lald, c_bald, c_aald, c_iast, c_last, c_bast, c_callV, c_callS, c_mmax, c_mmin, c_mabs, c_mmaxl, c_mabsl, c_iret, c_zret, c_lret, c_vret, c_tsw, c_lsw, c_icmp_eq, c_icmp_ne, c_icmp_lt, c_icmp_ge, c_icmp_gt, c_icmp_le, c_if_eq, c_if_ne, c_if_lt, c_if_ge, c_if_gt, c_if_le, c_lcmp_eq, c_lcmp_ne, c_lcmp_lt, c_lcmp_ge, c_lcmp_gt, c_lcmp_le, c_lraw_eq, c_lraw_lt, c_lraw_ge, c_lraw_gt, c_lraw_le, acat, scat, tswP, pops, st1, st2, klo, pad, elo, List.getElem?_cons_zero, List.getElem?_cons_succ, List.getElem?_nil, List.set_cons_zero, List.set_cons_succ, List.set_nil, Option.toList_some, Option.toList_none, List.cons_append, List.nil_append, List.length_cons, List.length_nil, stc_ap, stm_ap, false_and, and_false, and_self, true_and, and_true, Nat.reduceEqDiff, reduceIte, al_12, al_13, al_14, al_15, al_16, al_17, al_18, al_19, al_20, al_21, al_22, al_23, al_24, al_25, al_26, al_27, al_28, al_29, al_30, al_31, al_32, al_33, al_34, al_35, al_36, al_37, al_38, al_39, al_40, al_41, al_42, al_43, al_44, al_45, al_46, al_47, al_48, al_49, al_50, al_51, al_52, al_53, al_54, al_55, at_12, at_13, at_14, at_15, at_16, at_17, at_18, at_19, at_20, at_21, at_22, at_23, at_24, at_25, at_26, at_27, at_28, at_29, at_30, at_31, at_32, at_33, at_34, at_35, at_36, at_37, at_38, at_39, at_40, at_41, at_42, at_43, at_44, at_45, at_46, at_47, at_48, at_49, at_50, at_51, at_52, at_53, at_54, at_55, cn_0, cn_1, cn_2, cn_3, cn_4, cn_5, cn_6, cn_7, cn_8, cn_9, cn_10, cn_11, cn_12, cn_13, cn_14, cn_15, cn_16, cn_17, cn_18, cn_19, cn_20, cn_21, cn_22, cn_23, cn_24, cn_25, cn_26, cn_27, cn_28, cn_29, cn_30, cn_31, cn_32, cn_33, cn_34, cn_35, cn_36, cn_37, cn_38, cn_39, cn_40, cn_41, cn_42, cn_43, cn_44, cn_45, cn_46, cn_47, cn_48, cn_49, cn_50, cn_51, cn_52, cn_53, cn_54, cn_55, Nat.reduceAdd, Nat.reduceLT, Nat.reduceLeDiff, Nat.lt_add_one, Nat.zero_lt_succ, Nat.reduceSub, ite_true, ite_false, reduceCtorEq, forall_const, Nat.reduceSucc, Nat.zero_add, Nat.add_zero, Nat.le_refl, Nat.zero_le, Nat.reducePow, Int.reduceNeg, Nat.reduceMul, eq_self, Int.cast_ofNat_Int, Int.toNat_natCast, iR, lR, Int.reduceEq, Int.reduceLT, Int.reduceLE, Int.reduceNe, not_false_eq_true, not_true_eq_false, false_implies, true_implies, Int.reduceAdd, Int.reduceSub, Int.reduceMul, Int.reduceToNat, implies_true, or_true, true_or, or_false, false_or, T_X11_isPair, T_X11_takeDifferences, dst_r18]
  generalize hM0 : stm M 11 0 2 0 = M0 at *
  have c8 : M0 8 = M 8 := by rw [← hM0]; exact stm_ne _ _ _ _ _ (by decide)
  have c27 : M0 27 = M 27 := by rw [← hM0]; exact stm_ne _ _ _ _ _ (by decide)
  have c31 : M0 31 = M 31 := by rw [← hM0]; exact stm_ne _ _ _ _ _ (by decide)
  have c32 : M0 32 = M 32 := by rw [← hM0]; exact stm_ne _ _ _ _ _ (by decide)
  have hI0 := SI_cg c8 c27 hI
  have hE0 := SE_cg c8 c27 c31 c32 hE
  refine ⟨ha, hb, hI0, hE0, fun q => ?_, fun q => h2 fun z => q (by rw [two_cg c8]; exact z.1)⟩
  rw [two_cg c8] at q
  obtain ⟨wa, wb, wc, wd, we⟩ := id q
  have ia := hI a.toNat (by omega)
  have ib := hI b.toNat (by omega)
  rw [hE.sz wa, hE.sz wb, dif_cg c27]
  refine ⟨wa, wb, by omega, by omega, fun z => ⟨wa, wb, z, hI0, hE0, fun f h hdk => ?_⟩, fun z => h2 (fun t => z t.2)⟩
  refine h1 ⟨q, z⟩ _ (fun g' a1 a2 a3 => ?_) (fun q' a1 a2 a3 => ?_)
  · rw [dst_o _ _ _ _ _ a1 a2 a3, ← hM0, stm_ne _ _ _ _ _ a1]
  · rw [dst_11 _ _ _ _ _ a2 a3, ← hM0, stm_ap, if_neg (by omega)]
/-! the list of scores -/
def tls (M : Mm) (v n : Int) : Mm := stm (stm (stm M 35 0 (M 11 0 7).toNat v) 36 0 (M 11 0 7).toNat n) 11 0 7 (M 11 0 7 + 1)
/-- the list holds the scores and how many have them -/
def ML (M : Mm) (ks : List (Int × Int)) : Prop := M 11 0 7 = ks.length ∧ ∀ (q : Nat) (s c : Int), ks[q]? = some (s, c) → M 35 0 q = s ∧ M 36 0 q = c
theorem ML_tls {M : Mm} {ks : List (Int × Int)} (h : ML M ks) (v n : Int) : ML (tls M v n) (ks ++ [(v, n)]) := by
  obtain ⟨h1, h2⟩ := h
  refine ⟨?_, fun q s c hq => ?_⟩
  · unfold tls
    rw [stm_ap, if_pos ⟨rfl, rfl, rfl⟩, h1, List.length_append]
    rfl
  · have e35 : tls M v n 35 0 q = if q = (M 11 0 7).toNat then v else M 35 0 q := by simp [tls, stm_ap]
    have e36 : tls M v n 36 0 q = if q = (M 11 0 7).toNat then n else M 36 0 q := by simp [tls, stm_ap]
    rw [e35, e36]
    by_cases e : q < ks.length
    · rw [List.getElem?_append_left e] at hq
      rw [if_neg (by omega), if_neg (by omega)]
      exact h2 q s c hq
    · rw [List.getElem?_append_right (by omega)] at hq
      have hl := (List.getElem?_eq_some_iff.mp hq).1
      simp only [List.length_cons, List.length_nil] at hl
      have e2 : q - ks.length = 0 := by omega
      rw [e2] at hq
      cases hq
      rw [if_pos (by omega), if_pos (by omega)]
      exact ⟨rfl, rfl⟩
theorem tls_o {M : Mm} {v n : Int} {g : Nat} (h1 : ¬ g = 11) (h2 : ¬ g = 35) (h3 : ¬ g = 36) : tls M v n g = M g := by
  unfold tls
  rw [stm_ne _ _ _ _ _ h1, stm_ne _ _ _ _ _ h3, stm_ne _ _ _ _ _ h2]
theorem tls_11 {M : Mm} {v n : Int} {k : Nat} (h : ¬ k = 7) : tls M v n 11 0 k = M 11 0 k := by
  unfold tls
  rw [stm_ap, if_neg (by omega), stm_ne _ _ _ _ _ (by decide), stm_ne _ _ _ _ _ (by decide)]
def T_X11_tells : Ct := fun as M P => match as with
  | [.inr (some (g, s)), .inl (.inr v), .inl (.inr n)] => g = 11 ∧ s = 0 ∧ lR n ∧ (0 ≤ M 11 0 7 ∧ M 11 0 7 < 20002) ∧ (n = 0 → P none M) ∧ (¬ n = 0 → P none (tls M v n))
  | _ => False
theorem k_X11_tells (l : Launch) : MetT l yX11_tells cX11_tells 5 none 0 T_X11_tells := by
  refine MetT.of (by decide +kernel) (fun as M P h => by unfold T_X11_tells at h; split at h <;> first | (simp [elo]; done) | exact h.elim) (fun x as M P h C hR => ?_)
  unfold T_X11_tells at h
  split at h
  rotate_left
  · exact h.elim
  rename_i g s v n
  obtain ⟨rfl, rfl, hn, hz, h1, h2⟩ := h
  refine B_X11_tells_0 C hR _ _ _ ?_
  simp only [c_iadd, c_isub, c_imul, c_ladd, c_lsub, c_lmul, c_ineg, c_lneg, c_ic, c_lc, c_iload, c_lload, c_aload, c_istore, c_astore, c_lstore, c_iinc, c_dup, c_dup2, c_goto, c_i2l, c_l2i, c_idiv, c_ldiv, c_lrem, c_lshl, c_gi, c_gl, c_gr, c_pi, c_pz, c_pl, c_iald, c_lald, c_bald, c_aald, c_iast, c_last, c_bast, c_callV, c_callS, c_mmax, c_mmin, c_mabs, c_mmaxl, c_mabsl, c_iret, c_zret, c_lret, c_vret, c_tsw, c_lsw, c_icmp_eq, c_icmp_ne, c_icmp_lt, c_icmp_ge, c_icmp_gt, c_icmp_le, c_if_eq, c_if_ne, c_if_lt, c_if_ge, c_if_gt, c_if_le, c_lcmp_eq, c_lcmp_ne, c_lcmp_lt, c_lcmp_ge, c_lcmp_gt, c_lcmp_le, c_lraw_eq, c_lraw_lt, c_lraw_ge, c_lraw_gt, c_lraw_le, acat, scat, tswP, pops, st1, st2, klo, pad, elo, List.getElem?_cons_zero, List.getElem?_cons_succ, List.getElem?_nil, List.set_cons_zero, List.set_cons_succ, List.set_nil, Option.toList_some, Option.toList_none, List.cons_append, List.nil_append, List.length_cons, List.length_nil, stc_ap, stm_ap, false_and, and_false, and_self, true_and, and_true, Nat.reduceEqDiff, reduceIte, al_12, al_13, al_14, al_15, al_16, al_17, al_18, al_19, al_20, al_21, al_22, al_23, al_24, al_25, al_26, al_27, al_28, al_29, al_30, al_31, al_32, al_33, al_34, al_35, al_36, al_37, al_38, al_39, al_40, al_41, al_42, al_43, al_44, al_45, al_46, al_47, al_48, al_49, al_50, al_51, al_52, al_53, al_54, al_55, at_12, at_13, at_14, at_15, at_16, at_17, at_18, at_19, at_20, at_21, at_22, at_23, at_24, at_25, at_26, at_27, at_28, at_29, at_30, at_31, at_32, at_33, at_34, at_35, at_36, at_37, at_38, at_39, at_40, at_41, at_42, at_43, at_44, at_45, at_46, at_47, at_48, at_49, at_50, at_51, at_52, at_53, at_54, at_55, cn_0, cn_1, cn_2, cn_3, cn_4, cn_5, cn_6, cn_7, cn_8, cn_9, cn_10, cn_11, cn_12, cn_13, cn_14, cn_15, cn_16, cn_17, cn_18, cn_19, cn_20, cn_21, cn_22, cn_23, cn_24, cn_25, cn_26, cn_27, cn_28, cn_29, cn_30, cn_31, cn_32, cn_33, cn_34, cn_35, cn_36, cn_37, cn_38, cn_39, cn_40, cn_41, cn_42, cn_43, cn_44, cn_45, cn_46, cn_47, cn_48, cn_49, cn_50, cn_51, cn_52, cn_53, cn_54, cn_55, Nat.reduceAdd, Nat.reduceLT, Nat.reduceLeDiff, Nat.lt_add_one, Nat.zero_lt_succ, Nat.reduceSub, ite_true, ite_false, reduceCtorEq, forall_const, Nat.reduceSucc, Nat.zero_add, Nat.add_zero, Nat.le_refl, Nat.zero_le, Nat.reducePow, Int.reduceNeg, Nat.reduceMul, eq_self, Int.cast_ofNat_Int, Int.toNat_natCast, iR, lR, Int.reduceEq, Int.reduceLT, Int.reduceLE, Int.reduceNe, not_false_eq_true, not_true_eq_false, false_implies, true_implies, Int.reduceAdd, Int.reduceSub, Int.reduceMul, Int.reduceToNat, implies_true, or_true, true_or, or_false, false_or]
  exact ⟨hn, fun z => ⟨by omega, by omega, h2 z⟩, fun z => h1 z⟩
def T_X11_far : Ct := fun as M P => match as with
  | [.inr (some (g, s)), .inl (.inr v)] => g = 11 ∧ s = 0 ∧ (-1000000000000 ≤ M 11 0 10 * v - M 11 0 11 ∧ M 11 0 10 * v - M 11 0 11 ≤ 1000000000000) ∧ P (some (zl (zab (M 11 0 10 * v - M 11 0 11)))) M
  | _ => False
theorem k_X11_far (l : Launch) : MetT l yX11_far cX11_far 5 (some .long) 0 T_X11_far := by
  refine MetT.of (by decide +kernel) (fun as M P h => by unfold T_X11_far at h; split at h <;> first | (simp [elo]; done) | exact h.elim) (fun x as M P h C hR => ?_)
  unfold T_X11_far at h
  split at h
  rotate_left
  · exact h.elim
  rename_i g s v
  obtain ⟨rfl, rfl, hv, hP⟩ := h
  refine B_X11_far_0 C hR _ _ _ ?_
  simp only [c_iadd, c_isub, c_imul, c_ladd, c_lsub, c_lmul, c_ineg, c_lneg, c_ic, c_lc, c_iload, c_lload, c_aload, c_istore, c_astore, c_lstore, c_iinc, c_dup, c_dup2, c_goto, c_i2l, c_l2i, c_idiv, c_ldiv, c_lrem, c_lshl, c_gi, c_gl, c_gr, c_pi, c_pz, c_pl, c_iald, c_lald, c_bald, c_aald, c_iast, c_last, c_bast, c_callV, c_callS, c_mmax, c_mmin, c_mabs, c_mmaxl, c_mabsl, c_iret, c_zret, c_lret, c_vret, c_tsw, c_lsw, c_icmp_eq, c_icmp_ne, c_icmp_lt, c_icmp_ge, c_icmp_gt, c_icmp_le, c_if_eq, c_if_ne, c_if_lt, c_if_ge, c_if_gt, c_if_le, c_lcmp_eq, c_lcmp_ne, c_lcmp_lt, c_lcmp_ge, c_lcmp_gt, c_lcmp_le, c_lraw_eq, c_lraw_lt, c_lraw_ge, c_lraw_gt, c_lraw_le, acat, scat, tswP, pops, st1, st2, klo, pad, elo, List.getElem?_cons_zero, List.getElem?_cons_succ, List.getElem?_nil, List.set_cons_zero, List.set_cons_succ, List.set_nil, Option.toList_some, Option.toList_none, List.cons_append, List.nil_append, List.length_cons, List.length_nil, stc_ap, stm_ap, false_and, and_false, and_self, true_and, and_true, Nat.reduceEqDiff, reduceIte, al_12, al_13, al_14, al_15, al_16, al_17, al_18, al_19, al_20, al_21, al_22, al_23, al_24, al_25, al_26, al_27, al_28, al_29, al_30, al_31, al_32, al_33, al_34, al_35, al_36, al_37, al_38, al_39, al_40, al_41, al_42, al_43, al_44, al_45, al_46, al_47, al_48, al_49, al_50, al_51, al_52, al_53, al_54, al_55, at_12, at_13, at_14, at_15, at_16, at_17, at_18, at_19, at_20, at_21, at_22, at_23, at_24, at_25, at_26, at_27, at_28, at_29, at_30, at_31, at_32, at_33, at_34, at_35, at_36, at_37, at_38, at_39, at_40, at_41, at_42, at_43, at_44, at_45, at_46, at_47, at_48, at_49, at_50, at_51, at_52, at_53, at_54, at_55, cn_0, cn_1, cn_2, cn_3, cn_4, cn_5, cn_6, cn_7, cn_8, cn_9, cn_10, cn_11, cn_12, cn_13, cn_14, cn_15, cn_16, cn_17, cn_18, cn_19, cn_20, cn_21, cn_22, cn_23, cn_24, cn_25, cn_26, cn_27, cn_28, cn_29, cn_30, cn_31, cn_32, cn_33, cn_34, cn_35, cn_36, cn_37, cn_38, cn_39, cn_40, cn_41, cn_42, cn_43, cn_44, cn_45, cn_46, cn_47, cn_48, cn_49, cn_50, cn_51, cn_52, cn_53, cn_54, cn_55, Nat.reduceAdd, Nat.reduceLT, Nat.reduceLeDiff, Nat.lt_add_one, Nat.zero_lt_succ, Nat.reduceSub, ite_true, ite_false, reduceCtorEq, forall_const, Nat.reduceSucc, Nat.zero_add, Nat.add_zero, Nat.le_refl, Nat.zero_le, Nat.reducePow, Int.reduceNeg, Nat.reduceMul, eq_self, Int.cast_ofNat_Int, Int.toNat_natCast, iR, lR, Int.reduceEq, Int.reduceLT, Int.reduceLE, Int.reduceNe, not_false_eq_true, not_true_eq_false, false_implies, true_implies, Int.reduceAdd, Int.reduceSub, Int.reduceMul, Int.reduceToNat, implies_true, or_true, true_or, or_false, false_or]
  unfold zab at hP
  refine ⟨by omega, fun z => ?_, fun z => ?_⟩
  · rw [if_neg (by omega)] at hP; exact hP
  · rw [if_pos (by omega)] at hP; exact hP
/-- a score lies on a side of th -/
def onP (th ft fl side v : Int) : Bool := decide ((side = 0 ∧ th ≤ v) ∨ (side = 1 ∧ v ≤ th) ∨ (¬ side = 0 ∧ ¬ side = 1 ∧ zab (ft * th - fl) ≤ zab (ft * v - fl)))
theorem onP_iff {th ft fl side v : Int} : onP th ft fl side v = true ↔ ((side = 0 ∧ th ≤ v) ∨ (side = 1 ∧ v ≤ th) ∨ (¬ side = 0 ∧ ¬ side = 1 ∧ zab (ft * th - fl) ≤ zab (ft * v - fl))) := decide_eq_true_iff
theorem onB_P (M : Mm) (v side : Int) : onB M v side = onP (M 5 0 8) (M 5 0 12) (M 5 0 13) side v := rfl
def lvl (p : Int → Bool) (ks : List (Int × Int)) (q : Nat) : Int := match ks[q]? with
  | some (s, c) => if p s then c else 0
  | none => 0
def lsm (p : Int → Bool) (ks : List (Int × Int)) : Int := sm (lvl p ks) ks.length
theorem lsm_app (p : Int → Bool) (ks : List (Int × Int)) (s c : Int) : lsm p (ks ++ [(s, c)]) = lsm p ks + if p s then c else 0 := by
  unfold lsm
  rw [List.length_append]
  show sm _ (ks.length + 1) = _
  rw [sm_s]
  congr 1
  · refine sm_cg fun j hj => ?_
    unfold lvl
    rw [List.getElem?_append_left hj]
  · unfold lvl
    rw [List.getElem?_append_right (Nat.le_refl _), Nat.sub_self]
    rfl
/-- all is in bounds for a comparison -/
def mOkM (th ft fl : Int) (ks : List (Int × Int)) : Prop := lR th ∧ (-1000000000000 ≤ ft * th - fl ∧ ft * th - fl ≤ 1000000000000) ∧ ∀ s c : Int, (s, c) ∈ ks → lR s ∧ (-1000000000000 ≤ ft * s - fl ∧ ft * s - fl ≤ 1000000000000)
def T_X11_counted : Ct := fun as M P => match as with
  | [.inr (some (g, s)), .inl (.inl side)] => g = 11 ∧ s = 0 ∧ (0 ≤ side ∧ side ≤ 2) ∧ ∃ ks : List (Int × Int), ML M ks ∧ ks.length ≤ 20002 ∧ mOkM (M 11 0 9) (M 11 0 10) (M 11 0 11) ks ∧ P (some (zl (lsm (onP (M 11 0 9) (M 11 0 10) (M 11 0 11) side) ks))) M
  | _ => False
theorem k_X11_counted (l : Launch) : MetT l yX11_counted cX11_counted 6 (some .long) 1 T_X11_counted := by
  refine MetT.of (by decide +kernel) (fun as M P h => by unfold T_X11_counted at h; split at h <;> first | (simp [elo]; done) | exact h.elim) (fun x as M P h C hR => ?_)
  unfold T_X11_counted at h
  split at h
  rotate_left
  · exact h.elim
  rename_i g s side
  obtain ⟨rfl, rfl, hsd, ks, ⟨hm1, hm2⟩, hlen, ⟨hb1, hb2, hb3⟩, hP⟩ := h
  refine B_X11_counted_0 C _ _ _ ?_
  simp only [c_iadd, c_isub, c_imul, c_ladd, c_lsub, c_lmul, c_ineg, c_lneg, c_ic, c_lc, c_iload, c_lload, c_aload, c_istore, c_astore, c_lstore, c_iinc, c_dup, c_dup2, c_goto, c_i2l, c_l2i, c_idiv, c_ldiv, c_lrem, c_lshl, c_gi, c_gl, c_gr, c_pi, c_pz, c_pl, c_iald, c_lald, c_bald, c_aald, c_iast, c_last, c_bast, c_callV, c_callS, c_mmax, c_mmin, c_mabs, c_mmaxl, c_mabsl, c_iret, c_zret, c_lret, c_vret, c_tsw, c_lsw, c_icmp_eq, c_icmp_ne, c_icmp_lt, c_icmp_ge, c_icmp_gt, c_icmp_le, c_if_eq, c_if_ne, c_if_lt, c_if_ge, c_if_gt, c_if_le, c_lcmp_eq, c_lcmp_ne, c_lcmp_lt, c_lcmp_ge, c_lcmp_gt, c_lcmp_le, c_lraw_eq, c_lraw_lt, c_lraw_ge, c_lraw_gt, c_lraw_le, acat, scat, tswP, pops, st1, st2, klo, pad, elo, List.getElem?_cons_zero, List.getElem?_cons_succ, List.getElem?_nil, List.set_cons_zero, List.set_cons_succ, List.set_nil, Option.toList_some, Option.toList_none, List.cons_append, List.nil_append, List.length_cons, List.length_nil, stc_ap, stm_ap, false_and, and_false, and_self, true_and, and_true, Nat.reduceEqDiff, reduceIte, al_12, al_13, al_14, al_15, al_16, al_17, al_18, al_19, al_20, al_21, al_22, al_23, al_24, al_25, al_26, al_27, al_28, al_29, al_30, al_31, al_32, al_33, al_34, al_35, al_36, al_37, al_38, al_39, al_40, al_41, al_42, al_43, al_44, al_45, al_46, al_47, al_48, al_49, al_50, al_51, al_52, al_53, al_54, al_55, at_12, at_13, at_14, at_15, at_16, at_17, at_18, at_19, at_20, at_21, at_22, at_23, at_24, at_25, at_26, at_27, at_28, at_29, at_30, at_31, at_32, at_33, at_34, at_35, at_36, at_37, at_38, at_39, at_40, at_41, at_42, at_43, at_44, at_45, at_46, at_47, at_48, at_49, at_50, at_51, at_52, at_53, at_54, at_55, cn_0, cn_1, cn_2, cn_3, cn_4, cn_5, cn_6, cn_7, cn_8, cn_9, cn_10, cn_11, cn_12, cn_13, cn_14, cn_15, cn_16, cn_17, cn_18, cn_19, cn_20, cn_21, cn_22, cn_23, cn_24, cn_25, cn_26, cn_27, cn_28, cn_29, cn_30, cn_31, cn_32, cn_33, cn_34, cn_35, cn_36, cn_37, cn_38, cn_39, cn_40, cn_41, cn_42, cn_43, cn_44, cn_45, cn_46, cn_47, cn_48, cn_49, cn_50, cn_51, cn_52, cn_53, cn_54, cn_55, Nat.reduceAdd, Nat.reduceLT, Nat.reduceLeDiff, Nat.lt_add_one, Nat.zero_lt_succ, Nat.reduceSub, ite_true, ite_false, reduceCtorEq, forall_const, Nat.reduceSucc, Nat.zero_add, Nat.add_zero, Nat.le_refl, Nat.zero_le, Nat.reducePow, Int.reduceNeg, Nat.reduceMul, eq_self, Int.cast_ofNat_Int, Int.toNat_natCast, iR, lR, Int.reduceEq, Int.reduceLT, Int.reduceLE, Int.reduceNe, not_false_eq_true, not_true_eq_false, false_implies, true_implies, Int.reduceAdd, Int.reduceSub, Int.reduceMul, Int.reduceToNat, implies_true, or_true, true_or, or_false, false_or]
  generalize hth : M 11 0 9 = th at *
  generalize hft : M 11 0 10 = ft at *
  generalize hfl : M 11 0 11 = fl at *
  suffices hh : ∀ (k : Int) (M' : Mm), (M = M' ∧ (0 ≤ k ∧ k ≤ ks.length)) → J x 5 [some (zr 11 0), some (zi side), some (zl (sm (lvl (onP th ft fl side) ks) k.toNat)), none, some (zi k), none] [] M' by
    exact hh 0 M ⟨rfl, by omega⟩
  refine loopU ks.length _ _ ?_
  rintro k M' ⟨rfl, hk⟩ ih
  have hel : k < ks.length → ∃ s c : Int, ks[k.toNat]? = some (s, c) := fun h => by
    have : k.toNat < ks.length := by omega
    exact ⟨(ks[k.toNat]).1, (ks[k.toNat]).2, by rw [List.getElem?_eq_getElem this]⟩
  have h116 : ∀ v z : Int, k < ks.length → v = lvl (onP th ft fl side) ks k.toNat → J x 116 [some (zr 11 0), some (zi side), some (zl (sm (lvl (onP th ft fl side) ks) k.toNat)), none, some (zi k), some (zi z)] [zl v, zl (sm (lvl (onP th ft fl side) ks) k.toNat)] M := by
    intro v z hlt hv
    refine B_X11_counted_116 C _ _ _ ?_
    simp only [c_iadd, c_isub, c_imul, c_ladd, c_lsub, c_lmul, c_ineg, c_lneg, c_ic, c_lc, c_iload, c_lload, c_aload, c_istore, c_astore, c_lstore, c_iinc, c_dup, c_dup2, c_goto, c_i2l, c_l2i, c_idiv, c_ldiv, c_lrem, c_lshl, c_gi, c_gl, c_gr, c_pi, c_pz, c_pl, c_iald, c_lald, c_bald, c_aald, c_iast, c_last, c_bast, c_callV, c_callS, c_mmax, c_mmin, c_mabs, c_mmaxl, c_mabsl, c_iret, c_zret, c_lret, c_vret, c_tsw, c_lsw, c_icmp_eq, c_icmp_ne, c_icmp_lt, c_icmp_ge, c_icmp_gt, c_icmp_le, c_if_eq, c_if_ne, c_if_lt, c_if_ge, c_if_gt, c_if_le, c_lcmp_eq, c_lcmp_ne, c_lcmp_lt, c_lcmp_ge, c_lcmp_gt, c_lcmp_le, c_lraw_eq, c_lraw_lt, c_lraw_ge, c_lraw_gt, c_lraw_le, acat, scat, tswP, pops, st1, st2, klo, pad, elo, List.getElem?_cons_zero, List.getElem?_cons_succ, List.getElem?_nil, List.set_cons_zero, List.set_cons_succ, List.set_nil, Option.toList_some, Option.toList_none, List.cons_append, List.nil_append, List.length_cons, List.length_nil, stc_ap, stm_ap, false_and, and_false, and_self, true_and, and_true, Nat.reduceEqDiff, reduceIte, al_12, al_13, al_14, al_15, al_16, al_17, al_18, al_19, al_20, al_21, al_22, al_23, al_24, al_25, al_26, al_27, al_28, al_29, al_30, al_31, al_32, al_33, al_34, al_35, al_36, al_37, al_38, al_39, al_40, al_41, al_42, al_43, al_44, al_45, al_46, al_47, al_48, al_49, al_50, al_51, al_52, al_53, al_54, al_55, at_12, at_13, at_14, at_15, at_16, at_17, at_18, at_19, at_20, at_21, at_22, at_23, at_24, at_25, at_26, at_27, at_28, at_29, at_30, at_31, at_32, at_33, at_34, at_35, at_36, at_37, at_38, at_39, at_40, at_41, at_42, at_43, at_44, at_45, at_46, at_47, at_48, at_49, at_50, at_51, at_52, at_53, at_54, at_55, cn_0, cn_1, cn_2, cn_3, cn_4, cn_5, cn_6, cn_7, cn_8, cn_9, cn_10, cn_11, cn_12, cn_13, cn_14, cn_15, cn_16, cn_17, cn_18, cn_19, cn_20, cn_21, cn_22, cn_23, cn_24, cn_25, cn_26, cn_27, cn_28, cn_29, cn_30, cn_31, cn_32, cn_33, cn_34, cn_35, cn_36, cn_37, cn_38, cn_39, cn_40, cn_41, cn_42, cn_43, cn_44, cn_45, cn_46, cn_47, cn_48, cn_49, cn_50, cn_51, cn_52, cn_53, cn_54, cn_55, Nat.reduceAdd, Nat.reduceLT, Nat.reduceLeDiff, Nat.lt_add_one, Nat.zero_lt_succ, Nat.reduceSub, ite_true, ite_false, reduceCtorEq, forall_const, Nat.reduceSucc, Nat.zero_add, Nat.add_zero, Nat.le_refl, Nat.zero_le, Nat.reducePow, Int.reduceNeg, Nat.reduceMul, eq_self, Int.cast_ofNat_Int, Int.toNat_natCast, iR, lR, Int.reduceEq, Int.reduceLT, Int.reduceLE, Int.reduceNe, not_false_eq_true, not_true_eq_false, false_implies, true_implies, Int.reduceAdd, Int.reduceSub, Int.reduceMul, Int.reduceToNat, implies_true, or_true, true_or, or_false, false_or]
    have := ih hlt M ⟨rfl, by omega⟩
    rw [show (k + 1).toNat = k.toNat + 1 by omega, sm_s, ← hv] at this
    exact J_fgt [true, true, true, true, true, false] this
  have h97 : ∀ b s c : Int, k < ks.length → ks[k.toNat]? = some (s, c) → (b = 0 ∨ b = 1) → (b = 1 ↔ onP th ft fl side s = true) → J x 97 [some (zr 11 0), some (zi side), some (zl (sm (lvl (onP th ft fl side) ks) k.toNat)), none, some (zi k), none] [zi b] M := by
    intro b s c hlt hks hb01 hb
    refine B_X11_counted_97 C _ _ _ ?_
    simp only [c_iadd, c_isub, c_imul, c_ladd, c_lsub, c_lmul, c_ineg, c_lneg, c_ic, c_lc, c_iload, c_lload, c_aload, c_istore, c_astore, c_lstore, c_iinc, c_dup, c_dup2, c_goto, c_i2l, c_l2i, c_idiv, c_ldiv, c_lrem, c_lshl, c_gi, c_gl, c_gr, c_pi, c_pz, c_pl, c_iald, c_lald, c_bald, c_aald, c_iast, c_last, c_bast, c_callV, c_callS, c_mmax, c_mmin, c_mabs, c_mmaxl, c_mabsl, c_iret, c_zret, c_lret, c_vret, c_tsw, c_lsw, c_icmp_eq, c_icmp_ne, c_icmp_lt, c_icmp_ge, c_icmp_gt, c_icmp_le, c_if_eq, c_if_ne, c_if_lt, c_if_ge, c_if_gt, c_if_le, c_lcmp_eq, c_lcmp_ne, c_lcmp_lt, c_lcmp_ge, c_lcmp_gt, c_lcmp_le, c_lraw_eq, c_lraw_lt, c_lraw_ge, c_lraw_gt, c_lraw_le, acat, scat, tswP, pops, st1, st2, klo, pad, elo, List.getElem?_cons_zero, List.getElem?_cons_succ, List.getElem?_nil, List.set_cons_zero, List.set_cons_succ, List.set_nil, Option.toList_some, Option.toList_none, List.cons_append, List.nil_append, List.length_cons, List.length_nil, stc_ap, stm_ap, false_and, and_false, and_self, true_and, and_true, Nat.reduceEqDiff, reduceIte, al_12, al_13, al_14, al_15, al_16, al_17, al_18, al_19, al_20, al_21, al_22, al_23, al_24, al_25, al_26, al_27, al_28, al_29, al_30, al_31, al_32, al_33, al_34, al_35, al_36, al_37, al_38, al_39, al_40, al_41, al_42, al_43, al_44, al_45, al_46, al_47, al_48, al_49, al_50, al_51, al_52, al_53, al_54, al_55, at_12, at_13, at_14, at_15, at_16, at_17, at_18, at_19, at_20, at_21, at_22, at_23, at_24, at_25, at_26, at_27, at_28, at_29, at_30, at_31, at_32, at_33, at_34, at_35, at_36, at_37, at_38, at_39, at_40, at_41, at_42, at_43, at_44, at_45, at_46, at_47, at_48, at_49, at_50, at_51, at_52, at_53, at_54, at_55, cn_0, cn_1, cn_2, cn_3, cn_4, cn_5, cn_6, cn_7, cn_8, cn_9, cn_10, cn_11, cn_12, cn_13, cn_14, cn_15, cn_16, cn_17, cn_18, cn_19, cn_20, cn_21, cn_22, cn_23, cn_24, cn_25, cn_26, cn_27, cn_28, cn_29, cn_30, cn_31, cn_32, cn_33, cn_34, cn_35, cn_36, cn_37, cn_38, cn_39, cn_40, cn_41, cn_42, cn_43, cn_44, cn_45, cn_46, cn_47, cn_48, cn_49, cn_50, cn_51, cn_52, cn_53, cn_54, cn_55, Nat.reduceAdd, Nat.reduceLT, Nat.reduceLeDiff, Nat.lt_add_one, Nat.zero_lt_succ, Nat.reduceSub, ite_true, ite_false, reduceCtorEq, forall_const, Nat.reduceSucc, Nat.zero_add, Nat.add_zero, Nat.le_refl, Nat.zero_le, Nat.reducePow, Int.reduceNeg, Nat.reduceMul, eq_self, Int.cast_ofNat_Int, Int.toNat_natCast, iR, lR, Int.reduceEq, Int.reduceLT, Int.reduceLE, Int.reduceNe, not_false_eq_true, not_true_eq_false, false_implies, true_implies, Int.reduceAdd, Int.reduceSub, Int.reduceMul, Int.reduceToNat, implies_true, or_true, true_or, or_false, false_or]
    refine ⟨by omega, fun z => h116 _ _ hlt ?_, fun z => ⟨by omega, h116 _ _ hlt ?_⟩⟩
    · unfold lvl
      rw [hks]
      show 0 = if onP th ft fl side s = true then c else 0
      rw [if_neg (fun q => by have := hb.mpr q; omega)]
    · unfold lvl
      rw [hks]
      show _ = if onP th ft fl side s = true then c else 0
      rw [if_pos (hb.mp (by omega))]
      exact (hm2 k.toNat s c hks).2
  refine B_X11_counted_5 C hR (k_X11_far l) (by decide) _ _ _ ?_
  simp only [c_iadd, c_isub, c_imul, c_ladd, c_lsub, c_lmul, c_ineg, c_lneg, c_ic, c_lc, c_iload, c_lload, c_aload, c_istore, c_astore, c_lstore, c_iinc, c_dup, c_dup2, c_goto, c_i2l, c_l2i, c_idiv, c_ldiv, c_lrem, c_lshl, c_gi, c_gl, c_gr, c_pi, c_pz, c_pl, c_iald, c_lald, c_bald, c_aald, c_iast, c_last, c_bast, c_callV, c_callS, c_mmax, c_mmin, c_mabs, c_mmaxl, c_mabsl, c_iret, c_zret, c_lret, c_vret, c_tsw, c_lsw, c_icmp_eq, c_icmp_ne, c_icmp_lt, c_icmp_ge, c_icmp_gt, c_icmp_le, c_if_eq, c_if_ne, c_if_lt, c_if_ge, c_if_gt, c_if_le, c_lcmp_eq, c_lcmp_ne, c_lcmp_lt, c_lcmp_ge, c_lcmp_gt, c_lcmp_le, c_lraw_eq, c_lraw_lt, c_lraw_ge, c_lraw_gt, c_lraw_le, acat, scat, tswP, pops, st1, st2, klo, pad, elo, List.getElem?_cons_zero, List.getElem?_cons_succ, List.getElem?_nil, List.set_cons_zero, List.set_cons_succ, List.set_nil, Option.toList_some, Option.toList_none, List.cons_append, List.nil_append, List.length_cons, List.length_nil, stc_ap, stm_ap, false_and, and_false, and_self, true_and, and_true, Nat.reduceEqDiff, reduceIte, al_12, al_13, al_14, al_15, al_16, al_17, al_18, al_19, al_20, al_21, al_22, al_23, al_24, al_25, al_26, al_27, al_28, al_29, al_30, al_31, al_32, al_33, al_34, al_35, al_36, al_37, al_38, al_39, al_40, al_41, al_42, al_43, al_44, al_45, al_46, al_47, al_48, al_49, al_50, al_51, al_52, al_53, al_54, al_55, at_12, at_13, at_14, at_15, at_16, at_17, at_18, at_19, at_20, at_21, at_22, at_23, at_24, at_25, at_26, at_27, at_28, at_29, at_30, at_31, at_32, at_33, at_34, at_35, at_36, at_37, at_38, at_39, at_40, at_41, at_42, at_43, at_44, at_45, at_46, at_47, at_48, at_49, at_50, at_51, at_52, at_53, at_54, at_55, cn_0, cn_1, cn_2, cn_3, cn_4, cn_5, cn_6, cn_7, cn_8, cn_9, cn_10, cn_11, cn_12, cn_13, cn_14, cn_15, cn_16, cn_17, cn_18, cn_19, cn_20, cn_21, cn_22, cn_23, cn_24, cn_25, cn_26, cn_27, cn_28, cn_29, cn_30, cn_31, cn_32, cn_33, cn_34, cn_35, cn_36, cn_37, cn_38, cn_39, cn_40, cn_41, cn_42, cn_43, cn_44, cn_45, cn_46, cn_47, cn_48, cn_49, cn_50, cn_51, cn_52, cn_53, cn_54, cn_55, Nat.reduceAdd, Nat.reduceLT, Nat.reduceLeDiff, Nat.lt_add_one, Nat.zero_lt_succ, Nat.reduceSub, ite_true, ite_false, reduceCtorEq, forall_const, Nat.reduceSucc, Nat.zero_add, Nat.add_zero, Nat.le_refl, Nat.zero_le, Nat.reducePow, Int.reduceNeg, Nat.reduceMul, eq_self, Int.cast_ofNat_Int, Int.toNat_natCast, iR, lR, Int.reduceEq, Int.reduceLT, Int.reduceLE, Int.reduceNe, not_false_eq_true, not_true_eq_false, false_implies, true_implies, Int.reduceAdd, Int.reduceSub, Int.reduceMul, Int.reduceToNat, implies_true, or_true, true_or, or_false, false_or, T_X11_far, hm1, hth, hft, hfl]
  refine ⟨by omega, by omega, fun z => ?_, fun z => ?_⟩
  · rw [show k.toNat = ks.length by omega]
    exact hP
  obtain ⟨sv, cv0, hks⟩ := hel (by omega)
  have e35 := (hm2 k.toNat sv cv0 hks).1
  have hbb := hb3 sv cv0 (List.mem_of_getElem? hks)
  rw [e35]
  have za : ∀ d : Int, (-1000000000000 ≤ d ∧ d ≤ 1000000000000) → 0 ≤ zab d ∧ zab d ≤ 1000000000000 := fun d hd => by unfold zab; split <;> omega
  have z1 := za _ hb2
  have z2 := za _ hbb.2
  refine ⟨by omega, fun y => ⟨by omega, fun y2 => ⟨by omega, by omega, by omega, by omega, by omega, fun y3 => h97 0 sv cv0 (by omega) hks (Or.inl rfl) ?_, fun y3 => h97 1 sv cv0 (by omega) hks (Or.inr rfl) ?_⟩, fun y2 => ⟨by omega, hbb.1, hb1, fun y3 => h97 0 sv cv0 (by omega) hks (Or.inl rfl) ?_, fun y3 => h97 1 sv cv0 (by omega) hks (Or.inr rfl) ?_⟩⟩, fun y => ⟨by omega, hbb.1, hb1, fun y3 => h97 0 sv cv0 (by omega) hks (Or.inl rfl) ?_, fun y3 => h97 1 sv cv0 (by omega) hks (Or.inr rfl) ?_⟩⟩
  · rw [onP_iff]; constructor
    · intro h; omega
    · intro h; omega
  · rw [onP_iff]; constructor
    · intro h; omega
    · intro h; rfl
  · rw [onP_iff]; constructor
    · intro h; omega
    · intro h; omega
  · rw [onP_iff]; constructor
    · intro h; omega
    · intro h; rfl
  · rw [onP_iff]; constructor
    · intro h; omega
    · intro h; omega
  · rw [onP_iff]; constructor
    · intro h; omega
    · intro h; rfl
