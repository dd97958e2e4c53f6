/-! CloudBench$Roll: the least one left, which are called different; CloudBench.held; the reference's held -/
/-- the i-th share is less than the j-th -/
def shl (c t : Nat → Int) (i j : Nat) : Prop := c i * t j < c j * t i
/-- the i-th comes ahead of the j-th -/
def prec (c t : Nat → Int) (i j : Nat) : Prop := shl c t i j ∨ (¬ shl c t j i ∧ i < j)
theorem shl_tr {c t : Nat → Int} {i l j : Nat} (hi : 0 < t i) (hl : 0 < t l) (hj : 0 < t j) (h1 : shl c t i l) (h2 : ¬ shl c t j l) : shl c t i j := by
  unfold shl at *
  apply Classical.byContradiction
  intro h3
  have a1 : c j * t i * t l ≤ c i * t j * t l := Int.mul_le_mul_of_nonneg_right (by omega) (by omega)
  have a2 : c i * t l * t j < c l * t i * t j := Int.mul_lt_mul_of_pos_right h1 hj
  have a3 : c l * t j * t i ≤ c j * t l * t i := Int.mul_le_mul_of_nonneg_right (by omega) (by omega)
  have e1 : c j * t i * t l = c j * t l * t i := by rw [Int.mul_assoc, Int.mul_comm (t i), ← Int.mul_assoc]
  have e2 : c i * t j * t l = c i * t l * t j := by rw [Int.mul_assoc, Int.mul_comm (t j), ← Int.mul_assoc]
  have e3 : c l * t j * t i = c l * t i * t j := by rw [Int.mul_assoc, Int.mul_comm (t j), ← Int.mul_assoc]
  omega
theorem shl_tr2 {c t : Nat → Int} {i l j : Nat} (hi : 0 < t i) (hl : 0 < t l) (hj : 0 < t j) (h1 : ¬ shl c t l i) (h2 : shl c t l j) : shl c t i j := by
  apply Classical.byContradiction
  intro h3
  exact h1 (shl_tr hl hj hi h2 h3)
theorem shl_as {c t : Nat → Int} {i j : Nat} (h : shl c t i j) : ¬ shl c t j i := by
  unfold shl at *
  omega
theorem prec_as {c t : Nat → Int} {i j : Nat} (h1 : prec c t i j) (h2 : prec c t j i) : False := by
  rcases h1 with h1 | h1
  · rcases h2 with h2 | h2
    · exact shl_as h1 h2
    · exact h2.1 h1
  · rcases h2 with h2 | h2
    · exact h1.1 h2
    · omega
theorem prec_tr {c t : Nat → Int} {i l j : Nat} (hi : 0 < t i) (hl : 0 < t l) (hj : 0 < t j) (h1 : prec c t i l) (h2 : prec c t l j) : prec c t i j := by
  rcases h1 with h1 | h1
  · rcases h2 with h2 | h2
    · exact Or.inl (shl_tr hi hl hj h1 (shl_as h2))
    · exact Or.inl (shl_tr hi hl hj h1 h2.1)
  · rcases h2 with h2 | h2
    · exact Or.inl (shl_tr2 hi hl hj h1.1 h2)
    · refine Or.inr ⟨fun z => ?_, by omega⟩
      exact h2.1 (shl_tr hj hi hl z (fun w => h1.1 w))
/-- the LIST in bounds -/
def LI (c t d : Nat → Int) (n : Int) : Prop := (0 ≤ n ∧ n ≤ 20) ∧ ∀ j : Nat, (j : Int) < n → (0 ≤ c j ∧ c j < 9223372036854775808) ∧ (0 < t j ∧ t j < 9223372036854775808) ∧ (d j = 0 ∨ d j = 1)
theorem cmpS_ge {c t : Nat → Int} {i j : Nat} : 0 ≤ cmpS (c i) (t i) (c j) (t j) ↔ ¬ shl c t i j := by
  unfold cmpS shl
  split
  · omega
  · split <;> omega
theorem cmpS_in (a b c d : Int) : -1 ≤ cmpS a b c d ∧ cmpS a b c d ≤ 1 := by
  unfold cmpS
  split
  · omega
  · split <;> omega
/-- the least one of those that aren't called yet -/
def lst1 (c t d : Nat → Int) (n r : Int) : Prop := (r = -1 ∧ ∀ j : Nat, (j : Int) < n → d j = 1) ∨ ((0 ≤ r ∧ r < n) ∧ d r.toNat = 0 ∧ ∀ j : Nat, (j : Int) < n → d j = 0 → j ≠ r.toNat → prec c t r.toNat j)
def T_X7_leastLeft : Ct := fun as M P => match as with
  | [.inr (some (g, s))] => g = 7 ∧ s = 0 ∧ LI (M 24 0) (M 25 0) (M 26 0) (M 7 0 3) ∧ ∀ r : Int, lst1 (M 24 0) (M 25 0) (M 26 0) (M 7 0 3) r → P (some (zi r)) M
  | _ => False
theorem k_X7_leastLeft (l : Launch) : MetT l yX7_leastLeft cX7_leastLeft 3 (some .int) 2 T_X7_leastLeft := by
  refine MetT.of (by decide +kernel) (fun as M P h => by unfold T_X7_leastLeft at h; split at h <;> first | (simp [elo]; done) | exact h.elim) (fun x as M P h C hR => ?_)
  unfold T_X7_leastLeft at h
  split at h
  rotate_left
  · exact h.elim
  rename_i g s
  obtain ⟨rfl, rfl, ⟨hn, hL⟩, hP⟩ := h
  refine B_X7_leastLeft_0 C _ _ _ ?_
  simp only [c_iadd, c_isub, c_imul, c_ladd, c_lsub, c_lmul, c_ineg, c_lneg, c_ic, c_lc, c_iload, c_lload, c_aload, c_istore, c_astore, c_lstore, c_iinc, c_dup, c_dup2, c_goto, c_i2l, c_l2i, c_idiv, c_ldiv, c_lrem, c_lshl, c_gi, c_gl, c_gr, c_pi, c_pz, c_pl, c_iald, c_lald, c_bald, c_aald, c_iast, c_last, c_bast, c_callV, c_callS, c_mmax, c_mmin, c_mabs, c_mmaxl, c_mabsl, c_iret, c_zret, c_lret, c_vret, c_tsw, c_lsw, c_icmp_eq, c_icmp_ne, c_icmp_lt, c_icmp_ge, c_icmp_gt, c_icmp_le, c_if_eq, c_if_ne, c_if_lt, c_if_ge, c_if_gt, c_if_le, c_lcmp_eq, c_lcmp_ne, c_lcmp_lt, c_lcmp_ge, c_lcmp_gt, c_lcmp_le, c_lraw_eq, c_lraw_lt, c_lraw_ge, c_lraw_gt, c_lraw_le, acat, scat, tswP, pops, st1, st2, klo, pad, elo, List.getElem?_cons_zero, List.getElem?_cons_succ, List.getElem?_nil, List.set_cons_zero, List.set_cons_succ, List.set_nil, Option.toList_some, Option.toList_none, List.cons_append, List.nil_append, List.length_cons, List.length_nil, stc_ap, stm_ap, false_and, and_false, and_self, true_and, and_true, Nat.reduceEqDiff, reduceIte, al_12, al_13, al_14, al_15, al_16, al_17, al_18, al_19, al_20, al_21, al_22, al_23, al_24, al_25, al_26, al_27, al_28, al_29, al_30, al_31, al_32, al_33, al_34, al_35, al_36, al_37, al_38, al_39, al_40, al_41, al_42, al_43, al_44, al_45, al_46, al_47, al_48, al_49, al_50, al_51, al_52, al_53, al_54, al_55, at_12, at_13, at_14, at_15, at_16, at_17, at_18, at_19, at_20, at_21, at_22, at_23, at_24, at_25, at_26, at_27, at_28, at_29, at_30, at_31, at_32, at_33, at_34, at_35, at_36, at_37, at_38, at_39, at_40, at_41, at_42, at_43, at_44, at_45, at_46, at_47, at_48, at_49, at_50, at_51, at_52, at_53, at_54, at_55, cn_0, cn_1, cn_2, cn_3, cn_4, cn_5, cn_6, cn_7, cn_8, cn_9, cn_10, cn_11, cn_12, cn_13, cn_14, cn_15, cn_16, cn_17, cn_18, cn_19, cn_20, cn_21, cn_22, cn_23, cn_24, cn_25, cn_26, cn_27, cn_28, cn_29, cn_30, cn_31, cn_32, cn_33, cn_34, cn_35, cn_36, cn_37, cn_38, cn_39, cn_40, cn_41, cn_42, cn_43, cn_44, cn_45, cn_46, cn_47, cn_48, cn_49, cn_50, cn_51, cn_52, cn_53, cn_54, cn_55, Nat.reduceAdd, Nat.reduceLT, Nat.reduceLeDiff, Nat.lt_add_one, Nat.zero_lt_succ, Nat.reduceSub, ite_true, ite_false, reduceCtorEq, forall_const, Nat.reduceSucc, Nat.zero_add, Nat.add_zero, Nat.le_refl, Nat.zero_le, Nat.reducePow, Int.reduceNeg, Nat.reduceMul, eq_self, Int.cast_ofNat_Int, Int.toNat_natCast, iR, lR, Int.reduceEq, Int.reduceLT, Int.reduceLE, Int.reduceNe, not_false_eq_true, not_true_eq_false, false_implies, true_implies, Int.reduceAdd, Int.reduceSub, Int.reduceMul, Int.reduceToNat, implies_true, or_true, true_or, or_false, false_or]
  suffices hh : ∀ (i : Int) (M' : Mm), (M = M' ∧ 0 ≤ i ∧ i ≤ M 7 0 3) → ∀ r : Int, lst1 (M 24 0) (M 25 0) (M 26 0) i r → J x 4 [some (zr 7 0), some (zi r), some (zi i)] [] M' by
    exact hh 0 M ⟨rfl, by omega, by omega⟩ (-1) (Or.inl ⟨rfl, fun j hj => by omega⟩)
  refine loopU (M 7 0 3) _ _ ?_
  rintro i M' ⟨rfl, hi, hi2⟩ ih r hr
  have h60 : ∀ r : Int, i < M 7 0 3 → lst1 (M 24 0) (M 25 0) (M 26 0) (i + 1) r → J x 60 [some (zr 7 0), some (zi r), some (zi i)] [] M := by
    intro r hlt hr
    refine B_X7_leastLeft_60 C _ _ _ ?_
    simp only [c_iadd, c_isub, c_imul, c_ladd, c_lsub, c_lmul, c_ineg, c_lneg, c_ic, c_lc, c_iload, c_lload, c_aload, c_istore, c_astore, c_lstore, c_iinc, c_dup, c_dup2, c_goto, c_i2l, c_l2i, c_idiv, c_ldiv, c_lrem, c_lshl, c_gi, c_gl, c_gr, c_pi, c_pz, c_pl, c_iald, c_lald, c_bald, c_aald, c_iast, c_last, c_bast, c_callV, c_callS, c_mmax, c_mmin, c_mabs, c_mmaxl, c_mabsl, c_iret, c_zret, c_lret, c_vret, c_tsw, c_lsw, c_icmp_eq, c_icmp_ne, c_icmp_lt, c_icmp_ge, c_icmp_gt, c_icmp_le, c_if_eq, c_if_ne, c_if_lt, c_if_ge, c_if_gt, c_if_le, c_lcmp_eq, c_lcmp_ne, c_lcmp_lt, c_lcmp_ge, c_lcmp_gt, c_lcmp_le, c_lraw_eq, c_lraw_lt, c_lraw_ge, c_lraw_gt, c_lraw_le, acat, scat, tswP, pops, st1, st2, klo, pad, elo, List.getElem?_cons_zero, List.getElem?_cons_succ, List.getElem?_nil, List.set_cons_zero, List.set_cons_succ, List.set_nil, Option.toList_some, Option.toList_none, List.cons_append, List.nil_append, List.length_cons, List.length_nil, stc_ap, stm_ap, false_and, and_false, and_self, true_and, and_true, Nat.reduceEqDiff, reduceIte, al_12, al_13, al_14, al_15, al_16, al_17, al_18, al_19, al_20, al_21, al_22, al_23, al_24, al_25, al_26, al_27, al_28, al_29, al_30, al_31, al_32, al_33, al_34, al_35, al_36, al_37, al_38, al_39, al_40, al_41, al_42, al_43, al_44, al_45, al_46, al_47, al_48, al_49, al_50, al_51, al_52, al_53, al_54, al_55, at_12, at_13, at_14, at_15, at_16, at_17, at_18, at_19, at_20, at_21, at_22, at_23, at_24, at_25, at_26, at_27, at_28, at_29, at_30, at_31, at_32, at_33, at_34, at_35, at_36, at_37, at_38, at_39, at_40, at_41, at_42, at_43, at_44, at_45, at_46, at_47, at_48, at_49, at_50, at_51, at_52, at_53, at_54, at_55, cn_0, cn_1, cn_2, cn_3, cn_4, cn_5, cn_6, cn_7, cn_8, cn_9, cn_10, cn_11, cn_12, cn_13, cn_14, cn_15, cn_16, cn_17, cn_18, cn_19, cn_20, cn_21, cn_22, cn_23, cn_24, cn_25, cn_26, cn_27, cn_28, cn_29, cn_30, cn_31, cn_32, cn_33, cn_34, cn_35, cn_36, cn_37, cn_38, cn_39, cn_40, cn_41, cn_42, cn_43, cn_44, cn_45, cn_46, cn_47, cn_48, cn_49, cn_50, cn_51, cn_52, cn_53, cn_54, cn_55, Nat.reduceAdd, Nat.reduceLT, Nat.reduceLeDiff, Nat.lt_add_one, Nat.zero_lt_succ, Nat.reduceSub, ite_true, ite_false, reduceCtorEq, forall_const, Nat.reduceSucc, Nat.zero_add, Nat.add_zero, Nat.le_refl, Nat.zero_le, Nat.reducePow, Int.reduceNeg, Nat.reduceMul, eq_self, Int.cast_ofNat_Int, Int.toNat_natCast, iR, lR, Int.reduceEq, Int.reduceLT, Int.reduceLE, Int.reduceNe, not_false_eq_true, not_true_eq_false, false_implies, true_implies, Int.reduceAdd, Int.reduceSub, Int.reduceMul, Int.reduceToNat, implies_true, or_true, true_or, or_false, false_or]
    exact ih hlt M ⟨rfl, by omega, by omega⟩ r hr
  have h58 : i < M 7 0 3 → lst1 (M 24 0) (M 25 0) (M 26 0) (i + 1) i → J x 58 [some (zr 7 0), some (zi r), some (zi i)] [] M := by
    intro hlt hr
    refine B_X7_leastLeft_58 C _ _ _ ?_
    simp only [c_iadd, c_isub, c_imul, c_ladd, c_lsub, c_lmul, c_ineg, c_lneg, c_ic, c_lc, c_iload, c_lload, c_aload, c_istore, c_astore, c_lstore, c_iinc, c_dup, c_dup2, c_goto, c_i2l, c_l2i, c_idiv, c_ldiv, c_lrem, c_lshl, c_gi, c_gl, c_gr, c_pi, c_pz, c_pl, c_iald, c_lald, c_bald, c_aald, c_iast, c_last, c_bast, c_callV, c_callS, c_mmax, c_mmin, c_mabs, c_mmaxl, c_mabsl, c_iret, c_zret, c_lret, c_vret, c_tsw, c_lsw, c_icmp_eq, c_icmp_ne, c_icmp_lt, c_icmp_ge, c_icmp_gt, c_icmp_le, c_if_eq, c_if_ne, c_if_lt, c_if_ge, c_if_gt, c_if_le, c_lcmp_eq, c_lcmp_ne, c_lcmp_lt, c_lcmp_ge, c_lcmp_gt, c_lcmp_le, c_lraw_eq, c_lraw_lt, c_lraw_ge, c_lraw_gt, c_lraw_le, acat, scat, tswP, pops, st1, st2, klo, pad, elo, List.getElem?_cons_zero, List.getElem?_cons_succ, List.getElem?_nil, List.set_cons_zero, List.set_cons_succ, List.set_nil, Option.toList_some, Option.toList_none, List.cons_append, List.nil_append, List.length_cons, List.length_nil, stc_ap, stm_ap, false_and, and_false, and_self, true_and, and_true, Nat.reduceEqDiff, reduceIte, al_12, al_13, al_14, al_15, al_16, al_17, al_18, al_19, al_20, al_21, al_22, al_23, al_24, al_25, al_26, al_27, al_28, al_29, al_30, al_31, al_32, al_33, al_34, al_35, al_36, al_37, al_38, al_39, al_40, al_41, al_42, al_43, al_44, al_45, al_46, al_47, al_48, al_49, al_50, al_51, al_52, al_53, al_54, al_55, at_12, at_13, at_14, at_15, at_16, at_17, at_18, at_19, at_20, at_21, at_22, at_23, at_24, at_25, at_26, at_27, at_28, at_29, at_30, at_31, at_32, at_33, at_34, at_35, at_36, at_37, at_38, at_39, at_40, at_41, at_42, at_43, at_44, at_45, at_46, at_47, at_48, at_49, at_50, at_51, at_52, at_53, at_54, at_55, cn_0, cn_1, cn_2, cn_3, cn_4, cn_5, cn_6, cn_7, cn_8, cn_9, cn_10, cn_11, cn_12, cn_13, cn_14, cn_15, cn_16, cn_17, cn_18, cn_19, cn_20, cn_21, cn_22, cn_23, cn_24, cn_25, cn_26, cn_27, cn_28, cn_29, cn_30, cn_31, cn_32, cn_33, cn_34, cn_35, cn_36, cn_37, cn_38, cn_39, cn_40, cn_41, cn_42, cn_43, cn_44, cn_45, cn_46, cn_47, cn_48, cn_49, cn_50, cn_51, cn_52, cn_53, cn_54, cn_55, Nat.reduceAdd, Nat.reduceLT, Nat.reduceLeDiff, Nat.lt_add_one, Nat.zero_lt_succ, Nat.reduceSub, ite_true, ite_false, reduceCtorEq, forall_const, Nat.reduceSucc, Nat.zero_add, Nat.add_zero, Nat.le_refl, Nat.zero_le, Nat.reducePow, Int.reduceNeg, Nat.reduceMul, eq_self, Int.cast_ofNat_Int, Int.toNat_natCast, iR, lR, Int.reduceEq, Int.reduceLT, Int.reduceLE, Int.reduceNe, not_false_eq_true, not_true_eq_false, false_implies, true_implies, Int.reduceAdd, Int.reduceSub, Int.reduceMul, Int.reduceToNat, implies_true, or_true, true_or, or_false, false_or]
    exact h60 i hlt hr
  refine B_X7_leastLeft_4 C hR (k_X7_compareShares l) (by decide) _ _ _ ?_
  simp only [c_iadd, c_isub, c_imul, c_ladd, c_lsub, c_lmul, c_ineg, c_lneg, c_ic, c_lc, c_iload, c_lload, c_aload, c_istore, c_astore, c_lstore, c_iinc, c_dup, c_dup2, c_goto, c_i2l, c_l2i, c_idiv, c_ldiv, c_lrem, c_lshl, c_gi, c_gl, c_gr, c_pi, c_pz, c_pl, c_iald, c_lald, c_bald, c_aald, c_iast, c_last, c_bast, c_callV, c_callS, c_mmax, c_mmin, c_mabs, c_mmaxl, c_mabsl, c_iret, c_zret, c_lret, c_vret, c_tsw, c_lsw, c_icmp_eq, c_icmp_ne, c_icmp_lt, c_icmp_ge, c_icmp_gt, c_icmp_le, c_if_eq, c_if_ne, c_if_lt, c_if_ge, c_if_gt, c_if_le, c_lcmp_eq, c_lcmp_ne, c_lcmp_lt, c_lcmp_ge, c_lcmp_gt, c_lcmp_le, c_lraw_eq, c_lraw_lt, c_lraw_ge, c_lraw_gt, c_lraw_le, acat, scat, tswP, pops, st1, st2, klo, pad, elo, List.getElem?_cons_zero, List.getElem?_cons_succ, List.getElem?_nil, List.set_cons_zero, List.set_cons_succ, List.set_nil, Option.toList_some, Option.toList_none, List.cons_append, List.nil_append, List.length_cons, List.length_nil, stc_ap, stm_ap, false_and, and_false, and_self, true_and, and_true, Nat.reduceEqDiff, reduceIte, al_12, al_13, al_14, al_15, al_16, al_17, al_18, al_19, al_20, al_21, al_22, al_23, al_24, al_25, al_26, al_27, al_28, al_29, al_30, al_31, al_32, al_33, al_34, al_35, al_36, al_37, al_38, al_39, al_40, al_41, al_42, al_43, al_44, al_45, al_46, al_47, al_48, al_49, al_50, al_51, al_52, al_53, al_54, al_55, at_12, at_13, at_14, at_15, at_16, at_17, at_18, at_19, at_20, at_21, at_22, at_23, at_24, at_25, at_26, at_27, at_28, at_29, at_30, at_31, at_32, at_33, at_34, at_35, at_36, at_37, at_38, at_39, at_40, at_41, at_42, at_43, at_44, at_45, at_46, at_47, at_48, at_49, at_50, at_51, at_52, at_53, at_54, at_55, cn_0, cn_1, cn_2, cn_3, cn_4, cn_5, cn_6, cn_7, cn_8, cn_9, cn_10, cn_11, cn_12, cn_13, cn_14, cn_15, cn_16, cn_17, cn_18, cn_19, cn_20, cn_21, cn_22, cn_23, cn_24, cn_25, cn_26, cn_27, cn_28, cn_29, cn_30, cn_31, cn_32, cn_33, cn_34, cn_35, cn_36, cn_37, cn_38, cn_39, cn_40, cn_41, cn_42, cn_43, cn_44, cn_45, cn_46, cn_47, cn_48, cn_49, cn_50, cn_51, cn_52, cn_53, cn_54, cn_55, Nat.reduceAdd, Nat.reduceLT, Nat.reduceLeDiff, Nat.lt_add_one, Nat.zero_lt_succ, Nat.reduceSub, ite_true, ite_false, reduceCtorEq, forall_const, Nat.reduceSucc, Nat.zero_add, Nat.add_zero, Nat.le_refl, Nat.zero_le, Nat.reducePow, Int.reduceNeg, Nat.reduceMul, eq_self, Int.cast_ofNat_Int, Int.toNat_natCast, iR, lR, Int.reduceEq, Int.reduceLT, Int.reduceLE, Int.reduceNe, not_false_eq_true, not_true_eq_false, false_implies, true_implies, Int.reduceAdd, Int.reduceSub, Int.reduceMul, Int.reduceToNat, implies_true, or_true, true_or, or_false, false_or, T_X7_compareShares]
  refine ⟨by omega, by omega, fun z => ?_, fun z => ?_⟩
  · rw [show i = M 7 0 3 by omega] at hr
    exact hP r hr
  have hLi := hL i.toNat (by omega)
  have hrr : -1 ≤ r ∧ r < i := by
    rcases hr with ⟨h1, -⟩ | ⟨h1, -⟩ <;> omega
  refine ⟨by omega, by omega, fun z1 => ⟨by omega, fun z2 => h58 (by omega) ?_, fun z2 => ?_⟩, fun z1 => h60 r (by omega) ?_⟩
  · rcases hr with ⟨h1, h2⟩ | ⟨h1, h2⟩
    · refine Or.inr ⟨by omega, z1, fun j hj hd hne => ?_⟩
      have := h2 j (by omega)
      omega
    · omega
  · have hLr := hL r.toNat (by omega)
    refine ⟨by omega, by omega, by omega, by omega, ⟨hLi.1, hLi.2.1, hLr.1, hLr.2.1⟩, by have := cmpS_in (M 24 0 i.toNat) (M 25 0 i.toNat) (M 24 0 r.toNat) (M 25 0 r.toNat); omega, fun z3 => h60 r (by omega) ?_, fun z3 => h58 (by omega) ?_⟩
    · have z3 := cmpS_ge.mp z3
      rcases hr with ⟨h1, h2⟩ | ⟨h1, h2, h3⟩
      · omega
      · refine Or.inr ⟨by omega, h2, fun j hj hd hne => ?_⟩
        by_cases e : j = i.toNat
        · rw [e]; exact Or.inr ⟨z3, by omega⟩
        · exact h3 j (by omega) hd hne
    · have z3 : shl (M 24 0) (M 25 0) i.toNat r.toNat := Classical.byContradiction fun q => z3 (cmpS_ge.mpr q)
      rcases hr with ⟨h1, h2⟩ | ⟨h1, h2, h3⟩
      · omega
      · refine Or.inr ⟨by omega, z1, fun j hj hd hne => Or.inl ?_⟩
        by_cases e : j = r.toNat
        · rw [e]; exact z3
        · rcases h3 j (by omega) hd e with q | q
          · exact shl_tr hLi.2.1.1 hLr.2.1.1 (hL j (by omega)).2.1.1 z3 (shl_as q)
          · exact shl_tr hLi.2.1.1 hLr.2.1.1 (hL j (by omega)).2.1.1 z3 q.1
  · rcases hr with ⟨h1, h2⟩ | ⟨h1, h2, h3⟩
    · refine Or.inl ⟨h1, fun j hj => ?_⟩
      by_cases e : j = i.toNat
      · rw [e]; omega
      · exact h2 j (by omega)
    · refine Or.inr ⟨by omega, h2, fun j hj hd hne => ?_⟩
      by_cases e : j = i.toNat
      · rw [e] at hd; exact absurd hd z1
      · exact h3 j (by omega) hd hne
/-- the k-th called one: the least of those that no earlier place has -/
def pkd (c t : Nat → Int) (n : Int) (line : Nat → Nat) (k : Nat) : Prop := (line k : Int) < n ∧ (∀ s, s < k → line s ≠ line k) ∧ ∀ j : Nat, (j : Int) < n → (∀ s, s ≤ k → line s ≠ j) → prec c t (line k) j
/-- the i-th is not above p / (q (n - k)) -/
def pss (c t : Nat → Int) (n p q : Int) (i k : Nat) : Prop := c i * (q * (n - k)) ≤ p * t i
def hlD (c t : Nat → Int) (n p q r : Int) (line : Nat → Nat) (df : Nat → Int) : Prop := (0 ≤ r ∧ r ≤ n) ∧ (∀ k : Nat, (k : Int) < r → pkd c t n line k ∧ pss c t n p q (line k) k) ∧ (r < n → pkd c t n line r.toNat ∧ ¬ pss c t n p q (line r.toNat) r.toNat) ∧ ∀ j : Nat, (j : Int) < n → (df j = 0 ∨ df j = 1) ∧ (df j = 1 ↔ ∃ k : Nat, (k : Int) < r ∧ line k = j)
def T_X7_callDifferent : Ct := fun as M P => match as with
  | [.inr (some (g, s)), .inl (.inl p), .inl (.inl q)] => g = 7 ∧ s = 0 ∧ LI (M 24 0) (M 25 0) (M 26 0) (M 7 0 3) ∧ (0 < p ∧ p < q ∧ q ≤ 1000) ∧ ∀ (r : Int) (line : Nat → Nat) (df : Nat → Int), hlD (M 24 0) (M 25 0) (M 7 0 3) p q r line df → P (some (zi r)) (stc M 26 0 df)
  | _ => False
theorem k_X7_callDifferent (l : Launch) : MetT l yX7_callDifferent cX7_callDifferent 5 (some .int) 3 T_X7_callDifferent := by
  refine MetT.of (by decide +kernel) (fun as M P h => by unfold T_X7_callDifferent at h; split at h <;> first | (simp [elo]; done) | exact h.elim) (fun x as M P h C hR => ?_)
  unfold T_X7_callDifferent at h
  split at h
  rotate_left
  · exact h.elim
  rename_i g s p q
  obtain ⟨rfl, rfl, ⟨hn, hL⟩, hpq, hP⟩ := h
  refine B_X7_callDifferent_0 C _ _ _ ?_
  simp only [c_iadd, c_isub, c_imul, c_ladd, c_lsub, c_lmul, c_ineg, c_lneg, c_ic, c_lc, c_iload, c_lload, c_aload, c_istore, c_astore, c_lstore, c_iinc, c_dup, c_dup2, c_goto, c_i2l, c_l2i, c_idiv, c_ldiv, c_lrem, c_lshl, c_gi, c_gl, c_gr, c_pi, c_pz, c_pl, c_iald, c_lald, c_bald, c_aald, c_iast, c_last, c_bast, c_callV, c_callS, c_mmax, c_mmin, c_mabs, c_mmaxl, c_mabsl, c_iret, c_zret, c_lret, c_vret, c_tsw, c_lsw, c_icmp_eq, c_icmp_ne, c_icmp_lt, c_icmp_ge, c_icmp_gt, c_icmp_le, c_if_eq, c_if_ne, c_if_lt, c_if_ge, c_if_gt, c_if_le, c_lcmp_eq, c_lcmp_ne, c_lcmp_lt, c_lcmp_ge, c_lcmp_gt, c_lcmp_le, c_lraw_eq, c_lraw_lt, c_lraw_ge, c_lraw_gt, c_lraw_le, acat, scat, tswP, pops, st1, st2, klo, pad, elo, List.getElem?_cons_zero, List.getElem?_cons_succ, List.getElem?_nil, List.set_cons_zero, List.set_cons_succ, List.set_nil, Option.toList_some, Option.toList_none, List.cons_append, List.nil_append, List.length_cons, List.length_nil, stc_ap, stm_ap, false_and, and_false, and_self, true_and, and_true, Nat.reduceEqDiff, reduceIte, al_12, al_13, al_14, al_15, al_16, al_17, al_18, al_19, al_20, al_21, al_22, al_23, al_24, al_25, al_26, al_27, al_28, al_29, al_30, al_31, al_32, al_33, al_34, al_35, al_36, al_37, al_38, al_39, al_40, al_41, al_42, al_43, al_44, al_45, al_46, al_47, al_48, al_49, al_50, al_51, al_52, al_53, al_54, al_55, at_12, at_13, at_14, at_15, at_16, at_17, at_18, at_19, at_20, at_21, at_22, at_23, at_24, at_25, at_26, at_27, at_28, at_29, at_30, at_31, at_32, at_33, at_34, at_35, at_36, at_37, at_38, at_39, at_40, at_41, at_42, at_43, at_44, at_45, at_46, at_47, at_48, at_49, at_50, at_51, at_52, at_53, at_54, at_55, cn_0, cn_1, cn_2, cn_3, cn_4, cn_5, cn_6, cn_7, cn_8, cn_9, cn_10, cn_11, cn_12, cn_13, cn_14, cn_15, cn_16, cn_17, cn_18, cn_19, cn_20, cn_21, cn_22, cn_23, cn_24, cn_25, cn_26, cn_27, cn_28, cn_29, cn_30, cn_31, cn_32, cn_33, cn_34, cn_35, cn_36, cn_37, cn_38, cn_39, cn_40, cn_41, cn_42, cn_43, cn_44, cn_45, cn_46, cn_47, cn_48, cn_49, cn_50, cn_51, cn_52, cn_53, cn_54, cn_55, Nat.reduceAdd, Nat.reduceLT, Nat.reduceLeDiff, Nat.lt_add_one, Nat.zero_lt_succ, Nat.reduceSub, ite_true, ite_false, reduceCtorEq, forall_const, Nat.reduceSucc, Nat.zero_add, Nat.add_zero, Nat.le_refl, Nat.zero_le, Nat.reducePow, Int.reduceNeg, Nat.reduceMul, eq_self, Int.cast_ofNat_Int, Int.toNat_natCast, iR, lR, Int.reduceEq, Int.reduceLT, Int.reduceLE, Int.reduceNe, not_false_eq_true, not_true_eq_false, false_implies, true_implies, Int.reduceAdd, Int.reduceSub, Int.reduceMul, Int.reduceToNat, implies_true, or_true, true_or, or_false, false_or]
  refine loopU (M 7 0 3) (fun i M' => (0 ≤ i ∧ i ≤ M 7 0 3) ∧ ∃ f : Nat → Int, M' = stc M 26 0 f ∧ ∀ j : Nat, (j : Int) < i → f j = 0) (fun i M' => J x 2 [some (zr 7 0), some (zi p), some (zi q), some (zi i), none] [] M') ?_ 0 M ⟨by omega, M 26 0, (stc_id M 26 0).symm, fun j hj => by omega⟩
  rintro i M' ⟨hi, f, rfl, hf⟩ ih
  refine B_X7_callDifferent_2 C _ _ _ ?_
  simp only [c_iadd, c_isub, c_imul, c_ladd, c_lsub, c_lmul, c_ineg, c_lneg, c_ic, c_lc, c_iload, c_lload, c_aload, c_istore, c_astore, c_lstore, c_iinc, c_dup, c_dup2, c_goto, c_i2l, c_l2i, c_idiv, c_ldiv, c_lrem, c_lshl, c_gi, c_gl, c_gr, c_pi, c_pz, c_pl, c_iald, c_lald, c_bald, c_aald, c_iast, c_last, c_bast, c_callV, c_callS, c_mmax, c_mmin, c_mabs, c_mmaxl, c_mabsl, c_iret, c_zret, c_lret, c_vret, c_tsw, c_lsw, c_icmp_eq, c_icmp_ne, c_icmp_lt, c_icmp_ge, c_icmp_gt, c_icmp_le, c_if_eq, c_if_ne, c_if_lt, c_if_ge, c_if_gt, c_if_le, c_lcmp_eq, c_lcmp_ne, c_lcmp_lt, c_lcmp_ge, c_lcmp_gt, c_lcmp_le, c_lraw_eq, c_lraw_lt, c_lraw_ge, c_lraw_gt, c_lraw_le, acat, scat, tswP, pops, st1, st2, klo, pad, elo, List.getElem?_cons_zero, List.getElem?_cons_succ, List.getElem?_nil, List.set_cons_zero, List.set_cons_succ, List.set_nil, Option.toList_some, Option.toList_none, List.cons_append, List.nil_append, List.length_cons, List.length_nil, stc_ap, stm_ap, false_and, and_false, and_self, true_and, and_true, Nat.reduceEqDiff, reduceIte, al_12, al_13, al_14, al_15, al_16, al_17, al_18, al_19, al_20, al_21, al_22, al_23, al_24, al_25, al_26, al_27, al_28, al_29, al_30, al_31, al_32, al_33, al_34, al_35, al_36, al_37, al_38, al_39, al_40, al_41, al_42, al_43, al_44, al_45, al_46, al_47, al_48, al_49, al_50, al_51, al_52, al_53, al_54, al_55, at_12, at_13, at_14, at_15, at_16, at_17, at_18, at_19, at_20, at_21, at_22, at_23, at_24, at_25, at_26, at_27, at_28, at_29, at_30, at_31, at_32, at_33, at_34, at_35, at_36, at_37, at_38, at_39, at_40, at_41, at_42, at_43, at_44, at_45, at_46, at_47, at_48, at_49, at_50, at_51, at_52, at_53, at_54, at_55, cn_0, cn_1, cn_2, cn_3, cn_4, cn_5, cn_6, cn_7, cn_8, cn_9, cn_10, cn_11, cn_12, cn_13, cn_14, cn_15, cn_16, cn_17, cn_18, cn_19, cn_20, cn_21, cn_22, cn_23, cn_24, cn_25, cn_26, cn_27, cn_28, cn_29, cn_30, cn_31, cn_32, cn_33, cn_34, cn_35, cn_36, cn_37, cn_38, cn_39, cn_40, cn_41, cn_42, cn_43, cn_44, cn_45, cn_46, cn_47, cn_48, cn_49, cn_50, cn_51, cn_52, cn_53, cn_54, cn_55, Nat.reduceAdd, Nat.reduceLT, Nat.reduceLeDiff, Nat.lt_add_one, Nat.zero_lt_succ, Nat.reduceSub, ite_true, ite_false, reduceCtorEq, forall_const, Nat.reduceSucc, Nat.zero_add, Nat.add_zero, Nat.le_refl, Nat.zero_le, Nat.reducePow, Int.reduceNeg, Nat.reduceMul, eq_self, Int.cast_ofNat_Int, Int.toNat_natCast, iR, lR, Int.reduceEq, Int.reduceLT, Int.reduceLE, Int.reduceNe, not_false_eq_true, not_true_eq_false, false_implies, true_implies, Int.reduceAdd, Int.reduceSub, Int.reduceMul, Int.reduceToNat, implies_true, or_true, true_or, or_false, false_or]
  refine ⟨by omega, by omega, fun z => ?_, fun z => ⟨by omega, ih (by omega) _ ⟨by omega, _, stm_on M 26 0 _ f _, fun j hj => ?_⟩⟩⟩
  rotate_left
  · show (if j = i.toNat then 0 else f j) = 0
    split
    · rfl
    · exact hf j (by omega)
  have hf : ∀ j : Nat, (j : Int) < M 7 0 3 → f j = 0 := fun j hj => hf j (by omega)
  clear ih
  refine loopU (M 7 0 3) (fun k M' => (0 ≤ k ∧ k ≤ M 7 0 3) ∧ ∃ (f : Nat → Int) (line : Nat → Nat), M' = stc M 26 0 f ∧ (∀ s : Nat, (s : Int) < k → pkd (M 24 0) (M 25 0) (M 7 0 3) line s ∧ pss (M 24 0) (M 25 0) (M 7 0 3) p q (line s) s) ∧ ∀ j : Nat, (j : Int) < M 7 0 3 → (f j = 0 ∨ f j = 1) ∧ (f j = 1 ↔ ∃ s : Nat, (s : Int) < k ∧ line s = j)) (fun k M' => J x 25 [some (zr 7 0), some (zi p), some (zi q), some (zi k), none] [] M') ?_ 0 _ ⟨by omega, f, fun _ => 0, rfl, fun s hs => by omega, fun j hj => ⟨Or.inl (hf j hj), fun e => by rw [hf j hj] at e; omega, fun ⟨s, hs, _⟩ => by omega⟩⟩
  rintro k M' ⟨hk, f, line, rfl, hpk, hdf⟩ ih
  refine B_X7_callDifferent_25 C hR (k_X7_leastLeft l) (by decide) (k_X7_compareShares l) (by decide) _ _ _ ?_
  simp only [c_iadd, c_isub, c_imul, c_ladd, c_lsub, c_lmul, c_ineg, c_lneg, c_ic, c_lc, c_iload, c_lload, c_aload, c_istore, c_astore, c_lstore, c_iinc, c_dup, c_dup2, c_goto, c_i2l, c_l2i, c_idiv, c_ldiv, c_lrem, c_lshl, c_gi, c_gl, c_gr, c_pi, c_pz, c_pl, c_iald, c_lald, c_bald, c_aald, c_iast, c_last, c_bast, c_callV, c_callS, c_mmax, c_mmin, c_mabs, c_mmaxl, c_mabsl, c_iret, c_zret, c_lret, c_vret, c_tsw, c_lsw, c_icmp_eq, c_icmp_ne, c_icmp_lt, c_icmp_ge, c_icmp_gt, c_icmp_le, c_if_eq, c_if_ne, c_if_lt, c_if_ge, c_if_gt, c_if_le, c_lcmp_eq, c_lcmp_ne, c_lcmp_lt, c_lcmp_ge, c_lcmp_gt, c_lcmp_le, c_lraw_eq, c_lraw_lt, c_lraw_ge, c_lraw_gt, c_lraw_le, acat, scat, tswP, pops, st1, st2, klo, pad, elo, List.getElem?_cons_zero, List.getElem?_cons_succ, List.getElem?_nil, List.set_cons_zero, List.set_cons_succ, List.set_nil, Option.toList_some, Option.toList_none, List.cons_append, List.nil_append, List.length_cons, List.length_nil, stc_ap, stm_ap, false_and, and_false, and_self, true_and, and_true, Nat.reduceEqDiff, reduceIte, al_12, al_13, al_14, al_15, al_16, al_17, al_18, al_19, al_20, al_21, al_22, al_23, al_24, al_25, al_26, al_27, al_28, al_29, al_30, al_31, al_32, al_33, al_34, al_35, al_36, al_37, al_38, al_39, al_40, al_41, al_42, al_43, al_44, al_45, al_46, al_47, al_48, al_49, al_50, al_51, al_52, al_53, al_54, al_55, at_12, at_13, at_14, at_15, at_16, at_17, at_18, at_19, at_20, at_21, at_22, at_23, at_24, at_25, at_26, at_27, at_28, at_29, at_30, at_31, at_32, at_33, at_34, at_35, at_36, at_37, at_38, at_39, at_40, at_41, at_42, at_43, at_44, at_45, at_46, at_47, at_48, at_49, at_50, at_51, at_52, at_53, at_54, at_55, cn_0, cn_1, cn_2, cn_3, cn_4, cn_5, cn_6, cn_7, cn_8, cn_9, cn_10, cn_11, cn_12, cn_13, cn_14, cn_15, cn_16, cn_17, cn_18, cn_19, cn_20, cn_21, cn_22, cn_23, cn_24, cn_25, cn_26, cn_27, cn_28, cn_29, cn_30, cn_31, cn_32, cn_33, cn_34, cn_35, cn_36, cn_37, cn_38, cn_39, cn_40, cn_41, cn_42, cn_43, cn_44, cn_45, cn_46, cn_47, cn_48, cn_49, cn_50, cn_51, cn_52, cn_53, cn_54, cn_55, Nat.reduceAdd, Nat.reduceLT, Nat.reduceLeDiff, Nat.lt_add_one, Nat.zero_lt_succ, Nat.reduceSub, ite_true, ite_false, reduceCtorEq, forall_const, Nat.reduceSucc, Nat.zero_add, Nat.add_zero, Nat.le_refl, Nat.zero_le, Nat.reducePow, Int.reduceNeg, Nat.reduceMul, eq_self, Int.cast_ofNat_Int, Int.toNat_natCast, iR, lR, Int.reduceEq, Int.reduceLT, Int.reduceLE, Int.reduceNe, not_false_eq_true, not_true_eq_false, false_implies, true_implies, Int.reduceAdd, Int.reduceSub, Int.reduceMul, Int.reduceToNat, implies_true, or_true, true_or, or_false, false_or, T_X7_leastLeft, T_X7_compareShares, stc_self]
  refine ⟨by omega, by omega, fun z => ?_, fun z => ?_⟩
  · have e : k = M 7 0 3 := by omega
    rw [e] at hpk hdf
    exact hP _ line f ⟨by omega, hpk, fun h => by omega, hdf⟩
  refine ⟨⟨by show 0 ≤ M 7 0 3 ∧ M 7 0 3 ≤ 20; omega, fun j hj => ⟨(hL j hj).1, (hL j hj).2.1, (hdf j hj).1⟩⟩, fun r hr => ?_⟩
  -- there is one left: fewer than all have been called
  have hle : r = -1 → False := by
    intro e
    rcases hr with ⟨-, h2⟩ | ⟨h1, -⟩
    · -- places called are k in number, and differ: each of the n has one of them
      have hinj : ∀ n k : Nat, ∀ line : Nat → Nat, (∀ j, j < n → ∃ s, s < k ∧ line s = j) → n ≤ k := by
        intro n
        induction n with
        | zero => intro k _ _; exact Nat.zero_le k
        | succ n ih =>
          intro k line h
          obtain ⟨s, hs, he⟩ := h n (by omega)
          cases k with
          | zero => omega
          | succ k =>
            refine Nat.succ_le_succ (ih k (fun u => if u = s then line k else line u) fun j hj => ?_)
            obtain ⟨u, hu, hue⟩ := h j (by omega)
            by_cases e1 : u = k
            · subst e1
              by_cases e2 : s = u
              · subst e2; omega
              · exact ⟨s, by omega, by show (if s = s then line u else line s) = j; rw [if_pos rfl, hue]⟩
            · by_cases e2 : u = s
              · subst e2; omega
              · exact ⟨u, by omega, by show (if u = s then line k else line u) = j; rw [if_neg e2, hue]⟩
      have := hinj (M 7 0 3).toNat k.toNat line fun j hj => by
        obtain ⟨s, hs, he⟩ := (hdf j (by omega)).2.mp (h2 j (by omega))
        exact ⟨s, by omega, he⟩
      omega
    · omega
  rcases hr with ⟨e, -⟩ | ⟨hr, hd0, hleast⟩
  · exact absurd e hle
  have hLr := hL r.toNat (by omega)
  have hqn : 0 < q * (M 7 0 3 - k) ∧ q * (M 7 0 3 - k) ≤ 1000 * 20 := by
    refine ⟨Int.mul_pos (by omega) (by omega), ?_⟩
    have a1 : q * (M 7 0 3 - k) ≤ 1000 * (M 7 0 3 - k) := Int.mul_le_mul_of_nonneg_right (by omega) (by omega)
    omega
  have hpk2 : pkd (M 24 0) (M 25 0) (M 7 0 3) (fun s => if s = k.toNat then r.toNat else line s) k.toNat := by
    refine ⟨by show ((if k.toNat = k.toNat then r.toNat else _ : Nat) : Int) < _; rw [if_pos rfl]; omega, fun s hs => ?_, fun j hj hne => ?_⟩
    · show (if s = k.toNat then r.toNat else line s) ≠ (if k.toNat = k.toNat then r.toNat else _)
      rw [if_neg (by omega), if_pos rfl]
      intro e
      have := (hdf r.toNat (by omega)).2.mpr ⟨s, by omega, e⟩
      omega
    · show prec _ _ (if k.toNat = k.toNat then r.toNat else _) j
      rw [if_pos rfl]
      refine hleast j hj ?_ ?_
      · rcases (hdf j hj).1 with h | h
        · exact h
        · obtain ⟨s, hs, he⟩ := (hdf j hj).2.mp h
          exact absurd (by show (if s = k.toNat then r.toNat else line s) = j; rw [if_neg (by omega)]; exact he) (hne s (by omega))
      · intro e
        exact hne k.toNat (Nat.le_refl _) (by show (if k.toNat = k.toNat then r.toNat else _) = j; rw [if_pos rfl, e])
  have hold : ∀ s : Nat, (s : Int) < k → pkd (M 24 0) (M 25 0) (M 7 0 3) (fun s => if s = k.toNat then r.toNat else line s) s ∧ pss (M 24 0) (M 25 0) (M 7 0 3) p q (if s = k.toNat then r.toNat else line s) s := by
    intro s hs
    obtain ⟨⟨a1, a2, a3⟩, a4⟩ := hpk s hs
    have e : ∀ u, u ≤ s → (if u = k.toNat then r.toNat else line u) = line u := fun u hu => if_neg (by omega)
    refine ⟨⟨?_, fun u hu => ?_, fun j hj hne => ?_⟩, ?_⟩
    · show ((if s = k.toNat then r.toNat else line s : Nat) : Int) < _
      rw [e s (Nat.le_refl s)]; exact a1
    · show (if u = k.toNat then r.toNat else line u) ≠ (if s = k.toNat then r.toNat else line s)
      rw [e u (by omega), e s (Nat.le_refl s)]; exact a2 u hu
    · show prec _ _ (if s = k.toNat then r.toNat else line s) j
      rw [e s (Nat.le_refl s)]
      exact a3 j hj fun u hu => by
        have := hne u hu
        rw [show (fun s => if s = k.toNat then r.toNat else line s) u = (if u = k.toNat then r.toNat else line u) from rfl, e u hu] at this
        exact this
    · rw [e s (Nat.le_refl s)]; exact a4
  have hdf2 : ∀ j : Nat, (j : Int) < M 7 0 3 → ((∃ s : Nat, (s : Int) < k ∧ line s = j) ↔ ∃ s : Nat, (s : Int) < k ∧ (if s = k.toNat then r.toNat else line s) = j) := by
    intro j hj
    constructor
    · rintro ⟨s, hs, he⟩; exact ⟨s, hs, by rw [if_neg (by omega)]; exact he⟩
    · rintro ⟨s, hs, he⟩; exact ⟨s, hs, by rw [if_neg (by omega)] at he; exact he⟩
  have hcz := cmpS_in (M 24 0 r.toNat) (M 25 0 r.toNat) p (q * (M 7 0 3 - k))
  have hps : cmpS (M 24 0 r.toNat) (M 25 0 r.toNat) p (q * (M 7 0 3 - k)) ≤ 0 ↔ pss (M 24 0) (M 25 0) (M 7 0 3) p q r.toNat k.toNat := by
    unfold cmpS pss
    rw [show ((k.toNat : Nat) : Int) = k by omega]
    split
    · omega
    · split <;> omega
  refine ⟨by omega, fun z2 => by omega, fun z2 => ⟨by omega, by omega, by omega, by omega, by omega, ⟨hLr.1, hLr.2.1, by omega, by omega⟩, by omega, fun z3 => ⟨by omega, ?_⟩, fun z3 => ?_⟩⟩
  · refine J_fgt [true, true, true, true, false] (ih (by omega) _ ⟨by omega, _, fun s => if s = k.toNat then r.toNat else line s, stm_on M 26 0 _ f _, fun s hs => ?_, fun j hj => ?_⟩)
    · by_cases e : s = k.toNat
      · subst e
        refine ⟨hpk2, ?_⟩
        show pss _ _ _ p q (if k.toNat = k.toNat then r.toNat else _) k.toNat
        rw [if_pos rfl]
        exact hps.mp z3
      · exact hold s (by omega)
    · show ((if j = r.toNat then 1 else f j) = 0 ∨ (if j = r.toNat then 1 else f j) = 1) ∧ ((if j = r.toNat then 1 else f j) = 1 ↔ _)
      by_cases e : j = r.toNat
      · rw [if_pos e]
        exact ⟨Or.inr rfl, fun _ => ⟨k.toNat, by omega, by show (if k.toNat = k.toNat then r.toNat else _) = j; rw [if_pos rfl, e]⟩, fun _ => rfl⟩
      · rw [if_neg e]
        refine ⟨(hdf j hj).1, fun h => ?_, fun ⟨s, hs, he⟩ => ?_⟩
        · obtain ⟨s, hs, he⟩ := (hdf j hj).2.mp h
          exact ⟨s, by omega, by show (if s = k.toNat then r.toNat else line s) = j; rw [if_neg (by omega)]; exact he⟩
        · by_cases e2 : s = k.toNat
          · exact absurd (by have : (if s = k.toNat then r.toNat else line s) = j := he; rw [if_pos e2] at this; exact this.symm) e
          · have : (if s = k.toNat then r.toNat else line s) = j := he
            rw [if_neg e2] at this
            exact (hdf j hj).2.mpr ⟨s, by omega, this⟩
  · refine hP k (fun s => if s = k.toNat then r.toNat else line s) f ⟨by omega, hold, fun _ => ⟨hpk2, ?_⟩, fun j hj => ⟨(hdf j hj).1, (hdf j hj).2.trans (hdf2 j hj)⟩⟩
    show ¬ pss _ _ _ p q (if k.toNat = k.toNat then r.toNat else _) k.toNat
    rw [if_pos rfl]
    exact fun h => z3 (hps.mpr h)
def T_X10_held : Ct := fun as M P => match as with
  | [.inr (some (g, s)), .inl (.inl p), .inl (.inl q)] => g = 10 ∧ s = 0 ∧ iR p ∧ iR q ∧ LI (M 24 0) (M 25 0) (M 26 0) (M 7 0 3) ∧ ((0 < p ∧ p < q ∧ q ≤ 1000) → ∀ (r : Int) (line : Nat → Nat) (df : Nat → Int), hlD (M 24 0) (M 25 0) (M 7 0 3) p q r line df → P (some (zi r)) (stc M 26 0 df)) ∧ (¬ (0 < p ∧ p < q ∧ q ≤ 1000) → P (some (zi (-1))) M)
  | _ => False
theorem k_X10_held (l : Launch) : MetT l yX10_held cX10_held 3 (some .int) 4 T_X10_held := by
  refine MetT.of (by decide +kernel) (fun as M P h => by unfold T_X10_held at h; split at h <;> first | (simp [elo]; done) | exact h.elim) (fun x as M P h C hR => ?_)
  unfold T_X10_held at h
  split at h
  rotate_left
  · exact h.elim
  rename_i g s p q
  obtain ⟨rfl, rfl, hp, hq, hL, h1, h2⟩ := h
  refine B_X10_held_0 C hR (k_X10_isChance l) (by decide) (k_X7_callDifferent l) (by decide) _ _ _ ?_
  simp only [c_iadd, c_isub, c_imul, c_ladd, c_lsub, c_lmul, c_ineg, c_lneg, c_ic, c_lc, c_iload, c_lload, c_aload, c_istore, c_astore, c_lstore, c_iinc, c_dup, c_dup2, c_goto, c_i2l, c_l2i, c_idiv, c_ldiv, c_lrem, c_lshl, c_gi, c_gl, c_gr, c_pi, c_pz, c_pl, c_iald, c_lald, c_bald, c_aald, c_iast, c_last, c_bast, c_callV, c_callS, c_mmax, c_mmin, c_mabs, c_mmaxl, c_mabsl, c_iret, c_zret, c_lret, c_vret, c_tsw, c_lsw, c_icmp_eq, c_icmp_ne, c_icmp_lt, c_icmp_ge, c_icmp_gt, c_icmp_le, c_if_eq, c_if_ne, c_if_lt, c_if_ge, c_if_gt, c_if_le, c_lcmp_eq, c_lcmp_ne, c_lcmp_lt, c_lcmp_ge, c_lcmp_gt, c_lcmp_le, c_lraw_eq, c_lraw_lt, c_lraw_ge, c_lraw_gt, c_lraw_le, acat, scat, tswP, pops, st1, st2, klo, pad, elo, List.getElem?_cons_zero, List.getElem?_cons_succ, List.getElem?_nil, List.set_cons_zero, List.set_cons_succ, List.set_nil, Option.toList_some, Option.toList_none, List.cons_append, List.nil_append, List.length_cons, List.length_nil, stc_ap, stm_ap, false_and, and_false, and_self, true_and, and_true, Nat.reduceEqDiff, reduceIte, al_12, al_13, al_14, al_15, al_16, al_17, al_18, al_19, al_20, al_21, al_22, al_23, al_24, al_25, al_26, al_27, al_28, al_29, al_30, al_31, al_32, al_33, al_34, al_35, al_36, al_37, al_38, al_39, al_40, al_41, al_42, al_43, al_44, al_45, al_46, al_47, al_48, al_49, al_50, al_51, al_52, al_53, al_54, al_55, at_12, at_13, at_14, at_15, at_16, at_17, at_18, at_19, at_20, at_21, at_22, at_23, at_24, at_25, at_26, at_27, at_28, at_29, at_30, at_31, at_32, at_33, at_34, at_35, at_36, at_37, at_38, at_39, at_40, at_41, at_42, at_43, at_44, at_45, at_46, at_47, at_48, at_49, at_50, at_51, at_52, at_53, at_54, at_55, cn_0, cn_1, cn_2, cn_3, cn_4, cn_5, cn_6, cn_7, cn_8, cn_9, cn_10, cn_11, cn_12, cn_13, cn_14, cn_15, cn_16, cn_17, cn_18, cn_19, cn_20, cn_21, cn_22, cn_23, cn_24, cn_25, cn_26, cn_27, cn_28, cn_29, cn_30, cn_31, cn_32, cn_33, cn_34, cn_35, cn_36, cn_37, cn_38, cn_39, cn_40, cn_41, cn_42, cn_43, cn_44, cn_45, cn_46, cn_47, cn_48, cn_49, cn_50, cn_51, cn_52, cn_53, cn_54, cn_55, Nat.reduceAdd, Nat.reduceLT, Nat.reduceLeDiff, Nat.lt_add_one, Nat.zero_lt_succ, Nat.reduceSub, ite_true, ite_false, reduceCtorEq, forall_const, Nat.reduceSucc, Nat.zero_add, Nat.add_zero, Nat.le_refl, Nat.zero_le, Nat.reducePow, Int.reduceNeg, Nat.reduceMul, eq_self, Int.cast_ofNat_Int, Int.toNat_natCast, iR, lR, Int.reduceEq, Int.reduceLT, Int.reduceLE, Int.reduceNe, not_false_eq_true, not_true_eq_false, false_implies, true_implies, Int.reduceAdd, Int.reduceSub, Int.reduceMul, Int.reduceToNat, implies_true, or_true, true_or, or_false, false_or, T_X10_isChance, T_X7_callDifferent]
  exact ⟨hp, hq, fun z => ⟨hL, z, fun r line df h => h1 z r line df h⟩, fun z => h2 z⟩
