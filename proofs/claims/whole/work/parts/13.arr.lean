/-! rows of ints: sums, doubled ranks, sorting -/
def sm (f : Nat → Int) : Nat → Int
  | 0 => 0
  | n + 1 => sm f n + f n
def ltc (f : Nat → Int) (v : Int) : Nat → Int
  | 0 => 0
  | n + 1 => ltc f v n + if f n < v then 1 else 0
def eqc (f : Nat → Int) (v : Int) : Nat → Int
  | 0 => 0
  | n + 1 => eqc f v n + if f n = v then 1 else 0
/-- the doubled rank of v among the first n -/
def drk (f : Nat → Int) (n : Nat) (v : Int) : Int := 2 * ltc f v n + eqc f v n + 1
theorem ltc_in (f : Nat → Int) (v : Int) (n : Nat) : 0 ≤ ltc f v n ∧ 0 ≤ eqc f v n ∧ ltc f v n + eqc f v n ≤ n := by
  induction n with
  | zero => simp [ltc, eqc]
  | succ n ih => unfold ltc eqc; split <;> split <;> omega
def T_X10_sumOf : Ct := fun as M P => match as with
  | [.inr (some (g, s)), .inl (.inl n)] => aty g = 0 ∧ 12 ≤ g ∧ s < cnt g ∧ (0 ≤ n ∧ n ≤ alen g) ∧ P (some (zi (sm (M g s) n.toNat))) M
  | _ => False
theorem k_X10_sumOf (l : Launch) : MetT l yX10_sumOf cX10_sumOf 4 (some .int) 0 T_X10_sumOf := by
  refine MetT.of (by decide +kernel) (fun as M P h => by unfold T_X10_sumOf at h; split at h <;> first | (simp [elo]; done) | exact h.elim) (fun x as M P h C hR => ?_)
  unfold T_X10_sumOf at h
  split at h
  rotate_left
  · exact h.elim
  rename_i g s n
  obtain ⟨ht, hg, hs, hn, hP⟩ := h
  have ha := alen_lt g
  refine B_X10_sumOf_0 C _ _ _ ?_
  simp only [c_iadd, c_isub, c_imul, c_ladd, c_lsub, c_lmul, c_ineg, c_lneg, c_ic, c_lc, c_iload, c_lload, c_aload, c_istore, c_astore, c_lstore, c_iinc, c_dup, c_dup2, c_goto, c_i2l, c_l2i, c_idiv, c_ldiv, c_lrem, c_lshl, c_gi, c_gl, c_gr, c_pi, c_pz, c_pl, c_iald, c_lald, c_bald, c_aald, c_iast, c_last, c_bast, c_callV, c_callS, c_mmax, c_mmin, c_mabs, c_mmaxl, c_mabsl, c_iret, c_zret, c_lret, c_vret, c_tsw, c_lsw, c_icmp_eq, c_icmp_ne, c_icmp_lt, c_icmp_ge, c_icmp_gt, c_icmp_le, c_if_eq, c_if_ne, c_if_lt, c_if_ge, c_if_gt, c_if_le, c_lcmp_eq, c_lcmp_ne, c_lcmp_lt, c_lcmp_ge, c_lcmp_gt, c_lcmp_le, c_lraw_eq, c_lraw_lt, c_lraw_ge, c_lraw_gt, c_lraw_le, acat, scat, tswP, pops, st1, st2, klo, pad, elo, List.getElem?_cons_zero, List.getElem?_cons_succ, List.getElem?_nil, List.set_cons_zero, List.set_cons_succ, List.set_nil, Option.toList_some, Option.toList_none, List.cons_append, List.nil_append, List.length_cons, List.length_nil, stc_ap, stm_ap, false_and, and_false, and_self, true_and, and_true, Nat.reduceEqDiff, reduceIte, al_12, al_13, al_14, al_15, al_16, al_17, al_18, al_19, al_20, al_21, al_22, al_23, al_24, al_25, al_26, al_27, al_28, al_29, al_30, al_31, al_32, al_33, al_34, al_35, al_36, al_37, al_38, al_39, al_40, al_41, al_42, al_43, al_44, al_45, al_46, al_47, al_48, al_49, al_50, al_51, al_52, al_53, al_54, al_55, at_12, at_13, at_14, at_15, at_16, at_17, at_18, at_19, at_20, at_21, at_22, at_23, at_24, at_25, at_26, at_27, at_28, at_29, at_30, at_31, at_32, at_33, at_34, at_35, at_36, at_37, at_38, at_39, at_40, at_41, at_42, at_43, at_44, at_45, at_46, at_47, at_48, at_49, at_50, at_51, at_52, at_53, at_54, at_55, cn_0, cn_1, cn_2, cn_3, cn_4, cn_5, cn_6, cn_7, cn_8, cn_9, cn_10, cn_11, cn_12, cn_13, cn_14, cn_15, cn_16, cn_17, cn_18, cn_19, cn_20, cn_21, cn_22, cn_23, cn_24, cn_25, cn_26, cn_27, cn_28, cn_29, cn_30, cn_31, cn_32, cn_33, cn_34, cn_35, cn_36, cn_37, cn_38, cn_39, cn_40, cn_41, cn_42, cn_43, cn_44, cn_45, cn_46, cn_47, cn_48, cn_49, cn_50, cn_51, cn_52, cn_53, cn_54, cn_55, Nat.reduceAdd, Nat.reduceLT, Nat.reduceLeDiff, Nat.lt_add_one, Nat.zero_lt_succ, Nat.reduceSub, ite_true, ite_false, reduceCtorEq, forall_const, Nat.reduceSucc, Nat.zero_add, Nat.add_zero, Nat.le_refl, Nat.zero_le, Nat.reducePow, Int.reduceNeg, Nat.reduceMul, eq_self, Int.cast_ofNat_Int, Int.toNat_natCast, iR, lR, Int.reduceEq, Int.reduceLT, Int.reduceLE, Int.reduceNe, not_false_eq_true, not_true_eq_false, false_implies, true_implies, Int.reduceAdd, Int.reduceSub, Int.reduceMul, Int.reduceToNat, implies_true, or_true, true_or, or_false, false_or]
  refine loopU n (fun i M' => M = M' ∧ (0 ≤ i ∧ i ≤ n)) (fun i M' => J x 4 [some (zr g s), some (zi n), some (zi (sm (M g s) i.toNat)), some (zi i)] [] M') ?_ 0 M ⟨rfl, by omega⟩
  rintro i M' ⟨rfl, hi⟩ ih
  refine B_X10_sumOf_4 C hR _ _ _ ?_
  simp only [c_icmp_ge, c_iload, c_aload, c_iald, c_iadd, c_istore, c_iinc, c_goto, c_iret, st1, klo, List.getElem?_cons_zero, List.getElem?_cons_succ, List.set_cons_zero, List.set_cons_succ]
  refine ⟨by omega, by omega, fun q => ?_, fun q => ⟨ht, hg, hs, by omega, ?_⟩⟩
  · rw [show i = n by omega]; exact hP
  · have := ih (by omega) _ ⟨rfl, by omega⟩
    rw [show (i + 1).toNat = i.toNat + 1 by omega] at this
    exact this
def T_X10_doubledRank : Ct := fun as M P => match as with
  | [.inr (some (g, s)), .inl (.inl n), .inl (.inl k)] => aty g = 0 ∧ 12 ≤ g ∧ s < cnt g ∧ (0 ≤ k ∧ k < n ∧ n ≤ alen g) ∧ (∀ j : Nat, (j : Int) < n → iR (M g s j)) ∧ P (some (zi (drk (M g s) n.toNat (M g s k.toNat)))) M
  | _ => False
theorem k_X10_doubledRank (l : Launch) : MetT l yX10_doubledRank cX10_doubledRank 6 (some .int) 0 T_X10_doubledRank := by
  refine MetT.of (by decide +kernel) (fun as M P h => by unfold T_X10_doubledRank at h; split at h <;> first | (simp [elo]; done) | exact h.elim) (fun x as M P h C hR => ?_)
  unfold T_X10_doubledRank at h
  split at h
  rotate_left
  · exact h.elim
  rename_i g s n k
  obtain ⟨ht, hg, hs, hn, hr, hP⟩ := h
  have ha := alen_lt g
  refine B_X10_doubledRank_0 C _ _ _ ?_
  simp only [c_iadd, c_isub, c_imul, c_ladd, c_lsub, c_lmul, c_ineg, c_lneg, c_ic, c_lc, c_iload, c_lload, c_aload, c_istore, c_astore, c_lstore, c_iinc, c_dup, c_dup2, c_goto, c_i2l, c_l2i, c_idiv, c_ldiv, c_lrem, c_lshl, c_gi, c_gl, c_gr, c_pi, c_pz, c_pl, c_iald, c_lald, c_bald, c_aald, c_iast, c_last, c_bast, c_callV, c_callS, c_mmax, c_mmin, c_mabs, c_mmaxl, c_mabsl, c_iret, c_zret, c_lret, c_vret, c_tsw, c_lsw, c_icmp_eq, c_icmp_ne, c_icmp_lt, c_icmp_ge, c_icmp_gt, c_icmp_le, c_if_eq, c_if_ne, c_if_lt, c_if_ge, c_if_gt, c_if_le, c_lcmp_eq, c_lcmp_ne, c_lcmp_lt, c_lcmp_ge, c_lcmp_gt, c_lcmp_le, c_lraw_eq, c_lraw_lt, c_lraw_ge, c_lraw_gt, c_lraw_le, acat, scat, tswP, pops, st1, st2, klo, pad, elo, List.getElem?_cons_zero, List.getElem?_cons_succ, List.getElem?_nil, List.set_cons_zero, List.set_cons_succ, List.set_nil, Option.toList_some, Option.toList_none, List.cons_append, List.nil_append, List.length_cons, List.length_nil, stc_ap, stm_ap, false_and, and_false, and_self, true_and, and_true, Nat.reduceEqDiff, reduceIte, al_12, al_13, al_14, al_15, al_16, al_17, al_18, al_19, al_20, al_21, al_22, al_23, al_24, al_25, al_26, al_27, al_28, al_29, al_30, al_31, al_32, al_33, al_34, al_35, al_36, al_37, al_38, al_39, al_40, al_41, al_42, al_43, al_44, al_45, al_46, al_47, al_48, al_49, al_50, al_51, al_52, al_53, al_54, al_55, at_12, at_13, at_14, at_15, at_16, at_17, at_18, at_19, at_20, at_21, at_22, at_23, at_24, at_25, at_26, at_27, at_28, at_29, at_30, at_31, at_32, at_33, at_34, at_35, at_36, at_37, at_38, at_39, at_40, at_41, at_42, at_43, at_44, at_45, at_46, at_47, at_48, at_49, at_50, at_51, at_52, at_53, at_54, at_55, cn_0, cn_1, cn_2, cn_3, cn_4, cn_5, cn_6, cn_7, cn_8, cn_9, cn_10, cn_11, cn_12, cn_13, cn_14, cn_15, cn_16, cn_17, cn_18, cn_19, cn_20, cn_21, cn_22, cn_23, cn_24, cn_25, cn_26, cn_27, cn_28, cn_29, cn_30, cn_31, cn_32, cn_33, cn_34, cn_35, cn_36, cn_37, cn_38, cn_39, cn_40, cn_41, cn_42, cn_43, cn_44, cn_45, cn_46, cn_47, cn_48, cn_49, cn_50, cn_51, cn_52, cn_53, cn_54, cn_55, Nat.reduceAdd, Nat.reduceLT, Nat.reduceLeDiff, Nat.lt_add_one, Nat.zero_lt_succ, Nat.reduceSub, ite_true, ite_false, reduceCtorEq, forall_const, Nat.reduceSucc, Nat.zero_add, Nat.add_zero, Nat.le_refl, Nat.zero_le, Nat.reducePow, Int.reduceNeg, Nat.reduceMul, eq_self, Int.cast_ofNat_Int, Int.toNat_natCast, iR, lR, Int.reduceEq, Int.reduceLT, Int.reduceLE, Int.reduceNe, not_false_eq_true, not_true_eq_false, false_implies, true_implies, Int.reduceAdd, Int.reduceSub, Int.reduceMul, Int.reduceToNat, implies_true, or_true, true_or, or_false, false_or]
  refine loopU n (fun i M' => M = M' ∧ (0 ≤ i ∧ i ≤ n)) (fun i M' => J x 8 [some (zr g s), some (zi n), some (zi k), some (zi (ltc (M g s) (M g s k.toNat) i.toNat)), some (zi (eqc (M g s) (M g s k.toNat) i.toNat)), some (zi i)] [] M') ?_ 0 M ⟨rfl, by omega⟩
  rintro i M' ⟨rfl, hi⟩ ih
  refine B_X10_doubledRank_8 C hR _ _ _ ?_
  simp only [c_icmp_ge, c_icmp_ne, c_iload, c_aload, c_iald, c_iadd, c_imul, c_ic, c_istore, c_iinc, c_goto, c_iret, st1, klo, List.getElem?_cons_zero, List.getElem?_cons_succ, List.set_cons_zero, List.set_cons_succ]
  have hri : i < n → iR (M g s i.toNat) := fun q => hr i.toNat (by omega)
  have hrk := hr k.toNat (by omega)
  have hst : i < n → (i + 1).toNat = i.toNat + 1 := fun _ => by omega
  refine ⟨by omega, by omega, fun q => ?_, fun q => ⟨ht, hg, hs, by omega, ht, hg, hs, by omega, hri (by omega), hrk, fun q2 => ⟨ht, hg, hs, by omega, ht, hg, hs, by omega, hri (by omega), hrk, fun q3 => ?_, fun q3 => ?_⟩, fun q2 => ?_⟩⟩
  · rw [show i = n by omega]
    exact hP
  · refine B_X10_doubledRank_43 C _ _ _ ?_
    simp only [c_iadd, c_isub, c_imul, c_ladd, c_lsub, c_lmul, c_ineg, c_lneg, c_ic, c_lc, c_iload, c_lload, c_aload, c_istore, c_astore, c_lstore, c_iinc, c_dup, c_dup2, c_goto, c_i2l, c_l2i, c_idiv, c_ldiv, c_lrem, c_lshl, c_gi, c_gl, c_gr, c_pi, c_pz, c_pl, c_iald, c_lald, c_bald, c_aald, c_iast, c_last, c_bast, c_callV, c_callS, c_mmax, c_mmin, c_mabs, c_mmaxl, c_mabsl, c_iret, c_zret, c_lret, c_vret, c_tsw, c_lsw, c_icmp_eq, c_icmp_ne, c_icmp_lt, c_icmp_ge, c_icmp_gt, c_icmp_le, c_if_eq, c_if_ne, c_if_lt, c_if_ge, c_if_gt, c_if_le, c_lcmp_eq, c_lcmp_ne, c_lcmp_lt, c_lcmp_ge, c_lcmp_gt, c_lcmp_le, c_lraw_eq, c_lraw_lt, c_lraw_ge, c_lraw_gt, c_lraw_le, acat, scat, tswP, pops, st1, st2, klo, pad, elo, List.getElem?_cons_zero, List.getElem?_cons_succ, List.getElem?_nil, List.set_cons_zero, List.set_cons_succ, List.set_nil, Option.toList_some, Option.toList_none, List.cons_append, List.nil_append, List.length_cons, List.length_nil, stc_ap, stm_ap, false_and, and_false, and_self, true_and, and_true, Nat.reduceEqDiff, reduceIte, al_12, al_13, al_14, al_15, al_16, al_17, al_18, al_19, al_20, al_21, al_22, al_23, al_24, al_25, al_26, al_27, al_28, al_29, al_30, al_31, al_32, al_33, al_34, al_35, al_36, al_37, al_38, al_39, al_40, al_41, al_42, al_43, al_44, al_45, al_46, al_47, al_48, al_49, al_50, al_51, al_52, al_53, al_54, al_55, at_12, at_13, at_14, at_15, at_16, at_17, at_18, at_19, at_20, at_21, at_22, at_23, at_24, at_25, at_26, at_27, at_28, at_29, at_30, at_31, at_32, at_33, at_34, at_35, at_36, at_37, at_38, at_39, at_40, at_41, at_42, at_43, at_44, at_45, at_46, at_47, at_48, at_49, at_50, at_51, at_52, at_53, at_54, at_55, cn_0, cn_1, cn_2, cn_3, cn_4, cn_5, cn_6, cn_7, cn_8, cn_9, cn_10, cn_11, cn_12, cn_13, cn_14, cn_15, cn_16, cn_17, cn_18, cn_19, cn_20, cn_21, cn_22, cn_23, cn_24, cn_25, cn_26, cn_27, cn_28, cn_29, cn_30, cn_31, cn_32, cn_33, cn_34, cn_35, cn_36, cn_37, cn_38, cn_39, cn_40, cn_41, cn_42, cn_43, cn_44, cn_45, cn_46, cn_47, cn_48, cn_49, cn_50, cn_51, cn_52, cn_53, cn_54, cn_55, Nat.reduceAdd, Nat.reduceLT, Nat.reduceLeDiff, Nat.lt_add_one, Nat.zero_lt_succ, Nat.reduceSub, ite_true, ite_false, reduceCtorEq, forall_const, Nat.reduceSucc, Nat.zero_add, Nat.add_zero, Nat.le_refl, Nat.zero_le, Nat.reducePow, Int.reduceNeg, Nat.reduceMul, eq_self, Int.cast_ofNat_Int, Int.toNat_natCast, iR, lR, Int.reduceEq, Int.reduceLT, Int.reduceLE, Int.reduceNe, not_false_eq_true, not_true_eq_false, false_implies, true_implies, Int.reduceAdd, Int.reduceSub, Int.reduceMul, Int.reduceToNat, implies_true, or_true, true_or, or_false, false_or]
    have := ih (by omega) _ ⟨rfl, by omega⟩
    rw [hst (by omega)] at this
    simp only [ltc, eqc] at this
    rw [if_neg (by omega), if_neg q3, Int.add_zero, Int.add_zero] at this
    exact this
  · refine B_X10_doubledRank_43 C _ _ _ ?_
    simp only [c_iadd, c_isub, c_imul, c_ladd, c_lsub, c_lmul, c_ineg, c_lneg, c_ic, c_lc, c_iload, c_lload, c_aload, c_istore, c_astore, c_lstore, c_iinc, c_dup, c_dup2, c_goto, c_i2l, c_l2i, c_idiv, c_ldiv, c_lrem, c_lshl, c_gi, c_gl, c_gr, c_pi, c_pz, c_pl, c_iald, c_lald, c_bald, c_aald, c_iast, c_last, c_bast, c_callV, c_callS, c_mmax, c_mmin, c_mabs, c_mmaxl, c_mabsl, c_iret, c_zret, c_lret, c_vret, c_tsw, c_lsw, c_icmp_eq, c_icmp_ne, c_icmp_lt, c_icmp_ge, c_icmp_gt, c_icmp_le, c_if_eq, c_if_ne, c_if_lt, c_if_ge, c_if_gt, c_if_le, c_lcmp_eq, c_lcmp_ne, c_lcmp_lt, c_lcmp_ge, c_lcmp_gt, c_lcmp_le, c_lraw_eq, c_lraw_lt, c_lraw_ge, c_lraw_gt, c_lraw_le, acat, scat, tswP, pops, st1, st2, klo, pad, elo, List.getElem?_cons_zero, List.getElem?_cons_succ, List.getElem?_nil, List.set_cons_zero, List.set_cons_succ, List.set_nil, Option.toList_some, Option.toList_none, List.cons_append, List.nil_append, List.length_cons, List.length_nil, stc_ap, stm_ap, false_and, and_false, and_self, true_and, and_true, Nat.reduceEqDiff, reduceIte, al_12, al_13, al_14, al_15, al_16, al_17, al_18, al_19, al_20, al_21, al_22, al_23, al_24, al_25, al_26, al_27, al_28, al_29, al_30, al_31, al_32, al_33, al_34, al_35, al_36, al_37, al_38, al_39, al_40, al_41, al_42, al_43, al_44, al_45, al_46, al_47, al_48, al_49, al_50, al_51, al_52, al_53, al_54, al_55, at_12, at_13, at_14, at_15, at_16, at_17, at_18, at_19, at_20, at_21, at_22, at_23, at_24, at_25, at_26, at_27, at_28, at_29, at_30, at_31, at_32, at_33, at_34, at_35, at_36, at_37, at_38, at_39, at_40, at_41, at_42, at_43, at_44, at_45, at_46, at_47, at_48, at_49, at_50, at_51, at_52, at_53, at_54, at_55, cn_0, cn_1, cn_2, cn_3, cn_4, cn_5, cn_6, cn_7, cn_8, cn_9, cn_10, cn_11, cn_12, cn_13, cn_14, cn_15, cn_16, cn_17, cn_18, cn_19, cn_20, cn_21, cn_22, cn_23, cn_24, cn_25, cn_26, cn_27, cn_28, cn_29, cn_30, cn_31, cn_32, cn_33, cn_34, cn_35, cn_36, cn_37, cn_38, cn_39, cn_40, cn_41, cn_42, cn_43, cn_44, cn_45, cn_46, cn_47, cn_48, cn_49, cn_50, cn_51, cn_52, cn_53, cn_54, cn_55, Nat.reduceAdd, Nat.reduceLT, Nat.reduceLeDiff, Nat.lt_add_one, Nat.zero_lt_succ, Nat.reduceSub, ite_true, ite_false, reduceCtorEq, forall_const, Nat.reduceSucc, Nat.zero_add, Nat.add_zero, Nat.le_refl, Nat.zero_le, Nat.reducePow, Int.reduceNeg, Nat.reduceMul, eq_self, Int.cast_ofNat_Int, Int.toNat_natCast, iR, lR, Int.reduceEq, Int.reduceLT, Int.reduceLE, Int.reduceNe, not_false_eq_true, not_true_eq_false, false_implies, true_implies, Int.reduceAdd, Int.reduceSub, Int.reduceMul, Int.reduceToNat, implies_true, or_true, true_or, or_false, false_or]
    have := ih (by omega) _ ⟨rfl, by omega⟩
    rw [hst (by omega)] at this
    simp only [ltc, eqc] at this
    rw [if_neg (by omega), if_pos q3, Int.add_zero] at this
    exact this
  · refine B_X10_doubledRank_43 C _ _ _ ?_
    simp only [c_iadd, c_isub, c_imul, c_ladd, c_lsub, c_lmul, c_ineg, c_lneg, c_ic, c_lc, c_iload, c_lload, c_aload, c_istore, c_astore, c_lstore, c_iinc, c_dup, c_dup2, c_goto, c_i2l, c_l2i, c_idiv, c_ldiv, c_lrem, c_lshl, c_gi, c_gl, c_gr, c_pi, c_pz, c_pl, c_iald, c_lald, c_bald, c_aald, c_iast, c_last, c_bast, c_callV, c_callS, c_mmax, c_mmin, c_mabs, c_mmaxl, c_mabsl, c_iret, c_zret, c_lret, c_vret, c_tsw, c_lsw, c_icmp_eq, c_icmp_ne, c_icmp_lt, c_icmp_ge, c_icmp_gt, c_icmp_le, c_if_eq, c_if_ne, c_if_lt, c_if_ge, c_if_gt, c_if_le, c_lcmp_eq, c_lcmp_ne, c_lcmp_lt, c_lcmp_ge, c_lcmp_gt, c_lcmp_le, c_lraw_eq, c_lraw_lt, c_lraw_ge, c_lraw_gt, c_lraw_le, acat, scat, tswP, pops, st1, st2, klo, pad, elo, List.getElem?_cons_zero, List.getElem?_cons_succ, List.getElem?_nil, List.set_cons_zero, List.set_cons_succ, List.set_nil, Option.toList_some, Option.toList_none, List.cons_append, List.nil_append, List.length_cons, List.length_nil, stc_ap, stm_ap, false_and, and_false, and_self, true_and, and_true, Nat.reduceEqDiff, reduceIte, al_12, al_13, al_14, al_15, al_16, al_17, al_18, al_19, al_20, al_21, al_22, al_23, al_24, al_25, al_26, al_27, al_28, al_29, al_30, al_31, al_32, al_33, al_34, al_35, al_36, al_37, al_38, al_39, al_40, al_41, al_42, al_43, al_44, al_45, al_46, al_47, al_48, al_49, al_50, al_51, al_52, al_53, al_54, al_55, at_12, at_13, at_14, at_15, at_16, at_17, at_18, at_19, at_20, at_21, at_22, at_23, at_24, at_25, at_26, at_27, at_28, at_29, at_30, at_31, at_32, at_33, at_34, at_35, at_36, at_37, at_38, at_39, at_40, at_41, at_42, at_43, at_44, at_45, at_46, at_47, at_48, at_49, at_50, at_51, at_52, at_53, at_54, at_55, cn_0, cn_1, cn_2, cn_3, cn_4, cn_5, cn_6, cn_7, cn_8, cn_9, cn_10, cn_11, cn_12, cn_13, cn_14, cn_15, cn_16, cn_17, cn_18, cn_19, cn_20, cn_21, cn_22, cn_23, cn_24, cn_25, cn_26, cn_27, cn_28, cn_29, cn_30, cn_31, cn_32, cn_33, cn_34, cn_35, cn_36, cn_37, cn_38, cn_39, cn_40, cn_41, cn_42, cn_43, cn_44, cn_45, cn_46, cn_47, cn_48, cn_49, cn_50, cn_51, cn_52, cn_53, cn_54, cn_55, Nat.reduceAdd, Nat.reduceLT, Nat.reduceLeDiff, Nat.lt_add_one, Nat.zero_lt_succ, Nat.reduceSub, ite_true, ite_false, reduceCtorEq, forall_const, Nat.reduceSucc, Nat.zero_add, Nat.add_zero, Nat.le_refl, Nat.zero_le, Nat.reducePow, Int.reduceNeg, Nat.reduceMul, eq_self, Int.cast_ofNat_Int, Int.toNat_natCast, iR, lR, Int.reduceEq, Int.reduceLT, Int.reduceLE, Int.reduceNe, not_false_eq_true, not_true_eq_false, false_implies, true_implies, Int.reduceAdd, Int.reduceSub, Int.reduceMul, Int.reduceToNat, implies_true, or_true, true_or, or_false, false_or]
    have := ih (by omega) _ ⟨rfl, by omega⟩
    rw [hst (by omega)] at this
    simp only [ltc, eqc] at this
    rw [if_pos (by omega), if_neg (by omega), Int.add_zero] at this
    exact this
/-! sorting: neighbours change places -/
def sw1 (n p : Nat) (f g : Nat → Int) : Prop := p + 1 < n ∧ g p = f (p + 1) ∧ g (p + 1) = f p ∧ ∀ j, j ≠ p → j ≠ p + 1 → g j = f j
def pmf (n : Nat) (f g : Nat → Int) : Prop := ∀ Φ : (Nat → Int) → Prop, (∀ p a b, sw1 n p a b → Φ a → Φ b) → Φ f → Φ g
theorem pmf.rf (n : Nat) (f : Nat → Int) : pmf n f f := fun _ _ h => h
theorem pmf.step {n p : Nat} {f g h : Nat → Int} (h1 : pmf n f g) (h2 : sw1 n p g h) : pmf n f h := fun Φ hs hf => hs p g h h2 (h1 Φ hs hf)
def srt (f : Nat → Int) (n : Nat) : Prop := ∀ i j : Nat, i < j → j < n → f i ≤ f j
def T_X10_sort : Ct := fun as M P => match as with
  | [.inr (some (g, s)), .inl (.inl n)] => aty g = 0 ∧ 12 ≤ g ∧ s < cnt g ∧ (0 ≤ n ∧ n ≤ alen g) ∧ (∀ j : Nat, (j : Int) < n → iR (M g s j)) ∧ ∀ f : Nat → Int, pmf n.toNat (M g s) f → srt f n.toNat → P none (stc M g s f)
  | _ => False
theorem k_X10_sort (l : Launch) : MetT l yX10_sort cX10_sort 5 none 0 T_X10_sort := by
  refine MetT.of (by decide +kernel) (fun as M P h => by unfold T_X10_sort at h; split at h <;> first | (simp [elo]; done) | exact h.elim) (fun x as M P h C hR => ?_)
  unfold T_X10_sort at h
  split at h
  rotate_left
  · exact h.elim
  rename_i g s n
  obtain ⟨ht, hg, hs, hn, hr, hP⟩ := h
  have ha := alen_lt g
  refine B_X10_sort_0 C _ _ _ ?_
  simp only [c_iadd, c_isub, c_imul, c_ladd, c_lsub, c_lmul, c_ineg, c_lneg, c_ic, c_lc, c_iload, c_lload, c_aload, c_istore, c_astore, c_lstore, c_iinc, c_dup, c_dup2, c_goto, c_i2l, c_l2i, c_idiv, c_ldiv, c_lrem, c_lshl, c_gi, c_gl, c_gr, c_pi, c_pz, c_pl, c_iald, c_lald, c_bald, c_aald, c_iast, c_last, c_bast, c_callV, c_callS, c_mmax, c_mmin, c_mabs, c_mmaxl, c_mabsl, c_iret, c_zret, c_lret, c_vret, c_tsw, c_lsw, c_icmp_eq, c_icmp_ne, c_icmp_lt, c_icmp_ge, c_icmp_gt, c_icmp_le, c_if_eq, c_if_ne, c_if_lt, c_if_ge, c_if_gt, c_if_le, c_lcmp_eq, c_lcmp_ne, c_lcmp_lt, c_lcmp_ge, c_lcmp_gt, c_lcmp_le, c_lraw_eq, c_lraw_lt, c_lraw_ge, c_lraw_gt, c_lraw_le, acat, scat, tswP, pops, st1, st2, klo, pad, elo, List.getElem?_cons_zero, List.getElem?_cons_succ, List.getElem?_nil, List.set_cons_zero, List.set_cons_succ, List.set_nil, Option.toList_some, Option.toList_none, List.cons_append, List.nil_append, List.length_cons, List.length_nil, stc_ap, stm_ap, false_and, and_false, and_self, true_and, and_true, Nat.reduceEqDiff, reduceIte, al_12, al_13, al_14, al_15, al_16, al_17, al_18, al_19, al_20, al_21, al_22, al_23, al_24, al_25, al_26, al_27, al_28, al_29, al_30, al_31, al_32, al_33, al_34, al_35, al_36, al_37, al_38, al_39, al_40, al_41, al_42, al_43, al_44, al_45, al_46, al_47, al_48, al_49, al_50, al_51, al_52, al_53, al_54, al_55, at_12, at_13, at_14, at_15, at_16, at_17, at_18, at_19, at_20, at_21, at_22, at_23, at_24, at_25, at_26, at_27, at_28, at_29, at_30, at_31, at_32, at_33, at_34, at_35, at_36, at_37, at_38, at_39, at_40, at_41, at_42, at_43, at_44, at_45, at_46, at_47, at_48, at_49, at_50, at_51, at_52, at_53, at_54, at_55, cn_0, cn_1, cn_2, cn_3, cn_4, cn_5, cn_6, cn_7, cn_8, cn_9, cn_10, cn_11, cn_12, cn_13, cn_14, cn_15, cn_16, cn_17, cn_18, cn_19, cn_20, cn_21, cn_22, cn_23, cn_24, cn_25, cn_26, cn_27, cn_28, cn_29, cn_30, cn_31, cn_32, cn_33, cn_34, cn_35, cn_36, cn_37, cn_38, cn_39, cn_40, cn_41, cn_42, cn_43, cn_44, cn_45, cn_46, cn_47, cn_48, cn_49, cn_50, cn_51, cn_52, cn_53, cn_54, cn_55, Nat.reduceAdd, Nat.reduceLT, Nat.reduceLeDiff, Nat.lt_add_one, Nat.zero_lt_succ, Nat.reduceSub, ite_true, ite_false, reduceCtorEq, forall_const, Nat.reduceSucc, Nat.zero_add, Nat.add_zero, Nat.le_refl, Nat.zero_le, Nat.reducePow, Int.reduceNeg, Nat.reduceMul, eq_self, Int.cast_ofNat_Int, Int.toNat_natCast, iR, lR, Int.reduceEq, Int.reduceLT, Int.reduceLE, Int.reduceNe, not_false_eq_true, not_true_eq_false, false_implies, true_implies, Int.reduceAdd, Int.reduceSub, Int.reduceMul, Int.reduceToNat, implies_true, or_true, true_or, or_false, false_or]
  refine loopU n (fun i M' => (1 ≤ i ∧ (i ≤ n ∨ i = 1)) ∧ ∃ f : Nat → Int, M' = stc M g s f ∧ pmf n.toNat (M g s) f ∧ (∀ j : Nat, (j : Int) < n → iR (f j)) ∧ ∀ a b : Nat, a < b → (b : Int) < i → f a ≤ f b) (fun i M' => J x 2 [some (zr g s), some (zi n), some (zi i), none, none] [] M') ?_ 1 M ⟨by omega, M g s, (stc_id M g s).symm, pmf.rf _ _, hr, fun a b h1 h2 => by omega⟩
  rintro i M' ⟨hi, f, rfl, hpm, hfr, hso⟩ ih
  refine B_X10_sort_2 C hR _ _ _ ?_
  simp only [c_icmp_ge, c_icmp_lt, c_iload, c_aload, c_iald, c_istore, c_goto, c_vret, st1, klo, List.getElem?_cons_zero, List.getElem?_cons_succ, List.set_cons_zero, List.set_cons_succ, stc_self]
  refine ⟨by omega, by omega, fun q => hP f hpm (fun a b h1 h2 => hso a b h1 (by omega)), fun q => ⟨ht, hg, hs, by omega, ?_⟩⟩
  -- the inner loop
  refine loopD 0 (fun p M' => (0 ≤ p ∧ p ≤ i) ∧ ∃ h : Nat → Int, M' = stc M g s h ∧ pmf n.toNat (M g s) (fun j => if j = p.toNat then f i.toNat else h j) ∧ (∀ j : Nat, (j : Int) < n → iR (h j)) ∧ (∀ a b : Nat, a < b → (b : Int) ≤ i → a ≠ p.toNat → b ≠ p.toNat → h a ≤ h b) ∧ (∀ b : Nat, p < (b : Int) → (b : Int) ≤ i → f i.toNat ≤ h b)) (fun p M' => J x 14 [some (zr g s), some (zi n), some (zi i), some (zi (f i.toNat)), some (zi p)] [] M') ?_ i (stc M g s f) ⟨by omega, f, rfl, ?_, hfr, fun a b h1 h2 h3 h4 => hso a b h1 (by omega), fun b h1 h2 => by omega⟩
  rotate_left
  · rw [show (fun j => if j = i.toNat then f i.toNat else f j) = f from funext fun j => by split <;> simp_all]
    exact hpm
  rintro p M' ⟨hp, h, rfl, hpk, hhr, hsk, hup⟩ ih2
  refine B_X10_sort_14 C _ _ _ ?_
  have hvr := hfr i.toNat (by omega)
  simp only [c_if_le, c_icmp_le, c_iload, c_aload, c_ic, c_isub, c_iald, c_iast, c_iinc, c_istore, c_goto, st1, klo, List.getElem?_cons_zero, List.getElem?_cons_succ, List.set_cons_zero, List.set_cons_succ, stc_self]
  have hfin : (p ≤ 0 ∨ h (p - 1).toNat ≤ f i.toNat) → J x 45 [some (zr g s), some (zi n), some (zi i), some (zi (f i.toNat)), some (zi p)] [] (stc M g s h) := by
    intro hc
    refine B_X10_sort_45 C _ _ _ ?_
    simp only [c_if_le, c_icmp_le, c_iload, c_aload, c_ic, c_isub, c_iald, c_iast, c_iinc, c_istore, c_goto, st1, klo, List.getElem?_cons_zero, List.getElem?_cons_succ, List.set_cons_zero, List.set_cons_succ, stc_self]
    refine ⟨ht, hg, hs, by omega, J_fgt [true, true, true, false, false] (ih (by omega) _ ⟨by omega, _, stm_on M g s _ h _, hpk, fun j hj => ?_, fun a b h1 h2 => ?_⟩)⟩
    · show iR (if j = p.toNat then f i.toNat else h j)
      split
      · exact hvr
      · exact hhr j hj
    · show (if a = p.toNat then f i.toNat else h a) ≤ (if b = p.toNat then f i.toNat else h b)
      by_cases e1 : a = p.toNat
      · rw [if_pos e1, if_neg (by omega)]
        exact hup b (by omega) (by omega)
      · rw [if_neg e1]
        by_cases e2 : b = p.toNat
        · rw [if_pos e2]
          rcases hc with hc | hc
          · omega
          · by_cases e3 : a = (p - 1).toNat
            · rw [e3]; exact hc
            · exact Int.le_trans (hsk a (p - 1).toNat (by omega) (by omega) e1 (by omega)) hc
        · rw [if_neg e2]
          exact hsk a b h1 (by omega) e1 e2
  refine ⟨by omega, fun q2 => hfin (Or.inl q2), fun q2 => ⟨ht, hg, hs, by omega, hhr (p - 1).toNat (by omega), hvr, fun q3 => hfin (Or.inr q3), fun q3 => ⟨ht, hg, hs, by omega, ht, hg, hs, by omega, ?_⟩⟩⟩
  have hres := ih2 (by omega) _ ⟨by omega, _, stm_on M g s p.toNat h (h (p - 1).toNat), ?_, ?_, ?_, ?_⟩
  · exact hres
  · refine pmf.step (p := (p - 1).toNat) hpk ⟨by omega, ?_, ?_, fun j h1 h2 => ?_⟩
    · show (if (p - 1).toNat = (p - 1).toNat then f i.toNat else _) = (if (p - 1).toNat + 1 = p.toNat then f i.toNat else _)
      rw [if_pos rfl, if_pos (by omega)]
    · show (if (p - 1).toNat + 1 = (p - 1).toNat then f i.toNat else if (p - 1).toNat + 1 = p.toNat then h (p - 1).toNat else h ((p - 1).toNat + 1)) = (if (p - 1).toNat = p.toNat then f i.toNat else h (p - 1).toNat)
      rw [if_neg (by omega), if_pos (by omega), if_neg (by omega)]
    · show (if j = (p - 1).toNat then f i.toNat else if j = p.toNat then h (p - 1).toNat else h j) = (if j = p.toNat then f i.toNat else h j)
      rw [if_neg h1, if_neg (by omega), if_neg (by omega)]
  · intro j hj
    show iR (if j = p.toNat then h (p - 1).toNat else h j)
    split
    · exact hhr (p - 1).toNat (by omega)
    · exact hhr j hj
  · intro a b h1 h2 h3 h4
    show (if a = p.toNat then h (p - 1).toNat else h a) ≤ (if b = p.toNat then h (p - 1).toNat else h b)
    by_cases e1 : a = p.toNat
    · rw [if_pos e1, if_neg (by omega)]
      exact hsk (p - 1).toNat b (by omega) h2 (by omega) (by omega)
    · rw [if_neg e1]
      by_cases e2 : b = p.toNat
      · rw [if_pos e2]
        exact hsk a (p - 1).toNat (by omega) (by omega) e1 (by omega)
      · rw [if_neg e2]
        exact hsk a b h1 h2 e1 e2
  · intro b h1 h2
    show f i.toNat ≤ (if b = p.toNat then h (p - 1).toNat else h b)
    split
    · omega
    · exact hup b (by omega) h2
