/-! CloudBench$Question: MOST -/
theorem gap_in {M : Mm} (hI : SI M) {a b : Nat} (ha : a < 8) (hb : b < 8) (v : Int) : -400 ≤ M 8 b 1 * cle (M 27 a) v (M 8 a 1).toNat - M 8 a 1 * cle (M 27 b) v (M 8 b 1).toNat ∧ M 8 b 1 * cle (M 27 a) v (M 8 a 1).toNat - M 8 a 1 * cle (M 27 b) v (M 8 b 1).toNat ≤ 400 := by
  have ia := (hI a ha).1
  have ib := (hI b hb).1
  have ca := cle_in (M 27 a) v (M 8 a 1).toNat
  have cb := cle_in (M 27 b) v (M 8 b 1).toNat
  have u1 : M 8 b 1 * cle (M 27 a) v (M 8 a 1).toNat ≤ M 8 b 1 * 20 := Int.mul_le_mul_of_nonneg_left (by omega) (by omega)
  have u2 : M 8 a 1 * cle (M 27 b) v (M 8 b 1).toNat ≤ M 8 a 1 * 20 := Int.mul_le_mul_of_nonneg_left (by omega) (by omega)
  have u3 : 0 ≤ M 8 b 1 * cle (M 27 a) v (M 8 a 1).toNat := Int.mul_nonneg (by omega) (by omega)
  have u4 : 0 ≤ M 8 a 1 * cle (M 27 b) v (M 8 b 1).toNat := Int.mul_nonneg (by omega) (by omega)
  omega
theorem mxg_in {M : Mm} (hI : SI M) {a b : Nat} (ha : a < 8) (hb : b < 8) (f : Nat → Int) (n : Nat) : 0 ≤ mxg M a b f n ∧ mxg M a b f n ≤ 400 := by
  induction n with
  | zero => show (0 : Int) ≤ 0 ∧ (0 : Int) ≤ 400; exact ⟨by decide, by decide⟩
  | succ n ih =>
    have := gap_in hI ha hb (f n)
    simp only [mxg, zab]
    split <;> omega
def most_st (M : Mm) (a b : Nat) (i : Int) : Mm := stm (stc (afterChoice M a b) 21 0 (fun j => if (j : Int) < i then pol M a b j else afterChoice M a b 21 0 j)) 5 0 8 (mxg M a b (pol M a b) i.toNat)
theorem k_X5_poseMost (l : Launch) : MetT l yX5_poseMost cX5_poseMost 5 none 2 T_X5_poseMost := by
  refine MetT.of (by decide +kernel) (fun as M P h => by unfold T_X5_poseMost at h; split at h <;> first | (simp [elo]; done) | exact h.elim) (fun x as M P h C hR => ?_)
  unfold T_X5_poseMost at h
  split at h
  rotate_left
  · exact h.elim
  rename_i g s ga a gb b
  obtain ⟨rfl, rfl, rfl, rfl, ha, hb, hI, hC, hP⟩ := h
  have ia := (hI a ha).1
  have ib := (hI b hb).1
  refine B_X5_poseMost_0 C (k_X5_poseChoice l) (by decide) _ _ _ ?_
  simp only [c_iadd, c_isub, c_imul, c_ladd, c_lsub, c_lmul, c_ineg, c_lneg, c_ic, c_lc, c_iload, c_lload, c_aload, c_istore, c_astore, c_lstore, c_iinc, c_dup, c_dup2, c_goto, c_i2l, c_l2i, c_idiv, c_ldiv, c_lrem, c_lshl, c_gi, c_gl, c_gr, c_pi, c_pz, c_pl, c_iald, c_lald, c_bald, c_aald, c_iast, c_last, c_bast, c_callV, c_callS, c_mmax, c_mmin, c_mabs, c_mmaxl, c_mabsl, c_iret, c_zret, c_lret, c_vret, c_tsw, c_lsw, c_icmp_eq, c_icmp_ne, c_icmp_lt, c_icmp_ge, c_icmp_gt, c_icmp_le, c_if_eq, c_if_ne, c_if_lt, c_if_ge, c_if_gt, c_if_le, c_lcmp_eq, c_lcmp_ne, c_lcmp_lt, c_lcmp_ge, c_lcmp_gt, c_lcmp_le, c_lraw_eq, c_lraw_lt, c_lraw_ge, c_lraw_gt, c_lraw_le, acat, scat, tswP, pops, st1, st2, klo, pad, elo, List.getElem?_cons_zero, List.getElem?_cons_succ, List.getElem?_nil, List.set_cons_zero, List.set_cons_succ, List.set_nil, Option.toList_some, Option.toList_none, List.cons_append, List.nil_append, List.length_cons, List.length_nil, stc_ap, stm_ap, false_and, and_false, and_self, true_and, and_true, Nat.reduceEqDiff, reduceIte, al_12, al_13, al_14, al_15, al_16, al_17, al_18, al_19, al_20, al_21, al_22, al_23, al_24, al_25, al_26, al_27, al_28, al_29, al_30, al_31, al_32, al_33, al_34, al_35, al_36, al_37, al_38, al_39, al_40, al_41, al_42, al_43, al_44, al_45, al_46, al_47, al_48, al_49, al_50, al_51, al_52, al_53, al_54, al_55, at_12, at_13, at_14, at_15, at_16, at_17, at_18, at_19, at_20, at_21, at_22, at_23, at_24, at_25, at_26, at_27, at_28, at_29, at_30, at_31, at_32, at_33, at_34, at_35, at_36, at_37, at_38, at_39, at_40, at_41, at_42, at_43, at_44, at_45, at_46, at_47, at_48, at_49, at_50, at_51, at_52, at_53, at_54, at_55, cn_0, cn_1, cn_2, cn_3, cn_4, cn_5, cn_6, cn_7, cn_8, cn_9, cn_10, cn_11, cn_12, cn_13, cn_14, cn_15, cn_16, cn_17, cn_18, cn_19, cn_20, cn_21, cn_22, cn_23, cn_24, cn_25, cn_26, cn_27, cn_28, cn_29, cn_30, cn_31, cn_32, cn_33, cn_34, cn_35, cn_36, cn_37, cn_38, cn_39, cn_40, cn_41, cn_42, cn_43, cn_44, cn_45, cn_46, cn_47, cn_48, cn_49, cn_50, cn_51, cn_52, cn_53, cn_54, cn_55, Nat.reduceAdd, Nat.reduceLT, Nat.reduceLeDiff, Nat.lt_add_one, Nat.zero_lt_succ, Nat.reduceSub, ite_true, ite_false, reduceCtorEq, forall_const, Nat.reduceSucc, Nat.zero_add, Nat.add_zero, Nat.le_refl, Nat.zero_le, Nat.reducePow, Int.reduceNeg, Nat.reduceMul, eq_self, Int.cast_ofNat_Int, Int.toNat_natCast, iR, lR, Int.reduceEq, Int.reduceLT, Int.reduceLE, Int.reduceNe, not_false_eq_true, not_true_eq_false, false_implies, true_implies, Int.reduceAdd, Int.reduceSub, Int.reduceMul, Int.reduceToNat, implies_true, or_true, true_or, or_false, false_or, T_X5_poseChoice]
  have hpi := fun j hj => pol_in hI ha hb j hj
  refine ⟨ha, hb, hI, hC, ?_⟩
  refine loopU (M 8 a 1 + M 8 b 1) (fun i M' => (0 ≤ i ∧ i ≤ M 8 a 1 + M 8 b 1) ∧ M' = most_st M a b i) (fun i M' => J x 13 [some (zr 5 0), some (zr 8 a), some (zr 8 b), some (zi i), none] [] M') ?_ 0 _ ⟨by omega, ?_⟩
  rotate_left
  · unfold most_st
    rw [show (fun j : Nat => if (j : Int) < 0 then pol M a b j else afterChoice M a b 21 0 j) = afterChoice M a b 21 0 from funext fun j => if_neg (by omega), stc_id]
    rfl
  rintro i M' ⟨hi, rfl⟩ ih
  refine B_X5_poseMost_13 C hR (by decide) (k_X5_measure l) (by decide) (k_X8_countUpTo l) (by decide) _ _ _ ?_
  have hgp := gap_in hI ha hb (pol M a b i.toNat)
  have hmx := mxg_in hI ha hb (pol M a b) i.toNat
  simp only [c_iadd, c_isub, c_imul, c_ladd, c_lsub, c_lmul, c_ineg, c_lneg, c_ic, c_lc, c_iload, c_lload, c_aload, c_istore, c_astore, c_lstore, c_iinc, c_dup, c_dup2, c_goto, c_i2l, c_l2i, c_idiv, c_ldiv, c_lrem, c_lshl, c_gi, c_gl, c_gr, c_pi, c_pz, c_pl, c_iald, c_lald, c_bald, c_aald, c_iast, c_last, c_bast, c_callV, c_callS, c_mmax, c_mmin, c_mabs, c_mmaxl, c_mabsl, c_iret, c_zret, c_lret, c_vret, c_tsw, c_lsw, c_icmp_eq, c_icmp_ne, c_icmp_lt, c_icmp_ge, c_icmp_gt, c_icmp_le, c_if_eq, c_if_ne, c_if_lt, c_if_ge, c_if_gt, c_if_le, c_lcmp_eq, c_lcmp_ne, c_lcmp_lt, c_lcmp_ge, c_lcmp_gt, c_lcmp_le, c_lraw_eq, c_lraw_lt, c_lraw_ge, c_lraw_gt, c_lraw_le, acat, scat, tswP, pops, st1, st2, klo, pad, elo, List.getElem?_cons_zero, List.getElem?_cons_succ, List.getElem?_nil, List.set_cons_zero, List.set_cons_succ, List.set_nil, Option.toList_some, Option.toList_none, List.cons_append, List.nil_append, List.length_cons, List.length_nil, stc_ap, stm_ap, false_and, and_false, and_self, true_and, and_true, Nat.reduceEqDiff, reduceIte, al_12, al_13, al_14, al_15, al_16, al_17, al_18, al_19, al_20, al_21, al_22, al_23, al_24, al_25, al_26, al_27, al_28, al_29, al_30, al_31, al_32, al_33, al_34, al_35, al_36, al_37, al_38, al_39, al_40, al_41, al_42, al_43, al_44, al_45, al_46, al_47, al_48, al_49, al_50, al_51, al_52, al_53, al_54, al_55, at_12, at_13, at_14, at_15, at_16, at_17, at_18, at_19, at_20, at_21, at_22, at_23, at_24, at_25, at_26, at_27, at_28, at_29, at_30, at_31, at_32, at_33, at_34, at_35, at_36, at_37, at_38, at_39, at_40, at_41, at_42, at_43, at_44, at_45, at_46, at_47, at_48, at_49, at_50, at_51, at_52, at_53, at_54, at_55, cn_0, cn_1, cn_2, cn_3, cn_4, cn_5, cn_6, cn_7, cn_8, cn_9, cn_10, cn_11, cn_12, cn_13, cn_14, cn_15, cn_16, cn_17, cn_18, cn_19, cn_20, cn_21, cn_22, cn_23, cn_24, cn_25, cn_26, cn_27, cn_28, cn_29, cn_30, cn_31, cn_32, cn_33, cn_34, cn_35, cn_36, cn_37, cn_38, cn_39, cn_40, cn_41, cn_42, cn_43, cn_44, cn_45, cn_46, cn_47, cn_48, cn_49, cn_50, cn_51, cn_52, cn_53, cn_54, cn_55, Nat.reduceAdd, Nat.reduceLT, Nat.reduceLeDiff, Nat.lt_add_one, Nat.zero_lt_succ, Nat.reduceSub, ite_true, ite_false, reduceCtorEq, forall_const, Nat.reduceSucc, Nat.zero_add, Nat.add_zero, Nat.le_refl, Nat.zero_le, Nat.reducePow, Int.reduceNeg, Nat.reduceMul, eq_self, Int.cast_ofNat_Int, Int.toNat_natCast, iR, lR, Int.reduceEq, Int.reduceLT, Int.reduceLE, Int.reduceNe, not_false_eq_true, not_true_eq_false, false_implies, true_implies, Int.reduceAdd, Int.reduceSub, Int.reduceMul, Int.reduceToNat, implies_true, or_true, true_or, or_false, false_or, T_X5_measure, T_X8_countUpTo, most_st, stm_ne, stc_ne, not_false_eq_true, ac_4, ac_20, ac_56, ac_57, ac_8, ac_27, ha, hb]
  have hmx1 : i < M 8 a 1 + M 8 b 1 → mxg M a b (pol M a b) (i + 1).toNat = max (mxg M a b (pol M a b) i.toNat) (zab (M 8 b 1 * cle (M 27 a) (pol M a b i.toNat) (M 8 a 1).toNat - M 8 a 1 * cle (M 27 b) (pol M a b i.toNat) (M 8 b 1).toNat)) := fun _ => by
    rw [show (i + 1).toNat = i.toNat + 1 by omega]
    rfl
  generalize hG : M 8 b 1 * cle (M 27 a) (pol M a b i.toNat) (M 8 a 1).toNat - M 8 a 1 * cle (M 27 b) (pol M a b i.toNat) (M 8 b 1).toNat = G at hgp hmx1 ⊢
  have hz : 0 ≤ zab G ∧ zab G ≤ 400 := by unfold zab; split <;> omega
  have ez : (if G < 0 then -G else G) = zab G := rfl
  rw [ez]
  refine ⟨by omega, by omega, fun q => ?_, fun q => ?_⟩
  · refine hP _ ⟨fun g' a4 a5 a20 a21 => ?_, rfl⟩ (fun j hj => ?_) ⟨rfl, rfl, ?_, rfl, rfl, rfl, rfl, rfl⟩
    · rw [stm_ne _ _ _ _ _ a5, stm_ne _ _ _ _ _ a5, stm_ne _ _ _ _ _ a5, stm_ne _ _ _ _ _ a5, stm_ne _ _ _ _ _ a5, stc_ne _ _ _ _ a21, ac_o M a b a4 a5 a20]
    · show (if (j : Int) < i then _ else _) = _
      rw [if_pos (by omega)]
    · rw [show (M 8 a 1 + M 8 b 1).toNat = i.toNat by omega]
      rfl
  · have hpv := hpi i.toNat (by omega)
    refine ⟨by omega, by omega, by omega, by omega, by omega, fun j hj => hI.iR ha hj, by omega, by omega, by omega, fun j hj => hI.iR hb hj, by omega, by omega, by omega, J_fgt [true, true, true, true, false] (ih (by omega) _ ⟨by omega, ?_⟩)⟩
    unfold most_st
    rw [hmx1 (by omega)]
    funext g' s' k'
    simp only [stm_ap, stc_ap]
    by_cases e5 : g' = 5 ∧ s' = 0 ∧ k' = 8
    · rw [if_pos e5, if_pos e5]
    · rw [if_neg e5, if_neg e5, if_neg e5]
      by_cases e : g' = 21 ∧ s' = 0
      · rw [if_pos e, if_pos e]
        by_cases d : k' = i.toNat
        · rw [if_pos ⟨e.1, e.2, d⟩]
          show _ = (if (k' : Int) < i + 1 then _ else _)
          rw [if_pos (by omega), d]
        · rw [if_neg (fun z => d z.2.2)]
          show (if (k' : Int) < i then _ else _) = (if (k' : Int) < i + 1 then _ else _)
          by_cases d2 : (k' : Int) < i
          · rw [if_pos d2, if_pos (by omega)]
          · rw [if_neg d2, if_neg (by omega)]
      · rw [if_neg (fun z => e ⟨z.1, z.2.1⟩), if_neg e, if_neg e]
