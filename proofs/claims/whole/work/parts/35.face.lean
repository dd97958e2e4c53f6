/-! CloudBench: noughts -/
def T_X10_noughts : Ct := fun as M P => match as with
  | [.inr (some (g, s)), .inl (.inl a), .inl (.inl b)] => g = 10 ∧ s = 0 ∧ iR a ∧ iR b ∧ SI M ∧ ((two M a b ∧ M 8 a.toNat 1 = M 8 b.toNat 1) → ∀ M' : Mm, (∀ g' : Nat, ¬ g' = 3 → ¬ g' = 18 → ¬ g' = 19 → M' g' = M g') → P (some (zi (M 8 a.toNat 1 - (nzl (dif M a.toNat b.toNat) (M 8 a.toNat 1).toNat).length))) M') ∧ (¬ (two M a b ∧ M 8 a.toNat 1 = M 8 b.toNat 1) → P (some (zi (-1))) M)
  | _ => False
theorem k_X10_noughts (l : Launch) : MetT l yX10_noughts cX10_noughts 3 (some .int) 2 T_X10_noughts := by
  refine MetT.of (by decide +kernel) (fun as M P h => by unfold T_X10_noughts at h; split at h <;> first | (simp [elo]; done) | exact h.elim) (fun x as M P h C hR => ?_)
  unfold T_X10_noughts at h
  split at h
  rotate_left
  · exact h.elim
  rename_i g s a b
  obtain ⟨rfl, rfl, ha, hb, hI, h1, h2⟩ := h
  refine B_X10_noughts_0 C hR (k_X10_areTwo l) (by decide) (k_X3_gather l) (by decide) _ _ _ ?_
  simp only [c_iadd, c_isub, c_imul, c_ladd, c_lsub, c_lmul, c_ineg, c_lneg, c_ic, c_lc, c_iload, c_lload, c_aload, c_istore, c_astore, c_lstore, c_iinc, c_dup, c_dup2, c_goto, c_i2l, c_l2i, c_idiv, c_ldiv, c_lrem, c_lshl, c_gi, c_gl, c_gr, c_pi, c_pz, c_pl, c_iald, c_lald, c_bald, c_aald, c_iast, c_last, c_bast, c_callV, c_callS, c_mmax, c_mmin, c_mabs, c_mmaxl, c_mabsl, c_iret, c_zret, c_lret, c_vret, c_tsw, c_lsw, c_icmp_eq, c_icmp_ne, c_icmp_lt, c_icmp_ge, c_icmp_gt, c_icmp_le, c_if_eq, c_if_ne, c_if_lt, c_if_ge, c_if_gt, c_if_le, c_lcmp_eq, c_lcmp_ne, c_lcmp_lt, c_lcmp_ge, c_lcmp_gt, c_lcmp_le, c_lraw_eq, c_lraw_lt, c_lraw_ge, c_lraw_gt, c_lraw_le, acat, scat, tswP, pops, st1, st2, klo, pad, elo, List.getElem?_cons_zero, List.getElem?_cons_succ, List.getElem?_nil, List.set_cons_zero, List.set_cons_succ, List.set_nil, Option.toList_some, Option.toList_none, List.cons_append, List.nil_append, List.length_cons, List.length_nil, stc_ap, stm_ap, false_and, and_false, and_self, true_and, and_true, Nat.reduceEqDiff, reduceIte, al_12, al_13, al_14, al_15, al_16, al_17, al_18, al_19, al_20, al_21, al_22, al_23, al_24, al_25, al_26, al_27, al_28, al_29, al_30, al_31, al_32, al_33, al_34, al_35, al_36, al_37, al_38, al_39, al_40, al_41, al_42, al_43, al_44, al_45, al_46, al_47, al_48, al_49, al_50, al_51, al_52, al_53, al_54, al_55, at_12, at_13, at_14, at_15, at_16, at_17, at_18, at_19, at_20, at_21, at_22, at_23, at_24, at_25, at_26, at_27, at_28, at_29, at_30, at_31, at_32, at_33, at_34, at_35, at_36, at_37, at_38, at_39, at_40, at_41, at_42, at_43, at_44, at_45, at_46, at_47, at_48, at_49, at_50, at_51, at_52, at_53, at_54, at_55, cn_0, cn_1, cn_2, cn_3, cn_4, cn_5, cn_6, cn_7, cn_8, cn_9, cn_10, cn_11, cn_12, cn_13, cn_14, cn_15, cn_16, cn_17, cn_18, cn_19, cn_20, cn_21, cn_22, cn_23, cn_24, cn_25, cn_26, cn_27, cn_28, cn_29, cn_30, cn_31, cn_32, cn_33, cn_34, cn_35, cn_36, cn_37, cn_38, cn_39, cn_40, cn_41, cn_42, cn_43, cn_44, cn_45, cn_46, cn_47, cn_48, cn_49, cn_50, cn_51, cn_52, cn_53, cn_54, cn_55, Nat.reduceAdd, Nat.reduceLT, Nat.reduceLeDiff, Nat.lt_add_one, Nat.zero_lt_succ, Nat.reduceSub, ite_true, ite_false, reduceCtorEq, forall_const, Nat.reduceSucc, Nat.zero_add, Nat.add_zero, Nat.le_refl, Nat.zero_le, Nat.reducePow, Int.reduceNeg, Nat.reduceMul, eq_self, Int.cast_ofNat_Int, Int.toNat_natCast, iR, lR, Int.reduceEq, Int.reduceLT, Int.reduceLE, Int.reduceNe, not_false_eq_true, not_true_eq_false, false_implies, true_implies, Int.reduceAdd, Int.reduceSub, Int.reduceMul, Int.reduceToNat, implies_true, or_true, true_or, or_false, false_or, T_X10_areTwo, T_X3_gather]
  refine ⟨ha, hb, hI, fun q => ?_, fun q => h2 fun z => q z.1⟩
  obtain ⟨wa, wb, wc, wd, we⟩ := id q
  have ia := (hI a.toNat (by omega)).1
  have ib := (hI b.toNat (by omega)).1
  refine ⟨wa, by omega, wb, by omega, by omega, by omega, fun e => ⟨wa, wb, by omega, by omega, hI, e, fun M1 hf hpk => ?_⟩, fun e => h2 fun z => e z.2⟩
  rw [hpk.2.1]
  exact h1 ⟨q, e⟩ M1 hf
