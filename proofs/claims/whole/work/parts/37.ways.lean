/-! CloudBench$Reach.waysOfPairs -/
def T_X6_waysOfPairs : Ct := fun as M P => match as with
  | [.inr (some (g, s)), .inl (.inl k), .inl (.inl o), .inl (.inl u)] => g = 6 ∧ s = 0 ∧ RI M ∧ (1 ≤ k ∧ k ≤ 20) ∧ (1 ≤ o ∧ o ≤ 20) ∧ iR u ∧ (¬ (0 ≤ u ∧ u ≤ k * o) → P (some (zl 0)) M) ∧ ((0 ≤ u ∧ u ≤ k * o) → ∀ M' : Mm, (∀ g' : Nat, ¬ g' = 9 → ¬ g' = 28 → ¬ g' = 29 → M' g' = M g') → P (some (zl (cw (M 22 0) (k + o).toNat k.toNat (sm (M 22 0) k.toNat + u)))) M')
  | _ => False
theorem k_X6_waysOfPairs (l : Launch) : MetT l yX6_waysOfPairs cX6_waysOfPairs 4 (some .long) 4 T_X6_waysOfPairs := by
  refine MetT.of (by decide +kernel) (fun as M P h => by unfold T_X6_waysOfPairs at h; split at h <;> first | (simp [elo]; done) | exact h.elim) (fun x as M P h C hR => ?_)
  unfold T_X6_waysOfPairs at h
  split at h
  rotate_left
  · exact h.elim
  rename_i g s k o u
  obtain ⟨rfl, rfl, hI, hk, ho, hu, h0, h1⟩ := h
  refine B_X6_waysOfPairs_0 C hR (k_X6_countPairs l) (by decide) (k_X9_of l) (by decide) _ _ _ ?_
  simp only [c_iadd, c_isub, c_imul, c_ladd, c_lsub, c_lmul, c_ineg, c_lneg, c_ic, c_lc, c_iload, c_lload, c_aload, c_istore, c_astore, c_lstore, c_iinc, c_dup, c_dup2, c_goto, c_i2l, c_l2i, c_idiv, c_ldiv, c_lrem, c_lshl, c_gi, c_gl, c_gr, c_pi, c_pz, c_pl, c_iald, c_lald, c_bald, c_aald, c_iast, c_last, c_bast, c_callV, c_callS, c_mmax, c_mmin, c_mabs, c_mmaxl, c_mabsl, c_iret, c_zret, c_lret, c_vret, c_tsw, c_lsw, c_icmp_eq, c_icmp_ne, c_icmp_lt, c_icmp_ge, c_icmp_gt, c_icmp_le, c_if_eq, c_if_ne, c_if_lt, c_if_ge, c_if_gt, c_if_le, c_lcmp_eq, c_lcmp_ne, c_lcmp_lt, c_lcmp_ge, c_lcmp_gt, c_lcmp_le, c_lraw_eq, c_lraw_lt, c_lraw_ge, c_lraw_gt, c_lraw_le, acat, scat, tswP, pops, st1, st2, klo, pad, elo, List.getElem?_cons_zero, List.getElem?_cons_succ, List.getElem?_nil, List.set_cons_zero, List.set_cons_succ, List.set_nil, Option.toList_some, Option.toList_none, List.cons_append, List.nil_append, List.length_cons, List.length_nil, stc_ap, stm_ap, false_and, and_false, and_self, true_and, and_true, Nat.reduceEqDiff, reduceIte, al_12, al_13, al_14, al_15, al_16, al_17, al_18, al_19, al_20, al_21, al_22, al_23, al_24, al_25, al_26, al_27, al_28, al_29, al_30, al_31, al_32, al_33, al_34, al_35, al_36, al_37, al_38, al_39, al_40, al_41, al_42, al_43, al_44, al_45, al_46, al_47, al_48, al_49, al_50, al_51, al_52, al_53, al_54, al_55, at_12, at_13, at_14, at_15, at_16, at_17, at_18, at_19, at_20, at_21, at_22, at_23, at_24, at_25, at_26, at_27, at_28, at_29, at_30, at_31, at_32, at_33, at_34, at_35, at_36, at_37, at_38, at_39, at_40, at_41, at_42, at_43, at_44, at_45, at_46, at_47, at_48, at_49, at_50, at_51, at_52, at_53, at_54, at_55, cn_0, cn_1, cn_2, cn_3, cn_4, cn_5, cn_6, cn_7, cn_8, cn_9, cn_10, cn_11, cn_12, cn_13, cn_14, cn_15, cn_16, cn_17, cn_18, cn_19, cn_20, cn_21, cn_22, cn_23, cn_24, cn_25, cn_26, cn_27, cn_28, cn_29, cn_30, cn_31, cn_32, cn_33, cn_34, cn_35, cn_36, cn_37, cn_38, cn_39, cn_40, cn_41, cn_42, cn_43, cn_44, cn_45, cn_46, cn_47, cn_48, cn_49, cn_50, cn_51, cn_52, cn_53, cn_54, cn_55, Nat.reduceAdd, Nat.reduceLT, Nat.reduceLeDiff, Nat.lt_add_one, Nat.zero_lt_succ, Nat.reduceSub, ite_true, ite_false, reduceCtorEq, forall_const, Nat.reduceSucc, Nat.zero_add, Nat.add_zero, Nat.le_refl, Nat.zero_le, Nat.reducePow, Int.reduceNeg, Nat.reduceMul, eq_self, Int.cast_ofNat_Int, Int.toNat_natCast, iR, lR, Int.reduceEq, Int.reduceLT, Int.reduceLE, Int.reduceNe, not_false_eq_true, not_true_eq_false, false_implies, true_implies, Int.reduceAdd, Int.reduceSub, Int.reduceMul, Int.reduceToNat, implies_true, or_true, true_or, or_false, false_or, T_X6_countPairs, T_X9_of]
  have m1 : 0 ≤ k * o ∧ k * o ≤ k * 20 := ⟨Int.mul_nonneg (by omega) (by omega), Int.mul_le_mul_of_nonneg_left (by omega) (by omega)⟩
  have hr : ∀ j : Nat, j < (k + o).toNat → 0 ≤ M 22 0 j ∧ M 22 0 j ≤ 1000 := fun j hj => by rw [hI j (by omega)]; omega
  have hso : srt (M 22 0) (k + o).toNat := fun i j e1 e2 => by rw [hI i (by omega), hI j (by omega)]; omega
  refine ⟨hu, fun q => h0 (by omega), fun q => ⟨hu, by omega, fun q2 => ⟨hI, by omega, by omega, fun M1 hf e2 e3 e4 hw => ?_⟩, fun q2 => h0 (by omega)⟩⟩
  have g1 := gsm_in (f := M 22 0) (n := (k + o).toNat) (k := k.toNat) (c := 1000) (by omega) hr
  have g2 := sm_in (f := M 22 0) (n := k.toNat) (c := 1000) (by decide) (fun q hq => hr q (by omega))
  have b1 := sos_in (j := k.toNat) (by omega)
  rw [show ((k.toNat : Nat) : Int) = k by omega] at b1 g1 g2
  rw [e2, e3, e4]
  have hfin := h1 ⟨by omega, q2⟩ M1 hf
  refine ⟨by omega, by omega, by omega, fun _ _ => by omega, ?_⟩
  by_cases c : sm (M 22 0) k.toNat ≤ sm (M 22 0) k.toNat + u ∧ sm (M 22 0) k.toNat + u ≤ gsm (M 22 0) (k + o).toNat k.toNat
  · rw [if_pos c, hw _ c.1 c.2]
    exact hfin
  · rw [if_neg c]
    have : cw (M 22 0) (k + o).toNat k.toNat (sm (M 22 0) k.toNat + u) = 0 := by
      apply Classical.byContradiction
      intro z
      exact c (cw_supp hso (by omega) z)
    rw [this] at hfin
    exact hfin
