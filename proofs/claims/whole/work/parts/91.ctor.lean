/-! the class's constructor -/
def rf10 : List (Nat × Nat) := [(10, 0), (10, 1), (10, 2), (10, 3), (10, 4), (10, 5), (10, 6), (10, 7), (4, 0), (3, 0), (3, 1), (0, 0), (9, 0), (9, 1), (5, 0), (5, 1), (5, 2), (5, 3), (5, 4), (2, 0), (2, 1), (6, 0), (6, 1), (6, 2), (6, 3), (1, 0), (1, 1), (1, 2), (1, 3), (7, 0), (7, 1), (7, 2)]
def F10 (M : Mm) : Prop := (∀ q : Nat × Nat, q ∈ rf10 → M q.1 0 q.2 = 1) ∧ (∀ s : Nat, s < 8 → M 8 s 0 = 1 ∧ M 8 s 1 = 0 ∧ M 30 0 s = 1) ∧ CI M ∧ RI M ∧ (M 1 0 4 = 2 ∧ M 1 0 5 = 2 ∧ M 1 0 6 = 0) ∧ (∀ j : Nat, M 13 0 j = 0) ∧ M 2 0 2 = 0 ∧ M 6 0 4 = 0 ∧ M 6 0 5 = 0 ∧ M 7 0 3 = 0
def T_X10_init : Ct := fun as M P => match as with
  | [.inr (some (g, s))] => g = 10 ∧ s = 0 ∧ M 99 0 0 = 1 ∧ ∀ M' : Mm, M' 99 0 0 = 44 → F10 M' → P none M'
  | _ => False
set_option maxRecDepth 20000 in
theorem k_X10_init (l : Launch) : MetP l yX10_init cX10_init 3 none 2 43 216621 T_X10_init := by
  refine MetP.of (by decide +kernel) (fun as M P h => by unfold T_X10_init at h; split at h <;> first | (simp [elo]; done) | exact h.elim) (fun x as M P h hn C hR I => ?_)
  unfold T_X10_init at h
  split at h
  rotate_left
  · exact h.elim
  rename_i g s
  obtain ⟨rfl, rfl, hM, hP⟩ := h
  have hm : nof M = 1 := by unfold nof; omega
  rw [hm] at C hn
  refine BP_X10_init_0 C (by decide) (I rfl) _ _ _ ?_
  simp only [c_iadd, c_isub, c_imul, c_ladd, c_lsub, c_lmul, c_ineg, c_lneg, c_ic, c_lc, c_iload, c_lload, c_aload, c_istore, c_astore, c_lstore, c_iinc, c_dup, c_dup2, c_goto, c_i2l, c_l2i, c_idiv, c_ldiv, c_lrem, c_lshl, c_gi, c_gl, c_gr, c_pi, c_pz, c_pl, c_iald, c_lald, c_bald, c_aald, c_iast, c_last, c_bast, c_callV, c_callS, c_mmax, c_mmin, c_mabs, c_mmaxl, c_mabsl, c_iret, c_zret, c_lret, c_vret, c_tsw, c_lsw, c_icmp_eq, c_icmp_ne, c_icmp_lt, c_icmp_ge, c_icmp_gt, c_icmp_le, c_if_eq, c_if_ne, c_if_lt, c_if_ge, c_if_gt, c_if_le, c_lcmp_eq, c_lcmp_ne, c_lcmp_lt, c_lcmp_ge, c_lcmp_gt, c_lcmp_le, c_lraw_eq, c_lraw_lt, c_lraw_ge, c_lraw_gt, c_lraw_le, acat, scat, tswP, pops, st1, st2, klo, pad, elo, List.getElem?_cons_zero, List.getElem?_cons_succ, List.getElem?_nil, List.set_cons_zero, List.set_cons_succ, List.set_nil, Option.toList_some, Option.toList_none, List.cons_append, List.nil_append, List.length_cons, List.length_nil, stc_ap, stm_ap, false_and, and_false, and_self, true_and, and_true, Nat.reduceEqDiff, reduceIte, al_12, al_13, al_14, al_15, al_16, al_17, al_18, al_19, al_20, al_21, al_22, al_23, al_24, al_25, al_26, al_27, al_28, al_29, al_30, al_31, al_32, al_33, al_34, al_35, al_36, al_37, al_38, al_39, al_40, al_41, al_42, al_43, al_44, al_45, al_46, al_47, al_48, al_49, al_50, al_51, al_52, al_53, al_54, al_55, at_12, at_13, at_14, at_15, at_16, at_17, at_18, at_19, at_20, at_21, at_22, at_23, at_24, at_25, at_26, at_27, at_28, at_29, at_30, at_31, at_32, at_33, at_34, at_35, at_36, at_37, at_38, at_39, at_40, at_41, at_42, at_43, at_44, at_45, at_46, at_47, at_48, at_49, at_50, at_51, at_52, at_53, at_54, at_55, cn_0, cn_1, cn_2, cn_3, cn_4, cn_5, cn_6, cn_7, cn_8, cn_9, cn_10, cn_11, cn_12, cn_13, cn_14, cn_15, cn_16, cn_17, cn_18, cn_19, cn_20, cn_21, cn_22, cn_23, cn_24, cn_25, cn_26, cn_27, cn_28, cn_29, cn_30, cn_31, cn_32, cn_33, cn_34, cn_35, cn_36, cn_37, cn_38, cn_39, cn_40, cn_41, cn_42, cn_43, cn_44, cn_45, cn_46, cn_47, cn_48, cn_49, cn_50, cn_51, cn_52, cn_53, cn_54, cn_55, Nat.reduceAdd, Nat.reduceLT, Nat.reduceLeDiff, Nat.lt_add_one, Nat.zero_lt_succ, Nat.reduceSub, ite_true, ite_false, reduceCtorEq, forall_const, Nat.reduceSucc, Nat.zero_add, Nat.add_zero, Nat.le_refl, Nat.zero_le, Nat.reducePow, Int.reduceNeg, Nat.reduceMul, eq_self, Int.cast_ofNat_Int, Int.toNat_natCast, iR, lR, Int.reduceEq, Int.reduceLT, Int.reduceLE, Int.reduceNe, not_false_eq_true, not_true_eq_false, false_implies, true_implies, Int.reduceAdd, Int.reduceSub, Int.reduceMul, Int.reduceToNat, implies_true, or_true, true_or, or_false, false_or, c_new, c_newE, c_newa, c_newaE, c_oinit, c_grP, c_pr, c_piP, c_laldP, c_lastP, c_iastP, c_aastP, c_callI, c_callSP, c_vretP, c_iretP, ix_0, ix_1, ix_2, ix_3, ix_4, ix_5, ix_6, ix_7, ix_8, ix_9, ix_10, ix_11, ix_12, ix_13, ix_14, ix_15, ix_16, ix_17, ix_18, ix_19, ix_20, ix_21, ix_22, ix_23, ix_24, ix_25, ix_26, ix_27, ix_28, ix_29, ix_30, ix_31, ix_32, ix_33, ix_34, ix_35, ix_36, ix_37, ix_38, ix_39, ix_40, ix_41, ix_42, ix_43, ix_44, ix_45, ix_46, ix_47, ix_48, ix_49, ix_50, ix_51, ix_52, ix_53, ix_54, ix_55, hn, nw_ap, hM]
  refine loopU 8 (fun i M' => ∃ N : Nat, i = N ∧ N ≤ 8 ∧ M' 99 0 0 = 2 + 2 * N ∧ M' 10 0 0 = 1 ∧ ∀ s : Nat, s < N → M' 8 s 0 = 1 ∧ M' 8 s 1 = 0 ∧ M' 30 0 s = 1) (fun i M' => JP x 15 [some (zr 10 0), some (zi i), none] [] M') ?_ 0 _ ⟨0, rfl, by omega, ?_, ?_, fun s h => by omega⟩
  · intro i M' ⟨N, hN, hN8, h99, h10, hs⟩ ih
    subst hN
    refine BP_X10_init_15 C hR (I rfl) (k_X4_init l) (by decide) (k_X3_init l) (by decide) (k_X0_init l) (by decide) (k_X9_init l) (by decide) (k_X5_init l) (by decide) (k_X2_init l) (by decide) (k_X6_init l) (by decide) (k_X1_init l) (by decide) (k_X7_init l) (by decide) (k_X8_init l) (by decide) _ _ _ ?_
    simp only [c_iadd, c_isub, c_imul, c_ladd, c_lsub, c_lmul, c_ineg, c_lneg, c_ic, c_lc, c_iload, c_lload, c_aload, c_istore, c_astore, c_lstore, c_iinc, c_dup, c_dup2, c_goto, c_i2l, c_l2i, c_idiv, c_ldiv, c_lrem, c_lshl, c_gi, c_gl, c_gr, c_pi, c_pz, c_pl, c_iald, c_lald, c_bald, c_aald, c_iast, c_last, c_bast, c_callV, c_callS, c_mmax, c_mmin, c_mabs, c_mmaxl, c_mabsl, c_iret, c_zret, c_lret, c_vret, c_tsw, c_lsw, c_icmp_eq, c_icmp_ne, c_icmp_lt, c_icmp_ge, c_icmp_gt, c_icmp_le, c_if_eq, c_if_ne, c_if_lt, c_if_ge, c_if_gt, c_if_le, c_lcmp_eq, c_lcmp_ne, c_lcmp_lt, c_lcmp_ge, c_lcmp_gt, c_lcmp_le, c_lraw_eq, c_lraw_lt, c_lraw_ge, c_lraw_gt, c_lraw_le, acat, scat, tswP, pops, st1, st2, klo, pad, elo, List.getElem?_cons_zero, List.getElem?_cons_succ, List.getElem?_nil, List.set_cons_zero, List.set_cons_succ, List.set_nil, Option.toList_some, Option.toList_none, List.cons_append, List.nil_append, List.length_cons, List.length_nil, stc_ap, stm_ap, false_and, and_false, and_self, true_and, and_true, Nat.reduceEqDiff, reduceIte, al_12, al_13, al_14, al_15, al_16, al_17, al_18, al_19, al_20, al_21, al_22, al_23, al_24, al_25, al_26, al_27, al_28, al_29, al_30, al_31, al_32, al_33, al_34, al_35, al_36, al_37, al_38, al_39, al_40, al_41, al_42, al_43, al_44, al_45, al_46, al_47, al_48, al_49, al_50, al_51, al_52, al_53, al_54, al_55, at_12, at_13, at_14, at_15, at_16, at_17, at_18, at_19, at_20, at_21, at_22, at_23, at_24, at_25, at_26, at_27, at_28, at_29, at_30, at_31, at_32, at_33, at_34, at_35, at_36, at_37, at_38, at_39, at_40, at_41, at_42, at_43, at_44, at_45, at_46, at_47, at_48, at_49, at_50, at_51, at_52, at_53, at_54, at_55, cn_0, cn_1, cn_2, cn_3, cn_4, cn_5, cn_6, cn_7, cn_8, cn_9, cn_10, cn_11, cn_12, cn_13, cn_14, cn_15, cn_16, cn_17, cn_18, cn_19, cn_20, cn_21, cn_22, cn_23, cn_24, cn_25, cn_26, cn_27, cn_28, cn_29, cn_30, cn_31, cn_32, cn_33, cn_34, cn_35, cn_36, cn_37, cn_38, cn_39, cn_40, cn_41, cn_42, cn_43, cn_44, cn_45, cn_46, cn_47, cn_48, cn_49, cn_50, cn_51, cn_52, cn_53, cn_54, cn_55, Nat.reduceAdd, Nat.reduceLT, Nat.reduceLeDiff, Nat.lt_add_one, Nat.zero_lt_succ, Nat.reduceSub, ite_true, ite_false, reduceCtorEq, forall_const, Nat.reduceSucc, Nat.zero_add, Nat.add_zero, Nat.le_refl, Nat.zero_le, Nat.reducePow, Int.reduceNeg, Nat.reduceMul, eq_self, Int.cast_ofNat_Int, Int.toNat_natCast, iR, lR, Int.reduceEq, Int.reduceLT, Int.reduceLE, Int.reduceNe, not_false_eq_true, not_true_eq_false, false_implies, true_implies, Int.reduceAdd, Int.reduceSub, Int.reduceMul, Int.reduceToNat, implies_true, or_true, true_or, or_false, false_or, c_new, c_newE, c_newa, c_newaE, c_oinit, c_grP, c_pr, c_piP, c_laldP, c_lastP, c_iastP, c_aastP, c_callI, c_callSP, c_vretP, c_iretP, ix_0, ix_1, ix_2, ix_3, ix_4, ix_5, ix_6, ix_7, ix_8, ix_9, ix_10, ix_11, ix_12, ix_13, ix_14, ix_15, ix_16, ix_17, ix_18, ix_19, ix_20, ix_21, ix_22, ix_23, ix_24, ix_25, ix_26, ix_27, ix_28, ix_29, ix_30, ix_31, ix_32, ix_33, ix_34, ix_35, ix_36, ix_37, ix_38, ix_39, ix_40, ix_41, ix_42, ix_43, ix_44, ix_45, ix_46, ix_47, ix_48, ix_49, ix_50, ix_51, ix_52, ix_53, ix_54, ix_55, hn, nof_nw, nw_ap, h99, h10, T_X4_init, T_X3_init, T_X0_init, T_X9_init, T_X5_init, T_X2_init, T_X6_init, T_X1_init, T_X7_init, T_X8_init]
    refine ⟨by omega, fun c => ⟨by omega, by decide +kernel, by decide +kernel, by decide +kernel, fun f hf => ⟨by decide +kernel, by decide +kernel, by decide +kernel, by decide +kernel, fun h hh => ⟨by decide +kernel, by decide +kernel, ?_⟩⟩⟩, fun c => ?_⟩
    · have h8 : N = 8 := by omega
      subst h8
      have hfr : ∀ s : Nat, s < 8 → M' 8 s 0 = 1 ∧ M' 8 s 1 = 0 ∧ M' 30 0 s = 1 := hs
      refine hP _ ?_ ⟨?_, fun s h8 => ?_, fun n k h1 h2 => ?_, fun j hj => ?_, ?_, fun j => ?_, ?_⟩
      · simp only [stc_ap, stm_ap, false_and, and_false, and_self, true_and, and_true, Nat.reduceEqDiff, reduceIte, nw_ap, ix_26]; rfl
      · simp only [rf10, List.forall_mem_cons]
        simp only [stc_ap, stm_ap, false_and, and_false, and_self, true_and, and_true, Nat.reduceEqDiff, reduceIte, nw_ap, h10]
        exact fun k h => absurd h List.not_mem_nil
      · simp only [stc_ap, stm_ap, false_and, and_false, and_self, true_and, and_true, Nat.reduceEqDiff, reduceIte, nw_ap]
        exact hfr s h8
      · simp only [stc_ap, stm_ap, false_and, and_false, and_self, true_and, and_true, Nat.reduceEqDiff, reduceIte, nw_ap]
        exact hf n k h1 h2
      · simp only [stc_ap, stm_ap, false_and, and_false, and_self, true_and, and_true, Nat.reduceEqDiff, reduceIte, nw_ap]
        exact hh j hj
      · simp only [stc_ap, stm_ap, false_and, and_false, and_self, true_and, and_true, Nat.reduceEqDiff, reduceIte, nw_ap]
      · simp only [stc_ap, stm_ap, false_and, and_false, and_self, true_and, and_true, Nat.reduceEqDiff, reduceIte, nw_ap]
      · simp only [stc_ap, stm_ap, false_and, and_false, and_self, true_and, and_true, Nat.reduceEqDiff, reduceIte, nw_ap]
    · refine ⟨by omega, N, by omega, by omega, by omega, by omega, ?_, by omega, by omega, rfl, by omega, by omega, by omega, ?_⟩
      · have e := sls_succ (ix_al (g := 27) (s := N) (show N < 8 by omega))
        rw [ix_27, show osl 27 = 20 from rfl] at e
        rw [show 2 + 2 * N + 1 = 3 + 2 * N by omega]
        exact e
      · refine ih (by omega) _ ⟨N + 1, by omega, by omega, ?_, ?_, fun s h => ?_⟩
        · simp only [stc_ap, stm_ap, false_and, and_false, and_self, true_and, and_true, Nat.reduceEqDiff, reduceIte, nw_ap, ix_27]
          omega
        · simp only [stc_ap, stm_ap, false_and, and_false, and_self, true_and, and_true, Nat.reduceEqDiff, reduceIte, nw_ap, h10]
        · simp only [stc_ap, stm_ap, false_and, and_false, and_self, true_and, and_true, Nat.reduceEqDiff, reduceIte, nw_ap]
          by_cases e : s = N
          · subst e
            simp
          · have := hs s (by omega)
            simp [e, this]
  · simp only [stc_ap, stm_ap, false_and, and_false, and_self, true_and, and_true, Nat.reduceEqDiff, reduceIte, nw_ap, ix_30]; rfl
  · simp only [stc_ap, stm_ap, false_and, and_false, and_self, true_and, and_true, Nat.reduceEqDiff, reduceIte, nw_ap]
