/-! CloudBenchModel: ALL, ranks, differences, the list of scores, what is counted -/
theorem stm_cm (M : Mm) (g s k g' s' k' : Nat) (v v' : Int) (h : ¬ g = g') : stm (stm M g s k v) g' s' k' v' = stm (stm M g' s' k' v') g s k v := by
  funext a b c
  simp only [stm_ap]
  by_cases h1 : a = g' ∧ b = s' ∧ c = k'
  · rw [if_pos h1, if_neg (fun z => h (z.1.symm.trans h1.1)), if_pos h1]
  · rw [if_neg h1, if_neg h1]
theorem stm_sm (M : Mm) (g s k : Nat) (v v' : Int) : stm (stm M g s k v) g s k v' = stm M g s k v' := by
  funext a b c
  simp only [stm_ap]
  by_cases h1 : a = g ∧ b = s ∧ c = k
  · rw [if_pos h1, if_pos h1]
  · rw [if_neg h1, if_neg h1, if_neg h1]
theorem stm_id (M : Mm) (g s k : Nat) : stm M g s k (M g s k) = M := by
  funext a b c
  simp only [stm_ap]
  by_cases h1 : a = g ∧ b = s ∧ c = k
  · rw [if_pos h1, h1.1, h1.2.1, h1.2.2]
  · rw [if_neg h1]
theorem stm_kc (M : Mm) (g s k g' s' k' : Nat) (v v' : Int) (h : ¬ k = k') : stm (stm M g s k v) g' s' k' v' = stm (stm M g' s' k' v') g s k v := by
  funext a b c
  simp only [stm_ap]
  by_cases h1 : a = g' ∧ b = s' ∧ c = k'
  · rw [if_pos h1, if_neg (fun z => h (z.2.2.symm.trans h1.2.2)), if_pos h1]
  · rw [if_neg h1, if_neg h1]
def tst (M : Mm) (f : Nat → Int) (n : Int) : Mm := stm (stc M 38 0 f) 11 0 15 n
theorem tst_38 (M : Mm) (f : Nat → Int) (n : Int) (k : Nat) (v : Int) : stm (tst M f n) 38 0 k v = tst M (fun j => if j = k then v else f j) n := by
  unfold tst
  rw [stm_cm _ _ _ _ _ _ _ _ _ (by decide), stm_on]
theorem tst_15 (M : Mm) (f : Nat → Int) (n v : Int) : stm (tst M f n) 11 0 15 v = tst M f v := by
  unfold tst
  rw [stm_sm]
theorem tst_o (M : Mm) (f : Nat → Int) (n : Int) {g : Nat} (h1 : ¬ g = 11) (h2 : ¬ g = 38) : tst M f n g = M g := by
  unfold tst
  rw [stm_ne _ _ _ _ _ h1, stc_ne _ _ _ _ h2]
theorem tst_r38 (M : Mm) (f : Nat → Int) (n : Int) : tst M f n 38 0 = f := by
  funext k; simp [tst, stm_ap, stc_ap]
theorem tst_r15 (M : Mm) (f : Nat → Int) (n : Int) : tst M f n 11 0 15 = n := rfl
theorem tst_r31 (M : Mm) (f : Nat → Int) (n : Int) : tst M f n 31 = M 31 := tst_o M f n (by decide) (by decide)
theorem tst_r32 (M : Mm) (f : Nat → Int) (n : Int) : tst M f n 32 = M 32 := tst_o M f n (by decide) (by decide)
def T_X11_takeAll : Ct := fun as M P => match as with
  | [.inr (some (g, s)), .inl (.inl a), .inl (.inl b)] => g = 11 ∧ s = 0 ∧ (0 ≤ a ∧ a < 8) ∧ (0 ≤ b ∧ b < 8) ∧ SI M ∧ SE M ∧ ∀ f : Nat → Int, (∀ j : Nat, (j : Int) < M 8 a.toNat 1 + M 8 b.toNat 1 → f j = pol M a.toNat b.toNat j) → P none (tst M f (M 8 a.toNat 1 + M 8 b.toNat 1))
  | _ => False
theorem k_X11_takeAll (l : Launch) : MetT l yX11_takeAll cX11_takeAll 4 none 0 T_X11_takeAll := by
  refine MetT.of (by decide +kernel) (fun as M P h => by unfold T_X11_takeAll at h; split at h <;> first | (simp [elo]; done) | exact h.elim) (fun x as M P h C hR => ?_)
  unfold T_X11_takeAll at h
  split at h
  rotate_left
  · exact h.elim
  rename_i g s a b
  obtain ⟨rfl, rfl, ha, hb, hI, hE, hP⟩ := h
  have ia := (hI a.toNat (by omega)).1
  have ib := (hI b.toNat (by omega)).1
  have ea := hE.sz ha
  have eb := hE.sz hb
  refine B_X11_takeAll_0 C _ _ _ ?_
  simp only [c_iadd, c_isub, c_imul, c_ladd, c_lsub, c_lmul, c_ineg, c_lneg, c_ic, c_lc, c_iload, c_lload, c_aload, c_istore, c_astore, c_lstore, c_iinc, c_dup, c_dup2, c_goto, c_i2l, c_l2i, c_idiv, c_ldiv, c_lrem, c_lshl, c_gi, c_gl, c_gr, c_pi, c_pz, c_pl, c_iald, c_lald, c_bald, c_aald, c_iast, c_last, c_bast, c_callV, c_callS, c_mmax, c_mmin, c_mabs, c_mmaxl, c_mabsl, c_iret, c_zret, c_lret, c_vret, c_tsw, c_lsw, c_icmp_eq, c_icmp_ne, c_icmp_lt, c_icmp_ge, c_icmp_gt, c_icmp_le, c_if_eq, c_if_ne, c_if_lt, c_if_ge, c_if_gt, c_if_le, c_lcmp_eq, c_lcmp_ne, c_lcmp_lt, c_lcmp_ge, c_lcmp_gt, c_lcmp_le, c_lraw_eq, c_lraw_lt, c_lraw_ge, c_lraw_gt, c_lraw_le, acat, scat, tswP, pops, st1, st2, klo, pad, elo, List.getElem?_cons_zero, List.getElem?_cons_succ, List.getElem?_nil, List.set_cons_zero, List.set_cons_succ, List.set_nil, Option.toList_some, Option.toList_none, List.cons_append, List.nil_append, List.length_cons, List.length_nil, stc_ap, stm_ap, false_and, and_false, and_self, true_and, and_true, Nat.reduceEqDiff, reduceIte, al_12, al_13, al_14, al_15, al_16, al_17, al_18, al_19, al_20, al_21, al_22, al_23, al_24, al_25, al_26, al_27, al_28, al_29, al_30, al_31, al_32, al_33, al_34, al_35, al_36, al_37, al_38, al_39, al_40, al_41, al_42, al_43, al_44, al_45, al_46, al_47, al_48, al_49, al_50, al_51, al_52, al_53, al_54, al_55, at_12, at_13, at_14, at_15, at_16, at_17, at_18, at_19, at_20, at_21, at_22, at_23, at_24, at_25, at_26, at_27, at_28, at_29, at_30, at_31, at_32, at_33, at_34, at_35, at_36, at_37, at_38, at_39, at_40, at_41, at_42, at_43, at_44, at_45, at_46, at_47, at_48, at_49, at_50, at_51, at_52, at_53, at_54, at_55, cn_0, cn_1, cn_2, cn_3, cn_4, cn_5, cn_6, cn_7, cn_8, cn_9, cn_10, cn_11, cn_12, cn_13, cn_14, cn_15, cn_16, cn_17, cn_18, cn_19, cn_20, cn_21, cn_22, cn_23, cn_24, cn_25, cn_26, cn_27, cn_28, cn_29, cn_30, cn_31, cn_32, cn_33, cn_34, cn_35, cn_36, cn_37, cn_38, cn_39, cn_40, cn_41, cn_42, cn_43, cn_44, cn_45, cn_46, cn_47, cn_48, cn_49, cn_50, cn_51, cn_52, cn_53, cn_54, cn_55, Nat.reduceAdd, Nat.reduceLT, Nat.reduceLeDiff, Nat.lt_add_one, Nat.zero_lt_succ, Nat.reduceSub, ite_true, ite_false, reduceCtorEq, forall_const, Nat.reduceSucc, Nat.zero_add, Nat.add_zero, Nat.le_refl, Nat.zero_le, Nat.reducePow, Int.reduceNeg, Nat.reduceMul, eq_self, Int.cast_ofNat_Int, Int.toNat_natCast, iR, lR, Int.reduceEq, Int.reduceLT, Int.reduceLE, Int.reduceNe, not_false_eq_true, not_true_eq_false, false_implies, true_implies, Int.reduceAdd, Int.reduceSub, Int.reduceMul, Int.reduceToNat, implies_true, or_true, true_or, or_false, false_or]
  refine loopU (M 8 a.toNat 1 + M 8 b.toNat 1) (fun i M' => (0 ≤ i ∧ i ≤ M 8 a.toNat 1 + M 8 b.toNat 1) ∧ ∃ f : Nat → Int, M' = tst M f i ∧ ∀ j : Nat, (j : Int) < i → f j = pol M a.toNat b.toNat j) (fun i M' => J x 7 [some (zr 11 0), some (zi a), some (zi b), some (zi i)] [] M') ?_ 0 _ ⟨by omega, M 38 0, by unfold tst; rw [stc_id], fun j hj => by omega⟩
  rintro i M' ⟨hi, f, rfl, hf⟩ ih
  have h71 : ∀ v : Int, i < M 8 a.toNat 1 + M 8 b.toNat 1 → v = pol M a.toNat b.toNat i.toNat → J x 71 [some (zr 11 0), some (zi a), some (zi b), some (zi i)] [zi v, zi i, zr 38 0] (tst M f i) := by
    intro v hlt hv
    refine B_X11_takeAll_71 C _ _ _ ?_
    simp only [c_iadd, c_isub, c_imul, c_ladd, c_lsub, c_lmul, c_ineg, c_lneg, c_ic, c_lc, c_iload, c_lload, c_aload, c_istore, c_astore, c_lstore, c_iinc, c_dup, c_dup2, c_goto, c_i2l, c_l2i, c_idiv, c_ldiv, c_lrem, c_lshl, c_gi, c_gl, c_gr, c_pi, c_pz, c_pl, c_iald, c_lald, c_bald, c_aald, c_iast, c_last, c_bast, c_callV, c_callS, c_mmax, c_mmin, c_mabs, c_mmaxl, c_mabsl, c_iret, c_zret, c_lret, c_vret, c_tsw, c_lsw, c_icmp_eq, c_icmp_ne, c_icmp_lt, c_icmp_ge, c_icmp_gt, c_icmp_le, c_if_eq, c_if_ne, c_if_lt, c_if_ge, c_if_gt, c_if_le, c_lcmp_eq, c_lcmp_ne, c_lcmp_lt, c_lcmp_ge, c_lcmp_gt, c_lcmp_le, c_lraw_eq, c_lraw_lt, c_lraw_ge, c_lraw_gt, c_lraw_le, acat, scat, tswP, pops, st1, st2, klo, pad, elo, List.getElem?_cons_zero, List.getElem?_cons_succ, List.getElem?_nil, List.set_cons_zero, List.set_cons_succ, List.set_nil, Option.toList_some, Option.toList_none, List.cons_append, List.nil_append, List.length_cons, List.length_nil, stc_ap, stm_ap, false_and, and_false, and_self, true_and, and_true, Nat.reduceEqDiff, reduceIte, al_12, al_13, al_14, al_15, al_16, al_17, al_18, al_19, al_20, al_21, al_22, al_23, al_24, al_25, al_26, al_27, al_28, al_29, al_30, al_31, al_32, al_33, al_34, al_35, al_36, al_37, al_38, al_39, al_40, al_41, al_42, al_43, al_44, al_45, al_46, al_47, al_48, al_49, al_50, al_51, al_52, al_53, al_54, al_55, at_12, at_13, at_14, at_15, at_16, at_17, at_18, at_19, at_20, at_21, at_22, at_23, at_24, at_25, at_26, at_27, at_28, at_29, at_30, at_31, at_32, at_33, at_34, at_35, at_36, at_37, at_38, at_39, at_40, at_41, at_42, at_43, at_44, at_45, at_46, at_47, at_48, at_49, at_50, at_51, at_52, at_53, at_54, at_55, cn_0, cn_1, cn_2, cn_3, cn_4, cn_5, cn_6, cn_7, cn_8, cn_9, cn_10, cn_11, cn_12, cn_13, cn_14, cn_15, cn_16, cn_17, cn_18, cn_19, cn_20, cn_21, cn_22, cn_23, cn_24, cn_25, cn_26, cn_27, cn_28, cn_29, cn_30, cn_31, cn_32, cn_33, cn_34, cn_35, cn_36, cn_37, cn_38, cn_39, cn_40, cn_41, cn_42, cn_43, cn_44, cn_45, cn_46, cn_47, cn_48, cn_49, cn_50, cn_51, cn_52, cn_53, cn_54, cn_55, Nat.reduceAdd, Nat.reduceLT, Nat.reduceLeDiff, Nat.lt_add_one, Nat.zero_lt_succ, Nat.reduceSub, ite_true, ite_false, reduceCtorEq, forall_const, Nat.reduceSucc, Nat.zero_add, Nat.add_zero, Nat.le_refl, Nat.zero_le, Nat.reducePow, Int.reduceNeg, Nat.reduceMul, eq_self, Int.cast_ofNat_Int, Int.toNat_natCast, iR, lR, Int.reduceEq, Int.reduceLT, Int.reduceLE, Int.reduceNe, not_false_eq_true, not_true_eq_false, false_implies, true_implies, Int.reduceAdd, Int.reduceSub, Int.reduceMul, Int.reduceToNat, implies_true, or_true, true_or, or_false, false_or, tst_38, tst_15, tst_r15]
    refine ⟨by omega, ih hlt _ ⟨by omega, _, rfl, fun j hj => ?_⟩⟩
    show (if j = i.toNat then v else f j) = _
    by_cases e : j = i.toNat
    · rw [if_pos e, hv, e]
    · rw [if_neg e]; exact hf j (by omega)
  refine B_X11_takeAll_7 C hR _ _ _ ?_
  simp only [c_iadd, c_isub, c_imul, c_ladd, c_lsub, c_lmul, c_ineg, c_lneg, c_ic, c_lc, c_iload, c_lload, c_aload, c_istore, c_astore, c_lstore, c_iinc, c_dup, c_dup2, c_goto, c_i2l, c_l2i, c_idiv, c_ldiv, c_lrem, c_lshl, c_gi, c_gl, c_gr, c_pi, c_pz, c_pl, c_iald, c_lald, c_bald, c_aald, c_iast, c_last, c_bast, c_callV, c_callS, c_mmax, c_mmin, c_mabs, c_mmaxl, c_mabsl, c_iret, c_zret, c_lret, c_vret, c_tsw, c_lsw, c_icmp_eq, c_icmp_ne, c_icmp_lt, c_icmp_ge, c_icmp_gt, c_icmp_le, c_if_eq, c_if_ne, c_if_lt, c_if_ge, c_if_gt, c_if_le, c_lcmp_eq, c_lcmp_ne, c_lcmp_lt, c_lcmp_ge, c_lcmp_gt, c_lcmp_le, c_lraw_eq, c_lraw_lt, c_lraw_ge, c_lraw_gt, c_lraw_le, acat, scat, tswP, pops, st1, st2, klo, pad, elo, List.getElem?_cons_zero, List.getElem?_cons_succ, List.getElem?_nil, List.set_cons_zero, List.set_cons_succ, List.set_nil, Option.toList_some, Option.toList_none, List.cons_append, List.nil_append, List.length_cons, List.length_nil, stc_ap, stm_ap, false_and, and_false, and_self, true_and, and_true, Nat.reduceEqDiff, reduceIte, al_12, al_13, al_14, al_15, al_16, al_17, al_18, al_19, al_20, al_21, al_22, al_23, al_24, al_25, al_26, al_27, al_28, al_29, al_30, al_31, al_32, al_33, al_34, al_35, al_36, al_37, al_38, al_39, al_40, al_41, al_42, al_43, al_44, al_45, al_46, al_47, al_48, al_49, al_50, al_51, al_52, al_53, al_54, al_55, at_12, at_13, at_14, at_15, at_16, at_17, at_18, at_19, at_20, at_21, at_22, at_23, at_24, at_25, at_26, at_27, at_28, at_29, at_30, at_31, at_32, at_33, at_34, at_35, at_36, at_37, at_38, at_39, at_40, at_41, at_42, at_43, at_44, at_45, at_46, at_47, at_48, at_49, at_50, at_51, at_52, at_53, at_54, at_55, cn_0, cn_1, cn_2, cn_3, cn_4, cn_5, cn_6, cn_7, cn_8, cn_9, cn_10, cn_11, cn_12, cn_13, cn_14, cn_15, cn_16, cn_17, cn_18, cn_19, cn_20, cn_21, cn_22, cn_23, cn_24, cn_25, cn_26, cn_27, cn_28, cn_29, cn_30, cn_31, cn_32, cn_33, cn_34, cn_35, cn_36, cn_37, cn_38, cn_39, cn_40, cn_41, cn_42, cn_43, cn_44, cn_45, cn_46, cn_47, cn_48, cn_49, cn_50, cn_51, cn_52, cn_53, cn_54, cn_55, Nat.reduceAdd, Nat.reduceLT, Nat.reduceLeDiff, Nat.lt_add_one, Nat.zero_lt_succ, Nat.reduceSub, ite_true, ite_false, reduceCtorEq, forall_const, Nat.reduceSucc, Nat.zero_add, Nat.add_zero, Nat.le_refl, Nat.zero_le, Nat.reducePow, Int.reduceNeg, Nat.reduceMul, eq_self, Int.cast_ofNat_Int, Int.toNat_natCast, iR, lR, Int.reduceEq, Int.reduceLT, Int.reduceLE, Int.reduceNe, not_false_eq_true, not_true_eq_false, false_implies, true_implies, Int.reduceAdd, Int.reduceSub, Int.reduceMul, Int.reduceToNat, implies_true, or_true, true_or, or_false, false_or, tst_r31, tst_r32, ea, eb]
  refine ⟨by omega, by omega, by omega, by omega, fun z => ?_, fun z => ⟨by omega, by omega, by omega, fun z2 => ?_, fun z2 => ?_⟩⟩
  · obtain rfl : i = M 8 a.toNat 1 + M 8 b.toNat 1 := by omega
    exact hP f hf
  · rw [show 20 * b + i - M 8 a.toNat 1 = 20 * b + (i - M 8 a.toNat 1) by omega, hE.at hb (by omega) (by omega)]
    refine ⟨by omega, by omega, h71 _ (by omega) ?_⟩
    unfold pol
    rw [if_neg (by omega), if_pos (by omega), show i.toNat - (M 8 a.toNat 1).toNat = (i - M 8 a.toNat 1).toNat by omega]
  · rw [hE.at ha (by omega) (by omega)]
    refine ⟨by omega, h71 _ (by omega) ?_⟩
    unfold pol
    rw [if_pos (by omega)]
def T_X11_ranks : Ct := fun as M P => match as with
  | [.inr (some (g, s))] => g = 11 ∧ s = 0 ∧ (0 ≤ M 11 0 15 ∧ M 11 0 15 ≤ 40) ∧ (∀ j : Nat, (j : Int) < M 11 0 15 → iR (M 38 0 j)) ∧ ∀ f : Nat → Int, (∀ j : Nat, (j : Int) < M 11 0 15 → f j = drk (M 38 0) (M 11 0 15).toNat (M 38 0 j)) → P none (stc M 39 0 f)
  | _ => False
theorem k_X11_ranks (l : Launch) : MetT l yX11_ranks cX11_ranks 3 none 0 T_X11_ranks := by
  refine MetT.of (by decide +kernel) (fun as M P h => by unfold T_X11_ranks at h; split at h <;> first | (simp [elo]; done) | exact h.elim) (fun x as M P h C hR => ?_)
  unfold T_X11_ranks at h
  split at h
  rotate_left
  · exact h.elim
  rename_i g s
  obtain ⟨rfl, rfl, hn, hr, hP⟩ := h
  refine B_X11_ranks_0 C _ _ _ ?_
  simp only [c_iadd, c_isub, c_imul, c_ladd, c_lsub, c_lmul, c_ineg, c_lneg, c_ic, c_lc, c_iload, c_lload, c_aload, c_istore, c_astore, c_lstore, c_iinc, c_dup, c_dup2, c_goto, c_i2l, c_l2i, c_idiv, c_ldiv, c_lrem, c_lshl, c_gi, c_gl, c_gr, c_pi, c_pz, c_pl, c_iald, c_lald, c_bald, c_aald, c_iast, c_last, c_bast, c_callV, c_callS, c_mmax, c_mmin, c_mabs, c_mmaxl, c_mabsl, c_iret, c_zret, c_lret, c_vret, c_tsw, c_lsw, c_icmp_eq, c_icmp_ne, c_icmp_lt, c_icmp_ge, c_icmp_gt, c_icmp_le, c_if_eq, c_if_ne, c_if_lt, c_if_ge, c_if_gt, c_if_le, c_lcmp_eq, c_lcmp_ne, c_lcmp_lt, c_lcmp_ge, c_lcmp_gt, c_lcmp_le, c_lraw_eq, c_lraw_lt, c_lraw_ge, c_lraw_gt, c_lraw_le, acat, scat, tswP, pops, st1, st2, klo, pad, elo, List.getElem?_cons_zero, List.getElem?_cons_succ, List.getElem?_nil, List.set_cons_zero, List.set_cons_succ, List.set_nil, Option.toList_some, Option.toList_none, List.cons_append, List.nil_append, List.length_cons, List.length_nil, stc_ap, stm_ap, false_and, and_false, and_self, true_and, and_true, Nat.reduceEqDiff, reduceIte, al_12, al_13, al_14, al_15, al_16, al_17, al_18, al_19, al_20, al_21, al_22, al_23, al_24, al_25, al_26, al_27, al_28, al_29, al_30, al_31, al_32, al_33, al_34, al_35, al_36, al_37, al_38, al_39, al_40, al_41, al_42, al_43, al_44, al_45, al_46, al_47, al_48, al_49, al_50, al_51, al_52, al_53, al_54, al_55, at_12, at_13, at_14, at_15, at_16, at_17, at_18, at_19, at_20, at_21, at_22, at_23, at_24, at_25, at_26, at_27, at_28, at_29, at_30, at_31, at_32, at_33, at_34, at_35, at_36, at_37, at_38, at_39, at_40, at_41, at_42, at_43, at_44, at_45, at_46, at_47, at_48, at_49, at_50, at_51, at_52, at_53, at_54, at_55, cn_0, cn_1, cn_2, cn_3, cn_4, cn_5, cn_6, cn_7, cn_8, cn_9, cn_10, cn_11, cn_12, cn_13, cn_14, cn_15, cn_16, cn_17, cn_18, cn_19, cn_20, cn_21, cn_22, cn_23, cn_24, cn_25, cn_26, cn_27, cn_28, cn_29, cn_30, cn_31, cn_32, cn_33, cn_34, cn_35, cn_36, cn_37, cn_38, cn_39, cn_40, cn_41, cn_42, cn_43, cn_44, cn_45, cn_46, cn_47, cn_48, cn_49, cn_50, cn_51, cn_52, cn_53, cn_54, cn_55, Nat.reduceAdd, Nat.reduceLT, Nat.reduceLeDiff, Nat.lt_add_one, Nat.zero_lt_succ, Nat.reduceSub, ite_true, ite_false, reduceCtorEq, forall_const, Nat.reduceSucc, Nat.zero_add, Nat.add_zero, Nat.le_refl, Nat.zero_le, Nat.reducePow, Int.reduceNeg, Nat.reduceMul, eq_self, Int.cast_ofNat_Int, Int.toNat_natCast, iR, lR, Int.reduceEq, Int.reduceLT, Int.reduceLE, Int.reduceNe, not_false_eq_true, not_true_eq_false, false_implies, true_implies, Int.reduceAdd, Int.reduceSub, Int.reduceMul, Int.reduceToNat, implies_true, or_true, true_or, or_false, false_or]
  refine loopU (M 11 0 15) (fun k M' => (0 ≤ k ∧ k ≤ M 11 0 15) ∧ ∃ f : Nat → Int, M' = stc M 39 0 f ∧ ∀ j : Nat, (j : Int) < k → f j = drk (M 38 0) (M 11 0 15).toNat (M 38 0 j)) (fun k M' => J x 2 [some (zr 11 0), some (zi k), none] [] M') ?_ 0 _ ⟨by omega, M 39 0, (stc_id M 39 0).symm, fun j hj => by omega⟩
  rintro k M' ⟨hk, f, rfl, hf⟩ ih
  refine B_X11_ranks_2 C hR _ _ _ ?_
  simp only [c_iadd, c_isub, c_imul, c_ladd, c_lsub, c_lmul, c_ineg, c_lneg, c_ic, c_lc, c_iload, c_lload, c_aload, c_istore, c_astore, c_lstore, c_iinc, c_dup, c_dup2, c_goto, c_i2l, c_l2i, c_idiv, c_ldiv, c_lrem, c_lshl, c_gi, c_gl, c_gr, c_pi, c_pz, c_pl, c_iald, c_lald, c_bald, c_aald, c_iast, c_last, c_bast, c_callV, c_callS, c_mmax, c_mmin, c_mabs, c_mmaxl, c_mabsl, c_iret, c_zret, c_lret, c_vret, c_tsw, c_lsw, c_icmp_eq, c_icmp_ne, c_icmp_lt, c_icmp_ge, c_icmp_gt, c_icmp_le, c_if_eq, c_if_ne, c_if_lt, c_if_ge, c_if_gt, c_if_le, c_lcmp_eq, c_lcmp_ne, c_lcmp_lt, c_lcmp_ge, c_lcmp_gt, c_lcmp_le, c_lraw_eq, c_lraw_lt, c_lraw_ge, c_lraw_gt, c_lraw_le, acat, scat, tswP, pops, st1, st2, klo, pad, elo, List.getElem?_cons_zero, List.getElem?_cons_succ, List.getElem?_nil, List.set_cons_zero, List.set_cons_succ, List.set_nil, Option.toList_some, Option.toList_none, List.cons_append, List.nil_append, List.length_cons, List.length_nil, stc_ap, stm_ap, false_and, and_false, and_self, true_and, and_true, Nat.reduceEqDiff, reduceIte, al_12, al_13, al_14, al_15, al_16, al_17, al_18, al_19, al_20, al_21, al_22, al_23, al_24, al_25, al_26, al_27, al_28, al_29, al_30, al_31, al_32, al_33, al_34, al_35, al_36, al_37, al_38, al_39, al_40, al_41, al_42, al_43, al_44, al_45, al_46, al_47, al_48, al_49, al_50, al_51, al_52, al_53, al_54, al_55, at_12, at_13, at_14, at_15, at_16, at_17, at_18, at_19, at_20, at_21, at_22, at_23, at_24, at_25, at_26, at_27, at_28, at_29, at_30, at_31, at_32, at_33, at_34, at_35, at_36, at_37, at_38, at_39, at_40, at_41, at_42, at_43, at_44, at_45, at_46, at_47, at_48, at_49, at_50, at_51, at_52, at_53, at_54, at_55, cn_0, cn_1, cn_2, cn_3, cn_4, cn_5, cn_6, cn_7, cn_8, cn_9, cn_10, cn_11, cn_12, cn_13, cn_14, cn_15, cn_16, cn_17, cn_18, cn_19, cn_20, cn_21, cn_22, cn_23, cn_24, cn_25, cn_26, cn_27, cn_28, cn_29, cn_30, cn_31, cn_32, cn_33, cn_34, cn_35, cn_36, cn_37, cn_38, cn_39, cn_40, cn_41, cn_42, cn_43, cn_44, cn_45, cn_46, cn_47, cn_48, cn_49, cn_50, cn_51, cn_52, cn_53, cn_54, cn_55, Nat.reduceAdd, Nat.reduceLT, Nat.reduceLeDiff, Nat.lt_add_one, Nat.zero_lt_succ, Nat.reduceSub, ite_true, ite_false, reduceCtorEq, forall_const, Nat.reduceSucc, Nat.zero_add, Nat.add_zero, Nat.le_refl, Nat.zero_le, Nat.reducePow, Int.reduceNeg, Nat.reduceMul, eq_self, Int.cast_ofNat_Int, Int.toNat_natCast, iR, lR, Int.reduceEq, Int.reduceLT, Int.reduceLE, Int.reduceNe, not_false_eq_true, not_true_eq_false, false_implies, true_implies, Int.reduceAdd, Int.reduceSub, Int.reduceMul, Int.reduceToNat, implies_true, or_true, true_or, or_false, false_or]
  refine ⟨by omega, by omega, fun z => hP f fun j hj => hf j (by omega), fun z => ⟨by omega, ?_⟩⟩
  rw [stm_on]
  refine loopU (M 11 0 15) (fun i M' => (0 ≤ i ∧ i ≤ M 11 0 15) ∧ ∃ f : Nat → Int, M' = stc M 39 0 f ∧ f k.toNat = 2 * ltc (M 38 0) (M 38 0 k.toNat) i.toNat + eqc (M 38 0) (M 38 0 k.toNat) i.toNat + 1 ∧ ∀ j : Nat, (j : Int) < k → f j = drk (M 38 0) (M 11 0 15).toNat (M 38 0 j)) (fun i M' => J x 19 [some (zr 11 0), some (zi k), some (zi i)] [] M') ?_ 0 _ ⟨by omega, _, rfl, by show (if k.toNat = k.toNat then 1 else _) = _; rw [if_pos rfl]; rfl, fun j hj => by show (if j = k.toNat then 1 else f j) = _; rw [if_neg (by omega)]; exact hf j hj⟩
  rintro i M' ⟨hi, f, rfl, hfk, hf⟩ ih2
  have h73 : ∀ v : Int, i < M 11 0 15 → v = (if M 38 0 i.toNat < M 38 0 k.toNat then 2 else 0) + (if M 38 0 i.toNat = M 38 0 k.toNat then 1 else 0) → J x 73 [some (zr 11 0), some (zi k), some (zi i)] [zi v, zi (f k.toNat), zi k, zr 39 0] (stc M 39 0 f) := by
    intro v hlt hv
    refine B_X11_ranks_73 C _ _ _ ?_
    simp only [c_iadd, c_isub, c_imul, c_ladd, c_lsub, c_lmul, c_ineg, c_lneg, c_ic, c_lc, c_iload, c_lload, c_aload, c_istore, c_astore, c_lstore, c_iinc, c_dup, c_dup2, c_goto, c_i2l, c_l2i, c_idiv, c_ldiv, c_lrem, c_lshl, c_gi, c_gl, c_gr, c_pi, c_pz, c_pl, c_iald, c_lald, c_bald, c_aald, c_iast, c_last, c_bast, c_callV, c_callS, c_mmax, c_mmin, c_mabs, c_mmaxl, c_mabsl, c_iret, c_zret, c_lret, c_vret, c_tsw, c_lsw, c_icmp_eq, c_icmp_ne, c_icmp_lt, c_icmp_ge, c_icmp_gt, c_icmp_le, c_if_eq, c_if_ne, c_if_lt, c_if_ge, c_if_gt, c_if_le, c_lcmp_eq, c_lcmp_ne, c_lcmp_lt, c_lcmp_ge, c_lcmp_gt, c_lcmp_le, c_lraw_eq, c_lraw_lt, c_lraw_ge, c_lraw_gt, c_lraw_le, acat, scat, tswP, pops, st1, st2, klo, pad, elo, List.getElem?_cons_zero, List.getElem?_cons_succ, List.getElem?_nil, List.set_cons_zero, List.set_cons_succ, List.set_nil, Option.toList_some, Option.toList_none, List.cons_append, List.nil_append, List.length_cons, List.length_nil, stc_ap, stm_ap, false_and, and_false, and_self, true_and, and_true, Nat.reduceEqDiff, reduceIte, al_12, al_13, al_14, al_15, al_16, al_17, al_18, al_19, al_20, al_21, al_22, al_23, al_24, al_25, al_26, al_27, al_28, al_29, al_30, al_31, al_32, al_33, al_34, al_35, al_36, al_37, al_38, al_39, al_40, al_41, al_42, al_43, al_44, al_45, al_46, al_47, al_48, al_49, al_50, al_51, al_52, al_53, al_54, al_55, at_12, at_13, at_14, at_15, at_16, at_17, at_18, at_19, at_20, at_21, at_22, at_23, at_24, at_25, at_26, at_27, at_28, at_29, at_30, at_31, at_32, at_33, at_34, at_35, at_36, at_37, at_38, at_39, at_40, at_41, at_42, at_43, at_44, at_45, at_46, at_47, at_48, at_49, at_50, at_51, at_52, at_53, at_54, at_55, cn_0, cn_1, cn_2, cn_3, cn_4, cn_5, cn_6, cn_7, cn_8, cn_9, cn_10, cn_11, cn_12, cn_13, cn_14, cn_15, cn_16, cn_17, cn_18, cn_19, cn_20, cn_21, cn_22, cn_23, cn_24, cn_25, cn_26, cn_27, cn_28, cn_29, cn_30, cn_31, cn_32, cn_33, cn_34, cn_35, cn_36, cn_37, cn_38, cn_39, cn_40, cn_41, cn_42, cn_43, cn_44, cn_45, cn_46, cn_47, cn_48, cn_49, cn_50, cn_51, cn_52, cn_53, cn_54, cn_55, Nat.reduceAdd, Nat.reduceLT, Nat.reduceLeDiff, Nat.lt_add_one, Nat.zero_lt_succ, Nat.reduceSub, ite_true, ite_false, reduceCtorEq, forall_const, Nat.reduceSucc, Nat.zero_add, Nat.add_zero, Nat.le_refl, Nat.zero_le, Nat.reducePow, Int.reduceNeg, Nat.reduceMul, eq_self, Int.cast_ofNat_Int, Int.toNat_natCast, iR, lR, Int.reduceEq, Int.reduceLT, Int.reduceLE, Int.reduceNe, not_false_eq_true, not_true_eq_false, false_implies, true_implies, Int.reduceAdd, Int.reduceSub, Int.reduceMul, Int.reduceToNat, implies_true, or_true, true_or, or_false, false_or]
    refine ⟨by omega, ih2 hlt _ ⟨by omega, _, stm_on M 39 0 _ f _, ?_, fun j hj => ?_⟩⟩
    · show (if k.toNat = k.toNat then f k.toNat + v else _) = _
      rw [if_pos rfl, hfk, show (i + 1).toNat = i.toNat + 1 by omega]
      show _ = 2 * (ltc (M 38 0) (M 38 0 k.toNat) i.toNat + if M 38 0 i.toNat < M 38 0 k.toNat then 1 else 0) + (eqc (M 38 0) (M 38 0 k.toNat) i.toNat + if M 38 0 i.toNat = M 38 0 k.toNat then 1 else 0) + 1
      rw [hv]
      split <;> split <;> omega
    · show (if j = k.toNat then _ else f j) = _
      rw [if_neg (by omega)]
      exact hf j hj
  refine B_X11_ranks_19 C _ _ _ ?_
  simp only [c_iadd, c_isub, c_imul, c_ladd, c_lsub, c_lmul, c_ineg, c_lneg, c_ic, c_lc, c_iload, c_lload, c_aload, c_istore, c_astore, c_lstore, c_iinc, c_dup, c_dup2, c_goto, c_i2l, c_l2i, c_idiv, c_ldiv, c_lrem, c_lshl, c_gi, c_gl, c_gr, c_pi, c_pz, c_pl, c_iald, c_lald, c_bald, c_aald, c_iast, c_last, c_bast, c_callV, c_callS, c_mmax, c_mmin, c_mabs, c_mmaxl, c_mabsl, c_iret, c_zret, c_lret, c_vret, c_tsw, c_lsw, c_icmp_eq, c_icmp_ne, c_icmp_lt, c_icmp_ge, c_icmp_gt, c_icmp_le, c_if_eq, c_if_ne, c_if_lt, c_if_ge, c_if_gt, c_if_le, c_lcmp_eq, c_lcmp_ne, c_lcmp_lt, c_lcmp_ge, c_lcmp_gt, c_lcmp_le, c_lraw_eq, c_lraw_lt, c_lraw_ge, c_lraw_gt, c_lraw_le, acat, scat, tswP, pops, st1, st2, klo, pad, elo, List.getElem?_cons_zero, List.getElem?_cons_succ, List.getElem?_nil, List.set_cons_zero, List.set_cons_succ, List.set_nil, Option.toList_some, Option.toList_none, List.cons_append, List.nil_append, List.length_cons, List.length_nil, stc_ap, stm_ap, false_and, and_false, and_self, true_and, and_true, Nat.reduceEqDiff, reduceIte, al_12, al_13, al_14, al_15, al_16, al_17, al_18, al_19, al_20, al_21, al_22, al_23, al_24, al_25, al_26, al_27, al_28, al_29, al_30, al_31, al_32, al_33, al_34, al_35, al_36, al_37, al_38, al_39, al_40, al_41, al_42, al_43, al_44, al_45, al_46, al_47, al_48, al_49, al_50, al_51, al_52, al_53, al_54, al_55, at_12, at_13, at_14, at_15, at_16, at_17, at_18, at_19, at_20, at_21, at_22, at_23, at_24, at_25, at_26, at_27, at_28, at_29, at_30, at_31, at_32, at_33, at_34, at_35, at_36, at_37, at_38, at_39, at_40, at_41, at_42, at_43, at_44, at_45, at_46, at_47, at_48, at_49, at_50, at_51, at_52, at_53, at_54, at_55, cn_0, cn_1, cn_2, cn_3, cn_4, cn_5, cn_6, cn_7, cn_8, cn_9, cn_10, cn_11, cn_12, cn_13, cn_14, cn_15, cn_16, cn_17, cn_18, cn_19, cn_20, cn_21, cn_22, cn_23, cn_24, cn_25, cn_26, cn_27, cn_28, cn_29, cn_30, cn_31, cn_32, cn_33, cn_34, cn_35, cn_36, cn_37, cn_38, cn_39, cn_40, cn_41, cn_42, cn_43, cn_44, cn_45, cn_46, cn_47, cn_48, cn_49, cn_50, cn_51, cn_52, cn_53, cn_54, cn_55, Nat.reduceAdd, Nat.reduceLT, Nat.reduceLeDiff, Nat.lt_add_one, Nat.zero_lt_succ, Nat.reduceSub, ite_true, ite_false, reduceCtorEq, forall_const, Nat.reduceSucc, Nat.zero_add, Nat.add_zero, Nat.le_refl, Nat.zero_le, Nat.reducePow, Int.reduceNeg, Nat.reduceMul, eq_self, Int.cast_ofNat_Int, Int.toNat_natCast, iR, lR, Int.reduceEq, Int.reduceLT, Int.reduceLE, Int.reduceNe, not_false_eq_true, not_true_eq_false, false_implies, true_implies, Int.reduceAdd, Int.reduceSub, Int.reduceMul, Int.reduceToNat, implies_true, or_true, true_or, or_false, false_or]
  refine ⟨by omega, by omega, fun z2 => ?_, fun z2 => ?_⟩
  · refine J_fgt [true, true, false] (ih (by omega) _ ⟨by omega, f, rfl, fun j hj => ?_⟩)
    by_cases e : j = k.toNat
    · rw [e, hfk, show i.toNat = (M 11 0 15).toNat by omega]; rfl
    · exact hf j (by omega)
  · have ri := hr i.toNat (by omega)
    have rk := hr k.toNat (by omega)
    refine ⟨by omega, by omega, by omega, ri, rk, fun z3 => ⟨by omega, by omega, ri, rk, fun z4 => h73 _ (by omega) ?_, fun z4 => h73 _ (by omega) ?_⟩, fun z3 => h73 _ (by omega) ?_⟩
    · rw [if_neg (by omega), if_neg z4]; rfl
    · rw [if_neg (by omega), if_pos z4]; rfl
    · rw [if_pos (by omega), if_neg (by omega)]; rfl
def T_X11_rank : Ct := fun as M P => match as with
  | [.inr (some (g, s)), .inl (.inl a), .inl (.inl b), .inl (.inl k)] => g = 11 ∧ s = 0 ∧ iR a ∧ iR b ∧ iR k ∧ SI M ∧ SE M ∧ ((two M a b ∧ 0 ≤ k ∧ k < M 8 a.toNat 1 + M 8 b.toNat 1) → ∀ M' : Mm, (∀ g' : Nat, ¬ g' = 11 → ¬ g' = 38 → ¬ g' = 39 → M' g' = M g') → (∀ q : Nat, ¬ q = 2 → ¬ q = 15 → M' 11 0 q = M 11 0 q) → P (some (zi (drk (pol M a.toNat b.toNat) (M 8 a.toNat 1 + M 8 b.toNat 1).toNat (pol M a.toNat b.toNat k.toNat)))) M') ∧ (¬ (two M a b ∧ 0 ≤ k ∧ k < M 8 a.toNat 1 + M 8 b.toNat 1) → P (some (zi (-1))) (stm M 11 0 2 0))
  | _ => False
theorem SI_cg {M M' : Mm} (h8 : M' 8 = M 8) (h27 : M' 27 = M 27) (h : SI M) : SI M' := by
  intro s hs
  rw [h8, h27]
  exact h s hs
theorem SE_cg {M M' : Mm} (h8 : M' 8 = M 8) (h27 : M' 27 = M 27) (h31 : M' 31 = M 31) (h32 : M' 32 = M 32) (h : SE M) : SE M' := by
  intro s hs
  rw [h8, h27, h31, h32]
  exact h s hs
theorem two_cg {M M' : Mm} (h8 : M' 8 = M 8) {a b : Int} : two M' a b = two M a b := by
  unfold two
  rw [h8]
theorem pol_cg {M M' : Mm} (h8 : M' 8 = M 8) (h27 : M' 27 = M 27) (a b : Nat) {j : Nat} (hj : (j : Int) < M 8 a 1 + M 8 b 1) : pol M' a b j = pol M a b j := by
  unfold pol
  rw [h8, h27]
  by_cases c : (j : Int) < M 8 a 1
  · rw [if_pos c, if_pos c]
  · rw [if_neg c, if_neg c, if_pos hj, if_pos hj]
theorem k_X11_rank (l : Launch) : MetT l yX11_rank cX11_rank 4 (some .int) 2 T_X11_rank := by
  refine MetT.of (by decide +kernel) (fun as M P h => by unfold T_X11_rank at h; split at h <;> first | (simp [elo]; done) | exact h.elim) (fun x as M P h C hR => ?_)
  unfold T_X11_rank at h
  split at h
  rotate_left
  · exact h.elim
  rename_i g s a b k
  obtain ⟨rfl, rfl, ha, hb, hk, hI, hE, h1, h2⟩ := h
  refine B_X11_rank_0 C hR (k_X11_isPair l) (by decide) (k_X11_takeAll l) (by decide) (k_X11_ranks l) (by decide) _ _ _ ?_
  simp only [c_iadd, c_isub, c_imul, c_ladd, c_lsub, c_lmul, c_ineg, c_lneg, c_ic, c_lc, c_iload, c_lload, c_aload, c_istore, c_astore, c_lstore, c_iinc, c_dup, c_dup2, c_goto, c_i2l, c_l2i, c_idiv, c_ldiv, c_lrem, c_lshl, c_gi, c_gl, c_gr, c_pi, c_pz, c_pl, c_iald, c_lald, c_bald, c_aald, c_iast, c_last, c_bast, c_callV, c_callS, c_mmax, c_mmin, c_mabs, c_mmaxl, c_mabsl, c_iret, c_zret, c_lret, c_vret, c_tsw, c_lsw, c_icmp_eq, c_icmp_ne, c_icmp_lt, c_icmp_ge, c_icmp_gt, c_icmp_le, c_if_eq, c_if_ne, c_if_lt, c_if_ge, c_if_gt, c_if_le, c_lcmp_eq, c_lcmp_ne, c_lcmp_lt, c_lcmp_ge, c_lcmp_gt, c_lcmp_le, c_lraw_eq, c_lraw_lt, c_lraw_ge, c_lraw_gt, c_lraw_le, acat, scat, tswP, pops, st1, st2, klo, pad, elo, List.getElem?_cons_zero, List.getElem?_cons_succ, List.getElem?_nil, List.set_cons_zero, List.set_cons_succ, List.set_nil, Option.toList_some, Option.toList_none, List.cons_append, List.nil_append, List.length_cons, List.length_nil, stc_ap, stm_ap, false_and, and_false, and_self, true_and, and_true, Nat.reduceEqDiff, reduceIte, al_12, al_13, al_14, al_15, al_16, al_17, al_18, al_19, al_20, al_21, al_22, al_23, al_24, al_25, al_26, al_27, al_28, al_29, al_30, al_31, al_32, al_33, al_34, al_35, al_36, al_37, al_38, al_39, al_40, al_41, al_42, al_43, al_44, al_45, al_46, al_47, al_48, al_49, al_50, al_51, al_52, al_53, al_54, al_55, at_12, at_13, at_14, at_15, at_16, at_17, at_18, at_19, at_20, at_21, at_22, at_23, at_24, at_25, at_26, at_27, at_28, at_29, at_30, at_31, at_32, at_33, at_34, at_35, at_36, at_37, at_38, at_39, at_40, at_41, at_42, at_43, at_44, at_45, at_46, at_47, at_48, at_49, at_50, at_51, at_52, at_53, at_54, at_55, cn_0, cn_1, cn_2, cn_3, cn_4, cn_5, cn_6, cn_7, cn_8, cn_9, cn_10, cn_11, cn_12, cn_13, cn_14, cn_15, cn_16, cn_17, cn_18, cn_19, cn_20, cn_21, cn_22, cn_23, cn_24, cn_25, cn_26, cn_27, cn_28, cn_29, cn_30, cn_31, cn_32, cn_33, cn_34, cn_35, cn_36, cn_37, cn_38, cn_39, cn_40, cn_41, cn_42, cn_43, cn_44, cn_45, cn_46, cn_47, cn_48, cn_49, cn_50, cn_51, cn_52, cn_53, cn_54, cn_55, Nat.reduceAdd, Nat.reduceLT, Nat.reduceLeDiff, Nat.lt_add_one, Nat.zero_lt_succ, Nat.reduceSub, ite_true, ite_false, reduceCtorEq, forall_const, Nat.reduceSucc, Nat.zero_add, Nat.add_zero, Nat.le_refl, Nat.zero_le, Nat.reducePow, Int.reduceNeg, Nat.reduceMul, eq_self, Int.cast_ofNat_Int, Int.toNat_natCast, iR, lR, Int.reduceEq, Int.reduceLT, Int.reduceLE, Int.reduceNe, not_false_eq_true, not_true_eq_false, false_implies, true_implies, Int.reduceAdd, Int.reduceSub, Int.reduceMul, Int.reduceToNat, implies_true, or_true, true_or, or_false, false_or, T_X11_isPair, T_X11_takeAll, T_X11_ranks]
  generalize hM0 : stm M 11 0 2 0 = M0 at *
  have c8 : M0 8 = M 8 := by rw [← hM0]; exact stm_ne _ _ _ _ _ (by decide)
  have c27 : M0 27 = M 27 := by rw [← hM0]; exact stm_ne _ _ _ _ _ (by decide)
  have c31 : M0 31 = M 31 := by rw [← hM0]; exact stm_ne _ _ _ _ _ (by decide)
  have c32 : M0 32 = M 32 := by rw [← hM0]; exact stm_ne _ _ _ _ _ (by decide)
  have hI0 := SI_cg c8 c27 hI
  have hE0 := SE_cg c8 c27 c31 c32 hE
  refine ⟨ha, hb, hI0, hE0, fun q => ?_, fun q => h2 fun z => q (by rw [two_cg c8]; exact z.1)⟩
  rw [two_cg c8] at q
  obtain ⟨wa, wb, wc, wd, we⟩ := id q
  have ia := hI a.toNat (by omega)
  have ib := hI b.toNat (by omega)
  rw [hE.sz wa, hE.sz wb]
  refine ⟨hk, fun z => h2 (by omega), fun z => ⟨by omega, by omega, hk, by omega, fun z2 => ⟨wa, wb, hI0, hE0, fun f hf => ?_⟩, fun z2 => h2 (by omega)⟩⟩
  have hf2 : ∀ j : Nat, (j : Int) < M 8 a.toNat 1 + M 8 b.toNat 1 → f j = pol M a.toNat b.toNat j := fun j hj => by rw [hf j hj]; exact pol_cg c8 c27 _ _ hj
  rw [tst_r15, tst_r38]
  refine ⟨by omega, fun j hj => ?_, fun f2 hf3 => ⟨by omega, ?_⟩⟩
  · rw [hf2 j hj]
    have := pol_in hI (a := a.toNat) (b := b.toNat) (by omega) (by omega) j hj
    exact ⟨by omega, by omega⟩
  · rw [hf3 k.toNat (by omega), hf2 k.toNat (by omega), drk_cg (g := pol M a.toNat b.toNat) (fun j hj => hf2 j (by omega))]
    refine h1 ⟨q, by omega, by omega⟩ _ (fun g' a1 a2 a3 => ?_) (fun q' a1 a2 => ?_)
    · rw [stc_ne _ _ _ _ a3, tst_o _ _ _ a1 a2, ← hM0, stm_ne _ _ _ _ _ a1]
    · rw [stc_ne _ _ _ _ (by decide)]
      unfold tst
      rw [stm_ap, if_neg (by omega), stc_ne _ _ _ _ (by decide), ← hM0, stm_ap, if_neg (by omega)]
