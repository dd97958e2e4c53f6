/-! CloudBench$Ways.chooseSums -/
theorem k_X9_chooseSums (l : Launch) : MetT l yX9_chooseSums cX9_chooseSums 7 none 2 T_X9_chooseSums := by
  refine MetT.of (by decide +kernel) (fun as M P h => by unfold T_X9_chooseSums at h; split at h <;> first | (simp [elo]; done) | exact h.elim) (fun x as M P h C hR => ?_)
  unfold T_X9_chooseSums at h
  split at h
  rotate_left
  · exact h.elim
  rename_i g0 s0 g s n k
  obtain ⟨rfl, rfl, ht, hg, hs, h28, h29, hk, hso, hr, hP⟩ := h
  obtain ⟨f, hf⟩ : ∃ f : Nat → Int, f = M g s := ⟨_, rfl⟩
  rw [← hf] at hso hr hP
  have hfi : ∀ i : Int, M g s i.toNat = f i.toNat := fun i => by rw [hf]
  refine B_X9_chooseSums_0 C _ _ _ ?_
  simp only [c_iadd, c_isub, c_imul, c_ladd, c_lsub, c_lmul, c_ineg, c_lneg, c_ic, c_lc, c_iload, c_lload, c_aload, c_istore, c_astore, c_lstore, c_iinc, c_dup, c_dup2, c_goto, c_i2l, c_l2i, c_idiv, c_ldiv, c_lrem, c_lshl, c_gi, c_gl, c_gr, c_pi, c_pz, c_pl, c_iald, c_lald, c_bald, c_aald, c_iast, c_last, c_bast, c_callV, c_callS, c_mmax, c_mmin, c_mabs, c_mmaxl, c_mabsl, c_iret, c_zret, c_lret, c_vret, c_tsw, c_lsw, c_icmp_eq, c_icmp_ne, c_icmp_lt, c_icmp_ge, c_icmp_gt, c_icmp_le, c_if_eq, c_if_ne, c_if_lt, c_if_ge, c_if_gt, c_if_le, c_lcmp_eq, c_lcmp_ne, c_lcmp_lt, c_lcmp_ge, c_lcmp_gt, c_lcmp_le, c_lraw_eq, c_lraw_lt, c_lraw_ge, c_lraw_gt, c_lraw_le, acat, scat, tswP, pops, st1, st2, klo, pad, elo, List.getElem?_cons_zero, List.getElem?_cons_succ, List.getElem?_nil, List.set_cons_zero, List.set_cons_succ, List.set_nil, Option.toList_some, Option.toList_none, List.cons_append, List.nil_append, List.length_cons, List.length_nil, stc_ap, stm_ap, false_and, and_false, and_self, true_and, and_true, Nat.reduceEqDiff, reduceIte, al_12, al_13, al_14, al_15, al_16, al_17, al_18, al_19, al_20, al_21, al_22, al_23, al_24, al_25, al_26, al_27, al_28, al_29, al_30, al_31, al_32, al_33, al_34, al_35, al_36, al_37, al_38, al_39, al_40, al_41, al_42, al_43, al_44, al_45, al_46, al_47, al_48, al_49, al_50, al_51, al_52, al_53, al_54, al_55, at_12, at_13, at_14, at_15, at_16, at_17, at_18, at_19, at_20, at_21, at_22, at_23, at_24, at_25, at_26, at_27, at_28, at_29, at_30, at_31, at_32, at_33, at_34, at_35, at_36, at_37, at_38, at_39, at_40, at_41, at_42, at_43, at_44, at_45, at_46, at_47, at_48, at_49, at_50, at_51, at_52, at_53, at_54, at_55, cn_0, cn_1, cn_2, cn_3, cn_4, cn_5, cn_6, cn_7, cn_8, cn_9, cn_10, cn_11, cn_12, cn_13, cn_14, cn_15, cn_16, cn_17, cn_18, cn_19, cn_20, cn_21, cn_22, cn_23, cn_24, cn_25, cn_26, cn_27, cn_28, cn_29, cn_30, cn_31, cn_32, cn_33, cn_34, cn_35, cn_36, cn_37, cn_38, cn_39, cn_40, cn_41, cn_42, cn_43, cn_44, cn_45, cn_46, cn_47, cn_48, cn_49, cn_50, cn_51, cn_52, cn_53, cn_54, cn_55, Nat.reduceAdd, Nat.reduceLT, Nat.reduceLeDiff, Nat.lt_add_one, Nat.zero_lt_succ, Nat.reduceSub, ite_true, ite_false, reduceCtorEq, forall_const, Nat.reduceSucc, Nat.zero_add, Nat.add_zero, Nat.le_refl, Nat.zero_le, Nat.reducePow, Int.reduceNeg, Nat.reduceMul, eq_self, Int.cast_ofNat_Int, Int.toNat_natCast, iR, lR, Int.reduceEq, Int.reduceLT, Int.reduceLE, Int.reduceNe, not_false_eq_true, not_true_eq_false, false_implies, true_implies, Int.reduceAdd, Int.reduceSub, Int.reduceMul, Int.reduceToNat, implies_true, or_true, true_or, or_false, false_or]
  have hfin : ∀ (L c : Nat → Int), (∀ j : Nat, j ≤ n.toNat → L j = sm f j) → rowOk f n.toNat c k.toNat n.toNat → J x 157 [some (zr 9 0), some (zr g s), some (zi n), some (zi k), none, none, none] [] (stc (stc M 29 0 L) 28 0 c) → True := fun _ _ _ _ _ => trivial
  refine loopU n (fun i M' => (0 ≤ i ∧ i ≤ n) ∧ ∃ L : Nat → Int, M' = stc M 29 0 L ∧ ∀ j : Nat, (j : Int) ≤ i → L j = sm f j) (fun i M' => J x 10 [some (zr 9 0), some (zr g s), some (zi n), some (zi k), some (zi i), none, none] [] M') ?_ 0 _ ⟨by omega, _, stm_stc M 29 0 0 0, fun j hj => ?_⟩
  rotate_left
  · rw [show j = 0 by omega]; rfl
  rintro i M' ⟨hi, L, rfl, hL⟩ ih
  refine B_X9_chooseSums_10 C _ _ _ ?_
  simp only [c_iadd, c_isub, c_imul, c_ladd, c_lsub, c_lmul, c_ineg, c_lneg, c_ic, c_lc, c_iload, c_lload, c_aload, c_istore, c_astore, c_lstore, c_iinc, c_dup, c_dup2, c_goto, c_i2l, c_l2i, c_idiv, c_ldiv, c_lrem, c_lshl, c_gi, c_gl, c_gr, c_pi, c_pz, c_pl, c_iald, c_lald, c_bald, c_aald, c_iast, c_last, c_bast, c_callV, c_callS, c_mmax, c_mmin, c_mabs, c_mmaxl, c_mabsl, c_iret, c_zret, c_lret, c_vret, c_tsw, c_lsw, c_icmp_eq, c_icmp_ne, c_icmp_lt, c_icmp_ge, c_icmp_gt, c_icmp_le, c_if_eq, c_if_ne, c_if_lt, c_if_ge, c_if_gt, c_if_le, c_lcmp_eq, c_lcmp_ne, c_lcmp_lt, c_lcmp_ge, c_lcmp_gt, c_lcmp_le, c_lraw_eq, c_lraw_lt, c_lraw_ge, c_lraw_gt, c_lraw_le, acat, scat, tswP, pops, st1, st2, klo, pad, elo, List.getElem?_cons_zero, List.getElem?_cons_succ, List.getElem?_nil, List.set_cons_zero, List.set_cons_succ, List.set_nil, Option.toList_some, Option.toList_none, List.cons_append, List.nil_append, List.length_cons, List.length_nil, stc_ap, stm_ap, false_and, and_false, and_self, true_and, and_true, Nat.reduceEqDiff, reduceIte, al_12, al_13, al_14, al_15, al_16, al_17, al_18, al_19, al_20, al_21, al_22, al_23, al_24, al_25, al_26, al_27, al_28, al_29, al_30, al_31, al_32, al_33, al_34, al_35, al_36, al_37, al_38, al_39, al_40, al_41, al_42, al_43, al_44, al_45, al_46, al_47, al_48, al_49, al_50, al_51, al_52, al_53, al_54, al_55, at_12, at_13, at_14, at_15, at_16, at_17, at_18, at_19, at_20, at_21, at_22, at_23, at_24, at_25, at_26, at_27, at_28, at_29, at_30, at_31, at_32, at_33, at_34, at_35, at_36, at_37, at_38, at_39, at_40, at_41, at_42, at_43, at_44, at_45, at_46, at_47, at_48, at_49, at_50, at_51, at_52, at_53, at_54, at_55, cn_0, cn_1, cn_2, cn_3, cn_4, cn_5, cn_6, cn_7, cn_8, cn_9, cn_10, cn_11, cn_12, cn_13, cn_14, cn_15, cn_16, cn_17, cn_18, cn_19, cn_20, cn_21, cn_22, cn_23, cn_24, cn_25, cn_26, cn_27, cn_28, cn_29, cn_30, cn_31, cn_32, cn_33, cn_34, cn_35, cn_36, cn_37, cn_38, cn_39, cn_40, cn_41, cn_42, cn_43, cn_44, cn_45, cn_46, cn_47, cn_48, cn_49, cn_50, cn_51, cn_52, cn_53, cn_54, cn_55, Nat.reduceAdd, Nat.reduceLT, Nat.reduceLeDiff, Nat.lt_add_one, Nat.zero_lt_succ, Nat.reduceSub, ite_true, ite_false, reduceCtorEq, forall_const, Nat.reduceSucc, Nat.zero_add, Nat.add_zero, Nat.le_refl, Nat.zero_le, Nat.reducePow, Int.reduceNeg, Nat.reduceMul, eq_self, Int.cast_ofNat_Int, Int.toNat_natCast, iR, lR, Int.reduceEq, Int.reduceLT, Int.reduceLE, Int.reduceNe, not_false_eq_true, not_true_eq_false, false_implies, true_implies, Int.reduceAdd, Int.reduceSub, Int.reduceMul, Int.reduceToNat, implies_true, or_true, true_or, or_false, false_or, h29, ht, hg, hs]
  refine ⟨by omega, by omega, fun q => ?_, fun q => ⟨by omega, by omega, by omega, ih (by omega) _ ⟨by omega, _, stm_on M 29 0 _ L _, fun j hj => ?_⟩⟩⟩
  rotate_left
  · show (if j = (i + 1).toNat then _ else _) = _
    by_cases e : j = (i + 1).toNat
    · rw [if_pos e, hL _ (by omega), hfi, e, show (i + 1).toNat = i.toNat + 1 by omega]
      rfl
    · rw [if_neg e]
      exact hL j (by omega)
  have hL : ∀ j : Nat, j ≤ n.toNat → L j = sm f j := fun j hj => hL j (by omega)
  clear ih
  have hLs : ∀ j : Int, 0 ≤ j → j ≤ n → L j.toNat = sm f j.toNat := fun j h1 h2 => hL j.toNat (by omega)
  -- the rows are cleared
  refine loopU (k + 1) (fun j M' => (0 ≤ j ∧ j ≤ k + 1) ∧ ∃ c : Nat → Int, M' = stc (stc M 29 0 L) 28 0 c ∧ ∀ j' : Nat, (j' : Int) < j → ∀ key : Int, sm f j' ≤ key → key ≤ gsm f n.toNat j' → c (sos j' + key).toNat = 0) (fun j M' => J x 46 [some (zr 9 0), some (zr g s), some (zi n), some (zi k), some (zi j), none, none] [] M') ?_ 0 _ ⟨by omega, M 28 0, ?_, fun j' hj' => by omega⟩
  rotate_left
  · rw [show M 28 0 = (stc M 29 0 L) 28 0 from rfl, stc_id]
  rintro j M' ⟨hj, c, rfl, hc⟩ ih
  refine B_X9_chooseSums_46 C (k_X9_startOfSums l) (by decide) (k_X9_greatestSum l) (by decide) (k_X9_clear l) (by decide) _ _ _ ?_
  simp only [c_iadd, c_isub, c_imul, c_ladd, c_lsub, c_lmul, c_ineg, c_lneg, c_ic, c_lc, c_iload, c_lload, c_aload, c_istore, c_astore, c_lstore, c_iinc, c_dup, c_dup2, c_goto, c_i2l, c_l2i, c_idiv, c_ldiv, c_lrem, c_lshl, c_gi, c_gl, c_gr, c_pi, c_pz, c_pl, c_iald, c_lald, c_bald, c_aald, c_iast, c_last, c_bast, c_callV, c_callS, c_mmax, c_mmin, c_mabs, c_mmaxl, c_mabsl, c_iret, c_zret, c_lret, c_vret, c_tsw, c_lsw, c_icmp_eq, c_icmp_ne, c_icmp_lt, c_icmp_ge, c_icmp_gt, c_icmp_le, c_if_eq, c_if_ne, c_if_lt, c_if_ge, c_if_gt, c_if_le, c_lcmp_eq, c_lcmp_ne, c_lcmp_lt, c_lcmp_ge, c_lcmp_gt, c_lcmp_le, c_lraw_eq, c_lraw_lt, c_lraw_ge, c_lraw_gt, c_lraw_le, acat, scat, tswP, pops, st1, st2, klo, pad, elo, List.getElem?_cons_zero, List.getElem?_cons_succ, List.getElem?_nil, List.set_cons_zero, List.set_cons_succ, List.set_nil, Option.toList_some, Option.toList_none, List.cons_append, List.nil_append, List.length_cons, List.length_nil, stc_ap, stm_ap, false_and, and_false, and_self, true_and, and_true, Nat.reduceEqDiff, reduceIte, al_12, al_13, al_14, al_15, al_16, al_17, al_18, al_19, al_20, al_21, al_22, al_23, al_24, al_25, al_26, al_27, al_28, al_29, al_30, al_31, al_32, al_33, al_34, al_35, al_36, al_37, al_38, al_39, al_40, al_41, al_42, al_43, al_44, al_45, al_46, al_47, al_48, al_49, al_50, al_51, al_52, al_53, al_54, al_55, at_12, at_13, at_14, at_15, at_16, at_17, at_18, at_19, at_20, at_21, at_22, at_23, at_24, at_25, at_26, at_27, at_28, at_29, at_30, at_31, at_32, at_33, at_34, at_35, at_36, at_37, at_38, at_39, at_40, at_41, at_42, at_43, at_44, at_45, at_46, at_47, at_48, at_49, at_50, at_51, at_52, at_53, at_54, at_55, cn_0, cn_1, cn_2, cn_3, cn_4, cn_5, cn_6, cn_7, cn_8, cn_9, cn_10, cn_11, cn_12, cn_13, cn_14, cn_15, cn_16, cn_17, cn_18, cn_19, cn_20, cn_21, cn_22, cn_23, cn_24, cn_25, cn_26, cn_27, cn_28, cn_29, cn_30, cn_31, cn_32, cn_33, cn_34, cn_35, cn_36, cn_37, cn_38, cn_39, cn_40, cn_41, cn_42, cn_43, cn_44, cn_45, cn_46, cn_47, cn_48, cn_49, cn_50, cn_51, cn_52, cn_53, cn_54, cn_55, Nat.reduceAdd, Nat.reduceLT, Nat.reduceLeDiff, Nat.lt_add_one, Nat.zero_lt_succ, Nat.reduceSub, ite_true, ite_false, reduceCtorEq, forall_const, Nat.reduceSucc, Nat.zero_add, Nat.add_zero, Nat.le_refl, Nat.zero_le, Nat.reducePow, Int.reduceNeg, Nat.reduceMul, eq_self, Int.cast_ofNat_Int, Int.toNat_natCast, iR, lR, Int.reduceEq, Int.reduceLT, Int.reduceLE, Int.reduceNe, not_false_eq_true, not_true_eq_false, false_implies, true_implies, Int.reduceAdd, Int.reduceSub, Int.reduceMul, Int.reduceToNat, implies_true, or_true, true_or, or_false, false_or, T_X9_startOfSums, T_X9_greatestSum, T_X9_clear]
  refine ⟨by omega, by omega, fun q => ?_, fun q => ?_⟩
  rotate_left
  · have b1 := sos_in (j := j.toNat) (by omega)
    rw [show ((j.toNat : Nat) : Int) = j by omega] at b1
    have g1 := gsm_in (f := f) (n := n.toNat) (k := j.toNat) (c := 1000) (by omega) hr
    have g2 := sm_in (f := f) (n := j.toNat) (c := 1000) (by decide) (fun q hq => hr q (by omega))
    have g3 := sm_gsm hso (k := j.toNat) (by omega)
    have e1 : L n.toNat - L (n - j).toNat = gsm f n.toNat j.toNat := by
      unfold gsm
      rw [hL _ (Nat.le_refl _), hL _ (by omega), show (n - j).toNat = n.toNat - j.toNat by omega]
    rw [e1, hLs j (by omega) (by omega)]
    show _ ∧ _ ∧ _ ∧ _ ∧ _ ∧ _ ∧ (0 ≤ sos j + _ ∧ sos j + _ < 210021 ∧ -1 ≤ sos j + _ ∧ sos j + _ < 210021 ∧ J _ _ _ _ _)
    refine ⟨by omega, by omega, by omega, by omega, by omega, by omega, by omega, by omega, by omega, by omega, ih (by omega) _ ⟨by omega, _, stc_on _ 28 0 c _, fun j' hj' key k1 k2 => ?_⟩⟩
    show (if _ then _ else c _) = 0
    by_cases e : (j' : Int) = j
    · rw [show j' = j.toNat by omega] at k1 k2
      rw [if_pos]
      rw [show (j' : Int) = j from e]
      constructor
      · show sos j + _ ≤ _; omega
      · show _ ≤ sos j + _; omega
    · split
      · rfl
      · exact hc j' (by omega) key k1 k2
  obtain rfl : j = k + 1 := by omega
  clear ih
  have hc : ∀ j' : Nat, (j' : Int) ≤ k → ∀ key : Int, sm f j' ≤ key → key ≤ gsm f n.toNat j' → c (sos j' + key).toNat = 0 := fun j' h1 => hc j' (by omega)
  -- the choice
  have hrow0 : ∀ j' : Nat, j' ≤ k.toNat → rowOk f n.toNat (fun t => if t = 0 then 1 else c t) j' 0 := by
    intro j' hj' key k1 k2
    have g2 := sm_in (f := f) (n := j') (c := 1000) (by decide) (fun q hq => hr q (by omega))
    cases j' with
    | zero =>
      have : key = 0 := by
        unfold gsm at k2
        simp only [sm, Nat.sub_zero] at k1 k2
        omega
      subst this
      rfl
    | succ j' =>
      have := sos_lt (j := 0) (i := j' + 1) (by omega) (by omega)
      have h0 : sos ((0 : Nat) : Int) = 0 := by decide
      rw [show cw f 0 (j' + 1) key = 0 from rfl]
      show (if _ = 0 then 1 else _) = 0
      rw [if_neg (by omega)]
      exact hc (j' + 1) (by omega) key k1 k2
  rw [stm_on]
  refine loopU (n + 1) (fun i M' => (1 ≤ i ∧ i ≤ n + 1) ∧ ∃ c : Nat → Int, M' = stc (stc M 29 0 L) 28 0 c ∧ ∀ j' : Nat, j' ≤ k.toNat → k ≤ j' + (n - (i - 1)) → rowOk f n.toNat c j' (i - 1).toNat) (fun i M' => J x 98 [some (zr 9 0), some (zr g s), some (zi n), some (zi k), some (zi i), none, none] [] M') ?_ 1 _ ⟨by omega, _, rfl, fun j' h1 _ => by rw [show ((1 : Int) - 1).toNat = 0 by decide]; exact hrow0 j' h1⟩
  clear hrow0
  rintro i M' ⟨hi, c, rfl, hc⟩ ih
  refine B_X9_chooseSums_98 C hR (by decide) (k_X9_startOfSums l) (by decide) (k_X9_greatestSum l) (by decide) (k_X9_settle l) (by decide) _ _ _ ?_
  simp only [c_iadd, c_isub, c_imul, c_ladd, c_lsub, c_lmul, c_ineg, c_lneg, c_ic, c_lc, c_iload, c_lload, c_aload, c_istore, c_astore, c_lstore, c_iinc, c_dup, c_dup2, c_goto, c_i2l, c_l2i, c_idiv, c_ldiv, c_lrem, c_lshl, c_gi, c_gl, c_gr, c_pi, c_pz, c_pl, c_iald, c_lald, c_bald, c_aald, c_iast, c_last, c_bast, c_callV, c_callS, c_mmax, c_mmin, c_mabs, c_mmaxl, c_mabsl, c_iret, c_zret, c_lret, c_vret, c_tsw, c_lsw, c_icmp_eq, c_icmp_ne, c_icmp_lt, c_icmp_ge, c_icmp_gt, c_icmp_le, c_if_eq, c_if_ne, c_if_lt, c_if_ge, c_if_gt, c_if_le, c_lcmp_eq, c_lcmp_ne, c_lcmp_lt, c_lcmp_ge, c_lcmp_gt, c_lcmp_le, c_lraw_eq, c_lraw_lt, c_lraw_ge, c_lraw_gt, c_lraw_le, acat, scat, tswP, pops, st1, st2, klo, pad, elo, List.getElem?_cons_zero, List.getElem?_cons_succ, List.getElem?_nil, List.set_cons_zero, List.set_cons_succ, List.set_nil, Option.toList_some, Option.toList_none, List.cons_append, List.nil_append, List.length_cons, List.length_nil, stc_ap, stm_ap, false_and, and_false, and_self, true_and, and_true, Nat.reduceEqDiff, reduceIte, al_12, al_13, al_14, al_15, al_16, al_17, al_18, al_19, al_20, al_21, al_22, al_23, al_24, al_25, al_26, al_27, al_28, al_29, al_30, al_31, al_32, al_33, al_34, al_35, al_36, al_37, al_38, al_39, al_40, al_41, al_42, al_43, al_44, al_45, al_46, al_47, al_48, al_49, al_50, al_51, al_52, al_53, al_54, al_55, at_12, at_13, at_14, at_15, at_16, at_17, at_18, at_19, at_20, at_21, at_22, at_23, at_24, at_25, at_26, at_27, at_28, at_29, at_30, at_31, at_32, at_33, at_34, at_35, at_36, at_37, at_38, at_39, at_40, at_41, at_42, at_43, at_44, at_45, at_46, at_47, at_48, at_49, at_50, at_51, at_52, at_53, at_54, at_55, cn_0, cn_1, cn_2, cn_3, cn_4, cn_5, cn_6, cn_7, cn_8, cn_9, cn_10, cn_11, cn_12, cn_13, cn_14, cn_15, cn_16, cn_17, cn_18, cn_19, cn_20, cn_21, cn_22, cn_23, cn_24, cn_25, cn_26, cn_27, cn_28, cn_29, cn_30, cn_31, cn_32, cn_33, cn_34, cn_35, cn_36, cn_37, cn_38, cn_39, cn_40, cn_41, cn_42, cn_43, cn_44, cn_45, cn_46, cn_47, cn_48, cn_49, cn_50, cn_51, cn_52, cn_53, cn_54, cn_55, Nat.reduceAdd, Nat.reduceLT, Nat.reduceLeDiff, Nat.lt_add_one, Nat.zero_lt_succ, Nat.reduceSub, ite_true, ite_false, reduceCtorEq, forall_const, Nat.reduceSucc, Nat.zero_add, Nat.add_zero, Nat.le_refl, Nat.zero_le, Nat.reducePow, Int.reduceNeg, Nat.reduceMul, eq_self, Int.cast_ofNat_Int, Int.toNat_natCast, iR, lR, Int.reduceEq, Int.reduceLT, Int.reduceLE, Int.reduceNe, not_false_eq_true, not_true_eq_false, false_implies, true_implies, Int.reduceAdd, Int.reduceSub, Int.reduceMul, Int.reduceToNat, implies_true, or_true, true_or, or_false, false_or, T_X9_startOfSums, T_X9_greatestSum, T_X9_settle]
  refine ⟨by omega, by omega, fun q => ?_, fun q => ⟨by omega, by omega, ?_⟩⟩
  · have hrk := hc k.toNat (Nat.le_refl _) (by omega)
    rw [show (i - 1).toNat = n.toNat by omega] at hrk
    refine ⟨by omega, by omega, by omega, by omega, by omega, ?_⟩
    refine hP _ ?_ ?_ ?_ ?_ ?_
    · intro g' a1 a2 a3
      funext s' k'
      simp only [stm_ap, stc_ap, a1, a2, a3, false_and, if_false]
    · rfl
    · exact hLs k (by omega) (by omega)
    · show L n.toNat - L (n - k).toNat = _
      unfold gsm
      rw [hL _ (Nat.le_refl _), hL _ (by omega), show (n - k).toNat = n.toNat - k.toNat by omega]
    · intro key k1 k2
      have := hrk key k1 k2
      rw [show ((k.toNat : Nat) : Int) = k by omega] at this
      exact this
  · refine loopD 0 (fun jj M' => (max 1 (k - (n - i)) - 1 ≤ jj ∧ jj ≤ min i k) ∧ ∃ c : Nat → Int, M' = stc (stc M 29 0 L) 28 0 c ∧ ∀ j' : Nat, j' ≤ k.toNat → (jj < (j' : Int) → k ≤ j' + (n - i) → rowOk f n.toNat c j' i.toNat) ∧ ((j' : Int) ≤ jj → k ≤ j' + (n - (i - 1)) → rowOk f n.toNat c j' (i - 1).toNat)) (fun jj M' => J x 124 [some (zr 9 0), some (zr g s), some (zi n), some (zi k), some (zi i), some (zi (max 1 (k - (n - i)))), some (zi jj)] [] M') ?_ (min i k) _ ⟨by omega, c, rfl, fun j' hj' => ⟨fun h1 h2 => ?_, fun h1 h2 => hc j' hj' h2⟩⟩
    rotate_left
    · intro key k1 k2
      rw [hc j' hj' (by omega) key k1 k2, cw_gt f (by omega), cw_gt f (by omega)]
    clear hc c
    rintro jj M' ⟨hjj, c, rfl, hc⟩ ih2
    refine B_X9_chooseSums_124 C (k_X9_chooseNext l) (by decide) _ _ _ ?_
    simp only [c_iadd, c_isub, c_imul, c_ladd, c_lsub, c_lmul, c_ineg, c_lneg, c_ic, c_lc, c_iload, c_lload, c_aload, c_istore, c_astore, c_lstore, c_iinc, c_dup, c_dup2, c_goto, c_i2l, c_l2i, c_idiv, c_ldiv, c_lrem, c_lshl, c_gi, c_gl, c_gr, c_pi, c_pz, c_pl, c_iald, c_lald, c_bald, c_aald, c_iast, c_last, c_bast, c_callV, c_callS, c_mmax, c_mmin, c_mabs, c_mmaxl, c_mabsl, c_iret, c_zret, c_lret, c_vret, c_tsw, c_lsw, c_icmp_eq, c_icmp_ne, c_icmp_lt, c_icmp_ge, c_icmp_gt, c_icmp_le, c_if_eq, c_if_ne, c_if_lt, c_if_ge, c_if_gt, c_if_le, c_lcmp_eq, c_lcmp_ne, c_lcmp_lt, c_lcmp_ge, c_lcmp_gt, c_lcmp_le, c_lraw_eq, c_lraw_lt, c_lraw_ge, c_lraw_gt, c_lraw_le, acat, scat, tswP, pops, st1, st2, klo, pad, elo, List.getElem?_cons_zero, List.getElem?_cons_succ, List.getElem?_nil, List.set_cons_zero, List.set_cons_succ, List.set_nil, Option.toList_some, Option.toList_none, List.cons_append, List.nil_append, List.length_cons, List.length_nil, stc_ap, stm_ap, false_and, and_false, and_self, true_and, and_true, Nat.reduceEqDiff, reduceIte, al_12, al_13, al_14, al_15, al_16, al_17, al_18, al_19, al_20, al_21, al_22, al_23, al_24, al_25, al_26, al_27, al_28, al_29, al_30, al_31, al_32, al_33, al_34, al_35, al_36, al_37, al_38, al_39, al_40, al_41, al_42, al_43, al_44, al_45, al_46, al_47, al_48, al_49, al_50, al_51, al_52, al_53, al_54, al_55, at_12, at_13, at_14, at_15, at_16, at_17, at_18, at_19, at_20, at_21, at_22, at_23, at_24, at_25, at_26, at_27, at_28, at_29, at_30, at_31, at_32, at_33, at_34, at_35, at_36, at_37, at_38, at_39, at_40, at_41, at_42, at_43, at_44, at_45, at_46, at_47, at_48, at_49, at_50, at_51, at_52, at_53, at_54, at_55, cn_0, cn_1, cn_2, cn_3, cn_4, cn_5, cn_6, cn_7, cn_8, cn_9, cn_10, cn_11, cn_12, cn_13, cn_14, cn_15, cn_16, cn_17, cn_18, cn_19, cn_20, cn_21, cn_22, cn_23, cn_24, cn_25, cn_26, cn_27, cn_28, cn_29, cn_30, cn_31, cn_32, cn_33, cn_34, cn_35, cn_36, cn_37, cn_38, cn_39, cn_40, cn_41, cn_42, cn_43, cn_44, cn_45, cn_46, cn_47, cn_48, cn_49, cn_50, cn_51, cn_52, cn_53, cn_54, cn_55, Nat.reduceAdd, Nat.reduceLT, Nat.reduceLeDiff, Nat.lt_add_one, Nat.zero_lt_succ, Nat.reduceSub, ite_true, ite_false, reduceCtorEq, forall_const, Nat.reduceSucc, Nat.zero_add, Nat.add_zero, Nat.le_refl, Nat.zero_le, Nat.reducePow, Int.reduceNeg, Nat.reduceMul, eq_self, Int.cast_ofNat_Int, Int.toNat_natCast, iR, lR, Int.reduceEq, Int.reduceLT, Int.reduceLE, Int.reduceNe, not_false_eq_true, not_true_eq_false, false_implies, true_implies, Int.reduceAdd, Int.reduceSub, Int.reduceMul, Int.reduceToNat, implies_true, or_true, true_or, or_false, false_or, T_X9_chooseNext, h28, h29, ht, hg, hs]
    refine ⟨by omega, by omega, fun q2 => J_fgt [true, true, true, true, true, false, false] (ih (by omega) _ ⟨by omega, c, rfl, fun j' h1 h2 => ?_⟩), fun q2 => ?_⟩
    · rw [show i + 1 - 1 = i by omega] at h2 ⊢
      by_cases e : jj < (j' : Int)
      · exact (hc j' h1).1 e h2
      · have h3 := (hc j' h1).2 (by omega) (by omega)
        obtain rfl : j' = 0 := by omega
        intro key k1 k2
        rw [h3 key k1 k2, cw_z, cw_z]
    · obtain ⟨a, ha⟩ : ∃ a : Nat, (a : Int) = i - 1 := ⟨(i - 1).toNat, by omega⟩
      obtain ⟨b, hb⟩ : ∃ b : Nat, (b : Int) = jj - 1 := ⟨(jj - 1).toNat, by omega⟩
      have e1 : (i - 1).toNat = a := by omega
      have e2 : (jj - 1).toNat = b := by omega
      have e3 : (i - jj).toNat = a - b := by omega
      have e4 : L (i - 1).toNat - L (i - jj).toNat = gsm f a b := by
        unfold gsm
        rw [e1, e3, hL _ (by omega), hL _ (by omega)]
      have e5 : L (jj - 1).toNat = sm f b := by rw [e2, hL _ (by omega)]
      have hva := hr a (by omega)
      have g1 := gsm_in (f := f) (n := a) (k := b) (c := 1000) (by omega) (fun q hq => hr q (by omega))
      have g2 := sm_in (f := f) (n := b) (c := 1000) (by decide) (fun q hq => hr q (by omega))
      have hf1 := hfi (i - 1)
      rw [e4, e5, hf1, e1]
      refine ⟨by omega, by omega, by omega, by omega, by omega, ?_⟩
      rw [show jj + -1 = jj - 1 by omega]
      refine ih2 (by omega) _ ⟨by omega, _, stc_on _ 28 0 c _, fun j' hj' => ?_⟩
      have hx1 : ∀ i' : Nat, j' ≠ b + 1 → rowOk f n.toNat c j' i' → rowOk f n.toNat (nxt c (sos (jj - 1)) (sos jj + f a) (sm f b) (gsm f a b)) j' i' := by
        intro i' hne h1
        have := nxt_other (i := a) (j := b + 1) hr (by omega) ⟨by omega, by omega, hne⟩ h1
        rw [show ((b + 1 - 1 : Nat) : Int) = jj - 1 by omega, show ((b + 1 : Nat) : Int) = jj by omega, show b + 1 - 1 = b by omega] at this
        exact this
      refine ⟨fun h1 h2 => ?_, fun h1 h2 => hx1 _ (by omega) ((hc j' hj').2 (by omega) h2)⟩
      by_cases e : j' = b + 1
      · have r1 := (hc (b + 1) (by omega)).2 (by omega) (by omega)
        have r2 := (hc b (by omega)).2 (by omega) (by omega)
        rw [e1] at r1 r2
        have := nxt_row (i := a) (j := b + 1) hso hr (by omega) r1 r2
        rw [show ((b + 1 - 1 : Nat) : Int) = jj - 1 by omega, show ((b + 1 : Nat) : Int) = jj by omega, show b + 1 - 1 = b by omega] at this
        rw [e, show i.toNat = a + 1 by omega]
        exact this
      · exact hx1 _ e ((hc j' hj').1 (by omega) h2)
