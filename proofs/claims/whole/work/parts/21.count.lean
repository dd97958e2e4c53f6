/-! CloudBench$Question: measures, sides, ways -/
def T_X5_measure : Ct := fun as M P => match as with
  | [.inr (some (g, s)), .inl (.inl a), .inl (.inl b), .inl (.inl c), .inl (.inl d)] => g = 5 ∧ s = 0 ∧ iR a ∧ iR b ∧ iR c ∧ iR d ∧ P none (stm (stm (stm (stm M 5 0 10 a) 5 0 11 b) 5 0 12 c) 5 0 13 d)
  | _ => False
theorem k_X5_measure (l : Launch) : MetT l yX5_measure cX5_measure 5 none 0 T_X5_measure := by
  refine MetT.of (by decide +kernel) (fun as M P h => by unfold T_X5_measure at h; split at h <;> first | (simp [elo]; done) | exact h.elim) (fun x as M P h C hR => ?_)
  unfold T_X5_measure at h
  split at h
  rotate_left
  · exact h.elim
  rename_i g s a b c d
  obtain ⟨rfl, rfl, ha, hb, hc, hd, hP⟩ := h
  refine B_X5_measure_0 C hR _ _ _ ?_
  simp only [c_iadd, c_isub, c_imul, c_ladd, c_lsub, c_lmul, c_ineg, c_lneg, c_ic, c_lc, c_iload, c_lload, c_aload, c_istore, c_astore, c_lstore, c_iinc, c_dup, c_dup2, c_goto, c_i2l, c_l2i, c_idiv, c_ldiv, c_lrem, c_lshl, c_gi, c_gl, c_gr, c_pi, c_pz, c_pl, c_iald, c_lald, c_bald, c_aald, c_iast, c_last, c_bast, c_callV, c_callS, c_mmax, c_mmin, c_mabs, c_mmaxl, c_mabsl, c_iret, c_zret, c_lret, c_vret, c_tsw, c_lsw, c_icmp_eq, c_icmp_ne, c_icmp_lt, c_icmp_ge, c_icmp_gt, c_icmp_le, c_if_eq, c_if_ne, c_if_lt, c_if_ge, c_if_gt, c_if_le, c_lcmp_eq, c_lcmp_ne, c_lcmp_lt, c_lcmp_ge, c_lcmp_gt, c_lcmp_le, c_lraw_eq, c_lraw_lt, c_lraw_ge, c_lraw_gt, c_lraw_le, acat, scat, tswP, pops, st1, st2, klo, pad, elo, List.getElem?_cons_zero, List.getElem?_cons_succ, List.getElem?_nil, List.set_cons_zero, List.set_cons_succ, List.set_nil, Option.toList_some, Option.toList_none, List.cons_append, List.nil_append, List.length_cons, List.length_nil, stc_ap, stm_ap, false_and, and_false, and_self, true_and, and_true, Nat.reduceEqDiff, reduceIte, al_12, al_13, al_14, al_15, al_16, al_17, al_18, al_19, al_20, al_21, al_22, al_23, al_24, al_25, al_26, al_27, al_28, al_29, al_30, al_31, al_32, al_33, al_34, al_35, al_36, al_37, al_38, al_39, al_40, al_41, al_42, al_43, al_44, al_45, al_46, al_47, al_48, al_49, al_50, al_51, al_52, al_53, al_54, al_55, at_12, at_13, at_14, at_15, at_16, at_17, at_18, at_19, at_20, at_21, at_22, at_23, at_24, at_25, at_26, at_27, at_28, at_29, at_30, at_31, at_32, at_33, at_34, at_35, at_36, at_37, at_38, at_39, at_40, at_41, at_42, at_43, at_44, at_45, at_46, at_47, at_48, at_49, at_50, at_51, at_52, at_53, at_54, at_55, cn_0, cn_1, cn_2, cn_3, cn_4, cn_5, cn_6, cn_7, cn_8, cn_9, cn_10, cn_11, cn_12, cn_13, cn_14, cn_15, cn_16, cn_17, cn_18, cn_19, cn_20, cn_21, cn_22, cn_23, cn_24, cn_25, cn_26, cn_27, cn_28, cn_29, cn_30, cn_31, cn_32, cn_33, cn_34, cn_35, cn_36, cn_37, cn_38, cn_39, cn_40, cn_41, cn_42, cn_43, cn_44, cn_45, cn_46, cn_47, cn_48, cn_49, cn_50, cn_51, cn_52, cn_53, cn_54, cn_55, Nat.reduceAdd, Nat.reduceLT, Nat.reduceLeDiff, Nat.lt_add_one, Nat.zero_lt_succ, Nat.reduceSub, ite_true, ite_false, reduceCtorEq, forall_const, Nat.reduceSucc, Nat.zero_add, Nat.add_zero, Nat.le_refl, Nat.zero_le, Nat.reducePow, Int.reduceNeg, Nat.reduceMul, eq_self, Int.cast_ofNat_Int, Int.toNat_natCast, iR, lR, Int.reduceEq, Int.reduceLT, Int.reduceLE, Int.reduceNe, not_false_eq_true, not_true_eq_false, false_implies, true_implies, Int.reduceAdd, Int.reduceSub, Int.reduceMul, Int.reduceToNat, implies_true, or_true, true_or, or_false, false_or]
  exact ⟨ha, hb, hc, hd, hP⟩
def farv (M : Mm) (v : Int) : Int := zab (M 5 0 12 * v - M 5 0 13)
def T_X5_far : Ct := fun as M P => match as with
  | [.inr (some (g, s)), .inl (.inr v)] => g = 5 ∧ s = 0 ∧ (-9223372036854775808 < M 5 0 12 * v - M 5 0 13 ∧ M 5 0 12 * v - M 5 0 13 < 9223372036854775808) ∧ P (some (zl (farv M v))) M
  | _ => False
theorem k_X5_far (l : Launch) : MetT l yX5_far cX5_far 3 (some .long) 1 T_X5_far := by
  refine MetT.of (by decide +kernel) (fun as M P h => by unfold T_X5_far at h; split at h <;> first | (simp [elo]; done) | exact h.elim) (fun x as M P h C hR => ?_)
  unfold T_X5_far at h
  split at h
  rotate_left
  · exact h.elim
  rename_i g s v
  obtain ⟨rfl, rfl, hv, hP⟩ := h
  refine B_X5_far_0 C hR (by decide) _ _ _ ?_
  simp only [c_iadd, c_isub, c_imul, c_ladd, c_lsub, c_lmul, c_ineg, c_lneg, c_ic, c_lc, c_iload, c_lload, c_aload, c_istore, c_astore, c_lstore, c_iinc, c_dup, c_dup2, c_goto, c_i2l, c_l2i, c_idiv, c_ldiv, c_lrem, c_lshl, c_gi, c_gl, c_gr, c_pi, c_pz, c_pl, c_iald, c_lald, c_bald, c_aald, c_iast, c_last, c_bast, c_callV, c_callS, c_mmax, c_mmin, c_mabs, c_mmaxl, c_mabsl, c_iret, c_zret, c_lret, c_vret, c_tsw, c_lsw, c_icmp_eq, c_icmp_ne, c_icmp_lt, c_icmp_ge, c_icmp_gt, c_icmp_le, c_if_eq, c_if_ne, c_if_lt, c_if_ge, c_if_gt, c_if_le, c_lcmp_eq, c_lcmp_ne, c_lcmp_lt, c_lcmp_ge, c_lcmp_gt, c_lcmp_le, c_lraw_eq, c_lraw_lt, c_lraw_ge, c_lraw_gt, c_lraw_le, acat, scat, tswP, pops, st1, st2, klo, pad, elo, List.getElem?_cons_zero, List.getElem?_cons_succ, List.getElem?_nil, List.set_cons_zero, List.set_cons_succ, List.set_nil, Option.toList_some, Option.toList_none, List.cons_append, List.nil_append, List.length_cons, List.length_nil, stc_ap, stm_ap, false_and, and_false, and_self, true_and, and_true, Nat.reduceEqDiff, reduceIte, al_12, al_13, al_14, al_15, al_16, al_17, al_18, al_19, al_20, al_21, al_22, al_23, al_24, al_25, al_26, al_27, al_28, al_29, al_30, al_31, al_32, al_33, al_34, al_35, al_36, al_37, al_38, al_39, al_40, al_41, al_42, al_43, al_44, al_45, al_46, al_47, al_48, al_49, al_50, al_51, al_52, al_53, al_54, al_55, at_12, at_13, at_14, at_15, at_16, at_17, at_18, at_19, at_20, at_21, at_22, at_23, at_24, at_25, at_26, at_27, at_28, at_29, at_30, at_31, at_32, at_33, at_34, at_35, at_36, at_37, at_38, at_39, at_40, at_41, at_42, at_43, at_44, at_45, at_46, at_47, at_48, at_49, at_50, at_51, at_52, at_53, at_54, at_55, cn_0, cn_1, cn_2, cn_3, cn_4, cn_5, cn_6, cn_7, cn_8, cn_9, cn_10, cn_11, cn_12, cn_13, cn_14, cn_15, cn_16, cn_17, cn_18, cn_19, cn_20, cn_21, cn_22, cn_23, cn_24, cn_25, cn_26, cn_27, cn_28, cn_29, cn_30, cn_31, cn_32, cn_33, cn_34, cn_35, cn_36, cn_37, cn_38, cn_39, cn_40, cn_41, cn_42, cn_43, cn_44, cn_45, cn_46, cn_47, cn_48, cn_49, cn_50, cn_51, cn_52, cn_53, cn_54, cn_55, Nat.reduceAdd, Nat.reduceLT, Nat.reduceLeDiff, Nat.lt_add_one, Nat.zero_lt_succ, Nat.reduceSub, ite_true, ite_false, reduceCtorEq, forall_const, Nat.reduceSucc, Nat.zero_add, Nat.add_zero, Nat.le_refl, Nat.zero_le, Nat.reducePow, Int.reduceNeg, Nat.reduceMul, eq_self, Int.cast_ofNat_Int, Int.toNat_natCast, iR, lR, Int.reduceEq, Int.reduceLT, Int.reduceLE, Int.reduceNe, not_false_eq_true, not_true_eq_false, false_implies, true_implies, Int.reduceAdd, Int.reduceSub, Int.reduceMul, Int.reduceToNat, implies_true, or_true, true_or, or_false, false_or]
  exact ⟨hv, hP⟩
/-- a score lies on a side -/
def onS (M : Mm) (v : Int) (side : Int) : Prop := (side = 0 ∧ M 5 0 8 ≤ v) ∨ (side = 1 ∧ v ≤ M 5 0 8) ∨ (¬ side = 0 ∧ ¬ side = 1 ∧ farv M (M 5 0 8) ≤ farv M v)
def farOk (M : Mm) (v : Int) : Prop := -1000000000000 ≤ M 5 0 12 * v - M 5 0 13 ∧ M 5 0 12 * v - M 5 0 13 ≤ 1000000000000
theorem farv_in {M : Mm} {v : Int} (h : farOk M v) : 0 ≤ farv M v ∧ farv M v ≤ 1000000000000 := by
  unfold farOk at h
  unfold farv zab
  split <;> omega
def T_X5_isOnSide : Ct := fun as M P => match as with
  | [.inr (some (g, s)), .inl (.inr v), .inl (.inl side)] => g = 5 ∧ s = 0 ∧ iR side ∧ lR v ∧ lR (M 5 0 8) ∧ farOk M v ∧ farOk M (M 5 0 8) ∧ (onS M v side → P (some (zi 1)) M) ∧ (¬ onS M v side → P (some (zi 0)) M)
  | _ => False
theorem k_X5_isOnSide (l : Launch) : MetT l yX5_isOnSide cX5_isOnSide 4 (some .boolean) 2 T_X5_isOnSide := by
  refine MetT.of (by decide +kernel) (fun as M P h => by unfold T_X5_isOnSide at h; split at h <;> first | (simp [elo]; done) | exact h.elim) (fun x as M P h C hR => ?_)
  unfold T_X5_isOnSide at h
  split at h
  rotate_left
  · exact h.elim
  rename_i g s v side
  obtain ⟨rfl, rfl, hsd, hv, hsc, hf1, hf2, h1, h2⟩ := h
  refine B_X5_isOnSide_0 C hR (k_X5_far l) (by decide) _ _ _ ?_
  simp only [c_iadd, c_isub, c_imul, c_ladd, c_lsub, c_lmul, c_ineg, c_lneg, c_ic, c_lc, c_iload, c_lload, c_aload, c_istore, c_astore, c_lstore, c_iinc, c_dup, c_dup2, c_goto, c_i2l, c_l2i, c_idiv, c_ldiv, c_lrem, c_lshl, c_gi, c_gl, c_gr, c_pi, c_pz, c_pl, c_iald, c_lald, c_bald, c_aald, c_iast, c_last, c_bast, c_callV, c_callS, c_mmax, c_mmin, c_mabs, c_mmaxl, c_mabsl, c_iret, c_zret, c_lret, c_vret, c_tsw, c_lsw, c_icmp_eq, c_icmp_ne, c_icmp_lt, c_icmp_ge, c_icmp_gt, c_icmp_le, c_if_eq, c_if_ne, c_if_lt, c_if_ge, c_if_gt, c_if_le, c_lcmp_eq, c_lcmp_ne, c_lcmp_lt, c_lcmp_ge, c_lcmp_gt, c_lcmp_le, c_lraw_eq, c_lraw_lt, c_lraw_ge, c_lraw_gt, c_lraw_le, acat, scat, tswP, pops, st1, st2, klo, pad, elo, List.getElem?_cons_zero, List.getElem?_cons_succ, List.getElem?_nil, List.set_cons_zero, List.set_cons_succ, List.set_nil, Option.toList_some, Option.toList_none, List.cons_append, List.nil_append, List.length_cons, List.length_nil, stc_ap, stm_ap, false_and, and_false, and_self, true_and, and_true, Nat.reduceEqDiff, reduceIte, al_12, al_13, al_14, al_15, al_16, al_17, al_18, al_19, al_20, al_21, al_22, al_23, al_24, al_25, al_26, al_27, al_28, al_29, al_30, al_31, al_32, al_33, al_34, al_35, al_36, al_37, al_38, al_39, al_40, al_41, al_42, al_43, al_44, al_45, al_46, al_47, al_48, al_49, al_50, al_51, al_52, al_53, al_54, al_55, at_12, at_13, at_14, at_15, at_16, at_17, at_18, at_19, at_20, at_21, at_22, at_23, at_24, at_25, at_26, at_27, at_28, at_29, at_30, at_31, at_32, at_33, at_34, at_35, at_36, at_37, at_38, at_39, at_40, at_41, at_42, at_43, at_44, at_45, at_46, at_47, at_48, at_49, at_50, at_51, at_52, at_53, at_54, at_55, cn_0, cn_1, cn_2, cn_3, cn_4, cn_5, cn_6, cn_7, cn_8, cn_9, cn_10, cn_11, cn_12, cn_13, cn_14, cn_15, cn_16, cn_17, cn_18, cn_19, cn_20, cn_21, cn_22, cn_23, cn_24, cn_25, cn_26, cn_27, cn_28, cn_29, cn_30, cn_31, cn_32, cn_33, cn_34, cn_35, cn_36, cn_37, cn_38, cn_39, cn_40, cn_41, cn_42, cn_43, cn_44, cn_45, cn_46, cn_47, cn_48, cn_49, cn_50, cn_51, cn_52, cn_53, cn_54, cn_55, Nat.reduceAdd, Nat.reduceLT, Nat.reduceLeDiff, Nat.lt_add_one, Nat.zero_lt_succ, Nat.reduceSub, ite_true, ite_false, reduceCtorEq, forall_const, Nat.reduceSucc, Nat.zero_add, Nat.add_zero, Nat.le_refl, Nat.zero_le, Nat.reducePow, Int.reduceNeg, Nat.reduceMul, eq_self, Int.cast_ofNat_Int, Int.toNat_natCast, iR, lR, Int.reduceEq, Int.reduceLT, Int.reduceLE, Int.reduceNe, not_false_eq_true, not_true_eq_false, false_implies, true_implies, Int.reduceAdd, Int.reduceSub, Int.reduceMul, Int.reduceToNat, implies_true, or_true, true_or, or_false, false_or, T_X5_far]
  have b1 := farv_in hf1
  have b2 := farv_in hf2
  unfold farOk at hf1 hf2
  refine ⟨hsd, fun q => ⟨hv, hsc, fun q2 => h2 fun o => ?_, fun q2 => h1 (Or.inl ⟨q, by omega⟩)⟩, fun q => ⟨hv, hsc, fun q2 => h2 fun o => ?_, fun q2 => h1 (Or.inr (Or.inl ⟨q, by omega⟩))⟩, fun q q' => ⟨by omega, by omega, by omega, by omega, fun q2 => h2 fun o => ?_, fun q2 => h1 (Or.inr (Or.inr ⟨q, q', by omega⟩))⟩⟩
  · unfold onS at o; omega
  · unfold onS at o; omega
  · unfold onS at o; omega
/-- choices whose greatest gap is just v -/
def gpd (f : Nat → Int) (n K : Nat) (v : Int) : Int := gpc f n K v n K - if v = 0 then 0 else gpc f n K (v - 1) n K
def QD (t n k : Int) (f : Nat → Int) (dk : Int → Int) (fi la : Int) : Prop :=
  ((t = 0 ∨ t = 1) ∧ ∃ f' : Nat → Int, pmf n.toNat f f' ∧ srt f' n.toNat ∧ fi = sm f' k.toNat ∧ la = gsm f' n.toNat k.toNat ∧ ∀ key : Int, dk key = cw f n.toNat k.toNat key) ∨
  (t = 2 ∧ ∃ f' : Nat → Int, pmf n.toNat f f' ∧ srt f' n.toNat ∧ fi = 0 ∧ la = k * (n - k) ∧ ∀ key : Int, dk key = gpd f' n.toNat k.toNat key) ∨
  ((t = 3 ∨ t = 4) ∧ fi = 0 ∧ la = sm f n.toNat ∧ ∀ key : Int, dk key = swc f n.toNat key) ∨
  (t = 5 ∧ fi = 0 ∧ la = trn n ∧ ∀ key : Int, dk key = mh n.toNat key)
/-- the ways' row holds dk from fi to la -/
def WK (M : Mm) (dk : Int → Int) (fi la : Int) : Prop := M 9 0 3 = fi ∧ M 9 0 4 = la ∧ (0 ≤ fi ∧ fi ≤ 20000 ∧ -1 ≤ la ∧ la ≤ 20000) ∧ ∀ key : Int, fi ≤ key → key ≤ la → (0 ≤ M 9 0 2 + key ∧ M 9 0 2 + key < 210021) ∧ M 28 0 (M 9 0 2 + key).toNat = dk key
/-- the question is posed in bounds -/
def QI (M : Mm) : Prop := (0 ≤ M 5 0 5 ∧ M 5 0 5 ≤ 5) ∧ (M 5 0 5 ≤ 2 → (0 ≤ M 5 0 7 ∧ M 5 0 7 ≤ 20 ∧ M 5 0 7 ≤ M 5 0 6 ∧ M 5 0 6 ≤ M 5 0 7 + 20 ∧ 1 ≤ M 5 0 6)) ∧ (3 ≤ M 5 0 5 → 0 ≤ M 5 0 6 ∧ M 5 0 6 ≤ 20) ∧ (M 5 0 5 = 5 → 1 ≤ M 5 0 6) ∧ (M 5 0 5 ≠ 2 → M 5 0 5 ≠ 5 → ∀ j : Nat, (j : Int) < M 5 0 6 → 0 ≤ M 21 0 j ∧ M 21 0 j ≤ 1000) ∧ (M 5 0 5 = 2 → ∀ j : Nat, (j : Int) < M 5 0 6 → -500 ≤ M 21 0 j ∧ M 21 0 j ≤ 500)
def T_X5_countWays : Ct := fun as M P => match as with
  | [.inr (some (g, s))] => g = 5 ∧ s = 0 ∧ QI M ∧ ∀ (M' : Mm) (dk : Int → Int) (fi la : Int), QD (M 5 0 5) (M 5 0 6) (M 5 0 7) (M 21 0) dk fi la → (∀ g' : Nat, ¬ g' = 9 → ¬ g' = 28 → ¬ g' = 29 → ¬ g' = 21 → M' g' = M g') → WK M' dk fi la → P none M'
  | _ => False
theorem pmf_all {n : Nat} {f g : Nat → Int} (h : pmf n f g) {p : Int → Prop} (hf : ∀ j, j < n → p (f j)) : ∀ j, j < n → p (g j) := by
  refine h (fun q => ∀ j, j < n → p (q j)) (fun q a b hs ha j hj => ?_) hf
  obtain ⟨h1, h2, h3, h4⟩ := hs
  by_cases e1 : j = q
  · subst e1; rw [h2]; exact ha _ (by omega)
  · by_cases e2 : j = q + 1
    · subst e2; rw [h3]; exact ha _ (by omega)
    · rw [h4 j e1 e2]; exact ha j hj
theorem k_X5_countWays (l : Launch) : MetT l yX5_countWays cX5_countWays 1 none 3 T_X5_countWays := by
  refine MetT.of (by decide +kernel) (fun as M P h => by unfold T_X5_countWays at h; split at h <;> first | (simp [elo]; done) | exact h.elim) (fun x as M P h C hR => ?_)
  unfold T_X5_countWays at h
  split at h
  rotate_left
  · exact h.elim
  rename_i g s
  obtain ⟨rfl, rfl, ⟨q0, q1, q2, q3, q4, q5⟩, hP⟩ := h
  refine B_X5_countWays_0 C hR (k_X10_sort l) (by decide) (k_X9_chooseGaps l) (by decide) (k_X9_orderPairs l) (by decide) _ _ _ ?_
  simp only [c_iadd, c_isub, c_imul, c_ladd, c_lsub, c_lmul, c_ineg, c_lneg, c_ic, c_lc, c_iload, c_lload, c_aload, c_istore, c_astore, c_lstore, c_iinc, c_dup, c_dup2, c_goto, c_i2l, c_l2i, c_idiv, c_ldiv, c_lrem, c_lshl, c_gi, c_gl, c_gr, c_pi, c_pz, c_pl, c_iald, c_lald, c_bald, c_aald, c_iast, c_last, c_bast, c_callV, c_callS, c_mmax, c_mmin, c_mabs, c_mmaxl, c_mabsl, c_iret, c_zret, c_lret, c_vret, c_tsw, c_lsw, c_icmp_eq, c_icmp_ne, c_icmp_lt, c_icmp_ge, c_icmp_gt, c_icmp_le, c_if_eq, c_if_ne, c_if_lt, c_if_ge, c_if_gt, c_if_le, c_lcmp_eq, c_lcmp_ne, c_lcmp_lt, c_lcmp_ge, c_lcmp_gt, c_lcmp_le, c_lraw_eq, c_lraw_lt, c_lraw_ge, c_lraw_gt, c_lraw_le, acat, scat, tswP, pops, st1, st2, klo, pad, elo, List.getElem?_cons_zero, List.getElem?_cons_succ, List.getElem?_nil, List.set_cons_zero, List.set_cons_succ, List.set_nil, Option.toList_some, Option.toList_none, List.cons_append, List.nil_append, List.length_cons, List.length_nil, stc_ap, stm_ap, false_and, and_false, and_self, true_and, and_true, Nat.reduceEqDiff, reduceIte, al_12, al_13, al_14, al_15, al_16, al_17, al_18, al_19, al_20, al_21, al_22, al_23, al_24, al_25, al_26, al_27, al_28, al_29, al_30, al_31, al_32, al_33, al_34, al_35, al_36, al_37, al_38, al_39, al_40, al_41, al_42, al_43, al_44, al_45, al_46, al_47, al_48, al_49, al_50, al_51, al_52, al_53, al_54, al_55, at_12, at_13, at_14, at_15, at_16, at_17, at_18, at_19, at_20, at_21, at_22, at_23, at_24, at_25, at_26, at_27, at_28, at_29, at_30, at_31, at_32, at_33, at_34, at_35, at_36, at_37, at_38, at_39, at_40, at_41, at_42, at_43, at_44, at_45, at_46, at_47, at_48, at_49, at_50, at_51, at_52, at_53, at_54, at_55, cn_0, cn_1, cn_2, cn_3, cn_4, cn_5, cn_6, cn_7, cn_8, cn_9, cn_10, cn_11, cn_12, cn_13, cn_14, cn_15, cn_16, cn_17, cn_18, cn_19, cn_20, cn_21, cn_22, cn_23, cn_24, cn_25, cn_26, cn_27, cn_28, cn_29, cn_30, cn_31, cn_32, cn_33, cn_34, cn_35, cn_36, cn_37, cn_38, cn_39, cn_40, cn_41, cn_42, cn_43, cn_44, cn_45, cn_46, cn_47, cn_48, cn_49, cn_50, cn_51, cn_52, cn_53, cn_54, cn_55, Nat.reduceAdd, Nat.reduceLT, Nat.reduceLeDiff, Nat.lt_add_one, Nat.zero_lt_succ, Nat.reduceSub, ite_true, ite_false, reduceCtorEq, forall_const, Nat.reduceSucc, Nat.zero_add, Nat.add_zero, Nat.le_refl, Nat.zero_le, Nat.reducePow, Int.reduceNeg, Nat.reduceMul, eq_self, Int.cast_ofNat_Int, Int.toNat_natCast, iR, lR, Int.reduceEq, Int.reduceLT, Int.reduceLE, Int.reduceNe, not_false_eq_true, not_true_eq_false, false_implies, true_implies, Int.reduceAdd, Int.reduceSub, Int.reduceMul, Int.reduceToNat, implies_true, or_true, true_or, or_false, false_or, T_X10_sort, T_X9_chooseGaps, T_X9_orderPairs]
  have h40 : (M 5 0 5 = 0 ∨ M 5 0 5 = 1) → J x 40 [some (zr 5 0)] [] M := by
    intro ht
    have r1 := q1 (by omega)
    have r2 := q4 (by omega) (by omega)
    refine B_X5_countWays_40 C hR (k_X10_sort l) (by decide) (k_X9_chooseSums l) (by decide) _ _ _ ?_
    simp only [c_iadd, c_isub, c_imul, c_ladd, c_lsub, c_lmul, c_ineg, c_lneg, c_ic, c_lc, c_iload, c_lload, c_aload, c_istore, c_astore, c_lstore, c_iinc, c_dup, c_dup2, c_goto, c_i2l, c_l2i, c_idiv, c_ldiv, c_lrem, c_lshl, c_gi, c_gl, c_gr, c_pi, c_pz, c_pl, c_iald, c_lald, c_bald, c_aald, c_iast, c_last, c_bast, c_callV, c_callS, c_mmax, c_mmin, c_mabs, c_mmaxl, c_mabsl, c_iret, c_zret, c_lret, c_vret, c_tsw, c_lsw, c_icmp_eq, c_icmp_ne, c_icmp_lt, c_icmp_ge, c_icmp_gt, c_icmp_le, c_if_eq, c_if_ne, c_if_lt, c_if_ge, c_if_gt, c_if_le, c_lcmp_eq, c_lcmp_ne, c_lcmp_lt, c_lcmp_ge, c_lcmp_gt, c_lcmp_le, c_lraw_eq, c_lraw_lt, c_lraw_ge, c_lraw_gt, c_lraw_le, acat, scat, tswP, pops, st1, st2, klo, pad, elo, List.getElem?_cons_zero, List.getElem?_cons_succ, List.getElem?_nil, List.set_cons_zero, List.set_cons_succ, List.set_nil, Option.toList_some, Option.toList_none, List.cons_append, List.nil_append, List.length_cons, List.length_nil, stc_ap, stm_ap, false_and, and_false, and_self, true_and, and_true, Nat.reduceEqDiff, reduceIte, al_12, al_13, al_14, al_15, al_16, al_17, al_18, al_19, al_20, al_21, al_22, al_23, al_24, al_25, al_26, al_27, al_28, al_29, al_30, al_31, al_32, al_33, al_34, al_35, al_36, al_37, al_38, al_39, al_40, al_41, al_42, al_43, al_44, al_45, al_46, al_47, al_48, al_49, al_50, al_51, al_52, al_53, al_54, al_55, at_12, at_13, at_14, at_15, at_16, at_17, at_18, at_19, at_20, at_21, at_22, at_23, at_24, at_25, at_26, at_27, at_28, at_29, at_30, at_31, at_32, at_33, at_34, at_35, at_36, at_37, at_38, at_39, at_40, at_41, at_42, at_43, at_44, at_45, at_46, at_47, at_48, at_49, at_50, at_51, at_52, at_53, at_54, at_55, cn_0, cn_1, cn_2, cn_3, cn_4, cn_5, cn_6, cn_7, cn_8, cn_9, cn_10, cn_11, cn_12, cn_13, cn_14, cn_15, cn_16, cn_17, cn_18, cn_19, cn_20, cn_21, cn_22, cn_23, cn_24, cn_25, cn_26, cn_27, cn_28, cn_29, cn_30, cn_31, cn_32, cn_33, cn_34, cn_35, cn_36, cn_37, cn_38, cn_39, cn_40, cn_41, cn_42, cn_43, cn_44, cn_45, cn_46, cn_47, cn_48, cn_49, cn_50, cn_51, cn_52, cn_53, cn_54, cn_55, Nat.reduceAdd, Nat.reduceLT, Nat.reduceLeDiff, Nat.lt_add_one, Nat.zero_lt_succ, Nat.reduceSub, ite_true, ite_false, reduceCtorEq, forall_const, Nat.reduceSucc, Nat.zero_add, Nat.add_zero, Nat.le_refl, Nat.zero_le, Nat.reducePow, Int.reduceNeg, Nat.reduceMul, eq_self, Int.cast_ofNat_Int, Int.toNat_natCast, iR, lR, Int.reduceEq, Int.reduceLT, Int.reduceLE, Int.reduceNe, not_false_eq_true, not_true_eq_false, false_implies, true_implies, Int.reduceAdd, Int.reduceSub, Int.reduceMul, Int.reduceToNat, implies_true, or_true, true_or, or_false, false_or, T_X10_sort, T_X9_chooseSums]
    refine ⟨by omega, fun j hj => by have := r2 j hj; exact ⟨by omega, by omega⟩, fun f' hpm hso => ?_⟩
    have r3 : ∀ j : Nat, j < (M 5 0 6).toNat → 0 ≤ f' j ∧ f' j ≤ 1000 := pmf_all hpm (p := fun v => 0 ≤ v ∧ v ≤ 1000) (fun j hj => r2 j (by omega))
    refine ⟨by omega, hso, r3, fun M' hfr e2 e3 e4 hw => hP M' (cw (M 21 0) (M 5 0 6).toNat (M 5 0 7).toNat) _ _ (Or.inl ⟨ht, f', hpm, hso, rfl, rfl, fun _ => rfl⟩) ?_ ?_⟩
    · intro g' a1 a2 a3 a4
      rw [hfr g' a1 a2 a3]
      funext s'
      rw [stc_ap, if_neg (fun z => a4 z.1)]
    · have g1 := gsm_in (f := f') (n := (M 5 0 6).toNat) (k := (M 5 0 7).toNat) (c := 1000) (by omega) r3
      have g2 := sm_in (f := f') (n := (M 5 0 7).toNat) (c := 1000) (by decide) (fun q hq => r3 q (by omega))
      have b1 := sos_in (j := (M 5 0 7).toNat) (by omega)
      rw [show (((M 5 0 7).toNat : Nat) : Int) = M 5 0 7 by omega] at b1
      refine ⟨e3, e4, by omega, fun key k1 k2 => ?_⟩
      rw [e2, hw key k1 k2, cw_pm hpm]
      exact ⟨⟨by omega, by omega⟩, rfl⟩
  have h106 : (M 5 0 5 = 3 ∨ M 5 0 5 = 4) → J x 106 [some (zr 5 0)] [] M := by
    intro ht
    have r1 := q2 (by omega)
    have r2 := q4 (by omega) (by omega)
    refine B_X5_countWays_106 C hR (k_X9_turnSums l) (by decide) _ _ _ ?_
    simp only [c_iadd, c_isub, c_imul, c_ladd, c_lsub, c_lmul, c_ineg, c_lneg, c_ic, c_lc, c_iload, c_lload, c_aload, c_istore, c_astore, c_lstore, c_iinc, c_dup, c_dup2, c_goto, c_i2l, c_l2i, c_idiv, c_ldiv, c_lrem, c_lshl, c_gi, c_gl, c_gr, c_pi, c_pz, c_pl, c_iald, c_lald, c_bald, c_aald, c_iast, c_last, c_bast, c_callV, c_callS, c_mmax, c_mmin, c_mabs, c_mmaxl, c_mabsl, c_iret, c_zret, c_lret, c_vret, c_tsw, c_lsw, c_icmp_eq, c_icmp_ne, c_icmp_lt, c_icmp_ge, c_icmp_gt, c_icmp_le, c_if_eq, c_if_ne, c_if_lt, c_if_ge, c_if_gt, c_if_le, c_lcmp_eq, c_lcmp_ne, c_lcmp_lt, c_lcmp_ge, c_lcmp_gt, c_lcmp_le, c_lraw_eq, c_lraw_lt, c_lraw_ge, c_lraw_gt, c_lraw_le, acat, scat, tswP, pops, st1, st2, klo, pad, elo, List.getElem?_cons_zero, List.getElem?_cons_succ, List.getElem?_nil, List.set_cons_zero, List.set_cons_succ, List.set_nil, Option.toList_some, Option.toList_none, List.cons_append, List.nil_append, List.length_cons, List.length_nil, stc_ap, stm_ap, false_and, and_false, and_self, true_and, and_true, Nat.reduceEqDiff, reduceIte, al_12, al_13, al_14, al_15, al_16, al_17, al_18, al_19, al_20, al_21, al_22, al_23, al_24, al_25, al_26, al_27, al_28, al_29, al_30, al_31, al_32, al_33, al_34, al_35, al_36, al_37, al_38, al_39, al_40, al_41, al_42, al_43, al_44, al_45, al_46, al_47, al_48, al_49, al_50, al_51, al_52, al_53, al_54, al_55, at_12, at_13, at_14, at_15, at_16, at_17, at_18, at_19, at_20, at_21, at_22, at_23, at_24, at_25, at_26, at_27, at_28, at_29, at_30, at_31, at_32, at_33, at_34, at_35, at_36, at_37, at_38, at_39, at_40, at_41, at_42, at_43, at_44, at_45, at_46, at_47, at_48, at_49, at_50, at_51, at_52, at_53, at_54, at_55, cn_0, cn_1, cn_2, cn_3, cn_4, cn_5, cn_6, cn_7, cn_8, cn_9, cn_10, cn_11, cn_12, cn_13, cn_14, cn_15, cn_16, cn_17, cn_18, cn_19, cn_20, cn_21, cn_22, cn_23, cn_24, cn_25, cn_26, cn_27, cn_28, cn_29, cn_30, cn_31, cn_32, cn_33, cn_34, cn_35, cn_36, cn_37, cn_38, cn_39, cn_40, cn_41, cn_42, cn_43, cn_44, cn_45, cn_46, cn_47, cn_48, cn_49, cn_50, cn_51, cn_52, cn_53, cn_54, cn_55, Nat.reduceAdd, Nat.reduceLT, Nat.reduceLeDiff, Nat.lt_add_one, Nat.zero_lt_succ, Nat.reduceSub, ite_true, ite_false, reduceCtorEq, forall_const, Nat.reduceSucc, Nat.zero_add, Nat.add_zero, Nat.le_refl, Nat.zero_le, Nat.reducePow, Int.reduceNeg, Nat.reduceMul, eq_self, Int.cast_ofNat_Int, Int.toNat_natCast, iR, lR, Int.reduceEq, Int.reduceLT, Int.reduceLE, Int.reduceNe, not_false_eq_true, not_true_eq_false, false_implies, true_implies, Int.reduceAdd, Int.reduceSub, Int.reduceMul, Int.reduceToNat, implies_true, or_true, true_or, or_false, false_or, T_X9_turnSums]
    have g2 := sm_in (f := M 21 0) (n := (M 5 0 6).toNat) (c := 1000) (by decide) (fun q hq => r2 q (by omega))
    refine ⟨by omega, fun j hj => r2 j (by omega), fun M' hfr e2 e3 e4 hw => hP M' (swc (M 21 0) (M 5 0 6).toNat) 0 _ (Or.inr (Or.inr (Or.inl ⟨ht, rfl, rfl, fun _ => rfl⟩))) (fun g' a1 a2 a3 a4 => hfr g' a1 a2) ?_⟩
    refine ⟨e3, e4, by omega, fun key k1 k2 => ?_⟩
    rw [e2, Int.zero_add, hw key k1 k2]
    exact ⟨⟨by omega, by omega⟩, rfl⟩
  refine ⟨by omega, ⟨fun e => h40 (Or.inl e), fun e => h40 (Or.inr e), fun e => ?_, fun e => h106 (Or.inl e), fun e => h106 (Or.inr e)⟩, fun e => ?_⟩
  · have r1 := q1 (by omega)
    have r2 := q5 e
    refine ⟨by omega, fun j hj => by have := r2 j hj; exact ⟨by omega, by omega⟩, fun f' hpm hso => ?_⟩
    have r3 : ∀ j : Nat, j < (M 5 0 6).toNat → -500 ≤ f' j ∧ f' j ≤ 500 := pmf_all hpm (p := fun v => -500 ≤ v ∧ v ≤ 500) (fun j hj => r2 j (by omega))
    have hkk : M 5 0 7 * (M 5 0 6 - M 5 0 7) ≤ 400 := by
      have : M 5 0 7 * (M 5 0 6 - M 5 0 7) ≤ M 5 0 7 * 20 := Int.mul_le_mul_of_nonneg_left (by omega) (by omega)
      omega
    have hk0 : 0 ≤ M 5 0 7 * (M 5 0 6 - M 5 0 7) := Int.mul_nonneg (by omega) (by omega)
    refine ⟨by omega, fun j hj => by have := r3 j (by omega); exact ⟨by omega, by omega⟩, fun M' hfr e2 e3 e4 hw => hP M' (gpd f' (M 5 0 6).toNat (M 5 0 7).toNat) 0 _ (Or.inr (Or.inl ⟨e, f', hpm, hso, rfl, rfl, fun _ => rfl⟩)) ?_ ?_⟩
    · intro g' a1 a2 a3 a4
      rw [hfr g' a1 a2]
      funext s'
      rw [stc_ap, if_neg (fun z => a4 z.1)]
    · refine ⟨e3, e4, by omega, fun key k1 k2 => ?_⟩
      refine ⟨by rw [e2]; omega, ?_⟩
      have w1 := hw key.toNat (by omega)
      rw [show ((key.toNat : Nat) : Int) = key by omega] at w1
      unfold gpd
      rw [← w1]
      unfold pre
      rw [sm_s, e2, show (401 * M 5 0 7 + key).toNat = 401 * (M 5 0 7).toNat + key.toNat by omega]
      by_cases ez : key = 0
      · rw [if_pos ez, ez]
        show _ = 0 + _ - 0
        rw [Int.zero_add, Int.sub_zero]
      · rw [if_neg ez]
        have w2 := hw (key.toNat - 1) (by omega)
        rw [show ((key.toNat - 1 : Nat) : Int) = key - 1 by omega] at w2
        rw [← w2]
        unfold pre
        rw [show key.toNat - 1 + 1 = key.toNat by omega]
        omega
  · have e5 : M 5 0 5 = 5 := by omega
    have r1 := q2 (by omega)
    have r2 := q3 e5
    have t20 : trn ((20 : Nat) : Int) = 190 := by decide
    have a1 := trn_nn (M 5 0 6).toNat
    have a2 := trn_le (a := (M 5 0 6).toNat) (b := 20) (by omega)
    rw [show (((M 5 0 6).toNat : Nat) : Int) = M 5 0 6 by omega] at a1 a2
    refine ⟨by omega, fun M' hfr e2 e3 e4 hw => hP M' (mh (M 5 0 6).toNat) 0 _ (Or.inr (Or.inr (Or.inr ⟨e5, rfl, rfl, fun _ => rfl⟩))) (fun g' a1 a2 a3 a4 => hfr g' a1 a2) ?_⟩
    refine ⟨e3, e4, by omega, fun key k1 k2 => ?_⟩
    rw [e2, Int.zero_add, hw key k1 k2]
    exact ⟨⟨by omega, by omega⟩, rfl⟩
