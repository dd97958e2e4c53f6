/-! CloudBench$Question: a test is posed -/
theorem stm_ne (M : Mm) (g s k : Nat) (v : Int) {g' : Nat} (h : ¬ g' = g) : stm M g s k v g' = M g' := by
  funext s' k'
  rw [stm_ap, if_neg (fun z => h z.1)]
theorem stc_ne (M : Mm) (g s : Nat) (f : Nat → Int) {g' : Nat} (h : ¬ g' = g) : stc M g s f g' = M g' := by
  funext s'
  rw [stc_ap, if_neg (fun z => h z.1)]
theorem CI_cg {M M' : Mm} (h : M' 12 = M 12) (hC : CI M) : CI M' := fun n k h1 h2 => by rw [h]; exact hC n k h1 h2
def afterChoice (M : Mm) (a b : Nat) : Mm := stm (stm (stm (stm (stc M 20 0 (pol M a b)) 4 0 1 (M 8 a 1 + M 8 b 1)) 5 0 6 (M 8 a 1 + M 8 b 1)) 5 0 7 (M 8 a 1)) 5 0 9 (chI (M 8 a 1 + M 8 b 1) (M 8 a 1))
theorem ac_4 (M : Mm) (a b : Nat) : afterChoice M a b 4 0 1 = M 8 a 1 + M 8 b 1 := rfl
theorem ac_56 (M : Mm) (a b : Nat) : afterChoice M a b 5 0 6 = M 8 a 1 + M 8 b 1 := rfl
theorem ac_57 (M : Mm) (a b : Nat) : afterChoice M a b 5 0 7 = M 8 a 1 := rfl
theorem ac_59 (M : Mm) (a b : Nat) : afterChoice M a b 5 0 9 = chI (M 8 a 1 + M 8 b 1) (M 8 a 1) := rfl
theorem ac_55 (M : Mm) (a b : Nat) : afterChoice M a b 5 0 5 = M 5 0 5 := rfl
theorem ac_20 (M : Mm) (a b : Nat) : afterChoice M a b 20 0 = pol M a b := by
  funext k
  rfl
theorem ac_o (M : Mm) (a b : Nat) {g : Nat} (h4 : ¬ g = 4) (h5 : ¬ g = 5) (h20 : ¬ g = 20) : afterChoice M a b g = M g := by
  funext s k
  simp only [afterChoice, stm_ap, stc_ap, h4, h5, h20, false_and, if_false]
theorem ac_8 (M : Mm) (a b : Nat) : afterChoice M a b 8 = M 8 := ac_o M a b (by decide) (by decide) (by decide)
theorem ac_27 (M : Mm) (a b : Nat) : afterChoice M a b 27 = M 27 := ac_o M a b (by decide) (by decide) (by decide)
def T_X5_poseChoice : Ct := fun as M P => match as with
  | [.inr (some (g, s)), .inr (some (ga, a)), .inr (some (gb, b))] => g = 5 ∧ s = 0 ∧ ga = 8 ∧ gb = 8 ∧ a < 8 ∧ b < 8 ∧ SI M ∧ CI M ∧ P none (afterChoice M a b)
  | _ => False
theorem k_X5_poseChoice (l : Launch) : MetT l yX5_poseChoice cX5_poseChoice 3 none 1 T_X5_poseChoice := by
  refine MetT.of (by decide +kernel) (fun as M P h => by unfold T_X5_poseChoice at h; split at h <;> first | (simp [elo]; done) | exact h.elim) (fun x as M P h C hR => ?_)
  unfold T_X5_poseChoice at h
  split at h
  rotate_left
  · exact h.elim
  rename_i g s ga a gb b
  obtain ⟨rfl, rfl, rfl, rfl, ha, hb, hI, hC, hP⟩ := h
  have ia := (hI a ha).1
  have ib := (hI b hb).1
  refine B_X5_poseChoice_0 C hR (k_X4_gather l) (by decide) (k_X0_of l) (by decide) _ _ _ ?_
  simp only [c_iadd, c_isub, c_imul, c_ladd, c_lsub, c_lmul, c_ineg, c_lneg, c_ic, c_lc, c_iload, c_lload, c_aload, c_istore, c_astore, c_lstore, c_iinc, c_dup, c_dup2, c_goto, c_i2l, c_l2i, c_idiv, c_ldiv, c_lrem, c_lshl, c_gi, c_gl, c_gr, c_pi, c_pz, c_pl, c_iald, c_lald, c_bald, c_aald, c_iast, c_last, c_bast, c_callV, c_callS, c_mmax, c_mmin, c_mabs, c_mmaxl, c_mabsl, c_iret, c_zret, c_lret, c_vret, c_tsw, c_lsw, c_icmp_eq, c_icmp_ne, c_icmp_lt, c_icmp_ge, c_icmp_gt, c_icmp_le, c_if_eq, c_if_ne, c_if_lt, c_if_ge, c_if_gt, c_if_le, c_lcmp_eq, c_lcmp_ne, c_lcmp_lt, c_lcmp_ge, c_lcmp_gt, c_lcmp_le, c_lraw_eq, c_lraw_lt, c_lraw_ge, c_lraw_gt, c_lraw_le, acat, scat, tswP, pops, st1, st2, klo, pad, elo, List.getElem?_cons_zero, List.getElem?_cons_succ, List.getElem?_nil, List.set_cons_zero, List.set_cons_succ, List.set_nil, Option.toList_some, Option.toList_none, List.cons_append, List.nil_append, List.length_cons, List.length_nil, stc_ap, stm_ap, false_and, and_false, and_self, true_and, and_true, Nat.reduceEqDiff, reduceIte, al_12, al_13, al_14, al_15, al_16, al_17, al_18, al_19, al_20, al_21, al_22, al_23, al_24, al_25, al_26, al_27, al_28, al_29, al_30, al_31, al_32, al_33, al_34, al_35, al_36, al_37, al_38, al_39, al_40, al_41, al_42, al_43, al_44, al_45, al_46, al_47, al_48, al_49, al_50, al_51, al_52, al_53, al_54, al_55, at_12, at_13, at_14, at_15, at_16, at_17, at_18, at_19, at_20, at_21, at_22, at_23, at_24, at_25, at_26, at_27, at_28, at_29, at_30, at_31, at_32, at_33, at_34, at_35, at_36, at_37, at_38, at_39, at_40, at_41, at_42, at_43, at_44, at_45, at_46, at_47, at_48, at_49, at_50, at_51, at_52, at_53, at_54, at_55, cn_0, cn_1, cn_2, cn_3, cn_4, cn_5, cn_6, cn_7, cn_8, cn_9, cn_10, cn_11, cn_12, cn_13, cn_14, cn_15, cn_16, cn_17, cn_18, cn_19, cn_20, cn_21, cn_22, cn_23, cn_24, cn_25, cn_26, cn_27, cn_28, cn_29, cn_30, cn_31, cn_32, cn_33, cn_34, cn_35, cn_36, cn_37, cn_38, cn_39, cn_40, cn_41, cn_42, cn_43, cn_44, cn_45, cn_46, cn_47, cn_48, cn_49, cn_50, cn_51, cn_52, cn_53, cn_54, cn_55, Nat.reduceAdd, Nat.reduceLT, Nat.reduceLeDiff, Nat.lt_add_one, Nat.zero_lt_succ, Nat.reduceSub, ite_true, ite_false, reduceCtorEq, forall_const, Nat.reduceSucc, Nat.zero_add, Nat.add_zero, Nat.le_refl, Nat.zero_le, Nat.reducePow, Int.reduceNeg, Nat.reduceMul, eq_self, Int.cast_ofNat_Int, Int.toNat_natCast, iR, lR, Int.reduceEq, Int.reduceLT, Int.reduceLE, Int.reduceNe, not_false_eq_true, not_true_eq_false, false_implies, true_implies, Int.reduceAdd, Int.reduceSub, Int.reduceMul, Int.reduceToNat, implies_true, or_true, true_or, or_false, false_or, T_X4_gather, T_X0_of, ha, hb]
  refine ⟨hI, CI_cg ?_ hC, by omega, by omega, hP⟩
  funext s' k'
  simp only [stm_ap, stc_ap, Nat.reduceEqDiff, false_and, if_false]
def T_X5_posePairs : Ct := fun as M P => match as with
  | [.inr (some (g, s)), .inr (some (ga, a)), .inr (some (gb, b))] => g = 5 ∧ s = 0 ∧ ga = 8 ∧ gb = 8 ∧ a < 8 ∧ b < 8 ∧ SI M ∧ M 8 a 1 = M 8 b 1 ∧ ∀ M' : Mm, (∀ g' : Nat, ¬ g' = 3 → ¬ g' = 18 → ¬ g' = 19 → M' g' = M g') → PK M' (nzl (dif M a b) (M 8 a 1).toNat) (M 8 a 1) → P none (stm (stm (stm M' 5 0 6 ((nzl (dif M a b) (M 8 a 1).toNat).length)) 5 0 7 0) 5 0 9 (2 ^ (nzl (dif M a b) (M 8 a 1).toNat).length))
  | _ => False
theorem k_X5_posePairs (l : Launch) : MetT l yX5_posePairs cX5_posePairs 3 none 2 T_X5_posePairs := by
  refine MetT.of (by decide +kernel) (fun as M P h => by unfold T_X5_posePairs at h; split at h <;> first | (simp [elo]; done) | exact h.elim) (fun x as M P h C hR => ?_)
  unfold T_X5_posePairs at h
  split at h
  rotate_left
  · exact h.elim
  rename_i g s ga a gb b
  obtain ⟨rfl, rfl, rfl, rfl, ha, hb, hI, hab, hP⟩ := h
  have ia := (hI a ha).1
  refine B_X5_posePairs_0 C hR (k_X3_gather l) (by decide) _ _ _ ?_
  simp only [c_iadd, c_isub, c_imul, c_ladd, c_lsub, c_lmul, c_ineg, c_lneg, c_ic, c_lc, c_iload, c_lload, c_aload, c_istore, c_astore, c_lstore, c_iinc, c_dup, c_dup2, c_goto, c_i2l, c_l2i, c_idiv, c_ldiv, c_lrem, c_lshl, c_gi, c_gl, c_gr, c_pi, c_pz, c_pl, c_iald, c_lald, c_bald, c_aald, c_iast, c_last, c_bast, c_callV, c_callS, c_mmax, c_mmin, c_mabs, c_mmaxl, c_mabsl, c_iret, c_zret, c_lret, c_vret, c_tsw, c_lsw, c_icmp_eq, c_icmp_ne, c_icmp_lt, c_icmp_ge, c_icmp_gt, c_icmp_le, c_if_eq, c_if_ne, c_if_lt, c_if_ge, c_if_gt, c_if_le, c_lcmp_eq, c_lcmp_ne, c_lcmp_lt, c_lcmp_ge, c_lcmp_gt, c_lcmp_le, c_lraw_eq, c_lraw_lt, c_lraw_ge, c_lraw_gt, c_lraw_le, acat, scat, tswP, pops, st1, st2, klo, pad, elo, List.getElem?_cons_zero, List.getElem?_cons_succ, List.getElem?_nil, List.set_cons_zero, List.set_cons_succ, List.set_nil, Option.toList_some, Option.toList_none, List.cons_append, List.nil_append, List.length_cons, List.length_nil, stc_ap, stm_ap, false_and, and_false, and_self, true_and, and_true, Nat.reduceEqDiff, reduceIte, al_12, al_13, al_14, al_15, al_16, al_17, al_18, al_19, al_20, al_21, al_22, al_23, al_24, al_25, al_26, al_27, al_28, al_29, al_30, al_31, al_32, al_33, al_34, al_35, al_36, al_37, al_38, al_39, al_40, al_41, al_42, al_43, al_44, al_45, al_46, al_47, al_48, al_49, al_50, al_51, al_52, al_53, al_54, al_55, at_12, at_13, at_14, at_15, at_16, at_17, at_18, at_19, at_20, at_21, at_22, at_23, at_24, at_25, at_26, at_27, at_28, at_29, at_30, at_31, at_32, at_33, at_34, at_35, at_36, at_37, at_38, at_39, at_40, at_41, at_42, at_43, at_44, at_45, at_46, at_47, at_48, at_49, at_50, at_51, at_52, at_53, at_54, at_55, cn_0, cn_1, cn_2, cn_3, cn_4, cn_5, cn_6, cn_7, cn_8, cn_9, cn_10, cn_11, cn_12, cn_13, cn_14, cn_15, cn_16, cn_17, cn_18, cn_19, cn_20, cn_21, cn_22, cn_23, cn_24, cn_25, cn_26, cn_27, cn_28, cn_29, cn_30, cn_31, cn_32, cn_33, cn_34, cn_35, cn_36, cn_37, cn_38, cn_39, cn_40, cn_41, cn_42, cn_43, cn_44, cn_45, cn_46, cn_47, cn_48, cn_49, cn_50, cn_51, cn_52, cn_53, cn_54, cn_55, Nat.reduceAdd, Nat.reduceLT, Nat.reduceLeDiff, Nat.lt_add_one, Nat.zero_lt_succ, Nat.reduceSub, ite_true, ite_false, reduceCtorEq, forall_const, Nat.reduceSucc, Nat.zero_add, Nat.add_zero, Nat.le_refl, Nat.zero_le, Nat.reducePow, Int.reduceNeg, Nat.reduceMul, eq_self, Int.cast_ofNat_Int, Int.toNat_natCast, iR, lR, Int.reduceEq, Int.reduceLT, Int.reduceLE, Int.reduceNe, not_false_eq_true, not_true_eq_false, false_implies, true_implies, Int.reduceAdd, Int.reduceSub, Int.reduceMul, Int.reduceToNat, implies_true, or_true, true_or, or_false, false_or, T_X3_gather, ha, hb]
  refine ⟨hI, hab, fun M1 hf hpk => ?_⟩
  have hlen := nzl_len (dif M a b) (M 8 a 1).toNat
  have hp := hP M1 hf hpk
  rw [hpk.1]
  refine ⟨by omega, ?_⟩
  rw [Int.one_mul, Int.toNat_natCast]
  exact hp
/-- what SUMS leaves in the question -/
def posed (M : Mm) (n k sc tt st sh ft fc : Int) : Prop := M 5 0 6 = n ∧ M 5 0 7 = k ∧ M 5 0 8 = sc ∧ M 5 0 9 = tt ∧ M 5 0 10 = st ∧ M 5 0 11 = sh ∧ M 5 0 12 = ft ∧ M 5 0 13 = fc
/-- what a pose of tests 0 to 2 may change -/
def keeps3 (M M' : Mm) : Prop := (∀ g' : Nat, ¬ g' = 4 → ¬ g' = 5 → ¬ g' = 20 → ¬ g' = 21 → M' g' = M g') ∧ M' 5 0 5 = M 5 0 5
def lst (M : Mm) (a b : Nat) : Int := mnf (pol M a b) (M 8 a 1 + M 8 b 1).toNat
def T_X5_poseSums : Ct := fun as M P => match as with
  | [.inr (some (g, s)), .inr (some (ga, a)), .inr (some (gb, b))] => g = 5 ∧ s = 0 ∧ ga = 8 ∧ gb = 8 ∧ a < 8 ∧ b < 8 ∧ SI M ∧ CI M ∧ ∀ M' : Mm, keeps3 M M' → (∀ j : Nat, (j : Int) < M 8 a 1 + M 8 b 1 → M' 21 0 j = pol M a b j - lst M a b) → posed M' (M 8 a 1 + M 8 b 1) (M 8 a 1) (sm (M 27 a) (M 8 a 1).toNat) (chI (M 8 a 1 + M 8 b 1) (M 8 a 1)) 1 (M 8 a 1 * lst M a b) (M 8 a 1 + M 8 b 1) (M 8 a 1 * sm (pol M a b) (M 8 a 1 + M 8 b 1).toNat) → P none M'
  | _ => False
theorem pol_in {M : Mm} (hI : SI M) {a b : Nat} (ha : a < 8) (hb : b < 8) (j : Nat) (hj : (j : Int) < M 8 a 1 + M 8 b 1) : -500 ≤ pol M a b j ∧ pol M a b j ≤ 500 := by
  have ia := hI a ha
  have ib := hI b hb
  unfold pol
  split
  · exact ia.2 j (by assumption)
  · exact ib.2 _ (by omega)
theorem sm_abs {f : Nat → Int} {n : Nat} {c : Int} (hc : 0 ≤ c) (h : ∀ j, j < n → -c ≤ f j ∧ f j ≤ c) : -(n * c) ≤ sm f n ∧ sm f n ≤ n * c := by
  induction n with
  | zero => simp [sm]
  | succ n ih =>
    have h1 := ih fun j hj => h j (by omega)
    have h2 := h n (by omega)
    rw [sm_s]
    have : ((n + 1 : Nat) : Int) * c = n * c + c := by rw [Int.natCast_add, Int.add_mul]; simp
    omega
theorem k_X5_poseSums (l : Launch) : MetT l yX5_poseSums cX5_poseSums 5 none 2 T_X5_poseSums := by
  refine MetT.of (by decide +kernel) (fun as M P h => by unfold T_X5_poseSums at h; split at h <;> first | (simp [elo]; done) | exact h.elim) (fun x as M P h C hR => ?_)
  unfold T_X5_poseSums at h
  split at h
  rotate_left
  · exact h.elim
  rename_i g s ga a gb b
  obtain ⟨rfl, rfl, rfl, rfl, ha, hb, hI, hC, hP⟩ := h
  have ia := (hI a ha).1
  have ib := (hI b hb).1
  refine B_X5_poseSums_0 C (k_X5_poseChoice l) (by decide) (k_X4_least l) (by decide) _ _ _ ?_
  simp only [c_iadd, c_isub, c_imul, c_ladd, c_lsub, c_lmul, c_ineg, c_lneg, c_ic, c_lc, c_iload, c_lload, c_aload, c_istore, c_astore, c_lstore, c_iinc, c_dup, c_dup2, c_goto, c_i2l, c_l2i, c_idiv, c_ldiv, c_lrem, c_lshl, c_gi, c_gl, c_gr, c_pi, c_pz, c_pl, c_iald, c_lald, c_bald, c_aald, c_iast, c_last, c_bast, c_callV, c_callS, c_mmax, c_mmin, c_mabs, c_mmaxl, c_mabsl, c_iret, c_zret, c_lret, c_vret, c_tsw, c_lsw, c_icmp_eq, c_icmp_ne, c_icmp_lt, c_icmp_ge, c_icmp_gt, c_icmp_le, c_if_eq, c_if_ne, c_if_lt, c_if_ge, c_if_gt, c_if_le, c_lcmp_eq, c_lcmp_ne, c_lcmp_lt, c_lcmp_ge, c_lcmp_gt, c_lcmp_le, c_lraw_eq, c_lraw_lt, c_lraw_ge, c_lraw_gt, c_lraw_le, acat, scat, tswP, pops, st1, st2, klo, pad, elo, List.getElem?_cons_zero, List.getElem?_cons_succ, List.getElem?_nil, List.set_cons_zero, List.set_cons_succ, List.set_nil, Option.toList_some, Option.toList_none, List.cons_append, List.nil_append, List.length_cons, List.length_nil, stc_ap, stm_ap, false_and, and_false, and_self, true_and, and_true, Nat.reduceEqDiff, reduceIte, al_12, al_13, al_14, al_15, al_16, al_17, al_18, al_19, al_20, al_21, al_22, al_23, al_24, al_25, al_26, al_27, al_28, al_29, al_30, al_31, al_32, al_33, al_34, al_35, al_36, al_37, al_38, al_39, al_40, al_41, al_42, al_43, al_44, al_45, al_46, al_47, al_48, al_49, al_50, al_51, al_52, al_53, al_54, al_55, at_12, at_13, at_14, at_15, at_16, at_17, at_18, at_19, at_20, at_21, at_22, at_23, at_24, at_25, at_26, at_27, at_28, at_29, at_30, at_31, at_32, at_33, at_34, at_35, at_36, at_37, at_38, at_39, at_40, at_41, at_42, at_43, at_44, at_45, at_46, at_47, at_48, at_49, at_50, at_51, at_52, at_53, at_54, at_55, cn_0, cn_1, cn_2, cn_3, cn_4, cn_5, cn_6, cn_7, cn_8, cn_9, cn_10, cn_11, cn_12, cn_13, cn_14, cn_15, cn_16, cn_17, cn_18, cn_19, cn_20, cn_21, cn_22, cn_23, cn_24, cn_25, cn_26, cn_27, cn_28, cn_29, cn_30, cn_31, cn_32, cn_33, cn_34, cn_35, cn_36, cn_37, cn_38, cn_39, cn_40, cn_41, cn_42, cn_43, cn_44, cn_45, cn_46, cn_47, cn_48, cn_49, cn_50, cn_51, cn_52, cn_53, cn_54, cn_55, Nat.reduceAdd, Nat.reduceLT, Nat.reduceLeDiff, Nat.lt_add_one, Nat.zero_lt_succ, Nat.reduceSub, ite_true, ite_false, reduceCtorEq, forall_const, Nat.reduceSucc, Nat.zero_add, Nat.add_zero, Nat.le_refl, Nat.zero_le, Nat.reducePow, Int.reduceNeg, Nat.reduceMul, eq_self, Int.cast_ofNat_Int, Int.toNat_natCast, iR, lR, Int.reduceEq, Int.reduceLT, Int.reduceLE, Int.reduceNe, not_false_eq_true, not_true_eq_false, false_implies, true_implies, Int.reduceAdd, Int.reduceSub, Int.reduceMul, Int.reduceToNat, implies_true, or_true, true_or, or_false, false_or, T_X5_poseChoice, T_X4_least, ac_4, ac_20]
  have hpi := fun j hj => pol_in hI ha hb j hj
  have hmn := mnf_in (pol M a b) (M 8 a 1 + M 8 b 1).toNat (fun j hj => hpi j (by omega))
  refine ⟨ha, hb, hI, hC, by omega, hpi, ?_⟩
  show J x 17 [some (zr 5 0), some (zr 8 a), some (zr 8 b), some (zi (lst M a b)), some (zi 0)] [] (afterChoice M a b)
  refine loopU (M 8 a 1 + M 8 b 1) (fun i M' => (0 ≤ i ∧ i ≤ M 8 a 1 + M 8 b 1) ∧ M' = stc (afterChoice M a b) 21 0 (fun j => if (j : Int) < i then pol M a b j - lst M a b else afterChoice M a b 21 0 j)) (fun i M' => J x 17 [some (zr 5 0), some (zr 8 a), some (zr 8 b), some (zi (lst M a b)), some (zi i)] [] M') ?_ 0 _ ⟨by omega, ?_⟩
  rotate_left
  · rw [show (fun j : Nat => if (j : Int) < 0 then pol M a b j - lst M a b else afterChoice M a b 21 0 j) = afterChoice M a b 21 0 from funext fun j => if_neg (by omega), stc_id]
  rintro i M' ⟨hi, rfl⟩ ih
  refine B_X5_poseSums_17 C hR (k_X10_sumOf l) (by decide) (k_X5_measure l) (by decide) _ _ _ ?_
  simp only [c_iadd, c_isub, c_imul, c_ladd, c_lsub, c_lmul, c_ineg, c_lneg, c_ic, c_lc, c_iload, c_lload, c_aload, c_istore, c_astore, c_lstore, c_iinc, c_dup, c_dup2, c_goto, c_i2l, c_l2i, c_idiv, c_ldiv, c_lrem, c_lshl, c_gi, c_gl, c_gr, c_pi, c_pz, c_pl, c_iald, c_lald, c_bald, c_aald, c_iast, c_last, c_bast, c_callV, c_callS, c_mmax, c_mmin, c_mabs, c_mmaxl, c_mabsl, c_iret, c_zret, c_lret, c_vret, c_tsw, c_lsw, c_icmp_eq, c_icmp_ne, c_icmp_lt, c_icmp_ge, c_icmp_gt, c_icmp_le, c_if_eq, c_if_ne, c_if_lt, c_if_ge, c_if_gt, c_if_le, c_lcmp_eq, c_lcmp_ne, c_lcmp_lt, c_lcmp_ge, c_lcmp_gt, c_lcmp_le, c_lraw_eq, c_lraw_lt, c_lraw_ge, c_lraw_gt, c_lraw_le, acat, scat, tswP, pops, st1, st2, klo, pad, elo, List.getElem?_cons_zero, List.getElem?_cons_succ, List.getElem?_nil, List.set_cons_zero, List.set_cons_succ, List.set_nil, Option.toList_some, Option.toList_none, List.cons_append, List.nil_append, List.length_cons, List.length_nil, stc_ap, stm_ap, false_and, and_false, and_self, true_and, and_true, Nat.reduceEqDiff, reduceIte, al_12, al_13, al_14, al_15, al_16, al_17, al_18, al_19, al_20, al_21, al_22, al_23, al_24, al_25, al_26, al_27, al_28, al_29, al_30, al_31, al_32, al_33, al_34, al_35, al_36, al_37, al_38, al_39, al_40, al_41, al_42, al_43, al_44, al_45, al_46, al_47, al_48, al_49, al_50, al_51, al_52, al_53, al_54, al_55, at_12, at_13, at_14, at_15, at_16, at_17, at_18, at_19, at_20, at_21, at_22, at_23, at_24, at_25, at_26, at_27, at_28, at_29, at_30, at_31, at_32, at_33, at_34, at_35, at_36, at_37, at_38, at_39, at_40, at_41, at_42, at_43, at_44, at_45, at_46, at_47, at_48, at_49, at_50, at_51, at_52, at_53, at_54, at_55, cn_0, cn_1, cn_2, cn_3, cn_4, cn_5, cn_6, cn_7, cn_8, cn_9, cn_10, cn_11, cn_12, cn_13, cn_14, cn_15, cn_16, cn_17, cn_18, cn_19, cn_20, cn_21, cn_22, cn_23, cn_24, cn_25, cn_26, cn_27, cn_28, cn_29, cn_30, cn_31, cn_32, cn_33, cn_34, cn_35, cn_36, cn_37, cn_38, cn_39, cn_40, cn_41, cn_42, cn_43, cn_44, cn_45, cn_46, cn_47, cn_48, cn_49, cn_50, cn_51, cn_52, cn_53, cn_54, cn_55, Nat.reduceAdd, Nat.reduceLT, Nat.reduceLeDiff, Nat.lt_add_one, Nat.zero_lt_succ, Nat.reduceSub, ite_true, ite_false, reduceCtorEq, forall_const, Nat.reduceSucc, Nat.zero_add, Nat.add_zero, Nat.le_refl, Nat.zero_le, Nat.reducePow, Int.reduceNeg, Nat.reduceMul, eq_self, Int.cast_ofNat_Int, Int.toNat_natCast, iR, lR, Int.reduceEq, Int.reduceLT, Int.reduceLE, Int.reduceNe, not_false_eq_true, not_true_eq_false, false_implies, true_implies, Int.reduceAdd, Int.reduceSub, Int.reduceMul, Int.reduceToNat, implies_true, or_true, true_or, or_false, false_or, T_X10_sumOf, T_X5_measure, stm_ne, stc_ne, not_false_eq_true, ac_4, ac_20, ac_56, ac_57, ac_8, ac_27, ha, hb]
  have hs1 := sm_abs (f := M 27 a) (n := (M 8 a 1).toNat) (c := 500) (by decide) (fun j hj => (hI a ha).2 j (by omega))
  have hs2 := sm_abs (f := pol M a b) (n := (M 8 a 1 + M 8 b 1).toNat) (c := 500) (by decide) (fun j hj => hpi j (by omega))
  have hl2 : -500 ≤ lst M a b ∧ lst M a b ≤ 500 := ⟨hmn.1, hmn.2.1⟩
  have m1 : -(20 * 500) ≤ M 8 a 1 * lst M a b ∧ M 8 a 1 * lst M a b ≤ 20 * 500 := by
    have u1 : M 8 a 1 * lst M a b ≤ M 8 a 1 * 500 := Int.mul_le_mul_of_nonneg_left (by omega) (by omega)
    have u2 : M 8 a 1 * (-500) ≤ M 8 a 1 * lst M a b := Int.mul_le_mul_of_nonneg_left (by omega) (by omega)
    omega
  have m2 : -400000 ≤ M 8 a 1 * sm (pol M a b) (M 8 a 1 + M 8 b 1).toNat ∧ M 8 a 1 * sm (pol M a b) (M 8 a 1 + M 8 b 1).toNat ≤ 400000 := by
    have u1 : M 8 a 1 * sm (pol M a b) (M 8 a 1 + M 8 b 1).toNat ≤ M 8 a 1 * 20000 := Int.mul_le_mul_of_nonneg_left (by omega) (by omega)
    have u2 : M 8 a 1 * (-20000) ≤ M 8 a 1 * sm (pol M a b) (M 8 a 1 + M 8 b 1).toNat := Int.mul_le_mul_of_nonneg_left (by omega) (by omega)
    omega
  refine ⟨by omega, by omega, fun q => ?_, fun q => ⟨by omega, by omega, ih (by omega) _ ⟨by omega, ?_⟩⟩⟩
  · refine ⟨by omega, by omega, by omega, by omega, by omega, by omega, ?_⟩
    refine hP _ ⟨fun g' a4 a5 a20 a21 => ?_, rfl⟩ (fun j hj => ?_) ⟨rfl, rfl, rfl, rfl, rfl, rfl, rfl, rfl⟩
    · rw [stm_ne _ _ _ _ _ a5, stm_ne _ _ _ _ _ a5, stm_ne _ _ _ _ _ a5, stm_ne _ _ _ _ _ a5, stm_ne _ _ _ _ _ a5, stc_ne _ _ _ _ a21, ac_o M a b a4 a5 a20]
    · show (if (j : Int) < i then _ else _) = _
      rw [if_pos (by omega)]
  · rw [stm_on]
    congr 1
    funext j
    by_cases e : j = i.toNat
    · rw [if_pos e, if_pos (by omega), e]
    · rw [if_neg e]
      by_cases d : (j : Int) < i
      · rw [if_pos d, if_pos (by omega)]
      · rw [if_neg d, if_neg (by omega)]
