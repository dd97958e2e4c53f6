/-! CloudBench$Question: TURNS -/
def dg (ds : List Int) (j : Nat) : Int := ds.getD j 0
theorem PK_at {M : Mm} {ds : List Int} {n : Int} (h : PK M ds n) {q : Nat} (hq : q < ds.length) : M 18 0 q = dg ds q ∧ M 19 0 q = zab (dg ds q) := by
  have e : ds[q]? = some (dg ds q) := by
    unfold dg
    rw [List.getD_eq_getElem?_getD, List.getElem?_eq_getElem hq]
    rfl
  exact h.2.2 q _ e
theorem dg_in {M : Mm} (hI : SI M) {a b : Nat} (ha : a < 8) (hb : b < 8) (hab : M 8 a 1 = M 8 b 1) {q : Nat} (hq : q < (nzl (dif M a b) (M 8 a 1).toNat).length) : -1000 ≤ dg (nzl (dif M a b) (M 8 a 1).toNat) q ∧ dg (nzl (dif M a b) (M 8 a 1).toNat) q ≤ 1000 ∧ ¬ dg (nzl (dif M a b) (M 8 a 1).toNat) q = 0 := by
  have hm : dg (nzl (dif M a b) (M 8 a 1).toNat) q ∈ nzl (dif M a b) (M 8 a 1).toNat := by
    unfold dg
    rw [List.getD_eq_getElem?_getD, List.getElem?_eq_getElem hq]
    exact List.getElem_mem hq
  obtain ⟨h1, j, h2, h3⟩ := nzl_in hm
  have ia := (hI a ha).1
  have da := (hI a ha).2 j (by omega)
  have db := (hI b hb).2 j (by omega)
  have h4 : dif M a b j = M 27 a j - M 27 b j := rfl
  refine ⟨?_, ?_, h1⟩
  · rw [h3, h4]; omega
  · rw [h3, h4]; omega
/-- what a pose of tests 3 and 4 may change -/
def keeps5 (M M' : Mm) : Prop := (∀ g' : Nat, ¬ g' = 3 → ¬ g' = 5 → ¬ g' = 18 → ¬ g' = 19 → ¬ g' = 21 → M' g' = M g') ∧ M' 5 0 5 = M 5 0 5
def T_X5_poseTurns : Ct := fun as M P => match as with
  | [.inr (some (g, s)), .inr (some (ga, a)), .inr (some (gb, b))] => g = 5 ∧ s = 0 ∧ ga = 8 ∧ gb = 8 ∧ a < 8 ∧ b < 8 ∧ SI M ∧ M 8 a 1 = M 8 b 1 ∧ ∀ (M' : Mm) (ds : List Int), ds = nzl (dif M a b) (M 8 a 1).toNat → keeps5 M M' → (∀ j : Nat, j < ds.length → M' 21 0 j = zab (dg ds j)) → posed M' ds.length 0 (sm (dg ds) ds.length) (2 ^ ds.length) 2 (-(sm (fun j => zab (dg ds j)) ds.length)) 1 0 → P none M'
  | _ => False
theorem zab_in {z c : Int} (h : -c ≤ z ∧ z ≤ c) : 0 ≤ zab z ∧ zab z ≤ c := by unfold zab; split <;> omega
theorem k_X5_poseTurns (l : Launch) : MetT l yX5_poseTurns cX5_poseTurns 4 none 3 T_X5_poseTurns := by
  refine MetT.of (by decide +kernel) (fun as M P h => by unfold T_X5_poseTurns at h; split at h <;> first | (simp [elo]; done) | exact h.elim) (fun x as M P h C hR => ?_)
  unfold T_X5_poseTurns at h
  split at h
  rotate_left
  · exact h.elim
  rename_i g s ga a gb b
  obtain ⟨rfl, rfl, rfl, rfl, ha, hb, hI, hab, hP⟩ := h
  have ia := (hI a ha).1
  refine B_X5_poseTurns_0 C (k_X5_posePairs l) (by decide) _ _ _ ?_
  simp only [c_iadd, c_isub, c_imul, c_ladd, c_lsub, c_lmul, c_ineg, c_lneg, c_ic, c_lc, c_iload, c_lload, c_aload, c_istore, c_astore, c_lstore, c_iinc, c_dup, c_dup2, c_goto, c_i2l, c_l2i, c_idiv, c_ldiv, c_lrem, c_lshl, c_gi, c_gl, c_gr, c_pi, c_pz, c_pl, c_iald, c_lald, c_bald, c_aald, c_iast, c_last, c_bast, c_callV, c_callS, c_mmax, c_mmin, c_mabs, c_mmaxl, c_mabsl, c_iret, c_zret, c_lret, c_vret, c_tsw, c_lsw, c_icmp_eq, c_icmp_ne, c_icmp_lt, c_icmp_ge, c_icmp_gt, c_icmp_le, c_if_eq, c_if_ne, c_if_lt, c_if_ge, c_if_gt, c_if_le, c_lcmp_eq, c_lcmp_ne, c_lcmp_lt, c_lcmp_ge, c_lcmp_gt, c_lcmp_le, c_lraw_eq, c_lraw_lt, c_lraw_ge, c_lraw_gt, c_lraw_le, acat, scat, tswP, pops, st1, st2, klo, pad, elo, List.getElem?_cons_zero, List.getElem?_cons_succ, List.getElem?_nil, List.set_cons_zero, List.set_cons_succ, List.set_nil, Option.toList_some, Option.toList_none, List.cons_append, List.nil_append, List.length_cons, List.length_nil, stc_ap, stm_ap, false_and, and_false, and_self, true_and, and_true, Nat.reduceEqDiff, reduceIte, al_12, al_13, al_14, al_15, al_16, al_17, al_18, al_19, al_20, al_21, al_22, al_23, al_24, al_25, al_26, al_27, al_28, al_29, al_30, al_31, al_32, al_33, al_34, al_35, al_36, al_37, al_38, al_39, al_40, al_41, al_42, al_43, al_44, al_45, al_46, al_47, al_48, al_49, al_50, al_51, al_52, al_53, al_54, al_55, at_12, at_13, at_14, at_15, at_16, at_17, at_18, at_19, at_20, at_21, at_22, at_23, at_24, at_25, at_26, at_27, at_28, at_29, at_30, at_31, at_32, at_33, at_34, at_35, at_36, at_37, at_38, at_39, at_40, at_41, at_42, at_43, at_44, at_45, at_46, at_47, at_48, at_49, at_50, at_51, at_52, at_53, at_54, at_55, cn_0, cn_1, cn_2, cn_3, cn_4, cn_5, cn_6, cn_7, cn_8, cn_9, cn_10, cn_11, cn_12, cn_13, cn_14, cn_15, cn_16, cn_17, cn_18, cn_19, cn_20, cn_21, cn_22, cn_23, cn_24, cn_25, cn_26, cn_27, cn_28, cn_29, cn_30, cn_31, cn_32, cn_33, cn_34, cn_35, cn_36, cn_37, cn_38, cn_39, cn_40, cn_41, cn_42, cn_43, cn_44, cn_45, cn_46, cn_47, cn_48, cn_49, cn_50, cn_51, cn_52, cn_53, cn_54, cn_55, Nat.reduceAdd, Nat.reduceLT, Nat.reduceLeDiff, Nat.lt_add_one, Nat.zero_lt_succ, Nat.reduceSub, ite_true, ite_false, reduceCtorEq, forall_const, Nat.reduceSucc, Nat.zero_add, Nat.add_zero, Nat.le_refl, Nat.zero_le, Nat.reducePow, Int.reduceNeg, Nat.reduceMul, eq_self, Int.cast_ofNat_Int, Int.toNat_natCast, iR, lR, Int.reduceEq, Int.reduceLT, Int.reduceLE, Int.reduceNe, not_false_eq_true, not_true_eq_false, false_implies, true_implies, Int.reduceAdd, Int.reduceSub, Int.reduceMul, Int.reduceToNat, implies_true, or_true, true_or, or_false, false_or, T_X5_posePairs]
  refine ⟨ha, hb, hI, hab, fun M1 hf hpk => ?_⟩
  have hlen := nzl_len (dif M a b) (M 8 a 1).toNat
  have hdi := fun q hq => dg_in hI ha hb hab (q := q) hq
  have hP := fun M' => hP M' _ rfl
  generalize nzl (dif M a b) (M 8 a 1).toNat = ds at hpk hlen hdi hP ⊢
  have hpa := fun q hq => PK_at hpk (q := q) hq
  have e6 : (stm (stm (stm M1 5 0 6 ds.length) 5 0 7 0) 5 0 9 (2 ^ ds.length)) 5 0 6 = ds.length := rfl
  refine loopU ds.length (fun i M' => (0 ≤ i ∧ i ≤ ds.length) ∧ M' = stc (stm (stm (stm M1 5 0 6 ds.length) 5 0 7 0) 5 0 9 (2 ^ ds.length)) 21 0 (fun j => if (j : Int) < i then zab (dg ds j) else M1 21 0 j)) (fun i M' => J x 8 [some (zr 5 0), some (zr 8 a), some (zr 8 b), some (zi i)] [] M') ?_ 0 _ ⟨by omega, ?_⟩
  rotate_left
  · refine (stc_id _ 21 0).symm.trans ?_
    congr 1
  rintro i M' ⟨hi, rfl⟩ ih
  refine B_X5_poseTurns_8 C hR (k_X10_sumOf l) (by decide) (k_X5_measure l) (by decide) _ _ _ ?_
  simp only [c_iadd, c_isub, c_imul, c_ladd, c_lsub, c_lmul, c_ineg, c_lneg, c_ic, c_lc, c_iload, c_lload, c_aload, c_istore, c_astore, c_lstore, c_iinc, c_dup, c_dup2, c_goto, c_i2l, c_l2i, c_idiv, c_ldiv, c_lrem, c_lshl, c_gi, c_gl, c_gr, c_pi, c_pz, c_pl, c_iald, c_lald, c_bald, c_aald, c_iast, c_last, c_bast, c_callV, c_callS, c_mmax, c_mmin, c_mabs, c_mmaxl, c_mabsl, c_iret, c_zret, c_lret, c_vret, c_tsw, c_lsw, c_icmp_eq, c_icmp_ne, c_icmp_lt, c_icmp_ge, c_icmp_gt, c_icmp_le, c_if_eq, c_if_ne, c_if_lt, c_if_ge, c_if_gt, c_if_le, c_lcmp_eq, c_lcmp_ne, c_lcmp_lt, c_lcmp_ge, c_lcmp_gt, c_lcmp_le, c_lraw_eq, c_lraw_lt, c_lraw_ge, c_lraw_gt, c_lraw_le, acat, scat, tswP, pops, st1, st2, klo, pad, elo, List.getElem?_cons_zero, List.getElem?_cons_succ, List.getElem?_nil, List.set_cons_zero, List.set_cons_succ, List.set_nil, Option.toList_some, Option.toList_none, List.cons_append, List.nil_append, List.length_cons, List.length_nil, stc_ap, stm_ap, false_and, and_false, and_self, true_and, and_true, Nat.reduceEqDiff, reduceIte, al_12, al_13, al_14, al_15, al_16, al_17, al_18, al_19, al_20, al_21, al_22, al_23, al_24, al_25, al_26, al_27, al_28, al_29, al_30, al_31, al_32, al_33, al_34, al_35, al_36, al_37, al_38, al_39, al_40, al_41, al_42, al_43, al_44, al_45, al_46, al_47, al_48, al_49, al_50, al_51, al_52, al_53, al_54, al_55, at_12, at_13, at_14, at_15, at_16, at_17, at_18, at_19, at_20, at_21, at_22, at_23, at_24, at_25, at_26, at_27, at_28, at_29, at_30, at_31, at_32, at_33, at_34, at_35, at_36, at_37, at_38, at_39, at_40, at_41, at_42, at_43, at_44, at_45, at_46, at_47, at_48, at_49, at_50, at_51, at_52, at_53, at_54, at_55, cn_0, cn_1, cn_2, cn_3, cn_4, cn_5, cn_6, cn_7, cn_8, cn_9, cn_10, cn_11, cn_12, cn_13, cn_14, cn_15, cn_16, cn_17, cn_18, cn_19, cn_20, cn_21, cn_22, cn_23, cn_24, cn_25, cn_26, cn_27, cn_28, cn_29, cn_30, cn_31, cn_32, cn_33, cn_34, cn_35, cn_36, cn_37, cn_38, cn_39, cn_40, cn_41, cn_42, cn_43, cn_44, cn_45, cn_46, cn_47, cn_48, cn_49, cn_50, cn_51, cn_52, cn_53, cn_54, cn_55, Nat.reduceAdd, Nat.reduceLT, Nat.reduceLeDiff, Nat.lt_add_one, Nat.zero_lt_succ, Nat.reduceSub, ite_true, ite_false, reduceCtorEq, forall_const, Nat.reduceSucc, Nat.zero_add, Nat.add_zero, Nat.le_refl, Nat.zero_le, Nat.reducePow, Int.reduceNeg, Nat.reduceMul, eq_self, Int.cast_ofNat_Int, Int.toNat_natCast, iR, lR, Int.reduceEq, Int.reduceLT, Int.reduceLE, Int.reduceNe, not_false_eq_true, not_true_eq_false, false_implies, true_implies, Int.reduceAdd, Int.reduceSub, Int.reduceMul, Int.reduceToNat, implies_true, or_true, true_or, or_false, false_or, T_X10_sumOf, T_X5_measure, stm_ne, stc_ne, not_false_eq_true, ha, hb]
  have hs18 : sm (M1 18 0) ds.length = sm (dg ds) ds.length := sm_cg fun q hq => (hpa q hq).1
  have hb1 := sm_abs (f := dg ds) (n := ds.length) (c := 1000) (by decide) (fun q hq => ⟨(hdi q hq).1, (hdi q hq).2.1⟩)
  have hb2 := sm_in (f := fun j => zab (dg ds j)) (n := ds.length) (c := 1000) (by decide) (fun q hq => zab_in ⟨(hdi q hq).1, (hdi q hq).2.1⟩)
  refine ⟨by omega, by omega, fun q => ?_, fun q => ⟨by omega, by omega, ih (by omega) _ ⟨by omega, ?_⟩⟩⟩
  · have hs21 : sm (fun j : Nat => if (j : Int) < i then zab (dg ds j) else M1 21 0 j) ds.length = sm (fun j => zab (dg ds j)) ds.length := sm_cg fun q hq => by
      show (if (q : Int) < i then _ else _) = _
      rw [if_pos (by omega)]
    rw [hs18, hs21]
    refine ⟨by omega, by omega, by omega, by omega, hP _ ⟨fun g' a3 a5 a18 a19 a21 => ?_, ?_⟩ (fun j hj => ?_) ⟨rfl, rfl, rfl, rfl, rfl, rfl, rfl, rfl⟩⟩
    · rw [stm_ne _ _ _ _ _ a5, stm_ne _ _ _ _ _ a5, stm_ne _ _ _ _ _ a5, stm_ne _ _ _ _ _ a5, stm_ne _ _ _ _ _ a5, stc_ne _ _ _ _ a21, stm_ne _ _ _ _ _ a5, stm_ne _ _ _ _ _ a5, stm_ne _ _ _ _ _ a5]
      exact hf g' a3 a18 a19
    · show M1 5 0 5 = M 5 0 5
      rw [hf 5 (by decide) (by decide) (by decide)]
    · show (if (j : Int) < i then _ else _) = _
      rw [if_pos (by omega)]
  · rw [stm_on]
    congr 1
    funext j
    by_cases e : j = i.toNat
    · rw [if_pos e, if_pos (by omega), e, (hpa i.toNat (by omega)).2]
    · rw [if_neg e]
      by_cases d : (j : Int) < i
      · rw [if_pos d, if_pos (by omega)]
      · rw [if_neg d, if_neg (by omega)]
