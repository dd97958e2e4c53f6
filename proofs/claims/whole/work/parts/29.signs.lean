/-! CloudBench$Question: SIGNS -/
theorem drk_cg {f g : Nat → Int} {n : Nat} (h : ∀ j, j < n → f j = g j) (v : Int) : drk f n v = drk g n v := by
  have : ∀ m, m ≤ n → ltc f v m = ltc g v m ∧ eqc f v m = eqc g v m := by
    intro m
    induction m with
    | zero => intro _; exact ⟨rfl, rfl⟩
    | succ m ih =>
      intro hm
      obtain ⟨h1, h2⟩ := ih (by omega)
      simp only [ltc, eqc, h1, h2, h m (by omega)]
      exact ⟨trivial, trivial⟩
  unfold drk
  rw [(this n (Nat.le_refl n)).1, (this n (Nat.le_refl n)).2]
/-- the doubled ranks of the sizes -/
def srk (ds : List Int) (j : Nat) : Int := drk (fun q => zab (dg ds q)) ds.length (zab (dg ds j))
def ssm (ds : List Int) : Nat → Int
  | 0 => 0
  | n + 1 => ssm ds n + if 0 < dg ds n then srk ds n else 0
theorem srk_in (ds : List Int) (j : Nat) : 1 ≤ srk ds j ∧ srk ds j ≤ 2 * ds.length + 1 := drk_in _ _ _
theorem ssm_in (ds : List Int) (n : Nat) : 0 ≤ ssm ds n ∧ ssm ds n ≤ n * (2 * ds.length + 1) := by
  induction n with
  | zero => simp [ssm]
  | succ n ih =>
    have := srk_in ds n
    have e : ((n + 1 : Nat) : Int) * (2 * ds.length + 1) = n * (2 * ds.length + 1) + (2 * ds.length + 1) := by rw [Int.natCast_add, Int.add_mul]; simp
    simp only [ssm]
    split <;> omega
def T_X5_poseSigns : Ct := fun as M P => match as with
  | [.inr (some (g, s)), .inr (some (ga, a)), .inr (some (gb, b))] => g = 5 ∧ s = 0 ∧ ga = 8 ∧ gb = 8 ∧ a < 8 ∧ b < 8 ∧ SI M ∧ M 8 a 1 = M 8 b 1 ∧ ∀ (M' : Mm) (ds : List Int), ds = nzl (dif M a b) (M 8 a 1).toNat → keeps5 M M' → (∀ j : Nat, j < ds.length → M' 21 0 j = srk ds j) → posed M' ds.length 0 (ssm ds ds.length) (2 ^ ds.length) 1 0 2 (sm (srk ds) ds.length) → P none M'
  | _ => False
def sig_st (M1 : Mm) (ds : List Int) (i : Int) : Mm := stm (stc (stm (stm (stm M1 5 0 6 ds.length) 5 0 7 0) 5 0 9 (2 ^ ds.length)) 21 0 (fun j => if (j : Int) < i then srk ds j else M1 21 0 j)) 5 0 8 (ssm ds i.toNat)
theorem k_X5_poseSigns (l : Launch) : MetT l yX5_poseSigns cX5_poseSigns 4 none 3 T_X5_poseSigns := by
  refine MetT.of (by decide +kernel) (fun as M P h => by unfold T_X5_poseSigns at h; split at h <;> first | (simp [elo]; done) | exact h.elim) (fun x as M P h C hR => ?_)
  unfold T_X5_poseSigns at h
  split at h
  rotate_left
  · exact h.elim
  rename_i g s ga a gb b
  obtain ⟨rfl, rfl, rfl, rfl, ha, hb, hI, hab, hP⟩ := h
  have ia := (hI a ha).1
  refine B_X5_poseSigns_0 C (k_X5_posePairs l) (by decide) _ _ _ ?_
  simp only [c_iadd, c_isub, c_imul, c_ladd, c_lsub, c_lmul, c_ineg, c_lneg, c_ic, c_lc, c_iload, c_lload, c_aload, c_istore, c_astore, c_lstore, c_iinc, c_dup, c_dup2, c_goto, c_i2l, c_l2i, c_idiv, c_ldiv, c_lrem, c_lshl, c_gi, c_gl, c_gr, c_pi, c_pz, c_pl, c_iald, c_lald, c_bald, c_aald, c_iast, c_last, c_bast, c_callV, c_callS, c_mmax, c_mmin, c_mabs, c_mmaxl, c_mabsl, c_iret, c_zret, c_lret, c_vret, c_tsw, c_lsw, c_icmp_eq, c_icmp_ne, c_icmp_lt, c_icmp_ge, c_icmp_gt, c_icmp_le, c_if_eq, c_if_ne, c_if_lt, c_if_ge, c_if_gt, c_if_le, c_lcmp_eq, c_lcmp_ne, c_lcmp_lt, c_lcmp_ge, c_lcmp_gt, c_lcmp_le, c_lraw_eq, c_lraw_lt, c_lraw_ge, c_lraw_gt, c_lraw_le, acat, scat, tswP, pops, st1, st2, klo, pad, elo, List.getElem?_cons_zero, List.getElem?_cons_succ, List.getElem?_nil, List.set_cons_zero, List.set_cons_succ, List.set_nil, Option.toList_some, Option.toList_none, List.cons_append, List.nil_append, List.length_cons, List.length_nil, stc_ap, stm_ap, false_and, and_false, and_self, true_and, and_true, Nat.reduceEqDiff, reduceIte, al_12, al_13, al_14, al_15, al_16, al_17, al_18, al_19, al_20, al_21, al_22, al_23, al_24, al_25, al_26, al_27, al_28, al_29, al_30, al_31, al_32, al_33, al_34, al_35, al_36, al_37, al_38, al_39, al_40, al_41, al_42, al_43, al_44, al_45, al_46, al_47, al_48, al_49, al_50, al_51, al_52, al_53, al_54, al_55, at_12, at_13, at_14, at_15, at_16, at_17, at_18, at_19, at_20, at_21, at_22, at_23, at_24, at_25, at_26, at_27, at_28, at_29, at_30, at_31, at_32, at_33, at_34, at_35, at_36, at_37, at_38, at_39, at_40, at_41, at_42, at_43, at_44, at_45, at_46, at_47, at_48, at_49, at_50, at_51, at_52, at_53, at_54, at_55, cn_0, cn_1, cn_2, cn_3, cn_4, cn_5, cn_6, cn_7, cn_8, cn_9, cn_10, cn_11, cn_12, cn_13, cn_14, cn_15, cn_16, cn_17, cn_18, cn_19, cn_20, cn_21, cn_22, cn_23, cn_24, cn_25, cn_26, cn_27, cn_28, cn_29, cn_30, cn_31, cn_32, cn_33, cn_34, cn_35, cn_36, cn_37, cn_38, cn_39, cn_40, cn_41, cn_42, cn_43, cn_44, cn_45, cn_46, cn_47, cn_48, cn_49, cn_50, cn_51, cn_52, cn_53, cn_54, cn_55, Nat.reduceAdd, Nat.reduceLT, Nat.reduceLeDiff, Nat.lt_add_one, Nat.zero_lt_succ, Nat.reduceSub, ite_true, ite_false, reduceCtorEq, forall_const, Nat.reduceSucc, Nat.zero_add, Nat.add_zero, Nat.le_refl, Nat.zero_le, Nat.reducePow, Int.reduceNeg, Nat.reduceMul, eq_self, Int.cast_ofNat_Int, Int.toNat_natCast, iR, lR, Int.reduceEq, Int.reduceLT, Int.reduceLE, Int.reduceNe, not_false_eq_true, not_true_eq_false, false_implies, true_implies, Int.reduceAdd, Int.reduceSub, Int.reduceMul, Int.reduceToNat, implies_true, or_true, true_or, or_false, false_or, T_X5_posePairs]
  refine ⟨ha, hb, hI, hab, fun M1 hf hpk => ?_⟩
  have hlen := nzl_len (dif M a b) (M 8 a 1).toNat
  have hdi := fun q hq => dg_in hI ha hb hab (q := q) hq
  have hP := fun M' => hP M' _ rfl
  generalize nzl (dif M a b) (M 8 a 1).toNat = ds at hpk hlen hdi hP ⊢
  have hpa := fun q hq => PK_at hpk (q := q) hq
  refine loopU ds.length (fun i M' => (0 ≤ i ∧ i ≤ ds.length) ∧ M' = sig_st M1 ds i) (fun i M' => J x 13 [some (zr 5 0), some (zr 8 a), some (zr 8 b), some (zi i)] [] M') ?_ 0 _ ⟨by omega, ?_⟩
  rotate_left
  · unfold sig_st
    congr 1
    refine (stc_id _ 21 0).symm.trans ?_
    congr 1
  rintro i M' ⟨hi, rfl⟩ ih
  refine B_X5_poseSigns_13 C hR (k_X10_sumOf l) (by decide) (k_X5_measure l) (by decide) (k_X10_doubledRank l) (by decide) _ _ _ ?_
  simp only [c_iadd, c_isub, c_imul, c_ladd, c_lsub, c_lmul, c_ineg, c_lneg, c_ic, c_lc, c_iload, c_lload, c_aload, c_istore, c_astore, c_lstore, c_iinc, c_dup, c_dup2, c_goto, c_i2l, c_l2i, c_idiv, c_ldiv, c_lrem, c_lshl, c_gi, c_gl, c_gr, c_pi, c_pz, c_pl, c_iald, c_lald, c_bald, c_aald, c_iast, c_last, c_bast, c_callV, c_callS, c_mmax, c_mmin, c_mabs, c_mmaxl, c_mabsl, c_iret, c_zret, c_lret, c_vret, c_tsw, c_lsw, c_icmp_eq, c_icmp_ne, c_icmp_lt, c_icmp_ge, c_icmp_gt, c_icmp_le, c_if_eq, c_if_ne, c_if_lt, c_if_ge, c_if_gt, c_if_le, c_lcmp_eq, c_lcmp_ne, c_lcmp_lt, c_lcmp_ge, c_lcmp_gt, c_lcmp_le, c_lraw_eq, c_lraw_lt, c_lraw_ge, c_lraw_gt, c_lraw_le, acat, scat, tswP, pops, st1, st2, klo, pad, elo, List.getElem?_cons_zero, List.getElem?_cons_succ, List.getElem?_nil, List.set_cons_zero, List.set_cons_succ, List.set_nil, Option.toList_some, Option.toList_none, List.cons_append, List.nil_append, List.length_cons, List.length_nil, stc_ap, stm_ap, false_and, and_false, and_self, true_and, and_true, Nat.reduceEqDiff, reduceIte, al_12, al_13, al_14, al_15, al_16, al_17, al_18, al_19, al_20, al_21, al_22, al_23, al_24, al_25, al_26, al_27, al_28, al_29, al_30, al_31, al_32, al_33, al_34, al_35, al_36, al_37, al_38, al_39, al_40, al_41, al_42, al_43, al_44, al_45, al_46, al_47, al_48, al_49, al_50, al_51, al_52, al_53, al_54, al_55, at_12, at_13, at_14, at_15, at_16, at_17, at_18, at_19, at_20, at_21, at_22, at_23, at_24, at_25, at_26, at_27, at_28, at_29, at_30, at_31, at_32, at_33, at_34, at_35, at_36, at_37, at_38, at_39, at_40, at_41, at_42, at_43, at_44, at_45, at_46, at_47, at_48, at_49, at_50, at_51, at_52, at_53, at_54, at_55, cn_0, cn_1, cn_2, cn_3, cn_4, cn_5, cn_6, cn_7, cn_8, cn_9, cn_10, cn_11, cn_12, cn_13, cn_14, cn_15, cn_16, cn_17, cn_18, cn_19, cn_20, cn_21, cn_22, cn_23, cn_24, cn_25, cn_26, cn_27, cn_28, cn_29, cn_30, cn_31, cn_32, cn_33, cn_34, cn_35, cn_36, cn_37, cn_38, cn_39, cn_40, cn_41, cn_42, cn_43, cn_44, cn_45, cn_46, cn_47, cn_48, cn_49, cn_50, cn_51, cn_52, cn_53, cn_54, cn_55, Nat.reduceAdd, Nat.reduceLT, Nat.reduceLeDiff, Nat.lt_add_one, Nat.zero_lt_succ, Nat.reduceSub, ite_true, ite_false, reduceCtorEq, forall_const, Nat.reduceSucc, Nat.zero_add, Nat.add_zero, Nat.le_refl, Nat.zero_le, Nat.reducePow, Int.reduceNeg, Nat.reduceMul, eq_self, Int.cast_ofNat_Int, Int.toNat_natCast, iR, lR, Int.reduceEq, Int.reduceLT, Int.reduceLE, Int.reduceNe, not_false_eq_true, not_true_eq_false, false_implies, true_implies, Int.reduceAdd, Int.reduceSub, Int.reduceMul, Int.reduceToNat, implies_true, or_true, true_or, or_false, false_or, T_X10_sumOf, T_X5_measure, T_X10_doubledRank, sig_st, stm_ne, stc_ne, not_false_eq_true, ha, hb]
  have hsr : i < ds.length → drk (M1 19 0) ds.length (M1 19 0 i.toNat) = srk ds i.toNat := fun _ => by
    rw [(hpa i.toNat (by omega)).2]
    exact drk_cg (fun j hj => (hpa j hj).2) _
  have hsg : i < ds.length → ssm ds (i + 1).toNat = ssm ds i.toNat + if 0 < dg ds i.toNat then srk ds i.toNat else 0 := fun _ => by
    rw [show (i + 1).toNat = i.toNat + 1 by omega]
    rfl
  have h70 : ∀ M2 : Mm, i < ds.length → M2 = sig_st M1 ds (i + 1) → J x 70 [some (zr 5 0), some (zr 8 a), some (zr 8 b), some (zi i)] [] M2 := by
    intro M2 h1 h2
    refine B_X5_poseSigns_70 C _ _ _ ?_
    simp only [c_iadd, c_isub, c_imul, c_ladd, c_lsub, c_lmul, c_ineg, c_lneg, c_ic, c_lc, c_iload, c_lload, c_aload, c_istore, c_astore, c_lstore, c_iinc, c_dup, c_dup2, c_goto, c_i2l, c_l2i, c_idiv, c_ldiv, c_lrem, c_lshl, c_gi, c_gl, c_gr, c_pi, c_pz, c_pl, c_iald, c_lald, c_bald, c_aald, c_iast, c_last, c_bast, c_callV, c_callS, c_mmax, c_mmin, c_mabs, c_mmaxl, c_mabsl, c_iret, c_zret, c_lret, c_vret, c_tsw, c_lsw, c_icmp_eq, c_icmp_ne, c_icmp_lt, c_icmp_ge, c_icmp_gt, c_icmp_le, c_if_eq, c_if_ne, c_if_lt, c_if_ge, c_if_gt, c_if_le, c_lcmp_eq, c_lcmp_ne, c_lcmp_lt, c_lcmp_ge, c_lcmp_gt, c_lcmp_le, c_lraw_eq, c_lraw_lt, c_lraw_ge, c_lraw_gt, c_lraw_le, acat, scat, tswP, pops, st1, st2, klo, pad, elo, List.getElem?_cons_zero, List.getElem?_cons_succ, List.getElem?_nil, List.set_cons_zero, List.set_cons_succ, List.set_nil, Option.toList_some, Option.toList_none, List.cons_append, List.nil_append, List.length_cons, List.length_nil, stc_ap, stm_ap, false_and, and_false, and_self, true_and, and_true, Nat.reduceEqDiff, reduceIte, al_12, al_13, al_14, al_15, al_16, al_17, al_18, al_19, al_20, al_21, al_22, al_23, al_24, al_25, al_26, al_27, al_28, al_29, al_30, al_31, al_32, al_33, al_34, al_35, al_36, al_37, al_38, al_39, al_40, al_41, al_42, al_43, al_44, al_45, al_46, al_47, al_48, al_49, al_50, al_51, al_52, al_53, al_54, al_55, at_12, at_13, at_14, at_15, at_16, at_17, at_18, at_19, at_20, at_21, at_22, at_23, at_24, at_25, at_26, at_27, at_28, at_29, at_30, at_31, at_32, at_33, at_34, at_35, at_36, at_37, at_38, at_39, at_40, at_41, at_42, at_43, at_44, at_45, at_46, at_47, at_48, at_49, at_50, at_51, at_52, at_53, at_54, at_55, cn_0, cn_1, cn_2, cn_3, cn_4, cn_5, cn_6, cn_7, cn_8, cn_9, cn_10, cn_11, cn_12, cn_13, cn_14, cn_15, cn_16, cn_17, cn_18, cn_19, cn_20, cn_21, cn_22, cn_23, cn_24, cn_25, cn_26, cn_27, cn_28, cn_29, cn_30, cn_31, cn_32, cn_33, cn_34, cn_35, cn_36, cn_37, cn_38, cn_39, cn_40, cn_41, cn_42, cn_43, cn_44, cn_45, cn_46, cn_47, cn_48, cn_49, cn_50, cn_51, cn_52, cn_53, cn_54, cn_55, Nat.reduceAdd, Nat.reduceLT, Nat.reduceLeDiff, Nat.lt_add_one, Nat.zero_lt_succ, Nat.reduceSub, ite_true, ite_false, reduceCtorEq, forall_const, Nat.reduceSucc, Nat.zero_add, Nat.add_zero, Nat.le_refl, Nat.zero_le, Nat.reducePow, Int.reduceNeg, Nat.reduceMul, eq_self, Int.cast_ofNat_Int, Int.toNat_natCast, iR, lR, Int.reduceEq, Int.reduceLT, Int.reduceLE, Int.reduceNe, not_false_eq_true, not_true_eq_false, false_implies, true_implies, Int.reduceAdd, Int.reduceSub, Int.reduceMul, Int.reduceToNat, implies_true, or_true, true_or, or_false, false_or]
    exact ih (by omega) _ ⟨by omega, h2⟩
  have hb2 := sm_in (f := srk ds) (n := ds.length) (c := 1000) (by decide) (fun q hq => by have := srk_in ds q; omega)
  refine ⟨by omega, by omega, fun q => ?_, fun q => ?_⟩
  · have hs21 : sm (fun j : Nat => if (j : Int) < i then srk ds j else M1 21 0 j) ds.length = sm (srk ds) ds.length := sm_cg fun q hq => by
      show (if (q : Int) < i then _ else _) = _
      rw [if_pos (by omega)]
    rw [hs21]
    refine ⟨by omega, by omega, hP _ ⟨fun g' a3 a5 a18 a19 a21 => ?_, ?_⟩ (fun j hj => ?_) ⟨rfl, rfl, ?_, rfl, rfl, rfl, rfl, rfl⟩⟩
    · rw [stm_ne _ _ _ _ _ a5, stm_ne _ _ _ _ _ a5, stm_ne _ _ _ _ _ a5, stm_ne _ _ _ _ _ a5, stm_ne _ _ _ _ _ a5, stc_ne _ _ _ _ a21, stm_ne _ _ _ _ _ a5, stm_ne _ _ _ _ _ a5, stm_ne _ _ _ _ _ a5]
      exact hf g' a3 a18 a19
    · show M1 5 0 5 = M 5 0 5
      rw [hf 5 (by decide) (by decide) (by decide)]
    · show (if (j : Int) < i then _ else _) = _
      rw [if_pos (by omega)]
    · rw [show ds.length = i.toNat by omega]
      rfl
  · have hd := hdi i.toNat (by omega)
    have hp1 := (hpa i.toNat (by omega)).1
    have hsi := srk_in ds i.toNat
    refine ⟨by omega, fun j hj => ?_, by omega, by omega, by omega, fun q2 => h70 _ (by omega) ?_, fun q2 => ⟨by omega, by rw [hsr (by omega)]; omega, h70 _ (by omega) ?_⟩⟩
    · have h1 := (hpa j (by omega)).2
      have h2 := hdi j (by omega)
      have h3 := zab_in (z := dg ds j) (c := 1000) ⟨h2.1, h2.2.1⟩
      omega
    · skip
      unfold sig_st
      rw [hsg (by omega), hsr (by omega)]
      funext g' s' k'
      simp only [stm_ap, stc_ap]
      by_cases e5 : g' = 5 ∧ s' = 0 ∧ k' = 8
      · rw [if_neg (show ¬ (g' = 21 ∧ s' = 0 ∧ k' = i.toNat) by omega), if_pos e5, if_pos e5, if_neg (by omega), Int.add_zero]
      · rw [if_neg e5, if_neg e5]
        by_cases e : g' = 21 ∧ s' = 0
        · rw [if_pos e, if_pos e]
          by_cases d : k' = i.toNat
          · rw [if_pos ⟨e.1, e.2, d⟩]
            show _ = (if (k' : Int) < i + 1 then _ else _)
            rw [if_pos (by omega), d]
          · rw [if_neg (fun z => d z.2.2)]
            show (if (k' : Int) < i then _ else _) = (if (k' : Int) < i + 1 then _ else _)
            by_cases d2 : (k' : Int) < i
            · rw [if_pos d2, if_pos (by omega)]
            · rw [if_neg d2, if_neg (by omega)]
        · rw [if_neg (fun z => e ⟨z.1, z.2.1⟩), if_neg e, if_neg e]
    · skip
      unfold sig_st
      rw [hsg (by omega), hsr (by omega)]
      funext g' s' k'
      simp only [stm_ap, stc_ap]
      by_cases e5 : g' = 5 ∧ s' = 0 ∧ k' = 8
      · rw [if_pos e5, if_pos e5, if_pos (by omega)]
      · rw [if_neg e5, if_neg e5, if_neg e5]
        by_cases e : g' = 21 ∧ s' = 0
        · rw [if_pos e, if_pos e]
          by_cases d : k' = i.toNat
          · rw [if_pos ⟨e.1, e.2, d⟩]
            show _ = (if (k' : Int) < i + 1 then _ else _)
            rw [if_pos (by omega), d]
          · rw [if_neg (fun z => d z.2.2)]
            show (if (k' : Int) < i then _ else _) = (if (k' : Int) < i + 1 then _ else _)
            by_cases d2 : (k' : Int) < i
            · rw [if_pos d2, if_pos (by omega)]
            · rw [if_neg d2, if_neg (by omega)]
        · rw [if_neg (fun z => e ⟨z.1, z.2.1⟩), if_neg e, if_neg e]
