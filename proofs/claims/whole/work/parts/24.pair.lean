/-! CloudBench$Pairing.gather; Question.poseChoice, posePairs -/
def nzl (f : Nat → Int) : Nat → List Int
  | 0 => []
  | n + 1 => if f n = 0 then nzl f n else nzl f n ++ [f n]
theorem nzl_len (f : Nat → Int) (n : Nat) : (nzl f n).length ≤ n := by
  induction n with
  | zero => exact Nat.le_refl 0
  | succ n ih =>
    unfold nzl
    split
    · omega
    · rw [List.length_append]; simp only [List.length_cons, List.length_nil]; omega
theorem nzl_in {f : Nat → Int} {n : Nat} {v : Int} (h : v ∈ nzl f n) : ¬ v = 0 ∧ ∃ j, j < n ∧ v = f j := by
  induction n with
  | zero => cases h
  | succ n ih =>
    unfold nzl at h
    split at h
    · obtain ⟨h1, j, h2, h3⟩ := ih h
      exact ⟨h1, j, by omega, h3⟩
    · rename_i hn
      rcases List.mem_append.mp h with h | h
      · obtain ⟨h1, j, h2, h3⟩ := ih h
        exact ⟨h1, j, by omega, h3⟩
      · rw [List.mem_singleton] at h
        exact ⟨by rw [h]; exact hn, n, by omega, h⟩
/-- the differences of two samples -/
def dif (M : Mm) (a b : Nat) : Nat → Int := fun j => M 27 a j - M 27 b j
/-- the pairing holds the differences ds, of n -/
def PK (M : Mm) (ds : List Int) (n : Int) : Prop := M 3 0 2 = ds.length ∧ M 3 0 3 = n - ds.length ∧ ∀ (q : Nat) (v : Int), ds[q]? = some v → M 18 0 q = v ∧ M 19 0 q = zab v
def T_X3_gather : Ct := fun as M P => match as with
  | [.inr (some (g, s)), .inr (some (ga, a)), .inr (some (gb, b))] => g = 3 ∧ s = 0 ∧ ga = 8 ∧ gb = 8 ∧ a < 8 ∧ b < 8 ∧ SI M ∧ M 8 a 1 = M 8 b 1 ∧ ∀ M' : Mm, (∀ g' : Nat, ¬ g' = 3 → ¬ g' = 18 → ¬ g' = 19 → M' g' = M g') → PK M' (nzl (dif M a b) (M 8 a 1).toNat) (M 8 a 1) → P none M'
  | _ => False
theorem k_X3_gather (l : Launch) : MetT l yX3_gather cX3_gather 6 none 1 T_X3_gather := by
  refine MetT.of (by decide +kernel) (fun as M P h => by unfold T_X3_gather at h; split at h <;> first | (simp [elo]; done) | exact h.elim) (fun x as M P h C hR => ?_)
  unfold T_X3_gather at h
  split at h
  rotate_left
  · exact h.elim
  rename_i g s ga a gb b
  obtain ⟨rfl, rfl, rfl, rfl, ha, hb, hI, hab, hP⟩ := h
  have ia := (hI a ha).1
  refine B_X3_gather_0 C (by decide) _ _ _ ?_
  simp only [c_iadd, c_isub, c_imul, c_ladd, c_lsub, c_lmul, c_ineg, c_lneg, c_ic, c_lc, c_iload, c_lload, c_aload, c_istore, c_astore, c_lstore, c_iinc, c_dup, c_dup2, c_goto, c_i2l, c_l2i, c_idiv, c_ldiv, c_lrem, c_lshl, c_gi, c_gl, c_gr, c_pi, c_pz, c_pl, c_iald, c_lald, c_bald, c_aald, c_iast, c_last, c_bast, c_callV, c_callS, c_mmax, c_mmin, c_mabs, c_mmaxl, c_mabsl, c_iret, c_zret, c_lret, c_vret, c_tsw, c_lsw, c_icmp_eq, c_icmp_ne, c_icmp_lt, c_icmp_ge, c_icmp_gt, c_icmp_le, c_if_eq, c_if_ne, c_if_lt, c_if_ge, c_if_gt, c_if_le, c_lcmp_eq, c_lcmp_ne, c_lcmp_lt, c_lcmp_ge, c_lcmp_gt, c_lcmp_le, c_lraw_eq, c_lraw_lt, c_lraw_ge, c_lraw_gt, c_lraw_le, acat, scat, tswP, pops, st1, st2, klo, pad, elo, List.getElem?_cons_zero, List.getElem?_cons_succ, List.getElem?_nil, List.set_cons_zero, List.set_cons_succ, List.set_nil, Option.toList_some, Option.toList_none, List.cons_append, List.nil_append, List.length_cons, List.length_nil, stc_ap, stm_ap, false_and, and_false, and_self, true_and, and_true, Nat.reduceEqDiff, reduceIte, al_12, al_13, al_14, al_15, al_16, al_17, al_18, al_19, al_20, al_21, al_22, al_23, al_24, al_25, al_26, al_27, al_28, al_29, al_30, al_31, al_32, al_33, al_34, al_35, al_36, al_37, al_38, al_39, al_40, al_41, al_42, al_43, al_44, al_45, al_46, al_47, al_48, al_49, al_50, al_51, al_52, al_53, al_54, al_55, at_12, at_13, at_14, at_15, at_16, at_17, at_18, at_19, at_20, at_21, at_22, at_23, at_24, at_25, at_26, at_27, at_28, at_29, at_30, at_31, at_32, at_33, at_34, at_35, at_36, at_37, at_38, at_39, at_40, at_41, at_42, at_43, at_44, at_45, at_46, at_47, at_48, at_49, at_50, at_51, at_52, at_53, at_54, at_55, cn_0, cn_1, cn_2, cn_3, cn_4, cn_5, cn_6, cn_7, cn_8, cn_9, cn_10, cn_11, cn_12, cn_13, cn_14, cn_15, cn_16, cn_17, cn_18, cn_19, cn_20, cn_21, cn_22, cn_23, cn_24, cn_25, cn_26, cn_27, cn_28, cn_29, cn_30, cn_31, cn_32, cn_33, cn_34, cn_35, cn_36, cn_37, cn_38, cn_39, cn_40, cn_41, cn_42, cn_43, cn_44, cn_45, cn_46, cn_47, cn_48, cn_49, cn_50, cn_51, cn_52, cn_53, cn_54, cn_55, Nat.reduceAdd, Nat.reduceLT, Nat.reduceLeDiff, Nat.lt_add_one, Nat.zero_lt_succ, Nat.reduceSub, ite_true, ite_false, reduceCtorEq, forall_const, Nat.reduceSucc, Nat.zero_add, Nat.add_zero, Nat.le_refl, Nat.zero_le, Nat.reducePow, Int.reduceNeg, Nat.reduceMul, eq_self, Int.cast_ofNat_Int, Int.toNat_natCast, iR, lR, Int.reduceEq, Int.reduceLT, Int.reduceLE, Int.reduceNe, not_false_eq_true, not_true_eq_false, false_implies, true_implies, Int.reduceAdd, Int.reduceSub, Int.reduceMul, Int.reduceToNat, implies_true, or_true, true_or, or_false, false_or, ha, hb, ← hab]
  rw [show min (M 8 a 1) (M 8 a 1) = M 8 a 1 by omega]
  refine ⟨⟨by omega, by omega⟩, ?_⟩
  refine loopU (M 8 a 1) (fun i M' => (0 ≤ i ∧ i ≤ M 8 a 1) ∧ (∀ g' : Nat, ¬ g' = 3 → ¬ g' = 18 → ¬ g' = 19 → M' g' = M g') ∧ PK M' (nzl (dif M a b) i.toNat) i) (fun i M' => J x 25 [some (zr 3 0), some (zr 8 a), some (zr 8 b), some (zi (M 8 a 1)), some (zi i), none] [] M') ?_ 0 _ ⟨by omega, ?_, rfl, rfl, fun q v hv => by cases hv⟩
  rotate_left
  · intro g' a1 a2 a3
    funext s' k'
    simp only [stm_ap, a1, false_and, if_false]
  rintro i M' ⟨hi, hf, p1, p2, p3⟩ ih
  have f8 : M' 8 = M 8 := hf 8 (by decide) (by decide) (by decide)
  have f27 : M' 27 = M 27 := hf 27 (by decide) (by decide) (by decide)
  have hlen := nzl_len (dif M a b) i.toNat
  refine B_X3_gather_25 C hR (by decide) _ _ _ ?_
  simp only [c_iadd, c_isub, c_imul, c_ladd, c_lsub, c_lmul, c_ineg, c_lneg, c_ic, c_lc, c_iload, c_lload, c_aload, c_istore, c_astore, c_lstore, c_iinc, c_dup, c_dup2, c_goto, c_i2l, c_l2i, c_idiv, c_ldiv, c_lrem, c_lshl, c_gi, c_gl, c_gr, c_pi, c_pz, c_pl, c_iald, c_lald, c_bald, c_aald, c_iast, c_last, c_bast, c_callV, c_callS, c_mmax, c_mmin, c_mabs, c_mmaxl, c_mabsl, c_iret, c_zret, c_lret, c_vret, c_tsw, c_lsw, c_icmp_eq, c_icmp_ne, c_icmp_lt, c_icmp_ge, c_icmp_gt, c_icmp_le, c_if_eq, c_if_ne, c_if_lt, c_if_ge, c_if_gt, c_if_le, c_lcmp_eq, c_lcmp_ne, c_lcmp_lt, c_lcmp_ge, c_lcmp_gt, c_lcmp_le, c_lraw_eq, c_lraw_lt, c_lraw_ge, c_lraw_gt, c_lraw_le, acat, scat, tswP, pops, st1, st2, klo, pad, elo, List.getElem?_cons_zero, List.getElem?_cons_succ, List.getElem?_nil, List.set_cons_zero, List.set_cons_succ, List.set_nil, Option.toList_some, Option.toList_none, List.cons_append, List.nil_append, List.length_cons, List.length_nil, stc_ap, stm_ap, false_and, and_false, and_self, true_and, and_true, Nat.reduceEqDiff, reduceIte, al_12, al_13, al_14, al_15, al_16, al_17, al_18, al_19, al_20, al_21, al_22, al_23, al_24, al_25, al_26, al_27, al_28, al_29, al_30, al_31, al_32, al_33, al_34, al_35, al_36, al_37, al_38, al_39, al_40, al_41, al_42, al_43, al_44, al_45, al_46, al_47, al_48, al_49, al_50, al_51, al_52, al_53, al_54, al_55, at_12, at_13, at_14, at_15, at_16, at_17, at_18, at_19, at_20, at_21, at_22, at_23, at_24, at_25, at_26, at_27, at_28, at_29, at_30, at_31, at_32, at_33, at_34, at_35, at_36, at_37, at_38, at_39, at_40, at_41, at_42, at_43, at_44, at_45, at_46, at_47, at_48, at_49, at_50, at_51, at_52, at_53, at_54, at_55, cn_0, cn_1, cn_2, cn_3, cn_4, cn_5, cn_6, cn_7, cn_8, cn_9, cn_10, cn_11, cn_12, cn_13, cn_14, cn_15, cn_16, cn_17, cn_18, cn_19, cn_20, cn_21, cn_22, cn_23, cn_24, cn_25, cn_26, cn_27, cn_28, cn_29, cn_30, cn_31, cn_32, cn_33, cn_34, cn_35, cn_36, cn_37, cn_38, cn_39, cn_40, cn_41, cn_42, cn_43, cn_44, cn_45, cn_46, cn_47, cn_48, cn_49, cn_50, cn_51, cn_52, cn_53, cn_54, cn_55, Nat.reduceAdd, Nat.reduceLT, Nat.reduceLeDiff, Nat.lt_add_one, Nat.zero_lt_succ, Nat.reduceSub, ite_true, ite_false, reduceCtorEq, forall_const, Nat.reduceSucc, Nat.zero_add, Nat.add_zero, Nat.le_refl, Nat.zero_le, Nat.reducePow, Int.reduceNeg, Nat.reduceMul, eq_self, Int.cast_ofNat_Int, Int.toNat_natCast, iR, lR, Int.reduceEq, Int.reduceLT, Int.reduceLE, Int.reduceNe, not_false_eq_true, not_true_eq_false, false_implies, true_implies, Int.reduceAdd, Int.reduceSub, Int.reduceMul, Int.reduceToNat, implies_true, or_true, true_or, or_false, false_or, ha, hb, f8, f27]
  have h101 : ∀ (w : AV) (M2 : Mm), i < M 8 a 1 → (∀ g' : Nat, ¬ g' = 3 → ¬ g' = 18 → ¬ g' = 19 → M2 g' = M g') → PK M2 (nzl (dif M a b) (i + 1).toNat) (i + 1) → J x 101 [some (zr 3 0), some (zr 8 a), some (zr 8 b), some (zi (M 8 a 1)), some (zi i), some w] [] M2 := by
    intro w M2 h1 h2 h3
    refine B_X3_gather_101 C _ _ _ ?_
    simp only [c_iadd, c_isub, c_imul, c_ladd, c_lsub, c_lmul, c_ineg, c_lneg, c_ic, c_lc, c_iload, c_lload, c_aload, c_istore, c_astore, c_lstore, c_iinc, c_dup, c_dup2, c_goto, c_i2l, c_l2i, c_idiv, c_ldiv, c_lrem, c_lshl, c_gi, c_gl, c_gr, c_pi, c_pz, c_pl, c_iald, c_lald, c_bald, c_aald, c_iast, c_last, c_bast, c_callV, c_callS, c_mmax, c_mmin, c_mabs, c_mmaxl, c_mabsl, c_iret, c_zret, c_lret, c_vret, c_tsw, c_lsw, c_icmp_eq, c_icmp_ne, c_icmp_lt, c_icmp_ge, c_icmp_gt, c_icmp_le, c_if_eq, c_if_ne, c_if_lt, c_if_ge, c_if_gt, c_if_le, c_lcmp_eq, c_lcmp_ne, c_lcmp_lt, c_lcmp_ge, c_lcmp_gt, c_lcmp_le, c_lraw_eq, c_lraw_lt, c_lraw_ge, c_lraw_gt, c_lraw_le, acat, scat, tswP, pops, st1, st2, klo, pad, elo, List.getElem?_cons_zero, List.getElem?_cons_succ, List.getElem?_nil, List.set_cons_zero, List.set_cons_succ, List.set_nil, Option.toList_some, Option.toList_none, List.cons_append, List.nil_append, List.length_cons, List.length_nil, stc_ap, stm_ap, false_and, and_false, and_self, true_and, and_true, Nat.reduceEqDiff, reduceIte, al_12, al_13, al_14, al_15, al_16, al_17, al_18, al_19, al_20, al_21, al_22, al_23, al_24, al_25, al_26, al_27, al_28, al_29, al_30, al_31, al_32, al_33, al_34, al_35, al_36, al_37, al_38, al_39, al_40, al_41, al_42, al_43, al_44, al_45, al_46, al_47, al_48, al_49, al_50, al_51, al_52, al_53, al_54, al_55, at_12, at_13, at_14, at_15, at_16, at_17, at_18, at_19, at_20, at_21, at_22, at_23, at_24, at_25, at_26, at_27, at_28, at_29, at_30, at_31, at_32, at_33, at_34, at_35, at_36, at_37, at_38, at_39, at_40, at_41, at_42, at_43, at_44, at_45, at_46, at_47, at_48, at_49, at_50, at_51, at_52, at_53, at_54, at_55, cn_0, cn_1, cn_2, cn_3, cn_4, cn_5, cn_6, cn_7, cn_8, cn_9, cn_10, cn_11, cn_12, cn_13, cn_14, cn_15, cn_16, cn_17, cn_18, cn_19, cn_20, cn_21, cn_22, cn_23, cn_24, cn_25, cn_26, cn_27, cn_28, cn_29, cn_30, cn_31, cn_32, cn_33, cn_34, cn_35, cn_36, cn_37, cn_38, cn_39, cn_40, cn_41, cn_42, cn_43, cn_44, cn_45, cn_46, cn_47, cn_48, cn_49, cn_50, cn_51, cn_52, cn_53, cn_54, cn_55, Nat.reduceAdd, Nat.reduceLT, Nat.reduceLeDiff, Nat.lt_add_one, Nat.zero_lt_succ, Nat.reduceSub, ite_true, ite_false, reduceCtorEq, forall_const, Nat.reduceSucc, Nat.zero_add, Nat.add_zero, Nat.le_refl, Nat.zero_le, Nat.reducePow, Int.reduceNeg, Nat.reduceMul, eq_self, Int.cast_ofNat_Int, Int.toNat_natCast, iR, lR, Int.reduceEq, Int.reduceLT, Int.reduceLE, Int.reduceNe, not_false_eq_true, not_true_eq_false, false_implies, true_implies, Int.reduceAdd, Int.reduceSub, Int.reduceMul, Int.reduceToNat, implies_true, or_true, true_or, or_false, false_or]
    exact J_fgt [true, true, true, true, true, false] (ih (by omega) _ ⟨by omega, h2, h3⟩)
  have hst : i < M 8 a 1 → nzl (dif M a b) (i + 1).toNat = if M 27 a i.toNat - M 27 b i.toNat = 0 then nzl (dif M a b) i.toNat else nzl (dif M a b) i.toNat ++ [M 27 a i.toNat - M 27 b i.toNat] := by
    intro _
    rw [show (i + 1).toNat = i.toNat + 1 by omega]
    rfl
  refine ⟨by omega, by omega, fun q => hP M' hf ?_, fun q => ?_⟩
  · rw [show (M 8 a 1).toNat = i.toNat by omega, show M 8 a 1 = i by omega]
    exact ⟨p1, p2, p3⟩
  · have da := (hI a ha).2 i.toNat (by omega)
    have db := (hI b hb).2 i.toNat (by omega)
    refine ⟨by omega, by omega, by omega, fun q2 => ⟨by omega, by omega, by omega, h101 _ _ (by omega) ?_ ?_⟩, fun q2 => h101 _ _ (by omega) ?_ ?_⟩
    · intro g' a1 a2 a3
      rw [← hf g' a1 a2 a3]
      funext s' k'
      simp only [stm_ap, a1, a2, a3, false_and, if_false]
    · rw [hst (by omega), if_neg q2]
      refine ⟨?_, ?_, fun q3 v hv => ?_⟩
      · show M' 3 0 2 + 1 = _
        rw [p1, List.length_append]
        rfl
      · show M' 3 0 3 = _
        rw [p2, List.length_append]
        simp only [List.length_cons, List.length_nil]
        omega
      · simp only [stm_ap, Nat.reduceEqDiff, false_and, if_false, true_and]
        by_cases e : q3 < (nzl (dif M a b) i.toNat).length
        · rw [List.getElem?_append_left e] at hv
          have := p3 q3 v hv
          rw [if_neg (by omega), if_neg (by omega)]
          exact this
        · rw [List.getElem?_append_right (by omega)] at hv
          have hl := (List.getElem?_eq_some_iff.mp hv).1
          simp only [List.length_cons, List.length_nil] at hl
          rw [show q3 - (nzl (dif M a b) i.toNat).length = 0 by omega] at hv
          cases hv
          rw [if_pos (by omega), if_pos (by omega)]
          exact ⟨rfl, rfl⟩
    · intro g' a1 a2 a3
      rw [← hf g' a1 a2 a3]
      funext s' k'
      simp only [stm_ap, a1, false_and, if_false]
    · rw [hst (by omega), if_pos q2]
      refine ⟨p1, ?_, p3⟩
      show M' 3 0 3 + 1 = _
      rw [p2]
      omega
