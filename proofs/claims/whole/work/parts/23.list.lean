/-! bounds of the counts; CloudBench$Question.listInto -/
theorem gpc_in (f : Nat → Int) (n K : Nat) (m : Int) (i j : Nat) : 0 ≤ gpc f n K m i j ∧ gpc f n K m i j ≤ chs i j := by
  induction i generalizing j with
  | zero => cases j with
    | zero => show (0 : Int) ≤ 1 ∧ (1 : Int) ≤ 1; exact ⟨by decide, by decide⟩
    | succ j => exact ⟨Int.le_refl 0, chs_nn 0 (j + 1)⟩
  | succ i ih =>
    rw [gpc_s]
    have h0 := chs_nn (i + 1) j
    split
    · exact ⟨Int.le_refl 0, h0⟩
    · unfold gpa
      cases j with
      | zero =>
        have := ih 0
        have e : chs i 0 = 1 := by cases i <;> rfl
        rw [if_pos rfl, Int.add_zero]
        show _ ∧ _ ≤ (1 : Int)
        omega
      | succ j =>
        have h1 := ih (j + 1)
        have h2 := ih j
        rw [if_neg (show ¬ j + 1 = 0 by omega), show j + 1 - 1 = j by omega]
        show _ ∧ _ ≤ chs i j + chs i (j + 1)
        omega
def fac : Nat → Int
  | 0 => 1
  | n + 1 => fac n * (n + 1)
theorem psm_le {h : Int → Int} {b : Int} (hb : ∀ s, h s ≤ b) (m : Nat) (s : Int) : psm h m s ≤ m * b := by
  induction m with
  | zero => show (0 : Int) ≤ _; simp
  | succ m ih =>
    show psm h m s + h (s - m) ≤ _
    have := hb (s - m)
    have e : ((m + 1 : Nat) : Int) * b = m * b + b := by rw [Int.natCast_add, Int.add_mul]; simp
    omega
theorem mh_le (i : Nat) (s : Int) : mh i s ≤ fac i := by
  induction i generalizing s with
  | zero => unfold mh; show _ ≤ (1 : Int); split <;> decide
  | succ i ih =>
    have := psm_le ih (i + 1) s
    show psm (mh i) (i + 1) s ≤ fac i * (i + 1)
    rw [Int.mul_comm (fac i)]
    exact this
theorem fac_le : ∀ i : Fin 21, fac i.val ≤ 2432902008176640000 := by decide +kernel
theorem pow_le {a b : Nat} (h : a ≤ b) : (2 : Int) ^ a ≤ 2 ^ b := by
  obtain ⟨d, rfl⟩ : ∃ d, b = a + d := ⟨b - a, by omega⟩
  induction d with
  | zero => exact Int.le_refl _
  | succ d ih =>
    have := ih (by omega)
    rw [show a + (d + 1) = (a + d) + 1 by omega, Int.pow_succ]
    have : (0 : Int) ≤ 2 ^ (a + d) := Int.pow_nonneg (by decide)
    omega
theorem QD_lR {M : Mm} {dk : Int → Int} {fi la : Int} (hQ : QI M) (h : QD (M 5 0 5) (M 5 0 6) (M 5 0 7) (M 21 0) dk fi la) (key : Int) : -2000000000000 ≤ dk key ∧ dk key ≤ 2432902008176640000 := by
  obtain ⟨q0, q1, q2, q3, q4, q5⟩ := hQ
  have p40 : (2 : Int) ^ 40 = 1099511627776 := by decide
  rcases h with ⟨ht, f', -, -, -, -, hd⟩ | ⟨ht, f', -, -, -, -, hd⟩ | ⟨ht, -, -, hd⟩ | ⟨ht, -, -, hd⟩
  · have r1 := q1 (by omega)
    rw [hd]
    have h1 := cw_nn (M 21 0) (M 5 0 6).toNat (M 5 0 7).toNat key
    have h2 := cw_le (M 21 0) (M 5 0 6).toNat (M 5 0 7).toNat key
    have h3 := chs_2 (M 5 0 6).toNat (M 5 0 7).toNat
    have h4 := pow_le (a := (M 5 0 6).toNat) (b := 40) (by omega)
    omega
  · have r1 := q1 (by omega)
    rw [hd]
    unfold gpd
    have h1 := gpc_in f' (M 5 0 6).toNat (M 5 0 7).toNat key (M 5 0 6).toNat (M 5 0 7).toNat
    have h5 := gpc_in f' (M 5 0 6).toNat (M 5 0 7).toNat (key - 1) (M 5 0 6).toNat (M 5 0 7).toNat
    have h3 := chs_2 (M 5 0 6).toNat (M 5 0 7).toNat
    have h4 := pow_le (a := (M 5 0 6).toNat) (b := 40) (by omega)
    split <;> omega
  · have r1 := q2 (by omega)
    rw [hd]
    have h1 := swc_nn (M 21 0) (M 5 0 6).toNat key
    have h2 := swc_le (M 21 0) (M 5 0 6).toNat key
    have h4 := pow_le (a := (M 5 0 6).toNat) (b := 40) (by omega)
    omega
  · have r1 := q2 (by omega)
    rw [hd]
    have h1 := mh_nn (M 5 0 6).toNat key
    have h2 := mh_le (M 5 0 6).toNat key
    have h3 := fac_le ⟨(M 5 0 6).toNat, by omega⟩
    have h4 : fac (M 5 0 6).toNat ≤ 2432902008176640000 := h3
    omega
theorem lad_ap {M : Mm} {v c : Int} {g : Nat} (h2 : ¬ g = 2) (h16 : ¬ g = 16) (h17 : ¬ g = 17) : lad M v c g = M g := by
  unfold lad
  funext s k
  rw [stm_ap, if_neg (fun z => h2 z.1)]
  split
  · rw [stm_ap, if_neg (fun z => h17 z.1), stm_ap, if_neg (fun z => h16 z.1)]
  · rfl
theorem lad_16 (M : Mm) (v c : Int) (q : Nat) : lad M v c 16 0 q = if M 2 0 2 < 2000 ∧ q = (M 2 0 2).toNat then v else M 16 0 q := by
  unfold lad
  by_cases h : M 2 0 2 < 2000
  · simp [stm_ap, h]
  · simp [stm_ap, h]
theorem lad_17 (M : Mm) (v c : Int) (q : Nat) : lad M v c 17 0 q = if M 2 0 2 < 2000 ∧ q = (M 2 0 2).toNat then c else M 17 0 q := by
  unfold lad
  by_cases h : M 2 0 2 < 2000
  · simp [stm_ap, h]
  · simp [stm_ap, h]
theorem LK_lad {M : Mm} {st sh : Int} {dk : Int → Int} {ks : List Int} (h : LK M st sh dk ks) (key : Int) : LK (lad M (st * key + sh) (dk key)) st sh dk (ks ++ [key]) := by
  obtain ⟨h1, h2⟩ := h
  refine ⟨?_, fun q hq key' hk => ?_⟩
  · unfold lad
    rw [stm_ap, if_pos ⟨rfl, rfl, rfl⟩, h1, List.length_append]
    rfl
  · rw [lad_16, lad_17]
    by_cases e : q < ks.length
    · rw [List.getElem?_append_left e] at hk
      have := h2 q hq key' hk
      rw [if_neg (by omega), if_neg (by omega)]
      exact this
    · rw [List.getElem?_append_right (by omega)] at hk
      have hl := (List.getElem?_eq_some_iff.mp hk).1
      simp only [List.length_cons, List.length_nil] at hl
      have e2 : q - ks.length = 0 := by omega
      rw [e2] at hk
      cases hk
      rw [if_pos (by omega), if_pos (by omega)]
      exact ⟨rfl, rfl⟩
theorem k_X5_listInto (l : Launch) : MetT l yX5_listInto cX5_listInto 3 none 4 T_X5_listInto := by
  refine MetT.of (by decide +kernel) (fun as M P h => by unfold T_X5_listInto at h; split at h <;> first | (simp [elo]; done) | exact h.elim) (fun x as M P h C hR => ?_)
  unfold T_X5_listInto at h
  split at h
  rotate_left
  · exact h.elim
  rename_i g s g2 s2
  obtain ⟨rfl, rfl, rfl, rfl, hQ, hP⟩ := h
  refine B_X5_listInto_0 C (k_X5_countWays l) (by decide) _ _ _ ?_
  simp only [c_iadd, c_isub, c_imul, c_ladd, c_lsub, c_lmul, c_ineg, c_lneg, c_ic, c_lc, c_iload, c_lload, c_aload, c_istore, c_astore, c_lstore, c_iinc, c_dup, c_dup2, c_goto, c_i2l, c_l2i, c_idiv, c_ldiv, c_lrem, c_lshl, c_gi, c_gl, c_gr, c_pi, c_pz, c_pl, c_iald, c_lald, c_bald, c_aald, c_iast, c_last, c_bast, c_callV, c_callS, c_mmax, c_mmin, c_mabs, c_mmaxl, c_mabsl, c_iret, c_zret, c_lret, c_vret, c_tsw, c_lsw, c_icmp_eq, c_icmp_ne, c_icmp_lt, c_icmp_ge, c_icmp_gt, c_icmp_le, c_if_eq, c_if_ne, c_if_lt, c_if_ge, c_if_gt, c_if_le, c_lcmp_eq, c_lcmp_ne, c_lcmp_lt, c_lcmp_ge, c_lcmp_gt, c_lcmp_le, c_lraw_eq, c_lraw_lt, c_lraw_ge, c_lraw_gt, c_lraw_le, acat, scat, tswP, pops, st1, st2, klo, pad, elo, List.getElem?_cons_zero, List.getElem?_cons_succ, List.getElem?_nil, List.set_cons_zero, List.set_cons_succ, List.set_nil, Option.toList_some, Option.toList_none, List.cons_append, List.nil_append, List.length_cons, List.length_nil, stc_ap, stm_ap, false_and, and_false, and_self, true_and, and_true, Nat.reduceEqDiff, reduceIte, al_12, al_13, al_14, al_15, al_16, al_17, al_18, al_19, al_20, al_21, al_22, al_23, al_24, al_25, al_26, al_27, al_28, al_29, al_30, al_31, al_32, al_33, al_34, al_35, al_36, al_37, al_38, al_39, al_40, al_41, al_42, al_43, al_44, al_45, al_46, al_47, al_48, al_49, al_50, al_51, al_52, al_53, al_54, al_55, at_12, at_13, at_14, at_15, at_16, at_17, at_18, at_19, at_20, at_21, at_22, at_23, at_24, at_25, at_26, at_27, at_28, at_29, at_30, at_31, at_32, at_33, at_34, at_35, at_36, at_37, at_38, at_39, at_40, at_41, at_42, at_43, at_44, at_45, at_46, at_47, at_48, at_49, at_50, at_51, at_52, at_53, at_54, at_55, cn_0, cn_1, cn_2, cn_3, cn_4, cn_5, cn_6, cn_7, cn_8, cn_9, cn_10, cn_11, cn_12, cn_13, cn_14, cn_15, cn_16, cn_17, cn_18, cn_19, cn_20, cn_21, cn_22, cn_23, cn_24, cn_25, cn_26, cn_27, cn_28, cn_29, cn_30, cn_31, cn_32, cn_33, cn_34, cn_35, cn_36, cn_37, cn_38, cn_39, cn_40, cn_41, cn_42, cn_43, cn_44, cn_45, cn_46, cn_47, cn_48, cn_49, cn_50, cn_51, cn_52, cn_53, cn_54, cn_55, Nat.reduceAdd, Nat.reduceLT, Nat.reduceLeDiff, Nat.lt_add_one, Nat.zero_lt_succ, Nat.reduceSub, ite_true, ite_false, reduceCtorEq, forall_const, Nat.reduceSucc, Nat.zero_add, Nat.add_zero, Nat.le_refl, Nat.zero_le, Nat.reducePow, Int.reduceNeg, Nat.reduceMul, eq_self, Int.cast_ofNat_Int, Int.toNat_natCast, iR, lR, Int.reduceEq, Int.reduceLT, Int.reduceLE, Int.reduceNe, not_false_eq_true, not_true_eq_false, false_implies, true_implies, Int.reduceAdd, Int.reduceSub, Int.reduceMul, Int.reduceToNat, implies_true, or_true, true_or, or_false, false_or, T_X5_countWays]
  refine ⟨hQ, fun M1 dk fi la hqd hfr hwk => ?_⟩
  obtain ⟨w3, w4, wb, wk⟩ := hwk
  have h5 : M1 5 = M 5 := hfr 5 (by decide) (by decide) (by decide) (by decide)
  rw [w3]
  refine loopU (la + 1) (fun key M' => (fi ≤ key ∧ (key ≤ la + 1 ∨ key = fi)) ∧ (∀ g' : Nat, ¬ g' = 2 → ¬ g' = 16 → ¬ g' = 17 → M' g' = M1 g') ∧ LK M' (M 5 0 10) (M 5 0 11) dk (nzk dk fi (key - fi).toNat)) (fun key M' => J x 17 [some (zr 5 0), some (zr 2 0), some (zi key)] [] M') ?_ fi _ ⟨⟨by omega, Or.inr rfl⟩, ?_, ?_⟩
  rotate_left
  · intro g' a1 a2 a3
    funext s' k'
    rw [stm_ap, if_neg (fun z => a1 z.1)]
  · rw [Int.sub_self]
    exact ⟨rfl, fun q _ key hk => by cases hk⟩
  rintro key M' ⟨hk, hf1, hlk⟩ ih
  have f5 : M' 5 = M 5 := (hf1 5 (by decide) (by decide) (by decide)).trans h5
  have f9 : M' 9 = M1 9 := hf1 9 (by decide) (by decide) (by decide)
  have f28 : M' 28 = M1 28 := hf1 28 (by decide) (by decide) (by decide)
  refine B_X5_listInto_17 C hR (k_X9_of l) (by decide) (k_X2_append l) (by decide) _ _ _ ?_
  simp only [c_iadd, c_isub, c_imul, c_ladd, c_lsub, c_lmul, c_ineg, c_lneg, c_ic, c_lc, c_iload, c_lload, c_aload, c_istore, c_astore, c_lstore, c_iinc, c_dup, c_dup2, c_goto, c_i2l, c_l2i, c_idiv, c_ldiv, c_lrem, c_lshl, c_gi, c_gl, c_gr, c_pi, c_pz, c_pl, c_iald, c_lald, c_bald, c_aald, c_iast, c_last, c_bast, c_callV, c_callS, c_mmax, c_mmin, c_mabs, c_mmaxl, c_mabsl, c_iret, c_zret, c_lret, c_vret, c_tsw, c_lsw, c_icmp_eq, c_icmp_ne, c_icmp_lt, c_icmp_ge, c_icmp_gt, c_icmp_le, c_if_eq, c_if_ne, c_if_lt, c_if_ge, c_if_gt, c_if_le, c_lcmp_eq, c_lcmp_ne, c_lcmp_lt, c_lcmp_ge, c_lcmp_gt, c_lcmp_le, c_lraw_eq, c_lraw_lt, c_lraw_ge, c_lraw_gt, c_lraw_le, acat, scat, tswP, pops, st1, st2, klo, pad, elo, List.getElem?_cons_zero, List.getElem?_cons_succ, List.getElem?_nil, List.set_cons_zero, List.set_cons_succ, List.set_nil, Option.toList_some, Option.toList_none, List.cons_append, List.nil_append, List.length_cons, List.length_nil, stc_ap, stm_ap, false_and, and_false, and_self, true_and, and_true, Nat.reduceEqDiff, reduceIte, al_12, al_13, al_14, al_15, al_16, al_17, al_18, al_19, al_20, al_21, al_22, al_23, al_24, al_25, al_26, al_27, al_28, al_29, al_30, al_31, al_32, al_33, al_34, al_35, al_36, al_37, al_38, al_39, al_40, al_41, al_42, al_43, al_44, al_45, al_46, al_47, al_48, al_49, al_50, al_51, al_52, al_53, al_54, al_55, at_12, at_13, at_14, at_15, at_16, at_17, at_18, at_19, at_20, at_21, at_22, at_23, at_24, at_25, at_26, at_27, at_28, at_29, at_30, at_31, at_32, at_33, at_34, at_35, at_36, at_37, at_38, at_39, at_40, at_41, at_42, at_43, at_44, at_45, at_46, at_47, at_48, at_49, at_50, at_51, at_52, at_53, at_54, at_55, cn_0, cn_1, cn_2, cn_3, cn_4, cn_5, cn_6, cn_7, cn_8, cn_9, cn_10, cn_11, cn_12, cn_13, cn_14, cn_15, cn_16, cn_17, cn_18, cn_19, cn_20, cn_21, cn_22, cn_23, cn_24, cn_25, cn_26, cn_27, cn_28, cn_29, cn_30, cn_31, cn_32, cn_33, cn_34, cn_35, cn_36, cn_37, cn_38, cn_39, cn_40, cn_41, cn_42, cn_43, cn_44, cn_45, cn_46, cn_47, cn_48, cn_49, cn_50, cn_51, cn_52, cn_53, cn_54, cn_55, Nat.reduceAdd, Nat.reduceLT, Nat.reduceLeDiff, Nat.lt_add_one, Nat.zero_lt_succ, Nat.reduceSub, ite_true, ite_false, reduceCtorEq, forall_const, Nat.reduceSucc, Nat.zero_add, Nat.add_zero, Nat.le_refl, Nat.zero_le, Nat.reducePow, Int.reduceNeg, Nat.reduceMul, eq_self, Int.cast_ofNat_Int, Int.toNat_natCast, iR, lR, Int.reduceEq, Int.reduceLT, Int.reduceLE, Int.reduceNe, not_false_eq_true, not_true_eq_false, false_implies, true_implies, Int.reduceAdd, Int.reduceSub, Int.reduceMul, Int.reduceToNat, implies_true, or_true, true_or, or_false, false_or, T_X9_of, T_X2_append, f5, f9, f28, w3, w4]
  have h65 : ∀ M2 : Mm, key ≤ la → (∀ g' : Nat, ¬ g' = 2 → ¬ g' = 16 → ¬ g' = 17 → M2 g' = M1 g') → LK M2 (M 5 0 10) (M 5 0 11) dk (nzk dk fi (key + 1 - fi).toNat) → J x 65 [some (zr 5 0), some (zr 2 0), some (zi key)] [] M2 := by
    intro M2 hle hf2 hl2
    refine B_X5_listInto_65 C _ _ _ ?_
    simp only [c_iadd, c_isub, c_imul, c_ladd, c_lsub, c_lmul, c_ineg, c_lneg, c_ic, c_lc, c_iload, c_lload, c_aload, c_istore, c_astore, c_lstore, c_iinc, c_dup, c_dup2, c_goto, c_i2l, c_l2i, c_idiv, c_ldiv, c_lrem, c_lshl, c_gi, c_gl, c_gr, c_pi, c_pz, c_pl, c_iald, c_lald, c_bald, c_aald, c_iast, c_last, c_bast, c_callV, c_callS, c_mmax, c_mmin, c_mabs, c_mmaxl, c_mabsl, c_iret, c_zret, c_lret, c_vret, c_tsw, c_lsw, c_icmp_eq, c_icmp_ne, c_icmp_lt, c_icmp_ge, c_icmp_gt, c_icmp_le, c_if_eq, c_if_ne, c_if_lt, c_if_ge, c_if_gt, c_if_le, c_lcmp_eq, c_lcmp_ne, c_lcmp_lt, c_lcmp_ge, c_lcmp_gt, c_lcmp_le, c_lraw_eq, c_lraw_lt, c_lraw_ge, c_lraw_gt, c_lraw_le, acat, scat, tswP, pops, st1, st2, klo, pad, elo, List.getElem?_cons_zero, List.getElem?_cons_succ, List.getElem?_nil, List.set_cons_zero, List.set_cons_succ, List.set_nil, Option.toList_some, Option.toList_none, List.cons_append, List.nil_append, List.length_cons, List.length_nil, stc_ap, stm_ap, false_and, and_false, and_self, true_and, and_true, Nat.reduceEqDiff, reduceIte, al_12, al_13, al_14, al_15, al_16, al_17, al_18, al_19, al_20, al_21, al_22, al_23, al_24, al_25, al_26, al_27, al_28, al_29, al_30, al_31, al_32, al_33, al_34, al_35, al_36, al_37, al_38, al_39, al_40, al_41, al_42, al_43, al_44, al_45, al_46, al_47, al_48, al_49, al_50, al_51, al_52, al_53, al_54, al_55, at_12, at_13, at_14, at_15, at_16, at_17, at_18, at_19, at_20, at_21, at_22, at_23, at_24, at_25, at_26, at_27, at_28, at_29, at_30, at_31, at_32, at_33, at_34, at_35, at_36, at_37, at_38, at_39, at_40, at_41, at_42, at_43, at_44, at_45, at_46, at_47, at_48, at_49, at_50, at_51, at_52, at_53, at_54, at_55, cn_0, cn_1, cn_2, cn_3, cn_4, cn_5, cn_6, cn_7, cn_8, cn_9, cn_10, cn_11, cn_12, cn_13, cn_14, cn_15, cn_16, cn_17, cn_18, cn_19, cn_20, cn_21, cn_22, cn_23, cn_24, cn_25, cn_26, cn_27, cn_28, cn_29, cn_30, cn_31, cn_32, cn_33, cn_34, cn_35, cn_36, cn_37, cn_38, cn_39, cn_40, cn_41, cn_42, cn_43, cn_44, cn_45, cn_46, cn_47, cn_48, cn_49, cn_50, cn_51, cn_52, cn_53, cn_54, cn_55, Nat.reduceAdd, Nat.reduceLT, Nat.reduceLeDiff, Nat.lt_add_one, Nat.zero_lt_succ, Nat.reduceSub, ite_true, ite_false, reduceCtorEq, forall_const, Nat.reduceSucc, Nat.zero_add, Nat.add_zero, Nat.le_refl, Nat.zero_le, Nat.reducePow, Int.reduceNeg, Nat.reduceMul, eq_self, Int.cast_ofNat_Int, Int.toNat_natCast, iR, lR, Int.reduceEq, Int.reduceLT, Int.reduceLE, Int.reduceNe, not_false_eq_true, not_true_eq_false, false_implies, true_implies, Int.reduceAdd, Int.reduceSub, Int.reduceMul, Int.reduceToNat, implies_true, or_true, true_or, or_false, false_or]
    exact ih (by omega) _ ⟨⟨by omega, Or.inl (by omega)⟩, hf2, hl2⟩
  have hst : key ≤ la → nzk dk fi (key + 1 - fi).toNat = if 0 < dk key then nzk dk fi (key - fi).toNat ++ [key] else nzk dk fi (key - fi).toNat := by
    intro _
    rw [show (key + 1 - fi).toNat = (key - fi).toNat + 1 by omega]
    show (if 0 < dk (fi + ((key - fi).toNat : Nat)) then _ ++ [fi + (((key - fi).toNat : Nat) : Int)] else _) = _
    rw [show fi + (((key - fi).toNat : Nat) : Int) = key by omega]
  have hlen := nzk_len dk fi (key - fi).toNat
  have hsz := hlk.1
  have hle : ¬ la < key → (if fi ≤ key ∧ key ≤ la then M1 28 0 (M1 9 0 2 + key).toNat else 0) = dk key := fun q => by
    rw [if_pos (by omega)]
    exact (wk key (by omega) (by omega)).2
  refine ⟨by omega, by omega, fun q => ?_, fun q => ?_⟩
  · refine hP M' dk fi la hqd (fun g' a1 a2 a3 a4 a5 a6 a7 => (hf1 g' a5 a6 a7).trans (hfr g' a1 a2 a3 a4)) wb ?_
    rw [show (la + 1 - fi).toNat = (key - fi).toNat by omega]
    exact hlk
  · rw [hle q]
    have hb := QD_lR hQ hqd key
    have hw := (wk key (by omega) (by omega)).1
    refine ⟨by omega, by omega, by omega, fun _ _ => hw, by omega, fun q2 => h65 M' (by omega) hf1 ?_, fun q2 => ⟨by omega, by omega, by omega, by omega, fun _ _ => hw, by omega, h65 _ (by omega) (fun g' a1 a2 a3 => (lad_ap a1 a2 a3).trans (hf1 g' a1 a2 a3)) ?_⟩⟩
    · rw [hst (by omega), if_neg (by omega)]
      exact hlk
    · rw [hst (by omega), if_pos (by omega)]
      exact LK_lad hlk key
