/-! CloudBench$Reach: gaps, the step, the measure -/
theorem cle_cg {f g : Nat → Int} {n : Nat} (h : ∀ j, j < n → f j = g j) (v : Int) : cle f v n = cle g v n := by
  induction n with
  | zero => rfl
  | succ n ih => unfold cle; rw [ih fun j hj => h j (by omega), h n (by omega)]
theorem cle_sw {n p : Nat} {f g : Nat → Int} (h : sw1 n p f g) (v : Int) : cle g v n = cle f v n := by
  obtain ⟨hp, h1, h2, h3⟩ := h
  obtain ⟨m, rfl⟩ : ∃ m, n = p + 2 + m := ⟨n - (p + 2), by omega⟩
  clear hp
  induction m with
  | zero =>
    show cle g v p + (if g p ≤ v then 1 else 0) + (if g (p + 1) ≤ v then 1 else 0) = cle f v p + (if f p ≤ v then 1 else 0) + (if f (p + 1) ≤ v then 1 else 0)
    rw [cle_cg (f := g) (g := f) (fun j hj => h3 j (by omega) (by omega)), h1, h2]
    omega
  | succ m ih =>
    show cle g v (p + 2 + m) + (if g (p + 2 + m) ≤ v then 1 else 0) = cle f v (p + 2 + m) + (if f (p + 2 + m) ≤ v then 1 else 0)
    rw [ih, h3 _ (by omega) (by omega)]
theorem cle_pm {n : Nat} {f g : Nat → Int} (h : pmf n f g) (v : Int) : cle g v n = cle f v n := h (fun q => cle q v n = cle f v n) (fun p a b hs e => (cle_sw hs v).trans e) rfl
/-- how many differences of the first i of A and the first nb of B are v at most -/
def gpr (A B : Nat → Int) (nb : Nat) (v : Int) : Nat → Int := sm (fun i => cle (fun j => A i - B j) v nb)
/-- f is the sorted row of the differences -/
def GS (M : Mm) (a b : Nat) (f : Nat → Int) : Prop := srt f (M 8 a 1 * M 8 b 1).toNat ∧ (∀ v : Int, cle f v (M 8 a 1 * M 8 b 1).toNat = gpr (M 27 a) (M 27 b) (M 8 b 1).toNat v (M 8 a 1).toNat) ∧ ∀ j : Nat, j < (M 8 a 1 * M 8 b 1).toNat → -1000 ≤ f j ∧ f j ≤ 1000
def T_X6_gatherGaps : Ct := fun as M P => match as with
  | [.inr (some (g, s)), .inr (some (ga, a)), .inr (some (gb, b))] => g = 6 ∧ s = 0 ∧ ga = 8 ∧ gb = 8 ∧ a < 8 ∧ b < 8 ∧ SI M ∧ ∀ f : Nat → Int, GS M a b f → P (some (zi (M 8 a 1 * M 8 b 1))) (stc M 23 0 f)
  | _ => False
theorem k_X6_gatherGaps (l : Launch) : MetT l yX6_gatherGaps cX6_gatherGaps 6 (some .int) 1 T_X6_gatherGaps := by
  refine MetT.of (by decide +kernel) (fun as M P h => by unfold T_X6_gatherGaps at h; split at h <;> first | (simp [elo]; done) | exact h.elim) (fun x as M P h C hR => ?_)
  unfold T_X6_gatherGaps at h
  split at h
  rotate_left
  · exact h.elim
  rename_i g s ga a gb b
  obtain ⟨rfl, rfl, rfl, rfl, ha, hb, hI, hP⟩ := h
  have ia := hI a ha
  have ib := hI b hb
  obtain ⟨na, hna⟩ : ∃ na : Int, na = M 8 a 1 := ⟨_, rfl⟩
  obtain ⟨nb, hnb⟩ : ∃ nb : Int, nb = M 8 b 1 := ⟨_, rfl⟩
  have hmul : ∀ i : Int, 0 ≤ i → i ≤ 20 → 0 ≤ i * nb ∧ i * nb ≤ 400 ∧ (i + 1) * nb = i * nb + nb := by
    intro i h0 h1
    have e1 : i * nb ≤ 20 * nb := Int.mul_le_mul_of_nonneg_right h1 (by omega)
    have e2 : 0 ≤ i * nb := Int.mul_nonneg h0 (by omega)
    have e3 : (i + 1) * nb = i * nb + nb := by rw [Int.add_mul, Int.one_mul]
    omega
  have hlast : ∀ i : Int, i < na → 0 ≤ i → i * nb + nb ≤ 400 := by
    intro i h0 h1
    have := hmul (i + 1) (by omega) (by omega)
    have := hmul i (by omega) (by omega)
    omega
  refine B_X6_gatherGaps_0 C _ _ _ ?_
  simp only [c_iadd, c_isub, c_imul, c_ladd, c_lsub, c_lmul, c_ineg, c_lneg, c_ic, c_lc, c_iload, c_lload, c_aload, c_istore, c_astore, c_lstore, c_iinc, c_dup, c_dup2, c_goto, c_i2l, c_l2i, c_idiv, c_ldiv, c_lrem, c_lshl, c_gi, c_gl, c_gr, c_pi, c_pz, c_pl, c_iald, c_lald, c_bald, c_aald, c_iast, c_last, c_bast, c_callV, c_callS, c_mmax, c_mmin, c_mabs, c_mmaxl, c_mabsl, c_iret, c_zret, c_lret, c_vret, c_tsw, c_lsw, c_icmp_eq, c_icmp_ne, c_icmp_lt, c_icmp_ge, c_icmp_gt, c_icmp_le, c_if_eq, c_if_ne, c_if_lt, c_if_ge, c_if_gt, c_if_le, c_lcmp_eq, c_lcmp_ne, c_lcmp_lt, c_lcmp_ge, c_lcmp_gt, c_lcmp_le, c_lraw_eq, c_lraw_lt, c_lraw_ge, c_lraw_gt, c_lraw_le, acat, scat, tswP, pops, st1, st2, klo, pad, elo, List.getElem?_cons_zero, List.getElem?_cons_succ, List.getElem?_nil, List.set_cons_zero, List.set_cons_succ, List.set_nil, Option.toList_some, Option.toList_none, List.cons_append, List.nil_append, List.length_cons, List.length_nil, stc_ap, stm_ap, false_and, and_false, and_self, true_and, and_true, Nat.reduceEqDiff, reduceIte, al_12, al_13, al_14, al_15, al_16, al_17, al_18, al_19, al_20, al_21, al_22, al_23, al_24, al_25, al_26, al_27, al_28, al_29, al_30, al_31, al_32, al_33, al_34, al_35, al_36, al_37, al_38, al_39, al_40, al_41, al_42, al_43, al_44, al_45, al_46, al_47, al_48, al_49, al_50, al_51, al_52, al_53, al_54, al_55, at_12, at_13, at_14, at_15, at_16, at_17, at_18, at_19, at_20, at_21, at_22, at_23, at_24, at_25, at_26, at_27, at_28, at_29, at_30, at_31, at_32, at_33, at_34, at_35, at_36, at_37, at_38, at_39, at_40, at_41, at_42, at_43, at_44, at_45, at_46, at_47, at_48, at_49, at_50, at_51, at_52, at_53, at_54, at_55, cn_0, cn_1, cn_2, cn_3, cn_4, cn_5, cn_6, cn_7, cn_8, cn_9, cn_10, cn_11, cn_12, cn_13, cn_14, cn_15, cn_16, cn_17, cn_18, cn_19, cn_20, cn_21, cn_22, cn_23, cn_24, cn_25, cn_26, cn_27, cn_28, cn_29, cn_30, cn_31, cn_32, cn_33, cn_34, cn_35, cn_36, cn_37, cn_38, cn_39, cn_40, cn_41, cn_42, cn_43, cn_44, cn_45, cn_46, cn_47, cn_48, cn_49, cn_50, cn_51, cn_52, cn_53, cn_54, cn_55, Nat.reduceAdd, Nat.reduceLT, Nat.reduceLeDiff, Nat.lt_add_one, Nat.zero_lt_succ, Nat.reduceSub, ite_true, ite_false, reduceCtorEq, forall_const, Nat.reduceSucc, Nat.zero_add, Nat.add_zero, Nat.le_refl, Nat.zero_le, Nat.reducePow, Int.reduceNeg, Nat.reduceMul, eq_self, Int.cast_ofNat_Int, Int.toNat_natCast, iR, lR, Int.reduceEq, Int.reduceLT, Int.reduceLE, Int.reduceNe, not_false_eq_true, not_true_eq_false, false_implies, true_implies, Int.reduceAdd, Int.reduceSub, Int.reduceMul, Int.reduceToNat, implies_true, or_true, true_or, or_false, false_or]
  suffices hh : ∀ (i : Int) (M' : Mm), ((0 ≤ i ∧ i ≤ na) ∧ ∃ h : Nat → Int, M' = stc M 23 0 h ∧ (∀ v : Int, cle h v (i * nb).toNat = gpr (M 27 a) (M 27 b) nb.toNat v i.toNat) ∧ ∀ j : Nat, j < (i * nb).toNat → -1000 ≤ h j ∧ h j ≤ 1000) → J x 5 [some (zr 6 0), some (zr 8 a), some (zr 8 b), some (zi (i * nb)), some (zi i), none] [] M' by
    have q := hh 0 M ⟨by omega, M 23 0, (stc_id M 23 0).symm, fun v => by rw [Int.zero_mul]; rfl, fun j hj => by rw [Int.zero_mul] at hj; exact absurd hj (by simp)⟩
    rw [Int.zero_mul] at q
    exact q
  refine loopU na _ _ ?_
  rintro i M' ⟨hi, h, rfl, hc, hbd⟩ ih
  have mi := hmul i (by omega) (by omega)
  refine B_X6_gatherGaps_5 C hR (k_X10_sort l) (by decide) _ _ _ ?_
  simp only [c_iadd, c_isub, c_imul, c_ladd, c_lsub, c_lmul, c_ineg, c_lneg, c_ic, c_lc, c_iload, c_lload, c_aload, c_istore, c_astore, c_lstore, c_iinc, c_dup, c_dup2, c_goto, c_i2l, c_l2i, c_idiv, c_ldiv, c_lrem, c_lshl, c_gi, c_gl, c_gr, c_pi, c_pz, c_pl, c_iald, c_lald, c_bald, c_aald, c_iast, c_last, c_bast, c_callV, c_callS, c_mmax, c_mmin, c_mabs, c_mmaxl, c_mabsl, c_iret, c_zret, c_lret, c_vret, c_tsw, c_lsw, c_icmp_eq, c_icmp_ne, c_icmp_lt, c_icmp_ge, c_icmp_gt, c_icmp_le, c_if_eq, c_if_ne, c_if_lt, c_if_ge, c_if_gt, c_if_le, c_lcmp_eq, c_lcmp_ne, c_lcmp_lt, c_lcmp_ge, c_lcmp_gt, c_lcmp_le, c_lraw_eq, c_lraw_lt, c_lraw_ge, c_lraw_gt, c_lraw_le, acat, scat, tswP, pops, st1, st2, klo, pad, elo, List.getElem?_cons_zero, List.getElem?_cons_succ, List.getElem?_nil, List.set_cons_zero, List.set_cons_succ, List.set_nil, Option.toList_some, Option.toList_none, List.cons_append, List.nil_append, List.length_cons, List.length_nil, stc_ap, stm_ap, false_and, and_false, and_self, true_and, and_true, Nat.reduceEqDiff, reduceIte, al_12, al_13, al_14, al_15, al_16, al_17, al_18, al_19, al_20, al_21, al_22, al_23, al_24, al_25, al_26, al_27, al_28, al_29, al_30, al_31, al_32, al_33, al_34, al_35, al_36, al_37, al_38, al_39, al_40, al_41, al_42, al_43, al_44, al_45, al_46, al_47, al_48, al_49, al_50, al_51, al_52, al_53, al_54, al_55, at_12, at_13, at_14, at_15, at_16, at_17, at_18, at_19, at_20, at_21, at_22, at_23, at_24, at_25, at_26, at_27, at_28, at_29, at_30, at_31, at_32, at_33, at_34, at_35, at_36, at_37, at_38, at_39, at_40, at_41, at_42, at_43, at_44, at_45, at_46, at_47, at_48, at_49, at_50, at_51, at_52, at_53, at_54, at_55, cn_0, cn_1, cn_2, cn_3, cn_4, cn_5, cn_6, cn_7, cn_8, cn_9, cn_10, cn_11, cn_12, cn_13, cn_14, cn_15, cn_16, cn_17, cn_18, cn_19, cn_20, cn_21, cn_22, cn_23, cn_24, cn_25, cn_26, cn_27, cn_28, cn_29, cn_30, cn_31, cn_32, cn_33, cn_34, cn_35, cn_36, cn_37, cn_38, cn_39, cn_40, cn_41, cn_42, cn_43, cn_44, cn_45, cn_46, cn_47, cn_48, cn_49, cn_50, cn_51, cn_52, cn_53, cn_54, cn_55, Nat.reduceAdd, Nat.reduceLT, Nat.reduceLeDiff, Nat.lt_add_one, Nat.zero_lt_succ, Nat.reduceSub, ite_true, ite_false, reduceCtorEq, forall_const, Nat.reduceSucc, Nat.zero_add, Nat.add_zero, Nat.le_refl, Nat.zero_le, Nat.reducePow, Int.reduceNeg, Nat.reduceMul, eq_self, Int.cast_ofNat_Int, Int.toNat_natCast, iR, lR, Int.reduceEq, Int.reduceLT, Int.reduceLE, Int.reduceNe, not_false_eq_true, not_true_eq_false, false_implies, true_implies, Int.reduceAdd, Int.reduceSub, Int.reduceMul, Int.reduceToNat, implies_true, or_true, true_or, or_false, false_or, ha, T_X10_sort]
  refine ⟨by omega, by omega, fun q => ?_, fun q => ?_⟩
  · have ei : i = M 8 a 1 := by omega
    refine ⟨by omega, fun j hj => by have := hbd j (by omega); exact ⟨by omega, by omega⟩, fun f hpm hso => ?_⟩
    rw [stc_on]
    rw [ei, hnb] at hc hbd hpm hso ⊢
    exact hP f ⟨hso, fun v => (cle_pm hpm v).trans (hc v), pmf_all hpm (p := fun v => -1000 ≤ v ∧ v ≤ 1000) hbd⟩
  · suffices hh : ∀ (j : Int) (M' : Mm), ((0 ≤ j ∧ j ≤ nb) ∧ ∃ h : Nat → Int, M' = stc M 23 0 h ∧ (∀ v : Int, cle h v (i * nb + j).toNat = gpr (M 27 a) (M 27 b) nb.toNat v i.toNat + cle (fun j => M 27 a i.toNat - M 27 b j) v j.toNat) ∧ ∀ q : Nat, q < (i * nb + j).toNat → -1000 ≤ h q ∧ h q ≤ 1000) → J x 17 [some (zr 6 0), some (zr 8 a), some (zr 8 b), some (zi (i * nb + j)), some (zi i), some (zi j)] [] M' by
      have q := hh 0 (stc M 23 0 h) ⟨by omega, h, rfl, fun v => by rw [Int.add_zero, hc v]; show _ = _ + 0; omega, fun j hj => hbd j (by omega)⟩
      rw [Int.add_zero] at q
      exact q
    refine loopU nb _ _ ?_
    clear hc hbd h
    rintro j M' ⟨hj, h, rfl, hc, hbd⟩ ih2
    refine B_X6_gatherGaps_17 C _ _ _ ?_
    simp only [c_iadd, c_isub, c_imul, c_ladd, c_lsub, c_lmul, c_ineg, c_lneg, c_ic, c_lc, c_iload, c_lload, c_aload, c_istore, c_astore, c_lstore, c_iinc, c_dup, c_dup2, c_goto, c_i2l, c_l2i, c_idiv, c_ldiv, c_lrem, c_lshl, c_gi, c_gl, c_gr, c_pi, c_pz, c_pl, c_iald, c_lald, c_bald, c_aald, c_iast, c_last, c_bast, c_callV, c_callS, c_mmax, c_mmin, c_mabs, c_mmaxl, c_mabsl, c_iret, c_zret, c_lret, c_vret, c_tsw, c_lsw, c_icmp_eq, c_icmp_ne, c_icmp_lt, c_icmp_ge, c_icmp_gt, c_icmp_le, c_if_eq, c_if_ne, c_if_lt, c_if_ge, c_if_gt, c_if_le, c_lcmp_eq, c_lcmp_ne, c_lcmp_lt, c_lcmp_ge, c_lcmp_gt, c_lcmp_le, c_lraw_eq, c_lraw_lt, c_lraw_ge, c_lraw_gt, c_lraw_le, acat, scat, tswP, pops, st1, st2, klo, pad, elo, List.getElem?_cons_zero, List.getElem?_cons_succ, List.getElem?_nil, List.set_cons_zero, List.set_cons_succ, List.set_nil, Option.toList_some, Option.toList_none, List.cons_append, List.nil_append, List.length_cons, List.length_nil, stc_ap, stm_ap, false_and, and_false, and_self, true_and, and_true, Nat.reduceEqDiff, reduceIte, al_12, al_13, al_14, al_15, al_16, al_17, al_18, al_19, al_20, al_21, al_22, al_23, al_24, al_25, al_26, al_27, al_28, al_29, al_30, al_31, al_32, al_33, al_34, al_35, al_36, al_37, al_38, al_39, al_40, al_41, al_42, al_43, al_44, al_45, al_46, al_47, al_48, al_49, al_50, al_51, al_52, al_53, al_54, al_55, at_12, at_13, at_14, at_15, at_16, at_17, at_18, at_19, at_20, at_21, at_22, at_23, at_24, at_25, at_26, at_27, at_28, at_29, at_30, at_31, at_32, at_33, at_34, at_35, at_36, at_37, at_38, at_39, at_40, at_41, at_42, at_43, at_44, at_45, at_46, at_47, at_48, at_49, at_50, at_51, at_52, at_53, at_54, at_55, cn_0, cn_1, cn_2, cn_3, cn_4, cn_5, cn_6, cn_7, cn_8, cn_9, cn_10, cn_11, cn_12, cn_13, cn_14, cn_15, cn_16, cn_17, cn_18, cn_19, cn_20, cn_21, cn_22, cn_23, cn_24, cn_25, cn_26, cn_27, cn_28, cn_29, cn_30, cn_31, cn_32, cn_33, cn_34, cn_35, cn_36, cn_37, cn_38, cn_39, cn_40, cn_41, cn_42, cn_43, cn_44, cn_45, cn_46, cn_47, cn_48, cn_49, cn_50, cn_51, cn_52, cn_53, cn_54, cn_55, Nat.reduceAdd, Nat.reduceLT, Nat.reduceLeDiff, Nat.lt_add_one, Nat.zero_lt_succ, Nat.reduceSub, ite_true, ite_false, reduceCtorEq, forall_const, Nat.reduceSucc, Nat.zero_add, Nat.add_zero, Nat.le_refl, Nat.zero_le, Nat.reducePow, Int.reduceNeg, Nat.reduceMul, eq_self, Int.cast_ofNat_Int, Int.toNat_natCast, iR, lR, Int.reduceEq, Int.reduceLT, Int.reduceLE, Int.reduceNe, not_false_eq_true, not_true_eq_false, false_implies, true_implies, Int.reduceAdd, Int.reduceSub, Int.reduceMul, Int.reduceToNat, implies_true, or_true, true_or, or_false, false_or, ha, hb]
    have hl := hlast i (by omega) (by omega)
    refine ⟨by omega, by omega, fun q2 => ?_, fun q2 => ⟨by omega, by omega, by omega, ?_⟩⟩
    · obtain rfl : j = nb := by omega
      have e := ih (by omega) (stc M 23 0 h) ⟨by omega, h, rfl, fun v => ?_, fun q hq => hbd q (by rw [mi.2.2] at hq; exact hq)⟩
      · rw [mi.2.2] at e
        exact J_fgt [true, true, true, true, true, false] e
      · rw [mi.2.2, hc v, show (i + 1).toNat = i.toNat + 1 by omega]
        rfl
    · rw [Int.add_assoc]
      refine ih2 (by omega) _ ⟨by omega, _, stm_on M 23 0 _ h _, fun v => ?_, fun q hq => ?_⟩
      · rw [show (i * nb + (j + 1)).toNat = (i * nb + j).toNat + 1 by omega, show (j + 1).toNat = j.toNat + 1 by omega]
        show cle _ v (i * nb + j).toNat + (if (if (i * nb + j).toNat = (i * nb + j).toNat then _ else _) ≤ v then 1 else 0) = _ + (cle _ v j.toNat + if M 27 a i.toNat - M 27 b j.toNat ≤ v then 1 else 0)
        rw [if_pos rfl, cle_cg (g := h) (fun q hq => if_neg (by omega)), hc v]
        omega
      · show -1000 ≤ (if q = (i * nb + j).toNat then _ else h q) ∧ (if q = (i * nb + j).toNat then _ else h q) ≤ 1000
        by_cases e : q = (i * nb + j).toNat
        · rw [if_pos e]
          have := ia.2 i.toNat (by omega)
          have := ib.2 j.toNat (by omega)
          omega
        · rw [if_neg e]
          exact hbd q (by omega)
/-- W(u) of k chosen ones and o others -/
def wpn (k o : Nat) (u : Int) : Int := cw (fun j => (j : Int)) (k + o) k (sm (fun j => (j : Int)) k + u)
theorem wpn_nn (k o : Nat) (u : Int) : 0 ≤ wpn k o u := cw_nn _ _ _ _
theorem wpn_le (k o : Nat) (h : k + o ≤ 40) (u : Int) : wpn k o u ≤ 1099511627776 := by
  have h1 := cw_le (fun j => (j : Int)) (k + o) k (sm (fun j => (j : Int)) k + u)
  have h3 := chs_2 (k + o) k
  have h4 := pow_le (a := k + o) (b := 40) h
  have p40 : (2 : Int) ^ 40 = 1099511627776 := by decide
  unfold wpn
  omega
/-- W(0) + .. + W(t - 1) -/
def wps (k o : Nat) : Nat → Int := sm (fun u => wpn k o (u : Int))
theorem wps_in (k o : Nat) (h : k + o ≤ 40) (t : Nat) : 0 ≤ wps k o t ∧ wps k o t ≤ t * 1099511627776 := sm_in (by decide) (fun j _ => ⟨wpn_nn k o j, wpn_le k o h j⟩)
/-- r is the class's step -/
def stepOk (k o : Nat) (p q r : Int) : Prop := (0 ≤ r ∧ r ≤ (k : Int) * o / 2) ∧ (∀ t : Nat, (t : Int) < r → 2 * q * wps k o (t + 1) ≤ p * chs (k + o) k) ∧ (r < (k : Int) * o / 2 → p * chs (k + o) k < 2 * q * wps k o (r.toNat + 1))
def T_X6_findStep : Ct := fun as M P => match as with
  | [.inr (some (g, s)), .inl (.inl k), .inl (.inl o), .inl (.inl p), .inl (.inl q)] => g = 6 ∧ s = 0 ∧ RI M ∧ CI M ∧ (1 ≤ k ∧ k ≤ 20) ∧ (1 ≤ o ∧ o ≤ 20) ∧ (0 < p ∧ p < q ∧ q ≤ 1000) ∧ ∀ (M' : Mm) (r : Int), (∀ g' : Nat, ¬ g' = 9 → ¬ g' = 28 → ¬ g' = 29 → M' g' = M g') → stepOk k.toNat o.toNat p q r → P (some (zi r)) M'
  | _ => False
theorem k_X6_findStep (l : Launch) : MetT l yX6_findStep cX6_findStep 10 (some .int) 4 T_X6_findStep := by
  refine MetT.of (by decide +kernel) (fun as M P h => by unfold T_X6_findStep at h; split at h <;> first | (simp [elo]; done) | exact h.elim) (fun x as M P h C hR => ?_)
  unfold T_X6_findStep at h
  split at h
  rotate_left
  · exact h.elim
  rename_i g s k o p q
  obtain ⟨rfl, rfl, hI, hC, hk, ho, hpq, hP⟩ := h
  refine B_X6_findStep_0 C (k_X6_countPairs l) (by decide) (k_X0_of l) (by decide) _ _ _ ?_
  simp only [c_iadd, c_isub, c_imul, c_ladd, c_lsub, c_lmul, c_ineg, c_lneg, c_ic, c_lc, c_iload, c_lload, c_aload, c_istore, c_astore, c_lstore, c_iinc, c_dup, c_dup2, c_goto, c_i2l, c_l2i, c_idiv, c_ldiv, c_lrem, c_lshl, c_gi, c_gl, c_gr, c_pi, c_pz, c_pl, c_iald, c_lald, c_bald, c_aald, c_iast, c_last, c_bast, c_callV, c_callS, c_mmax, c_mmin, c_mabs, c_mmaxl, c_mabsl, c_iret, c_zret, c_lret, c_vret, c_tsw, c_lsw, c_icmp_eq, c_icmp_ne, c_icmp_lt, c_icmp_ge, c_icmp_gt, c_icmp_le, c_if_eq, c_if_ne, c_if_lt, c_if_ge, c_if_gt, c_if_le, c_lcmp_eq, c_lcmp_ne, c_lcmp_lt, c_lcmp_ge, c_lcmp_gt, c_lcmp_le, c_lraw_eq, c_lraw_lt, c_lraw_ge, c_lraw_gt, c_lraw_le, acat, scat, tswP, pops, st1, st2, klo, pad, elo, List.getElem?_cons_zero, List.getElem?_cons_succ, List.getElem?_nil, List.set_cons_zero, List.set_cons_succ, List.set_nil, Option.toList_some, Option.toList_none, List.cons_append, List.nil_append, List.length_cons, List.length_nil, stc_ap, stm_ap, false_and, and_false, and_self, true_and, and_true, Nat.reduceEqDiff, reduceIte, al_12, al_13, al_14, al_15, al_16, al_17, al_18, al_19, al_20, al_21, al_22, al_23, al_24, al_25, al_26, al_27, al_28, al_29, al_30, al_31, al_32, al_33, al_34, al_35, al_36, al_37, al_38, al_39, al_40, al_41, al_42, al_43, al_44, al_45, al_46, al_47, al_48, al_49, al_50, al_51, al_52, al_53, al_54, al_55, at_12, at_13, at_14, at_15, at_16, at_17, at_18, at_19, at_20, at_21, at_22, at_23, at_24, at_25, at_26, at_27, at_28, at_29, at_30, at_31, at_32, at_33, at_34, at_35, at_36, at_37, at_38, at_39, at_40, at_41, at_42, at_43, at_44, at_45, at_46, at_47, at_48, at_49, at_50, at_51, at_52, at_53, at_54, at_55, cn_0, cn_1, cn_2, cn_3, cn_4, cn_5, cn_6, cn_7, cn_8, cn_9, cn_10, cn_11, cn_12, cn_13, cn_14, cn_15, cn_16, cn_17, cn_18, cn_19, cn_20, cn_21, cn_22, cn_23, cn_24, cn_25, cn_26, cn_27, cn_28, cn_29, cn_30, cn_31, cn_32, cn_33, cn_34, cn_35, cn_36, cn_37, cn_38, cn_39, cn_40, cn_41, cn_42, cn_43, cn_44, cn_45, cn_46, cn_47, cn_48, cn_49, cn_50, cn_51, cn_52, cn_53, cn_54, cn_55, Nat.reduceAdd, Nat.reduceLT, Nat.reduceLeDiff, Nat.lt_add_one, Nat.zero_lt_succ, Nat.reduceSub, ite_true, ite_false, reduceCtorEq, forall_const, Nat.reduceSucc, Nat.zero_add, Nat.add_zero, Nat.le_refl, Nat.zero_le, Nat.reducePow, Int.reduceNeg, Nat.reduceMul, eq_self, Int.cast_ofNat_Int, Int.toNat_natCast, iR, lR, Int.reduceEq, Int.reduceLT, Int.reduceLE, Int.reduceNe, not_false_eq_true, not_true_eq_false, false_implies, true_implies, Int.reduceAdd, Int.reduceSub, Int.reduceMul, Int.reduceToNat, implies_true, or_true, true_or, or_false, false_or, T_X6_countPairs, T_X0_of]
  have m1 : 0 ≤ k * o ∧ k * o ≤ k * 20 := ⟨Int.mul_nonneg (by omega) (by omega), Int.mul_le_mul_of_nonneg_left (by omega) (by omega)⟩
  have hr : ∀ j : Nat, j < (k + o).toNat → 0 ≤ M 22 0 j ∧ M 22 0 j ≤ 1000 := fun j hj => by rw [hI j (by omega)]; omega
  have hso : srt (M 22 0) (k + o).toNat := fun i j e1 e2 => by rw [hI i (by omega), hI j (by omega)]; omega
  refine ⟨hI, by omega, by omega, fun M1 hf e2 e3 e4 hw => ⟨by omega, CI_cg (hf 12 (by decide) (by decide) (by decide)) hC, by omega, by omega, ?_⟩⟩
  have g1 := gsm_in (f := M 22 0) (n := (k + o).toNat) (k := k.toNat) (c := 1000) (by omega) hr
  have g2 := sm_in (f := M 22 0) (n := k.toNat) (c := 1000) (by decide) (fun q hq => hr q (by omega))
  have b1 := sos_in (j := k.toNat) (by omega)
  rw [show ((k.toNat : Nat) : Int) = k by omega] at b1 g1 g2
  have ech : chI (k + o) k = chs (k.toNat + o.toNat) k.toNat := by
    unfold chI
    rw [if_neg (by omega), show (k + o).toNat = k.toNat + o.toNat by omega]
  rw [ech]
  have hWn : ∀ u : Int, cw (M 22 0) (k + o).toNat k.toNat (sm (M 22 0) k.toNat + u) = wpn k.toNat o.toNat u := by
    intro u
    unfold wpn
    rw [show (k + o).toNat = k.toNat + o.toNat by omega, cw_cg (g := fun j => (j : Int)) (fun j hj => hI j (by omega)), sm_cg (g := fun j => (j : Int)) (fun j hj => hI j (by omega))]
  have hOf : ∀ u : Int, 0 ≤ u → (if sm (M 22 0) k.toNat ≤ sm (M 22 0) k.toNat + u ∧ sm (M 22 0) k.toNat + u ≤ gsm (M 22 0) (k + o).toNat k.toNat then M1 28 0 (sos k + (sm (M 22 0) k.toNat + u)).toNat else 0) = wpn k.toNat o.toNat u := by
    intro u hu
    rw [← hWn]
    by_cases c : sm (M 22 0) k.toNat ≤ sm (M 22 0) k.toNat + u ∧ sm (M 22 0) k.toNat + u ≤ gsm (M 22 0) (k + o).toNat k.toNat
    · rw [if_pos c, hw _ c.1 c.2]
    · rw [if_neg c]
      exact Eq.symm (Classical.byContradiction fun z => c (cw_supp hso (by omega) z))
  have hT0 := chs_nn (k.toNat + o.toNat) k.toNat
  have hT1 := chs_2 (k.toNat + o.toNat) k.toNat
  have h4 := pow_le (a := k.toNat + o.toNat) (b := 40) (by omega)
  have p40 : (2 : Int) ^ 40 = 1099511627776 := by decide
  generalize hT : chs (k.toNat + o.toNat) k.toNat = TT at hT0 hT1 ⊢
  have hpT : 0 ≤ p * TT ∧ p * TT ≤ 1000 * 1099511627776 := by
    refine ⟨Int.mul_nonneg (by omega) (by omega), ?_⟩
    have a1 : p * TT ≤ 1000 * TT := Int.mul_le_mul_of_nonneg_right (by omega) (by omega)
    omega
  have hko : ((k.toNat : Nat) : Int) * ((o.toNat : Nat) : Int) = k * o := by rw [show ((k.toNat : Nat) : Int) = k by omega, show ((o.toNat : Nat) : Int) = o by omega]
  suffices hh : ∀ (t : Int) (M' : Mm), (M1 = M' ∧ (0 ≤ t ∧ t ≤ k * o / 2) ∧ ∀ u : Nat, (u : Int) < t → 2 * q * wps k.toNat o.toNat (u + 1) ≤ p * TT) → J x 28 [some (zr 6 0), some (zi k), some (zi o), some (zi p), some (zi q), some (zl (p * TT)), none, some (zl (wps k.toNat o.toNat t.toNat)), none, some (zi t)] [] M' by
    exact hh 0 M1 ⟨rfl, by omega, fun u hu => by omega⟩
  refine loopU (k * o / 2) _ _ ?_
  rintro t M' ⟨rfl, ht, hle⟩ ih
  refine B_X6_findStep_28 C hR (k_X9_of l) (by decide) _ _ _ ?_
  simp only [c_iadd, c_isub, c_imul, c_ladd, c_lsub, c_lmul, c_ineg, c_lneg, c_ic, c_lc, c_iload, c_lload, c_aload, c_istore, c_astore, c_lstore, c_iinc, c_dup, c_dup2, c_goto, c_i2l, c_l2i, c_idiv, c_ldiv, c_lrem, c_lshl, c_gi, c_gl, c_gr, c_pi, c_pz, c_pl, c_iald, c_lald, c_bald, c_aald, c_iast, c_last, c_bast, c_callV, c_callS, c_mmax, c_mmin, c_mabs, c_mmaxl, c_mabsl, c_iret, c_zret, c_lret, c_vret, c_tsw, c_lsw, c_icmp_eq, c_icmp_ne, c_icmp_lt, c_icmp_ge, c_icmp_gt, c_icmp_le, c_if_eq, c_if_ne, c_if_lt, c_if_ge, c_if_gt, c_if_le, c_lcmp_eq, c_lcmp_ne, c_lcmp_lt, c_lcmp_ge, c_lcmp_gt, c_lcmp_le, c_lraw_eq, c_lraw_lt, c_lraw_ge, c_lraw_gt, c_lraw_le, acat, scat, tswP, pops, st1, st2, klo, pad, elo, List.getElem?_cons_zero, List.getElem?_cons_succ, List.getElem?_nil, List.set_cons_zero, List.set_cons_succ, List.set_nil, Option.toList_some, Option.toList_none, List.cons_append, List.nil_append, List.length_cons, List.length_nil, stc_ap, stm_ap, false_and, and_false, and_self, true_and, and_true, Nat.reduceEqDiff, reduceIte, al_12, al_13, al_14, al_15, al_16, al_17, al_18, al_19, al_20, al_21, al_22, al_23, al_24, al_25, al_26, al_27, al_28, al_29, al_30, al_31, al_32, al_33, al_34, al_35, al_36, al_37, al_38, al_39, al_40, al_41, al_42, al_43, al_44, al_45, al_46, al_47, al_48, al_49, al_50, al_51, al_52, al_53, al_54, al_55, at_12, at_13, at_14, at_15, at_16, at_17, at_18, at_19, at_20, at_21, at_22, at_23, at_24, at_25, at_26, at_27, at_28, at_29, at_30, at_31, at_32, at_33, at_34, at_35, at_36, at_37, at_38, at_39, at_40, at_41, at_42, at_43, at_44, at_45, at_46, at_47, at_48, at_49, at_50, at_51, at_52, at_53, at_54, at_55, cn_0, cn_1, cn_2, cn_3, cn_4, cn_5, cn_6, cn_7, cn_8, cn_9, cn_10, cn_11, cn_12, cn_13, cn_14, cn_15, cn_16, cn_17, cn_18, cn_19, cn_20, cn_21, cn_22, cn_23, cn_24, cn_25, cn_26, cn_27, cn_28, cn_29, cn_30, cn_31, cn_32, cn_33, cn_34, cn_35, cn_36, cn_37, cn_38, cn_39, cn_40, cn_41, cn_42, cn_43, cn_44, cn_45, cn_46, cn_47, cn_48, cn_49, cn_50, cn_51, cn_52, cn_53, cn_54, cn_55, Nat.reduceAdd, Nat.reduceLT, Nat.reduceLeDiff, Nat.lt_add_one, Nat.zero_lt_succ, Nat.reduceSub, ite_true, ite_false, reduceCtorEq, forall_const, Nat.reduceSucc, Nat.zero_add, Nat.add_zero, Nat.le_refl, Nat.zero_le, Nat.reducePow, Int.reduceNeg, Nat.reduceMul, eq_self, Int.cast_ofNat_Int, Int.toNat_natCast, iR, lR, Int.reduceEq, Int.reduceLT, Int.reduceLE, Int.reduceNe, not_false_eq_true, not_true_eq_false, false_implies, true_implies, Int.reduceAdd, Int.reduceSub, Int.reduceMul, Int.reduceToNat, implies_true, or_true, true_or, or_false, false_or, T_X9_of, e2, e3, e4]
  rw [hOf t (by omega)]
  have hst : wps k.toNat o.toNat t.toNat + wpn k.toNat o.toNat t = wps k.toNat o.toNat (t.toNat + 1) := by
    show _ = wps k.toNat o.toNat t.toNat + wpn k.toNat o.toNat ((t.toNat : Nat) : Int)
    rw [show ((t.toNat : Nat) : Int) = t by omega]
  rw [hst]
  have hws := wps_in k.toNat o.toNat (by omega) (t.toNat + 1)
  have hqw : 0 ≤ 2 * q * wps k.toNat o.toNat (t.toNat + 1) ∧ 2 * q * wps k.toNat o.toNat (t.toNat + 1) ≤ 2000 * (300 * 1099511627776) := by
    refine ⟨Int.mul_nonneg (by omega) (by omega), ?_⟩
    have a1 : 2 * q * wps k.toNat o.toNat (t.toNat + 1) ≤ 2000 * wps k.toNat o.toNat (t.toNat + 1) := Int.mul_le_mul_of_nonneg_right (by omega) (by omega)
    omega
  refine ⟨by omega, by omega, by omega, fun z => ⟨by omega, ?_⟩, fun z => ⟨by omega, by omega, by omega, fun _ _ => by omega, by omega, by omega, by omega, fun z2 => ?_, fun z2 => ?_⟩⟩
  · refine hP M1 _ hf ⟨by rw [hko]; omega, fun u hu => ?_, fun h => by rw [hko] at h; omega⟩
    rw [hT]
    exact hle u (by omega)
  · have e := ih (by omega) M1 ⟨rfl, by omega, fun u hu => ?_⟩
    · rw [show (t + 1).toNat = t.toNat + 1 by omega] at e
      exact e
    · by_cases c : u = t.toNat
      · rw [c]; exact z2
      · exact hle u (by omega)
  · refine hP M1 _ hf ⟨by rw [hko]; omega, fun u hu => ?_, fun h => ?_⟩
    · rw [hT]
      exact hle u (by omega)
    · rw [hT]
      omega
