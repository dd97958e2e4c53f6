/-! CloudBench$Roll: shares compared, the least one left, which are called different; the reference's likewise -/
/-- -1, 0, 1: a / b is less than c / d, the same, more -/
def cmpS (a b c d : Int) : Int := if a * d < c * b then -1 else if c * b < a * d then 1 else 0
theorem cmpS_swap (a b c d : Int) : cmpS c d a b = -cmpS a b c d := by
  unfold cmpS
  by_cases c1 : a * d < c * b
  · rw [if_neg (by omega), if_pos c1, if_pos c1]; rfl
  · rw [if_neg c1, if_neg c1]
    by_cases c2 : c * b < a * d
    · rw [if_pos c2, if_pos c2]
    · rw [if_neg c2, if_neg c2]; rfl
/-- one step of the two fractions -/
theorem cmpS_step {a b c d : Int} (hb : 0 < b) (hd : 0 < d) (hq : a / b = c / d) : cmpS a b c d = cmpS d (c % d) b (a % b) ∧ cmpS a b c d = if (a % b) * d < (c % d) * b then -1 else if (c % d) * b < (a % b) * d then 1 else 0 := by
  have e1 := Int.mul_ediv_add_emod a b
  have e2 := Int.mul_ediv_add_emod c d
  rw [← hq] at e2
  generalize a / b = q at e1 e2
  generalize a % b = r at e1 ⊢
  generalize c % d = s at e2 ⊢
  have h1 : a * d = b * q * d + r * d := by rw [← e1, Int.add_mul]
  have h2 : c * b = b * q * d + s * b := by
    rw [← e2, Int.add_mul]
    congr 1
    rw [Int.mul_comm (d * q) b, ← Int.mul_assoc, Int.mul_comm (b * d) q, ← Int.mul_assoc, Int.mul_comm q b]
  have h3 : cmpS a b c d = if r * d < s * b then -1 else if s * b < r * d then 1 else 0 := by
    unfold cmpS
    rw [h1, h2]
    by_cases c1 : r * d < s * b
    · rw [if_pos c1, if_pos (by omega)]
    · rw [if_neg c1, if_neg (by omega)]
      by_cases c2 : s * b < r * d
      · rw [if_pos c2, if_pos (by omega)]
      · rw [if_neg c2, if_neg (by omega)]
  refine ⟨?_, h3⟩
  rw [h3]
  unfold cmpS
  rw [Int.mul_comm d r, Int.mul_comm b s]
theorem cmpS_lt {a b c d : Int} (hb : 0 < b) (hd : 0 < d) (hq : a / b < c / d) : cmpS a b c d = -1 := by
  have h1 : a < (a / b + 1) * b := Int.lt_ediv_add_one_mul_self a hb
  have h2 : c / d * d ≤ c := Int.ediv_mul_le c (by omega)
  have h3 : a * d < (a / b + 1) * b * d := Int.mul_lt_mul_of_pos_right h1 hd
  have h4 : (a / b + 1) * (b * d) ≤ c / d * (b * d) := Int.mul_le_mul_of_nonneg_right (by omega) (Int.mul_nonneg (by omega) (by omega))
  have h5 : c / d * d * b ≤ c * b := Int.mul_le_mul_of_nonneg_right h2 (by omega)
  rw [Int.mul_assoc] at h3 h5
  rw [Int.mul_comm d b] at h5
  unfold cmpS
  rw [if_pos (by omega)]
theorem cmpS_0 {b d r s : Int} (hb : 0 < b) (hd : 0 < d) (hr : 0 ≤ r) (hs : 0 ≤ s) (h : r = 0 ∨ s = 0) : (if r * d < s * b then (-1 : Int) else if s * b < r * d then 1 else 0) = if r < s then -1 else if s < r then 1 else 0 := by
  rcases h with rfl | rfl
  · rw [Int.zero_mul]
    by_cases c : s = 0
    · subst c; simp
    · have : 0 < s * b := Int.mul_pos (by omega) hb
      rw [if_pos this, if_pos (by omega)]
  · rw [Int.zero_mul]
    by_cases c : r = 0
    · subst c; simp
    · have : 0 < r * d := Int.mul_pos (by omega) hd
      rw [if_neg (by omega), if_pos this, if_neg (by omega), if_pos (by omega)]
/-- products halve from step to step -/
theorem halve {a b : Int} (hb : 0 < b) (hab : b ≤ a) : 2 * (b * (a % b)) < a * b := by
  have e1 := Int.mul_ediv_add_emod a b
  have h1 := Int.emod_lt_of_pos a hb
  have h0 := Int.emod_nonneg a (by omega : b ≠ 0)
  have hq : 1 ≤ a / b := by
    have := Int.ediv_le_ediv hb hab
    rw [Int.ediv_self (by omega)] at this
    exact this
  have h2 : b * 1 ≤ b * (a / b) := Int.mul_le_mul_of_nonneg_left hq (by omega)
  have h3 : 2 * (a % b) < a := by omega
  have h4 : 2 * (a % b) * b < a * b := Int.mul_lt_mul_of_pos_right h3 hb
  rw [Int.mul_assoc, Int.mul_comm (a % b) b] at h4
  exact h4
def shR (a b c d : Int) : Prop := (0 ≤ a ∧ a < 9223372036854775808) ∧ (0 < b ∧ b < 9223372036854775808) ∧ (0 ≤ c ∧ c < 9223372036854775808) ∧ (0 < d ∧ d < 9223372036854775808)
def T_X7_compareShares : Ct := fun as M P => match as with
  | [.inl (.inr a), .inl (.inr b), .inl (.inr c), .inl (.inr d)] => shR a b c d ∧ P (some (zi (cmpS a b c d))) M
  | _ => False
theorem k_X7_compareShares (l : Launch) : MetT l yX7_compareShares cX7_compareShares 14 (some .int) 1 T_X7_compareShares := by
  refine MetT.of (by decide +kernel) (fun as M P h => by unfold T_X7_compareShares at h; split at h <;> first | (simp [elo]; done) | exact h.elim) (fun x as M P h C hR => ?_)
  unfold T_X7_compareShares at h
  split at h
  rotate_left
  · exact h.elim
  rename_i a b c d
  obtain ⟨hsh, hP⟩ := h
  refine B_X7_compareShares_0 C _ _ _ ?_
  simp only [c_iadd, c_isub, c_imul, c_ladd, c_lsub, c_lmul, c_ineg, c_lneg, c_ic, c_lc, c_iload, c_lload, c_aload, c_istore, c_astore, c_lstore, c_iinc, c_dup, c_dup2, c_goto, c_i2l, c_l2i, c_idiv, c_ldiv, c_lrem, c_lshl, c_gi, c_gl, c_gr, c_pi, c_pz, c_pl, c_iald, c_lald, c_bald, c_aald, c_iast, c_last, c_bast, c_callV, c_callS, c_mmax, c_mmin, c_mabs, c_mmaxl, c_mabsl, c_iret, c_zret, c_lret, c_vret, c_tsw, c_lsw, c_icmp_eq, c_icmp_ne, c_icmp_lt, c_icmp_ge, c_icmp_gt, c_icmp_le, c_if_eq, c_if_ne, c_if_lt, c_if_ge, c_if_gt, c_if_le, c_lcmp_eq, c_lcmp_ne, c_lcmp_lt, c_lcmp_ge, c_lcmp_gt, c_lcmp_le, c_lraw_eq, c_lraw_lt, c_lraw_ge, c_lraw_gt, c_lraw_le, acat, scat, tswP, pops, st1, st2, klo, pad, elo, List.getElem?_cons_zero, List.getElem?_cons_succ, List.getElem?_nil, List.set_cons_zero, List.set_cons_succ, List.set_nil, Option.toList_some, Option.toList_none, List.cons_append, List.nil_append, List.length_cons, List.length_nil, stc_ap, stm_ap, false_and, and_false, and_self, true_and, and_true, Nat.reduceEqDiff, reduceIte, al_12, al_13, al_14, al_15, al_16, al_17, al_18, al_19, al_20, al_21, al_22, al_23, al_24, al_25, al_26, al_27, al_28, al_29, al_30, al_31, al_32, al_33, al_34, al_35, al_36, al_37, al_38, al_39, al_40, al_41, al_42, al_43, al_44, al_45, al_46, al_47, al_48, al_49, al_50, al_51, al_52, al_53, al_54, al_55, at_12, at_13, at_14, at_15, at_16, at_17, at_18, at_19, at_20, at_21, at_22, at_23, at_24, at_25, at_26, at_27, at_28, at_29, at_30, at_31, at_32, at_33, at_34, at_35, at_36, at_37, at_38, at_39, at_40, at_41, at_42, at_43, at_44, at_45, at_46, at_47, at_48, at_49, at_50, at_51, at_52, at_53, at_54, at_55, cn_0, cn_1, cn_2, cn_3, cn_4, cn_5, cn_6, cn_7, cn_8, cn_9, cn_10, cn_11, cn_12, cn_13, cn_14, cn_15, cn_16, cn_17, cn_18, cn_19, cn_20, cn_21, cn_22, cn_23, cn_24, cn_25, cn_26, cn_27, cn_28, cn_29, cn_30, cn_31, cn_32, cn_33, cn_34, cn_35, cn_36, cn_37, cn_38, cn_39, cn_40, cn_41, cn_42, cn_43, cn_44, cn_45, cn_46, cn_47, cn_48, cn_49, cn_50, cn_51, cn_52, cn_53, cn_54, cn_55, Nat.reduceAdd, Nat.reduceLT, Nat.reduceLeDiff, Nat.lt_add_one, Nat.zero_lt_succ, Nat.reduceSub, ite_true, ite_false, reduceCtorEq, forall_const, Nat.reduceSucc, Nat.zero_add, Nat.add_zero, Nat.le_refl, Nat.zero_le, Nat.reducePow, Int.reduceNeg, Nat.reduceMul, eq_self, Int.cast_ofNat_Int, Int.toNat_natCast, iR, lR, Int.reduceEq, Int.reduceLT, Int.reduceLE, Int.reduceNe, not_false_eq_true, not_true_eq_false, false_implies, true_implies, Int.reduceAdd, Int.reduceSub, Int.reduceMul, Int.reduceToNat, implies_true, or_true, true_or, or_false, false_or]
  suffices hh : ∀ u : Int × Int × Int × Int × Int × Int, ((0 ≤ u.1 ∧ (u.1 = 0 ∨ (u.2.2.1 ≤ u.2.1 ∧ u.2.1 * u.2.2.1 * 2 ^ (u.1 - 1).toNat < 2 ^ 126))) ∧ shR u.2.1 u.2.2.1 u.2.2.2.1 u.2.2.2.2.1 ∧ (u.2.2.2.2.2 = 1 ∨ u.2.2.2.2.2 = -1) ∧ cmpS a b c d = u.2.2.2.2.2 * cmpS u.2.1 u.2.2.1 u.2.2.2.1 u.2.2.2.2.1) → J x 6 [some (zl u.2.1), none, some (zl u.2.2.1), none, some (zl u.2.2.2.1), none, some (zl u.2.2.2.2.1), none, some (zi u.2.2.2.2.2), some (zi u.1), none, none, none, none] [] M by
    exact hh (0, a, b, c, d, 1) ⟨⟨Int.le_refl 0, Or.inl rfl⟩, hsh, Or.inl rfl, (Int.one_mul _).symm⟩
  refine loopM (fun u => u.2.2.1.toNat) _ _ ?_
  rintro ⟨i, a', b', c', d', sg⟩ ⟨hi, ⟨ha, hb, hc, hd⟩, hsg, hcm⟩ ih
  simp only at hi ha hb hc hd hsg hcm ih ⊢
  refine B_X7_compareShares_6 C hR _ _ _ ?_
  simp only [c_iadd, c_isub, c_imul, c_ladd, c_lsub, c_lmul, c_ineg, c_lneg, c_ic, c_lc, c_iload, c_lload, c_aload, c_istore, c_astore, c_lstore, c_iinc, c_dup, c_dup2, c_goto, c_i2l, c_l2i, c_idiv, c_ldiv, c_lrem, c_lshl, c_gi, c_gl, c_gr, c_pi, c_pz, c_pl, c_iald, c_lald, c_bald, c_aald, c_iast, c_last, c_bast, c_callV, c_callS, c_mmax, c_mmin, c_mabs, c_mmaxl, c_mabsl, c_iret, c_zret, c_lret, c_vret, c_tsw, c_lsw, c_icmp_eq, c_icmp_ne, c_icmp_lt, c_icmp_ge, c_icmp_gt, c_icmp_le, c_if_eq, c_if_ne, c_if_lt, c_if_ge, c_if_gt, c_if_le, c_lcmp_eq, c_lcmp_ne, c_lcmp_lt, c_lcmp_ge, c_lcmp_gt, c_lcmp_le, c_lraw_eq, c_lraw_lt, c_lraw_ge, c_lraw_gt, c_lraw_le, acat, scat, tswP, pops, st1, st2, klo, pad, elo, List.getElem?_cons_zero, List.getElem?_cons_succ, List.getElem?_nil, List.set_cons_zero, List.set_cons_succ, List.set_nil, Option.toList_some, Option.toList_none, List.cons_append, List.nil_append, List.length_cons, List.length_nil, stc_ap, stm_ap, false_and, and_false, and_self, true_and, and_true, Nat.reduceEqDiff, reduceIte, al_12, al_13, al_14, al_15, al_16, al_17, al_18, al_19, al_20, al_21, al_22, al_23, al_24, al_25, al_26, al_27, al_28, al_29, al_30, al_31, al_32, al_33, al_34, al_35, al_36, al_37, al_38, al_39, al_40, al_41, al_42, al_43, al_44, al_45, al_46, al_47, al_48, al_49, al_50, al_51, al_52, al_53, al_54, al_55, at_12, at_13, at_14, at_15, at_16, at_17, at_18, at_19, at_20, at_21, at_22, at_23, at_24, at_25, at_26, at_27, at_28, at_29, at_30, at_31, at_32, at_33, at_34, at_35, at_36, at_37, at_38, at_39, at_40, at_41, at_42, at_43, at_44, at_45, at_46, at_47, at_48, at_49, at_50, at_51, at_52, at_53, at_54, at_55, cn_0, cn_1, cn_2, cn_3, cn_4, cn_5, cn_6, cn_7, cn_8, cn_9, cn_10, cn_11, cn_12, cn_13, cn_14, cn_15, cn_16, cn_17, cn_18, cn_19, cn_20, cn_21, cn_22, cn_23, cn_24, cn_25, cn_26, cn_27, cn_28, cn_29, cn_30, cn_31, cn_32, cn_33, cn_34, cn_35, cn_36, cn_37, cn_38, cn_39, cn_40, cn_41, cn_42, cn_43, cn_44, cn_45, cn_46, cn_47, cn_48, cn_49, cn_50, cn_51, cn_52, cn_53, cn_54, cn_55, Nat.reduceAdd, Nat.reduceLT, Nat.reduceLeDiff, Nat.lt_add_one, Nat.zero_lt_succ, Nat.reduceSub, ite_true, ite_false, reduceCtorEq, forall_const, Nat.reduceSucc, Nat.zero_add, Nat.add_zero, Nat.le_refl, Nat.zero_le, Nat.reducePow, Int.reduceNeg, Nat.reduceMul, eq_self, Int.cast_ofNat_Int, Int.toNat_natCast, iR, lR, Int.reduceEq, Int.reduceLT, Int.reduceLE, Int.reduceNe, not_false_eq_true, not_true_eq_false, false_implies, true_implies, Int.reduceAdd, Int.reduceSub, Int.reduceMul, Int.reduceToNat, implies_true, or_true, true_or, or_false, false_or]
  have hi2 : i < 200 := by
    rcases hi.2 with h | ⟨h1, h2⟩
    · omega
    · apply Classical.byContradiction
      intro hge
      have p1 : 1 ≤ a' * b' := Int.mul_pos (by omega) (by omega)
      have p2 : (2 : Int) ^ 126 ≤ 2 ^ (i - 1).toNat := pow_le (by omega)
      have p3 : 1 * 2 ^ (i - 1).toNat ≤ a' * b' * 2 ^ (i - 1).toNat := Int.mul_le_mul_of_nonneg_right p1 (by omega)
      omega
  have q1 : 0 ≤ a' / b' ∧ a' / b' ≤ a' := ⟨Int.ediv_nonneg (by omega) (by omega), Int.ediv_le_self _ (by omega)⟩
  have q2 : 0 ≤ c' / d' ∧ c' / d' ≤ c' := ⟨Int.ediv_nonneg (by omega) (by omega), Int.ediv_le_self _ (by omega)⟩
  have r1 := Int.emod_lt_of_pos a' hb.1
  have r2 := Int.emod_nonneg a' (by omega : b' ≠ 0)
  have r3 := Int.emod_lt_of_pos c' hd.1
  have r4 := Int.emod_nonneg c' (by omega : d' ≠ 0)
  have h86 : (a' % b' = 0 ∨ c' % d' = 0) → a' / b' = c' / d' → J x 86 [some (zl a'), none, some (zl b'), none, some (zl c'), none, some (zl d'), none, some (zi sg), some (zi i), some (zl (a' % b')), none, some (zl (c' % d')), none] [] M := by
    intro hz hq
    refine B_X7_compareShares_86 C hR (k_J13_compare_74951 l) (by decide) _ _ _ ?_
    simp only [c_iadd, c_isub, c_imul, c_ladd, c_lsub, c_lmul, c_ineg, c_lneg, c_ic, c_lc, c_iload, c_lload, c_aload, c_istore, c_astore, c_lstore, c_iinc, c_dup, c_dup2, c_goto, c_i2l, c_l2i, c_idiv, c_ldiv, c_lrem, c_lshl, c_gi, c_gl, c_gr, c_pi, c_pz, c_pl, c_iald, c_lald, c_bald, c_aald, c_iast, c_last, c_bast, c_callV, c_callS, c_mmax, c_mmin, c_mabs, c_mmaxl, c_mabsl, c_iret, c_zret, c_lret, c_vret, c_tsw, c_lsw, c_icmp_eq, c_icmp_ne, c_icmp_lt, c_icmp_ge, c_icmp_gt, c_icmp_le, c_if_eq, c_if_ne, c_if_lt, c_if_ge, c_if_gt, c_if_le, c_lcmp_eq, c_lcmp_ne, c_lcmp_lt, c_lcmp_ge, c_lcmp_gt, c_lcmp_le, c_lraw_eq, c_lraw_lt, c_lraw_ge, c_lraw_gt, c_lraw_le, acat, scat, tswP, pops, st1, st2, klo, pad, elo, List.getElem?_cons_zero, List.getElem?_cons_succ, List.getElem?_nil, List.set_cons_zero, List.set_cons_succ, List.set_nil, Option.toList_some, Option.toList_none, List.cons_append, List.nil_append, List.length_cons, List.length_nil, stc_ap, stm_ap, false_and, and_false, and_self, true_and, and_true, Nat.reduceEqDiff, reduceIte, al_12, al_13, al_14, al_15, al_16, al_17, al_18, al_19, al_20, al_21, al_22, al_23, al_24, al_25, al_26, al_27, al_28, al_29, al_30, al_31, al_32, al_33, al_34, al_35, al_36, al_37, al_38, al_39, al_40, al_41, al_42, al_43, al_44, al_45, al_46, al_47, al_48, al_49, al_50, al_51, al_52, al_53, al_54, al_55, at_12, at_13, at_14, at_15, at_16, at_17, at_18, at_19, at_20, at_21, at_22, at_23, at_24, at_25, at_26, at_27, at_28, at_29, at_30, at_31, at_32, at_33, at_34, at_35, at_36, at_37, at_38, at_39, at_40, at_41, at_42, at_43, at_44, at_45, at_46, at_47, at_48, at_49, at_50, at_51, at_52, at_53, at_54, at_55, cn_0, cn_1, cn_2, cn_3, cn_4, cn_5, cn_6, cn_7, cn_8, cn_9, cn_10, cn_11, cn_12, cn_13, cn_14, cn_15, cn_16, cn_17, cn_18, cn_19, cn_20, cn_21, cn_22, cn_23, cn_24, cn_25, cn_26, cn_27, cn_28, cn_29, cn_30, cn_31, cn_32, cn_33, cn_34, cn_35, cn_36, cn_37, cn_38, cn_39, cn_40, cn_41, cn_42, cn_43, cn_44, cn_45, cn_46, cn_47, cn_48, cn_49, cn_50, cn_51, cn_52, cn_53, cn_54, cn_55, Nat.reduceAdd, Nat.reduceLT, Nat.reduceLeDiff, Nat.lt_add_one, Nat.zero_lt_succ, Nat.reduceSub, ite_true, ite_false, reduceCtorEq, forall_const, Nat.reduceSucc, Nat.zero_add, Nat.add_zero, Nat.le_refl, Nat.zero_le, Nat.reducePow, Int.reduceNeg, Nat.reduceMul, eq_self, Int.cast_ofNat_Int, Int.toNat_natCast, iR, lR, Int.reduceEq, Int.reduceLT, Int.reduceLE, Int.reduceNe, not_false_eq_true, not_true_eq_false, false_implies, true_implies, Int.reduceAdd, Int.reduceSub, Int.reduceMul, Int.reduceToNat, implies_true, or_true, true_or, or_false, false_or, T_cmpL]
    have e := (cmpS_step hb.1 hd.1 hq).2
    rw [cmpS_0 hb.1 hd.1 r2 r4 hz] at e
    rw [hcm, e] at hP
    refine ⟨by omega, by omega, fun z => ?_, fun z => ?_, fun z => ?_⟩
    · rw [if_pos z] at hP; exact hP
    · rw [if_neg (by omega), if_neg (by omega)] at hP; exact hP
    · rw [if_neg (by omega), if_pos z] at hP; exact hP
  refine ⟨by omega, fun z => by omega, fun _ => ⟨by omega, fun z => by omega, fun _ => ⟨by omega, fun z => by omega, fun _ => ⟨ha, hb, hc, hd, by omega, by omega, fun hq => ⟨ha, hb, hc, hd, by omega, fun z => h86 (Or.inl z) hq, fun z => ⟨by omega, fun z2 => ?_, fun z2 => h86 (Or.inr (by omega)) hq⟩⟩, fun hq => ⟨ha, hb, hc, hd, by omega, by omega, fun z => ?_, fun z => ?_⟩⟩⟩⟩⟩
  · have hst := (cmpS_step hb.1 hd.1 hq).1
    have hsh' : shR b' (a' % b') d' (c' % d') := ⟨by omega, by omega, by omega, by omega⟩
    have hres := ih (i + 1, b', a' % b', d', c' % d', -sg) (by show (a' % b').toNat < b'.toNat; omega) ⟨⟨by show 0 ≤ i + 1; omega, Or.inr ⟨by show a' % b' ≤ b'; omega, ?_⟩⟩, hsh', by show -sg = 1 ∨ -sg = -1; omega, ?_⟩
    · exact J_fgt [true, true, true, true, true, true, true, true, true, true, false, true, false, true] hres
    · show b' * (a' % b') * 2 ^ (i + 1 - 1).toNat < 2 ^ 126
      rcases hi.2 with h | ⟨h1, h2⟩
      · subst h
        show b' * (a' % b') * 2 ^ 0 < 2 ^ 126
        rw [Int.pow_zero, Int.mul_one]
        have p1 : b' * (a' % b') ≤ b' * 9223372036854775808 := Int.mul_le_mul_of_nonneg_left (by omega) (by omega)
        have p2 : (2 : Int) ^ 126 = 9223372036854775808 * 9223372036854775808 := by decide
        omega
      · have p1 := halve hb.1 h1
        by_cases hi1 : i = 0
        · subst hi1
          rw [show ((0 : Int) - 1).toNat = 0 by decide, Int.pow_zero, Int.mul_one] at h2
          show b' * (a' % b') * 2 ^ 0 < 2 ^ 126
          rw [Int.pow_zero, Int.mul_one]
          have := Int.mul_nonneg (show 0 ≤ b' by omega) r2
          omega
        · rw [show (i + 1 - 1).toNat = (i - 1).toNat + 1 by omega, Int.pow_succ]
          have p2 : 0 < (2 : Int) ^ (i - 1).toNat := Int.pow_pos (by decide)
          have p3 : 2 * (b' * (a' % b')) * 2 ^ (i - 1).toNat < a' * b' * 2 ^ (i - 1).toNat := Int.mul_lt_mul_of_pos_right p1 p2
          have p4 : b' * (a' % b') * (2 ^ (i - 1).toNat * 2) = 2 * (b' * (a' % b')) * 2 ^ (i - 1).toNat := by
            rw [Int.mul_comm (2 ^ (i - 1).toNat) 2, ← Int.mul_assoc, Int.mul_comm (b' * (a' % b')) 2]
          omega
    · show cmpS a b c d = -sg * cmpS b' (a' % b') d' (c' % d')
      rw [hcm, hst, cmpS_swap, Int.mul_neg, Int.neg_mul]
  · rw [hcm, cmpS_swap, cmpS_lt hd.1 hb.1 (by omega), Int.neg_neg, Int.mul_one] at hP
    exact hP
  · rw [hcm, cmpS_lt hb.1 hd.1 (by omega), Int.mul_neg, Int.mul_one] at hP
    exact hP
def T_X11_over : Ct := fun as M P => match as with
  | [.inl (.inr a), .inl (.inr b), .inl (.inr c), .inl (.inr d)] => shR a b c d ∧ P (some (zi (cmpS a b c d))) M
  | _ => False
theorem k_X11_over (l : Launch) : MetT l yX11_over cX11_over 25 (some .int) 0 T_X11_over := by
  refine MetT.of (by decide +kernel) (fun as M P h => by unfold T_X11_over at h; split at h <;> first | (simp [elo]; done) | exact h.elim) (fun x as M P h C hR => ?_)
  unfold T_X11_over at h
  split at h
  rotate_left
  · exact h.elim
  rename_i a b c d
  obtain ⟨hsh, hP⟩ := h
  refine B_X11_over_0 C _ _ _ ?_
  simp only [c_iadd, c_isub, c_imul, c_ladd, c_lsub, c_lmul, c_ineg, c_lneg, c_ic, c_lc, c_iload, c_lload, c_aload, c_istore, c_astore, c_lstore, c_iinc, c_dup, c_dup2, c_goto, c_i2l, c_l2i, c_idiv, c_ldiv, c_lrem, c_lshl, c_gi, c_gl, c_gr, c_pi, c_pz, c_pl, c_iald, c_lald, c_bald, c_aald, c_iast, c_last, c_bast, c_callV, c_callS, c_mmax, c_mmin, c_mabs, c_mmaxl, c_mabsl, c_iret, c_zret, c_lret, c_vret, c_tsw, c_lsw, c_icmp_eq, c_icmp_ne, c_icmp_lt, c_icmp_ge, c_icmp_gt, c_icmp_le, c_if_eq, c_if_ne, c_if_lt, c_if_ge, c_if_gt, c_if_le, c_lcmp_eq, c_lcmp_ne, c_lcmp_lt, c_lcmp_ge, c_lcmp_gt, c_lcmp_le, c_lraw_eq, c_lraw_lt, c_lraw_ge, c_lraw_gt, c_lraw_le, acat, scat, tswP, pops, st1, st2, klo, pad, elo, List.getElem?_cons_zero, List.getElem?_cons_succ, List.getElem?_nil, List.set_cons_zero, List.set_cons_succ, List.set_nil, Option.toList_some, Option.toList_none, List.cons_append, List.nil_append, List.length_cons, List.length_nil, stc_ap, stm_ap, false_and, and_false, and_self, true_and, and_true, Nat.reduceEqDiff, reduceIte, al_12, al_13, al_14, al_15, al_16, al_17, al_18, al_19, al_20, al_21, al_22, al_23, al_24, al_25, al_26, al_27, al_28, al_29, al_30, al_31, al_32, al_33, al_34, al_35, al_36, al_37, al_38, al_39, al_40, al_41, al_42, al_43, al_44, al_45, al_46, al_47, al_48, al_49, al_50, al_51, al_52, al_53, al_54, al_55, at_12, at_13, at_14, at_15, at_16, at_17, at_18, at_19, at_20, at_21, at_22, at_23, at_24, at_25, at_26, at_27, at_28, at_29, at_30, at_31, at_32, at_33, at_34, at_35, at_36, at_37, at_38, at_39, at_40, at_41, at_42, at_43, at_44, at_45, at_46, at_47, at_48, at_49, at_50, at_51, at_52, at_53, at_54, at_55, cn_0, cn_1, cn_2, cn_3, cn_4, cn_5, cn_6, cn_7, cn_8, cn_9, cn_10, cn_11, cn_12, cn_13, cn_14, cn_15, cn_16, cn_17, cn_18, cn_19, cn_20, cn_21, cn_22, cn_23, cn_24, cn_25, cn_26, cn_27, cn_28, cn_29, cn_30, cn_31, cn_32, cn_33, cn_34, cn_35, cn_36, cn_37, cn_38, cn_39, cn_40, cn_41, cn_42, cn_43, cn_44, cn_45, cn_46, cn_47, cn_48, cn_49, cn_50, cn_51, cn_52, cn_53, cn_54, cn_55, Nat.reduceAdd, Nat.reduceLT, Nat.reduceLeDiff, Nat.lt_add_one, Nat.zero_lt_succ, Nat.reduceSub, ite_true, ite_false, reduceCtorEq, forall_const, Nat.reduceSucc, Nat.zero_add, Nat.add_zero, Nat.le_refl, Nat.zero_le, Nat.reducePow, Int.reduceNeg, Nat.reduceMul, eq_self, Int.cast_ofNat_Int, Int.toNat_natCast, iR, lR, Int.reduceEq, Int.reduceLT, Int.reduceLE, Int.reduceNe, not_false_eq_true, not_true_eq_false, false_implies, true_implies, Int.reduceAdd, Int.reduceSub, Int.reduceMul, Int.reduceToNat, implies_true, or_true, true_or, or_false, false_or]
  suffices hh : ∀ u : Int × Int × Int × Int × Int, (shR u.1 u.2.1 u.2.2.1 u.2.2.2.1 ∧ (u.2.2.2.2 = 1 ∨ u.2.2.2.2 = -1) ∧ cmpS a b c d = u.2.2.2.2 * cmpS u.1 u.2.1 u.2.2.1 u.2.2.2.1) → J x 17 [some (zl a), none, some (zl b), none, some (zl c), none, some (zl d), none, some (zl u.1), none, some (zl u.2.1), none, some (zl u.2.2.1), none, some (zl u.2.2.2.1), none, some (zi u.2.2.2.2), none, none, none, none, none, none, none, none] [] M by
    exact hh (a, b, c, d, 1) ⟨hsh, Or.inl rfl, (Int.one_mul _).symm⟩
  refine loopM (fun u => u.2.1.toNat) _ _ ?_
  rintro ⟨a', b', c', d', sg⟩ ⟨⟨ha, hb, hc, hd⟩, hsg, hcm⟩ ih
  simp only at ha hb hc hd hsg hcm ih ⊢
  refine B_X11_over_17 C hR _ _ _ ?_
  simp only [c_iadd, c_isub, c_imul, c_ladd, c_lsub, c_lmul, c_ineg, c_lneg, c_ic, c_lc, c_iload, c_lload, c_aload, c_istore, c_astore, c_lstore, c_iinc, c_dup, c_dup2, c_goto, c_i2l, c_l2i, c_idiv, c_ldiv, c_lrem, c_lshl, c_gi, c_gl, c_gr, c_pi, c_pz, c_pl, c_iald, c_lald, c_bald, c_aald, c_iast, c_last, c_bast, c_callV, c_callS, c_mmax, c_mmin, c_mabs, c_mmaxl, c_mabsl, c_iret, c_zret, c_lret, c_vret, c_tsw, c_lsw, c_icmp_eq, c_icmp_ne, c_icmp_lt, c_icmp_ge, c_icmp_gt, c_icmp_le, c_if_eq, c_if_ne, c_if_lt, c_if_ge, c_if_gt, c_if_le, c_lcmp_eq, c_lcmp_ne, c_lcmp_lt, c_lcmp_ge, c_lcmp_gt, c_lcmp_le, c_lraw_eq, c_lraw_lt, c_lraw_ge, c_lraw_gt, c_lraw_le, acat, scat, tswP, pops, st1, st2, klo, pad, elo, List.getElem?_cons_zero, List.getElem?_cons_succ, List.getElem?_nil, List.set_cons_zero, List.set_cons_succ, List.set_nil, Option.toList_some, Option.toList_none, List.cons_append, List.nil_append, List.length_cons, List.length_nil, stc_ap, stm_ap, false_and, and_false, and_self, true_and, and_true, Nat.reduceEqDiff, reduceIte, al_12, al_13, al_14, al_15, al_16, al_17, al_18, al_19, al_20, al_21, al_22, al_23, al_24, al_25, al_26, al_27, al_28, al_29, al_30, al_31, al_32, al_33, al_34, al_35, al_36, al_37, al_38, al_39, al_40, al_41, al_42, al_43, al_44, al_45, al_46, al_47, al_48, al_49, al_50, al_51, al_52, al_53, al_54, al_55, at_12, at_13, at_14, at_15, at_16, at_17, at_18, at_19, at_20, at_21, at_22, at_23, at_24, at_25, at_26, at_27, at_28, at_29, at_30, at_31, at_32, at_33, at_34, at_35, at_36, at_37, at_38, at_39, at_40, at_41, at_42, at_43, at_44, at_45, at_46, at_47, at_48, at_49, at_50, at_51, at_52, at_53, at_54, at_55, cn_0, cn_1, cn_2, cn_3, cn_4, cn_5, cn_6, cn_7, cn_8, cn_9, cn_10, cn_11, cn_12, cn_13, cn_14, cn_15, cn_16, cn_17, cn_18, cn_19, cn_20, cn_21, cn_22, cn_23, cn_24, cn_25, cn_26, cn_27, cn_28, cn_29, cn_30, cn_31, cn_32, cn_33, cn_34, cn_35, cn_36, cn_37, cn_38, cn_39, cn_40, cn_41, cn_42, cn_43, cn_44, cn_45, cn_46, cn_47, cn_48, cn_49, cn_50, cn_51, cn_52, cn_53, cn_54, cn_55, Nat.reduceAdd, Nat.reduceLT, Nat.reduceLeDiff, Nat.lt_add_one, Nat.zero_lt_succ, Nat.reduceSub, ite_true, ite_false, reduceCtorEq, forall_const, Nat.reduceSucc, Nat.zero_add, Nat.add_zero, Nat.le_refl, Nat.zero_le, Nat.reducePow, Int.reduceNeg, Nat.reduceMul, eq_self, Int.cast_ofNat_Int, Int.toNat_natCast, iR, lR, Int.reduceEq, Int.reduceLT, Int.reduceLE, Int.reduceNe, not_false_eq_true, not_true_eq_false, false_implies, true_implies, Int.reduceAdd, Int.reduceSub, Int.reduceMul, Int.reduceToNat, implies_true, or_true, true_or, or_false, false_or]
  have q1 : 0 ≤ a' / b' ∧ a' / b' ≤ a' := ⟨Int.ediv_nonneg (by omega) (by omega), Int.ediv_le_self _ (by omega)⟩
  have q2 : 0 ≤ c' / d' ∧ c' / d' ≤ c' := ⟨Int.ediv_nonneg (by omega) (by omega), Int.ediv_le_self _ (by omega)⟩
  have r1 := Int.emod_lt_of_pos a' hb.1
  have r2 := Int.emod_nonneg a' (by omega : b' ≠ 0)
  have r3 := Int.emod_lt_of_pos c' hd.1
  have r4 := Int.emod_nonneg c' (by omega : d' ≠ 0)
  have h84 : (a' % b' = 0 ∨ c' % d' = 0) → a' / b' = c' / d' → J x 84 [some (zl a), none, some (zl b), none, some (zl c), none, some (zl d), none, some (zl a'), none, some (zl b'), none, some (zl c'), none, some (zl d'), none, some (zi sg), some (zl (a' / b')), none, some (zl (c' / d')), none, some (zl (a' % b')), none, some (zl (c' % d')), none] [] M := by
    intro hz hq
    refine B_X11_over_84 C hR _ _ _ ?_
    simp only [c_iadd, c_isub, c_imul, c_ladd, c_lsub, c_lmul, c_ineg, c_lneg, c_ic, c_lc, c_iload, c_lload, c_aload, c_istore, c_astore, c_lstore, c_iinc, c_dup, c_dup2, c_goto, c_i2l, c_l2i, c_idiv, c_ldiv, c_lrem, c_lshl, c_gi, c_gl, c_gr, c_pi, c_pz, c_pl, c_iald, c_lald, c_bald, c_aald, c_iast, c_last, c_bast, c_callV, c_callS, c_mmax, c_mmin, c_mabs, c_mmaxl, c_mabsl, c_iret, c_zret, c_lret, c_vret, c_tsw, c_lsw, c_icmp_eq, c_icmp_ne, c_icmp_lt, c_icmp_ge, c_icmp_gt, c_icmp_le, c_if_eq, c_if_ne, c_if_lt, c_if_ge, c_if_gt, c_if_le, c_lcmp_eq, c_lcmp_ne, c_lcmp_lt, c_lcmp_ge, c_lcmp_gt, c_lcmp_le, c_lraw_eq, c_lraw_lt, c_lraw_ge, c_lraw_gt, c_lraw_le, acat, scat, tswP, pops, st1, st2, klo, pad, elo, List.getElem?_cons_zero, List.getElem?_cons_succ, List.getElem?_nil, List.set_cons_zero, List.set_cons_succ, List.set_nil, Option.toList_some, Option.toList_none, List.cons_append, List.nil_append, List.length_cons, List.length_nil, stc_ap, stm_ap, false_and, and_false, and_self, true_and, and_true, Nat.reduceEqDiff, reduceIte, al_12, al_13, al_14, al_15, al_16, al_17, al_18, al_19, al_20, al_21, al_22, al_23, al_24, al_25, al_26, al_27, al_28, al_29, al_30, al_31, al_32, al_33, al_34, al_35, al_36, al_37, al_38, al_39, al_40, al_41, al_42, al_43, al_44, al_45, al_46, al_47, al_48, al_49, al_50, al_51, al_52, al_53, al_54, al_55, at_12, at_13, at_14, at_15, at_16, at_17, at_18, at_19, at_20, at_21, at_22, at_23, at_24, at_25, at_26, at_27, at_28, at_29, at_30, at_31, at_32, at_33, at_34, at_35, at_36, at_37, at_38, at_39, at_40, at_41, at_42, at_43, at_44, at_45, at_46, at_47, at_48, at_49, at_50, at_51, at_52, at_53, at_54, at_55, cn_0, cn_1, cn_2, cn_3, cn_4, cn_5, cn_6, cn_7, cn_8, cn_9, cn_10, cn_11, cn_12, cn_13, cn_14, cn_15, cn_16, cn_17, cn_18, cn_19, cn_20, cn_21, cn_22, cn_23, cn_24, cn_25, cn_26, cn_27, cn_28, cn_29, cn_30, cn_31, cn_32, cn_33, cn_34, cn_35, cn_36, cn_37, cn_38, cn_39, cn_40, cn_41, cn_42, cn_43, cn_44, cn_45, cn_46, cn_47, cn_48, cn_49, cn_50, cn_51, cn_52, cn_53, cn_54, cn_55, Nat.reduceAdd, Nat.reduceLT, Nat.reduceLeDiff, Nat.lt_add_one, Nat.zero_lt_succ, Nat.reduceSub, ite_true, ite_false, reduceCtorEq, forall_const, Nat.reduceSucc, Nat.zero_add, Nat.add_zero, Nat.le_refl, Nat.zero_le, Nat.reducePow, Int.reduceNeg, Nat.reduceMul, eq_self, Int.cast_ofNat_Int, Int.toNat_natCast, iR, lR, Int.reduceEq, Int.reduceLT, Int.reduceLE, Int.reduceNe, not_false_eq_true, not_true_eq_false, false_implies, true_implies, Int.reduceAdd, Int.reduceSub, Int.reduceMul, Int.reduceToNat, implies_true, or_true, true_or, or_false, false_or]
    have e := (cmpS_step hb.1 hd.1 hq).2
    rw [cmpS_0 hb.1 hd.1 r2 r4 hz] at e
    rw [hcm, e] at hP
    refine ⟨by omega, by omega, fun z => ⟨by omega, fun z2 => ?_, fun z2 => ?_⟩, fun z => ?_⟩
    · rw [if_neg (by omega), if_pos (by omega), Int.mul_one] at hP; exact hP
    · rw [if_pos (by omega), Int.mul_neg, Int.mul_one] at hP; exact hP
    · rw [if_neg (by omega), if_neg (by omega), Int.mul_zero] at hP; exact hP
  refine ⟨ha, hb, hc, hd, by omega, by omega, fun hq => ⟨ha, hb, hc, hd, by omega, fun z => h84 (Or.inl z) hq, fun z => ⟨by omega, fun z2 => ?_, fun z2 => h84 (Or.inr (by omega)) hq⟩⟩, fun hq => ⟨by omega, by omega, fun z => ?_, fun z => ?_⟩⟩
  · have hst := (cmpS_step hb.1 hd.1 hq).1
    have hsh' : shR b' (a' % b') d' (c' % d') := ⟨by omega, by omega, by omega, by omega⟩
    have hres := ih (b', a' % b', d', c' % d', -sg) (by show (a' % b').toNat < b'.toNat; omega) ⟨hsh', by show -sg = 1 ∨ -sg = -1; omega, ?_⟩
    · exact J_fgt [true, true, true, true, true, true, true, true, true, true, true, true, true, true, true, true, true, false, true, false, true, false, true, false, true] hres
    · show cmpS a b c d = -sg * cmpS b' (a' % b') d' (c' % d')
      rw [hcm, hst, cmpS_swap, Int.mul_neg, Int.neg_mul]
  · rw [hcm, cmpS_swap, cmpS_lt hd.1 hb.1 (by omega), Int.neg_neg, Int.mul_one] at hP
    exact hP
  · rw [hcm, cmpS_lt hb.1 hd.1 (by omega), Int.mul_neg, Int.mul_one] at hP
    exact hP
