/-! CloudBench$Ways.orderPairs: how many orders have so many pairs in order -/
def psm (h : Int → Int) : Nat → Int → Int
  | 0, _ => 0
  | m + 1, s => psm h m s + h (s - m)
def mh : Nat → Int → Int
  | 0, s => if s = 0 then 1 else 0
  | i + 1, s => psm (mh i) (i + 1) s
def trn (n : Int) : Int := n * (n - 1) / 2
theorem trn_s (n : Int) : trn (n + 1) = trn n + n := by
  unfold trn
  have : (n + 1) * (n + 1 - 1) = n * (n - 1) + 2 * n := by grind
  rw [this]
  omega
theorem trn_nn (n : Nat) : 0 ≤ trn n := by
  induction n with
  | zero => decide
  | succ n ih => rw [show ((n + 1 : Nat) : Int) = (n : Int) + 1 by omega, trn_s]; omega
theorem trn_le {a b : Nat} (h : a ≤ b) : trn a ≤ trn b := by
  obtain ⟨d, rfl⟩ : ∃ d, b = a + d := ⟨b - a, by omega⟩
  induction d with
  | zero => exact Int.le_refl _
  | succ d ih =>
    have := ih (by omega)
    rw [show ((a + (d + 1) : Nat) : Int) = ((a + d : Nat) : Int) + 1 by omega, trn_s]
    omega
theorem psm_ne {h : Int → Int} {m : Nat} {s : Int} (q : psm h m s ≠ 0) : ∃ t : Nat, t < m ∧ h (s - t) ≠ 0 := by
  induction m with
  | zero => exact absurd rfl q
  | succ m ih =>
    by_cases e : h (s - m) = 0
    · have : psm h m s ≠ 0 := fun z => q (by show psm h m s + h (s - m) = 0; rw [z, e]; rfl)
      obtain ⟨t, h1, h2⟩ := ih this
      exact ⟨t, by omega, h2⟩
    · exact ⟨m, by omega, e⟩
theorem mh_supp {i : Nat} {s : Int} (q : mh i s ≠ 0) : 0 ≤ s ∧ s ≤ trn i := by
  induction i generalizing s with
  | zero =>
    unfold mh at q
    by_cases e : s = 0
    · subst e; decide
    · rw [if_neg e] at q; exact absurd rfl q
  | succ i ih =>
    obtain ⟨t, h1, h2⟩ := psm_ne (h := mh i) (m := i + 1) q
    have := ih h2
    rw [show ((i + 1 : Nat) : Int) = (i : Int) + 1 by omega, trn_s]
    omega
theorem psm_nn {h : Int → Int} (hh : ∀ s, 0 ≤ h s) (m : Nat) (s : Int) : 0 ≤ psm h m s := by
  induction m with
  | zero => exact Int.le_refl 0
  | succ m ih => show 0 ≤ psm h m s + h (s - m); have := hh (s - m); omega
theorem mh_nn (i : Nat) (s : Int) : 0 ≤ mh i s := by
  induction i generalizing s with
  | zero => unfold mh; split <;> decide
  | succ i ih => exact psm_nn ih (i + 1) s
def pfx (h : Int → Int) : Nat → Int
  | 0 => 0
  | m + 1 => pfx h m + h m
theorem psm_1 (h : Int → Int) {m s : Nat} (hm : m ≤ s + 1) : psm h m s = pfx h (s + 1) - pfx h (s + 1 - m) := by
  induction m with
  | zero => show (0 : Int) = _; rw [Nat.sub_zero]; omega
  | succ m ih =>
    show psm h m s + h (s - m) = _
    rw [ih (by omega), show s + 1 - m = (s + 1 - (m + 1)) + 1 by omega]
    show _ - (pfx h (s + 1 - (m + 1)) + h ((s + 1 - (m + 1) : Nat) : Int)) + _ = _
    rw [show ((s + 1 - (m + 1) : Nat) : Int) = (s : Int) - m by omega]
    omega
theorem psm_2 {h : Int → Int} (hz : ∀ z : Int, z < 0 → h z = 0) {m s : Nat} (hm : s + 1 ≤ m) : psm h m s = pfx h (s + 1) := by
  obtain ⟨d, rfl⟩ : ∃ d, m = s + 1 + d := ⟨m - (s + 1), by omega⟩
  clear hm
  induction d with
  | zero => rw [psm_1 h (by omega), show s + 1 - (s + 1 + 0) = 0 by omega]; show _ - 0 = _; omega
  | succ d ih =>
    show psm h (s + 1 + d) s + h (s - (s + 1 + d : Nat)) = _
    rw [ih, hz _ (by omega)]
    omega
def T_X9_orderPairs : Ct := fun as M P => match as with
  | [.inr (some (g0, s0)), .inl (.inl n)] => g0 = 9 ∧ s0 = 0 ∧ (1 ≤ n ∧ n ≤ 20) ∧ ∀ M' : Mm, (∀ g' : Nat, ¬ g' = 9 → ¬ g' = 28 → M' g' = M g') → M' 9 0 2 = 0 → M' 9 0 3 = 0 → M' 9 0 4 = trn n → (∀ key : Int, 0 ≤ key → key ≤ trn n → M' 28 0 key.toNat = mh n.toNat key) → P none M'
  | _ => False
theorem k_X9_orderPairs (l : Launch) : MetT l yX9_orderPairs cX9_orderPairs 6 none 1 T_X9_orderPairs := by
  refine MetT.of (by decide +kernel) (fun as M P h => by unfold T_X9_orderPairs at h; split at h <;> first | (simp [elo]; done) | exact h.elim) (fun x as M P h C hR => ?_)
  unfold T_X9_orderPairs at h
  split at h
  rotate_left
  · exact h.elim
  rename_i g0 s0 n
  obtain ⟨rfl, rfl, hn, hP⟩ := h
  have t20 : trn ((20 : Nat) : Int) = 190 := by decide
  have htn : ∀ i : Int, 0 ≤ i → i ≤ n → 0 ≤ trn i ∧ trn i ≤ trn n ∧ trn n ≤ 190 ∧ 0 ≤ i * (i - 1) ∧ i * (i - 1) ≤ 381 := by
    intro i h1 h2
    have a1 := trn_nn i.toNat
    have a2 := trn_le (a := i.toNat) (b := n.toNat) (by omega)
    have a3 := trn_le (a := n.toNat) (b := 20) (by omega)
    rw [show ((i.toNat : Nat) : Int) = i by omega] at a1 a2
    rw [show ((n.toNat : Nat) : Int) = n by omega] at a2 a3
    have a4 : 0 ≤ i * (i - 1) := by
      by_cases e : i = 0
      · subst e; decide
      · exact Int.mul_nonneg (by omega) (by omega)
    have a5 : trn i ≤ 190 := by omega
    unfold trn at a5
    exact ⟨a1, a2, by omega, a4, by omega⟩
  have hn1 := htn n (by omega) (by omega)
  refine B_X9_orderPairs_0 C (k_X9_clear l) (by decide) _ _ _ ?_
  simp only [c_iadd, c_isub, c_imul, c_ladd, c_lsub, c_lmul, c_ineg, c_lneg, c_ic, c_lc, c_iload, c_lload, c_aload, c_istore, c_astore, c_lstore, c_iinc, c_dup, c_dup2, c_goto, c_i2l, c_l2i, c_idiv, c_ldiv, c_lrem, c_lshl, c_gi, c_gl, c_gr, c_pi, c_pz, c_pl, c_iald, c_lald, c_bald, c_aald, c_iast, c_last, c_bast, c_callV, c_callS, c_mmax, c_mmin, c_mabs, c_mmaxl, c_mabsl, c_iret, c_zret, c_lret, c_vret, c_tsw, c_lsw, c_icmp_eq, c_icmp_ne, c_icmp_lt, c_icmp_ge, c_icmp_gt, c_icmp_le, c_if_eq, c_if_ne, c_if_lt, c_if_ge, c_if_gt, c_if_le, c_lcmp_eq, c_lcmp_ne, c_lcmp_lt, c_lcmp_ge, c_lcmp_gt, c_lcmp_le, c_lraw_eq, c_lraw_lt, c_lraw_ge, c_lraw_gt, c_lraw_le, acat, scat, tswP, pops, st1, st2, klo, pad, elo, List.getElem?_cons_zero, List.getElem?_cons_succ, List.getElem?_nil, List.set_cons_zero, List.set_cons_succ, List.set_nil, Option.toList_some, Option.toList_none, List.cons_append, List.nil_append, List.length_cons, List.length_nil, stc_ap, stm_ap, false_and, and_false, and_self, true_and, and_true, Nat.reduceEqDiff, reduceIte, al_12, al_13, al_14, al_15, al_16, al_17, al_18, al_19, al_20, al_21, al_22, al_23, al_24, al_25, al_26, al_27, al_28, al_29, al_30, al_31, al_32, al_33, al_34, al_35, al_36, al_37, al_38, al_39, al_40, al_41, al_42, al_43, al_44, al_45, al_46, al_47, al_48, al_49, al_50, al_51, al_52, al_53, al_54, al_55, at_12, at_13, at_14, at_15, at_16, at_17, at_18, at_19, at_20, at_21, at_22, at_23, at_24, at_25, at_26, at_27, at_28, at_29, at_30, at_31, at_32, at_33, at_34, at_35, at_36, at_37, at_38, at_39, at_40, at_41, at_42, at_43, at_44, at_45, at_46, at_47, at_48, at_49, at_50, at_51, at_52, at_53, at_54, at_55, cn_0, cn_1, cn_2, cn_3, cn_4, cn_5, cn_6, cn_7, cn_8, cn_9, cn_10, cn_11, cn_12, cn_13, cn_14, cn_15, cn_16, cn_17, cn_18, cn_19, cn_20, cn_21, cn_22, cn_23, cn_24, cn_25, cn_26, cn_27, cn_28, cn_29, cn_30, cn_31, cn_32, cn_33, cn_34, cn_35, cn_36, cn_37, cn_38, cn_39, cn_40, cn_41, cn_42, cn_43, cn_44, cn_45, cn_46, cn_47, cn_48, cn_49, cn_50, cn_51, cn_52, cn_53, cn_54, cn_55, Nat.reduceAdd, Nat.reduceLT, Nat.reduceLeDiff, Nat.lt_add_one, Nat.zero_lt_succ, Nat.reduceSub, ite_true, ite_false, reduceCtorEq, forall_const, Nat.reduceSucc, Nat.zero_add, Nat.add_zero, Nat.le_refl, Nat.zero_le, Nat.reducePow, Int.reduceNeg, Nat.reduceMul, eq_self, Int.cast_ofNat_Int, Int.toNat_natCast, iR, lR, Int.reduceEq, Int.reduceLT, Int.reduceLE, Int.reduceNe, not_false_eq_true, not_true_eq_false, false_implies, true_implies, Int.reduceAdd, Int.reduceSub, Int.reduceMul, Int.reduceToNat, implies_true, or_true, true_or, or_false, false_or, T_X9_clear]
  have etr : ∀ i : Int, i * (i - 1) / 2 = trn i := fun _ => rfl
  rw [etr n, stm_on]
  refine ⟨by omega, by omega, by omega, ?_⟩
  refine loopU (n + 1) (fun i M' => (2 ≤ i ∧ (i ≤ n + 1 ∨ i = 2)) ∧ ∃ c : Nat → Int, M' = stc M 28 0 c ∧ ∀ key : Int, 0 ≤ key → key ≤ trn n → c key.toNat = mh (i - 1).toNat key) (fun i M' => J x 23 [some (zr 9 0), some (zi n), some (zi (trn n)), some (zi i), none, none] [] M') ?_ 2 _ ⟨by omega, _, rfl, fun key k1 k2 => ?_⟩
  rotate_left
  · show (if key.toNat = 0 then 1 else _) = psm (mh 0) 1 key
    show _ = 0 + (if key - (0 : Nat) = 0 then 1 else 0)
    by_cases e : key = 0
    · rw [if_pos (by omega), if_pos (by omega)]; rfl
    · rw [if_neg (by omega), if_pos (by omega), if_neg (by omega)]; rfl
  rintro i M' ⟨hi, c, rfl, hc⟩ ih
  refine B_X9_orderPairs_23 C hR (k_X9_settle l) (by decide) _ _ _ ?_
  simp only [c_iadd, c_isub, c_imul, c_ladd, c_lsub, c_lmul, c_ineg, c_lneg, c_ic, c_lc, c_iload, c_lload, c_aload, c_istore, c_astore, c_lstore, c_iinc, c_dup, c_dup2, c_goto, c_i2l, c_l2i, c_idiv, c_ldiv, c_lrem, c_lshl, c_gi, c_gl, c_gr, c_pi, c_pz, c_pl, c_iald, c_lald, c_bald, c_aald, c_iast, c_last, c_bast, c_callV, c_callS, c_mmax, c_mmin, c_mabs, c_mmaxl, c_mabsl, c_iret, c_zret, c_lret, c_vret, c_tsw, c_lsw, c_icmp_eq, c_icmp_ne, c_icmp_lt, c_icmp_ge, c_icmp_gt, c_icmp_le, c_if_eq, c_if_ne, c_if_lt, c_if_ge, c_if_gt, c_if_le, c_lcmp_eq, c_lcmp_ne, c_lcmp_lt, c_lcmp_ge, c_lcmp_gt, c_lcmp_le, c_lraw_eq, c_lraw_lt, c_lraw_ge, c_lraw_gt, c_lraw_le, acat, scat, tswP, pops, st1, st2, klo, pad, elo, List.getElem?_cons_zero, List.getElem?_cons_succ, List.getElem?_nil, List.set_cons_zero, List.set_cons_succ, List.set_nil, Option.toList_some, Option.toList_none, List.cons_append, List.nil_append, List.length_cons, List.length_nil, stc_ap, stm_ap, false_and, and_false, and_self, true_and, and_true, Nat.reduceEqDiff, reduceIte, al_12, al_13, al_14, al_15, al_16, al_17, al_18, al_19, al_20, al_21, al_22, al_23, al_24, al_25, al_26, al_27, al_28, al_29, al_30, al_31, al_32, al_33, al_34, al_35, al_36, al_37, al_38, al_39, al_40, al_41, al_42, al_43, al_44, al_45, al_46, al_47, al_48, al_49, al_50, al_51, al_52, al_53, al_54, al_55, at_12, at_13, at_14, at_15, at_16, at_17, at_18, at_19, at_20, at_21, at_22, at_23, at_24, at_25, at_26, at_27, at_28, at_29, at_30, at_31, at_32, at_33, at_34, at_35, at_36, at_37, at_38, at_39, at_40, at_41, at_42, at_43, at_44, at_45, at_46, at_47, at_48, at_49, at_50, at_51, at_52, at_53, at_54, at_55, cn_0, cn_1, cn_2, cn_3, cn_4, cn_5, cn_6, cn_7, cn_8, cn_9, cn_10, cn_11, cn_12, cn_13, cn_14, cn_15, cn_16, cn_17, cn_18, cn_19, cn_20, cn_21, cn_22, cn_23, cn_24, cn_25, cn_26, cn_27, cn_28, cn_29, cn_30, cn_31, cn_32, cn_33, cn_34, cn_35, cn_36, cn_37, cn_38, cn_39, cn_40, cn_41, cn_42, cn_43, cn_44, cn_45, cn_46, cn_47, cn_48, cn_49, cn_50, cn_51, cn_52, cn_53, cn_54, cn_55, Nat.reduceAdd, Nat.reduceLT, Nat.reduceLeDiff, Nat.lt_add_one, Nat.zero_lt_succ, Nat.reduceSub, ite_true, ite_false, reduceCtorEq, forall_const, Nat.reduceSucc, Nat.zero_add, Nat.add_zero, Nat.le_refl, Nat.zero_le, Nat.reducePow, Int.reduceNeg, Nat.reduceMul, eq_self, Int.cast_ofNat_Int, Int.toNat_natCast, iR, lR, Int.reduceEq, Int.reduceLT, Int.reduceLE, Int.reduceNe, not_false_eq_true, not_true_eq_false, false_implies, true_implies, Int.reduceAdd, Int.reduceSub, Int.reduceMul, Int.reduceToNat, implies_true, or_true, true_or, or_false, false_or, T_X9_settle]
  rw [etr i]
  refine ⟨by omega, by omega, fun q => ?_, fun q => ?_⟩
  · refine hP _ ?_ rfl rfl rfl ?_
    · intro g' a1 a2
      funext s' k'
      simp only [stm_ap, stc_ap, a1, a2, false_and, if_false]
    · intro key k1 k2
      rw [show n.toNat = (i - 1).toNat by omega]
      exact hc key k1 k2
  have hi1 := htn i (by omega) (by omega)
  have hi0 := htn (i - 1) (by omega) (by omega)
  have hst := trn_s (i - 1)
  rw [show i - 1 + 1 = i by omega] at hst
  obtain ⟨h, hh⟩ : ∃ h : Int → Int, h = mh (i - 1).toNat := ⟨_, rfl⟩
  rw [← hh] at hc
  have hz : ∀ z : Int, z < 0 → h z = 0 := by
    intro z hz
    apply Classical.byContradiction
    intro e
    rw [hh] at e
    have := mh_supp e
    omega
  have hup : ∀ z : Int, trn (i - 1) < z → h z = 0 := by
    intro z hz
    apply Classical.byContradiction
    intro e
    rw [hh] at e
    have := (mh_supp e).2
    rw [show (((i - 1).toNat : Nat) : Int) = i - 1 by omega] at this
    omega
  refine ⟨by omega, ?_⟩
  refine loopU (trn i + 1) (fun u M' => (1 ≤ u ∧ u ≤ trn i + 1) ∧ M' = stc M 28 0 (fun t => if (t : Int) < u then pfx h (t + 1) else c t)) (fun u M' => J x 40 [some (zr 9 0), some (zi n), some (zi (trn n)), some (zi i), some (zi (trn i)), some (zi u)] [] M') ?_ 1 _ ⟨by omega, ?_⟩
  rotate_left
  · congr 1
    funext t
    by_cases e : (t : Int) < 1
    · rw [if_pos e, show t = 0 by omega]
      have := hc 0 (by omega) (by omega)
      show c 0 = 0 + h 0
      rw [show (0 : Int).toNat = 0 from rfl] at this
      rw [this, Int.zero_add]
    · rw [if_neg e]
  rintro u M' ⟨hu, rfl⟩ ih2
  refine B_X9_orderPairs_40 C _ _ _ ?_
  simp only [c_iadd, c_isub, c_imul, c_ladd, c_lsub, c_lmul, c_ineg, c_lneg, c_ic, c_lc, c_iload, c_lload, c_aload, c_istore, c_astore, c_lstore, c_iinc, c_dup, c_dup2, c_goto, c_i2l, c_l2i, c_idiv, c_ldiv, c_lrem, c_lshl, c_gi, c_gl, c_gr, c_pi, c_pz, c_pl, c_iald, c_lald, c_bald, c_aald, c_iast, c_last, c_bast, c_callV, c_callS, c_mmax, c_mmin, c_mabs, c_mmaxl, c_mabsl, c_iret, c_zret, c_lret, c_vret, c_tsw, c_lsw, c_icmp_eq, c_icmp_ne, c_icmp_lt, c_icmp_ge, c_icmp_gt, c_icmp_le, c_if_eq, c_if_ne, c_if_lt, c_if_ge, c_if_gt, c_if_le, c_lcmp_eq, c_lcmp_ne, c_lcmp_lt, c_lcmp_ge, c_lcmp_gt, c_lcmp_le, c_lraw_eq, c_lraw_lt, c_lraw_ge, c_lraw_gt, c_lraw_le, acat, scat, tswP, pops, st1, st2, klo, pad, elo, List.getElem?_cons_zero, List.getElem?_cons_succ, List.getElem?_nil, List.set_cons_zero, List.set_cons_succ, List.set_nil, Option.toList_some, Option.toList_none, List.cons_append, List.nil_append, List.length_cons, List.length_nil, stc_ap, stm_ap, false_and, and_false, and_self, true_and, and_true, Nat.reduceEqDiff, reduceIte, al_12, al_13, al_14, al_15, al_16, al_17, al_18, al_19, al_20, al_21, al_22, al_23, al_24, al_25, al_26, al_27, al_28, al_29, al_30, al_31, al_32, al_33, al_34, al_35, al_36, al_37, al_38, al_39, al_40, al_41, al_42, al_43, al_44, al_45, al_46, al_47, al_48, al_49, al_50, al_51, al_52, al_53, al_54, al_55, at_12, at_13, at_14, at_15, at_16, at_17, at_18, at_19, at_20, at_21, at_22, at_23, at_24, at_25, at_26, at_27, at_28, at_29, at_30, at_31, at_32, at_33, at_34, at_35, at_36, at_37, at_38, at_39, at_40, at_41, at_42, at_43, at_44, at_45, at_46, at_47, at_48, at_49, at_50, at_51, at_52, at_53, at_54, at_55, cn_0, cn_1, cn_2, cn_3, cn_4, cn_5, cn_6, cn_7, cn_8, cn_9, cn_10, cn_11, cn_12, cn_13, cn_14, cn_15, cn_16, cn_17, cn_18, cn_19, cn_20, cn_21, cn_22, cn_23, cn_24, cn_25, cn_26, cn_27, cn_28, cn_29, cn_30, cn_31, cn_32, cn_33, cn_34, cn_35, cn_36, cn_37, cn_38, cn_39, cn_40, cn_41, cn_42, cn_43, cn_44, cn_45, cn_46, cn_47, cn_48, cn_49, cn_50, cn_51, cn_52, cn_53, cn_54, cn_55, Nat.reduceAdd, Nat.reduceLT, Nat.reduceLeDiff, Nat.lt_add_one, Nat.zero_lt_succ, Nat.reduceSub, ite_true, ite_false, reduceCtorEq, forall_const, Nat.reduceSucc, Nat.zero_add, Nat.add_zero, Nat.le_refl, Nat.zero_le, Nat.reducePow, Int.reduceNeg, Nat.reduceMul, eq_self, Int.cast_ofNat_Int, Int.toNat_natCast, iR, lR, Int.reduceEq, Int.reduceLT, Int.reduceLE, Int.reduceNe, not_false_eq_true, not_true_eq_false, false_implies, true_implies, Int.reduceAdd, Int.reduceSub, Int.reduceMul, Int.reduceToNat, implies_true, or_true, true_or, or_false, false_or]
  refine ⟨by omega, by omega, fun q2 => ?_, fun q2 => ⟨by omega, by omega, by omega, ih2 (by omega) _ ⟨by omega, ?_⟩⟩⟩
  rotate_left
  · rw [stm_on]
    congr 1
    funext t
    by_cases e : t = u.toNat
    · rw [if_pos e, if_neg (by omega), if_pos (by omega), if_pos (by omega), e, hc u (by omega) (by omega), show (u - 1).toNat + 1 = u.toNat by omega]
      show _ = pfx h u.toNat + h ((u.toNat : Nat) : Int)
      rw [show ((u.toNat : Nat) : Int) = u by omega]
      omega
    · rw [if_neg e]
      by_cases d : (t : Int) < u
      · rw [if_pos d, if_pos (by omega)]
      · rw [if_neg d, if_neg (by omega)]
  obtain rfl : u = trn i + 1 := by omega
  clear ih2
  refine loopD (i - 1) (fun w M' => (0 ≤ w ∧ w ≤ trn i ∧ (i - 1 ≤ w ∨ w = trn i)) ∧ M' = stc M 28 0 (fun t => if w < (t : Int) ∧ (t : Int) ≤ trn i then psm h i.toNat t else if (t : Int) < trn i + 1 then pfx h (t + 1) else c t)) (fun w M' => J x 76 [some (zr 9 0), some (zi n), some (zi (trn n)), some (zi i), some (zi (trn i)), some (zi w)] [] M') ?_ (trn i) _ ⟨by omega, ?_⟩
  rotate_left
  · congr 1
    funext t
    rw [if_neg (show ¬ (trn i < (t : Int) ∧ (t : Int) ≤ trn i) by omega)]
  rintro w M' ⟨hw, rfl⟩ ih3
  refine B_X9_orderPairs_76 C _ _ _ ?_
  simp only [c_iadd, c_isub, c_imul, c_ladd, c_lsub, c_lmul, c_ineg, c_lneg, c_ic, c_lc, c_iload, c_lload, c_aload, c_istore, c_astore, c_lstore, c_iinc, c_dup, c_dup2, c_goto, c_i2l, c_l2i, c_idiv, c_ldiv, c_lrem, c_lshl, c_gi, c_gl, c_gr, c_pi, c_pz, c_pl, c_iald, c_lald, c_bald, c_aald, c_iast, c_last, c_bast, c_callV, c_callS, c_mmax, c_mmin, c_mabs, c_mmaxl, c_mabsl, c_iret, c_zret, c_lret, c_vret, c_tsw, c_lsw, c_icmp_eq, c_icmp_ne, c_icmp_lt, c_icmp_ge, c_icmp_gt, c_icmp_le, c_if_eq, c_if_ne, c_if_lt, c_if_ge, c_if_gt, c_if_le, c_lcmp_eq, c_lcmp_ne, c_lcmp_lt, c_lcmp_ge, c_lcmp_gt, c_lcmp_le, c_lraw_eq, c_lraw_lt, c_lraw_ge, c_lraw_gt, c_lraw_le, acat, scat, tswP, pops, st1, st2, klo, pad, elo, List.getElem?_cons_zero, List.getElem?_cons_succ, List.getElem?_nil, List.set_cons_zero, List.set_cons_succ, List.set_nil, Option.toList_some, Option.toList_none, List.cons_append, List.nil_append, List.length_cons, List.length_nil, stc_ap, stm_ap, false_and, and_false, and_self, true_and, and_true, Nat.reduceEqDiff, reduceIte, al_12, al_13, al_14, al_15, al_16, al_17, al_18, al_19, al_20, al_21, al_22, al_23, al_24, al_25, al_26, al_27, al_28, al_29, al_30, al_31, al_32, al_33, al_34, al_35, al_36, al_37, al_38, al_39, al_40, al_41, al_42, al_43, al_44, al_45, al_46, al_47, al_48, al_49, al_50, al_51, al_52, al_53, al_54, al_55, at_12, at_13, at_14, at_15, at_16, at_17, at_18, at_19, at_20, at_21, at_22, at_23, at_24, at_25, at_26, at_27, at_28, at_29, at_30, at_31, at_32, at_33, at_34, at_35, at_36, at_37, at_38, at_39, at_40, at_41, at_42, at_43, at_44, at_45, at_46, at_47, at_48, at_49, at_50, at_51, at_52, at_53, at_54, at_55, cn_0, cn_1, cn_2, cn_3, cn_4, cn_5, cn_6, cn_7, cn_8, cn_9, cn_10, cn_11, cn_12, cn_13, cn_14, cn_15, cn_16, cn_17, cn_18, cn_19, cn_20, cn_21, cn_22, cn_23, cn_24, cn_25, cn_26, cn_27, cn_28, cn_29, cn_30, cn_31, cn_32, cn_33, cn_34, cn_35, cn_36, cn_37, cn_38, cn_39, cn_40, cn_41, cn_42, cn_43, cn_44, cn_45, cn_46, cn_47, cn_48, cn_49, cn_50, cn_51, cn_52, cn_53, cn_54, cn_55, Nat.reduceAdd, Nat.reduceLT, Nat.reduceLeDiff, Nat.lt_add_one, Nat.zero_lt_succ, Nat.reduceSub, ite_true, ite_false, reduceCtorEq, forall_const, Nat.reduceSucc, Nat.zero_add, Nat.add_zero, Nat.le_refl, Nat.zero_le, Nat.reducePow, Int.reduceNeg, Nat.reduceMul, eq_self, Int.cast_ofNat_Int, Int.toNat_natCast, iR, lR, Int.reduceEq, Int.reduceLT, Int.reduceLE, Int.reduceNe, not_false_eq_true, not_true_eq_false, false_implies, true_implies, Int.reduceAdd, Int.reduceSub, Int.reduceMul, Int.reduceToNat, implies_true, or_true, true_or, or_false, false_or]
  refine ⟨by omega, by omega, fun q3 => J_fgt [true, true, true, true, false, false] (ih (by omega) _ ⟨by omega, _, rfl, fun key k1 k2 => ?_⟩), fun q3 => ?_⟩
  · rw [show i + 1 - 1 = i by omega, show mh i.toNat key = psm h i.toNat key by
      rw [hh, show i.toNat = (i - 1).toNat + 1 by omega]; rfl]
    by_cases e1 : w < (key.toNat : Int) ∧ (key.toNat : Int) ≤ trn i
    · rw [if_pos e1, show ((key.toNat : Nat) : Int) = key by omega]
    · rw [if_neg e1]
      by_cases e2 : (key.toNat : Int) < trn i + 1
      · rw [if_pos e2]
        have := psm_2 hz (m := i.toNat) (s := key.toNat) (by omega)
        rw [show ((key.toNat : Nat) : Int) = key by omega] at this
        exact this.symm
      · rw [if_neg e2, hc key k1 k2, hup key (by omega)]
        apply Classical.byContradiction
        intro e
        obtain ⟨t, h1, h2⟩ := psm_ne (Ne.symm e)
        exact h2 (hup _ (by omega))
  · refine ⟨by omega, by omega, by omega, ?_⟩
    rw [show w + -1 = w - 1 by omega]
    refine ih3 (by omega) _ ⟨by omega, ?_⟩
    rw [stm_on]
    congr 1
    funext t
    by_cases e : t = w.toNat
    · rw [if_pos e, if_neg (by omega), if_pos (by omega), if_neg (by omega), if_pos (by omega), if_pos (by omega), e]
      rw [psm_1 h (m := i.toNat) (s := w.toNat) (by omega), show (w - i).toNat + 1 = w.toNat + 1 - i.toNat by omega]
    · rw [if_neg e]
      by_cases d : w < (t : Int) ∧ (t : Int) ≤ trn i
      · rw [if_pos d, if_pos (by omega)]
      · rw [if_neg d]
        by_cases d2 : w - 1 < (t : Int) ∧ (t : Int) ≤ trn i
        · omega
        · rw [if_neg d2]
