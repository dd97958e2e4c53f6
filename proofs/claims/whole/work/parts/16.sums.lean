/-! CloudBench$Ways: sums of choices -/
def sos (k : Int) : Int := 1000 * (k * (k - 1) / 2) + k
theorem sos_tab : ∀ j : Fin 21, ∀ i : Fin 21, (0 ≤ sos (j.val : Int) ∧ sos (j.val : Int) + 1000 * (j.val : Int) < 210021) ∧ (j.val < i.val → sos (j.val : Int) + 1000 * (j.val : Int) < sos (i.val : Int)) ∧ (i.val = j.val + 1 → sos (i.val : Int) = sos (j.val : Int) + 1000 * (j.val : Int) + 1) := by decide +kernel
theorem sos_in {j : Nat} (h : j ≤ 20) : 0 ≤ sos j ∧ sos j + 1000 * j < 210021 := (sos_tab ⟨j, by omega⟩ ⟨0, by omega⟩).1
theorem sos_lt {j i : Nat} (h : j < i) (hi : i ≤ 20) : sos j + 1000 * j < sos i := (sos_tab ⟨j, by omega⟩ ⟨i, by omega⟩).2.1 h
/-- a row one further on, added at a place -/
def nxt (c : Nat → Int) (fr to lo hi : Int) : Nat → Int := fun t => if to + lo ≤ (t : Int) ∧ (t : Int) ≤ to + hi then c t + c ((t : Int) - to + fr).toNat else c t
def T_X9_chooseNext : Ct := fun as M P => match as with
  | [.inr (some (g, s)), .inl (.inl i), .inl (.inl j), .inl (.inl v)] => g = 9 ∧ s = 0 ∧ (1 ≤ j ∧ j ≤ 20 ∧ j ≤ i ∧ i ≤ 40) ∧ (0 ≤ v ∧ v ≤ 1000) ∧ (0 ≤ M 29 0 (j - 1).toNat ∧ M 29 0 (j - 1).toNat ≤ 20000) ∧ (-1 ≤ M 29 0 (i - 1).toNat - M 29 0 (i - j).toNat ∧ M 29 0 (i - 1).toNat - M 29 0 (i - j).toNat ≤ 1000 * (j - 1)) ∧ P none (stc M 28 0 (nxt (M 28 0) (sos (j - 1)) (sos j + v) (M 29 0 (j - 1).toNat) (M 29 0 (i - 1).toNat - M 29 0 (i - j).toNat)))
  | _ => False
theorem k_X9_chooseNext (l : Launch) : MetT l yX9_chooseNext cX9_chooseNext 8 none 1 T_X9_chooseNext := by
  refine MetT.of (by decide +kernel) (fun as M P h => by unfold T_X9_chooseNext at h; split at h <;> first | (simp [elo]; done) | exact h.elim) (fun x as M P h C hR => ?_)
  unfold T_X9_chooseNext at h
  split at h
  rotate_left
  · exact h.elim
  rename_i g s i j v
  obtain ⟨rfl, rfl, hj, hv, hlo, hhi, hP⟩ := h
  refine B_X9_chooseNext_0 C (k_X9_startOfSums l) (by decide) (k_X9_greatestSum l) (by decide) _ _ _ ?_
  simp only [c_iadd, c_isub, c_imul, c_ladd, c_lsub, c_lmul, c_ineg, c_lneg, c_ic, c_lc, c_iload, c_lload, c_aload, c_istore, c_astore, c_lstore, c_iinc, c_dup, c_dup2, c_goto, c_i2l, c_l2i, c_idiv, c_ldiv, c_lrem, c_lshl, c_gi, c_gl, c_gr, c_pi, c_pz, c_pl, c_iald, c_lald, c_bald, c_aald, c_iast, c_last, c_bast, c_callV, c_callS, c_mmax, c_mmin, c_mabs, c_mmaxl, c_mabsl, c_iret, c_zret, c_lret, c_vret, c_tsw, c_lsw, c_icmp_eq, c_icmp_ne, c_icmp_lt, c_icmp_ge, c_icmp_gt, c_icmp_le, c_if_eq, c_if_ne, c_if_lt, c_if_ge, c_if_gt, c_if_le, c_lcmp_eq, c_lcmp_ne, c_lcmp_lt, c_lcmp_ge, c_lcmp_gt, c_lcmp_le, c_lraw_eq, c_lraw_lt, c_lraw_ge, c_lraw_gt, c_lraw_le, acat, scat, tswP, pops, st1, st2, klo, pad, elo, List.getElem?_cons_zero, List.getElem?_cons_succ, List.getElem?_nil, List.set_cons_zero, List.set_cons_succ, List.set_nil, Option.toList_some, Option.toList_none, List.cons_append, List.nil_append, List.length_cons, List.length_nil, stc_ap, stm_ap, false_and, and_false, and_self, true_and, and_true, Nat.reduceEqDiff, reduceIte, al_12, al_13, al_14, al_15, al_16, al_17, al_18, al_19, al_20, al_21, al_22, al_23, al_24, al_25, al_26, al_27, al_28, al_29, al_30, al_31, al_32, al_33, al_34, al_35, al_36, al_37, al_38, al_39, al_40, al_41, al_42, al_43, al_44, al_45, al_46, al_47, al_48, al_49, al_50, al_51, al_52, al_53, al_54, al_55, at_12, at_13, at_14, at_15, at_16, at_17, at_18, at_19, at_20, at_21, at_22, at_23, at_24, at_25, at_26, at_27, at_28, at_29, at_30, at_31, at_32, at_33, at_34, at_35, at_36, at_37, at_38, at_39, at_40, at_41, at_42, at_43, at_44, at_45, at_46, at_47, at_48, at_49, at_50, at_51, at_52, at_53, at_54, at_55, cn_0, cn_1, cn_2, cn_3, cn_4, cn_5, cn_6, cn_7, cn_8, cn_9, cn_10, cn_11, cn_12, cn_13, cn_14, cn_15, cn_16, cn_17, cn_18, cn_19, cn_20, cn_21, cn_22, cn_23, cn_24, cn_25, cn_26, cn_27, cn_28, cn_29, cn_30, cn_31, cn_32, cn_33, cn_34, cn_35, cn_36, cn_37, cn_38, cn_39, cn_40, cn_41, cn_42, cn_43, cn_44, cn_45, cn_46, cn_47, cn_48, cn_49, cn_50, cn_51, cn_52, cn_53, cn_54, cn_55, Nat.reduceAdd, Nat.reduceLT, Nat.reduceLeDiff, Nat.lt_add_one, Nat.zero_lt_succ, Nat.reduceSub, ite_true, ite_false, reduceCtorEq, forall_const, Nat.reduceSucc, Nat.zero_add, Nat.add_zero, Nat.le_refl, Nat.zero_le, Nat.reducePow, Int.reduceNeg, Nat.reduceMul, eq_self, Int.cast_ofNat_Int, Int.toNat_natCast, iR, lR, Int.reduceEq, Int.reduceLT, Int.reduceLE, Int.reduceNe, not_false_eq_true, not_true_eq_false, false_implies, true_implies, Int.reduceAdd, Int.reduceSub, Int.reduceMul, Int.reduceToNat, implies_true, or_true, true_or, or_false, false_or, T_X9_startOfSums, T_X9_greatestSum]
  have b1 := sos_in (j := (j - 1).toNat) (by omega)
  have b2 := sos_in (j := j.toNat) (by omega)
  have b3 := sos_lt (j := (j - 1).toNat) (i := j.toNat) (by omega) (by omega)
  rw [show (((j - 1).toNat : Nat) : Int) = j - 1 by omega] at b1 b3
  rw [show ((j.toNat : Nat) : Int) = j by omega] at b2 b3
  refine ⟨by omega, by omega, by omega, by omega, by omega, by omega, ?_⟩
  rw [show (i - 1 - (j - 1)).toNat = (i - j).toNat by omega]
  generalize M 29 0 (j - 1).toNat = lo at hlo hP ⊢
  generalize M 29 0 (i - 1).toNat - M 29 0 (i - j).toNat = hi at hhi hP ⊢
  show J x 38 [some (zr 9 0), some (zi i), some (zi j), some (zi v), some (zi (sos (j - 1))), some (zi (sos j + v)), some (zi hi), some (zi lo)] [] M
  generalize sos (j - 1) = fr at b1 b3 hP ⊢
  generalize sos j = so at b2 b3 hP ⊢
  refine loopU (hi + 1) (fun u M' => lo ≤ u ∧ (u ≤ hi + 1 ∨ u = lo) ∧ M' = stc M 28 0 (nxt (M 28 0) fr (so + v) lo (u - 1))) (fun u M' => J x 38 [some (zr 9 0), some (zi i), some (zi j), some (zi v), some (zi fr), some (zi (so + v)), some (zi hi), some (zi u)] [] M') ?_ lo M ⟨by omega, Or.inr rfl, ?_⟩
  rotate_left
  · rw [show nxt (M 28 0) fr (so + v) lo (lo - 1) = M 28 0 from funext fun t => if_neg (by omega), stc_id]
  rintro u M' ⟨q1, q2, rfl⟩ ih
  refine B_X9_chooseNext_38 C hR _ _ _ ?_
  simp only [c_iadd, c_isub, c_imul, c_ladd, c_lsub, c_lmul, c_ineg, c_lneg, c_ic, c_lc, c_iload, c_lload, c_aload, c_istore, c_astore, c_lstore, c_iinc, c_dup, c_dup2, c_goto, c_i2l, c_l2i, c_idiv, c_ldiv, c_lrem, c_lshl, c_gi, c_gl, c_gr, c_pi, c_pz, c_pl, c_iald, c_lald, c_bald, c_aald, c_iast, c_last, c_bast, c_callV, c_callS, c_mmax, c_mmin, c_mabs, c_mmaxl, c_mabsl, c_iret, c_zret, c_lret, c_vret, c_tsw, c_lsw, c_icmp_eq, c_icmp_ne, c_icmp_lt, c_icmp_ge, c_icmp_gt, c_icmp_le, c_if_eq, c_if_ne, c_if_lt, c_if_ge, c_if_gt, c_if_le, c_lcmp_eq, c_lcmp_ne, c_lcmp_lt, c_lcmp_ge, c_lcmp_gt, c_lcmp_le, c_lraw_eq, c_lraw_lt, c_lraw_ge, c_lraw_gt, c_lraw_le, acat, scat, tswP, pops, st1, st2, klo, pad, elo, List.getElem?_cons_zero, List.getElem?_cons_succ, List.getElem?_nil, List.set_cons_zero, List.set_cons_succ, List.set_nil, Option.toList_some, Option.toList_none, List.cons_append, List.nil_append, List.length_cons, List.length_nil, stc_ap, stm_ap, false_and, and_false, and_self, true_and, and_true, Nat.reduceEqDiff, reduceIte, al_12, al_13, al_14, al_15, al_16, al_17, al_18, al_19, al_20, al_21, al_22, al_23, al_24, al_25, al_26, al_27, al_28, al_29, al_30, al_31, al_32, al_33, al_34, al_35, al_36, al_37, al_38, al_39, al_40, al_41, al_42, al_43, al_44, al_45, al_46, al_47, al_48, al_49, al_50, al_51, al_52, al_53, al_54, al_55, at_12, at_13, at_14, at_15, at_16, at_17, at_18, at_19, at_20, at_21, at_22, at_23, at_24, at_25, at_26, at_27, at_28, at_29, at_30, at_31, at_32, at_33, at_34, at_35, at_36, at_37, at_38, at_39, at_40, at_41, at_42, at_43, at_44, at_45, at_46, at_47, at_48, at_49, at_50, at_51, at_52, at_53, at_54, at_55, cn_0, cn_1, cn_2, cn_3, cn_4, cn_5, cn_6, cn_7, cn_8, cn_9, cn_10, cn_11, cn_12, cn_13, cn_14, cn_15, cn_16, cn_17, cn_18, cn_19, cn_20, cn_21, cn_22, cn_23, cn_24, cn_25, cn_26, cn_27, cn_28, cn_29, cn_30, cn_31, cn_32, cn_33, cn_34, cn_35, cn_36, cn_37, cn_38, cn_39, cn_40, cn_41, cn_42, cn_43, cn_44, cn_45, cn_46, cn_47, cn_48, cn_49, cn_50, cn_51, cn_52, cn_53, cn_54, cn_55, Nat.reduceAdd, Nat.reduceLT, Nat.reduceLeDiff, Nat.lt_add_one, Nat.zero_lt_succ, Nat.reduceSub, ite_true, ite_false, reduceCtorEq, forall_const, Nat.reduceSucc, Nat.zero_add, Nat.add_zero, Nat.le_refl, Nat.zero_le, Nat.reducePow, Int.reduceNeg, Nat.reduceMul, eq_self, Int.cast_ofNat_Int, Int.toNat_natCast, iR, lR, Int.reduceEq, Int.reduceLT, Int.reduceLE, Int.reduceNe, not_false_eq_true, not_true_eq_false, false_implies, true_implies, Int.reduceAdd, Int.reduceSub, Int.reduceMul, Int.reduceToNat, implies_true, or_true, true_or, or_false, false_or]
  refine ⟨by omega, by omega, fun q => ?_, fun q => ⟨by omega, by omega, by omega, ih (by omega) _ ⟨by omega, Or.inl (by omega), ?_⟩⟩⟩
  · rw [show nxt (M 28 0) fr (so + v) lo (u - 1) = nxt (M 28 0) fr (so + v) lo hi from funext fun t => ?_]
    · exact hP
    · unfold nxt
      by_cases c : so + v + lo ≤ (t : Int) ∧ (t : Int) ≤ so + v + hi
      · rw [if_pos c, if_pos (by omega)]
      · rw [if_neg c, if_neg (by omega)]
  · rw [stm_on]
    congr 1
    funext t
    unfold nxt
    by_cases e : t = (so + v + u).toNat
    · rw [if_pos e, if_neg (by omega), if_neg (by omega), if_pos (by omega), e, show ((so + v + u).toNat : Int) - (so + v) + fr = fr + u by omega]
    · rw [if_neg e]
      by_cases c : so + v + lo ≤ (t : Int) ∧ (t : Int) ≤ so + v + (u - 1)
      · rw [if_pos c, if_pos (by omega)]
      · rw [if_neg c, if_neg (by omega)]
/-- row j holds the counts of choices among the first i -/
def rowOk (f : Nat → Int) (n : Nat) (c : Nat → Int) (j i : Nat) : Prop := ∀ key : Int, sm f j ≤ key → key ≤ gsm f n j → c (sos j + key).toNat = cw f i j key
def T_X9_chooseSums : Ct := fun as M P => match as with
  | [.inr (some (g0, s0)), .inr (some (g, s)), .inl (.inl n), .inl (.inl k)] => g0 = 9 ∧ s0 = 0 ∧ aty g = 0 ∧ 12 ≤ g ∧ s < cnt g ∧ ¬ g = 28 ∧ ¬ g = 29 ∧ (0 ≤ k ∧ k ≤ 20 ∧ k ≤ n ∧ n ≤ 40 ∧ n ≤ alen g) ∧ srt (M g s) n.toNat ∧ (∀ j : Nat, j < n.toNat → 0 ≤ M g s j ∧ M g s j ≤ 1000) ∧ ∀ M' : Mm, (∀ g' : Nat, ¬ g' = 9 → ¬ g' = 28 → ¬ g' = 29 → M' g' = M g') → M' 9 0 2 = sos k → M' 9 0 3 = sm (M g s) k.toNat → M' 9 0 4 = gsm (M g s) n.toNat k.toNat → (∀ key : Int, sm (M g s) k.toNat ≤ key → key ≤ gsm (M g s) n.toNat k.toNat → M' 28 0 (sos k + key).toNat = cw (M g s) n.toNat k.toNat key) → P none M'
  | _ => False
/-- one step of the choice, seen by rows -/
theorem nxt_row {f : Nat → Int} {n : Nat} (hs : srt f n) (hr : ∀ j : Nat, j < n → 0 ≤ f j ∧ f j ≤ 1000) {c : Nat → Int} {i j : Nat} (hj : 1 ≤ j ∧ j ≤ 20 ∧ j ≤ i + 1 ∧ i < n) (h1 : rowOk f n c j i) (h2 : rowOk f n c (j - 1) i) : rowOk f n (nxt c (sos ((j - 1 : Nat) : Int)) (sos j + f i) (sm f (j - 1)) (gsm f i (j - 1))) j (i + 1) := by
  intro key k1 k2
  have b1 := sos_in (j := j - 1) (by omega)
  have b2 := sos_in (j := j) (by omega)
  have hg := gsm_in (f := f) (n := i) (k := j - 1) (c := 1000) (by omega) (fun q hq => hr q (by omega))
  have hm := sm_in (f := f) (n := j) (c := 1000) (by decide) (fun q hq => hr q (by omega))
  have hvi := hr i (by omega)
  have hgn := gsm_le f (n := i) (m := n) (k := j - 1) hs (by omega) (by omega)
  have hkr : 0 ≤ key := by omega
  obtain ⟨j, rfl⟩ : ∃ q, j = q + 1 := ⟨j - 1, by omega⟩
  rw [show j + 1 - 1 = j by omega] at *
  rw [cw_s]
  unfold nxt
  by_cases c1 : sos ((j + 1 : Nat) : Int) + f i + sm f j ≤ ((sos ((j + 1 : Nat) : Int) + key).toNat : Int) ∧ ((sos ((j + 1 : Nat) : Int) + key).toNat : Int) ≤ sos ((j + 1 : Nat) : Int) + f i + gsm f i j
  · rw [if_pos c1, h1 key k1 k2, show ((sos ((j + 1 : Nat) : Int) + key).toNat : Int) - (sos ((j + 1 : Nat) : Int) + f i) + sos (j : Int) = sos (j : Int) + (key - f i) by omega, h2 (key - f i) (by omega) (by omega)]
  · rw [if_neg c1, h1 key k1 k2]
    have : cw f i j (key - f i) = 0 := by
      apply Classical.byContradiction
      intro e
      have := cw_supp (hs.less (show i ≤ n by omega)) (show j ≤ i by omega) e
      omega
    rw [this, Int.add_zero]
/-- other rows stay -/
theorem nxt_other {f : Nat → Int} {n : Nat} (hr : ∀ j : Nat, j < n → 0 ≤ f j ∧ f j ≤ 1000) {c : Nat → Int} {i j j' i' : Nat} (hj : 1 ≤ j ∧ j ≤ 20 ∧ j ≤ i + 1 ∧ i < n) (hj' : j' ≤ 20 ∧ j' ≤ n ∧ j' ≠ j) (h1 : rowOk f n c j' i') : rowOk f n (nxt c (sos ((j - 1 : Nat) : Int)) (sos j + f i) (sm f (j - 1)) (gsm f i (j - 1))) j' i' := by
  intro key k1 k2
  have b1 := sos_in (j := j) (by omega)
  have b2 := sos_in (j := j') (by omega)
  have hg := gsm_in (f := f) (n := i) (k := j - 1) (c := 1000) (by omega) (fun q hq => hr q (by omega))
  have hg2 := gsm_in (f := f) (n := n) (k := j') (c := 1000) (by omega) (fun q hq => hr q (by omega))
  have hm := sm_in (f := f) (n := j') (c := 1000) (by decide) (fun q hq => hr q (by omega))
  have hm1 := sm_in (f := f) (n := j - 1) (c := 1000) (by decide) (fun q hq => hr q (by omega))
  have hvi := hr i (by omega)
  unfold nxt
  rw [if_neg, h1 key k1 k2]
  intro c1
  rcases Nat.lt_or_gt_of_ne hj'.2.2 with q | q
  · have := sos_lt q (by omega)
    omega
  · have := sos_lt q (by omega)
    omega
