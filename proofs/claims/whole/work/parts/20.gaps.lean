/-! CloudBench$Ways.chooseGaps -/
def zab (z : Int) : Int := if z < 0 then -z else z
/-- choices of j of the first i whose gaps, wherever a value ends, are m at most -/
def gpc (f : Nat → Int) (n K : Nat) (m : Int) : Nat → Nat → Int
  | 0, 0 => 1
  | 0, _ + 1 => 0
  | i + 1, 0 => if (i + 1 = n ∨ ¬ f (i + 1) = f i) ∧ m < zab (n * (0 : Nat) - K * (i + 1 : Nat)) then 0 else gpc f n K m i 0
  | i + 1, j + 1 => if (i + 1 = n ∨ ¬ f (i + 1) = f i) ∧ m < zab (n * (j + 1 : Nat) - K * (i + 1 : Nat)) then 0 else gpc f n K m i (j + 1) + gpc f n K m i j
/-- the same ahead of the look at the gap -/
def gpa (f : Nat → Int) (n K : Nat) (m : Int) (i j : Nat) : Int := gpc f n K m i j + if j = 0 then 0 else gpc f n K m i (j - 1)
theorem gpc_s (f : Nat → Int) (n K : Nat) (m : Int) (i j : Nat) : gpc f n K m (i + 1) j = if (i + 1 = n ∨ ¬ f (i + 1) = f i) ∧ m < zab (n * j - K * (i + 1 : Nat)) then 0 else gpa f n K m i j := by
  cases j with
  | zero =>
    show (if _ then _ else _) = _
    unfold gpa
    rw [if_pos rfl, Int.add_zero]
  | succ j =>
    show (if _ then _ else _) = _
    unfold gpa
    rw [if_neg (show ¬ j + 1 = 0 by omega), show j + 1 - 1 = j by omega]
theorem gpc_gt (f : Nat → Int) (n K : Nat) (m : Int) {i j : Nat} (h : i < j) : gpc f n K m i j = 0 := by
  induction i generalizing j with
  | zero => cases j with
    | zero => omega
    | succ j => rfl
  | succ i ih =>
    rw [gpc_s]
    split
    · rfl
    · unfold gpa
      rw [ih (by omega), if_neg (by omega), ih (by omega)]
      rfl
theorem sm_cg {f g : Nat → Int} {n : Nat} (h : ∀ j, j < n → f j = g j) : sm f n = sm g n := by
  induction n with
  | zero => rfl
  | succ n ih => rw [sm_s, sm_s, ih (fun j hj => h j (by omega)), h n (by omega)]
theorem sm_ad {f g : Nat → Int} {n : Nat} : sm (fun j => f j + g j) n = sm f n + sm g n := by
  induction n with
  | zero => rfl
  | succ n ih => rw [sm_s, sm_s, sm_s, ih]; omega
theorem sm_z {f : Nat → Int} {n : Nat} (h : ∀ j, j < n → f j = 0) : sm f n = 0 := by
  induction n with
  | zero => rfl
  | succ n ih => rw [sm_s, ih (fun j hj => h j (by omega)), h n (by omega)]; rfl
def pre (c : Nat → Int) (j m : Nat) : Int := sm (fun g => c (401 * j + g)) (m + 1)
theorem pre_add {c : Nat → Int} {j : Nat} (hj : 1 ≤ j) {j' m : Nat} (hm : m ≤ 400) : pre (fun t => if 401 * (j : Int) ≤ (t : Int) ∧ (t : Int) < 401 * (j : Int) + 401 then c t + c (t - 401) else c t) j' m = pre c j' m + if j' = j then pre c (j - 1) m else 0 := by
  unfold pre
  by_cases e : j' = j
  · subst e
    rw [if_pos rfl, ← sm_ad]
    refine sm_cg fun g hg => ?_
    show (if _ then _ else _) = _
    rw [if_pos (by omega), show 401 * j' + g - 401 = 401 * (j' - 1) + g by omega]
  · rw [if_neg e, Int.add_zero]
    refine sm_cg fun g hg => ?_
    show (if _ then _ else _) = _
    rw [if_neg (by omega)]
def lft (c : Nat → Int) (j r : Nat) : Nat → Int := fun t => if (t : Int) = 401 * (j : Int) + (r : Int) then sm (fun i => c ((401 * (j : Int)).toNat + i)) (r + 1) else if 401 * (j : Int) ≤ (t : Int) ∧ (t : Int) < 401 * (j : Int) + (r : Int) then 0 else c t
theorem lft_1 (c : Nat → Int) {j r g : Nat} (h : g < r) : lft c j r (401 * j + g) = 0 := by
  unfold lft
  rw [if_neg (by omega), if_pos (by omega)]
theorem lft_2 (c : Nat → Int) {j r : Nat} : lft c j r (401 * j + r) = sm (fun i => c (401 * j + i)) (r + 1) := by
  unfold lft
  rw [if_pos (by omega), show (401 * (j : Int)).toNat = 401 * j by omega]
theorem lft_3 (c : Nat → Int) {j r t : Nat} (h : t < 401 * j ∨ 401 * j + r < t) : lft c j r t = c t := by
  unfold lft
  rw [if_neg (by omega), if_neg (by omega)]
theorem pre_lift {c : Nat → Int} {j r : Nat} (hr : r ≤ 400) {j' m : Nat} (hm : m ≤ 400) : pre (lft c j r) j' m = if j' = j ∧ m < r then 0 else pre c j' m := by
  unfold pre
  by_cases e : j' = j
  · subst e
    by_cases d : m < r
    · rw [if_pos ⟨rfl, d⟩]
      exact sm_z fun g hg => lft_1 c (by omega)
    · rw [if_neg (by omega)]
      obtain ⟨q, rfl⟩ : ∃ q, m = r + q := ⟨m - r, by omega⟩
      clear d
      induction q with
      | zero =>
        show sm (fun g => lft c j' r (401 * j' + g)) r + lft c j' r (401 * j' + r) = _
        rw [sm_z (fun g hg => lft_1 c hg), lft_2, Int.zero_add]
      | succ q ih =>
        show sm (fun g => lft c j' r (401 * j' + g)) (r + q + 1) + lft c j' r (401 * j' + (r + q + 1)) = sm (fun g => c (401 * j' + g)) (r + q + 1) + c (401 * j' + (r + q + 1))
        rw [ih (by omega), lft_3 c (by omega)]
  · rw [if_neg (fun z => e z.1)]
    exact sm_cg fun g hg => lft_3 c (by omega)
def T_X9_chooseGaps : Ct := fun as M P => match as with
  | [.inr (some (g0, s0)), .inr (some (g, s)), .inl (.inl n), .inl (.inl k)] => g0 = 9 ∧ s0 = 0 ∧ aty g = 0 ∧ 12 ≤ g ∧ s < cnt g ∧ ¬ g = 28 ∧ (0 ≤ k ∧ k ≤ 20 ∧ k ≤ n ∧ n ≤ k + 20 ∧ 1 ≤ n ∧ n ≤ alen g) ∧ (∀ j : Nat, (j : Int) < n → iR (M g s j)) ∧ ∀ M' : Mm, (∀ g' : Nat, ¬ g' = 9 → ¬ g' = 28 → M' g' = M g') → M' 9 0 2 = 401 * k → M' 9 0 3 = 0 → M' 9 0 4 = k * (n - k) → (∀ m : Nat, m ≤ 400 → pre (M' 28 0) k.toNat m = gpc (M g s) n.toNat k.toNat m n.toNat k.toNat) → P none M'
  | _ => False
/-- rows are as the choices among the first i have it -/
def gRow (f : Nat → Int) (n K : Nat) (c : Nat → Int) (j i : Nat) : Prop := ∀ m : Nat, m ≤ 400 → pre c j m = gpc f n K m i j
def gRowA (f : Nat → Int) (n K : Nat) (c : Nat → Int) (j i : Nat) : Prop := ∀ m : Nat, m ≤ 400 → pre c j m = gpa f n K m i j
set_option maxHeartbeats 4000000 in
theorem k_X9_chooseGaps (l : Launch) : MetT l yX9_chooseGaps cX9_chooseGaps 8 none 1 T_X9_chooseGaps := by
  refine MetT.of (by decide +kernel) (fun as M P h => by unfold T_X9_chooseGaps at h; split at h <;> first | (simp [elo]; done) | exact h.elim) (fun x as M P h C hR => ?_)
  unfold T_X9_chooseGaps at h
  split at h
  rotate_left
  · exact h.elim
  rename_i g0 s0 g s n k
  obtain ⟨rfl, rfl, ht, hg, hs, h28, hk, hr, hP⟩ := h
  obtain ⟨f, hf⟩ : ∃ f : Nat → Int, f = M g s := ⟨_, rfl⟩
  rw [← hf] at hr hP
  have hfi : ∀ i : Int, M g s i.toNat = f i.toNat := fun i => by rw [hf]
  refine B_X9_chooseGaps_0 C (k_X9_clear l) (by decide) _ _ _ ?_
  simp only [c_iadd, c_isub, c_imul, c_ladd, c_lsub, c_lmul, c_ineg, c_lneg, c_ic, c_lc, c_iload, c_lload, c_aload, c_istore, c_astore, c_lstore, c_iinc, c_dup, c_dup2, c_goto, c_i2l, c_l2i, c_idiv, c_ldiv, c_lrem, c_lshl, c_gi, c_gl, c_gr, c_pi, c_pz, c_pl, c_iald, c_lald, c_bald, c_aald, c_iast, c_last, c_bast, c_callV, c_callS, c_mmax, c_mmin, c_mabs, c_mmaxl, c_mabsl, c_iret, c_zret, c_lret, c_vret, c_tsw, c_lsw, c_icmp_eq, c_icmp_ne, c_icmp_lt, c_icmp_ge, c_icmp_gt, c_icmp_le, c_if_eq, c_if_ne, c_if_lt, c_if_ge, c_if_gt, c_if_le, c_lcmp_eq, c_lcmp_ne, c_lcmp_lt, c_lcmp_ge, c_lcmp_gt, c_lcmp_le, c_lraw_eq, c_lraw_lt, c_lraw_ge, c_lraw_gt, c_lraw_le, acat, scat, tswP, pops, st1, st2, klo, pad, elo, List.getElem?_cons_zero, List.getElem?_cons_succ, List.getElem?_nil, List.set_cons_zero, List.set_cons_succ, List.set_nil, Option.toList_some, Option.toList_none, List.cons_append, List.nil_append, List.length_cons, List.length_nil, stc_ap, stm_ap, false_and, and_false, and_self, true_and, and_true, Nat.reduceEqDiff, reduceIte, al_12, al_13, al_14, al_15, al_16, al_17, al_18, al_19, al_20, al_21, al_22, al_23, al_24, al_25, al_26, al_27, al_28, al_29, al_30, al_31, al_32, al_33, al_34, al_35, al_36, al_37, al_38, al_39, al_40, al_41, al_42, al_43, al_44, al_45, al_46, al_47, al_48, al_49, al_50, al_51, al_52, al_53, al_54, al_55, at_12, at_13, at_14, at_15, at_16, at_17, at_18, at_19, at_20, at_21, at_22, at_23, at_24, at_25, at_26, at_27, at_28, at_29, at_30, at_31, at_32, at_33, at_34, at_35, at_36, at_37, at_38, at_39, at_40, at_41, at_42, at_43, at_44, at_45, at_46, at_47, at_48, at_49, at_50, at_51, at_52, at_53, at_54, at_55, cn_0, cn_1, cn_2, cn_3, cn_4, cn_5, cn_6, cn_7, cn_8, cn_9, cn_10, cn_11, cn_12, cn_13, cn_14, cn_15, cn_16, cn_17, cn_18, cn_19, cn_20, cn_21, cn_22, cn_23, cn_24, cn_25, cn_26, cn_27, cn_28, cn_29, cn_30, cn_31, cn_32, cn_33, cn_34, cn_35, cn_36, cn_37, cn_38, cn_39, cn_40, cn_41, cn_42, cn_43, cn_44, cn_45, cn_46, cn_47, cn_48, cn_49, cn_50, cn_51, cn_52, cn_53, cn_54, cn_55, Nat.reduceAdd, Nat.reduceLT, Nat.reduceLeDiff, Nat.lt_add_one, Nat.zero_lt_succ, Nat.reduceSub, ite_true, ite_false, reduceCtorEq, forall_const, Nat.reduceSucc, Nat.zero_add, Nat.add_zero, Nat.le_refl, Nat.zero_le, Nat.reducePow, Int.reduceNeg, Nat.reduceMul, eq_self, Int.cast_ofNat_Int, Int.toNat_natCast, iR, lR, Int.reduceEq, Int.reduceLT, Int.reduceLE, Int.reduceNe, not_false_eq_true, not_true_eq_false, false_implies, true_implies, Int.reduceAdd, Int.reduceSub, Int.reduceMul, Int.reduceToNat, implies_true, or_true, true_or, or_false, false_or, T_X9_clear]
  rw [stm_on]
  refine ⟨by omega, by omega, ?_⟩
  have hkk : k * (n - k) ≤ 400 := by
    have : k * (n - k) ≤ k * 20 := Int.mul_le_mul_of_nonneg_left (by omega) (by omega)
    omega
  have hk0 : 0 ≤ k * (n - k) := Int.mul_nonneg (by omega) (by omega)
  -- how far a gap can be
  have hgap : ∀ i j : Int, 0 ≤ j → j ≤ k → 0 ≤ i - j → i - j ≤ n - k → -400 ≤ n * j - k * i ∧ n * j - k * i ≤ 400 := by
    intro i j h1 h2 h3 h4
    have e : n * j - k * i = (n - k) * j - k * (i - j) := by grind
    have a1 : (n - k) * j ≤ (n - k) * k := Int.mul_le_mul_of_nonneg_left h2 (by omega)
    have a2 : k * (i - j) ≤ k * (n - k) := Int.mul_le_mul_of_nonneg_left h4 (by omega)
    have a3 : 0 ≤ (n - k) * j := Int.mul_nonneg (by omega) h1
    have a4 : 0 ≤ k * (i - j) := Int.mul_nonneg (by omega) h3
    rw [Int.mul_comm (n - k) k] at a1
    omega
  refine loopU (n + 1) (fun i M' => (1 ≤ i ∧ i ≤ n + 1) ∧ ∃ c : Nat → Int, M' = stc M 28 0 c ∧ ∀ j' : Nat, j' ≤ k.toNat → k ≤ j' + (n - (i - 1)) → gRow f n.toNat k.toNat c j' (i - 1).toNat) (fun i M' => J x 24 [some (zr 9 0), some (zr g s), some (zi n), some (zi k), some (zi i), none, none, none] [] M') ?_ 1 _ ⟨by omega, _, rfl, fun j' h1 h2 m hm => ?_⟩
  rotate_left
  · rw [show ((1 : Int) - 1).toNat = 0 by decide]
    cases j' with
    | zero =>
      show pre _ 0 m = 1
      unfold pre
      have : ∀ q : Nat, q ≤ 400 → sm (fun g => if 401 * 0 + g = 0 then (1 : Int) else if 0 ≤ ((401 * 0 + g : Nat) : Int) ∧ ((401 * 0 + g : Nat) : Int) ≤ (k + 1) * 401 - 1 then 0 else M 28 0 (401 * 0 + g)) (q + 1) = 1 := by
        intro q
        induction q with
        | zero => intro _; show 0 + (1 : Int) = 1; rfl
        | succ q ih =>
          intro hq
          rw [sm_s, ih (by omega)]
          show 1 + (if _ then _ else if _ then _ else _) = (1 : Int)
          rw [if_neg (by omega), if_pos (by omega)]
          rfl
      exact this m hm
    | succ j' =>
      show pre _ (j' + 1) m = 0
      refine sm_z fun g hg => ?_
      show (if _ then _ else if _ then _ else _) = (0 : Int)
      rw [if_neg (by omega), if_pos (by omega)]
  rintro i M' ⟨hi, c, rfl, hc⟩ ih
  refine B_X9_chooseGaps_24 C hR (by decide) (k_X9_settle l) (by decide) _ _ _ ?_
  simp only [c_iadd, c_isub, c_imul, c_ladd, c_lsub, c_lmul, c_ineg, c_lneg, c_ic, c_lc, c_iload, c_lload, c_aload, c_istore, c_astore, c_lstore, c_iinc, c_dup, c_dup2, c_goto, c_i2l, c_l2i, c_idiv, c_ldiv, c_lrem, c_lshl, c_gi, c_gl, c_gr, c_pi, c_pz, c_pl, c_iald, c_lald, c_bald, c_aald, c_iast, c_last, c_bast, c_callV, c_callS, c_mmax, c_mmin, c_mabs, c_mmaxl, c_mabsl, c_iret, c_zret, c_lret, c_vret, c_tsw, c_lsw, c_icmp_eq, c_icmp_ne, c_icmp_lt, c_icmp_ge, c_icmp_gt, c_icmp_le, c_if_eq, c_if_ne, c_if_lt, c_if_ge, c_if_gt, c_if_le, c_lcmp_eq, c_lcmp_ne, c_lcmp_lt, c_lcmp_ge, c_lcmp_gt, c_lcmp_le, c_lraw_eq, c_lraw_lt, c_lraw_ge, c_lraw_gt, c_lraw_le, acat, scat, tswP, pops, st1, st2, klo, pad, elo, List.getElem?_cons_zero, List.getElem?_cons_succ, List.getElem?_nil, List.set_cons_zero, List.set_cons_succ, List.set_nil, Option.toList_some, Option.toList_none, List.cons_append, List.nil_append, List.length_cons, List.length_nil, stc_ap, stm_ap, false_and, and_false, and_self, true_and, and_true, Nat.reduceEqDiff, reduceIte, al_12, al_13, al_14, al_15, al_16, al_17, al_18, al_19, al_20, al_21, al_22, al_23, al_24, al_25, al_26, al_27, al_28, al_29, al_30, al_31, al_32, al_33, al_34, al_35, al_36, al_37, al_38, al_39, al_40, al_41, al_42, al_43, al_44, al_45, al_46, al_47, al_48, al_49, al_50, al_51, al_52, al_53, al_54, al_55, at_12, at_13, at_14, at_15, at_16, at_17, at_18, at_19, at_20, at_21, at_22, at_23, at_24, at_25, at_26, at_27, at_28, at_29, at_30, at_31, at_32, at_33, at_34, at_35, at_36, at_37, at_38, at_39, at_40, at_41, at_42, at_43, at_44, at_45, at_46, at_47, at_48, at_49, at_50, at_51, at_52, at_53, at_54, at_55, cn_0, cn_1, cn_2, cn_3, cn_4, cn_5, cn_6, cn_7, cn_8, cn_9, cn_10, cn_11, cn_12, cn_13, cn_14, cn_15, cn_16, cn_17, cn_18, cn_19, cn_20, cn_21, cn_22, cn_23, cn_24, cn_25, cn_26, cn_27, cn_28, cn_29, cn_30, cn_31, cn_32, cn_33, cn_34, cn_35, cn_36, cn_37, cn_38, cn_39, cn_40, cn_41, cn_42, cn_43, cn_44, cn_45, cn_46, cn_47, cn_48, cn_49, cn_50, cn_51, cn_52, cn_53, cn_54, cn_55, Nat.reduceAdd, Nat.reduceLT, Nat.reduceLeDiff, Nat.lt_add_one, Nat.zero_lt_succ, Nat.reduceSub, ite_true, ite_false, reduceCtorEq, forall_const, Nat.reduceSucc, Nat.zero_add, Nat.add_zero, Nat.le_refl, Nat.zero_le, Nat.reducePow, Int.reduceNeg, Nat.reduceMul, eq_self, Int.cast_ofNat_Int, Int.toNat_natCast, iR, lR, Int.reduceEq, Int.reduceLT, Int.reduceLE, Int.reduceNe, not_false_eq_true, not_true_eq_false, false_implies, true_implies, Int.reduceAdd, Int.reduceSub, Int.reduceMul, Int.reduceToNat, implies_true, or_true, true_or, or_false, false_or, T_X9_settle]
  refine ⟨by omega, by omega, fun q => ?_, fun q => ⟨by omega, by omega, ?_⟩⟩
  · refine hP _ ?_ ?_ rfl rfl ?_
    · intro g' a1 a2
      funext s' k'
      simp only [stm_ap, stc_ap, a1, a2, false_and, if_false]
    · show k * 401 = 401 * k; omega
    · have := hc k.toNat (Nat.le_refl _) (by omega)
      rw [show (i - 1).toNat = n.toNat by omega] at this
      exact this
  · obtain ⟨a, ha⟩ : ∃ a : Nat, (a : Int) = i - 1 := ⟨(i - 1).toNat, by omega⟩
    have ea : (i - 1).toNat = a := by omega
    have ei : i.toNat = a + 1 := by omega
    rw [ea] at hc
    have h131 : ∀ (c : Nat → Int) (w : AV), (∀ j' : Nat, j' ≤ k.toNat → k ≤ j' + (n - i) → gRow f n.toNat k.toNat c j' (a + 1)) → J x 131 [some (zr 9 0), some (zr g s), some (zi n), some (zi k), some (zi i), some (zi (max 0 (k - (n - i)))), some (zi (min i k)), some w] [] (stc M 28 0 c) := by
      intro c w hc
      refine B_X9_chooseGaps_131 C _ _ _ ?_
      simp only [c_iadd, c_isub, c_imul, c_ladd, c_lsub, c_lmul, c_ineg, c_lneg, c_ic, c_lc, c_iload, c_lload, c_aload, c_istore, c_astore, c_lstore, c_iinc, c_dup, c_dup2, c_goto, c_i2l, c_l2i, c_idiv, c_ldiv, c_lrem, c_lshl, c_gi, c_gl, c_gr, c_pi, c_pz, c_pl, c_iald, c_lald, c_bald, c_aald, c_iast, c_last, c_bast, c_callV, c_callS, c_mmax, c_mmin, c_mabs, c_mmaxl, c_mabsl, c_iret, c_zret, c_lret, c_vret, c_tsw, c_lsw, c_icmp_eq, c_icmp_ne, c_icmp_lt, c_icmp_ge, c_icmp_gt, c_icmp_le, c_if_eq, c_if_ne, c_if_lt, c_if_ge, c_if_gt, c_if_le, c_lcmp_eq, c_lcmp_ne, c_lcmp_lt, c_lcmp_ge, c_lcmp_gt, c_lcmp_le, c_lraw_eq, c_lraw_lt, c_lraw_ge, c_lraw_gt, c_lraw_le, acat, scat, tswP, pops, st1, st2, klo, pad, elo, List.getElem?_cons_zero, List.getElem?_cons_succ, List.getElem?_nil, List.set_cons_zero, List.set_cons_succ, List.set_nil, Option.toList_some, Option.toList_none, List.cons_append, List.nil_append, List.length_cons, List.length_nil, stc_ap, stm_ap, false_and, and_false, and_self, true_and, and_true, Nat.reduceEqDiff, reduceIte, al_12, al_13, al_14, al_15, al_16, al_17, al_18, al_19, al_20, al_21, al_22, al_23, al_24, al_25, al_26, al_27, al_28, al_29, al_30, al_31, al_32, al_33, al_34, al_35, al_36, al_37, al_38, al_39, al_40, al_41, al_42, al_43, al_44, al_45, al_46, al_47, al_48, al_49, al_50, al_51, al_52, al_53, al_54, al_55, at_12, at_13, at_14, at_15, at_16, at_17, at_18, at_19, at_20, at_21, at_22, at_23, at_24, at_25, at_26, at_27, at_28, at_29, at_30, at_31, at_32, at_33, at_34, at_35, at_36, at_37, at_38, at_39, at_40, at_41, at_42, at_43, at_44, at_45, at_46, at_47, at_48, at_49, at_50, at_51, at_52, at_53, at_54, at_55, cn_0, cn_1, cn_2, cn_3, cn_4, cn_5, cn_6, cn_7, cn_8, cn_9, cn_10, cn_11, cn_12, cn_13, cn_14, cn_15, cn_16, cn_17, cn_18, cn_19, cn_20, cn_21, cn_22, cn_23, cn_24, cn_25, cn_26, cn_27, cn_28, cn_29, cn_30, cn_31, cn_32, cn_33, cn_34, cn_35, cn_36, cn_37, cn_38, cn_39, cn_40, cn_41, cn_42, cn_43, cn_44, cn_45, cn_46, cn_47, cn_48, cn_49, cn_50, cn_51, cn_52, cn_53, cn_54, cn_55, Nat.reduceAdd, Nat.reduceLT, Nat.reduceLeDiff, Nat.lt_add_one, Nat.zero_lt_succ, Nat.reduceSub, ite_true, ite_false, reduceCtorEq, forall_const, Nat.reduceSucc, Nat.zero_add, Nat.add_zero, Nat.le_refl, Nat.zero_le, Nat.reducePow, Int.reduceNeg, Nat.reduceMul, eq_self, Int.cast_ofNat_Int, Int.toNat_natCast, iR, lR, Int.reduceEq, Int.reduceLT, Int.reduceLE, Int.reduceNe, not_false_eq_true, not_true_eq_false, false_implies, true_implies, Int.reduceAdd, Int.reduceSub, Int.reduceMul, Int.reduceToNat, implies_true, or_true, true_or, or_false, false_or]
      refine J_fgt [true, true, true, true, true, false, false, false] (ih (by omega) _ ⟨by omega, c, rfl, fun j' h1 h2 => ?_⟩)
      rw [show (i + 1 - 1).toNat = a + 1 by omega]
      exact hc j' h1 (by omega)
    have h96 : ∀ (c : Nat → Int) (w : AV), (a + 1 = n.toNat ∨ ¬ f (a + 1) = f a) → (∀ j' : Nat, j' ≤ k.toNat → k ≤ j' + (n - i) → gRowA f n.toNat k.toNat c j' a) → J x 96 [some (zr 9 0), some (zr g s), some (zi n), some (zi k), some (zi i), some (zi (max 0 (k - (n - i)))), some (zi (min i k)), some w] [] (stc M 28 0 c) := by
      intro c w hbd hA
      refine B_X9_chooseGaps_96 C _ _ _ ?_
      simp only [c_iadd, c_isub, c_imul, c_ladd, c_lsub, c_lmul, c_ineg, c_lneg, c_ic, c_lc, c_iload, c_lload, c_aload, c_istore, c_astore, c_lstore, c_iinc, c_dup, c_dup2, c_goto, c_i2l, c_l2i, c_idiv, c_ldiv, c_lrem, c_lshl, c_gi, c_gl, c_gr, c_pi, c_pz, c_pl, c_iald, c_lald, c_bald, c_aald, c_iast, c_last, c_bast, c_callV, c_callS, c_mmax, c_mmin, c_mabs, c_mmaxl, c_mabsl, c_iret, c_zret, c_lret, c_vret, c_tsw, c_lsw, c_icmp_eq, c_icmp_ne, c_icmp_lt, c_icmp_ge, c_icmp_gt, c_icmp_le, c_if_eq, c_if_ne, c_if_lt, c_if_ge, c_if_gt, c_if_le, c_lcmp_eq, c_lcmp_ne, c_lcmp_lt, c_lcmp_ge, c_lcmp_gt, c_lcmp_le, c_lraw_eq, c_lraw_lt, c_lraw_ge, c_lraw_gt, c_lraw_le, acat, scat, tswP, pops, st1, st2, klo, pad, elo, List.getElem?_cons_zero, List.getElem?_cons_succ, List.getElem?_nil, List.set_cons_zero, List.set_cons_succ, List.set_nil, Option.toList_some, Option.toList_none, List.cons_append, List.nil_append, List.length_cons, List.length_nil, stc_ap, stm_ap, false_and, and_false, and_self, true_and, and_true, Nat.reduceEqDiff, reduceIte, al_12, al_13, al_14, al_15, al_16, al_17, al_18, al_19, al_20, al_21, al_22, al_23, al_24, al_25, al_26, al_27, al_28, al_29, al_30, al_31, al_32, al_33, al_34, al_35, al_36, al_37, al_38, al_39, al_40, al_41, al_42, al_43, al_44, al_45, al_46, al_47, al_48, al_49, al_50, al_51, al_52, al_53, al_54, al_55, at_12, at_13, at_14, at_15, at_16, at_17, at_18, at_19, at_20, at_21, at_22, at_23, at_24, at_25, at_26, at_27, at_28, at_29, at_30, at_31, at_32, at_33, at_34, at_35, at_36, at_37, at_38, at_39, at_40, at_41, at_42, at_43, at_44, at_45, at_46, at_47, at_48, at_49, at_50, at_51, at_52, at_53, at_54, at_55, cn_0, cn_1, cn_2, cn_3, cn_4, cn_5, cn_6, cn_7, cn_8, cn_9, cn_10, cn_11, cn_12, cn_13, cn_14, cn_15, cn_16, cn_17, cn_18, cn_19, cn_20, cn_21, cn_22, cn_23, cn_24, cn_25, cn_26, cn_27, cn_28, cn_29, cn_30, cn_31, cn_32, cn_33, cn_34, cn_35, cn_36, cn_37, cn_38, cn_39, cn_40, cn_41, cn_42, cn_43, cn_44, cn_45, cn_46, cn_47, cn_48, cn_49, cn_50, cn_51, cn_52, cn_53, cn_54, cn_55, Nat.reduceAdd, Nat.reduceLT, Nat.reduceLeDiff, Nat.lt_add_one, Nat.zero_lt_succ, Nat.reduceSub, ite_true, ite_false, reduceCtorEq, forall_const, Nat.reduceSucc, Nat.zero_add, Nat.add_zero, Nat.le_refl, Nat.zero_le, Nat.reducePow, Int.reduceNeg, Nat.reduceMul, eq_self, Int.cast_ofNat_Int, Int.toNat_natCast, iR, lR, Int.reduceEq, Int.reduceLT, Int.reduceLE, Int.reduceNe, not_false_eq_true, not_true_eq_false, false_implies, true_implies, Int.reduceAdd, Int.reduceSub, Int.reduceMul, Int.reduceToNat, implies_true, or_true, true_or, or_false, false_or]
      refine loopU (min i k + 1) (fun jj M' => (max 0 (k - (n - i)) ≤ jj ∧ jj ≤ min i k + 1) ∧ ∃ c : Nat → Int, M' = stc M 28 0 c ∧ ∀ j' : Nat, j' ≤ k.toNat → k ≤ j' + (n - i) → ((j' : Int) < jj → gRow f n.toNat k.toNat c j' (a + 1)) ∧ (jj ≤ (j' : Int) → gRowA f n.toNat k.toNat c j' a)) (fun jj M' => J x 100 [some (zr 9 0), some (zr g s), some (zi n), some (zi k), some (zi i), some (zi (max 0 (k - (n - i)))), some (zi (min i k)), some (zi jj)] [] M') ?_ (max 0 (k - (n - i))) _ ⟨by omega, c, rfl, fun j' h1 h2 => ⟨fun h3 => by omega, fun _ => hA j' h1 h2⟩⟩
      clear hA c
      rintro jj M' ⟨hjj, c, rfl, hA⟩ ih3
      refine B_X9_chooseGaps_100 C (by decide) (k_X9_liftGaps l) (by decide) _ _ _ ?_
      simp only [c_iadd, c_isub, c_imul, c_ladd, c_lsub, c_lmul, c_ineg, c_lneg, c_ic, c_lc, c_iload, c_lload, c_aload, c_istore, c_astore, c_lstore, c_iinc, c_dup, c_dup2, c_goto, c_i2l, c_l2i, c_idiv, c_ldiv, c_lrem, c_lshl, c_gi, c_gl, c_gr, c_pi, c_pz, c_pl, c_iald, c_lald, c_bald, c_aald, c_iast, c_last, c_bast, c_callV, c_callS, c_mmax, c_mmin, c_mabs, c_mmaxl, c_mabsl, c_iret, c_zret, c_lret, c_vret, c_tsw, c_lsw, c_icmp_eq, c_icmp_ne, c_icmp_lt, c_icmp_ge, c_icmp_gt, c_icmp_le, c_if_eq, c_if_ne, c_if_lt, c_if_ge, c_if_gt, c_if_le, c_lcmp_eq, c_lcmp_ne, c_lcmp_lt, c_lcmp_ge, c_lcmp_gt, c_lcmp_le, c_lraw_eq, c_lraw_lt, c_lraw_ge, c_lraw_gt, c_lraw_le, acat, scat, tswP, pops, st1, st2, klo, pad, elo, List.getElem?_cons_zero, List.getElem?_cons_succ, List.getElem?_nil, List.set_cons_zero, List.set_cons_succ, List.set_nil, Option.toList_some, Option.toList_none, List.cons_append, List.nil_append, List.length_cons, List.length_nil, stc_ap, stm_ap, false_and, and_false, and_self, true_and, and_true, Nat.reduceEqDiff, reduceIte, al_12, al_13, al_14, al_15, al_16, al_17, al_18, al_19, al_20, al_21, al_22, al_23, al_24, al_25, al_26, al_27, al_28, al_29, al_30, al_31, al_32, al_33, al_34, al_35, al_36, al_37, al_38, al_39, al_40, al_41, al_42, al_43, al_44, al_45, al_46, al_47, al_48, al_49, al_50, al_51, al_52, al_53, al_54, al_55, at_12, at_13, at_14, at_15, at_16, at_17, at_18, at_19, at_20, at_21, at_22, at_23, at_24, at_25, at_26, at_27, at_28, at_29, at_30, at_31, at_32, at_33, at_34, at_35, at_36, at_37, at_38, at_39, at_40, at_41, at_42, at_43, at_44, at_45, at_46, at_47, at_48, at_49, at_50, at_51, at_52, at_53, at_54, at_55, cn_0, cn_1, cn_2, cn_3, cn_4, cn_5, cn_6, cn_7, cn_8, cn_9, cn_10, cn_11, cn_12, cn_13, cn_14, cn_15, cn_16, cn_17, cn_18, cn_19, cn_20, cn_21, cn_22, cn_23, cn_24, cn_25, cn_26, cn_27, cn_28, cn_29, cn_30, cn_31, cn_32, cn_33, cn_34, cn_35, cn_36, cn_37, cn_38, cn_39, cn_40, cn_41, cn_42, cn_43, cn_44, cn_45, cn_46, cn_47, cn_48, cn_49, cn_50, cn_51, cn_52, cn_53, cn_54, cn_55, Nat.reduceAdd, Nat.reduceLT, Nat.reduceLeDiff, Nat.lt_add_one, Nat.zero_lt_succ, Nat.reduceSub, ite_true, ite_false, reduceCtorEq, forall_const, Nat.reduceSucc, Nat.zero_add, Nat.add_zero, Nat.le_refl, Nat.zero_le, Nat.reducePow, Int.reduceNeg, Nat.reduceMul, eq_self, Int.cast_ofNat_Int, Int.toNat_natCast, iR, lR, Int.reduceEq, Int.reduceLT, Int.reduceLE, Int.reduceNe, not_false_eq_true, not_true_eq_false, false_implies, true_implies, Int.reduceAdd, Int.reduceSub, Int.reduceMul, Int.reduceToNat, implies_true, or_true, true_or, or_false, false_or, T_X9_liftGaps]
      refine ⟨by omega, by omega, fun q3 => h131 c _ fun j' h1 h2 => ?_, fun q3 => ?_⟩
      · by_cases e : (j' : Int) < jj
        · exact (hA j' h1 h2).1 e
        · intro m hm
          rw [(hA j' h1 h2).2 (by omega) m hm, gpc_gt f _ _ _ (by omega)]
          unfold gpa
          rw [gpc_gt f _ _ _ (by omega), if_neg (by omega), gpc_gt f _ _ _ (by omega)]
          rfl
      · have hgp := hgap i jj (by omega) (by omega) (by omega) (by omega)
        obtain ⟨r, hr⟩ : ∃ r : Int, r = zab (n * jj - k * i) := ⟨_, rfl⟩
        have hr2 : 0 ≤ r ∧ r ≤ 400 := by
          rw [hr]
          unfold zab
          split <;> omega
        show _ ∧ _ ∧ (0 ≤ zab (n * jj - k * i) ∧ zab (n * jj - k * i) ≤ 400) ∧ _
        refine ⟨by omega, by omega, by rw [← hr]; exact hr2, ih3 (by omega) _ ⟨by omega, lft c jj.toNat r.toNat, ?_, fun j' h1 h2 => ?_⟩⟩
        · rw [stc_on]
          congr 1
          unfold lft
          rw [show ((jj.toNat : Nat) : Int) = jj by omega, show ((r.toNat : Nat) : Int) = r by omega, hr]
          rfl
        · have hpl : ∀ m : Nat, m ≤ 400 → pre (lft c jj.toNat r.toNat) j' m = if j' = jj.toNat ∧ m < r.toNat then 0 else pre c j' m := fun m hm => pre_lift (by omega) hm
          refine ⟨fun h3 m hm => ?_, fun h3 m hm => ?_⟩
          · by_cases e : j' = jj.toNat
            · rw [hpl m hm, gpc_s, (hA j' h1 h2).2 (by omega) m hm]
              have ez : zab ((n.toNat : Int) * (j' : Int) - (k.toNat : Int) * ((a + 1 : Nat) : Int)) = r := by
                rw [hr, show ((n.toNat : Nat) : Int) = n by omega, show ((k.toNat : Nat) : Int) = k by omega, show ((a + 1 : Nat) : Int) = i by omega, show (j' : Int) = jj by omega]
              rw [ez]
              by_cases d : m < r.toNat
              · rw [if_pos ⟨e, d⟩, if_pos ⟨hbd, by omega⟩]
              · rw [if_neg (fun z => d z.2), if_neg (fun z => by have := z.2; omega)]
            · rw [hpl m hm, if_neg (fun z => e z.1)]
              exact (hA j' h1 h2).1 (by omega) m hm
          · rw [hpl m hm, if_neg (fun z => by have := z.1; omega)]
            exact (hA j' h1 h2).2 (by omega) m hm
    refine loopD 0 (fun jj M' => (max 1 (max 0 (k - (n - i))) - 1 ≤ jj ∧ jj ≤ min i k) ∧ ∃ c : Nat → Int, M' = stc M 28 0 c ∧ ∀ j' : Nat, j' ≤ k.toNat → (jj < (j' : Int) → k ≤ j' + (n - i) → gRowA f n.toNat k.toNat c j' a) ∧ ((j' : Int) ≤ jj → k ≤ j' + (n - (i - 1)) → gRow f n.toNat k.toNat c j' a)) (fun jj M' => J x 54 [some (zr 9 0), some (zr g s), some (zi n), some (zi k), some (zi i), some (zi (max 0 (k - (n - i)))), some (zi (min i k)), some (zi jj)] [] M') ?_ (min i k) _ ⟨by omega, c, rfl, fun j' hj' => ⟨fun h1 h2 m hm => ?_, fun h1 h2 => hc j' hj' h2⟩⟩
    rotate_left
    · rw [hc j' hj' (by omega) m hm, gpc_gt f _ _ _ (by omega)]
      unfold gpa
      rw [gpc_gt f _ _ _ (by omega), if_neg (by omega), gpc_gt f _ _ _ (by omega)]
      rfl
    clear hc c
    rintro jj M' ⟨hjj, c, rfl, hc⟩ ih2
    refine B_X9_chooseGaps_54 C (by decide) (k_X9_addGaps l) (by decide) _ _ _ ?_
    simp only [c_iadd, c_isub, c_imul, c_ladd, c_lsub, c_lmul, c_ineg, c_lneg, c_ic, c_lc, c_iload, c_lload, c_aload, c_istore, c_astore, c_lstore, c_iinc, c_dup, c_dup2, c_goto, c_i2l, c_l2i, c_idiv, c_ldiv, c_lrem, c_lshl, c_gi, c_gl, c_gr, c_pi, c_pz, c_pl, c_iald, c_lald, c_bald, c_aald, c_iast, c_last, c_bast, c_callV, c_callS, c_mmax, c_mmin, c_mabs, c_mmaxl, c_mabsl, c_iret, c_zret, c_lret, c_vret, c_tsw, c_lsw, c_icmp_eq, c_icmp_ne, c_icmp_lt, c_icmp_ge, c_icmp_gt, c_icmp_le, c_if_eq, c_if_ne, c_if_lt, c_if_ge, c_if_gt, c_if_le, c_lcmp_eq, c_lcmp_ne, c_lcmp_lt, c_lcmp_ge, c_lcmp_gt, c_lcmp_le, c_lraw_eq, c_lraw_lt, c_lraw_ge, c_lraw_gt, c_lraw_le, acat, scat, tswP, pops, st1, st2, klo, pad, elo, List.getElem?_cons_zero, List.getElem?_cons_succ, List.getElem?_nil, List.set_cons_zero, List.set_cons_succ, List.set_nil, Option.toList_some, Option.toList_none, List.cons_append, List.nil_append, List.length_cons, List.length_nil, stc_ap, stm_ap, false_and, and_false, and_self, true_and, and_true, Nat.reduceEqDiff, reduceIte, al_12, al_13, al_14, al_15, al_16, al_17, al_18, al_19, al_20, al_21, al_22, al_23, al_24, al_25, al_26, al_27, al_28, al_29, al_30, al_31, al_32, al_33, al_34, al_35, al_36, al_37, al_38, al_39, al_40, al_41, al_42, al_43, al_44, al_45, al_46, al_47, al_48, al_49, al_50, al_51, al_52, al_53, al_54, al_55, at_12, at_13, at_14, at_15, at_16, at_17, at_18, at_19, at_20, at_21, at_22, at_23, at_24, at_25, at_26, at_27, at_28, at_29, at_30, at_31, at_32, at_33, at_34, at_35, at_36, at_37, at_38, at_39, at_40, at_41, at_42, at_43, at_44, at_45, at_46, at_47, at_48, at_49, at_50, at_51, at_52, at_53, at_54, at_55, cn_0, cn_1, cn_2, cn_3, cn_4, cn_5, cn_6, cn_7, cn_8, cn_9, cn_10, cn_11, cn_12, cn_13, cn_14, cn_15, cn_16, cn_17, cn_18, cn_19, cn_20, cn_21, cn_22, cn_23, cn_24, cn_25, cn_26, cn_27, cn_28, cn_29, cn_30, cn_31, cn_32, cn_33, cn_34, cn_35, cn_36, cn_37, cn_38, cn_39, cn_40, cn_41, cn_42, cn_43, cn_44, cn_45, cn_46, cn_47, cn_48, cn_49, cn_50, cn_51, cn_52, cn_53, cn_54, cn_55, Nat.reduceAdd, Nat.reduceLT, Nat.reduceLeDiff, Nat.lt_add_one, Nat.zero_lt_succ, Nat.reduceSub, ite_true, ite_false, reduceCtorEq, forall_const, Nat.reduceSucc, Nat.zero_add, Nat.add_zero, Nat.le_refl, Nat.zero_le, Nat.reducePow, Int.reduceNeg, Nat.reduceMul, eq_self, Int.cast_ofNat_Int, Int.toNat_natCast, iR, lR, Int.reduceEq, Int.reduceLT, Int.reduceLE, Int.reduceNe, not_false_eq_true, not_true_eq_false, false_implies, true_implies, Int.reduceAdd, Int.reduceSub, Int.reduceMul, Int.reduceToNat, implies_true, or_true, true_or, or_false, false_or, T_X9_addGaps, h28, ht, hg, hs]
    have hA : jj < max 1 (max 0 (k - (n - i))) → ∀ j' : Nat, j' ≤ k.toNat → k ≤ j' + (n - i) → gRowA f n.toNat k.toNat c j' a := by
      intro q2 j' h1 h2
      by_cases e : jj < (j' : Int)
      · exact (hc j' h1).1 e h2
      · obtain rfl : j' = 0 := by omega
        intro m hm
        rw [(hc 0 h1).2 (by omega) (by omega) m hm]
        unfold gpa
        rw [if_pos rfl, Int.add_zero]
    refine ⟨by omega, by omega, by omega, fun q2 => ⟨by omega, by omega, fun q3 => h96 c _ (Or.inl (by omega)) (hA q2), fun q3 => ⟨by omega, by omega, ?_⟩⟩, fun q2 => ?_⟩
    · rw [hfi, hfi, ea, ei]
      have r1 := hr (a + 1) (by omega)
      have r2 := hr a (by omega)
      refine ⟨r1, r2, fun q4 => h131 c _ fun j' h1 h2 m hm => ?_, fun q4 => h96 c _ (Or.inr q4) (hA q2)⟩
      rw [hA q2 j' h1 h2 m hm, gpc_s, if_neg]
      rintro ⟨z | z, -⟩
      · omega
      · exact z q4
    · refine ⟨by omega, ?_⟩
      rw [show jj + -1 = jj - 1 by omega]
      refine ih2 (by omega) _ ⟨by omega, _, stc_on _ 28 0 c _, fun j' hj' => ?_⟩
      have hpa : ∀ m : Nat, m ≤ 400 → pre (fun t => if 401 * jj ≤ (t : Int) ∧ (t : Int) < 401 * jj + 401 then c t + c (t - 401) else c t) j' m = pre c j' m + if j' = jj.toNat then pre c (jj.toNat - 1) m else 0 := by
        intro m hm
        have := pre_add (c := c) (j := jj.toNat) (by omega) (j' := j') hm
        rw [show ((jj.toNat : Nat) : Int) = jj by omega] at this
        exact this
      refine ⟨fun h1 h2 m hm => ?_, fun h1 h2 m hm => ?_⟩
      · refine (hpa m hm).trans ?_
        by_cases e : j' = jj.toNat
        · rw [if_pos e, (hc j' hj').2 (by omega) (by omega) m hm, (hc (jj.toNat - 1) (by omega)).2 (by omega) (by omega) m hm]
          unfold gpa
          rw [if_neg (by omega), e]
        · rw [if_neg e, Int.add_zero]
          exact (hc j' hj').1 (by omega) h2 m hm
      · refine (hpa m hm).trans ?_
        rw [if_neg (by omega), Int.add_zero]
        exact (hc j' hj').2 (by omega) h2 m hm
