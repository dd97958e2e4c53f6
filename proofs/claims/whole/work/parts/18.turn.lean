/-! CloudBench$Ways: turned signs, orders -/
def swc (f : Nat → Int) : Nat → Int → Int
  | 0, s => if s = 0 then 1 else 0
  | n + 1, s => swc f n s + swc f n (s - f n)
theorem swc_nn (f : Nat → Int) (n : Nat) (s : Int) : 0 ≤ swc f n s := by
  induction n generalizing s with
  | zero => unfold swc; split <;> decide
  | succ n ih => unfold swc; have := ih s; have := ih (s - f n); omega
theorem swc_le (f : Nat → Int) (n : Nat) (s : Int) : swc f n s ≤ 2 ^ n := by
  induction n generalizing s with
  | zero => unfold swc; split <;> decide
  | succ n ih => unfold swc; have := ih s; have := ih (s - f n); rw [Int.pow_succ]; omega
theorem swc_supp {f : Nat → Int} {n : Nat} (h : ∀ j, j < n → 0 ≤ f j) {s : Int} (hs : swc f n s ≠ 0) : 0 ≤ s ∧ s ≤ sm f n := by
  induction n generalizing s with
  | zero =>
    unfold swc at hs
    by_cases e : s = 0
    · subst e; simp [sm]
    · rw [if_neg e] at hs; exact absurd rfl hs
  | succ n ih =>
    unfold swc at hs
    have h0 := h n (by omega)
    rw [sm_s]
    by_cases e : swc f n s = 0
    · have h1 : swc f n (s - f n) ≠ 0 := fun z => hs (by rw [e, z]; rfl)
      have := ih (fun j hj => h j (by omega)) h1
      omega
    · have := ih (fun j hj => h j (by omega)) e
      omega
def tsf (c : Nat → Int) (v r u : Int) : Nat → Int := fun t => if u < (t : Int) - v ∧ (t : Int) - v ≤ r then c t + c ((t : Int) - v).toNat else c t
def T_X9_turnSums : Ct := fun as M P => match as with
  | [.inr (some (g0, s0)), .inr (some (g, s)), .inl (.inl n)] => g0 = 9 ∧ s0 = 0 ∧ aty g = 0 ∧ 12 ≤ g ∧ s < cnt g ∧ ¬ g = 28 ∧ (0 ≤ n ∧ n ≤ 20 ∧ n ≤ alen g) ∧ (∀ j : Nat, j < n.toNat → 0 ≤ M g s j ∧ M g s j ≤ 1000) ∧ ∀ M' : Mm, (∀ g' : Nat, ¬ g' = 9 → ¬ g' = 28 → M' g' = M g') → M' 9 0 2 = 0 → M' 9 0 3 = 0 → M' 9 0 4 = sm (M g s) n.toNat → (∀ key : Int, 0 ≤ key → key ≤ sm (M g s) n.toNat → M' 28 0 key.toNat = swc (M g s) n.toNat key) → P none M'
  | _ => False
theorem k_X9_turnSums (l : Launch) : MetT l yX9_turnSums cX9_turnSums 7 none 1 T_X9_turnSums := by
  refine MetT.of (by decide +kernel) (fun as M P h => by unfold T_X9_turnSums at h; split at h <;> first | (simp [elo]; done) | exact h.elim) (fun x as M P h C hR => ?_)
  unfold T_X9_turnSums at h
  split at h
  rotate_left
  · exact h.elim
  rename_i g0 s0 g s n
  obtain ⟨rfl, rfl, ht, hg, hs, h28, hn, hr, hP⟩ := h
  obtain ⟨f, hf⟩ : ∃ f : Nat → Int, f = M g s := ⟨_, rfl⟩
  rw [← hf] at hr hP
  have hfi : ∀ i : Int, M g s i.toNat = f i.toNat := fun i => by rw [hf]
  have hall := sm_in (f := f) (n := n.toNat) (c := 1000) (by decide) hr
  have hsi : ∀ i : Nat, i ≤ n.toNat → 0 ≤ sm f i ∧ sm f i ≤ sm f n.toNat := by
    intro i hi
    refine ⟨(sm_in (f := f) (n := i) (c := 1000) (by decide) (fun q hq => hr q (by omega))).1, ?_⟩
    obtain ⟨d, hd⟩ : ∃ d, n.toNat = i + d := ⟨n.toNat - i, by omega⟩
    rw [hd]
    have : ∀ d, i + d ≤ n.toNat → sm f i ≤ sm f (i + d) := by
      intro d
      induction d with
      | zero => intro _; exact Int.le_refl _
      | succ d ih => intro h; have := ih (by omega); have := hr (i + d) (by omega); show _ ≤ sm f (i + d) + f (i + d); omega
    exact this d (by omega)
  refine B_X9_turnSums_0 C (k_X10_sumOf l) (by decide) (k_X9_clear l) (by decide) _ _ _ ?_
  simp only [c_iadd, c_isub, c_imul, c_ladd, c_lsub, c_lmul, c_ineg, c_lneg, c_ic, c_lc, c_iload, c_lload, c_aload, c_istore, c_astore, c_lstore, c_iinc, c_dup, c_dup2, c_goto, c_i2l, c_l2i, c_idiv, c_ldiv, c_lrem, c_lshl, c_gi, c_gl, c_gr, c_pi, c_pz, c_pl, c_iald, c_lald, c_bald, c_aald, c_iast, c_last, c_bast, c_callV, c_callS, c_mmax, c_mmin, c_mabs, c_mmaxl, c_mabsl, c_iret, c_zret, c_lret, c_vret, c_tsw, c_lsw, c_icmp_eq, c_icmp_ne, c_icmp_lt, c_icmp_ge, c_icmp_gt, c_icmp_le, c_if_eq, c_if_ne, c_if_lt, c_if_ge, c_if_gt, c_if_le, c_lcmp_eq, c_lcmp_ne, c_lcmp_lt, c_lcmp_ge, c_lcmp_gt, c_lcmp_le, c_lraw_eq, c_lraw_lt, c_lraw_ge, c_lraw_gt, c_lraw_le, acat, scat, tswP, pops, st1, st2, klo, pad, elo, List.getElem?_cons_zero, List.getElem?_cons_succ, List.getElem?_nil, List.set_cons_zero, List.set_cons_succ, List.set_nil, Option.toList_some, Option.toList_none, List.cons_append, List.nil_append, List.length_cons, List.length_nil, stc_ap, stm_ap, false_and, and_false, and_self, true_and, and_true, Nat.reduceEqDiff, reduceIte, al_12, al_13, al_14, al_15, al_16, al_17, al_18, al_19, al_20, al_21, al_22, al_23, al_24, al_25, al_26, al_27, al_28, al_29, al_30, al_31, al_32, al_33, al_34, al_35, al_36, al_37, al_38, al_39, al_40, al_41, al_42, al_43, al_44, al_45, al_46, al_47, al_48, al_49, al_50, al_51, al_52, al_53, al_54, al_55, at_12, at_13, at_14, at_15, at_16, at_17, at_18, at_19, at_20, at_21, at_22, at_23, at_24, at_25, at_26, at_27, at_28, at_29, at_30, at_31, at_32, at_33, at_34, at_35, at_36, at_37, at_38, at_39, at_40, at_41, at_42, at_43, at_44, at_45, at_46, at_47, at_48, at_49, at_50, at_51, at_52, at_53, at_54, at_55, cn_0, cn_1, cn_2, cn_3, cn_4, cn_5, cn_6, cn_7, cn_8, cn_9, cn_10, cn_11, cn_12, cn_13, cn_14, cn_15, cn_16, cn_17, cn_18, cn_19, cn_20, cn_21, cn_22, cn_23, cn_24, cn_25, cn_26, cn_27, cn_28, cn_29, cn_30, cn_31, cn_32, cn_33, cn_34, cn_35, cn_36, cn_37, cn_38, cn_39, cn_40, cn_41, cn_42, cn_43, cn_44, cn_45, cn_46, cn_47, cn_48, cn_49, cn_50, cn_51, cn_52, cn_53, cn_54, cn_55, Nat.reduceAdd, Nat.reduceLT, Nat.reduceLeDiff, Nat.lt_add_one, Nat.zero_lt_succ, Nat.reduceSub, ite_true, ite_false, reduceCtorEq, forall_const, Nat.reduceSucc, Nat.zero_add, Nat.add_zero, Nat.le_refl, Nat.zero_le, Nat.reducePow, Int.reduceNeg, Nat.reduceMul, eq_self, Int.cast_ofNat_Int, Int.toNat_natCast, iR, lR, Int.reduceEq, Int.reduceLT, Int.reduceLE, Int.reduceNe, not_false_eq_true, not_true_eq_false, false_implies, true_implies, Int.reduceAdd, Int.reduceSub, Int.reduceMul, Int.reduceToNat, implies_true, or_true, true_or, or_false, false_or, T_X10_sumOf, T_X9_clear]
  rw [← hf]
  refine ⟨ht, hg, hs, by omega, by omega, by omega, ?_⟩
  rw [stm_on]
  refine loopU n (fun i M' => (0 ≤ i ∧ i ≤ n) ∧ ∃ c : Nat → Int, M' = stc M 28 0 c ∧ ∀ key : Int, 0 ≤ key → key ≤ sm f n.toNat → c key.toNat = swc f i.toNat key) (fun i M' => J x 25 [some (zr 9 0), some (zr g s), some (zi n), some (zi (sm f n.toNat)), some (zi (sm f i.toNat)), some (zi i), none] [] M') ?_ 0 _ ⟨by omega, _, rfl, fun key k1 k2 => ?_⟩
  rotate_left
  · show (if key.toNat = 0 then 1 else _) = swc f 0 key
    unfold swc
    by_cases e : key = 0
    · rw [if_pos e, if_pos (by omega)]
    · rw [if_neg e, if_neg (by omega), if_pos (by omega)]
  rintro i M' ⟨hi, c, rfl, hc⟩ ih
  refine B_X9_turnSums_25 C hR (k_X9_settle l) (by decide) _ _ _ ?_
  simp only [c_iadd, c_isub, c_imul, c_ladd, c_lsub, c_lmul, c_ineg, c_lneg, c_ic, c_lc, c_iload, c_lload, c_aload, c_istore, c_astore, c_lstore, c_iinc, c_dup, c_dup2, c_goto, c_i2l, c_l2i, c_idiv, c_ldiv, c_lrem, c_lshl, c_gi, c_gl, c_gr, c_pi, c_pz, c_pl, c_iald, c_lald, c_bald, c_aald, c_iast, c_last, c_bast, c_callV, c_callS, c_mmax, c_mmin, c_mabs, c_mmaxl, c_mabsl, c_iret, c_zret, c_lret, c_vret, c_tsw, c_lsw, c_icmp_eq, c_icmp_ne, c_icmp_lt, c_icmp_ge, c_icmp_gt, c_icmp_le, c_if_eq, c_if_ne, c_if_lt, c_if_ge, c_if_gt, c_if_le, c_lcmp_eq, c_lcmp_ne, c_lcmp_lt, c_lcmp_ge, c_lcmp_gt, c_lcmp_le, c_lraw_eq, c_lraw_lt, c_lraw_ge, c_lraw_gt, c_lraw_le, acat, scat, tswP, pops, st1, st2, klo, pad, elo, List.getElem?_cons_zero, List.getElem?_cons_succ, List.getElem?_nil, List.set_cons_zero, List.set_cons_succ, List.set_nil, Option.toList_some, Option.toList_none, List.cons_append, List.nil_append, List.length_cons, List.length_nil, stc_ap, stm_ap, false_and, and_false, and_self, true_and, and_true, Nat.reduceEqDiff, reduceIte, al_12, al_13, al_14, al_15, al_16, al_17, al_18, al_19, al_20, al_21, al_22, al_23, al_24, al_25, al_26, al_27, al_28, al_29, al_30, al_31, al_32, al_33, al_34, al_35, al_36, al_37, al_38, al_39, al_40, al_41, al_42, al_43, al_44, al_45, al_46, al_47, al_48, al_49, al_50, al_51, al_52, al_53, al_54, al_55, at_12, at_13, at_14, at_15, at_16, at_17, at_18, at_19, at_20, at_21, at_22, at_23, at_24, at_25, at_26, at_27, at_28, at_29, at_30, at_31, at_32, at_33, at_34, at_35, at_36, at_37, at_38, at_39, at_40, at_41, at_42, at_43, at_44, at_45, at_46, at_47, at_48, at_49, at_50, at_51, at_52, at_53, at_54, at_55, cn_0, cn_1, cn_2, cn_3, cn_4, cn_5, cn_6, cn_7, cn_8, cn_9, cn_10, cn_11, cn_12, cn_13, cn_14, cn_15, cn_16, cn_17, cn_18, cn_19, cn_20, cn_21, cn_22, cn_23, cn_24, cn_25, cn_26, cn_27, cn_28, cn_29, cn_30, cn_31, cn_32, cn_33, cn_34, cn_35, cn_36, cn_37, cn_38, cn_39, cn_40, cn_41, cn_42, cn_43, cn_44, cn_45, cn_46, cn_47, cn_48, cn_49, cn_50, cn_51, cn_52, cn_53, cn_54, cn_55, Nat.reduceAdd, Nat.reduceLT, Nat.reduceLeDiff, Nat.lt_add_one, Nat.zero_lt_succ, Nat.reduceSub, ite_true, ite_false, reduceCtorEq, forall_const, Nat.reduceSucc, Nat.zero_add, Nat.add_zero, Nat.le_refl, Nat.zero_le, Nat.reducePow, Int.reduceNeg, Nat.reduceMul, eq_self, Int.cast_ofNat_Int, Int.toNat_natCast, iR, lR, Int.reduceEq, Int.reduceLT, Int.reduceLE, Int.reduceNe, not_false_eq_true, not_true_eq_false, false_implies, true_implies, Int.reduceAdd, Int.reduceSub, Int.reduceMul, Int.reduceToNat, implies_true, or_true, true_or, or_false, false_or, T_X9_settle]
  refine ⟨by omega, by omega, fun q => ?_, fun q => ?_⟩
  · refine hP _ ?_ rfl rfl rfl ?_
    · intro g' a1 a2
      funext s' k'
      simp only [stm_ap, stc_ap, a1, a2, false_and, if_false]
    · intro key k1 k2
      rw [show n.toNat = i.toNat by omega]
      exact hc key k1 k2
  have hv := hr i.toNat (by omega)
  have hs1 := hsi i.toNat (by omega)
  have hs2 := hsi (i.toNat + 1) (by omega)
  rw [sm_s] at hs2
  refine loopD (-1) (fun u M' => (-1 ≤ u ∧ u ≤ sm f i.toNat) ∧ M' = stc M 28 0 (tsf c (f i.toNat) (sm f i.toNat) u)) (fun u M' => J x 35 [some (zr 9 0), some (zr g s), some (zi n), some (zi (sm f n.toNat)), some (zi (sm f i.toNat)), some (zi i), some (zi u)] [] M') ?_ (sm f i.toNat) _ ⟨by omega, ?_⟩
  rotate_left
  · rw [show tsf c (f i.toNat) (sm f i.toNat) (sm f i.toNat) = c from funext fun t => if_neg (by omega)]
  rintro u M' ⟨hu, rfl⟩ ih2
  refine B_X9_turnSums_35 C _ _ _ ?_
  simp only [c_iadd, c_isub, c_imul, c_ladd, c_lsub, c_lmul, c_ineg, c_lneg, c_ic, c_lc, c_iload, c_lload, c_aload, c_istore, c_astore, c_lstore, c_iinc, c_dup, c_dup2, c_goto, c_i2l, c_l2i, c_idiv, c_ldiv, c_lrem, c_lshl, c_gi, c_gl, c_gr, c_pi, c_pz, c_pl, c_iald, c_lald, c_bald, c_aald, c_iast, c_last, c_bast, c_callV, c_callS, c_mmax, c_mmin, c_mabs, c_mmaxl, c_mabsl, c_iret, c_zret, c_lret, c_vret, c_tsw, c_lsw, c_icmp_eq, c_icmp_ne, c_icmp_lt, c_icmp_ge, c_icmp_gt, c_icmp_le, c_if_eq, c_if_ne, c_if_lt, c_if_ge, c_if_gt, c_if_le, c_lcmp_eq, c_lcmp_ne, c_lcmp_lt, c_lcmp_ge, c_lcmp_gt, c_lcmp_le, c_lraw_eq, c_lraw_lt, c_lraw_ge, c_lraw_gt, c_lraw_le, acat, scat, tswP, pops, st1, st2, klo, pad, elo, List.getElem?_cons_zero, List.getElem?_cons_succ, List.getElem?_nil, List.set_cons_zero, List.set_cons_succ, List.set_nil, Option.toList_some, Option.toList_none, List.cons_append, List.nil_append, List.length_cons, List.length_nil, stc_ap, stm_ap, false_and, and_false, and_self, true_and, and_true, Nat.reduceEqDiff, reduceIte, al_12, al_13, al_14, al_15, al_16, al_17, al_18, al_19, al_20, al_21, al_22, al_23, al_24, al_25, al_26, al_27, al_28, al_29, al_30, al_31, al_32, al_33, al_34, al_35, al_36, al_37, al_38, al_39, al_40, al_41, al_42, al_43, al_44, al_45, al_46, al_47, al_48, al_49, al_50, al_51, al_52, al_53, al_54, al_55, at_12, at_13, at_14, at_15, at_16, at_17, at_18, at_19, at_20, at_21, at_22, at_23, at_24, at_25, at_26, at_27, at_28, at_29, at_30, at_31, at_32, at_33, at_34, at_35, at_36, at_37, at_38, at_39, at_40, at_41, at_42, at_43, at_44, at_45, at_46, at_47, at_48, at_49, at_50, at_51, at_52, at_53, at_54, at_55, cn_0, cn_1, cn_2, cn_3, cn_4, cn_5, cn_6, cn_7, cn_8, cn_9, cn_10, cn_11, cn_12, cn_13, cn_14, cn_15, cn_16, cn_17, cn_18, cn_19, cn_20, cn_21, cn_22, cn_23, cn_24, cn_25, cn_26, cn_27, cn_28, cn_29, cn_30, cn_31, cn_32, cn_33, cn_34, cn_35, cn_36, cn_37, cn_38, cn_39, cn_40, cn_41, cn_42, cn_43, cn_44, cn_45, cn_46, cn_47, cn_48, cn_49, cn_50, cn_51, cn_52, cn_53, cn_54, cn_55, Nat.reduceAdd, Nat.reduceLT, Nat.reduceLeDiff, Nat.lt_add_one, Nat.zero_lt_succ, Nat.reduceSub, ite_true, ite_false, reduceCtorEq, forall_const, Nat.reduceSucc, Nat.zero_add, Nat.add_zero, Nat.le_refl, Nat.zero_le, Nat.reducePow, Int.reduceNeg, Nat.reduceMul, eq_self, Int.cast_ofNat_Int, Int.toNat_natCast, iR, lR, Int.reduceEq, Int.reduceLT, Int.reduceLE, Int.reduceNe, not_false_eq_true, not_true_eq_false, false_implies, true_implies, Int.reduceAdd, Int.reduceSub, Int.reduceMul, Int.reduceToNat, implies_true, or_true, true_or, or_false, false_or, h28, ht, hg, hs]
  rw [hfi]
  refine ⟨by omega, fun q2 => ⟨by omega, J_fgt [true, true, true, true, true, true, false] ?_⟩, fun q2 => ⟨by omega, by omega, by omega, ?_⟩⟩
  · have hkey : ∀ key : Int, 0 ≤ key → key ≤ sm f n.toNat → tsf c (f i.toNat) (sm f i.toNat) u key.toNat = swc f (i + 1).toNat key := by
      intro key k1 k2
      rw [show (i + 1).toNat = i.toNat + 1 by omega]
      show _ = swc f i.toNat key + swc f i.toNat (key - f i.toNat)
      unfold tsf
      by_cases e : u < (key.toNat : Int) - f i.toNat ∧ (key.toNat : Int) - f i.toNat ≤ sm f i.toNat
      · rw [if_pos e, hc key k1 k2, show (key.toNat : Int) - f i.toNat = key - f i.toNat by omega, hc (key - f i.toNat) (by omega) (by omega)]
      · rw [if_neg e, hc key k1 k2]
        have : swc f i.toNat (key - f i.toNat) = 0 := by
          apply Classical.byContradiction
          intro z
          have := swc_supp (fun j hj => (hr j (by omega)).1) z
          omega
        rw [this, Int.add_zero]
    have h9 := ih (by omega) _ ⟨by omega, _, rfl, hkey⟩
    rw [show (i + 1).toNat = i.toNat + 1 by omega, sm_s] at h9
    exact h9
  · rw [show u + -1 = u - 1 by omega]
    refine ⟨by omega, ih2 (by omega) _ ⟨by omega, ?_⟩⟩
    rw [stm_on]
    congr 1
    funext t
    unfold tsf
    by_cases e : t = (u + f i.toNat).toNat
    · rw [if_pos e, if_neg (by omega), if_neg (by omega), if_pos (by omega), e, show (((u + f i.toNat).toNat : Nat) : Int) - f i.toNat = u by omega]
    · rw [if_neg e]
      by_cases d : u < (t : Int) - f i.toNat ∧ (t : Int) - f i.toNat ≤ sm f i.toNat
      · rw [if_pos d, if_pos (by omega)]
      · rw [if_neg d, if_neg (by omega)]
/-! rows of gaps -/
def T_X9_addGaps : Ct := fun as M P => match as with
  | [.inr (some (g, s)), .inl (.inl j)] => g = 9 ∧ s = 0 ∧ (1 ≤ j ∧ j ≤ 20) ∧ P none (stc M 28 0 (fun t => if 401 * j ≤ (t : Int) ∧ (t : Int) < 401 * j + 401 then M 28 0 t + M 28 0 (t - 401) else M 28 0 t))
  | _ => False
theorem k_X9_addGaps (l : Launch) : MetT l yX9_addGaps cX9_addGaps 5 none 0 T_X9_addGaps := by
  refine MetT.of (by decide +kernel) (fun as M P h => by unfold T_X9_addGaps at h; split at h <;> first | (simp [elo]; done) | exact h.elim) (fun x as M P h C hR => ?_)
  unfold T_X9_addGaps at h
  split at h
  rotate_left
  · exact h.elim
  rename_i g s j
  obtain ⟨rfl, rfl, hj, hP⟩ := h
  refine B_X9_addGaps_0 C _ _ _ ?_
  simp only [c_iadd, c_isub, c_imul, c_ladd, c_lsub, c_lmul, c_ineg, c_lneg, c_ic, c_lc, c_iload, c_lload, c_aload, c_istore, c_astore, c_lstore, c_iinc, c_dup, c_dup2, c_goto, c_i2l, c_l2i, c_idiv, c_ldiv, c_lrem, c_lshl, c_gi, c_gl, c_gr, c_pi, c_pz, c_pl, c_iald, c_lald, c_bald, c_aald, c_iast, c_last, c_bast, c_callV, c_callS, c_mmax, c_mmin, c_mabs, c_mmaxl, c_mabsl, c_iret, c_zret, c_lret, c_vret, c_tsw, c_lsw, c_icmp_eq, c_icmp_ne, c_icmp_lt, c_icmp_ge, c_icmp_gt, c_icmp_le, c_if_eq, c_if_ne, c_if_lt, c_if_ge, c_if_gt, c_if_le, c_lcmp_eq, c_lcmp_ne, c_lcmp_lt, c_lcmp_ge, c_lcmp_gt, c_lcmp_le, c_lraw_eq, c_lraw_lt, c_lraw_ge, c_lraw_gt, c_lraw_le, acat, scat, tswP, pops, st1, st2, klo, pad, elo, List.getElem?_cons_zero, List.getElem?_cons_succ, List.getElem?_nil, List.set_cons_zero, List.set_cons_succ, List.set_nil, Option.toList_some, Option.toList_none, List.cons_append, List.nil_append, List.length_cons, List.length_nil, stc_ap, stm_ap, false_and, and_false, and_self, true_and, and_true, Nat.reduceEqDiff, reduceIte, al_12, al_13, al_14, al_15, al_16, al_17, al_18, al_19, al_20, al_21, al_22, al_23, al_24, al_25, al_26, al_27, al_28, al_29, al_30, al_31, al_32, al_33, al_34, al_35, al_36, al_37, al_38, al_39, al_40, al_41, al_42, al_43, al_44, al_45, al_46, al_47, al_48, al_49, al_50, al_51, al_52, al_53, al_54, al_55, at_12, at_13, at_14, at_15, at_16, at_17, at_18, at_19, at_20, at_21, at_22, at_23, at_24, at_25, at_26, at_27, at_28, at_29, at_30, at_31, at_32, at_33, at_34, at_35, at_36, at_37, at_38, at_39, at_40, at_41, at_42, at_43, at_44, at_45, at_46, at_47, at_48, at_49, at_50, at_51, at_52, at_53, at_54, at_55, cn_0, cn_1, cn_2, cn_3, cn_4, cn_5, cn_6, cn_7, cn_8, cn_9, cn_10, cn_11, cn_12, cn_13, cn_14, cn_15, cn_16, cn_17, cn_18, cn_19, cn_20, cn_21, cn_22, cn_23, cn_24, cn_25, cn_26, cn_27, cn_28, cn_29, cn_30, cn_31, cn_32, cn_33, cn_34, cn_35, cn_36, cn_37, cn_38, cn_39, cn_40, cn_41, cn_42, cn_43, cn_44, cn_45, cn_46, cn_47, cn_48, cn_49, cn_50, cn_51, cn_52, cn_53, cn_54, cn_55, Nat.reduceAdd, Nat.reduceLT, Nat.reduceLeDiff, Nat.lt_add_one, Nat.zero_lt_succ, Nat.reduceSub, ite_true, ite_false, reduceCtorEq, forall_const, Nat.reduceSucc, Nat.zero_add, Nat.add_zero, Nat.le_refl, Nat.zero_le, Nat.reducePow, Int.reduceNeg, Nat.reduceMul, eq_self, Int.cast_ofNat_Int, Int.toNat_natCast, iR, lR, Int.reduceEq, Int.reduceLT, Int.reduceLE, Int.reduceNe, not_false_eq_true, not_true_eq_false, false_implies, true_implies, Int.reduceAdd, Int.reduceSub, Int.reduceMul, Int.reduceToNat, implies_true, or_true, true_or, or_false, false_or]
  refine loopU 401 (fun u M' => (0 ≤ u ∧ u ≤ 401) ∧ M' = stc M 28 0 (fun t => if 401 * j ≤ (t : Int) ∧ (t : Int) < 401 * j + u then M 28 0 t + M 28 0 (t - 401) else M 28 0 t)) (fun u M' => J x 17 [some (zr 9 0), some (zi j), some (zi ((j - 1) * 401)), some (zi (j * 401)), some (zi u)] [] M') ?_ 0 M ⟨by omega, ?_⟩
  rotate_left
  · rw [show (fun t : Nat => if 401 * j ≤ (t : Int) ∧ (t : Int) < 401 * j + 0 then M 28 0 t + M 28 0 (t - 401) else M 28 0 t) = M 28 0 from funext fun t => if_neg (by omega), stc_id]
  rintro u M' ⟨hu, rfl⟩ ih
  refine B_X9_addGaps_17 C hR _ _ _ ?_
  simp only [c_iadd, c_isub, c_imul, c_ladd, c_lsub, c_lmul, c_ineg, c_lneg, c_ic, c_lc, c_iload, c_lload, c_aload, c_istore, c_astore, c_lstore, c_iinc, c_dup, c_dup2, c_goto, c_i2l, c_l2i, c_idiv, c_ldiv, c_lrem, c_lshl, c_gi, c_gl, c_gr, c_pi, c_pz, c_pl, c_iald, c_lald, c_bald, c_aald, c_iast, c_last, c_bast, c_callV, c_callS, c_mmax, c_mmin, c_mabs, c_mmaxl, c_mabsl, c_iret, c_zret, c_lret, c_vret, c_tsw, c_lsw, c_icmp_eq, c_icmp_ne, c_icmp_lt, c_icmp_ge, c_icmp_gt, c_icmp_le, c_if_eq, c_if_ne, c_if_lt, c_if_ge, c_if_gt, c_if_le, c_lcmp_eq, c_lcmp_ne, c_lcmp_lt, c_lcmp_ge, c_lcmp_gt, c_lcmp_le, c_lraw_eq, c_lraw_lt, c_lraw_ge, c_lraw_gt, c_lraw_le, acat, scat, tswP, pops, st1, st2, klo, pad, elo, List.getElem?_cons_zero, List.getElem?_cons_succ, List.getElem?_nil, List.set_cons_zero, List.set_cons_succ, List.set_nil, Option.toList_some, Option.toList_none, List.cons_append, List.nil_append, List.length_cons, List.length_nil, stc_ap, stm_ap, false_and, and_false, and_self, true_and, and_true, Nat.reduceEqDiff, reduceIte, al_12, al_13, al_14, al_15, al_16, al_17, al_18, al_19, al_20, al_21, al_22, al_23, al_24, al_25, al_26, al_27, al_28, al_29, al_30, al_31, al_32, al_33, al_34, al_35, al_36, al_37, al_38, al_39, al_40, al_41, al_42, al_43, al_44, al_45, al_46, al_47, al_48, al_49, al_50, al_51, al_52, al_53, al_54, al_55, at_12, at_13, at_14, at_15, at_16, at_17, at_18, at_19, at_20, at_21, at_22, at_23, at_24, at_25, at_26, at_27, at_28, at_29, at_30, at_31, at_32, at_33, at_34, at_35, at_36, at_37, at_38, at_39, at_40, at_41, at_42, at_43, at_44, at_45, at_46, at_47, at_48, at_49, at_50, at_51, at_52, at_53, at_54, at_55, cn_0, cn_1, cn_2, cn_3, cn_4, cn_5, cn_6, cn_7, cn_8, cn_9, cn_10, cn_11, cn_12, cn_13, cn_14, cn_15, cn_16, cn_17, cn_18, cn_19, cn_20, cn_21, cn_22, cn_23, cn_24, cn_25, cn_26, cn_27, cn_28, cn_29, cn_30, cn_31, cn_32, cn_33, cn_34, cn_35, cn_36, cn_37, cn_38, cn_39, cn_40, cn_41, cn_42, cn_43, cn_44, cn_45, cn_46, cn_47, cn_48, cn_49, cn_50, cn_51, cn_52, cn_53, cn_54, cn_55, Nat.reduceAdd, Nat.reduceLT, Nat.reduceLeDiff, Nat.lt_add_one, Nat.zero_lt_succ, Nat.reduceSub, ite_true, ite_false, reduceCtorEq, forall_const, Nat.reduceSucc, Nat.zero_add, Nat.add_zero, Nat.le_refl, Nat.zero_le, Nat.reducePow, Int.reduceNeg, Nat.reduceMul, eq_self, Int.cast_ofNat_Int, Int.toNat_natCast, iR, lR, Int.reduceEq, Int.reduceLT, Int.reduceLE, Int.reduceNe, not_false_eq_true, not_true_eq_false, false_implies, true_implies, Int.reduceAdd, Int.reduceSub, Int.reduceMul, Int.reduceToNat, implies_true, or_true, true_or, or_false, false_or]
  refine ⟨by omega, fun q => ?_, fun q => ⟨by omega, by omega, by omega, ih (by omega) _ ⟨by omega, ?_⟩⟩⟩
  · rw [show u = 401 by omega]; exact hP
  · rw [stm_on]
    congr 1
    funext t
    by_cases e : t = (j * 401 + u).toNat
    · rw [if_pos e, if_neg (by omega), if_neg (by omega), if_pos (by omega), e, show ((j - 1) * 401 + u).toNat = (j * 401 + u).toNat - 401 by omega]
    · rw [if_neg e]
      by_cases d : 401 * j ≤ (t : Int) ∧ (t : Int) < 401 * j + u
      · rw [if_pos d, if_pos (by omega)]
      · rw [if_neg d, if_neg (by omega)]
def T_X9_liftGaps : Ct := fun as M P => match as with
  | [.inr (some (g, s)), .inl (.inl j), .inl (.inl r)] => g = 9 ∧ s = 0 ∧ (0 ≤ j ∧ j ≤ 20) ∧ (0 ≤ r ∧ r ≤ 400) ∧ P none (stc M 28 0 (fun t => if (t : Int) = 401 * j + r then sm (fun i => M 28 0 ((401 * j).toNat + i)) (r.toNat + 1) else if 401 * j ≤ (t : Int) ∧ (t : Int) < 401 * j + r then 0 else M 28 0 t))
  | _ => False
theorem k_X9_liftGaps (l : Launch) : MetT l yX9_liftGaps cX9_liftGaps 5 none 0 T_X9_liftGaps := by
  refine MetT.of (by decide +kernel) (fun as M P h => by unfold T_X9_liftGaps at h; split at h <;> first | (simp [elo]; done) | exact h.elim) (fun x as M P h C hR => ?_)
  unfold T_X9_liftGaps at h
  split at h
  rotate_left
  · exact h.elim
  rename_i g s j r
  obtain ⟨rfl, rfl, hj, hr, hP⟩ := h
  refine B_X9_liftGaps_0 C _ _ _ ?_
  simp only [c_iadd, c_isub, c_imul, c_ladd, c_lsub, c_lmul, c_ineg, c_lneg, c_ic, c_lc, c_iload, c_lload, c_aload, c_istore, c_astore, c_lstore, c_iinc, c_dup, c_dup2, c_goto, c_i2l, c_l2i, c_idiv, c_ldiv, c_lrem, c_lshl, c_gi, c_gl, c_gr, c_pi, c_pz, c_pl, c_iald, c_lald, c_bald, c_aald, c_iast, c_last, c_bast, c_callV, c_callS, c_mmax, c_mmin, c_mabs, c_mmaxl, c_mabsl, c_iret, c_zret, c_lret, c_vret, c_tsw, c_lsw, c_icmp_eq, c_icmp_ne, c_icmp_lt, c_icmp_ge, c_icmp_gt, c_icmp_le, c_if_eq, c_if_ne, c_if_lt, c_if_ge, c_if_gt, c_if_le, c_lcmp_eq, c_lcmp_ne, c_lcmp_lt, c_lcmp_ge, c_lcmp_gt, c_lcmp_le, c_lraw_eq, c_lraw_lt, c_lraw_ge, c_lraw_gt, c_lraw_le, acat, scat, tswP, pops, st1, st2, klo, pad, elo, List.getElem?_cons_zero, List.getElem?_cons_succ, List.getElem?_nil, List.set_cons_zero, List.set_cons_succ, List.set_nil, Option.toList_some, Option.toList_none, List.cons_append, List.nil_append, List.length_cons, List.length_nil, stc_ap, stm_ap, false_and, and_false, and_self, true_and, and_true, Nat.reduceEqDiff, reduceIte, al_12, al_13, al_14, al_15, al_16, al_17, al_18, al_19, al_20, al_21, al_22, al_23, al_24, al_25, al_26, al_27, al_28, al_29, al_30, al_31, al_32, al_33, al_34, al_35, al_36, al_37, al_38, al_39, al_40, al_41, al_42, al_43, al_44, al_45, al_46, al_47, al_48, al_49, al_50, al_51, al_52, al_53, al_54, al_55, at_12, at_13, at_14, at_15, at_16, at_17, at_18, at_19, at_20, at_21, at_22, at_23, at_24, at_25, at_26, at_27, at_28, at_29, at_30, at_31, at_32, at_33, at_34, at_35, at_36, at_37, at_38, at_39, at_40, at_41, at_42, at_43, at_44, at_45, at_46, at_47, at_48, at_49, at_50, at_51, at_52, at_53, at_54, at_55, cn_0, cn_1, cn_2, cn_3, cn_4, cn_5, cn_6, cn_7, cn_8, cn_9, cn_10, cn_11, cn_12, cn_13, cn_14, cn_15, cn_16, cn_17, cn_18, cn_19, cn_20, cn_21, cn_22, cn_23, cn_24, cn_25, cn_26, cn_27, cn_28, cn_29, cn_30, cn_31, cn_32, cn_33, cn_34, cn_35, cn_36, cn_37, cn_38, cn_39, cn_40, cn_41, cn_42, cn_43, cn_44, cn_45, cn_46, cn_47, cn_48, cn_49, cn_50, cn_51, cn_52, cn_53, cn_54, cn_55, Nat.reduceAdd, Nat.reduceLT, Nat.reduceLeDiff, Nat.lt_add_one, Nat.zero_lt_succ, Nat.reduceSub, ite_true, ite_false, reduceCtorEq, forall_const, Nat.reduceSucc, Nat.zero_add, Nat.add_zero, Nat.le_refl, Nat.zero_le, Nat.reducePow, Int.reduceNeg, Nat.reduceMul, eq_self, Int.cast_ofNat_Int, Int.toNat_natCast, iR, lR, Int.reduceEq, Int.reduceLT, Int.reduceLE, Int.reduceNe, not_false_eq_true, not_true_eq_false, false_implies, true_implies, Int.reduceAdd, Int.reduceSub, Int.reduceMul, Int.reduceToNat, implies_true, or_true, true_or, or_false, false_or]
  refine loopU r (fun u M' => (0 ≤ u ∧ u ≤ r) ∧ M' = stc M 28 0 (fun t => if (t : Int) = 401 * j + r then sm (fun i => M 28 0 ((401 * j).toNat + i)) u.toNat + M 28 0 (401 * j + r).toNat else if 401 * j ≤ (t : Int) ∧ (t : Int) < 401 * j + u then 0 else M 28 0 t)) (fun u M' => J x 9 [some (zr 9 0), some (zi j), some (zi r), some (zi (j * 401)), some (zi u)] [] M') ?_ 0 M ⟨by omega, ?_⟩
  rotate_left
  · rw [show (fun t : Nat => if (t : Int) = 401 * j + r then sm (fun i => M 28 0 ((401 * j).toNat + i)) (0 : Int).toNat + M 28 0 (401 * j + r).toNat else if 401 * j ≤ (t : Int) ∧ (t : Int) < 401 * j + 0 then 0 else M 28 0 t) = M 28 0 from funext fun t => ?_, stc_id]
    by_cases e : (t : Int) = 401 * j + r
    · rw [if_pos e, show (401 * j + r).toNat = t by omega]
      show 0 + _ = _
      omega
    · rw [if_neg e, if_neg (by omega)]
  rintro u M' ⟨hu, rfl⟩ ih
  refine B_X9_liftGaps_9 C hR _ _ _ ?_
  simp only [c_iadd, c_isub, c_imul, c_ladd, c_lsub, c_lmul, c_ineg, c_lneg, c_ic, c_lc, c_iload, c_lload, c_aload, c_istore, c_astore, c_lstore, c_iinc, c_dup, c_dup2, c_goto, c_i2l, c_l2i, c_idiv, c_ldiv, c_lrem, c_lshl, c_gi, c_gl, c_gr, c_pi, c_pz, c_pl, c_iald, c_lald, c_bald, c_aald, c_iast, c_last, c_bast, c_callV, c_callS, c_mmax, c_mmin, c_mabs, c_mmaxl, c_mabsl, c_iret, c_zret, c_lret, c_vret, c_tsw, c_lsw, c_icmp_eq, c_icmp_ne, c_icmp_lt, c_icmp_ge, c_icmp_gt, c_icmp_le, c_if_eq, c_if_ne, c_if_lt, c_if_ge, c_if_gt, c_if_le, c_lcmp_eq, c_lcmp_ne, c_lcmp_lt, c_lcmp_ge, c_lcmp_gt, c_lcmp_le, c_lraw_eq, c_lraw_lt, c_lraw_ge, c_lraw_gt, c_lraw_le, acat, scat, tswP, pops, st1, st2, klo, pad, elo, List.getElem?_cons_zero, List.getElem?_cons_succ, List.getElem?_nil, List.set_cons_zero, List.set_cons_succ, List.set_nil, Option.toList_some, Option.toList_none, List.cons_append, List.nil_append, List.length_cons, List.length_nil, stc_ap, stm_ap, false_and, and_false, and_self, true_and, and_true, Nat.reduceEqDiff, reduceIte, al_12, al_13, al_14, al_15, al_16, al_17, al_18, al_19, al_20, al_21, al_22, al_23, al_24, al_25, al_26, al_27, al_28, al_29, al_30, al_31, al_32, al_33, al_34, al_35, al_36, al_37, al_38, al_39, al_40, al_41, al_42, al_43, al_44, al_45, al_46, al_47, al_48, al_49, al_50, al_51, al_52, al_53, al_54, al_55, at_12, at_13, at_14, at_15, at_16, at_17, at_18, at_19, at_20, at_21, at_22, at_23, at_24, at_25, at_26, at_27, at_28, at_29, at_30, at_31, at_32, at_33, at_34, at_35, at_36, at_37, at_38, at_39, at_40, at_41, at_42, at_43, at_44, at_45, at_46, at_47, at_48, at_49, at_50, at_51, at_52, at_53, at_54, at_55, cn_0, cn_1, cn_2, cn_3, cn_4, cn_5, cn_6, cn_7, cn_8, cn_9, cn_10, cn_11, cn_12, cn_13, cn_14, cn_15, cn_16, cn_17, cn_18, cn_19, cn_20, cn_21, cn_22, cn_23, cn_24, cn_25, cn_26, cn_27, cn_28, cn_29, cn_30, cn_31, cn_32, cn_33, cn_34, cn_35, cn_36, cn_37, cn_38, cn_39, cn_40, cn_41, cn_42, cn_43, cn_44, cn_45, cn_46, cn_47, cn_48, cn_49, cn_50, cn_51, cn_52, cn_53, cn_54, cn_55, Nat.reduceAdd, Nat.reduceLT, Nat.reduceLeDiff, Nat.lt_add_one, Nat.zero_lt_succ, Nat.reduceSub, ite_true, ite_false, reduceCtorEq, forall_const, Nat.reduceSucc, Nat.zero_add, Nat.add_zero, Nat.le_refl, Nat.zero_le, Nat.reducePow, Int.reduceNeg, Nat.reduceMul, eq_self, Int.cast_ofNat_Int, Int.toNat_natCast, iR, lR, Int.reduceEq, Int.reduceLT, Int.reduceLE, Int.reduceNe, not_false_eq_true, not_true_eq_false, false_implies, true_implies, Int.reduceAdd, Int.reduceSub, Int.reduceMul, Int.reduceToNat, implies_true, or_true, true_or, or_false, false_or]
  refine ⟨by omega, by omega, fun q => ?_, fun q => ⟨by omega, by omega, by omega, by omega, ih (by omega) _ ⟨by omega, ?_⟩⟩⟩
  · rw [show u = r by omega]
    refine Eq.mp ?_ hP
    congr 2
    funext t
    by_cases e : (t : Int) = 401 * j + r
    · rw [if_pos e, if_pos e, sm_s, show (401 * j).toNat + r.toNat = (401 * j + r).toNat by omega]
    · rw [if_neg e, if_neg e]
  · rw [stm_on, stm_on]
    congr 1
    funext t
    by_cases e : (t : Int) = 401 * j + r
    · rw [if_neg (by omega), if_pos (by omega), if_pos e, show (u + 1).toNat = u.toNat + 1 by omega, sm_s, if_pos (by omega), if_neg (by omega), if_neg (by omega), show (j * 401 + u).toNat = (401 * j).toNat + u.toNat by omega]
      omega
    · by_cases d : t = (j * 401 + u).toNat
      · rw [if_pos d, if_neg e, if_pos (by omega)]
      · rw [if_neg d, if_neg (by omega), if_neg e, if_neg e]
        by_cases d2 : 401 * j ≤ (t : Int) ∧ (t : Int) < 401 * j + u
        · rw [if_pos d2, if_pos (by omega)]
        · rw [if_neg d2, if_neg (by omega)]
