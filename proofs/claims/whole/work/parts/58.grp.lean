/-! CloudBenchModel.group: the unlike numbers and how often each is there -/
theorem cle_all {f : Nat → Int} {v : Int} {n : Nat} (h : ∀ j, j < n → f j ≤ v) : cle f v n = n := by
  induction n with
  | zero => rfl
  | succ n ih =>
    show cle f v n + (if f n ≤ v then 1 else 0) = _
    rw [ih fun j hj => h j (by omega), if_pos (h n (by omega))]
    omega
theorem srt_cle {f : Nat → Int} {n : Nat} (hs : srt f n) (v : Int) {j : Nat} (hj : j < n) : f j ≤ v ↔ (j : Int) < cle f v n := by
  induction n with
  | zero => omega
  | succ n ih =>
    by_cases h : f n ≤ v
    · have ha : ∀ i, i < n + 1 → f i ≤ v := fun i hi => by
        by_cases e : i = n
        · rw [e]; exact h
        · exact Int.le_trans (hs i n (by omega) (by omega)) h
      rw [cle_all ha]
      exact ⟨fun _ => by omega, fun _ => ha j hj⟩
    · show _ ↔ (j : Int) < cle f v n + (if f n ≤ v then 1 else 0)
      rw [if_neg h, Int.add_zero]
      by_cases e : j = n
      · subst e
        have := cle_in f v j
        exact ⟨fun q => absurd q h, fun q => by omega⟩
      · exact ih (hs.less (by omega)) (by omega)
theorem cle_iff {A : Nat → Int} {v w : Int} {n : Nat} (h : ∀ k, k < n → (A k ≤ v ↔ A k ≤ w)) : cle A v n = cle A w n := by
  induction n with
  | zero => rfl
  | succ n ih =>
    show cle A v n + (if A n ≤ v then 1 else 0) = cle A w n + (if A n ≤ w then 1 else 0)
    rw [ih fun k hk => h k (by omega)]
    by_cases e : A n ≤ v
    · rw [if_pos e, if_pos ((h n (by omega)).mp e)]
    · rw [if_neg e, if_neg (fun q => e ((h n (by omega)).mpr q))]
theorem cle_eqc {A : Nat → Int} {u v : Int} {n : Nat} (h : ∀ k, k < n → (A k ≤ v ↔ (A k ≤ u ∨ A k = v))) (huv : u < v) : cle A v n = cle A u n + eqc A v n := by
  induction n with
  | zero => rfl
  | succ n ih =>
    show cle A v n + (if A n ≤ v then 1 else 0) = cle A u n + (if A n ≤ u then 1 else 0) + (eqc A v n + if A n = v then 1 else 0)
    rw [ih fun k hk => h k (by omega)]
    have := h n (by omega)
    by_cases e : A n ≤ v
    · rw [if_pos e]
      by_cases e2 : A n = v
      · rw [if_pos e2, if_neg (by omega)]; omega
      · rw [if_neg e2, if_pos (by omega)]; omega
    · rw [if_neg e, if_neg (by omega), if_neg (by omega)]; omega
theorem eqc_1 {A : Nat → Int} {v : Int} {n k : Nat} (hk : k < n) (h : A k = v) : 1 ≤ eqc A v n := by
  induction n with
  | zero => omega
  | succ n ih =>
    show 1 ≤ eqc A v n + (if A n = v then 1 else 0)
    by_cases e : k = n
    · rw [← e, if_pos h]; have := (ltc_in A v k).2.1; omega
    · have := ih (by omega)
      split <;> omega
/-- the least of the first k that is above the last one; 501 if there is none -/
def nxv (A : Nat → Int) (last : Int) : Nat → Int
  | 0 => 501
  | k + 1 => if last < A k ∧ A k < nxv A last k then A k else nxv A last k
theorem nxv_in {A : Nat → Int} {n : Nat} (hA : ∀ j, j < n → -500 ≤ A j ∧ A j ≤ 500) {last : Int} (hl : last < 501) : last < nxv A last n ∧ nxv A last n ≤ 501 ∧ (∀ k, k < n → last < A k → nxv A last n ≤ A k) ∧ (nxv A last n = 501 ∨ ∃ k, k < n ∧ A k = nxv A last n) := by
  induction n with
  | zero => exact ⟨hl, Int.le_refl _, fun k hk => by omega, Or.inl rfl⟩
  | succ n ih =>
    obtain ⟨i1, i2, i3, i4⟩ := ih fun j hj => hA j (by omega)
    have hAn := hA n (by omega)
    show last < (if last < A n ∧ A n < nxv A last n then A n else nxv A last n) ∧ (if last < A n ∧ A n < nxv A last n then A n else nxv A last n) ≤ 501 ∧ (∀ k, k < n + 1 → last < A k → (if last < A n ∧ A n < nxv A last n then A n else nxv A last n) ≤ A k) ∧ ((if last < A n ∧ A n < nxv A last n then A n else nxv A last n) = 501 ∨ ∃ k, k < n + 1 ∧ A k = (if last < A n ∧ A n < nxv A last n then A n else nxv A last n))
    by_cases c : last < A n ∧ A n < nxv A last n
    · rw [if_pos c]
      refine ⟨c.1, by omega, fun k hk hl => ?_, Or.inr ⟨n, by omega, rfl⟩⟩
      by_cases e : k = n
      · rw [e]; omega
      · have := i3 k (by omega) hl; omega
    · rw [if_neg c]
      refine ⟨i1, i2, fun k hk hl => ?_, ?_⟩
      · by_cases e : k = n
        · rw [e] at hl ⊢; omega
        · exact i3 k (by omega) hl
      · rcases i4 with h | ⟨k, hk, he⟩
        · exact Or.inl h
        · exact Or.inr ⟨k, by omega, he⟩
/-- the u-th of the unlike numbers, in rising order -/
def vsq (A : Nat → Int) (n : Nat) : Nat → Int
  | 0 => nxv A (-501) n
  | u + 1 => nxv A (vsq A n u) n
/-- the one ahead of it -/
def vpr (A : Nat → Int) (n : Nat) : Nat → Int
  | 0 => -501
  | u + 1 => vsq A n u
theorem vsq_n (A : Nat → Int) (n u : Nat) : vsq A n u = nxv A (vpr A n u) n := by cases u <;> rfl
theorem vsq_step {A : Nat → Int} {n : Nat} (hA : ∀ j, j < n → -500 ≤ A j ∧ A j ≤ 500) {u : Nat} (hp : vpr A n u < 501) (hv : vsq A n u < 501) : cle A (vsq A n u) n = cle A (vpr A n u) n + eqc A (vsq A n u) n ∧ 1 ≤ eqc A (vsq A n u) n ∧ vpr A n u < vsq A n u := by
  obtain ⟨i1, i2, i3, i4⟩ := nxv_in hA hp
  rw [← vsq_n] at i1 i2 i3 i4
  refine ⟨cle_eqc (fun k hk => ⟨fun h => ?_, fun h => ?_⟩) i1, ?_, i1⟩
  · by_cases e : A k ≤ vpr A n u
    · exact Or.inl e
    · have := i3 k hk (by omega); omega
  · omega
  · rcases i4 with h | ⟨k, hk, he⟩
    · omega
    · exact eqc_1 hk he
/-- the groups are as the numbers have them -/
def grp (A : Nat → Int) (n : Nat) (G : Nat → Int) (gm : Int) : Prop := (0 ≤ gm ∧ gm ≤ n) ∧ (∀ u : Nat, (u : Int) < gm → vsq A n u < 501 ∧ G u = eqc A (vsq A n u) n) ∧ vsq A n gm.toNat = 501
theorem grp_sum {A : Nat → Int} {n : Nat} (hA : ∀ j, j < n → -500 ≤ A j ∧ A j ≤ 500) {G : Nat → Int} {gm : Int} (h : ∀ u : Nat, (u : Int) < gm → vsq A n u < 501 ∧ G u = eqc A (vsq A n u) n) : ∀ u : Nat, (u : Int) ≤ gm → (vpr A n u < 501 ∧ -501 ≤ vpr A n u) ∧ sm G u = cle A (vpr A n u) n ∧ (u : Int) ≤ cle A (vpr A n u) n := by
  intro u
  induction u with
  | zero =>
    intro _
    have : cle A (-501) n = 0 := by
      clear h
      induction n with
      | zero => rfl
      | succ n ih =>
        show cle A (-501) n + (if A n ≤ -501 then 1 else 0) = 0
        rw [ih fun j hj => hA j (by omega), if_neg (by have := hA n (by omega); omega)]
        rfl
    exact ⟨(by decide : (-501 : Int) < 501 ∧ (-501 : Int) ≤ -501), this.symm, by rw [show vpr A n 0 = -501 from rfl, this]; exact Int.le_refl 0⟩
  | succ u ih =>
    intro hu
    obtain ⟨⟨i1, i0⟩, i2, i3⟩ := ih (by omega)
    obtain ⟨h1, h2⟩ := h u (by omega)
    obtain ⟨s1, s2, s3⟩ := vsq_step hA i1 h1
    show (vsq A n u < 501 ∧ -501 ≤ vsq A n u) ∧ sm G u + G u = cle A (vsq A n u) n ∧ ((u + 1 : Nat) : Int) ≤ cle A (vsq A n u) n
    rw [s1, i2, h2]
    exact ⟨⟨h1, by omega⟩, rfl, by omega⟩
def T_X11_group : Ct := fun as M P => match as with
  | [.inr (some (g, s))] => g = 11 ∧ s = 0 ∧ (0 ≤ M 11 0 15 ∧ M 11 0 15 ≤ 40) ∧ (∀ j : Nat, j < (M 11 0 15).toNat → -500 ≤ M 38 0 j ∧ M 38 0 j ≤ 500) ∧ ∀ (G : Nat → Int) (gm : Int), grp (M 38 0) (M 11 0 15).toNat G gm → P none (stm (stc M 41 0 G) 11 0 20 gm)
  | _ => False
def gts (M : Mm) (G : Nat → Int) (gm : Int) : Mm := stm (stc M 41 0 G) 11 0 20 gm
theorem gts_41 (M : Mm) (G : Nat → Int) (gm : Int) (k : Nat) (v : Int) : stm (gts M G gm) 41 0 k v = gts M (fun j => if j = k then v else G j) gm := by
  unfold gts
  rw [stm_cm _ 11 0 20 41 0 k gm v (by decide), stm_on]
theorem gts_20 (M : Mm) (G : Nat → Int) (gm v : Int) : stm (gts M G gm) 11 0 20 v = gts M G v := by
  unfold gts
  rw [stm_sm]
theorem gts_r41 (M : Mm) (G : Nat → Int) (gm : Int) : gts M G gm 41 0 = G := by
  funext k; simp [gts, stm_ap, stc_ap]
theorem gts_r20 (M : Mm) (G : Nat → Int) (gm : Int) : gts M G gm 11 0 20 = gm := rfl
theorem gts_r15 (M : Mm) (G : Nat → Int) (gm : Int) : gts M G gm 11 0 15 = M 11 0 15 := by simp [gts, stm_ap, stc_ap]
theorem gts_o (M : Mm) (G : Nat → Int) (gm : Int) {g : Nat} (h1 : ¬ g = 11) (h2 : ¬ g = 41) : gts M G gm g = M g := by
  unfold gts
  rw [stm_ne _ _ _ _ _ h1, stc_ne _ _ _ _ h2]
theorem gts_r38 (M : Mm) (G : Nat → Int) (gm : Int) : gts M G gm 38 = M 38 := gts_o M G gm (by decide) (by decide)
theorem k_X11_group (l : Launch) : MetT l yX11_group cX11_group 5 none 0 T_X11_group := by
  refine MetT.of (by decide +kernel) (fun as M P h => by unfold T_X11_group at h; split at h <;> first | (simp [elo]; done) | exact h.elim) (fun x as M P h C hR => ?_)
  unfold T_X11_group at h
  split at h
  rotate_left
  · exact h.elim
  rename_i g s
  obtain ⟨rfl, rfl, hn, hA, hP⟩ := h
  obtain ⟨A, hAe⟩ : ∃ A : Nat → Int, A = M 38 0 := ⟨_, rfl⟩
  have hAi : ∀ i : Nat, M 38 0 i = A i := fun i => by rw [hAe]
  rw [← hAe] at hA hP
  obtain ⟨n, hnn⟩ : ∃ n : Nat, M 11 0 15 = n := ⟨(M 11 0 15).toNat, by omega⟩
  rw [show (M 11 0 15).toNat = n by omega] at hA hP
  refine B_X11_group_0 C _ _ _ ?_
  simp only [c_iadd, c_isub, c_imul, c_ladd, c_lsub, c_lmul, c_ineg, c_lneg, c_ic, c_lc, c_iload, c_lload, c_aload, c_istore, c_astore, c_lstore, c_iinc, c_dup, c_dup2, c_goto, c_i2l, c_l2i, c_idiv, c_ldiv, c_lrem, c_lshl, c_gi, c_gl, c_gr, c_pi, c_pz, c_pl, c_iald, c_lald, c_bald, c_aald, c_iast, c_last, c_bast, c_callV, c_callS, c_mmax, c_mmin, c_mabs, c_mmaxl, c_mabsl, c_iret, c_zret, c_lret, c_vret, c_tsw, c_lsw, c_icmp_eq, c_icmp_ne, c_icmp_lt, c_icmp_ge, c_icmp_gt, c_icmp_le, c_if_eq, c_if_ne, c_if_lt, c_if_ge, c_if_gt, c_if_le, c_lcmp_eq, c_lcmp_ne, c_lcmp_lt, c_lcmp_ge, c_lcmp_gt, c_lcmp_le, c_lraw_eq, c_lraw_lt, c_lraw_ge, c_lraw_gt, c_lraw_le, acat, scat, tswP, pops, st1, st2, klo, pad, elo, List.getElem?_cons_zero, List.getElem?_cons_succ, List.getElem?_nil, List.set_cons_zero, List.set_cons_succ, List.set_nil, Option.toList_some, Option.toList_none, List.cons_append, List.nil_append, List.length_cons, List.length_nil, stc_ap, stm_ap, false_and, and_false, and_self, true_and, and_true, Nat.reduceEqDiff, reduceIte, al_12, al_13, al_14, al_15, al_16, al_17, al_18, al_19, al_20, al_21, al_22, al_23, al_24, al_25, al_26, al_27, al_28, al_29, al_30, al_31, al_32, al_33, al_34, al_35, al_36, al_37, al_38, al_39, al_40, al_41, al_42, al_43, al_44, al_45, al_46, al_47, al_48, al_49, al_50, al_51, al_52, al_53, al_54, al_55, at_12, at_13, at_14, at_15, at_16, at_17, at_18, at_19, at_20, at_21, at_22, at_23, at_24, at_25, at_26, at_27, at_28, at_29, at_30, at_31, at_32, at_33, at_34, at_35, at_36, at_37, at_38, at_39, at_40, at_41, at_42, at_43, at_44, at_45, at_46, at_47, at_48, at_49, at_50, at_51, at_52, at_53, at_54, at_55, cn_0, cn_1, cn_2, cn_3, cn_4, cn_5, cn_6, cn_7, cn_8, cn_9, cn_10, cn_11, cn_12, cn_13, cn_14, cn_15, cn_16, cn_17, cn_18, cn_19, cn_20, cn_21, cn_22, cn_23, cn_24, cn_25, cn_26, cn_27, cn_28, cn_29, cn_30, cn_31, cn_32, cn_33, cn_34, cn_35, cn_36, cn_37, cn_38, cn_39, cn_40, cn_41, cn_42, cn_43, cn_44, cn_45, cn_46, cn_47, cn_48, cn_49, cn_50, cn_51, cn_52, cn_53, cn_54, cn_55, Nat.reduceAdd, Nat.reduceLT, Nat.reduceLeDiff, Nat.lt_add_one, Nat.zero_lt_succ, Nat.reduceSub, ite_true, ite_false, reduceCtorEq, forall_const, Nat.reduceSucc, Nat.zero_add, Nat.add_zero, Nat.le_refl, Nat.zero_le, Nat.reducePow, Int.reduceNeg, Nat.reduceMul, eq_self, Int.cast_ofNat_Int, Int.toNat_natCast, iR, lR, Int.reduceEq, Int.reduceLT, Int.reduceLE, Int.reduceNe, not_false_eq_true, not_true_eq_false, false_implies, true_implies, Int.reduceAdd, Int.reduceSub, Int.reduceMul, Int.reduceToNat, implies_true, or_true, true_or, or_false, false_or]
  suffices hh : ∀ u : Nat, ∀ G : Nat → Int, (u ≤ n ∧ ∀ w : Nat, w < u → vsq A n w < 501 ∧ G w = eqc A (vsq A n w) n) → J x 11 [some (zr 11 0), some (zi 1), some (zi (vpr A n u)), none, none] [] (gts M G u) by
    have := hh 0 (M 41 0) ⟨Nat.zero_le n, fun w hw => by omega⟩
    unfold gts at this
    rw [stc_id] at this
    exact this
  intro u
  refine loopM (fun v => n + 1 - v) (fun _ => True) (fun v => ∀ G : Nat → Int, (v ≤ n ∧ ∀ w : Nat, w < v → vsq A n w < 501 ∧ G w = eqc A (vsq A n w) n) → J x 11 [some (zr 11 0), some (zi 1), some (zi (vpr A n v)), none, none] [] (gts M G v)) ?_ u trivial
  clear u
  rintro u - ih G ⟨hu, hG⟩
  have hgs := grp_sum hA (G := G) (gm := u) (fun w hw => hG w (by omega)) u (Int.le_refl _)
  have hcl := cle_in A (vpr A n u) n
  obtain ⟨⟨hp1, hp2⟩, hsm, hle⟩ := hgs
  have hG0 : ∀ nx : Int, nx = vsq A n u → J x 83 [some (zr 11 0), some (zi 1), some (zi (vpr A n u)), some (zi nx), none] [zi (if nx < 501 then 1 else 0)] (gts M G u) := by
    intro nx hnx
    refine B_X11_group_83 C _ _ _ ?_
    simp only [c_iadd, c_isub, c_imul, c_ladd, c_lsub, c_lmul, c_ineg, c_lneg, c_ic, c_lc, c_iload, c_lload, c_aload, c_istore, c_astore, c_lstore, c_iinc, c_dup, c_dup2, c_goto, c_i2l, c_l2i, c_idiv, c_ldiv, c_lrem, c_lshl, c_gi, c_gl, c_gr, c_pi, c_pz, c_pl, c_iald, c_lald, c_bald, c_aald, c_iast, c_last, c_bast, c_callV, c_callS, c_mmax, c_mmin, c_mabs, c_mmaxl, c_mabsl, c_iret, c_zret, c_lret, c_vret, c_tsw, c_lsw, c_icmp_eq, c_icmp_ne, c_icmp_lt, c_icmp_ge, c_icmp_gt, c_icmp_le, c_if_eq, c_if_ne, c_if_lt, c_if_ge, c_if_gt, c_if_le, c_lcmp_eq, c_lcmp_ne, c_lcmp_lt, c_lcmp_ge, c_lcmp_gt, c_lcmp_le, c_lraw_eq, c_lraw_lt, c_lraw_ge, c_lraw_gt, c_lraw_le, acat, scat, tswP, pops, st1, st2, klo, pad, elo, List.getElem?_cons_zero, List.getElem?_cons_succ, List.getElem?_nil, List.set_cons_zero, List.set_cons_succ, List.set_nil, Option.toList_some, Option.toList_none, List.cons_append, List.nil_append, List.length_cons, List.length_nil, stc_ap, stm_ap, false_and, and_false, and_self, true_and, and_true, Nat.reduceEqDiff, reduceIte, al_12, al_13, al_14, al_15, al_16, al_17, al_18, al_19, al_20, al_21, al_22, al_23, al_24, al_25, al_26, al_27, al_28, al_29, al_30, al_31, al_32, al_33, al_34, al_35, al_36, al_37, al_38, al_39, al_40, al_41, al_42, al_43, al_44, al_45, al_46, al_47, al_48, al_49, al_50, al_51, al_52, al_53, al_54, al_55, at_12, at_13, at_14, at_15, at_16, at_17, at_18, at_19, at_20, at_21, at_22, at_23, at_24, at_25, at_26, at_27, at_28, at_29, at_30, at_31, at_32, at_33, at_34, at_35, at_36, at_37, at_38, at_39, at_40, at_41, at_42, at_43, at_44, at_45, at_46, at_47, at_48, at_49, at_50, at_51, at_52, at_53, at_54, at_55, cn_0, cn_1, cn_2, cn_3, cn_4, cn_5, cn_6, cn_7, cn_8, cn_9, cn_10, cn_11, cn_12, cn_13, cn_14, cn_15, cn_16, cn_17, cn_18, cn_19, cn_20, cn_21, cn_22, cn_23, cn_24, cn_25, cn_26, cn_27, cn_28, cn_29, cn_30, cn_31, cn_32, cn_33, cn_34, cn_35, cn_36, cn_37, cn_38, cn_39, cn_40, cn_41, cn_42, cn_43, cn_44, cn_45, cn_46, cn_47, cn_48, cn_49, cn_50, cn_51, cn_52, cn_53, cn_54, cn_55, Nat.reduceAdd, Nat.reduceLT, Nat.reduceLeDiff, Nat.lt_add_one, Nat.zero_lt_succ, Nat.reduceSub, ite_true, ite_false, reduceCtorEq, forall_const, Nat.reduceSucc, Nat.zero_add, Nat.add_zero, Nat.le_refl, Nat.zero_le, Nat.reducePow, Int.reduceNeg, Nat.reduceMul, eq_self, Int.cast_ofNat_Int, Int.toNat_natCast, iR, lR, Int.reduceEq, Int.reduceLT, Int.reduceLE, Int.reduceNe, not_false_eq_true, not_true_eq_false, false_implies, true_implies, Int.reduceAdd, Int.reduceSub, Int.reduceMul, Int.reduceToNat, implies_true, or_true, true_or, or_false, false_or, gts_r20, gts_41]
    by_cases hlt : nx < 501
    · rw [if_pos hlt]
      obtain ⟨s1, s2, s3⟩ := vsq_step hA hp1 (by omega)
      have hcl2 := cle_in A (vsq A n u) n
      refine ⟨by omega, fun z => by omega, fun _ => ⟨by omega, ?_⟩⟩
      suffices hh : ∀ (k : Int) (M' : Mm), ((0 ≤ k ∧ k ≤ n) ∧ ∃ G2 : Nat → Int, M' = gts M G2 u ∧ G2 u = eqc A nx k.toNat ∧ ∀ w : Nat, w < u → G2 w = G w) → J x 101 [some (zr 11 0), some (zi 1), some (zi (vpr A n u)), some (zi nx), some (zi k)] [] M' by
        refine hh 0 _ ⟨by omega, _, rfl, ?_, fun w hw => ?_⟩
        · show (if u = u then 0 else G u) = _
          rw [if_pos rfl]; rfl
        · show (if w = u then 0 else G w) = _
          rw [if_neg (by omega)]
      refine loopU n _ _ ?_
      rintro k M' ⟨hk, G2, rfl, hG2, hG3⟩ ih2
      have h136 : ∀ v : Int, k < n → v = (if A k.toNat = nx then 1 else 0) → J x 136 [some (zr 11 0), some (zi 1), some (zi (vpr A n u)), some (zi nx), some (zi k)] [zi v, zi (G2 u), zi u, zr 41 0] (gts M G2 u) := by
        intro v hlt2 hv
        refine B_X11_group_136 C _ _ _ ?_
        simp only [c_iadd, c_isub, c_imul, c_ladd, c_lsub, c_lmul, c_ineg, c_lneg, c_ic, c_lc, c_iload, c_lload, c_aload, c_istore, c_astore, c_lstore, c_iinc, c_dup, c_dup2, c_goto, c_i2l, c_l2i, c_idiv, c_ldiv, c_lrem, c_lshl, c_gi, c_gl, c_gr, c_pi, c_pz, c_pl, c_iald, c_lald, c_bald, c_aald, c_iast, c_last, c_bast, c_callV, c_callS, c_mmax, c_mmin, c_mabs, c_mmaxl, c_mabsl, c_iret, c_zret, c_lret, c_vret, c_tsw, c_lsw, c_icmp_eq, c_icmp_ne, c_icmp_lt, c_icmp_ge, c_icmp_gt, c_icmp_le, c_if_eq, c_if_ne, c_if_lt, c_if_ge, c_if_gt, c_if_le, c_lcmp_eq, c_lcmp_ne, c_lcmp_lt, c_lcmp_ge, c_lcmp_gt, c_lcmp_le, c_lraw_eq, c_lraw_lt, c_lraw_ge, c_lraw_gt, c_lraw_le, acat, scat, tswP, pops, st1, st2, klo, pad, elo, List.getElem?_cons_zero, List.getElem?_cons_succ, List.getElem?_nil, List.set_cons_zero, List.set_cons_succ, List.set_nil, Option.toList_some, Option.toList_none, List.cons_append, List.nil_append, List.length_cons, List.length_nil, stc_ap, stm_ap, false_and, and_false, and_self, true_and, and_true, Nat.reduceEqDiff, reduceIte, al_12, al_13, al_14, al_15, al_16, al_17, al_18, al_19, al_20, al_21, al_22, al_23, al_24, al_25, al_26, al_27, al_28, al_29, al_30, al_31, al_32, al_33, al_34, al_35, al_36, al_37, al_38, al_39, al_40, al_41, al_42, al_43, al_44, al_45, al_46, al_47, al_48, al_49, al_50, al_51, al_52, al_53, al_54, al_55, at_12, at_13, at_14, at_15, at_16, at_17, at_18, at_19, at_20, at_21, at_22, at_23, at_24, at_25, at_26, at_27, at_28, at_29, at_30, at_31, at_32, at_33, at_34, at_35, at_36, at_37, at_38, at_39, at_40, at_41, at_42, at_43, at_44, at_45, at_46, at_47, at_48, at_49, at_50, at_51, at_52, at_53, at_54, at_55, cn_0, cn_1, cn_2, cn_3, cn_4, cn_5, cn_6, cn_7, cn_8, cn_9, cn_10, cn_11, cn_12, cn_13, cn_14, cn_15, cn_16, cn_17, cn_18, cn_19, cn_20, cn_21, cn_22, cn_23, cn_24, cn_25, cn_26, cn_27, cn_28, cn_29, cn_30, cn_31, cn_32, cn_33, cn_34, cn_35, cn_36, cn_37, cn_38, cn_39, cn_40, cn_41, cn_42, cn_43, cn_44, cn_45, cn_46, cn_47, cn_48, cn_49, cn_50, cn_51, cn_52, cn_53, cn_54, cn_55, Nat.reduceAdd, Nat.reduceLT, Nat.reduceLeDiff, Nat.lt_add_one, Nat.zero_lt_succ, Nat.reduceSub, ite_true, ite_false, reduceCtorEq, forall_const, Nat.reduceSucc, Nat.zero_add, Nat.add_zero, Nat.le_refl, Nat.zero_le, Nat.reducePow, Int.reduceNeg, Nat.reduceMul, eq_self, Int.cast_ofNat_Int, Int.toNat_natCast, iR, lR, Int.reduceEq, Int.reduceLT, Int.reduceLE, Int.reduceNe, not_false_eq_true, not_true_eq_false, false_implies, true_implies, Int.reduceAdd, Int.reduceSub, Int.reduceMul, Int.reduceToNat, implies_true, or_true, true_or, or_false, false_or, gts_41]
        refine ⟨by omega, ih2 hlt2 _ ⟨by omega, _, rfl, ?_, fun w hw => ?_⟩⟩
        · show (if u = u then G2 u + v else _) = _
          rw [if_pos rfl, hG2, hv, show (k + 1).toNat = k.toNat + 1 by omega]
          rfl
        · show (if w = u then _ else G2 w) = _
          rw [if_neg (by omega)]
          exact hG3 w hw
      refine B_X11_group_101 C _ _ _ ?_
      simp only [c_iadd, c_isub, c_imul, c_ladd, c_lsub, c_lmul, c_ineg, c_lneg, c_ic, c_lc, c_iload, c_lload, c_aload, c_istore, c_astore, c_lstore, c_iinc, c_dup, c_dup2, c_goto, c_i2l, c_l2i, c_idiv, c_ldiv, c_lrem, c_lshl, c_gi, c_gl, c_gr, c_pi, c_pz, c_pl, c_iald, c_lald, c_bald, c_aald, c_iast, c_last, c_bast, c_callV, c_callS, c_mmax, c_mmin, c_mabs, c_mmaxl, c_mabsl, c_iret, c_zret, c_lret, c_vret, c_tsw, c_lsw, c_icmp_eq, c_icmp_ne, c_icmp_lt, c_icmp_ge, c_icmp_gt, c_icmp_le, c_if_eq, c_if_ne, c_if_lt, c_if_ge, c_if_gt, c_if_le, c_lcmp_eq, c_lcmp_ne, c_lcmp_lt, c_lcmp_ge, c_lcmp_gt, c_lcmp_le, c_lraw_eq, c_lraw_lt, c_lraw_ge, c_lraw_gt, c_lraw_le, acat, scat, tswP, pops, st1, st2, klo, pad, elo, List.getElem?_cons_zero, List.getElem?_cons_succ, List.getElem?_nil, List.set_cons_zero, List.set_cons_succ, List.set_nil, Option.toList_some, Option.toList_none, List.cons_append, List.nil_append, List.length_cons, List.length_nil, stc_ap, stm_ap, false_and, and_false, and_self, true_and, and_true, Nat.reduceEqDiff, reduceIte, al_12, al_13, al_14, al_15, al_16, al_17, al_18, al_19, al_20, al_21, al_22, al_23, al_24, al_25, al_26, al_27, al_28, al_29, al_30, al_31, al_32, al_33, al_34, al_35, al_36, al_37, al_38, al_39, al_40, al_41, al_42, al_43, al_44, al_45, al_46, al_47, al_48, al_49, al_50, al_51, al_52, al_53, al_54, al_55, at_12, at_13, at_14, at_15, at_16, at_17, at_18, at_19, at_20, at_21, at_22, at_23, at_24, at_25, at_26, at_27, at_28, at_29, at_30, at_31, at_32, at_33, at_34, at_35, at_36, at_37, at_38, at_39, at_40, at_41, at_42, at_43, at_44, at_45, at_46, at_47, at_48, at_49, at_50, at_51, at_52, at_53, at_54, at_55, cn_0, cn_1, cn_2, cn_3, cn_4, cn_5, cn_6, cn_7, cn_8, cn_9, cn_10, cn_11, cn_12, cn_13, cn_14, cn_15, cn_16, cn_17, cn_18, cn_19, cn_20, cn_21, cn_22, cn_23, cn_24, cn_25, cn_26, cn_27, cn_28, cn_29, cn_30, cn_31, cn_32, cn_33, cn_34, cn_35, cn_36, cn_37, cn_38, cn_39, cn_40, cn_41, cn_42, cn_43, cn_44, cn_45, cn_46, cn_47, cn_48, cn_49, cn_50, cn_51, cn_52, cn_53, cn_54, cn_55, Nat.reduceAdd, Nat.reduceLT, Nat.reduceLeDiff, Nat.lt_add_one, Nat.zero_lt_succ, Nat.reduceSub, ite_true, ite_false, reduceCtorEq, forall_const, Nat.reduceSucc, Nat.zero_add, Nat.add_zero, Nat.le_refl, Nat.zero_le, Nat.reducePow, Int.reduceNeg, Nat.reduceMul, eq_self, Int.cast_ofNat_Int, Int.toNat_natCast, iR, lR, Int.reduceEq, Int.reduceLT, Int.reduceLE, Int.reduceNe, not_false_eq_true, not_true_eq_false, false_implies, true_implies, Int.reduceAdd, Int.reduceSub, Int.reduceMul, Int.reduceToNat, implies_true, or_true, true_or, or_false, false_or, gts_r15, gts_r20, gts_20, gts_r41, gts_r38, hAi, hnn]
      refine ⟨by omega, by omega, fun z => ?_, fun z => ?_⟩
      · refine B_X11_group_156 C _ _ _ ?_
        simp only [c_iadd, c_isub, c_imul, c_ladd, c_lsub, c_lmul, c_ineg, c_lneg, c_ic, c_lc, c_iload, c_lload, c_aload, c_istore, c_astore, c_lstore, c_iinc, c_dup, c_dup2, c_goto, c_i2l, c_l2i, c_idiv, c_ldiv, c_lrem, c_lshl, c_gi, c_gl, c_gr, c_pi, c_pz, c_pl, c_iald, c_lald, c_bald, c_aald, c_iast, c_last, c_bast, c_callV, c_callS, c_mmax, c_mmin, c_mabs, c_mmaxl, c_mabsl, c_iret, c_zret, c_lret, c_vret, c_tsw, c_lsw, c_icmp_eq, c_icmp_ne, c_icmp_lt, c_icmp_ge, c_icmp_gt, c_icmp_le, c_if_eq, c_if_ne, c_if_lt, c_if_ge, c_if_gt, c_if_le, c_lcmp_eq, c_lcmp_ne, c_lcmp_lt, c_lcmp_ge, c_lcmp_gt, c_lcmp_le, c_lraw_eq, c_lraw_lt, c_lraw_ge, c_lraw_gt, c_lraw_le, acat, scat, tswP, pops, st1, st2, klo, pad, elo, List.getElem?_cons_zero, List.getElem?_cons_succ, List.getElem?_nil, List.set_cons_zero, List.set_cons_succ, List.set_nil, Option.toList_some, Option.toList_none, List.cons_append, List.nil_append, List.length_cons, List.length_nil, stc_ap, stm_ap, false_and, and_false, and_self, true_and, and_true, Nat.reduceEqDiff, reduceIte, al_12, al_13, al_14, al_15, al_16, al_17, al_18, al_19, al_20, al_21, al_22, al_23, al_24, al_25, al_26, al_27, al_28, al_29, al_30, al_31, al_32, al_33, al_34, al_35, al_36, al_37, al_38, al_39, al_40, al_41, al_42, al_43, al_44, al_45, al_46, al_47, al_48, al_49, al_50, al_51, al_52, al_53, al_54, al_55, at_12, at_13, at_14, at_15, at_16, at_17, at_18, at_19, at_20, at_21, at_22, at_23, at_24, at_25, at_26, at_27, at_28, at_29, at_30, at_31, at_32, at_33, at_34, at_35, at_36, at_37, at_38, at_39, at_40, at_41, at_42, at_43, at_44, at_45, at_46, at_47, at_48, at_49, at_50, at_51, at_52, at_53, at_54, at_55, cn_0, cn_1, cn_2, cn_3, cn_4, cn_5, cn_6, cn_7, cn_8, cn_9, cn_10, cn_11, cn_12, cn_13, cn_14, cn_15, cn_16, cn_17, cn_18, cn_19, cn_20, cn_21, cn_22, cn_23, cn_24, cn_25, cn_26, cn_27, cn_28, cn_29, cn_30, cn_31, cn_32, cn_33, cn_34, cn_35, cn_36, cn_37, cn_38, cn_39, cn_40, cn_41, cn_42, cn_43, cn_44, cn_45, cn_46, cn_47, cn_48, cn_49, cn_50, cn_51, cn_52, cn_53, cn_54, cn_55, Nat.reduceAdd, Nat.reduceLT, Nat.reduceLeDiff, Nat.lt_add_one, Nat.zero_lt_succ, Nat.reduceSub, ite_true, ite_false, reduceCtorEq, forall_const, Nat.reduceSucc, Nat.zero_add, Nat.add_zero, Nat.le_refl, Nat.zero_le, Nat.reducePow, Int.reduceNeg, Nat.reduceMul, eq_self, Int.cast_ofNat_Int, Int.toNat_natCast, iR, lR, Int.reduceEq, Int.reduceLT, Int.reduceLE, Int.reduceNe, not_false_eq_true, not_true_eq_false, false_implies, true_implies, Int.reduceAdd, Int.reduceSub, Int.reduceMul, Int.reduceToNat, implies_true, or_true, true_or, or_false, false_or]
        have := ih (u + 1) (by omega) trivial G2 ⟨by omega, fun w hw => ?_⟩
        · rw [show vpr A n (u + 1) = nx from hnx.symm, show ((u + 1 : Nat) : Int) = (u : Int) + 1 by omega] at this
          exact J_fgt [true, true, true, false, false] this
        · by_cases e : w = u
          · rw [e, hG2, show k.toNat = n by omega, ← hnx]
            exact ⟨hlt, rfl⟩
          · rw [hG3 w (by omega)]
            exact hG w (by omega)
      · have hAk := hA k.toNat (by omega)
        exact ⟨by omega, by omega, by omega, by omega, fun z2 => h136 0 (by omega) (by rw [if_neg z2]), fun z2 => h136 1 (by omega) (by rw [if_pos z2])⟩
    · rw [if_neg hlt]
      refine ⟨by omega, fun _ => ?_, fun z => by omega⟩
      refine B_X11_group_156 C _ _ _ ?_
      simp only [c_iadd, c_isub, c_imul, c_ladd, c_lsub, c_lmul, c_ineg, c_lneg, c_ic, c_lc, c_iload, c_lload, c_aload, c_istore, c_astore, c_lstore, c_iinc, c_dup, c_dup2, c_goto, c_i2l, c_l2i, c_idiv, c_ldiv, c_lrem, c_lshl, c_gi, c_gl, c_gr, c_pi, c_pz, c_pl, c_iald, c_lald, c_bald, c_aald, c_iast, c_last, c_bast, c_callV, c_callS, c_mmax, c_mmin, c_mabs, c_mmaxl, c_mabsl, c_iret, c_zret, c_lret, c_vret, c_tsw, c_lsw, c_icmp_eq, c_icmp_ne, c_icmp_lt, c_icmp_ge, c_icmp_gt, c_icmp_le, c_if_eq, c_if_ne, c_if_lt, c_if_ge, c_if_gt, c_if_le, c_lcmp_eq, c_lcmp_ne, c_lcmp_lt, c_lcmp_ge, c_lcmp_gt, c_lcmp_le, c_lraw_eq, c_lraw_lt, c_lraw_ge, c_lraw_gt, c_lraw_le, acat, scat, tswP, pops, st1, st2, klo, pad, elo, List.getElem?_cons_zero, List.getElem?_cons_succ, List.getElem?_nil, List.set_cons_zero, List.set_cons_succ, List.set_nil, Option.toList_some, Option.toList_none, List.cons_append, List.nil_append, List.length_cons, List.length_nil, stc_ap, stm_ap, false_and, and_false, and_self, true_and, and_true, Nat.reduceEqDiff, reduceIte, al_12, al_13, al_14, al_15, al_16, al_17, al_18, al_19, al_20, al_21, al_22, al_23, al_24, al_25, al_26, al_27, al_28, al_29, al_30, al_31, al_32, al_33, al_34, al_35, al_36, al_37, al_38, al_39, al_40, al_41, al_42, al_43, al_44, al_45, al_46, al_47, al_48, al_49, al_50, al_51, al_52, al_53, al_54, al_55, at_12, at_13, at_14, at_15, at_16, at_17, at_18, at_19, at_20, at_21, at_22, at_23, at_24, at_25, at_26, at_27, at_28, at_29, at_30, at_31, at_32, at_33, at_34, at_35, at_36, at_37, at_38, at_39, at_40, at_41, at_42, at_43, at_44, at_45, at_46, at_47, at_48, at_49, at_50, at_51, at_52, at_53, at_54, at_55, cn_0, cn_1, cn_2, cn_3, cn_4, cn_5, cn_6, cn_7, cn_8, cn_9, cn_10, cn_11, cn_12, cn_13, cn_14, cn_15, cn_16, cn_17, cn_18, cn_19, cn_20, cn_21, cn_22, cn_23, cn_24, cn_25, cn_26, cn_27, cn_28, cn_29, cn_30, cn_31, cn_32, cn_33, cn_34, cn_35, cn_36, cn_37, cn_38, cn_39, cn_40, cn_41, cn_42, cn_43, cn_44, cn_45, cn_46, cn_47, cn_48, cn_49, cn_50, cn_51, cn_52, cn_53, cn_54, cn_55, Nat.reduceAdd, Nat.reduceLT, Nat.reduceLeDiff, Nat.lt_add_one, Nat.zero_lt_succ, Nat.reduceSub, ite_true, ite_false, reduceCtorEq, forall_const, Nat.reduceSucc, Nat.zero_add, Nat.add_zero, Nat.le_refl, Nat.zero_le, Nat.reducePow, Int.reduceNeg, Nat.reduceMul, eq_self, Int.cast_ofNat_Int, Int.toNat_natCast, iR, lR, Int.reduceEq, Int.reduceLT, Int.reduceLE, Int.reduceNe, not_false_eq_true, not_true_eq_false, false_implies, true_implies, Int.reduceAdd, Int.reduceSub, Int.reduceMul, Int.reduceToNat, implies_true, or_true, true_or, or_false, false_or]
      refine B_X11_group_11 C hR _ _ _ ?_
      simp only [c_iadd, c_isub, c_imul, c_ladd, c_lsub, c_lmul, c_ineg, c_lneg, c_ic, c_lc, c_iload, c_lload, c_aload, c_istore, c_astore, c_lstore, c_iinc, c_dup, c_dup2, c_goto, c_i2l, c_l2i, c_idiv, c_ldiv, c_lrem, c_lshl, c_gi, c_gl, c_gr, c_pi, c_pz, c_pl, c_iald, c_lald, c_bald, c_aald, c_iast, c_last, c_bast, c_callV, c_callS, c_mmax, c_mmin, c_mabs, c_mmaxl, c_mabsl, c_iret, c_zret, c_lret, c_vret, c_tsw, c_lsw, c_icmp_eq, c_icmp_ne, c_icmp_lt, c_icmp_ge, c_icmp_gt, c_icmp_le, c_if_eq, c_if_ne, c_if_lt, c_if_ge, c_if_gt, c_if_le, c_lcmp_eq, c_lcmp_ne, c_lcmp_lt, c_lcmp_ge, c_lcmp_gt, c_lcmp_le, c_lraw_eq, c_lraw_lt, c_lraw_ge, c_lraw_gt, c_lraw_le, acat, scat, tswP, pops, st1, st2, klo, pad, elo, List.getElem?_cons_zero, List.getElem?_cons_succ, List.getElem?_nil, List.set_cons_zero, List.set_cons_succ, List.set_nil, Option.toList_some, Option.toList_none, List.cons_append, List.nil_append, List.length_cons, List.length_nil, stc_ap, stm_ap, false_and, and_false, and_self, true_and, and_true, Nat.reduceEqDiff, reduceIte, al_12, al_13, al_14, al_15, al_16, al_17, al_18, al_19, al_20, al_21, al_22, al_23, al_24, al_25, al_26, al_27, al_28, al_29, al_30, al_31, al_32, al_33, al_34, al_35, al_36, al_37, al_38, al_39, al_40, al_41, al_42, al_43, al_44, al_45, al_46, al_47, al_48, al_49, al_50, al_51, al_52, al_53, al_54, al_55, at_12, at_13, at_14, at_15, at_16, at_17, at_18, at_19, at_20, at_21, at_22, at_23, at_24, at_25, at_26, at_27, at_28, at_29, at_30, at_31, at_32, at_33, at_34, at_35, at_36, at_37, at_38, at_39, at_40, at_41, at_42, at_43, at_44, at_45, at_46, at_47, at_48, at_49, at_50, at_51, at_52, at_53, at_54, at_55, cn_0, cn_1, cn_2, cn_3, cn_4, cn_5, cn_6, cn_7, cn_8, cn_9, cn_10, cn_11, cn_12, cn_13, cn_14, cn_15, cn_16, cn_17, cn_18, cn_19, cn_20, cn_21, cn_22, cn_23, cn_24, cn_25, cn_26, cn_27, cn_28, cn_29, cn_30, cn_31, cn_32, cn_33, cn_34, cn_35, cn_36, cn_37, cn_38, cn_39, cn_40, cn_41, cn_42, cn_43, cn_44, cn_45, cn_46, cn_47, cn_48, cn_49, cn_50, cn_51, cn_52, cn_53, cn_54, cn_55, Nat.reduceAdd, Nat.reduceLT, Nat.reduceLeDiff, Nat.lt_add_one, Nat.zero_lt_succ, Nat.reduceSub, ite_true, ite_false, reduceCtorEq, forall_const, Nat.reduceSucc, Nat.zero_add, Nat.add_zero, Nat.le_refl, Nat.zero_le, Nat.reducePow, Int.reduceNeg, Nat.reduceMul, eq_self, Int.cast_ofNat_Int, Int.toNat_natCast, iR, lR, Int.reduceEq, Int.reduceLT, Int.reduceLE, Int.reduceNe, not_false_eq_true, not_true_eq_false, false_implies, true_implies, Int.reduceAdd, Int.reduceSub, Int.reduceMul, Int.reduceToNat, implies_true, or_true, true_or, or_false, false_or]
      obtain ⟨i1, i2, i3, i4⟩ := nxv_in hA hp1
      rw [← vsq_n, ← hnx] at i2
      exact hP G u ⟨by omega, fun w hw => hG w (by omega), by rw [show ((u : Int)).toNat = u by omega, ← hnx]; omega⟩
  refine B_X11_group_11 C hR _ _ _ ?_
  simp only [c_iadd, c_isub, c_imul, c_ladd, c_lsub, c_lmul, c_ineg, c_lneg, c_ic, c_lc, c_iload, c_lload, c_aload, c_istore, c_astore, c_lstore, c_iinc, c_dup, c_dup2, c_goto, c_i2l, c_l2i, c_idiv, c_ldiv, c_lrem, c_lshl, c_gi, c_gl, c_gr, c_pi, c_pz, c_pl, c_iald, c_lald, c_bald, c_aald, c_iast, c_last, c_bast, c_callV, c_callS, c_mmax, c_mmin, c_mabs, c_mmaxl, c_mabsl, c_iret, c_zret, c_lret, c_vret, c_tsw, c_lsw, c_icmp_eq, c_icmp_ne, c_icmp_lt, c_icmp_ge, c_icmp_gt, c_icmp_le, c_if_eq, c_if_ne, c_if_lt, c_if_ge, c_if_gt, c_if_le, c_lcmp_eq, c_lcmp_ne, c_lcmp_lt, c_lcmp_ge, c_lcmp_gt, c_lcmp_le, c_lraw_eq, c_lraw_lt, c_lraw_ge, c_lraw_gt, c_lraw_le, acat, scat, tswP, pops, st1, st2, klo, pad, elo, List.getElem?_cons_zero, List.getElem?_cons_succ, List.getElem?_nil, List.set_cons_zero, List.set_cons_succ, List.set_nil, Option.toList_some, Option.toList_none, List.cons_append, List.nil_append, List.length_cons, List.length_nil, stc_ap, stm_ap, false_and, and_false, and_self, true_and, and_true, Nat.reduceEqDiff, reduceIte, al_12, al_13, al_14, al_15, al_16, al_17, al_18, al_19, al_20, al_21, al_22, al_23, al_24, al_25, al_26, al_27, al_28, al_29, al_30, al_31, al_32, al_33, al_34, al_35, al_36, al_37, al_38, al_39, al_40, al_41, al_42, al_43, al_44, al_45, al_46, al_47, al_48, al_49, al_50, al_51, al_52, al_53, al_54, al_55, at_12, at_13, at_14, at_15, at_16, at_17, at_18, at_19, at_20, at_21, at_22, at_23, at_24, at_25, at_26, at_27, at_28, at_29, at_30, at_31, at_32, at_33, at_34, at_35, at_36, at_37, at_38, at_39, at_40, at_41, at_42, at_43, at_44, at_45, at_46, at_47, at_48, at_49, at_50, at_51, at_52, at_53, at_54, at_55, cn_0, cn_1, cn_2, cn_3, cn_4, cn_5, cn_6, cn_7, cn_8, cn_9, cn_10, cn_11, cn_12, cn_13, cn_14, cn_15, cn_16, cn_17, cn_18, cn_19, cn_20, cn_21, cn_22, cn_23, cn_24, cn_25, cn_26, cn_27, cn_28, cn_29, cn_30, cn_31, cn_32, cn_33, cn_34, cn_35, cn_36, cn_37, cn_38, cn_39, cn_40, cn_41, cn_42, cn_43, cn_44, cn_45, cn_46, cn_47, cn_48, cn_49, cn_50, cn_51, cn_52, cn_53, cn_54, cn_55, Nat.reduceAdd, Nat.reduceLT, Nat.reduceLeDiff, Nat.lt_add_one, Nat.zero_lt_succ, Nat.reduceSub, ite_true, ite_false, reduceCtorEq, forall_const, Nat.reduceSucc, Nat.zero_add, Nat.add_zero, Nat.le_refl, Nat.zero_le, Nat.reducePow, Int.reduceNeg, Nat.reduceMul, eq_self, Int.cast_ofNat_Int, Int.toNat_natCast, iR, lR, Int.reduceEq, Int.reduceLT, Int.reduceLE, Int.reduceNe, not_false_eq_true, not_true_eq_false, false_implies, true_implies, Int.reduceAdd, Int.reduceSub, Int.reduceMul, Int.reduceToNat, implies_true, or_true, true_or, or_false, false_or]
  suffices hh : ∀ (k : Int) (M' : Mm), ((0 ≤ k ∧ k ≤ n) ∧ M' = gts M G u) → J x 22 [some (zr 11 0), some (zi 1), some (zi (vpr A n u)), some (zi (nxv A (vpr A n u) k.toNat)), some (zi k)] [] M' by
    exact hh 0 _ ⟨by omega, rfl⟩
  refine loopU n _ _ ?_
  rintro k M' ⟨hk, rfl⟩ ih2
  have hnx := nxv_in (A := A) (n := k.toNat) (fun j hj => hA j (by omega)) hp1
  have h64 : ∀ v : Int, k < n → v = nxv A (vpr A n u) (k.toNat + 1) → J x 64 [some (zr 11 0), some (zi 1), some (zi (vpr A n u)), some (zi (nxv A (vpr A n u) k.toNat)), some (zi k)] [zi v] (gts M G u) := by
    intro v hlt hv
    refine B_X11_group_64 C _ _ _ ?_
    simp only [c_iadd, c_isub, c_imul, c_ladd, c_lsub, c_lmul, c_ineg, c_lneg, c_ic, c_lc, c_iload, c_lload, c_aload, c_istore, c_astore, c_lstore, c_iinc, c_dup, c_dup2, c_goto, c_i2l, c_l2i, c_idiv, c_ldiv, c_lrem, c_lshl, c_gi, c_gl, c_gr, c_pi, c_pz, c_pl, c_iald, c_lald, c_bald, c_aald, c_iast, c_last, c_bast, c_callV, c_callS, c_mmax, c_mmin, c_mabs, c_mmaxl, c_mabsl, c_iret, c_zret, c_lret, c_vret, c_tsw, c_lsw, c_icmp_eq, c_icmp_ne, c_icmp_lt, c_icmp_ge, c_icmp_gt, c_icmp_le, c_if_eq, c_if_ne, c_if_lt, c_if_ge, c_if_gt, c_if_le, c_lcmp_eq, c_lcmp_ne, c_lcmp_lt, c_lcmp_ge, c_lcmp_gt, c_lcmp_le, c_lraw_eq, c_lraw_lt, c_lraw_ge, c_lraw_gt, c_lraw_le, acat, scat, tswP, pops, st1, st2, klo, pad, elo, List.getElem?_cons_zero, List.getElem?_cons_succ, List.getElem?_nil, List.set_cons_zero, List.set_cons_succ, List.set_nil, Option.toList_some, Option.toList_none, List.cons_append, List.nil_append, List.length_cons, List.length_nil, stc_ap, stm_ap, false_and, and_false, and_self, true_and, and_true, Nat.reduceEqDiff, reduceIte, al_12, al_13, al_14, al_15, al_16, al_17, al_18, al_19, al_20, al_21, al_22, al_23, al_24, al_25, al_26, al_27, al_28, al_29, al_30, al_31, al_32, al_33, al_34, al_35, al_36, al_37, al_38, al_39, al_40, al_41, al_42, al_43, al_44, al_45, al_46, al_47, al_48, al_49, al_50, al_51, al_52, al_53, al_54, al_55, at_12, at_13, at_14, at_15, at_16, at_17, at_18, at_19, at_20, at_21, at_22, at_23, at_24, at_25, at_26, at_27, at_28, at_29, at_30, at_31, at_32, at_33, at_34, at_35, at_36, at_37, at_38, at_39, at_40, at_41, at_42, at_43, at_44, at_45, at_46, at_47, at_48, at_49, at_50, at_51, at_52, at_53, at_54, at_55, cn_0, cn_1, cn_2, cn_3, cn_4, cn_5, cn_6, cn_7, cn_8, cn_9, cn_10, cn_11, cn_12, cn_13, cn_14, cn_15, cn_16, cn_17, cn_18, cn_19, cn_20, cn_21, cn_22, cn_23, cn_24, cn_25, cn_26, cn_27, cn_28, cn_29, cn_30, cn_31, cn_32, cn_33, cn_34, cn_35, cn_36, cn_37, cn_38, cn_39, cn_40, cn_41, cn_42, cn_43, cn_44, cn_45, cn_46, cn_47, cn_48, cn_49, cn_50, cn_51, cn_52, cn_53, cn_54, cn_55, Nat.reduceAdd, Nat.reduceLT, Nat.reduceLeDiff, Nat.lt_add_one, Nat.zero_lt_succ, Nat.reduceSub, ite_true, ite_false, reduceCtorEq, forall_const, Nat.reduceSucc, Nat.zero_add, Nat.add_zero, Nat.le_refl, Nat.zero_le, Nat.reducePow, Int.reduceNeg, Nat.reduceMul, eq_self, Int.cast_ofNat_Int, Int.toNat_natCast, iR, lR, Int.reduceEq, Int.reduceLT, Int.reduceLE, Int.reduceNe, not_false_eq_true, not_true_eq_false, false_implies, true_implies, Int.reduceAdd, Int.reduceSub, Int.reduceMul, Int.reduceToNat, implies_true, or_true, true_or, or_false, false_or]
    have := ih2 hlt _ ⟨by omega, rfl⟩
    rw [show (k + 1).toNat = k.toNat + 1 by omega, ← hv] at this
    exact this
  have h63 : k < n → nxv A (vpr A n u) (k.toNat + 1) = nxv A (vpr A n u) k.toNat → J x 63 [some (zr 11 0), some (zi 1), some (zi (vpr A n u)), some (zi (nxv A (vpr A n u) k.toNat)), some (zi k)] [] (gts M G u) := by
    intro hlt he
    refine B_X11_group_63 C _ _ _ ?_
    simp only [c_iadd, c_isub, c_imul, c_ladd, c_lsub, c_lmul, c_ineg, c_lneg, c_ic, c_lc, c_iload, c_lload, c_aload, c_istore, c_astore, c_lstore, c_iinc, c_dup, c_dup2, c_goto, c_i2l, c_l2i, c_idiv, c_ldiv, c_lrem, c_lshl, c_gi, c_gl, c_gr, c_pi, c_pz, c_pl, c_iald, c_lald, c_bald, c_aald, c_iast, c_last, c_bast, c_callV, c_callS, c_mmax, c_mmin, c_mabs, c_mmaxl, c_mabsl, c_iret, c_zret, c_lret, c_vret, c_tsw, c_lsw, c_icmp_eq, c_icmp_ne, c_icmp_lt, c_icmp_ge, c_icmp_gt, c_icmp_le, c_if_eq, c_if_ne, c_if_lt, c_if_ge, c_if_gt, c_if_le, c_lcmp_eq, c_lcmp_ne, c_lcmp_lt, c_lcmp_ge, c_lcmp_gt, c_lcmp_le, c_lraw_eq, c_lraw_lt, c_lraw_ge, c_lraw_gt, c_lraw_le, acat, scat, tswP, pops, st1, st2, klo, pad, elo, List.getElem?_cons_zero, List.getElem?_cons_succ, List.getElem?_nil, List.set_cons_zero, List.set_cons_succ, List.set_nil, Option.toList_some, Option.toList_none, List.cons_append, List.nil_append, List.length_cons, List.length_nil, stc_ap, stm_ap, false_and, and_false, and_self, true_and, and_true, Nat.reduceEqDiff, reduceIte, al_12, al_13, al_14, al_15, al_16, al_17, al_18, al_19, al_20, al_21, al_22, al_23, al_24, al_25, al_26, al_27, al_28, al_29, al_30, al_31, al_32, al_33, al_34, al_35, al_36, al_37, al_38, al_39, al_40, al_41, al_42, al_43, al_44, al_45, al_46, al_47, al_48, al_49, al_50, al_51, al_52, al_53, al_54, al_55, at_12, at_13, at_14, at_15, at_16, at_17, at_18, at_19, at_20, at_21, at_22, at_23, at_24, at_25, at_26, at_27, at_28, at_29, at_30, at_31, at_32, at_33, at_34, at_35, at_36, at_37, at_38, at_39, at_40, at_41, at_42, at_43, at_44, at_45, at_46, at_47, at_48, at_49, at_50, at_51, at_52, at_53, at_54, at_55, cn_0, cn_1, cn_2, cn_3, cn_4, cn_5, cn_6, cn_7, cn_8, cn_9, cn_10, cn_11, cn_12, cn_13, cn_14, cn_15, cn_16, cn_17, cn_18, cn_19, cn_20, cn_21, cn_22, cn_23, cn_24, cn_25, cn_26, cn_27, cn_28, cn_29, cn_30, cn_31, cn_32, cn_33, cn_34, cn_35, cn_36, cn_37, cn_38, cn_39, cn_40, cn_41, cn_42, cn_43, cn_44, cn_45, cn_46, cn_47, cn_48, cn_49, cn_50, cn_51, cn_52, cn_53, cn_54, cn_55, Nat.reduceAdd, Nat.reduceLT, Nat.reduceLeDiff, Nat.lt_add_one, Nat.zero_lt_succ, Nat.reduceSub, ite_true, ite_false, reduceCtorEq, forall_const, Nat.reduceSucc, Nat.zero_add, Nat.add_zero, Nat.le_refl, Nat.zero_le, Nat.reducePow, Int.reduceNeg, Nat.reduceMul, eq_self, Int.cast_ofNat_Int, Int.toNat_natCast, iR, lR, Int.reduceEq, Int.reduceLT, Int.reduceLE, Int.reduceNe, not_false_eq_true, not_true_eq_false, false_implies, true_implies, Int.reduceAdd, Int.reduceSub, Int.reduceMul, Int.reduceToNat, implies_true, or_true, true_or, or_false, false_or]
    exact h64 _ hlt he.symm
  refine B_X11_group_22 C _ _ _ ?_
  simp only [c_iadd, c_isub, c_imul, c_ladd, c_lsub, c_lmul, c_ineg, c_lneg, c_ic, c_lc, c_iload, c_lload, c_aload, c_istore, c_astore, c_lstore, c_iinc, c_dup, c_dup2, c_goto, c_i2l, c_l2i, c_idiv, c_ldiv, c_lrem, c_lshl, c_gi, c_gl, c_gr, c_pi, c_pz, c_pl, c_iald, c_lald, c_bald, c_aald, c_iast, c_last, c_bast, c_callV, c_callS, c_mmax, c_mmin, c_mabs, c_mmaxl, c_mabsl, c_iret, c_zret, c_lret, c_vret, c_tsw, c_lsw, c_icmp_eq, c_icmp_ne, c_icmp_lt, c_icmp_ge, c_icmp_gt, c_icmp_le, c_if_eq, c_if_ne, c_if_lt, c_if_ge, c_if_gt, c_if_le, c_lcmp_eq, c_lcmp_ne, c_lcmp_lt, c_lcmp_ge, c_lcmp_gt, c_lcmp_le, c_lraw_eq, c_lraw_lt, c_lraw_ge, c_lraw_gt, c_lraw_le, acat, scat, tswP, pops, st1, st2, klo, pad, elo, List.getElem?_cons_zero, List.getElem?_cons_succ, List.getElem?_nil, List.set_cons_zero, List.set_cons_succ, List.set_nil, Option.toList_some, Option.toList_none, List.cons_append, List.nil_append, List.length_cons, List.length_nil, stc_ap, stm_ap, false_and, and_false, and_self, true_and, and_true, Nat.reduceEqDiff, reduceIte, al_12, al_13, al_14, al_15, al_16, al_17, al_18, al_19, al_20, al_21, al_22, al_23, al_24, al_25, al_26, al_27, al_28, al_29, al_30, al_31, al_32, al_33, al_34, al_35, al_36, al_37, al_38, al_39, al_40, al_41, al_42, al_43, al_44, al_45, al_46, al_47, al_48, al_49, al_50, al_51, al_52, al_53, al_54, al_55, at_12, at_13, at_14, at_15, at_16, at_17, at_18, at_19, at_20, at_21, at_22, at_23, at_24, at_25, at_26, at_27, at_28, at_29, at_30, at_31, at_32, at_33, at_34, at_35, at_36, at_37, at_38, at_39, at_40, at_41, at_42, at_43, at_44, at_45, at_46, at_47, at_48, at_49, at_50, at_51, at_52, at_53, at_54, at_55, cn_0, cn_1, cn_2, cn_3, cn_4, cn_5, cn_6, cn_7, cn_8, cn_9, cn_10, cn_11, cn_12, cn_13, cn_14, cn_15, cn_16, cn_17, cn_18, cn_19, cn_20, cn_21, cn_22, cn_23, cn_24, cn_25, cn_26, cn_27, cn_28, cn_29, cn_30, cn_31, cn_32, cn_33, cn_34, cn_35, cn_36, cn_37, cn_38, cn_39, cn_40, cn_41, cn_42, cn_43, cn_44, cn_45, cn_46, cn_47, cn_48, cn_49, cn_50, cn_51, cn_52, cn_53, cn_54, cn_55, Nat.reduceAdd, Nat.reduceLT, Nat.reduceLeDiff, Nat.lt_add_one, Nat.zero_lt_succ, Nat.reduceSub, ite_true, ite_false, reduceCtorEq, forall_const, Nat.reduceSucc, Nat.zero_add, Nat.add_zero, Nat.le_refl, Nat.zero_le, Nat.reducePow, Int.reduceNeg, Nat.reduceMul, eq_self, Int.cast_ofNat_Int, Int.toNat_natCast, iR, lR, Int.reduceEq, Int.reduceLT, Int.reduceLE, Int.reduceNe, not_false_eq_true, not_true_eq_false, false_implies, true_implies, Int.reduceAdd, Int.reduceSub, Int.reduceMul, Int.reduceToNat, implies_true, or_true, true_or, or_false, false_or, gts_r15, gts_r38, hAi, hnn]
  refine ⟨by omega, by omega, fun z => ?_, fun z => ?_⟩
  · have e1 : nxv A (vpr A n u) k.toNat = vsq A n u := by rw [vsq_n, show k.toNat = n by omega]
    have hg0 := hG0 _ e1
    refine ⟨by omega, fun z2 => ?_, fun z2 => ?_⟩
    · rw [if_neg (by omega)] at hg0
      exact J_fgt [true, true, true, true, false] hg0
    · rw [if_pos (by omega)] at hg0
      exact J_fgt [true, true, true, true, false] hg0
  · have hAk := hA k.toNat (by omega)
    have hst : nxv A (vpr A n u) (k.toNat + 1) = if vpr A n u < A k.toNat ∧ A k.toNat < nxv A (vpr A n u) k.toNat then A k.toNat else nxv A (vpr A n u) k.toNat := rfl
    refine ⟨by omega, by omega, by omega, fun z2 => h63 (by omega) (by rw [hst, if_neg (by omega)]), fun z2 => ⟨by omega, by omega, by omega, fun z3 => h63 (by omega) (by rw [hst, if_neg (by omega)]), fun z3 => ⟨by omega, h64 _ (by omega) (by rw [hst, if_pos (by omega)])⟩⟩⟩
