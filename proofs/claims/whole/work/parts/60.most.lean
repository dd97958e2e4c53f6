/-! CloudBenchModel.most -/
def mxf (h : Nat → Int) : Nat → Int
  | 0 => 0
  | u + 1 => max (mxf h u) (h u)
/-- the gap at x: own ones are the first na, the others behind them -/
def mvA (A : Nat → Int) (na nb x : Int) : Int := zab (nb * cle A x na.toNat - na * (cle A x (na + nb).toNat - cle A x na.toNat))
def keepS (M M' : Mm) : Prop := (∀ g' : Nat, ¬ g' = 11 → ¬ g' = 35 → ¬ g' = 36 → ¬ g' = 41 → ¬ g' = 42 → ¬ g' = 43 → M' g' = M g') ∧ ∀ k : Nat, ¬ k = 7 → ¬ k = 9 → ¬ k = 20 → M' 11 0 k = M 11 0 k
def T_X11_most : Ct := fun as M P => match as with
  | [.inr (some (g, s)), .inl (.inl na), .inl (.inl nb)] => g = 11 ∧ s = 0 ∧ CE M ∧ (1 ≤ na ∧ na ≤ 20) ∧ (1 ≤ nb ∧ nb ≤ 20) ∧ M 11 0 15 = na + nb ∧ M 11 0 7 = 0 ∧ M 11 0 9 = 0 ∧ (∀ j : Nat, j < (na + nb).toNat → -500 ≤ M 38 0 j ∧ M 38 0 j ≤ 500) ∧ ∃ f : Nat → Int, SO f (M 38 0) (na + nb).toNat ∧ ∀ (M' : Mm) (G : Nat → Int) (gm : Int), keepS M M' → grp (M 38 0) (na + nb).toNat G gm → ML M' (tlst (gpd f (na + nb).toNat na.toNat) 1 0 (na * nb + 1).toNat) → M' 11 0 9 = mxf (fun u => mvA (M 38 0) na nb (vsq (M 38 0) (na + nb).toNat u)) gm.toNat → P none M'
  | _ => False
theorem gpd_lR (f : Nat → Int) {n K : Nat} (hn : n ≤ 40) (v : Int) : -1099511627776 ≤ gpd f n K v ∧ gpd f n K v ≤ 1099511627776 ∧ 0 ≤ gpc f n K v n K ∧ gpc f n K v n K ≤ 1099511627776 := by
  have h1 := gpc_in f n K v n K
  have h5 := gpc_in f n K (v - 1) n K
  have h3 := chs_2 n K
  have h4 := pow_le (a := n) (b := 40) hn
  have p40 : (2 : Int) ^ 40 = 1099511627776 := by decide
  unfold gpd
  split <;> omega
theorem k_X11_most (l : Launch) : MetT l yX11_most cX11_most 9 none 2 T_X11_most := by
  refine MetT.of (by decide +kernel) (fun as M P h => by unfold T_X11_most at h; split at h <;> first | (simp [elo]; done) | exact h.elim) (fun x as M P h C hR => ?_)
  unfold T_X11_most at h
  split at h
  rotate_left
  · exact h.elim
  rename_i g s na nb
  obtain ⟨rfl, rfl, hCE, ha, hb, h15, h7, h9, hA, f, hso, hP⟩ := h
  obtain ⟨A, hAe⟩ : ∃ A : Nat → Int, A = M 38 0 := ⟨_, rfl⟩
  have hAi : ∀ i : Nat, M 38 0 i = A i := fun i => by rw [hAe]
  rw [← hAe] at hA hso hP
  obtain ⟨n, hn⟩ : ∃ n : Nat, na + nb = n := ⟨(na + nb).toNat, by omega⟩
  have hnn : (na + nb).toNat = n := by omega
  rw [hnn] at hA hso hP
  refine B_X11_most_0 C (k_X11_group l) (by decide) _ _ _ ?_
  simp only [c_iadd, c_isub, c_imul, c_ladd, c_lsub, c_lmul, c_ineg, c_lneg, c_ic, c_lc, c_iload, c_lload, c_aload, c_istore, c_astore, c_lstore, c_iinc, c_dup, c_dup2, c_goto, c_i2l, c_l2i, c_idiv, c_ldiv, c_lrem, c_lshl, c_gi, c_gl, c_gr, c_pi, c_pz, c_pl, c_iald, c_lald, c_bald, c_aald, c_iast, c_last, c_bast, c_callV, c_callS, c_mmax, c_mmin, c_mabs, c_mmaxl, c_mabsl, c_iret, c_zret, c_lret, c_vret, c_tsw, c_lsw, c_icmp_eq, c_icmp_ne, c_icmp_lt, c_icmp_ge, c_icmp_gt, c_icmp_le, c_if_eq, c_if_ne, c_if_lt, c_if_ge, c_if_gt, c_if_le, c_lcmp_eq, c_lcmp_ne, c_lcmp_lt, c_lcmp_ge, c_lcmp_gt, c_lcmp_le, c_lraw_eq, c_lraw_lt, c_lraw_ge, c_lraw_gt, c_lraw_le, acat, scat, tswP, pops, st1, st2, klo, pad, elo, List.getElem?_cons_zero, List.getElem?_cons_succ, List.getElem?_nil, List.set_cons_zero, List.set_cons_succ, List.set_nil, Option.toList_some, Option.toList_none, List.cons_append, List.nil_append, List.length_cons, List.length_nil, stc_ap, stm_ap, false_and, and_false, and_self, true_and, and_true, Nat.reduceEqDiff, reduceIte, al_12, al_13, al_14, al_15, al_16, al_17, al_18, al_19, al_20, al_21, al_22, al_23, al_24, al_25, al_26, al_27, al_28, al_29, al_30, al_31, al_32, al_33, al_34, al_35, al_36, al_37, al_38, al_39, al_40, al_41, al_42, al_43, al_44, al_45, al_46, al_47, al_48, al_49, al_50, al_51, al_52, al_53, al_54, al_55, at_12, at_13, at_14, at_15, at_16, at_17, at_18, at_19, at_20, at_21, at_22, at_23, at_24, at_25, at_26, at_27, at_28, at_29, at_30, at_31, at_32, at_33, at_34, at_35, at_36, at_37, at_38, at_39, at_40, at_41, at_42, at_43, at_44, at_45, at_46, at_47, at_48, at_49, at_50, at_51, at_52, at_53, at_54, at_55, cn_0, cn_1, cn_2, cn_3, cn_4, cn_5, cn_6, cn_7, cn_8, cn_9, cn_10, cn_11, cn_12, cn_13, cn_14, cn_15, cn_16, cn_17, cn_18, cn_19, cn_20, cn_21, cn_22, cn_23, cn_24, cn_25, cn_26, cn_27, cn_28, cn_29, cn_30, cn_31, cn_32, cn_33, cn_34, cn_35, cn_36, cn_37, cn_38, cn_39, cn_40, cn_41, cn_42, cn_43, cn_44, cn_45, cn_46, cn_47, cn_48, cn_49, cn_50, cn_51, cn_52, cn_53, cn_54, cn_55, Nat.reduceAdd, Nat.reduceLT, Nat.reduceLeDiff, Nat.lt_add_one, Nat.zero_lt_succ, Nat.reduceSub, ite_true, ite_false, reduceCtorEq, forall_const, Nat.reduceSucc, Nat.zero_add, Nat.add_zero, Nat.le_refl, Nat.zero_le, Nat.reducePow, Int.reduceNeg, Nat.reduceMul, eq_self, Int.cast_ofNat_Int, Int.toNat_natCast, iR, lR, Int.reduceEq, Int.reduceLT, Int.reduceLE, Int.reduceNe, not_false_eq_true, not_true_eq_false, false_implies, true_implies, Int.reduceAdd, Int.reduceSub, Int.reduceMul, Int.reduceToNat, implies_true, or_true, true_or, or_false, false_or, T_X11_group]
  rw [← hAe, show (M 11 0 15).toNat = n by omega]
  refine ⟨by omega, hA, fun G gm hg => ?_⟩
  show J x 11 [some (zr 11 0), some (zi na), some (zi nb), some (zi (-501)), some (zi 0), none, none, none, none] [] (gts M G gm)
  obtain ⟨M1, hM1⟩ : ∃ M1 : Mm, M1 = gts M G gm := ⟨_, rfl⟩
  rw [← hM1]
  have r38 : M1 38 = M 38 := by rw [hM1]; exact gts_r38 M G gm
  have r20 : M1 11 0 20 = gm := by rw [hM1]; rfl
  have r15 : M1 11 0 15 = n := by rw [hM1, gts_r15]; omega
  have r41 : M1 41 0 = G := by rw [hM1]; exact gts_r41 M G gm
  have r9 : M1 11 0 9 = 0 := by rw [hM1]; unfold gts; rw [stm_ap, if_neg (by decide), stc_ne _ _ _ _ (by decide)]; exact h9
  have hgb := hg.1
  obtain ⟨mv, hmv⟩ : ∃ mv : Nat → Int, mv = fun u => mvA A na nb (vsq A n u) := ⟨_, rfl⟩
  rw [← hmv] at hP
  have hmvb : ∀ x : Int, 0 ≤ mvA A na nb x ∧ mvA A na nb x ≤ 400 ∧ (-400 ≤ nb * cle A x na.toNat - na * (cle A x n - cle A x na.toNat) ∧ nb * cle A x na.toNat - na * (cle A x n - cle A x na.toNat) ≤ 400) := by
    intro x
    have c1 := cle_in A x na.toNat
    have c2 : cle A x na.toNat ≤ cle A x n ∧ cle A x n - cle A x na.toNat ≤ nb := by
      have key : ∀ d : Nat, cle A x na.toNat ≤ cle A x (na.toNat + d) ∧ cle A x (na.toNat + d) - cle A x na.toNat ≤ d := by
        intro d
        induction d with
        | zero => rw [Nat.add_zero]; omega
        | succ d ih =>
          show cle A x na.toNat ≤ cle A x (na.toNat + d) + (if A (na.toNat + d) ≤ x then 1 else 0) ∧ cle A x (na.toNat + d) + (if A (na.toNat + d) ≤ x then 1 else 0) - cle A x na.toNat ≤ _
          split <;> omega
      have := key nb.toNat
      rw [show na.toNat + nb.toNat = n by omega] at this
      omega
    have u1 : 0 ≤ nb * cle A x na.toNat ∧ nb * cle A x na.toNat ≤ 400 := by
      refine ⟨Int.mul_nonneg (by omega) (by omega), ?_⟩
      have a1 : nb * cle A x na.toNat ≤ 20 * cle A x na.toNat := Int.mul_le_mul_of_nonneg_right (by omega) (by omega)
      omega
    have u2 : 0 ≤ na * (cle A x n - cle A x na.toNat) ∧ na * (cle A x n - cle A x na.toNat) ≤ 400 := by
      refine ⟨Int.mul_nonneg (by omega) (by omega), ?_⟩
      have a1 : na * (cle A x n - cle A x na.toNat) ≤ 20 * (cle A x n - cle A x na.toNat) := Int.mul_le_mul_of_nonneg_right (by omega) (by omega)
      omega
    have u3 : -400 ≤ nb * cle A x na.toNat - na * (cle A x n - cle A x na.toNat) ∧ nb * cle A x na.toNat - na * (cle A x n - cle A x na.toNat) ≤ 400 := by omega
    unfold mvA
    rw [hnn]
    have := zab_in (z := nb * cle A x na.toNat - na * (cle A x n - cle A x na.toNat)) (c := 400) u3
    exact ⟨this.1, this.2, u3⟩
  have hmxb : ∀ u : Nat, 0 ≤ mxf mv u ∧ mxf mv u ≤ 400 := by
    intro u
    induction u with
    | zero => exact ⟨Int.le_refl 0, (by decide : (0 : Int) ≤ 400)⟩
    | succ u ih =>
      have := hmvb (vsq A n u)
      have e : mv u = mvA A na nb (vsq A n u) := by rw [hmv]
      show 0 ≤ max (mxf mv u) (mv u) ∧ max (mxf mv u) (mv u) ≤ 400
      omega
  -- what is there
  suffices hh : ∀ (u : Int) (M' : Mm), ((0 ≤ u ∧ u ≤ gm) ∧ M' = stm M1 11 0 9 (mxf mv u.toNat)) → J x 11 [some (zr 11 0), some (zi na), some (zi nb), some (zi (vpr A n u.toNat)), some (zi u), none, none, none, none] [] M' by
    refine hh 0 M1 ⟨by omega, ?_⟩
    show M1 = stm M1 11 0 9 0
    rw [← r9, stm_id]
  refine loopU gm _ _ ?_
  rintro u M' ⟨hu, rfl⟩ ih
  refine B_X11_most_11 C _ _ _ ?_
  simp only [c_iadd, c_isub, c_imul, c_ladd, c_lsub, c_lmul, c_ineg, c_lneg, c_ic, c_lc, c_iload, c_lload, c_aload, c_istore, c_astore, c_lstore, c_iinc, c_dup, c_dup2, c_goto, c_i2l, c_l2i, c_idiv, c_ldiv, c_lrem, c_lshl, c_gi, c_gl, c_gr, c_pi, c_pz, c_pl, c_iald, c_lald, c_bald, c_aald, c_iast, c_last, c_bast, c_callV, c_callS, c_mmax, c_mmin, c_mabs, c_mmaxl, c_mabsl, c_iret, c_zret, c_lret, c_vret, c_tsw, c_lsw, c_icmp_eq, c_icmp_ne, c_icmp_lt, c_icmp_ge, c_icmp_gt, c_icmp_le, c_if_eq, c_if_ne, c_if_lt, c_if_ge, c_if_gt, c_if_le, c_lcmp_eq, c_lcmp_ne, c_lcmp_lt, c_lcmp_ge, c_lcmp_gt, c_lcmp_le, c_lraw_eq, c_lraw_lt, c_lraw_ge, c_lraw_gt, c_lraw_le, acat, scat, tswP, pops, st1, st2, klo, pad, elo, List.getElem?_cons_zero, List.getElem?_cons_succ, List.getElem?_nil, List.set_cons_zero, List.set_cons_succ, List.set_nil, Option.toList_some, Option.toList_none, List.cons_append, List.nil_append, List.length_cons, List.length_nil, stc_ap, stm_ap, false_and, and_false, and_self, true_and, and_true, Nat.reduceEqDiff, reduceIte, al_12, al_13, al_14, al_15, al_16, al_17, al_18, al_19, al_20, al_21, al_22, al_23, al_24, al_25, al_26, al_27, al_28, al_29, al_30, al_31, al_32, al_33, al_34, al_35, al_36, al_37, al_38, al_39, al_40, al_41, al_42, al_43, al_44, al_45, al_46, al_47, al_48, al_49, al_50, al_51, al_52, al_53, al_54, al_55, at_12, at_13, at_14, at_15, at_16, at_17, at_18, at_19, at_20, at_21, at_22, at_23, at_24, at_25, at_26, at_27, at_28, at_29, at_30, at_31, at_32, at_33, at_34, at_35, at_36, at_37, at_38, at_39, at_40, at_41, at_42, at_43, at_44, at_45, at_46, at_47, at_48, at_49, at_50, at_51, at_52, at_53, at_54, at_55, cn_0, cn_1, cn_2, cn_3, cn_4, cn_5, cn_6, cn_7, cn_8, cn_9, cn_10, cn_11, cn_12, cn_13, cn_14, cn_15, cn_16, cn_17, cn_18, cn_19, cn_20, cn_21, cn_22, cn_23, cn_24, cn_25, cn_26, cn_27, cn_28, cn_29, cn_30, cn_31, cn_32, cn_33, cn_34, cn_35, cn_36, cn_37, cn_38, cn_39, cn_40, cn_41, cn_42, cn_43, cn_44, cn_45, cn_46, cn_47, cn_48, cn_49, cn_50, cn_51, cn_52, cn_53, cn_54, cn_55, Nat.reduceAdd, Nat.reduceLT, Nat.reduceLeDiff, Nat.lt_add_one, Nat.zero_lt_succ, Nat.reduceSub, ite_true, ite_false, reduceCtorEq, forall_const, Nat.reduceSucc, Nat.zero_add, Nat.add_zero, Nat.le_refl, Nat.zero_le, Nat.reducePow, Int.reduceNeg, Nat.reduceMul, eq_self, Int.cast_ofNat_Int, Int.toNat_natCast, iR, lR, Int.reduceEq, Int.reduceLT, Int.reduceLE, Int.reduceNe, not_false_eq_true, not_true_eq_false, false_implies, true_implies, Int.reduceAdd, Int.reduceSub, Int.reduceMul, Int.reduceToNat, implies_true, or_true, true_or, or_false, false_or, r20]
  refine ⟨by omega, by omega, fun y => ?_, fun y => ?_⟩
  rotate_left
  · obtain ⟨⟨p1, p0⟩, p2, p3⟩ := grp_sum hA hg.2.1 u.toNat (by omega)
    obtain ⟨pv, hpv⟩ : ∃ pv : Int, pv = vpr A n u.toNat := ⟨_, rfl⟩
    rw [← hpv] at p1 p0 ⊢
    obtain ⟨tt, htt⟩ : ∃ tt : Int, tt = mxf mv u.toNat := ⟨_, rfl⟩
    rw [← htt] at ⊢
    obtain ⟨M2, hM2⟩ : ∃ M2 : Mm, M2 = stm M1 11 0 9 tt := ⟨_, rfl⟩
    rw [← hM2]
    have q38 : ∀ i : Nat, M2 38 0 i = A i := fun i => by rw [hM2, stm_ne _ _ _ _ _ (by decide), r38, hAi]
    have q15 : M2 11 0 15 = n := by rw [hM2, stm_ap, if_neg (by decide)]; exact r15
    have q9 : M2 11 0 9 = tt := by rw [hM2]; rfl
    have htb := hmxb u.toNat
    rw [← htt] at htb
    suffices hh : ∀ (k : Int) (M' : Mm), ((0 ≤ k ∧ k ≤ n) ∧ M2 = M') → J x 28 [some (zr 11 0), some (zi na), some (zi nb), some (zi pv), some (zi u), some (zi (nxv A pv k.toNat)), some (zi k), none, none] [] M' by
      exact hh 0 _ ⟨by omega, rfl⟩
    refine loopU n _ _ ?_
    rintro k M' ⟨hk, rfl⟩ ih2
    have hnx : pv < nxv A pv k.toNat ∧ nxv A pv k.toNat ≤ 501 := ⟨(nxv_in (A := A) (n := k.toNat) (fun j hj => hA j (by omega)) p1).1, (nxv_in (A := A) (n := k.toNat) (fun j hj => hA j (by omega)) p1).2.1⟩
    have h72 : ∀ v : Int, k < n → v = nxv A pv (k.toNat + 1) → J x 72 [some (zr 11 0), some (zi na), some (zi nb), some (zi pv), some (zi u), some (zi (nxv A pv k.toNat)), some (zi k), none, none] [zi v] M2 := by
      intro v hlt hv
      refine B_X11_most_72 C _ _ _ ?_
      simp only [c_iadd, c_isub, c_imul, c_ladd, c_lsub, c_lmul, c_ineg, c_lneg, c_ic, c_lc, c_iload, c_lload, c_aload, c_istore, c_astore, c_lstore, c_iinc, c_dup, c_dup2, c_goto, c_i2l, c_l2i, c_idiv, c_ldiv, c_lrem, c_lshl, c_gi, c_gl, c_gr, c_pi, c_pz, c_pl, c_iald, c_lald, c_bald, c_aald, c_iast, c_last, c_bast, c_callV, c_callS, c_mmax, c_mmin, c_mabs, c_mmaxl, c_mabsl, c_iret, c_zret, c_lret, c_vret, c_tsw, c_lsw, c_icmp_eq, c_icmp_ne, c_icmp_lt, c_icmp_ge, c_icmp_gt, c_icmp_le, c_if_eq, c_if_ne, c_if_lt, c_if_ge, c_if_gt, c_if_le, c_lcmp_eq, c_lcmp_ne, c_lcmp_lt, c_lcmp_ge, c_lcmp_gt, c_lcmp_le, c_lraw_eq, c_lraw_lt, c_lraw_ge, c_lraw_gt, c_lraw_le, acat, scat, tswP, pops, st1, st2, klo, pad, elo, List.getElem?_cons_zero, List.getElem?_cons_succ, List.getElem?_nil, List.set_cons_zero, List.set_cons_succ, List.set_nil, Option.toList_some, Option.toList_none, List.cons_append, List.nil_append, List.length_cons, List.length_nil, stc_ap, stm_ap, false_and, and_false, and_self, true_and, and_true, Nat.reduceEqDiff, reduceIte, al_12, al_13, al_14, al_15, al_16, al_17, al_18, al_19, al_20, al_21, al_22, al_23, al_24, al_25, al_26, al_27, al_28, al_29, al_30, al_31, al_32, al_33, al_34, al_35, al_36, al_37, al_38, al_39, al_40, al_41, al_42, al_43, al_44, al_45, al_46, al_47, al_48, al_49, al_50, al_51, al_52, al_53, al_54, al_55, at_12, at_13, at_14, at_15, at_16, at_17, at_18, at_19, at_20, at_21, at_22, at_23, at_24, at_25, at_26, at_27, at_28, at_29, at_30, at_31, at_32, at_33, at_34, at_35, at_36, at_37, at_38, at_39, at_40, at_41, at_42, at_43, at_44, at_45, at_46, at_47, at_48, at_49, at_50, at_51, at_52, at_53, at_54, at_55, cn_0, cn_1, cn_2, cn_3, cn_4, cn_5, cn_6, cn_7, cn_8, cn_9, cn_10, cn_11, cn_12, cn_13, cn_14, cn_15, cn_16, cn_17, cn_18, cn_19, cn_20, cn_21, cn_22, cn_23, cn_24, cn_25, cn_26, cn_27, cn_28, cn_29, cn_30, cn_31, cn_32, cn_33, cn_34, cn_35, cn_36, cn_37, cn_38, cn_39, cn_40, cn_41, cn_42, cn_43, cn_44, cn_45, cn_46, cn_47, cn_48, cn_49, cn_50, cn_51, cn_52, cn_53, cn_54, cn_55, Nat.reduceAdd, Nat.reduceLT, Nat.reduceLeDiff, Nat.lt_add_one, Nat.zero_lt_succ, Nat.reduceSub, ite_true, ite_false, reduceCtorEq, forall_const, Nat.reduceSucc, Nat.zero_add, Nat.add_zero, Nat.le_refl, Nat.zero_le, Nat.reducePow, Int.reduceNeg, Nat.reduceMul, eq_self, Int.cast_ofNat_Int, Int.toNat_natCast, iR, lR, Int.reduceEq, Int.reduceLT, Int.reduceLE, Int.reduceNe, not_false_eq_true, not_true_eq_false, false_implies, true_implies, Int.reduceAdd, Int.reduceSub, Int.reduceMul, Int.reduceToNat, implies_true, or_true, true_or, or_false, false_or]
      have := ih2 hlt _ ⟨by omega, rfl⟩
      rw [show (k + 1).toNat = k.toNat + 1 by omega, ← hv] at this
      exact this
    have h70 : k < n → nxv A pv (k.toNat + 1) = nxv A pv k.toNat → J x 70 [some (zr 11 0), some (zi na), some (zi nb), some (zi pv), some (zi u), some (zi (nxv A pv k.toNat)), some (zi k), none, none] [] M2 := by
      intro hlt he
      refine B_X11_most_70 C _ _ _ ?_
      simp only [c_iadd, c_isub, c_imul, c_ladd, c_lsub, c_lmul, c_ineg, c_lneg, c_ic, c_lc, c_iload, c_lload, c_aload, c_istore, c_astore, c_lstore, c_iinc, c_dup, c_dup2, c_goto, c_i2l, c_l2i, c_idiv, c_ldiv, c_lrem, c_lshl, c_gi, c_gl, c_gr, c_pi, c_pz, c_pl, c_iald, c_lald, c_bald, c_aald, c_iast, c_last, c_bast, c_callV, c_callS, c_mmax, c_mmin, c_mabs, c_mmaxl, c_mabsl, c_iret, c_zret, c_lret, c_vret, c_tsw, c_lsw, c_icmp_eq, c_icmp_ne, c_icmp_lt, c_icmp_ge, c_icmp_gt, c_icmp_le, c_if_eq, c_if_ne, c_if_lt, c_if_ge, c_if_gt, c_if_le, c_lcmp_eq, c_lcmp_ne, c_lcmp_lt, c_lcmp_ge, c_lcmp_gt, c_lcmp_le, c_lraw_eq, c_lraw_lt, c_lraw_ge, c_lraw_gt, c_lraw_le, acat, scat, tswP, pops, st1, st2, klo, pad, elo, List.getElem?_cons_zero, List.getElem?_cons_succ, List.getElem?_nil, List.set_cons_zero, List.set_cons_succ, List.set_nil, Option.toList_some, Option.toList_none, List.cons_append, List.nil_append, List.length_cons, List.length_nil, stc_ap, stm_ap, false_and, and_false, and_self, true_and, and_true, Nat.reduceEqDiff, reduceIte, al_12, al_13, al_14, al_15, al_16, al_17, al_18, al_19, al_20, al_21, al_22, al_23, al_24, al_25, al_26, al_27, al_28, al_29, al_30, al_31, al_32, al_33, al_34, al_35, al_36, al_37, al_38, al_39, al_40, al_41, al_42, al_43, al_44, al_45, al_46, al_47, al_48, al_49, al_50, al_51, al_52, al_53, al_54, al_55, at_12, at_13, at_14, at_15, at_16, at_17, at_18, at_19, at_20, at_21, at_22, at_23, at_24, at_25, at_26, at_27, at_28, at_29, at_30, at_31, at_32, at_33, at_34, at_35, at_36, at_37, at_38, at_39, at_40, at_41, at_42, at_43, at_44, at_45, at_46, at_47, at_48, at_49, at_50, at_51, at_52, at_53, at_54, at_55, cn_0, cn_1, cn_2, cn_3, cn_4, cn_5, cn_6, cn_7, cn_8, cn_9, cn_10, cn_11, cn_12, cn_13, cn_14, cn_15, cn_16, cn_17, cn_18, cn_19, cn_20, cn_21, cn_22, cn_23, cn_24, cn_25, cn_26, cn_27, cn_28, cn_29, cn_30, cn_31, cn_32, cn_33, cn_34, cn_35, cn_36, cn_37, cn_38, cn_39, cn_40, cn_41, cn_42, cn_43, cn_44, cn_45, cn_46, cn_47, cn_48, cn_49, cn_50, cn_51, cn_52, cn_53, cn_54, cn_55, Nat.reduceAdd, Nat.reduceLT, Nat.reduceLeDiff, Nat.lt_add_one, Nat.zero_lt_succ, Nat.reduceSub, ite_true, ite_false, reduceCtorEq, forall_const, Nat.reduceSucc, Nat.zero_add, Nat.add_zero, Nat.le_refl, Nat.zero_le, Nat.reducePow, Int.reduceNeg, Nat.reduceMul, eq_self, Int.cast_ofNat_Int, Int.toNat_natCast, iR, lR, Int.reduceEq, Int.reduceLT, Int.reduceLE, Int.reduceNe, not_false_eq_true, not_true_eq_false, false_implies, true_implies, Int.reduceAdd, Int.reduceSub, Int.reduceMul, Int.reduceToNat, implies_true, or_true, true_or, or_false, false_or]
      exact h72 _ hlt he.symm
    refine B_X11_most_28 C _ _ _ ?_
    simp only [c_iadd, c_isub, c_imul, c_ladd, c_lsub, c_lmul, c_ineg, c_lneg, c_ic, c_lc, c_iload, c_lload, c_aload, c_istore, c_astore, c_lstore, c_iinc, c_dup, c_dup2, c_goto, c_i2l, c_l2i, c_idiv, c_ldiv, c_lrem, c_lshl, c_gi, c_gl, c_gr, c_pi, c_pz, c_pl, c_iald, c_lald, c_bald, c_aald, c_iast, c_last, c_bast, c_callV, c_callS, c_mmax, c_mmin, c_mabs, c_mmaxl, c_mabsl, c_iret, c_zret, c_lret, c_vret, c_tsw, c_lsw, c_icmp_eq, c_icmp_ne, c_icmp_lt, c_icmp_ge, c_icmp_gt, c_icmp_le, c_if_eq, c_if_ne, c_if_lt, c_if_ge, c_if_gt, c_if_le, c_lcmp_eq, c_lcmp_ne, c_lcmp_lt, c_lcmp_ge, c_lcmp_gt, c_lcmp_le, c_lraw_eq, c_lraw_lt, c_lraw_ge, c_lraw_gt, c_lraw_le, acat, scat, tswP, pops, st1, st2, klo, pad, elo, List.getElem?_cons_zero, List.getElem?_cons_succ, List.getElem?_nil, List.set_cons_zero, List.set_cons_succ, List.set_nil, Option.toList_some, Option.toList_none, List.cons_append, List.nil_append, List.length_cons, List.length_nil, stc_ap, stm_ap, false_and, and_false, and_self, true_and, and_true, Nat.reduceEqDiff, reduceIte, al_12, al_13, al_14, al_15, al_16, al_17, al_18, al_19, al_20, al_21, al_22, al_23, al_24, al_25, al_26, al_27, al_28, al_29, al_30, al_31, al_32, al_33, al_34, al_35, al_36, al_37, al_38, al_39, al_40, al_41, al_42, al_43, al_44, al_45, al_46, al_47, al_48, al_49, al_50, al_51, al_52, al_53, al_54, al_55, at_12, at_13, at_14, at_15, at_16, at_17, at_18, at_19, at_20, at_21, at_22, at_23, at_24, at_25, at_26, at_27, at_28, at_29, at_30, at_31, at_32, at_33, at_34, at_35, at_36, at_37, at_38, at_39, at_40, at_41, at_42, at_43, at_44, at_45, at_46, at_47, at_48, at_49, at_50, at_51, at_52, at_53, at_54, at_55, cn_0, cn_1, cn_2, cn_3, cn_4, cn_5, cn_6, cn_7, cn_8, cn_9, cn_10, cn_11, cn_12, cn_13, cn_14, cn_15, cn_16, cn_17, cn_18, cn_19, cn_20, cn_21, cn_22, cn_23, cn_24, cn_25, cn_26, cn_27, cn_28, cn_29, cn_30, cn_31, cn_32, cn_33, cn_34, cn_35, cn_36, cn_37, cn_38, cn_39, cn_40, cn_41, cn_42, cn_43, cn_44, cn_45, cn_46, cn_47, cn_48, cn_49, cn_50, cn_51, cn_52, cn_53, cn_54, cn_55, Nat.reduceAdd, Nat.reduceLT, Nat.reduceLeDiff, Nat.lt_add_one, Nat.zero_lt_succ, Nat.reduceSub, ite_true, ite_false, reduceCtorEq, forall_const, Nat.reduceSucc, Nat.zero_add, Nat.add_zero, Nat.le_refl, Nat.zero_le, Nat.reducePow, Int.reduceNeg, Nat.reduceMul, eq_self, Int.cast_ofNat_Int, Int.toNat_natCast, iR, lR, Int.reduceEq, Int.reduceLT, Int.reduceLE, Int.reduceNe, not_false_eq_true, not_true_eq_false, false_implies, true_implies, Int.reduceAdd, Int.reduceSub, Int.reduceMul, Int.reduceToNat, implies_true, or_true, true_or, or_false, false_or, q15, q38]
    refine ⟨by omega, by omega, fun y2 => ?_, fun y2 => ?_⟩
    rotate_left
    · have hAk := hA k.toNat (by omega)
      have hst : nxv A pv (k.toNat + 1) = if pv < A k.toNat ∧ A k.toNat < nxv A pv k.toNat then A k.toNat else nxv A pv k.toNat := rfl
      exact ⟨by omega, by omega, by omega, fun z2 => h70 (by omega) (by rw [hst, if_neg (by omega)]), fun z2 => ⟨by omega, by omega, by omega, fun z3 => h70 (by omega) (by rw [hst, if_neg (by omega)]), fun z3 => ⟨by omega, h72 _ (by omega) (by rw [hst, if_pos (by omega)])⟩⟩⟩
    have hkn : k.toNat = n := by omega
    rw [hkn]
    obtain ⟨xv, hxv⟩ : ∃ xv : Int, xv = nxv A pv n := ⟨_, rfl⟩
    rw [← hxv]
    have hxs : xv = vsq A n u.toNat := by rw [hxv, vsq_n, ← hpv]
    rw [hkn, ← hxv] at hnx
    clear ih2 h72 h70
    -- own ones and others
    suffices hh : ∀ (k : Int) (M' : Mm), ((0 ≤ k ∧ k ≤ n) ∧ M2 = M') → J x 89 [some (zr 11 0), some (zi na), some (zi nb), some (zi pv), some (zi u), some (zi xv), some (zi (cle A xv (min k na).toNat)), some (zi (cle A xv k.toNat - cle A xv (min k na).toNat)), some (zi k)] [] M' by
      have := hh 0 _ ⟨by omega, rfl⟩
      rw [show (min 0 na).toNat = 0 by omega] at this
      exact this
    refine loopU n _ _ ?_
    rintro k M' ⟨hk, rfl⟩ ih2
    have eu1 : (u + 1).toNat = u.toNat + 1 := by omega
    have h196 : ∀ (v z6 z7 z8 : Int), v = mxf mv (u.toNat + 1) → J x 196 [some (zr 11 0), some (zi na), some (zi nb), some (zi pv), some (zi u), some (zi xv), some (zi z6), some (zi z7), some (zi z8)] [zl v, zr 11 0] M2 := by
      intro v z6 z7 z8 hv
      refine B_X11_most_196 C _ _ _ ?_
      simp only [c_iadd, c_isub, c_imul, c_ladd, c_lsub, c_lmul, c_ineg, c_lneg, c_ic, c_lc, c_iload, c_lload, c_aload, c_istore, c_astore, c_lstore, c_iinc, c_dup, c_dup2, c_goto, c_i2l, c_l2i, c_idiv, c_ldiv, c_lrem, c_lshl, c_gi, c_gl, c_gr, c_pi, c_pz, c_pl, c_iald, c_lald, c_bald, c_aald, c_iast, c_last, c_bast, c_callV, c_callS, c_mmax, c_mmin, c_mabs, c_mmaxl, c_mabsl, c_iret, c_zret, c_lret, c_vret, c_tsw, c_lsw, c_icmp_eq, c_icmp_ne, c_icmp_lt, c_icmp_ge, c_icmp_gt, c_icmp_le, c_if_eq, c_if_ne, c_if_lt, c_if_ge, c_if_gt, c_if_le, c_lcmp_eq, c_lcmp_ne, c_lcmp_lt, c_lcmp_ge, c_lcmp_gt, c_lcmp_le, c_lraw_eq, c_lraw_lt, c_lraw_ge, c_lraw_gt, c_lraw_le, acat, scat, tswP, pops, st1, st2, klo, pad, elo, List.getElem?_cons_zero, List.getElem?_cons_succ, List.getElem?_nil, List.set_cons_zero, List.set_cons_succ, List.set_nil, Option.toList_some, Option.toList_none, List.cons_append, List.nil_append, List.length_cons, List.length_nil, stc_ap, stm_ap, false_and, and_false, and_self, true_and, and_true, Nat.reduceEqDiff, reduceIte, al_12, al_13, al_14, al_15, al_16, al_17, al_18, al_19, al_20, al_21, al_22, al_23, al_24, al_25, al_26, al_27, al_28, al_29, al_30, al_31, al_32, al_33, al_34, al_35, al_36, al_37, al_38, al_39, al_40, al_41, al_42, al_43, al_44, al_45, al_46, al_47, al_48, al_49, al_50, al_51, al_52, al_53, al_54, al_55, at_12, at_13, at_14, at_15, at_16, at_17, at_18, at_19, at_20, at_21, at_22, at_23, at_24, at_25, at_26, at_27, at_28, at_29, at_30, at_31, at_32, at_33, at_34, at_35, at_36, at_37, at_38, at_39, at_40, at_41, at_42, at_43, at_44, at_45, at_46, at_47, at_48, at_49, at_50, at_51, at_52, at_53, at_54, at_55, cn_0, cn_1, cn_2, cn_3, cn_4, cn_5, cn_6, cn_7, cn_8, cn_9, cn_10, cn_11, cn_12, cn_13, cn_14, cn_15, cn_16, cn_17, cn_18, cn_19, cn_20, cn_21, cn_22, cn_23, cn_24, cn_25, cn_26, cn_27, cn_28, cn_29, cn_30, cn_31, cn_32, cn_33, cn_34, cn_35, cn_36, cn_37, cn_38, cn_39, cn_40, cn_41, cn_42, cn_43, cn_44, cn_45, cn_46, cn_47, cn_48, cn_49, cn_50, cn_51, cn_52, cn_53, cn_54, cn_55, Nat.reduceAdd, Nat.reduceLT, Nat.reduceLeDiff, Nat.lt_add_one, Nat.zero_lt_succ, Nat.reduceSub, ite_true, ite_false, reduceCtorEq, forall_const, Nat.reduceSucc, Nat.zero_add, Nat.add_zero, Nat.le_refl, Nat.zero_le, Nat.reducePow, Int.reduceNeg, Nat.reduceMul, eq_self, Int.cast_ofNat_Int, Int.toNat_natCast, iR, lR, Int.reduceEq, Int.reduceLT, Int.reduceLE, Int.reduceNe, not_false_eq_true, not_true_eq_false, false_implies, true_implies, Int.reduceAdd, Int.reduceSub, Int.reduceMul, Int.reduceToNat, implies_true, or_true, true_or, or_false, false_or]
      have e9 : stm M2 11 0 9 v = stm M1 11 0 9 (mxf mv (u + 1).toNat) := by rw [hM2, stm_sm, hv, eu1]
      have := ih (by omega) (stm M2 11 0 9 v) ⟨by omega, e9⟩
      rw [eu1, show vpr A n (u.toNat + 1) = xv from hxs.symm] at this
      exact J_fgt [true, true, true, true, true, false, false, false, false] this
    have hst1 : k < n → cle A xv (min (k + 1) na).toNat = cle A xv (min k na).toNat + if k < na ∧ A k.toNat ≤ xv then 1 else 0 := by
      intro hlt
      by_cases e : k < na
      · rw [show (min (k + 1) na).toNat = k.toNat + 1 by omega, show (min k na).toNat = k.toNat by omega]
        show _ + (if A k.toNat ≤ xv then 1 else 0) = _
        by_cases e2 : A k.toNat ≤ xv
        · rw [if_pos e2, if_pos ⟨e, e2⟩]
        · rw [if_neg e2, if_neg (fun z => e2 z.2)]
      · rw [show (min (k + 1) na).toNat = (min k na).toNat by omega, if_neg (fun z => e z.1), Int.add_zero]
    have hst2 : k < n → cle A xv (k + 1).toNat = cle A xv k.toNat + if A k.toNat ≤ xv then 1 else 0 := fun _ => by rw [show (k + 1).toNat = k.toNat + 1 by omega]; rfl
    have h151 : ∀ (v o1 : Int), k < n → v = (if na ≤ k ∧ A k.toNat ≤ xv then 1 else 0) → o1 = cle A xv (min (k + 1) na).toNat → J x 151 [some (zr 11 0), some (zi na), some (zi nb), some (zi pv), some (zi u), some (zi xv), some (zi o1), some (zi (cle A xv k.toNat - cle A xv (min k na).toNat)), some (zi k)] [zi v, zi (cle A xv k.toNat - cle A xv (min k na).toNat)] M2 := by
      intro v o1 hlt hv ho
      refine B_X11_most_151 C _ _ _ ?_
      simp only [c_iadd, c_isub, c_imul, c_ladd, c_lsub, c_lmul, c_ineg, c_lneg, c_ic, c_lc, c_iload, c_lload, c_aload, c_istore, c_astore, c_lstore, c_iinc, c_dup, c_dup2, c_goto, c_i2l, c_l2i, c_idiv, c_ldiv, c_lrem, c_lshl, c_gi, c_gl, c_gr, c_pi, c_pz, c_pl, c_iald, c_lald, c_bald, c_aald, c_iast, c_last, c_bast, c_callV, c_callS, c_mmax, c_mmin, c_mabs, c_mmaxl, c_mabsl, c_iret, c_zret, c_lret, c_vret, c_tsw, c_lsw, c_icmp_eq, c_icmp_ne, c_icmp_lt, c_icmp_ge, c_icmp_gt, c_icmp_le, c_if_eq, c_if_ne, c_if_lt, c_if_ge, c_if_gt, c_if_le, c_lcmp_eq, c_lcmp_ne, c_lcmp_lt, c_lcmp_ge, c_lcmp_gt, c_lcmp_le, c_lraw_eq, c_lraw_lt, c_lraw_ge, c_lraw_gt, c_lraw_le, acat, scat, tswP, pops, st1, st2, klo, pad, elo, List.getElem?_cons_zero, List.getElem?_cons_succ, List.getElem?_nil, List.set_cons_zero, List.set_cons_succ, List.set_nil, Option.toList_some, Option.toList_none, List.cons_append, List.nil_append, List.length_cons, List.length_nil, stc_ap, stm_ap, false_and, and_false, and_self, true_and, and_true, Nat.reduceEqDiff, reduceIte, al_12, al_13, al_14, al_15, al_16, al_17, al_18, al_19, al_20, al_21, al_22, al_23, al_24, al_25, al_26, al_27, al_28, al_29, al_30, al_31, al_32, al_33, al_34, al_35, al_36, al_37, al_38, al_39, al_40, al_41, al_42, al_43, al_44, al_45, al_46, al_47, al_48, al_49, al_50, al_51, al_52, al_53, al_54, al_55, at_12, at_13, at_14, at_15, at_16, at_17, at_18, at_19, at_20, at_21, at_22, at_23, at_24, at_25, at_26, at_27, at_28, at_29, at_30, at_31, at_32, at_33, at_34, at_35, at_36, at_37, at_38, at_39, at_40, at_41, at_42, at_43, at_44, at_45, at_46, at_47, at_48, at_49, at_50, at_51, at_52, at_53, at_54, at_55, cn_0, cn_1, cn_2, cn_3, cn_4, cn_5, cn_6, cn_7, cn_8, cn_9, cn_10, cn_11, cn_12, cn_13, cn_14, cn_15, cn_16, cn_17, cn_18, cn_19, cn_20, cn_21, cn_22, cn_23, cn_24, cn_25, cn_26, cn_27, cn_28, cn_29, cn_30, cn_31, cn_32, cn_33, cn_34, cn_35, cn_36, cn_37, cn_38, cn_39, cn_40, cn_41, cn_42, cn_43, cn_44, cn_45, cn_46, cn_47, cn_48, cn_49, cn_50, cn_51, cn_52, cn_53, cn_54, cn_55, Nat.reduceAdd, Nat.reduceLT, Nat.reduceLeDiff, Nat.lt_add_one, Nat.zero_lt_succ, Nat.reduceSub, ite_true, ite_false, reduceCtorEq, forall_const, Nat.reduceSucc, Nat.zero_add, Nat.add_zero, Nat.le_refl, Nat.zero_le, Nat.reducePow, Int.reduceNeg, Nat.reduceMul, eq_self, Int.cast_ofNat_Int, Int.toNat_natCast, iR, lR, Int.reduceEq, Int.reduceLT, Int.reduceLE, Int.reduceNe, not_false_eq_true, not_true_eq_false, false_implies, true_implies, Int.reduceAdd, Int.reduceSub, Int.reduceMul, Int.reduceToNat, implies_true, or_true, true_or, or_false, false_or]
      have := ih2 hlt _ ⟨by omega, rfl⟩
      have e : cle A xv (k + 1).toNat - cle A xv (min (k + 1) na).toNat = cle A xv k.toNat - cle A xv (min k na).toNat + v := by
        rw [hst1 hlt, hst2 hlt, hv]
        by_cases e1 : k < na
        · rw [if_neg (show ¬ (na ≤ k ∧ A k.toNat ≤ xv) by omega)]
          by_cases e2 : A k.toNat ≤ xv
          · rw [if_pos e2, if_pos ⟨e1, e2⟩]; omega
          · rw [if_neg e2, if_neg (fun z => e2 z.2)]; omega
        · rw [if_neg (show ¬ (k < na ∧ A k.toNat ≤ xv) by omega)]
          by_cases e2 : A k.toNat ≤ xv
          · rw [if_pos e2, if_pos ⟨by omega, e2⟩]; omega
          · rw [if_neg e2, if_neg (fun z => e2 z.2)]; omega
      rw [e, ← ho] at this
      exact this
    have h150 : ∀ o1 : Int, k < n → ¬ (na ≤ k ∧ A k.toNat ≤ xv) → o1 = cle A xv (min (k + 1) na).toNat → J x 150 [some (zr 11 0), some (zi na), some (zi nb), some (zi pv), some (zi u), some (zi xv), some (zi o1), some (zi (cle A xv k.toNat - cle A xv (min k na).toNat)), some (zi k)] [zi (cle A xv k.toNat - cle A xv (min k na).toNat)] M2 := by
      intro o1 hlt hne ho
      refine B_X11_most_150 C _ _ _ ?_
      simp only [c_iadd, c_isub, c_imul, c_ladd, c_lsub, c_lmul, c_ineg, c_lneg, c_ic, c_lc, c_iload, c_lload, c_aload, c_istore, c_astore, c_lstore, c_iinc, c_dup, c_dup2, c_goto, c_i2l, c_l2i, c_idiv, c_ldiv, c_lrem, c_lshl, c_gi, c_gl, c_gr, c_pi, c_pz, c_pl, c_iald, c_lald, c_bald, c_aald, c_iast, c_last, c_bast, c_callV, c_callS, c_mmax, c_mmin, c_mabs, c_mmaxl, c_mabsl, c_iret, c_zret, c_lret, c_vret, c_tsw, c_lsw, c_icmp_eq, c_icmp_ne, c_icmp_lt, c_icmp_ge, c_icmp_gt, c_icmp_le, c_if_eq, c_if_ne, c_if_lt, c_if_ge, c_if_gt, c_if_le, c_lcmp_eq, c_lcmp_ne, c_lcmp_lt, c_lcmp_ge, c_lcmp_gt, c_lcmp_le, c_lraw_eq, c_lraw_lt, c_lraw_ge, c_lraw_gt, c_lraw_le, acat, scat, tswP, pops, st1, st2, klo, pad, elo, List.getElem?_cons_zero, List.getElem?_cons_succ, List.getElem?_nil, List.set_cons_zero, List.set_cons_succ, List.set_nil, Option.toList_some, Option.toList_none, List.cons_append, List.nil_append, List.length_cons, List.length_nil, stc_ap, stm_ap, false_and, and_false, and_self, true_and, and_true, Nat.reduceEqDiff, reduceIte, al_12, al_13, al_14, al_15, al_16, al_17, al_18, al_19, al_20, al_21, al_22, al_23, al_24, al_25, al_26, al_27, al_28, al_29, al_30, al_31, al_32, al_33, al_34, al_35, al_36, al_37, al_38, al_39, al_40, al_41, al_42, al_43, al_44, al_45, al_46, al_47, al_48, al_49, al_50, al_51, al_52, al_53, al_54, al_55, at_12, at_13, at_14, at_15, at_16, at_17, at_18, at_19, at_20, at_21, at_22, at_23, at_24, at_25, at_26, at_27, at_28, at_29, at_30, at_31, at_32, at_33, at_34, at_35, at_36, at_37, at_38, at_39, at_40, at_41, at_42, at_43, at_44, at_45, at_46, at_47, at_48, at_49, at_50, at_51, at_52, at_53, at_54, at_55, cn_0, cn_1, cn_2, cn_3, cn_4, cn_5, cn_6, cn_7, cn_8, cn_9, cn_10, cn_11, cn_12, cn_13, cn_14, cn_15, cn_16, cn_17, cn_18, cn_19, cn_20, cn_21, cn_22, cn_23, cn_24, cn_25, cn_26, cn_27, cn_28, cn_29, cn_30, cn_31, cn_32, cn_33, cn_34, cn_35, cn_36, cn_37, cn_38, cn_39, cn_40, cn_41, cn_42, cn_43, cn_44, cn_45, cn_46, cn_47, cn_48, cn_49, cn_50, cn_51, cn_52, cn_53, cn_54, cn_55, Nat.reduceAdd, Nat.reduceLT, Nat.reduceLeDiff, Nat.lt_add_one, Nat.zero_lt_succ, Nat.reduceSub, ite_true, ite_false, reduceCtorEq, forall_const, Nat.reduceSucc, Nat.zero_add, Nat.add_zero, Nat.le_refl, Nat.zero_le, Nat.reducePow, Int.reduceNeg, Nat.reduceMul, eq_self, Int.cast_ofNat_Int, Int.toNat_natCast, iR, lR, Int.reduceEq, Int.reduceLT, Int.reduceLE, Int.reduceNe, not_false_eq_true, not_true_eq_false, false_implies, true_implies, Int.reduceAdd, Int.reduceSub, Int.reduceMul, Int.reduceToNat, implies_true, or_true, true_or, or_false, false_or]
      exact h151 0 o1 hlt (by rw [if_neg hne]) ho
    have h123 : ∀ v : Int, k < n → v = (if k < na ∧ A k.toNat ≤ xv then 1 else 0) → J x 123 [some (zr 11 0), some (zi na), some (zi nb), some (zi pv), some (zi u), some (zi xv), some (zi (cle A xv (min k na).toNat)), some (zi (cle A xv k.toNat - cle A xv (min k na).toNat)), some (zi k)] [zi v, zi (cle A xv (min k na).toNat)] M2 := by
      intro v hlt hv
      have hAk := hA k.toNat (by omega)
      have ho : cle A xv (min k na).toNat + v = cle A xv (min (k + 1) na).toNat := by rw [hst1 hlt, hv]
      refine B_X11_most_123 C _ _ _ ?_
      simp only [c_iadd, c_isub, c_imul, c_ladd, c_lsub, c_lmul, c_ineg, c_lneg, c_ic, c_lc, c_iload, c_lload, c_aload, c_istore, c_astore, c_lstore, c_iinc, c_dup, c_dup2, c_goto, c_i2l, c_l2i, c_idiv, c_ldiv, c_lrem, c_lshl, c_gi, c_gl, c_gr, c_pi, c_pz, c_pl, c_iald, c_lald, c_bald, c_aald, c_iast, c_last, c_bast, c_callV, c_callS, c_mmax, c_mmin, c_mabs, c_mmaxl, c_mabsl, c_iret, c_zret, c_lret, c_vret, c_tsw, c_lsw, c_icmp_eq, c_icmp_ne, c_icmp_lt, c_icmp_ge, c_icmp_gt, c_icmp_le, c_if_eq, c_if_ne, c_if_lt, c_if_ge, c_if_gt, c_if_le, c_lcmp_eq, c_lcmp_ne, c_lcmp_lt, c_lcmp_ge, c_lcmp_gt, c_lcmp_le, c_lraw_eq, c_lraw_lt, c_lraw_ge, c_lraw_gt, c_lraw_le, acat, scat, tswP, pops, st1, st2, klo, pad, elo, List.getElem?_cons_zero, List.getElem?_cons_succ, List.getElem?_nil, List.set_cons_zero, List.set_cons_succ, List.set_nil, Option.toList_some, Option.toList_none, List.cons_append, List.nil_append, List.length_cons, List.length_nil, stc_ap, stm_ap, false_and, and_false, and_self, true_and, and_true, Nat.reduceEqDiff, reduceIte, al_12, al_13, al_14, al_15, al_16, al_17, al_18, al_19, al_20, al_21, al_22, al_23, al_24, al_25, al_26, al_27, al_28, al_29, al_30, al_31, al_32, al_33, al_34, al_35, al_36, al_37, al_38, al_39, al_40, al_41, al_42, al_43, al_44, al_45, al_46, al_47, al_48, al_49, al_50, al_51, al_52, al_53, al_54, al_55, at_12, at_13, at_14, at_15, at_16, at_17, at_18, at_19, at_20, at_21, at_22, at_23, at_24, at_25, at_26, at_27, at_28, at_29, at_30, at_31, at_32, at_33, at_34, at_35, at_36, at_37, at_38, at_39, at_40, at_41, at_42, at_43, at_44, at_45, at_46, at_47, at_48, at_49, at_50, at_51, at_52, at_53, at_54, at_55, cn_0, cn_1, cn_2, cn_3, cn_4, cn_5, cn_6, cn_7, cn_8, cn_9, cn_10, cn_11, cn_12, cn_13, cn_14, cn_15, cn_16, cn_17, cn_18, cn_19, cn_20, cn_21, cn_22, cn_23, cn_24, cn_25, cn_26, cn_27, cn_28, cn_29, cn_30, cn_31, cn_32, cn_33, cn_34, cn_35, cn_36, cn_37, cn_38, cn_39, cn_40, cn_41, cn_42, cn_43, cn_44, cn_45, cn_46, cn_47, cn_48, cn_49, cn_50, cn_51, cn_52, cn_53, cn_54, cn_55, Nat.reduceAdd, Nat.reduceLT, Nat.reduceLeDiff, Nat.lt_add_one, Nat.zero_lt_succ, Nat.reduceSub, ite_true, ite_false, reduceCtorEq, forall_const, Nat.reduceSucc, Nat.zero_add, Nat.add_zero, Nat.le_refl, Nat.zero_le, Nat.reducePow, Int.reduceNeg, Nat.reduceMul, eq_self, Int.cast_ofNat_Int, Int.toNat_natCast, iR, lR, Int.reduceEq, Int.reduceLT, Int.reduceLE, Int.reduceNe, not_false_eq_true, not_true_eq_false, false_implies, true_implies, Int.reduceAdd, Int.reduceSub, Int.reduceMul, Int.reduceToNat, implies_true, or_true, true_or, or_false, false_or, q38]
      exact ⟨by omega, by omega, fun z => h150 _ hlt (by omega) ho, fun z => ⟨by omega, by omega, by omega, fun z2 => h150 _ hlt (by omega) ho, fun z2 => h151 1 _ hlt (by rw [if_pos ⟨by omega, by omega⟩]) ho⟩⟩
    have h122 : k < n → ¬ (k < na ∧ A k.toNat ≤ xv) → J x 122 [some (zr 11 0), some (zi na), some (zi nb), some (zi pv), some (zi u), some (zi xv), some (zi (cle A xv (min k na).toNat)), some (zi (cle A xv k.toNat - cle A xv (min k na).toNat)), some (zi k)] [zi (cle A xv (min k na).toNat)] M2 := by
      intro hlt hne
      refine B_X11_most_122 C _ _ _ ?_
      simp only [c_iadd, c_isub, c_imul, c_ladd, c_lsub, c_lmul, c_ineg, c_lneg, c_ic, c_lc, c_iload, c_lload, c_aload, c_istore, c_astore, c_lstore, c_iinc, c_dup, c_dup2, c_goto, c_i2l, c_l2i, c_idiv, c_ldiv, c_lrem, c_lshl, c_gi, c_gl, c_gr, c_pi, c_pz, c_pl, c_iald, c_lald, c_bald, c_aald, c_iast, c_last, c_bast, c_callV, c_callS, c_mmax, c_mmin, c_mabs, c_mmaxl, c_mabsl, c_iret, c_zret, c_lret, c_vret, c_tsw, c_lsw, c_icmp_eq, c_icmp_ne, c_icmp_lt, c_icmp_ge, c_icmp_gt, c_icmp_le, c_if_eq, c_if_ne, c_if_lt, c_if_ge, c_if_gt, c_if_le, c_lcmp_eq, c_lcmp_ne, c_lcmp_lt, c_lcmp_ge, c_lcmp_gt, c_lcmp_le, c_lraw_eq, c_lraw_lt, c_lraw_ge, c_lraw_gt, c_lraw_le, acat, scat, tswP, pops, st1, st2, klo, pad, elo, List.getElem?_cons_zero, List.getElem?_cons_succ, List.getElem?_nil, List.set_cons_zero, List.set_cons_succ, List.set_nil, Option.toList_some, Option.toList_none, List.cons_append, List.nil_append, List.length_cons, List.length_nil, stc_ap, stm_ap, false_and, and_false, and_self, true_and, and_true, Nat.reduceEqDiff, reduceIte, al_12, al_13, al_14, al_15, al_16, al_17, al_18, al_19, al_20, al_21, al_22, al_23, al_24, al_25, al_26, al_27, al_28, al_29, al_30, al_31, al_32, al_33, al_34, al_35, al_36, al_37, al_38, al_39, al_40, al_41, al_42, al_43, al_44, al_45, al_46, al_47, al_48, al_49, al_50, al_51, al_52, al_53, al_54, al_55, at_12, at_13, at_14, at_15, at_16, at_17, at_18, at_19, at_20, at_21, at_22, at_23, at_24, at_25, at_26, at_27, at_28, at_29, at_30, at_31, at_32, at_33, at_34, at_35, at_36, at_37, at_38, at_39, at_40, at_41, at_42, at_43, at_44, at_45, at_46, at_47, at_48, at_49, at_50, at_51, at_52, at_53, at_54, at_55, cn_0, cn_1, cn_2, cn_3, cn_4, cn_5, cn_6, cn_7, cn_8, cn_9, cn_10, cn_11, cn_12, cn_13, cn_14, cn_15, cn_16, cn_17, cn_18, cn_19, cn_20, cn_21, cn_22, cn_23, cn_24, cn_25, cn_26, cn_27, cn_28, cn_29, cn_30, cn_31, cn_32, cn_33, cn_34, cn_35, cn_36, cn_37, cn_38, cn_39, cn_40, cn_41, cn_42, cn_43, cn_44, cn_45, cn_46, cn_47, cn_48, cn_49, cn_50, cn_51, cn_52, cn_53, cn_54, cn_55, Nat.reduceAdd, Nat.reduceLT, Nat.reduceLeDiff, Nat.lt_add_one, Nat.zero_lt_succ, Nat.reduceSub, ite_true, ite_false, reduceCtorEq, forall_const, Nat.reduceSucc, Nat.zero_add, Nat.add_zero, Nat.le_refl, Nat.zero_le, Nat.reducePow, Int.reduceNeg, Nat.reduceMul, eq_self, Int.cast_ofNat_Int, Int.toNat_natCast, iR, lR, Int.reduceEq, Int.reduceLT, Int.reduceLE, Int.reduceNe, not_false_eq_true, not_true_eq_false, false_implies, true_implies, Int.reduceAdd, Int.reduceSub, Int.reduceMul, Int.reduceToNat, implies_true, or_true, true_or, or_false, false_or]
      exact h123 0 hlt (by rw [if_neg hne])
    refine B_X11_most_89 C (k_X11_sizeOf l) (by decide) _ _ _ ?_
    simp only [c_iadd, c_isub, c_imul, c_ladd, c_lsub, c_lmul, c_ineg, c_lneg, c_ic, c_lc, c_iload, c_lload, c_aload, c_istore, c_astore, c_lstore, c_iinc, c_dup, c_dup2, c_goto, c_i2l, c_l2i, c_idiv, c_ldiv, c_lrem, c_lshl, c_gi, c_gl, c_gr, c_pi, c_pz, c_pl, c_iald, c_lald, c_bald, c_aald, c_iast, c_last, c_bast, c_callV, c_callS, c_mmax, c_mmin, c_mabs, c_mmaxl, c_mabsl, c_iret, c_zret, c_lret, c_vret, c_tsw, c_lsw, c_icmp_eq, c_icmp_ne, c_icmp_lt, c_icmp_ge, c_icmp_gt, c_icmp_le, c_if_eq, c_if_ne, c_if_lt, c_if_ge, c_if_gt, c_if_le, c_lcmp_eq, c_lcmp_ne, c_lcmp_lt, c_lcmp_ge, c_lcmp_gt, c_lcmp_le, c_lraw_eq, c_lraw_lt, c_lraw_ge, c_lraw_gt, c_lraw_le, acat, scat, tswP, pops, st1, st2, klo, pad, elo, List.getElem?_cons_zero, List.getElem?_cons_succ, List.getElem?_nil, List.set_cons_zero, List.set_cons_succ, List.set_nil, Option.toList_some, Option.toList_none, List.cons_append, List.nil_append, List.length_cons, List.length_nil, stc_ap, stm_ap, false_and, and_false, and_self, true_and, and_true, Nat.reduceEqDiff, reduceIte, al_12, al_13, al_14, al_15, al_16, al_17, al_18, al_19, al_20, al_21, al_22, al_23, al_24, al_25, al_26, al_27, al_28, al_29, al_30, al_31, al_32, al_33, al_34, al_35, al_36, al_37, al_38, al_39, al_40, al_41, al_42, al_43, al_44, al_45, al_46, al_47, al_48, al_49, al_50, al_51, al_52, al_53, al_54, al_55, at_12, at_13, at_14, at_15, at_16, at_17, at_18, at_19, at_20, at_21, at_22, at_23, at_24, at_25, at_26, at_27, at_28, at_29, at_30, at_31, at_32, at_33, at_34, at_35, at_36, at_37, at_38, at_39, at_40, at_41, at_42, at_43, at_44, at_45, at_46, at_47, at_48, at_49, at_50, at_51, at_52, at_53, at_54, at_55, cn_0, cn_1, cn_2, cn_3, cn_4, cn_5, cn_6, cn_7, cn_8, cn_9, cn_10, cn_11, cn_12, cn_13, cn_14, cn_15, cn_16, cn_17, cn_18, cn_19, cn_20, cn_21, cn_22, cn_23, cn_24, cn_25, cn_26, cn_27, cn_28, cn_29, cn_30, cn_31, cn_32, cn_33, cn_34, cn_35, cn_36, cn_37, cn_38, cn_39, cn_40, cn_41, cn_42, cn_43, cn_44, cn_45, cn_46, cn_47, cn_48, cn_49, cn_50, cn_51, cn_52, cn_53, cn_54, cn_55, Nat.reduceAdd, Nat.reduceLT, Nat.reduceLeDiff, Nat.lt_add_one, Nat.zero_lt_succ, Nat.reduceSub, ite_true, ite_false, reduceCtorEq, forall_const, Nat.reduceSucc, Nat.zero_add, Nat.add_zero, Nat.le_refl, Nat.zero_le, Nat.reducePow, Int.reduceNeg, Nat.reduceMul, eq_self, Int.cast_ofNat_Int, Int.toNat_natCast, iR, lR, Int.reduceEq, Int.reduceLT, Int.reduceLE, Int.reduceNe, not_false_eq_true, not_true_eq_false, false_implies, true_implies, Int.reduceAdd, Int.reduceSub, Int.reduceMul, Int.reduceToNat, implies_true, or_true, true_or, or_false, false_or, T_X11_sizeOf, q15, q38, q9]
    refine ⟨by omega, by omega, fun y3 => ?_, fun y3 => ?_⟩
    · rw [show (min k na).toNat = na.toNat by omega, show k.toNat = n by omega]
      have hb2 := hmvb xv
      have em : zab (nb * cle A xv na.toNat - na * (cle A xv n - cle A xv na.toNat)) = mv u.toNat := by
        rw [hmv]
        show _ = mvA A na nb (vsq A n u.toNat)
        unfold mvA
        rw [← hxs, hnn]
      have em2 : mvA A na nb xv = mv u.toNat := by rw [hmv, hxs]
      rw [em]
      refine ⟨by omega, by omega, by omega, by omega, fun z => h196 _ _ _ _ ?_, fun z => ⟨by omega, h196 _ _ _ _ ?_⟩⟩
      · show tt = max (mxf mv u.toNat) (mv u.toNat)
        omega
      · show mv u.toNat = max (mxf mv u.toNat) (mv u.toNat)
        omega
    · have hAk := hA k.toNat (by omega)
      exact ⟨by omega, by omega, fun z => h122 (by omega) (by omega), fun z => ⟨by omega, by omega, by omega, fun z2 => h122 (by omega) (by omega), fun z2 => h123 1 (by omega) (by rw [if_pos ⟨by omega, by omega⟩])⟩⟩
  -- the list
  have hun : u.toNat = gm.toNat := by omega
  rw [hun]
  clear ih
  have hnb2 : 0 ≤ na * nb ∧ na * nb ≤ 400 := by
    refine ⟨Int.mul_nonneg (by omega) (by omega), ?_⟩
    have a1 : na * nb ≤ 20 * nb := Int.mul_le_mul_of_nonneg_right (by omega) (by omega)
    omega
  obtain ⟨T, hT⟩ : ∃ T : Int, T = na * nb := ⟨_, rfl⟩
  rw [← hT] at hnb2 hP
  obtain ⟨M2, hM2⟩ : ∃ M2 : Mm, M2 = stm M1 11 0 9 (mxf mv gm.toNat) := ⟨_, rfl⟩
  rw [← hM2]
  suffices hh : ∀ (v : Int) (M' : Mm), ((0 ≤ v ∧ v ≤ T + 1) ∧ (∀ g' : Nat, ¬ g' = 11 → ¬ g' = 35 → ¬ g' = 36 → ¬ g' = 42 → ¬ g' = 43 → M' g' = M2 g') ∧ (∀ k : Nat, ¬ k = 7 → M' 11 0 k = M2 11 0 k) ∧ ML M' (tlst (gpd f n na.toNat) 1 0 v.toNat)) → J x 214 [some (zr 11 0), some (zi na), some (zi nb), some (zi (vpr A n gm.toNat)), some (zl (if v = 0 then 0 else gpc f n na.toNat (v - 1) n na.toNat)), none, some (zi v), none, none] [] M' by
    refine hh 0 M2 ⟨by omega, fun _ _ _ _ _ _ => rfl, fun _ _ => rfl, ?_, fun q s' c' hq => by cases hq⟩
    rw [hM2, stm_ap, if_neg (by decide), hM1]
    unfold gts
    rw [stm_ap, if_neg (by decide), stc_ne _ _ _ _ (by decide)]
    exact h7
  refine loopU (T + 1) _ _ ?_
  rintro v M' ⟨hv, hf1, hf2, hml⟩ ih
  have m41 : M' 41 0 = G := by rw [hf1 41 (by decide) (by decide) (by decide) (by decide) (by decide), hM2, stm_ne _ _ _ _ _ (by decide)]; exact r41
  have m20 : M' 11 0 20 = gm := by rw [hf2 20 (by decide), hM2, stm_ap, if_neg (by decide)]; exact r20
  have m33 : CE M' := CE_cg (by rw [hf1 33 (by decide) (by decide) (by decide) (by decide) (by decide), hM2, stm_ne _ _ _ _ _ (by decide), hM1, gts_o _ _ _ (by decide) (by decide)]) hCE
  refine B_X11_most_214 C hR (k_X11_within l) (by decide) (k_X11_tells l) (by decide) _ _ _ ?_
  simp only [c_iadd, c_isub, c_imul, c_ladd, c_lsub, c_lmul, c_ineg, c_lneg, c_ic, c_lc, c_iload, c_lload, c_aload, c_istore, c_astore, c_lstore, c_iinc, c_dup, c_dup2, c_goto, c_i2l, c_l2i, c_idiv, c_ldiv, c_lrem, c_lshl, c_gi, c_gl, c_gr, c_pi, c_pz, c_pl, c_iald, c_lald, c_bald, c_aald, c_iast, c_last, c_bast, c_callV, c_callS, c_mmax, c_mmin, c_mabs, c_mmaxl, c_mabsl, c_iret, c_zret, c_lret, c_vret, c_tsw, c_lsw, c_icmp_eq, c_icmp_ne, c_icmp_lt, c_icmp_ge, c_icmp_gt, c_icmp_le, c_if_eq, c_if_ne, c_if_lt, c_if_ge, c_if_gt, c_if_le, c_lcmp_eq, c_lcmp_ne, c_lcmp_lt, c_lcmp_ge, c_lcmp_gt, c_lcmp_le, c_lraw_eq, c_lraw_lt, c_lraw_ge, c_lraw_gt, c_lraw_le, acat, scat, tswP, pops, st1, st2, klo, pad, elo, List.getElem?_cons_zero, List.getElem?_cons_succ, List.getElem?_nil, List.set_cons_zero, List.set_cons_succ, List.set_nil, Option.toList_some, Option.toList_none, List.cons_append, List.nil_append, List.length_cons, List.length_nil, stc_ap, stm_ap, false_and, and_false, and_self, true_and, and_true, Nat.reduceEqDiff, reduceIte, al_12, al_13, al_14, al_15, al_16, al_17, al_18, al_19, al_20, al_21, al_22, al_23, al_24, al_25, al_26, al_27, al_28, al_29, al_30, al_31, al_32, al_33, al_34, al_35, al_36, al_37, al_38, al_39, al_40, al_41, al_42, al_43, al_44, al_45, al_46, al_47, al_48, al_49, al_50, al_51, al_52, al_53, al_54, al_55, at_12, at_13, at_14, at_15, at_16, at_17, at_18, at_19, at_20, at_21, at_22, at_23, at_24, at_25, at_26, at_27, at_28, at_29, at_30, at_31, at_32, at_33, at_34, at_35, at_36, at_37, at_38, at_39, at_40, at_41, at_42, at_43, at_44, at_45, at_46, at_47, at_48, at_49, at_50, at_51, at_52, at_53, at_54, at_55, cn_0, cn_1, cn_2, cn_3, cn_4, cn_5, cn_6, cn_7, cn_8, cn_9, cn_10, cn_11, cn_12, cn_13, cn_14, cn_15, cn_16, cn_17, cn_18, cn_19, cn_20, cn_21, cn_22, cn_23, cn_24, cn_25, cn_26, cn_27, cn_28, cn_29, cn_30, cn_31, cn_32, cn_33, cn_34, cn_35, cn_36, cn_37, cn_38, cn_39, cn_40, cn_41, cn_42, cn_43, cn_44, cn_45, cn_46, cn_47, cn_48, cn_49, cn_50, cn_51, cn_52, cn_53, cn_54, cn_55, Nat.reduceAdd, Nat.reduceLT, Nat.reduceLeDiff, Nat.lt_add_one, Nat.zero_lt_succ, Nat.reduceSub, ite_true, ite_false, reduceCtorEq, forall_const, Nat.reduceSucc, Nat.zero_add, Nat.add_zero, Nat.le_refl, Nat.zero_le, Nat.reducePow, Int.reduceNeg, Nat.reduceMul, eq_self, Int.cast_ofNat_Int, Int.toNat_natCast, iR, lR, Int.reduceEq, Int.reduceLT, Int.reduceLE, Int.reduceNe, not_false_eq_true, not_true_eq_false, false_implies, true_implies, Int.reduceAdd, Int.reduceSub, Int.reduceMul, Int.reduceToNat, implies_true, or_true, true_or, or_false, false_or, T_X11_within, T_X11_tells]
  rw [← hT, hnn]
  have hlen := tlst_len (gpd f n na.toNat) 1 0 v.toNat
  have hsz := hml.1
  refine ⟨by omega, by omega, fun y2 => ?_, fun y2 => ⟨m33, by omega, by omega, by omega, A, f, hA, by rw [m41, m20]; exact hg, hso, fun W N => ?_⟩⟩
  · rw [show v.toNat = (T + 1).toNat by omega] at hml
    refine hP M' G gm ⟨fun g' a1 a2 a3 a4 a5 a6 => ?_, fun k a1 a2 a3 => ?_⟩ hg hml ?_
    · rw [hf1 g' a1 a2 a3 a5 a6, hM2, stm_ne _ _ _ _ _ a1, hM1, gts_o _ _ _ a1 a4]
    · rw [hf2 k a1, hM2, stm_ap, if_neg (by omega), hM1]
      unfold gts
      rw [stm_ap, if_neg (by omega), stc_ne _ _ _ _ (by decide)]
    · rw [hf2 9 (by decide), hM2]; rfl
  · have hb := gpd_lR f (n := n) (K := na.toNat) (by omega) v
    have eD : gpc f n na.toNat v n na.toNat - (if v = 0 then 0 else gpc f n na.toNat (v - 1) n na.toNat) = gpd f n na.toNat v := rfl
    rw [eD]
    have hst : tlst (gpd f n na.toNat) 1 0 (v + 1).toNat = if gpd f n na.toNat v = 0 then tlst (gpd f n na.toNat) 1 0 v.toNat else tlst (gpd f n na.toNat) 1 0 v.toNat ++ [(v, gpd f n na.toNat v)] := by
      rw [show (v + 1).toNat = v.toNat + 1 by omega]
      show (if _ then _ else _ ++ [(1 * ((v.toNat : Nat) : Int) + 0, _)]) = _
      rw [show ((v.toNat : Nat) : Int) = v by omega, show 1 * v + 0 = v by omega]
    have hmw : ML (wst M' W N) (tlst (gpd f n na.toNat) 1 0 v.toNat) := ⟨by rw [wst_r11]; exact hml.1, fun q s' c' hq => by rw [wst_o _ _ _ (by decide) (by decide), wst_o _ _ _ (by decide) (by decide)]; exact hml.2 q s' c' hq⟩
    have hgo : ∀ M3 : Mm, (∀ g' : Nat, ¬ g' = 11 → ¬ g' = 35 → ¬ g' = 36 → ¬ g' = 42 → ¬ g' = 43 → M3 g' = M2 g') → (∀ k : Nat, ¬ k = 7 → M3 11 0 k = M2 11 0 k) → ML M3 (tlst (gpd f n na.toNat) 1 0 (v + 1).toNat) → J x 214 [some (zr 11 0), some (zi na), some (zi nb), some (zi (vpr A n gm.toNat)), some (zl (gpc f n na.toNat v n na.toNat)), none, some (zi (v + 1)), some (zl (gpc f n na.toNat v n na.toNat)), none] [] M3 := by
      intro M3 k1 k2 k3
      have := ih (by omega) M3 ⟨by omega, k1, k2, k3⟩
      rw [if_neg (by omega), show v + 1 - 1 = v by omega] at this
      exact J_fgt [true, true, true, true, true, true, true, false, false] this
    refine ⟨by omega, by omega, by omega, fun z => hgo _ (fun g' a1 a2 a3 a5 a6 => ?_) (fun k a1 => ?_) ?_, fun z => hgo _ (fun g' a1 a2 a3 a5 a6 => ?_) (fun k a1 => ?_) ?_⟩
    · show wst M' W N g' = _
      rw [wst_o _ _ _ a5 a6]; exact hf1 g' a1 a2 a3 a5 a6
    · show wst M' W N 11 0 k = _
      rw [wst_r11]; exact hf2 k a1
    · rw [hst, if_pos z]; exact hmw
    · show tls (wst M' W N) _ _ g' = _
      rw [tls_o a1 a2 a3, wst_o _ _ _ a5 a6]; exact hf1 g' a1 a2 a3 a5 a6
    · show tls (wst M' W N) _ _ 11 0 k = _
      rw [tls_11 a1, wst_r11]; exact hf2 k a1
    · rw [hst, if_neg z]; exact ML_tls hmw _ _
