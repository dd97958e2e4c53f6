/-! the reference's held; both call the same ones different -/
theorem hlD_eq {c t : Nat → Int} {n p q : Int} (ht : ∀ j : Nat, (j : Int) < n → 0 < t j) {r r' : Int} {line line' : Nat → Nat} {df df' : Nat → Int} (h : hlD c t n p q r line df) (h' : hlD c t n p q r' line' df') : r = r' ∧ ∀ j : Nat, (j : Int) < n → df j = df' j := by
  obtain ⟨b1, b2, b3, b4⟩ := h
  obtain ⟨d1, d2, d3, d4⟩ := h'
  have pk : ∀ k : Nat, (k : Int) ≤ r → (k : Int) < n → pkd c t n line k := fun k h1 h2 => by
    by_cases e : (k : Int) < r
    · exact (b2 k e).1
    · have := (b3 (by omega)).1
      rw [show r.toNat = k by omega] at this
      exact this
  have pk' : ∀ k : Nat, (k : Int) ≤ r' → (k : Int) < n → pkd c t n line' k := fun k h1 h2 => by
    by_cases e : (k : Int) < r'
    · exact (d2 k e).1
    · have := (d3 (by omega)).1
      rw [show r'.toNat = k by omega] at this
      exact this
  have same : ∀ k : Nat, (k : Int) ≤ r → (k : Int) ≤ r' → (k : Int) < n → line k = line' k := by
    intro k
    induction k using Nat.strongRecOn with
    | ind k ih =>
      intro h1 h2 h3
      obtain ⟨u1, u2, u3⟩ := pk k h1 h3
      obtain ⟨v1, v2, v3⟩ := pk' k h2 h3
      apply Classical.byContradiction
      intro hne
      have w1 : prec c t (line k) (line' k) := u3 _ v1 fun s hs => by
        by_cases e : s = k
        · rw [e]; exact hne
        · rw [ih s (by omega) (by omega) (by omega) (by omega)]; exact v2 s (by omega)
      have w2 : prec c t (line' k) (line k) := v3 _ u1 fun s hs => by
        by_cases e : s = k
        · rw [e]; exact fun z => hne z.symm
        · rw [← ih s (by omega) (by omega) (by omega) (by omega)]; exact u2 s (by omega)
      exact prec_as w1 w2
  have hr : r = r' := by
    rcases Int.lt_trichotomy r r' with e | e | e
    · have h1 := (b3 (by omega)).2
      have h2 := (d2 r.toNat (by omega)).2
      rw [same r.toNat (by omega) (by omega) (by omega)] at h1
      exact absurd h2 h1
    · exact e
    · have h1 := (d3 (by omega)).2
      have h2 := (b2 r'.toNat (by omega)).2
      rw [← same r'.toNat (by omega) (by omega) (by omega)] at h1
      exact absurd h2 h1
  refine ⟨hr, fun j hj => ?_⟩
  have hex : (∃ k : Nat, (k : Int) < r ∧ line k = j) ↔ ∃ k : Nat, (k : Int) < r' ∧ line' k = j := by
    constructor
    · rintro ⟨k, hk, he⟩; exact ⟨k, by omega, by rw [← same k (by omega) (by omega) (by omega)]; exact he⟩
    · rintro ⟨k, hk, he⟩; exact ⟨k, by omega, by rw [same k (by omega) (by omega) (by omega)]; exact he⟩
  have e1 := (b4 j hj).2.trans (hex.trans (d4 j hj).2.symm)
  rcases (b4 j hj).1 with h | h
  · rcases (d4 j hj).1 with h' | h'
    · rw [h, h']
    · exact absurd (e1.mpr h') (by omega)
  · rw [h, e1.mp h]
/-- a row of places, sorted, that holds each of 0 .. k - 1 -/
def lnS (c t : Nat → Int) (k : Int) (L : Nat → Int) : Prop := (∀ s : Nat, (s : Int) < k → 0 ≤ L s ∧ L s < k) ∧ (∀ s u : Nat, s < u → (u : Int) < k → prec c t (L s).toNat (L u).toNat) ∧ ∀ j : Nat, (j : Int) < k → ∃ s : Nat, (s : Int) < k ∧ L s = j
theorem lnS_pkd {c t : Nat → Int} {n : Int} {L : Nat → Int} (h : lnS c t n L) {k : Nat} (hk : (k : Int) < n) : pkd c t n (fun s => (L s).toNat) k := by
  obtain ⟨h1, h2, h3⟩ := h
  refine ⟨by have := h1 k hk; show ((L k).toNat : Int) < n; omega, fun s hs e => ?_, fun j hj hne => ?_⟩
  · have e : (L s).toNat = (L k).toNat := e
    have := h2 s k hs hk
    rw [e] at this
    exact prec_as this this
  · obtain ⟨u, hu, he⟩ := h3 j hj
    have : k < u := by
      apply Classical.byContradiction
      intro z
      exact hne u (by omega) (by show (L u).toNat = j; omega)
    have := h2 k u this hu
    rw [he] at this
    exact this
def T_X11_held : Ct := fun as M P => match as with
  | [.inr (some (g, s)), .inl (.inl p), .inl (.inl q)] => g = 11 ∧ s = 0 ∧ iR p ∧ iR q ∧ LI (M 51 0) (M 52 0) (M 53 0) (M 11 0 33) ∧ ((0 < p ∧ p < q ∧ q ≤ 1000) → ∀ (r : Int) (line : Nat → Nat) (L df : Nat → Int), hlD (M 51 0) (M 52 0) (M 11 0 33) p q r line df → P (some (zi r)) (stc (stc (stm M 11 0 2 0) 54 0 L) 53 0 df)) ∧ (¬ (0 < p ∧ p < q ∧ q ≤ 1000) → P (some (zi (-1))) (stm M 11 0 2 0))
  | _ => False
theorem k_X11_held (l : Launch) : MetT l yX11_held cX11_held 5 (some .int) 1 T_X11_held := by
  refine MetT.of (by decide +kernel) (fun as M P h => by unfold T_X11_held at h; split at h <;> first | (simp [elo]; done) | exact h.elim) (fun x as M P h C hR => ?_)
  unfold T_X11_held at h
  split at h
  rotate_left
  · exact h.elim
  rename_i g s p q
  obtain ⟨rfl, rfl, hp, hq, ⟨hn, hL⟩, h1, h2⟩ := h
  refine B_X11_held_0 C hR _ _ _ ?_
  simp only [c_iadd, c_isub, c_imul, c_ladd, c_lsub, c_lmul, c_ineg, c_lneg, c_ic, c_lc, c_iload, c_lload, c_aload, c_istore, c_astore, c_lstore, c_iinc, c_dup, c_dup2, c_goto, c_i2l, c_l2i, c_idiv, c_ldiv, c_lrem, c_lshl, c_gi, c_gl, c_gr, c_pi, c_pz, c_pl, c_iald, c_lald, c_bald, c_aald, c_iast, c_last, c_bast, c_callV, c_callS, c_mmax, c_mmin, c_mabs, c_mmaxl, c_mabsl, c_iret, c_zret, c_lret, c_vret, c_tsw, c_lsw, c_icmp_eq, c_icmp_ne, c_icmp_lt, c_icmp_ge, c_icmp_gt, c_icmp_le, c_if_eq, c_if_ne, c_if_lt, c_if_ge, c_if_gt, c_if_le, c_lcmp_eq, c_lcmp_ne, c_lcmp_lt, c_lcmp_ge, c_lcmp_gt, c_lcmp_le, c_lraw_eq, c_lraw_lt, c_lraw_ge, c_lraw_gt, c_lraw_le, acat, scat, tswP, pops, st1, st2, klo, pad, elo, List.getElem?_cons_zero, List.getElem?_cons_succ, List.getElem?_nil, List.set_cons_zero, List.set_cons_succ, List.set_nil, Option.toList_some, Option.toList_none, List.cons_append, List.nil_append, List.length_cons, List.length_nil, stc_ap, stm_ap, false_and, and_false, and_self, true_and, and_true, Nat.reduceEqDiff, reduceIte, al_12, al_13, al_14, al_15, al_16, al_17, al_18, al_19, al_20, al_21, al_22, al_23, al_24, al_25, al_26, al_27, al_28, al_29, al_30, al_31, al_32, al_33, al_34, al_35, al_36, al_37, al_38, al_39, al_40, al_41, al_42, al_43, al_44, al_45, al_46, al_47, al_48, al_49, al_50, al_51, al_52, al_53, al_54, al_55, at_12, at_13, at_14, at_15, at_16, at_17, at_18, at_19, at_20, at_21, at_22, at_23, at_24, at_25, at_26, at_27, at_28, at_29, at_30, at_31, at_32, at_33, at_34, at_35, at_36, at_37, at_38, at_39, at_40, at_41, at_42, at_43, at_44, at_45, at_46, at_47, at_48, at_49, at_50, at_51, at_52, at_53, at_54, at_55, cn_0, cn_1, cn_2, cn_3, cn_4, cn_5, cn_6, cn_7, cn_8, cn_9, cn_10, cn_11, cn_12, cn_13, cn_14, cn_15, cn_16, cn_17, cn_18, cn_19, cn_20, cn_21, cn_22, cn_23, cn_24, cn_25, cn_26, cn_27, cn_28, cn_29, cn_30, cn_31, cn_32, cn_33, cn_34, cn_35, cn_36, cn_37, cn_38, cn_39, cn_40, cn_41, cn_42, cn_43, cn_44, cn_45, cn_46, cn_47, cn_48, cn_49, cn_50, cn_51, cn_52, cn_53, cn_54, cn_55, Nat.reduceAdd, Nat.reduceLT, Nat.reduceLeDiff, Nat.lt_add_one, Nat.zero_lt_succ, Nat.reduceSub, ite_true, ite_false, reduceCtorEq, forall_const, Nat.reduceSucc, Nat.zero_add, Nat.add_zero, Nat.le_refl, Nat.zero_le, Nat.reducePow, Int.reduceNeg, Nat.reduceMul, eq_self, Int.cast_ofNat_Int, Int.toNat_natCast, iR, lR, Int.reduceEq, Int.reduceLT, Int.reduceLE, Int.reduceNe, not_false_eq_true, not_true_eq_false, false_implies, true_implies, Int.reduceAdd, Int.reduceSub, Int.reduceMul, Int.reduceToNat, implies_true, or_true, true_or, or_false, false_or]
  refine ⟨hp, fun z => h2 (by omega), fun z => ⟨hq, hp, fun z2 => h2 (by omega), fun z2 => ⟨hq, fun z3 => ?_, fun z3 => h2 (by omega)⟩⟩⟩
  have hP := h1 (by omega)
  clear h1 h2
  generalize hM0 : stm M 11 0 2 0 = M0 at hP ⊢
  have c51 : M0 51 = M 51 := by rw [← hM0]; exact stm_ne _ _ _ _ _ (by decide)
  have c52 : M0 52 = M 52 := by rw [← hM0]; exact stm_ne _ _ _ _ _ (by decide)
  have c11 : M0 11 0 33 = M 11 0 33 := by rw [← hM0]; rfl
  generalize M 11 0 33 = n at *
  generalize hcs : M 51 0 = cs at *
  generalize hts : M 52 0 = ts at *
  have c51' : M0 51 0 = cs := by rw [c51, hcs]
  have c52' : M0 52 0 = ts := by rw [c52, hts]
  refine loopU n (fun k M' => (0 ≤ k ∧ k ≤ n) ∧ ∃ (L f : Nat → Int), M' = stc (stc M0 54 0 L) 53 0 f ∧ lnS cs ts k L ∧ ∀ j : Nat, (j : Int) < k → f j = 0) (fun k M' => J x 26 [some (zr 11 0), some (zi p), some (zi q), some (zi k), none] [] M') ?_ 0 M0 ⟨by omega, M0 54 0, M0 53 0, ?_, ⟨fun s hs => by omega, fun s u _ hu => by omega, fun j hj => by omega⟩, fun j hj => by omega⟩
  rotate_left
  · rw [stc_id, stc_id]
  rintro k M' ⟨hk, L, f, rfl, hln, hf⟩ ih
  refine B_X11_held_26 C _ _ _ ?_
  simp only [c_iadd, c_isub, c_imul, c_ladd, c_lsub, c_lmul, c_ineg, c_lneg, c_ic, c_lc, c_iload, c_lload, c_aload, c_istore, c_astore, c_lstore, c_iinc, c_dup, c_dup2, c_goto, c_i2l, c_l2i, c_idiv, c_ldiv, c_lrem, c_lshl, c_gi, c_gl, c_gr, c_pi, c_pz, c_pl, c_iald, c_lald, c_bald, c_aald, c_iast, c_last, c_bast, c_callV, c_callS, c_mmax, c_mmin, c_mabs, c_mmaxl, c_mabsl, c_iret, c_zret, c_lret, c_vret, c_tsw, c_lsw, c_icmp_eq, c_icmp_ne, c_icmp_lt, c_icmp_ge, c_icmp_gt, c_icmp_le, c_if_eq, c_if_ne, c_if_lt, c_if_ge, c_if_gt, c_if_le, c_lcmp_eq, c_lcmp_ne, c_lcmp_lt, c_lcmp_ge, c_lcmp_gt, c_lcmp_le, c_lraw_eq, c_lraw_lt, c_lraw_ge, c_lraw_gt, c_lraw_le, acat, scat, tswP, pops, st1, st2, klo, pad, elo, List.getElem?_cons_zero, List.getElem?_cons_succ, List.getElem?_nil, List.set_cons_zero, List.set_cons_succ, List.set_nil, Option.toList_some, Option.toList_none, List.cons_append, List.nil_append, List.length_cons, List.length_nil, stc_ap, stm_ap, false_and, and_false, and_self, true_and, and_true, Nat.reduceEqDiff, reduceIte, al_12, al_13, al_14, al_15, al_16, al_17, al_18, al_19, al_20, al_21, al_22, al_23, al_24, al_25, al_26, al_27, al_28, al_29, al_30, al_31, al_32, al_33, al_34, al_35, al_36, al_37, al_38, al_39, al_40, al_41, al_42, al_43, al_44, al_45, al_46, al_47, al_48, al_49, al_50, al_51, al_52, al_53, al_54, al_55, at_12, at_13, at_14, at_15, at_16, at_17, at_18, at_19, at_20, at_21, at_22, at_23, at_24, at_25, at_26, at_27, at_28, at_29, at_30, at_31, at_32, at_33, at_34, at_35, at_36, at_37, at_38, at_39, at_40, at_41, at_42, at_43, at_44, at_45, at_46, at_47, at_48, at_49, at_50, at_51, at_52, at_53, at_54, at_55, cn_0, cn_1, cn_2, cn_3, cn_4, cn_5, cn_6, cn_7, cn_8, cn_9, cn_10, cn_11, cn_12, cn_13, cn_14, cn_15, cn_16, cn_17, cn_18, cn_19, cn_20, cn_21, cn_22, cn_23, cn_24, cn_25, cn_26, cn_27, cn_28, cn_29, cn_30, cn_31, cn_32, cn_33, cn_34, cn_35, cn_36, cn_37, cn_38, cn_39, cn_40, cn_41, cn_42, cn_43, cn_44, cn_45, cn_46, cn_47, cn_48, cn_49, cn_50, cn_51, cn_52, cn_53, cn_54, cn_55, Nat.reduceAdd, Nat.reduceLT, Nat.reduceLeDiff, Nat.lt_add_one, Nat.zero_lt_succ, Nat.reduceSub, ite_true, ite_false, reduceCtorEq, forall_const, Nat.reduceSucc, Nat.zero_add, Nat.add_zero, Nat.le_refl, Nat.zero_le, Nat.reducePow, Int.reduceNeg, Nat.reduceMul, eq_self, Int.cast_ofNat_Int, Int.toNat_natCast, iR, lR, Int.reduceEq, Int.reduceLT, Int.reduceLE, Int.reduceNe, not_false_eq_true, not_true_eq_false, false_implies, true_implies, Int.reduceAdd, Int.reduceSub, Int.reduceMul, Int.reduceToNat, implies_true, or_true, true_or, or_false, false_or, c11]
  refine ⟨by omega, by omega, fun z4 => ?_, fun z4 => ?_⟩
  · -- all are in line
    have e : k = n := by omega
    subst e
    clear ih
    refine loopU k (fun u M' => (0 ≤ u ∧ u ≤ k) ∧ ∃ df : Nat → Int, M' = stc (stc M0 54 0 L) 53 0 df ∧ (∀ s : Nat, (s : Int) < u → pss cs ts k p q (L s).toNat s) ∧ ∀ j : Nat, (j : Int) < k → (df j = 0 ∨ df j = 1) ∧ (df j = 1 ↔ ∃ s : Nat, (s : Int) < u ∧ (L s).toNat = j)) (fun u M' => J x 133 [some (zr 11 0), some (zi p), some (zi q), some (zi u), none] [] M') ?_ 0 _ ⟨by omega, f, rfl, fun s hs => by omega, fun j hj => ⟨Or.inl (hf j hj), fun e => by rw [hf j hj] at e; omega, fun ⟨s, hs, _⟩ => by omega⟩⟩
    rintro u M' ⟨hu, df, rfl, hps, hdf⟩ ih
    refine B_X11_held_133 C hR (k_X11_over l) (by decide) _ _ _ ?_
    simp only [c_iadd, c_isub, c_imul, c_ladd, c_lsub, c_lmul, c_ineg, c_lneg, c_ic, c_lc, c_iload, c_lload, c_aload, c_istore, c_astore, c_lstore, c_iinc, c_dup, c_dup2, c_goto, c_i2l, c_l2i, c_idiv, c_ldiv, c_lrem, c_lshl, c_gi, c_gl, c_gr, c_pi, c_pz, c_pl, c_iald, c_lald, c_bald, c_aald, c_iast, c_last, c_bast, c_callV, c_callS, c_mmax, c_mmin, c_mabs, c_mmaxl, c_mabsl, c_iret, c_zret, c_lret, c_vret, c_tsw, c_lsw, c_icmp_eq, c_icmp_ne, c_icmp_lt, c_icmp_ge, c_icmp_gt, c_icmp_le, c_if_eq, c_if_ne, c_if_lt, c_if_ge, c_if_gt, c_if_le, c_lcmp_eq, c_lcmp_ne, c_lcmp_lt, c_lcmp_ge, c_lcmp_gt, c_lcmp_le, c_lraw_eq, c_lraw_lt, c_lraw_ge, c_lraw_gt, c_lraw_le, acat, scat, tswP, pops, st1, st2, klo, pad, elo, List.getElem?_cons_zero, List.getElem?_cons_succ, List.getElem?_nil, List.set_cons_zero, List.set_cons_succ, List.set_nil, Option.toList_some, Option.toList_none, List.cons_append, List.nil_append, List.length_cons, List.length_nil, stc_ap, stm_ap, false_and, and_false, and_self, true_and, and_true, Nat.reduceEqDiff, reduceIte, al_12, al_13, al_14, al_15, al_16, al_17, al_18, al_19, al_20, al_21, al_22, al_23, al_24, al_25, al_26, al_27, al_28, al_29, al_30, al_31, al_32, al_33, al_34, al_35, al_36, al_37, al_38, al_39, al_40, al_41, al_42, al_43, al_44, al_45, al_46, al_47, al_48, al_49, al_50, al_51, al_52, al_53, al_54, al_55, at_12, at_13, at_14, at_15, at_16, at_17, at_18, at_19, at_20, at_21, at_22, at_23, at_24, at_25, at_26, at_27, at_28, at_29, at_30, at_31, at_32, at_33, at_34, at_35, at_36, at_37, at_38, at_39, at_40, at_41, at_42, at_43, at_44, at_45, at_46, at_47, at_48, at_49, at_50, at_51, at_52, at_53, at_54, at_55, cn_0, cn_1, cn_2, cn_3, cn_4, cn_5, cn_6, cn_7, cn_8, cn_9, cn_10, cn_11, cn_12, cn_13, cn_14, cn_15, cn_16, cn_17, cn_18, cn_19, cn_20, cn_21, cn_22, cn_23, cn_24, cn_25, cn_26, cn_27, cn_28, cn_29, cn_30, cn_31, cn_32, cn_33, cn_34, cn_35, cn_36, cn_37, cn_38, cn_39, cn_40, cn_41, cn_42, cn_43, cn_44, cn_45, cn_46, cn_47, cn_48, cn_49, cn_50, cn_51, cn_52, cn_53, cn_54, cn_55, Nat.reduceAdd, Nat.reduceLT, Nat.reduceLeDiff, Nat.lt_add_one, Nat.zero_lt_succ, Nat.reduceSub, ite_true, ite_false, reduceCtorEq, forall_const, Nat.reduceSucc, Nat.zero_add, Nat.add_zero, Nat.le_refl, Nat.zero_le, Nat.reducePow, Int.reduceNeg, Nat.reduceMul, eq_self, Int.cast_ofNat_Int, Int.toNat_natCast, iR, lR, Int.reduceEq, Int.reduceLT, Int.reduceLE, Int.reduceNe, not_false_eq_true, not_true_eq_false, false_implies, true_implies, Int.reduceAdd, Int.reduceSub, Int.reduceMul, Int.reduceToNat, implies_true, or_true, true_or, or_false, false_or, T_X11_over, c11, c51', c52']
    refine ⟨by omega, by omega, fun z5 => ?_, fun z5 => ?_⟩
    · have e : u = k := by omega
      subst e
      exact hP u (fun s => (L s).toNat) L df ⟨by omega, fun s hs => ⟨lnS_pkd hln hs, hps s hs⟩, fun h => by omega, hdf⟩
    · have hLu := hln.1 u.toNat (by omega)
      have hi := hL (L u.toNat).toNat (by omega)
      have hqn : 0 < q * (k - u) ∧ q * (k - u) ≤ 1000 * 20 := by
        refine ⟨Int.mul_pos (by omega) (by omega), ?_⟩
        have a1 : q * (k - u) ≤ 1000 * (k - u) := Int.mul_le_mul_of_nonneg_right (by omega) (by omega)
        omega
      have hcz := cmpS_in (cs (L u.toNat).toNat) (ts (L u.toNat).toNat) p (q * (k - u))
      have hpi : cmpS (cs (L u.toNat).toNat) (ts (L u.toNat).toNat) p (q * (k - u)) ≤ 0 ↔ pss cs ts k p q (L u.toNat).toNat u.toNat := by
        unfold cmpS pss
        rw [show ((u.toNat : Nat) : Int) = u by omega]
        split
        · omega
        · split <;> omega
      refine ⟨by omega, by omega, by omega, by omega, by omega, by omega, by omega, ⟨hi.1, hi.2.1, by omega, by omega⟩, by omega, fun z6 => ?_, fun z6 => ⟨by omega, by omega, ?_⟩⟩
      · refine hP u (fun s => (L s).toNat) L df ⟨by omega, fun s hs => ⟨lnS_pkd hln (by omega), hps s hs⟩, fun h => ⟨lnS_pkd hln (by omega), fun z => ?_⟩, hdf⟩
        have := hpi.mpr z
        omega
      · refine ih (by omega) _ ⟨by omega, _, stm_on _ 53 0 _ df _, fun s hs => ?_, fun j hj => ?_⟩
        · by_cases e : s = u.toNat
          · rw [e]; exact hpi.mp (by omega)
          · exact hps s (by omega)
        · show ((if j = (L u.toNat).toNat then 1 else df j) = 0 ∨ (if j = (L u.toNat).toNat then 1 else df j) = 1) ∧ ((if j = (L u.toNat).toNat then 1 else df j) = 1 ↔ _)
          by_cases e : j = (L u.toNat).toNat
          · rw [if_pos e]
            exact ⟨Or.inr rfl, fun _ => ⟨u.toNat, by omega, e.symm⟩, fun _ => rfl⟩
          · rw [if_neg e]
            refine ⟨(hdf j hj).1, fun h => ?_, fun ⟨s, hs, he⟩ => ?_⟩
            · obtain ⟨s, hs, he⟩ := (hdf j hj).2.mp h
              exact ⟨s, by omega, he⟩
            · by_cases e2 : s = u.toNat
              · rw [e2] at he; exact absurd he.symm e
              · exact (hdf j hj).2.mpr ⟨s, by omega, he⟩
  · -- the k-th goes to its place
    have hik := hL k.toNat (by omega)
    refine loopD 0 (fun at0 M' => (0 ≤ at0 ∧ at0 ≤ k) ∧ ∃ H : Nat → Int, M' = stc (stc M0 54 0 H) 53 0 f ∧ (∀ s : Nat, (s : Int) < at0 → H s = L s) ∧ (∀ s : Nat, at0 ≤ (s : Int) → (s : Int) < k → H (s + 1) = L s ∧ prec cs ts k.toNat (L s).toNat)) (fun at0 M' => J x 37 [some (zr 11 0), some (zi p), some (zi q), some (zi k), some (zi at0)] [] M') ?_ k _ ⟨by omega, L, rfl, fun s hs => rfl, fun s h1 h2 => by omega⟩
    rintro a0 M' ⟨ha, H, rfl, hH1, hH2⟩ ih2
    have hfin : (a0 ≤ 0 ∨ ¬ shl cs ts k.toNat (L (a0 - 1).toNat).toNat) → J x 110 [some (zr 11 0), some (zi p), some (zi q), some (zi k), some (zi a0)] [] (stc (stc M0 54 0 H) 53 0 f) := by
      intro hc
      refine B_X11_held_110 C _ _ _ ?_
      simp only [c_iadd, c_isub, c_imul, c_ladd, c_lsub, c_lmul, c_ineg, c_lneg, c_ic, c_lc, c_iload, c_lload, c_aload, c_istore, c_astore, c_lstore, c_iinc, c_dup, c_dup2, c_goto, c_i2l, c_l2i, c_idiv, c_ldiv, c_lrem, c_lshl, c_gi, c_gl, c_gr, c_pi, c_pz, c_pl, c_iald, c_lald, c_bald, c_aald, c_iast, c_last, c_bast, c_callV, c_callS, c_mmax, c_mmin, c_mabs, c_mmaxl, c_mabsl, c_iret, c_zret, c_lret, c_vret, c_tsw, c_lsw, c_icmp_eq, c_icmp_ne, c_icmp_lt, c_icmp_ge, c_icmp_gt, c_icmp_le, c_if_eq, c_if_ne, c_if_lt, c_if_ge, c_if_gt, c_if_le, c_lcmp_eq, c_lcmp_ne, c_lcmp_lt, c_lcmp_ge, c_lcmp_gt, c_lcmp_le, c_lraw_eq, c_lraw_lt, c_lraw_ge, c_lraw_gt, c_lraw_le, acat, scat, tswP, pops, st1, st2, klo, pad, elo, List.getElem?_cons_zero, List.getElem?_cons_succ, List.getElem?_nil, List.set_cons_zero, List.set_cons_succ, List.set_nil, Option.toList_some, Option.toList_none, List.cons_append, List.nil_append, List.length_cons, List.length_nil, stc_ap, stm_ap, false_and, and_false, and_self, true_and, and_true, Nat.reduceEqDiff, reduceIte, al_12, al_13, al_14, al_15, al_16, al_17, al_18, al_19, al_20, al_21, al_22, al_23, al_24, al_25, al_26, al_27, al_28, al_29, al_30, al_31, al_32, al_33, al_34, al_35, al_36, al_37, al_38, al_39, al_40, al_41, al_42, al_43, al_44, al_45, al_46, al_47, al_48, al_49, al_50, al_51, al_52, al_53, al_54, al_55, at_12, at_13, at_14, at_15, at_16, at_17, at_18, at_19, at_20, at_21, at_22, at_23, at_24, at_25, at_26, at_27, at_28, at_29, at_30, at_31, at_32, at_33, at_34, at_35, at_36, at_37, at_38, at_39, at_40, at_41, at_42, at_43, at_44, at_45, at_46, at_47, at_48, at_49, at_50, at_51, at_52, at_53, at_54, at_55, cn_0, cn_1, cn_2, cn_3, cn_4, cn_5, cn_6, cn_7, cn_8, cn_9, cn_10, cn_11, cn_12, cn_13, cn_14, cn_15, cn_16, cn_17, cn_18, cn_19, cn_20, cn_21, cn_22, cn_23, cn_24, cn_25, cn_26, cn_27, cn_28, cn_29, cn_30, cn_31, cn_32, cn_33, cn_34, cn_35, cn_36, cn_37, cn_38, cn_39, cn_40, cn_41, cn_42, cn_43, cn_44, cn_45, cn_46, cn_47, cn_48, cn_49, cn_50, cn_51, cn_52, cn_53, cn_54, cn_55, Nat.reduceAdd, Nat.reduceLT, Nat.reduceLeDiff, Nat.lt_add_one, Nat.zero_lt_succ, Nat.reduceSub, ite_true, ite_false, reduceCtorEq, forall_const, Nat.reduceSucc, Nat.zero_add, Nat.add_zero, Nat.le_refl, Nat.zero_le, Nat.reducePow, Int.reduceNeg, Nat.reduceMul, eq_self, Int.cast_ofNat_Int, Int.toNat_natCast, iR, lR, Int.reduceEq, Int.reduceLT, Int.reduceLE, Int.reduceNe, not_false_eq_true, not_true_eq_false, false_implies, true_implies, Int.reduceAdd, Int.reduceSub, Int.reduceMul, Int.reduceToNat, implies_true, or_true, true_or, or_false, false_or]
      obtain ⟨HH, hHH⟩ : ∃ HH : Nat → Int, HH = fun j => if j = a0.toNat then k else H j := ⟨_, rfl⟩
      refine ⟨by omega, by omega, J_fgt [true, true, true, true, false] (ih (by omega) _ ⟨by omega, HH, (fun j => if j = k.toNat then 0 else f j), ?_, ?_, fun j hj => ?_⟩)⟩
      · rw [hHH]
        funext g' s' k'
        simp only [stm_ap, stc_ap]
        by_cases g1 : g' = 53
        · subst g1
          by_cases s1 : s' = 0
          · subst s1
            by_cases k1 : k' = k.toNat <;> simp [k1]
          · simp [s1]
        · by_cases g2 : g' = 54
          · subst g2
            by_cases s1 : s' = 0
            · subst s1
              by_cases k1 : k' = a0.toNat <;> simp [k1]
            · simp [s1]
          · simp [g1, g2]
      · -- the new line
        have hprev : ∀ s : Nat, (s : Int) < a0 → prec cs ts (L s).toNat k.toNat := by
          intro s hs
          rcases hc with hc | hc
          · omega
          · have b1 := hln.1 (a0 - 1).toNat (by omega)
            have w : prec cs ts (L (a0 - 1).toNat).toNat k.toNat := Or.inr ⟨hc, by omega⟩
            by_cases e : s = (a0 - 1).toNat
            · rw [e]; exact w
            · have b2 := hln.1 s (by omega)
              exact prec_tr (hL _ (by omega)).2.1.1 (hL _ (by omega)).2.1.1 hik.2.1.1 (hln.2.1 s (a0 - 1).toNat (by omega) (by omega)) w
        have hval : ∀ s : Nat, (s : Int) < k + 1 → (HH s = if (s : Int) < a0 then L s else if s = a0.toNat then k else L (s - 1)) := by
          intro s hs
          rw [hHH]
          show (if s = a0.toNat then k else H s) = _
          by_cases e : s = a0.toNat
          · rw [if_pos e, if_neg (by omega), if_pos e]
          · rw [if_neg e, if_neg e]
            by_cases e2 : (s : Int) < a0
            · rw [if_pos e2]; exact hH1 s e2
            · rw [if_neg e2]
              have := (hH2 (s - 1) (by omega) (by omega)).1
              rw [show s - 1 + 1 = s by omega] at this
              exact this
        refine ⟨fun s hs => ?_, fun s u hsu hu => ?_, fun j hj => ?_⟩
        · rw [hval s hs]
          split
          · have := hln.1 s (by omega); omega
          · split
            · omega
            · have := hln.1 (s - 1) (by omega); omega
        · rw [hval s (by omega), hval u hu]
          by_cases e1 : (s : Int) < a0
          · rw [if_pos e1]
            by_cases e2 : (u : Int) < a0
            · rw [if_pos e2]; exact hln.2.1 s u hsu (by omega)
            · rw [if_neg e2]
              by_cases e3 : u = a0.toNat
              · rw [if_pos e3]; exact hprev s e1
              · rw [if_neg e3]
                exact hln.2.1 s (u - 1) (by omega) (by omega)
          · rw [if_neg e1, if_neg (show ¬ (u : Int) < a0 by omega), if_neg (show ¬ u = a0.toNat by omega)]
            by_cases e3 : s = a0.toNat
            · rw [if_pos e3]; exact (hH2 (u - 1) (by omega) (by omega)).2
            · rw [if_neg e3]
              exact hln.2.1 (s - 1) (u - 1) (by omega) (by omega)
        · by_cases e : (j : Int) = k
          · exact ⟨a0.toNat, by omega, by rw [hval _ (by omega), if_neg (by omega), if_pos rfl, e]⟩
          · obtain ⟨s, hs, he⟩ := hln.2.2 j (by omega)
            by_cases e2 : (s : Int) < a0
            · exact ⟨s, by omega, by rw [hval s (by omega), if_pos e2, he]⟩
            · exact ⟨s + 1, by omega, by rw [hval (s + 1) (by omega), if_neg (by omega), if_neg (by omega), show s + 1 - 1 = s by omega, he]⟩
      · show (if j = k.toNat then 0 else f j) = 0
        split
        · rfl
        · exact hf j (by omega)
    refine B_X11_held_37 C (k_X11_over l) (by decide) _ _ _ ?_
    simp only [c_iadd, c_isub, c_imul, c_ladd, c_lsub, c_lmul, c_ineg, c_lneg, c_ic, c_lc, c_iload, c_lload, c_aload, c_istore, c_astore, c_lstore, c_iinc, c_dup, c_dup2, c_goto, c_i2l, c_l2i, c_idiv, c_ldiv, c_lrem, c_lshl, c_gi, c_gl, c_gr, c_pi, c_pz, c_pl, c_iald, c_lald, c_bald, c_aald, c_iast, c_last, c_bast, c_callV, c_callS, c_mmax, c_mmin, c_mabs, c_mmaxl, c_mabsl, c_iret, c_zret, c_lret, c_vret, c_tsw, c_lsw, c_icmp_eq, c_icmp_ne, c_icmp_lt, c_icmp_ge, c_icmp_gt, c_icmp_le, c_if_eq, c_if_ne, c_if_lt, c_if_ge, c_if_gt, c_if_le, c_lcmp_eq, c_lcmp_ne, c_lcmp_lt, c_lcmp_ge, c_lcmp_gt, c_lcmp_le, c_lraw_eq, c_lraw_lt, c_lraw_ge, c_lraw_gt, c_lraw_le, acat, scat, tswP, pops, st1, st2, klo, pad, elo, List.getElem?_cons_zero, List.getElem?_cons_succ, List.getElem?_nil, List.set_cons_zero, List.set_cons_succ, List.set_nil, Option.toList_some, Option.toList_none, List.cons_append, List.nil_append, List.length_cons, List.length_nil, stc_ap, stm_ap, false_and, and_false, and_self, true_and, and_true, Nat.reduceEqDiff, reduceIte, al_12, al_13, al_14, al_15, al_16, al_17, al_18, al_19, al_20, al_21, al_22, al_23, al_24, al_25, al_26, al_27, al_28, al_29, al_30, al_31, al_32, al_33, al_34, al_35, al_36, al_37, al_38, al_39, al_40, al_41, al_42, al_43, al_44, al_45, al_46, al_47, al_48, al_49, al_50, al_51, al_52, al_53, al_54, al_55, at_12, at_13, at_14, at_15, at_16, at_17, at_18, at_19, at_20, at_21, at_22, at_23, at_24, at_25, at_26, at_27, at_28, at_29, at_30, at_31, at_32, at_33, at_34, at_35, at_36, at_37, at_38, at_39, at_40, at_41, at_42, at_43, at_44, at_45, at_46, at_47, at_48, at_49, at_50, at_51, at_52, at_53, at_54, at_55, cn_0, cn_1, cn_2, cn_3, cn_4, cn_5, cn_6, cn_7, cn_8, cn_9, cn_10, cn_11, cn_12, cn_13, cn_14, cn_15, cn_16, cn_17, cn_18, cn_19, cn_20, cn_21, cn_22, cn_23, cn_24, cn_25, cn_26, cn_27, cn_28, cn_29, cn_30, cn_31, cn_32, cn_33, cn_34, cn_35, cn_36, cn_37, cn_38, cn_39, cn_40, cn_41, cn_42, cn_43, cn_44, cn_45, cn_46, cn_47, cn_48, cn_49, cn_50, cn_51, cn_52, cn_53, cn_54, cn_55, Nat.reduceAdd, Nat.reduceLT, Nat.reduceLeDiff, Nat.lt_add_one, Nat.zero_lt_succ, Nat.reduceSub, ite_true, ite_false, reduceCtorEq, forall_const, Nat.reduceSucc, Nat.zero_add, Nat.add_zero, Nat.le_refl, Nat.zero_le, Nat.reducePow, Int.reduceNeg, Nat.reduceMul, eq_self, Int.cast_ofNat_Int, Int.toNat_natCast, iR, lR, Int.reduceEq, Int.reduceLT, Int.reduceLE, Int.reduceNe, not_false_eq_true, not_true_eq_false, false_implies, true_implies, Int.reduceAdd, Int.reduceSub, Int.reduceMul, Int.reduceToNat, implies_true, or_true, true_or, or_false, false_or, T_X11_over, c51', c52']
    refine ⟨by omega, fun z5 => hfin (Or.inl z5), fun z5 => ?_⟩
    have hb := hln.1 (a0 - 1).toNat (by omega)
    have hi := hL (L (a0 - 1).toNat).toNat (by omega)
    have hcz := cmpS_in (cs k.toNat) (ts k.toNat) (cs (L (a0 - 1).toNat).toNat) (ts (L (a0 - 1).toNat).toNat)
    rw [hH1 (a0 - 1).toNat (by omega)]
    refine ⟨by omega, by omega, by omega, by omega, by omega, by omega, ⟨hik.1, hik.2.1, hi.1, hi.2.1⟩, by omega, fun z6 => hfin (Or.inr (cmpS_ge.mp z6)), fun z6 => ⟨by omega, by omega, ?_⟩⟩
    have z6 : shl cs ts k.toNat (L (a0 - 1).toNat).toNat := Classical.byContradiction fun w => z6 (cmpS_ge.mpr w)
    have e1 := ih2 (by omega) (stc (stc M0 54 0 (fun j => if j = a0.toNat then L (a0 - 1).toNat else H j)) 53 0 f) ⟨by omega, _, rfl, fun s hs => ?_, fun s h1 h2 => ?_⟩
    · have e2 : stm (stc (stc M0 54 0 H) 53 0 f) 54 0 a0.toNat (L (a0 - 1).toNat) = stc (stc M0 54 0 (fun j => if j = a0.toNat then L (a0 - 1).toNat else H j)) 53 0 f := by
        funext g' s' k'
        simp only [stm_ap, stc_ap]
        by_cases g1 : g' = 53
        · subst g1; simp
        · by_cases g2 : g' = 54
          · subst g2
            by_cases s1 : s' = 0
            · subst s1
              by_cases k1 : k' = a0.toNat <;> simp [k1]
            · simp [s1]
          · simp [g1, g2]
      rw [e2]
      exact e1
    · show (if s = a0.toNat then _ else H s) = L s
      rw [if_neg (by omega)]
      exact hH1 s (by omega)
    · show (if s + 1 = a0.toNat then L (a0 - 1).toNat else H (s + 1)) = L s ∧ _
      by_cases e : s + 1 = a0.toNat
      · rw [if_pos e, show (a0 - 1).toNat = s by omega] at *
        exact ⟨rfl, Or.inl z6⟩
      · rw [if_neg e]
        exact hH2 s (by omega) h2
