/-! CloudBenchModel: pairs, span -/
def T_X11_pairs : Ct := fun as M P => match as with
  | [.inr (some (g, s)), .inl (.inl a), .inl (.inl b), .inl (.inl u)] => g = 11 ∧ s = 0 ∧ iR a ∧ iR b ∧ iR u ∧ SI M ∧ SE M ∧ ((two M a b ∧ 0 ≤ u ∧ u ≤ M 8 a.toNat 1 * M 8 b.toNat 1) → ∀ c : Nat → Int, P (some (zl (wpn (M 8 a.toNat 1).toNat (M 8 b.toNat 1).toNat u))) (stc (stm M 11 0 2 0) 34 0 c)) ∧ ((two M a b ∧ ¬ (0 ≤ u ∧ u ≤ M 8 a.toNat 1 * M 8 b.toNat 1)) → P (some (zl 0)) (stm M 11 0 2 0)) ∧ (¬ two M a b → P (some (zl (-1))) (stm M 11 0 2 0))
  | _ => False
theorem k_X11_pairs (l : Launch) : MetT l yX11_pairs cX11_pairs 5 (some .long) 2 T_X11_pairs := by
  refine MetT.of (by decide +kernel) (fun as M P h => by unfold T_X11_pairs at h; split at h <;> first | (simp [elo]; done) | exact h.elim) (fun x as M P h C hR => ?_)
  unfold T_X11_pairs at h
  split at h
  rotate_left
  · exact h.elim
  rename_i g s a b u
  obtain ⟨rfl, rfl, ha, hb, hu, hI, hE, h1, h2, h3⟩ := h
  refine B_X11_pairs_0 C hR (k_X11_isPair l) (by decide) (k_X11_pairsOf l) (by decide) _ _ _ ?_
  simp only [c_iadd, c_isub, c_imul, c_ladd, c_lsub, c_lmul, c_ineg, c_lneg, c_ic, c_lc, c_iload, c_lload, c_aload, c_istore, c_astore, c_lstore, c_iinc, c_dup, c_dup2, c_goto, c_i2l, c_l2i, c_idiv, c_ldiv, c_lrem, c_lshl, c_gi, c_gl, c_gr, c_pi, c_pz, c_pl, c_iald, c_lald, c_bald, c_aald, c_iast, c_last, c_bast, c_callV, c_callS, c_mmax, c_mmin, c_mabs, c_mmaxl, c_mabsl, c_iret, c_zret, c_lret, c_vret, c_tsw, c_lsw, c_icmp_eq, c_icmp_ne, c_icmp_lt, c_icmp_ge, c_icmp_gt, c_icmp_le, c_if_eq, c_if_ne, c_if_lt, c_if_ge, c_if_gt, c_if_le, c_lcmp_eq, c_lcmp_ne, c_lcmp_lt, c_lcmp_ge, c_lcmp_gt, c_lcmp_le, c_lraw_eq, c_lraw_lt, c_lraw_ge, c_lraw_gt, c_lraw_le, acat, scat, tswP, pops, st1, st2, klo, pad, elo, List.getElem?_cons_zero, List.getElem?_cons_succ, List.getElem?_nil, List.set_cons_zero, List.set_cons_succ, List.set_nil, Option.toList_some, Option.toList_none, List.cons_append, List.nil_append, List.length_cons, List.length_nil, stc_ap, stm_ap, false_and, and_false, and_self, true_and, and_true, Nat.reduceEqDiff, reduceIte, al_12, al_13, al_14, al_15, al_16, al_17, al_18, al_19, al_20, al_21, al_22, al_23, al_24, al_25, al_26, al_27, al_28, al_29, al_30, al_31, al_32, al_33, al_34, al_35, al_36, al_37, al_38, al_39, al_40, al_41, al_42, al_43, al_44, al_45, al_46, al_47, al_48, al_49, al_50, al_51, al_52, al_53, al_54, al_55, at_12, at_13, at_14, at_15, at_16, at_17, at_18, at_19, at_20, at_21, at_22, at_23, at_24, at_25, at_26, at_27, at_28, at_29, at_30, at_31, at_32, at_33, at_34, at_35, at_36, at_37, at_38, at_39, at_40, at_41, at_42, at_43, at_44, at_45, at_46, at_47, at_48, at_49, at_50, at_51, at_52, at_53, at_54, at_55, cn_0, cn_1, cn_2, cn_3, cn_4, cn_5, cn_6, cn_7, cn_8, cn_9, cn_10, cn_11, cn_12, cn_13, cn_14, cn_15, cn_16, cn_17, cn_18, cn_19, cn_20, cn_21, cn_22, cn_23, cn_24, cn_25, cn_26, cn_27, cn_28, cn_29, cn_30, cn_31, cn_32, cn_33, cn_34, cn_35, cn_36, cn_37, cn_38, cn_39, cn_40, cn_41, cn_42, cn_43, cn_44, cn_45, cn_46, cn_47, cn_48, cn_49, cn_50, cn_51, cn_52, cn_53, cn_54, cn_55, Nat.reduceAdd, Nat.reduceLT, Nat.reduceLeDiff, Nat.lt_add_one, Nat.zero_lt_succ, Nat.reduceSub, ite_true, ite_false, reduceCtorEq, forall_const, Nat.reduceSucc, Nat.zero_add, Nat.add_zero, Nat.le_refl, Nat.zero_le, Nat.reducePow, Int.reduceNeg, Nat.reduceMul, eq_self, Int.cast_ofNat_Int, Int.toNat_natCast, iR, lR, Int.reduceEq, Int.reduceLT, Int.reduceLE, Int.reduceNe, not_false_eq_true, not_true_eq_false, false_implies, true_implies, Int.reduceAdd, Int.reduceSub, Int.reduceMul, Int.reduceToNat, implies_true, or_true, true_or, or_false, false_or, T_X11_isPair, T_X11_pairsOf]
  generalize hM0 : stm M 11 0 2 0 = M0 at *
  have c8 : M0 8 = M 8 := by rw [← hM0]; exact stm_ne _ _ _ _ _ (by decide)
  have c27 : M0 27 = M 27 := by rw [← hM0]; exact stm_ne _ _ _ _ _ (by decide)
  have c31 : M0 31 = M 31 := by rw [← hM0]; exact stm_ne _ _ _ _ _ (by decide)
  have c32 : M0 32 = M 32 := by rw [← hM0]; exact stm_ne _ _ _ _ _ (by decide)
  refine ⟨ha, hb, SI_cg c8 c27 hI, SE_cg c8 c27 c31 c32 hE, fun q => ?_, fun q => h3 fun z => q (by rw [two_cg c8]; exact z)⟩
  rw [two_cg c8] at q
  obtain ⟨wa, wb, wc, wd, we⟩ := id q
  have ia := (hI a.toNat (by omega)).1
  have ib := (hI b.toNat (by omega)).1
  rw [hE.sz wa, hE.sz wb]
  have m1 : 0 ≤ M 8 a.toNat 1 * M 8 b.toNat 1 ∧ M 8 a.toNat 1 * M 8 b.toNat 1 ≤ M 8 a.toNat 1 * 20 := ⟨Int.mul_nonneg (by omega) (by omega), Int.mul_le_mul_of_nonneg_left (by omega) (by omega)⟩
  refine ⟨wa, wb, hu, fun z => h2 ⟨q, by omega⟩, fun z => ⟨hu, by omega, fun z2 => ⟨wa, wb, by omega, by omega, fun c hc => ⟨wa, by omega, ?_⟩⟩, fun z2 => h2 ⟨q, by omega⟩⟩⟩
  rw [show (20001 * M 8 a.toNat 1 + u).toNat = 20001 * (M 8 a.toNat 1).toNat + u.toNat by omega, hc u.toNat (by omega), show ((u.toNat : Nat) : Int) = u by omega]
  exact h1 ⟨q, by omega, by omega⟩ c
/-- a value put into its place of a sorted row -/
def insF (h : Nat → Int) (k : Nat) (d : Int) : Nat → Int := fun s => if s < k then h s else if s = k then d else h (s - 1)
theorem cle_ins (h : Nat → Int) (k : Nat) (d v : Int) : ∀ e : Nat, cle (insF h k d) v (k + e + 1) = cle h v (k + e) + if d ≤ v then 1 else 0 := by
  intro e
  induction e with
  | zero =>
    show cle (insF h k d) v k + (if insF h k d k ≤ v then 1 else 0) = _
    rw [cle_cg (g := h) (fun j hj => by unfold insF; rw [if_pos hj]), show insF h k d k = d by unfold insF; rw [if_neg (by omega), if_pos rfl]]
    rfl
  | succ e ih =>
    show cle (insF h k d) v (k + e + 1) + (if insF h k d (k + e + 1) ≤ v then 1 else 0) = cle h v (k + e) + (if h (k + e) ≤ v then 1 else 0) + _
    rw [ih, show insF h k d (k + e + 1) = h (k + e) by unfold insF; rw [if_neg (by omega), if_neg (by omega)]; rfl]
    omega
/-- r is the reference's step -/
def stepM (k o : Nat) (p q r : Int) : Prop := (0 ≤ r ∧ r ≤ (k : Int) * o) ∧ (∀ t : Nat, (t : Int) < r → 2 * q * wps k o (t + 1) ≤ p * chs (k + o) k) ∧ (r < (k : Int) * o → p * chs (k + o) k < 2 * q * wps k o (r.toNat + 1))
/-- what the reference keeps of a span -/
def RM (M : Mm) (r lo up mi : Int) : Prop := M 11 0 25 = 1 ∧ M 45 0 0 = lo ∧ M 45 0 1 = up ∧ M 45 0 2 = (if r = 0 then 0 else 1) ∧ M 45 0 3 = mi
def T_X11_span : Ct := fun as M P => match as with
  | [.inr (some (g, s)), .inl (.inl a), .inl (.inl b), .inl (.inl p), .inl (.inl q)] => g = 11 ∧ s = 0 ∧ iR a ∧ iR b ∧ iR p ∧ iR q ∧ SI M ∧ SE M ∧ CE M ∧ ((two M a b ∧ 0 < p ∧ p < q ∧ q ≤ 1000) → ∀ (M' : Mm) (r : Int) (f : Nat → Int), (∀ g' : Nat, ¬ g' = 11 → ¬ g' = 34 → ¬ g' = 44 → ¬ g' = 45 → M' g' = M g') → (∀ k : Nat, ¬ k = 2 → ¬ k = 25 → M' 11 0 k = M 11 0 k) → stepM (M 8 a.toNat 1).toNat (M 8 b.toNat 1).toNat p q r → GS M a.toNat b.toNat f → RM M' r (if 0 < r then f (r - 1).toNat else 0) (if 0 < r then f (M 8 a.toNat 1 * M 8 b.toNat 1 - r).toNat else 0) (f ((M 8 a.toNat 1 * M 8 b.toNat 1 - 1) / 2).toNat + f (M 8 a.toNat 1 * M 8 b.toNat 1 / 2).toNat) → P (some (zi r)) M') ∧ (¬ (two M a b ∧ 0 < p ∧ p < q ∧ q ≤ 1000) → P (some (zi (-1))) (stm M 11 0 2 0))
  | _ => False
set_option maxHeartbeats 2000000 in
theorem k_X11_span (l : Launch) : MetT l yX11_span cX11_span 13 (some .int) 2 T_X11_span := by
  refine MetT.of (by decide +kernel) (fun as M P h => by unfold T_X11_span at h; split at h <;> first | (simp [elo]; done) | exact h.elim) (fun x as M P h C hR => ?_)
  unfold T_X11_span at h
  split at h
  rotate_left
  · exact h.elim
  rename_i g s a b p q
  obtain ⟨rfl, rfl, ha, hb, hp, hq, hI, hE, hCE, h1, h2⟩ := h
  refine B_X11_span_0 C hR (k_X11_isPair l) (by decide) _ _ _ ?_
  simp only [c_iadd, c_isub, c_imul, c_ladd, c_lsub, c_lmul, c_ineg, c_lneg, c_ic, c_lc, c_iload, c_lload, c_aload, c_istore, c_astore, c_lstore, c_iinc, c_dup, c_dup2, c_goto, c_i2l, c_l2i, c_idiv, c_ldiv, c_lrem, c_lshl, c_gi, c_gl, c_gr, c_pi, c_pz, c_pl, c_iald, c_lald, c_bald, c_aald, c_iast, c_last, c_bast, c_callV, c_callS, c_mmax, c_mmin, c_mabs, c_mmaxl, c_mabsl, c_iret, c_zret, c_lret, c_vret, c_tsw, c_lsw, c_icmp_eq, c_icmp_ne, c_icmp_lt, c_icmp_ge, c_icmp_gt, c_icmp_le, c_if_eq, c_if_ne, c_if_lt, c_if_ge, c_if_gt, c_if_le, c_lcmp_eq, c_lcmp_ne, c_lcmp_lt, c_lcmp_ge, c_lcmp_gt, c_lcmp_le, c_lraw_eq, c_lraw_lt, c_lraw_ge, c_lraw_gt, c_lraw_le, acat, scat, tswP, pops, st1, st2, klo, pad, elo, List.getElem?_cons_zero, List.getElem?_cons_succ, List.getElem?_nil, List.set_cons_zero, List.set_cons_succ, List.set_nil, Option.toList_some, Option.toList_none, List.cons_append, List.nil_append, List.length_cons, List.length_nil, stc_ap, stm_ap, false_and, and_false, and_self, true_and, and_true, Nat.reduceEqDiff, reduceIte, al_12, al_13, al_14, al_15, al_16, al_17, al_18, al_19, al_20, al_21, al_22, al_23, al_24, al_25, al_26, al_27, al_28, al_29, al_30, al_31, al_32, al_33, al_34, al_35, al_36, al_37, al_38, al_39, al_40, al_41, al_42, al_43, al_44, al_45, al_46, al_47, al_48, al_49, al_50, al_51, al_52, al_53, al_54, al_55, at_12, at_13, at_14, at_15, at_16, at_17, at_18, at_19, at_20, at_21, at_22, at_23, at_24, at_25, at_26, at_27, at_28, at_29, at_30, at_31, at_32, at_33, at_34, at_35, at_36, at_37, at_38, at_39, at_40, at_41, at_42, at_43, at_44, at_45, at_46, at_47, at_48, at_49, at_50, at_51, at_52, at_53, at_54, at_55, cn_0, cn_1, cn_2, cn_3, cn_4, cn_5, cn_6, cn_7, cn_8, cn_9, cn_10, cn_11, cn_12, cn_13, cn_14, cn_15, cn_16, cn_17, cn_18, cn_19, cn_20, cn_21, cn_22, cn_23, cn_24, cn_25, cn_26, cn_27, cn_28, cn_29, cn_30, cn_31, cn_32, cn_33, cn_34, cn_35, cn_36, cn_37, cn_38, cn_39, cn_40, cn_41, cn_42, cn_43, cn_44, cn_45, cn_46, cn_47, cn_48, cn_49, cn_50, cn_51, cn_52, cn_53, cn_54, cn_55, Nat.reduceAdd, Nat.reduceLT, Nat.reduceLeDiff, Nat.lt_add_one, Nat.zero_lt_succ, Nat.reduceSub, ite_true, ite_false, reduceCtorEq, forall_const, Nat.reduceSucc, Nat.zero_add, Nat.add_zero, Nat.le_refl, Nat.zero_le, Nat.reducePow, Int.reduceNeg, Nat.reduceMul, eq_self, Int.cast_ofNat_Int, Int.toNat_natCast, iR, lR, Int.reduceEq, Int.reduceLT, Int.reduceLE, Int.reduceNe, not_false_eq_true, not_true_eq_false, false_implies, true_implies, Int.reduceAdd, Int.reduceSub, Int.reduceMul, Int.reduceToNat, implies_true, or_true, true_or, or_false, false_or, T_X11_isPair]
  generalize hM0 : stm M 11 0 2 0 = M0 at *
  have c8 : M0 8 = M 8 := by rw [← hM0]; exact stm_ne _ _ _ _ _ (by decide)
  have c27 : M0 27 = M 27 := by rw [← hM0]; exact stm_ne _ _ _ _ _ (by decide)
  have c31 : M0 31 = M 31 := by rw [← hM0]; exact stm_ne _ _ _ _ _ (by decide)
  have c32 : M0 32 = M 32 := by rw [← hM0]; exact stm_ne _ _ _ _ _ (by decide)
  have c33 : M0 33 = M 33 := by rw [← hM0]; exact stm_ne _ _ _ _ _ (by decide)
  refine ⟨ha, hb, SI_cg c8 c27 hI, SE_cg c8 c27 c31 c32 hE, fun w => ?_, fun w => h2 fun z => w (by rw [two_cg c8]; exact z.1)⟩
  rw [two_cg c8] at w
  obtain ⟨wa, wb, wc, wd, we⟩ := id w
  have ia := hI a.toNat (by omega)
  have ib := hI b.toNat (by omega)
  rw [hE.sz wa, hE.sz wb]
  refine ⟨hp, fun z => h2 (by omega), fun z => ⟨hq, hp, fun z2 => h2 (by omega), fun z2 => ⟨hq, fun z3 => ⟨wa, wb, ?_⟩, fun z3 => h2 (by omega)⟩⟩⟩
  have hP := h1 ⟨w, by omega, by omega, by omega⟩
  clear h1 h2
  obtain ⟨na, hna⟩ : ∃ na : Int, na = M 8 a.toNat 1 := ⟨_, rfl⟩
  obtain ⟨nb, hnb⟩ : ∃ nb : Int, nb = M 8 b.toNat 1 := ⟨_, rfl⟩
  have hmul : ∀ i : Int, 0 ≤ i → i ≤ 20 → 0 ≤ i * nb ∧ i * nb ≤ 400 ∧ (i + 1) * nb = i * nb + nb := by
    intro i h0 h1
    have e1 : i * nb ≤ 20 * nb := Int.mul_le_mul_of_nonneg_right h1 (by omega)
    have e2 : 0 ≤ i * nb := Int.mul_nonneg h0 (by omega)
    have e3 : (i + 1) * nb = i * nb + nb := by rw [Int.add_mul, Int.one_mul]
    omega
  have hlast : ∀ i : Int, i < na → 0 ≤ i → i * nb + nb ≤ 400 := by
    intro i h0 h1
    have := hmul (i + 1) (by omega) (by omega)
    have := hmul i (by omega) (by omega)
    omega
  rw [← hna, ← hnb]
  suffices hh : ∀ (i : Int) (M' : Mm), ((0 ≤ i ∧ i ≤ na) ∧ ∃ h : Nat → Int, M' = stc M0 44 0 h ∧ srt h (i * nb).toNat ∧ (∀ v : Int, cle h v (i * nb).toNat = gpr (M 27 a.toNat) (M 27 b.toNat) nb.toNat v i.toNat) ∧ ∀ j : Nat, j < (i * nb).toNat → -1000 ≤ h j ∧ h j ≤ 1000) → J x 57 [some (zr 11 0), some (zi a), some (zi b), some (zi p), some (zi q), some (zi na), some (zi nb), some (zi (i * nb)), some (zi i), none, none, none, none] [] M' by
    have q := hh 0 M0 ⟨by omega, M0 44 0, (stc_id M0 44 0).symm, fun i j _ hj => by rw [Int.zero_mul] at hj; exact absurd hj (by simp), fun v => by rw [Int.zero_mul]; rfl, fun j hj => by rw [Int.zero_mul] at hj; exact absurd hj (by simp)⟩
    rw [Int.zero_mul] at q
    exact q
  refine loopU na _ _ ?_
  rintro i M' ⟨hi, h, rfl, hso, hc, hbd⟩ ih
  have mi := hmul i (by omega) (by omega)
  refine B_X11_span_57 C (k_X11_pairsOf l) (by decide) _ _ _ ?_
  simp only [c_iadd, c_isub, c_imul, c_ladd, c_lsub, c_lmul, c_ineg, c_lneg, c_ic, c_lc, c_iload, c_lload, c_aload, c_istore, c_astore, c_lstore, c_iinc, c_dup, c_dup2, c_goto, c_i2l, c_l2i, c_idiv, c_ldiv, c_lrem, c_lshl, c_gi, c_gl, c_gr, c_pi, c_pz, c_pl, c_iald, c_lald, c_bald, c_aald, c_iast, c_last, c_bast, c_callV, c_callS, c_mmax, c_mmin, c_mabs, c_mmaxl, c_mabsl, c_iret, c_zret, c_lret, c_vret, c_tsw, c_lsw, c_icmp_eq, c_icmp_ne, c_icmp_lt, c_icmp_ge, c_icmp_gt, c_icmp_le, c_if_eq, c_if_ne, c_if_lt, c_if_ge, c_if_gt, c_if_le, c_lcmp_eq, c_lcmp_ne, c_lcmp_lt, c_lcmp_ge, c_lcmp_gt, c_lcmp_le, c_lraw_eq, c_lraw_lt, c_lraw_ge, c_lraw_gt, c_lraw_le, acat, scat, tswP, pops, st1, st2, klo, pad, elo, List.getElem?_cons_zero, List.getElem?_cons_succ, List.getElem?_nil, List.set_cons_zero, List.set_cons_succ, List.set_nil, Option.toList_some, Option.toList_none, List.cons_append, List.nil_append, List.length_cons, List.length_nil, stc_ap, stm_ap, false_and, and_false, and_self, true_and, and_true, Nat.reduceEqDiff, reduceIte, al_12, al_13, al_14, al_15, al_16, al_17, al_18, al_19, al_20, al_21, al_22, al_23, al_24, al_25, al_26, al_27, al_28, al_29, al_30, al_31, al_32, al_33, al_34, al_35, al_36, al_37, al_38, al_39, al_40, al_41, al_42, al_43, al_44, al_45, al_46, al_47, al_48, al_49, al_50, al_51, al_52, al_53, al_54, al_55, at_12, at_13, at_14, at_15, at_16, at_17, at_18, at_19, at_20, at_21, at_22, at_23, at_24, at_25, at_26, at_27, at_28, at_29, at_30, at_31, at_32, at_33, at_34, at_35, at_36, at_37, at_38, at_39, at_40, at_41, at_42, at_43, at_44, at_45, at_46, at_47, at_48, at_49, at_50, at_51, at_52, at_53, at_54, at_55, cn_0, cn_1, cn_2, cn_3, cn_4, cn_5, cn_6, cn_7, cn_8, cn_9, cn_10, cn_11, cn_12, cn_13, cn_14, cn_15, cn_16, cn_17, cn_18, cn_19, cn_20, cn_21, cn_22, cn_23, cn_24, cn_25, cn_26, cn_27, cn_28, cn_29, cn_30, cn_31, cn_32, cn_33, cn_34, cn_35, cn_36, cn_37, cn_38, cn_39, cn_40, cn_41, cn_42, cn_43, cn_44, cn_45, cn_46, cn_47, cn_48, cn_49, cn_50, cn_51, cn_52, cn_53, cn_54, cn_55, Nat.reduceAdd, Nat.reduceLT, Nat.reduceLeDiff, Nat.lt_add_one, Nat.zero_lt_succ, Nat.reduceSub, ite_true, ite_false, reduceCtorEq, forall_const, Nat.reduceSucc, Nat.zero_add, Nat.add_zero, Nat.le_refl, Nat.zero_le, Nat.reducePow, Int.reduceNeg, Nat.reduceMul, eq_self, Int.cast_ofNat_Int, Int.toNat_natCast, iR, lR, Int.reduceEq, Int.reduceLT, Int.reduceLE, Int.reduceNe, not_false_eq_true, not_true_eq_false, false_implies, true_implies, Int.reduceAdd, Int.reduceSub, Int.reduceMul, Int.reduceToNat, implies_true, or_true, true_or, or_false, false_or, T_X11_pairsOf]
  refine ⟨by omega, by omega, fun y1 => ?_, fun y1 => ?_⟩
  rotate_left
  · -- a row of differences
    suffices hh : ∀ (j : Int) (M' : Mm), ((0 ≤ j ∧ j ≤ nb) ∧ ∃ h : Nat → Int, M' = stc M0 44 0 h ∧ srt h (i * nb + j).toNat ∧ (∀ v : Int, cle h v (i * nb + j).toNat = gpr (M 27 a.toNat) (M 27 b.toNat) nb.toNat v i.toNat + cle (fun j => M 27 a.toNat i.toNat - M 27 b.toNat j) v j.toNat) ∧ ∀ q : Nat, q < (i * nb + j).toNat → -1000 ≤ h q ∧ h q ≤ 1000) → J x 67 [some (zr 11 0), some (zi a), some (zi b), some (zi p), some (zi q), some (zi na), some (zi nb), some (zi (i * nb + j)), some (zi i), some (zi j), none, none, none] [] M' by
      have q := hh 0 (stc M0 44 0 h) ⟨by omega, h, rfl, by rw [Int.add_zero]; exact hso, fun v => by rw [Int.add_zero, hc v]; show _ = _ + 0; omega, fun j hj => hbd j (by omega)⟩
      rw [Int.add_zero] at q
      exact q
    refine loopU nb _ _ ?_
    rintro j M' ⟨hj, h, rfl, hso, hc, hbd⟩ ih2
    have hl := hlast i (by omega) (by omega)
    refine B_X11_span_67 C _ _ _ ?_
    simp only [c_iadd, c_isub, c_imul, c_ladd, c_lsub, c_lmul, c_ineg, c_lneg, c_ic, c_lc, c_iload, c_lload, c_aload, c_istore, c_astore, c_lstore, c_iinc, c_dup, c_dup2, c_goto, c_i2l, c_l2i, c_idiv, c_ldiv, c_lrem, c_lshl, c_gi, c_gl, c_gr, c_pi, c_pz, c_pl, c_iald, c_lald, c_bald, c_aald, c_iast, c_last, c_bast, c_callV, c_callS, c_mmax, c_mmin, c_mabs, c_mmaxl, c_mabsl, c_iret, c_zret, c_lret, c_vret, c_tsw, c_lsw, c_icmp_eq, c_icmp_ne, c_icmp_lt, c_icmp_ge, c_icmp_gt, c_icmp_le, c_if_eq, c_if_ne, c_if_lt, c_if_ge, c_if_gt, c_if_le, c_lcmp_eq, c_lcmp_ne, c_lcmp_lt, c_lcmp_ge, c_lcmp_gt, c_lcmp_le, c_lraw_eq, c_lraw_lt, c_lraw_ge, c_lraw_gt, c_lraw_le, acat, scat, tswP, pops, st1, st2, klo, pad, elo, List.getElem?_cons_zero, List.getElem?_cons_succ, List.getElem?_nil, List.set_cons_zero, List.set_cons_succ, List.set_nil, Option.toList_some, Option.toList_none, List.cons_append, List.nil_append, List.length_cons, List.length_nil, stc_ap, stm_ap, false_and, and_false, and_self, true_and, and_true, Nat.reduceEqDiff, reduceIte, al_12, al_13, al_14, al_15, al_16, al_17, al_18, al_19, al_20, al_21, al_22, al_23, al_24, al_25, al_26, al_27, al_28, al_29, al_30, al_31, al_32, al_33, al_34, al_35, al_36, al_37, al_38, al_39, al_40, al_41, al_42, al_43, al_44, al_45, al_46, al_47, al_48, al_49, al_50, al_51, al_52, al_53, al_54, al_55, at_12, at_13, at_14, at_15, at_16, at_17, at_18, at_19, at_20, at_21, at_22, at_23, at_24, at_25, at_26, at_27, at_28, at_29, at_30, at_31, at_32, at_33, at_34, at_35, at_36, at_37, at_38, at_39, at_40, at_41, at_42, at_43, at_44, at_45, at_46, at_47, at_48, at_49, at_50, at_51, at_52, at_53, at_54, at_55, cn_0, cn_1, cn_2, cn_3, cn_4, cn_5, cn_6, cn_7, cn_8, cn_9, cn_10, cn_11, cn_12, cn_13, cn_14, cn_15, cn_16, cn_17, cn_18, cn_19, cn_20, cn_21, cn_22, cn_23, cn_24, cn_25, cn_26, cn_27, cn_28, cn_29, cn_30, cn_31, cn_32, cn_33, cn_34, cn_35, cn_36, cn_37, cn_38, cn_39, cn_40, cn_41, cn_42, cn_43, cn_44, cn_45, cn_46, cn_47, cn_48, cn_49, cn_50, cn_51, cn_52, cn_53, cn_54, cn_55, Nat.reduceAdd, Nat.reduceLT, Nat.reduceLeDiff, Nat.lt_add_one, Nat.zero_lt_succ, Nat.reduceSub, ite_true, ite_false, reduceCtorEq, forall_const, Nat.reduceSucc, Nat.zero_add, Nat.add_zero, Nat.le_refl, Nat.zero_le, Nat.reducePow, Int.reduceNeg, Nat.reduceMul, eq_self, Int.cast_ofNat_Int, Int.toNat_natCast, iR, lR, Int.reduceEq, Int.reduceLT, Int.reduceLE, Int.reduceNe, not_false_eq_true, not_true_eq_false, false_implies, true_implies, Int.reduceAdd, Int.reduceSub, Int.reduceMul, Int.reduceToNat, implies_true, or_true, true_or, or_false, false_or, c31]
    refine ⟨by omega, by omega, fun y2 => ?_, fun y2 => ?_⟩
    · obtain rfl : j = nb := by omega
      have e := ih (by omega) (stc M0 44 0 h) ⟨by omega, h, rfl, by rw [mi.2.2]; exact hso, fun v => ?_, fun q hq => hbd q (by rw [mi.2.2] at hq; exact hq)⟩
      · rw [mi.2.2] at e
        exact J_fgt [true, true, true, true, true, true, true, true, true, false, true, true, true] e
      · rw [mi.2.2, hc v, show (i + 1).toNat = i.toNat + 1 by omega]
        rfl
    · rw [hE.at wa (by omega) (by omega), hE.at wb (by omega) (by omega)]
      have u1 := ia.2 i.toNat (by omega)
      have u2 := ib.2 j.toNat (by omega)
      obtain ⟨d, hd⟩ : ∃ d : Int, d = M 27 a.toNat i.toNat - M 27 b.toNat j.toNat := ⟨_, rfl⟩
      rw [← hd]
      obtain ⟨N, hN⟩ : ∃ N : Int, N = i * nb + j := ⟨_, rfl⟩
      rw [← hN] at hso hc hbd ⊢
      refine ⟨by omega, by omega, ?_⟩
      refine loopD 0 (fun k M' => (0 ≤ k ∧ k ≤ N) ∧ ∃ H : Nat → Int, M' = stc M0 44 0 H ∧ (∀ s : Nat, (s : Int) < k → H s = h s) ∧ ∀ s : Nat, k ≤ (s : Int) → (s : Int) < N → H (s + 1) = h s ∧ d < h s) (fun k M' => J x 105 [some (zr 11 0), some (zi a), some (zi b), some (zi p), some (zi q), some (zi na), some (zi nb), some (zi N), some (zi i), some (zi j), some (zi d), some (zi k), none] [] M') ?_ N _ ⟨by omega, h, rfl, fun s _ => rfl, fun s y3 y4 => by omega⟩
      rintro k M' ⟨hk, H, rfl, hH1, hH2⟩ ih3
      have hfin : (k ≤ 0 ∨ h (k - 1).toNat ≤ d) → J x 146 [some (zr 11 0), some (zi a), some (zi b), some (zi p), some (zi q), some (zi na), some (zi nb), some (zi N), some (zi i), some (zi j), some (zi d), some (zi k), none] [] (stc M0 44 0 H) := by
        intro hcnd
        refine B_X11_span_146 C _ _ _ ?_
        simp only [c_iadd, c_isub, c_imul, c_ladd, c_lsub, c_lmul, c_ineg, c_lneg, c_ic, c_lc, c_iload, c_lload, c_aload, c_istore, c_astore, c_lstore, c_iinc, c_dup, c_dup2, c_goto, c_i2l, c_l2i, c_idiv, c_ldiv, c_lrem, c_lshl, c_gi, c_gl, c_gr, c_pi, c_pz, c_pl, c_iald, c_lald, c_bald, c_aald, c_iast, c_last, c_bast, c_callV, c_callS, c_mmax, c_mmin, c_mabs, c_mmaxl, c_mabsl, c_iret, c_zret, c_lret, c_vret, c_tsw, c_lsw, c_icmp_eq, c_icmp_ne, c_icmp_lt, c_icmp_ge, c_icmp_gt, c_icmp_le, c_if_eq, c_if_ne, c_if_lt, c_if_ge, c_if_gt, c_if_le, c_lcmp_eq, c_lcmp_ne, c_lcmp_lt, c_lcmp_ge, c_lcmp_gt, c_lcmp_le, c_lraw_eq, c_lraw_lt, c_lraw_ge, c_lraw_gt, c_lraw_le, acat, scat, tswP, pops, st1, st2, klo, pad, elo, List.getElem?_cons_zero, List.getElem?_cons_succ, List.getElem?_nil, List.set_cons_zero, List.set_cons_succ, List.set_nil, Option.toList_some, Option.toList_none, List.cons_append, List.nil_append, List.length_cons, List.length_nil, stc_ap, stm_ap, false_and, and_false, and_self, true_and, and_true, Nat.reduceEqDiff, reduceIte, al_12, al_13, al_14, al_15, al_16, al_17, al_18, al_19, al_20, al_21, al_22, al_23, al_24, al_25, al_26, al_27, al_28, al_29, al_30, al_31, al_32, al_33, al_34, al_35, al_36, al_37, al_38, al_39, al_40, al_41, al_42, al_43, al_44, al_45, al_46, al_47, al_48, al_49, al_50, al_51, al_52, al_53, al_54, al_55, at_12, at_13, at_14, at_15, at_16, at_17, at_18, at_19, at_20, at_21, at_22, at_23, at_24, at_25, at_26, at_27, at_28, at_29, at_30, at_31, at_32, at_33, at_34, at_35, at_36, at_37, at_38, at_39, at_40, at_41, at_42, at_43, at_44, at_45, at_46, at_47, at_48, at_49, at_50, at_51, at_52, at_53, at_54, at_55, cn_0, cn_1, cn_2, cn_3, cn_4, cn_5, cn_6, cn_7, cn_8, cn_9, cn_10, cn_11, cn_12, cn_13, cn_14, cn_15, cn_16, cn_17, cn_18, cn_19, cn_20, cn_21, cn_22, cn_23, cn_24, cn_25, cn_26, cn_27, cn_28, cn_29, cn_30, cn_31, cn_32, cn_33, cn_34, cn_35, cn_36, cn_37, cn_38, cn_39, cn_40, cn_41, cn_42, cn_43, cn_44, cn_45, cn_46, cn_47, cn_48, cn_49, cn_50, cn_51, cn_52, cn_53, cn_54, cn_55, Nat.reduceAdd, Nat.reduceLT, Nat.reduceLeDiff, Nat.lt_add_one, Nat.zero_lt_succ, Nat.reduceSub, ite_true, ite_false, reduceCtorEq, forall_const, Nat.reduceSucc, Nat.zero_add, Nat.add_zero, Nat.le_refl, Nat.zero_le, Nat.reducePow, Int.reduceNeg, Nat.reduceMul, eq_self, Int.cast_ofNat_Int, Int.toNat_natCast, iR, lR, Int.reduceEq, Int.reduceLT, Int.reduceLE, Int.reduceNe, not_false_eq_true, not_true_eq_false, false_implies, true_implies, Int.reduceAdd, Int.reduceSub, Int.reduceMul, Int.reduceToNat, implies_true, or_true, true_or, or_false, false_or]
        have e4 : stm (stc M0 44 0 H) 44 0 k.toNat d = stc M0 44 0 (fun s => if s = k.toNat then d else H s) := stm_on M0 44 0 _ H _
        have hval : ∀ s : Nat, (s : Int) ≤ N → (if s = k.toNat then d else H s) = insF h k.toNat d s := by
          intro s hs
          unfold insF
          by_cases y3 : s = k.toNat
          · rw [if_pos y3, if_neg (by omega), if_pos y3]
          · rw [if_neg y3]
            by_cases y4 : s < k.toNat
            · rw [if_pos y4]; exact hH1 s (by omega)
            · rw [if_neg y4, if_neg y3]
              have := (hH2 (s - 1) (by omega) (by omega)).1
              rw [show s - 1 + 1 = s by omega] at this
              exact this
        have e5 := ih2 (by omega) (stc M0 44 0 (fun s => if s = k.toNat then d else H s)) ⟨by omega, _, rfl, fun s t hst ht => ?_, fun v => ?_, fun s hs => ?_⟩
        · rw [show i * nb + (j + 1) = N + 1 by omega] at e5
          rw [e4]
          exact ⟨by omega, J_fgt [true, true, true, true, true, true, true, true, true, true, false, false, true] e5⟩
        · show (if s = k.toNat then d else H s) ≤ (if t = k.toNat then d else H t)
          rw [hval s (by omega), hval t (by omega)]
          unfold insF
          by_cases y3 : s < k.toNat
          · rw [if_pos y3]
            by_cases y4 : t < k.toNat
            · rw [if_pos y4]; exact hso s t hst (by omega)
            · rw [if_neg y4]
              by_cases y5 : t = k.toNat
              · rw [if_pos y5]
                rcases hcnd with y6 | y6
                · omega
                · by_cases y7 : s = (k - 1).toNat
                  · rw [y7]; exact y6
                  · exact Int.le_trans (hso s (k - 1).toNat (by omega) (by omega)) y6
              · rw [if_neg y5]; exact hso s (t - 1) (by omega) (by omega)
          · rw [if_neg y3, if_neg (show ¬ t < k.toNat by omega), if_neg (show ¬ t = k.toNat by omega)]
            by_cases y5 : s = k.toNat
            · rw [if_pos y5]; have := (hH2 (t - 1) (by omega) (by omega)).2; omega
            · rw [if_neg y5]; exact hso (s - 1) (t - 1) (by omega) (by omega)
        · rw [show (i * nb + (j + 1)).toNat = N.toNat + 1 by omega, cle_cg (g := insF h k.toNat d) (fun s hs => hval s (by omega))]
          have := cle_ins h k.toNat d v (N.toNat - k.toNat)
          rw [show k.toNat + (N.toNat - k.toNat) = N.toNat by omega] at this
          rw [this, hc v, show (j + 1).toNat = j.toNat + 1 by omega]
          show _ = _ + (cle _ v j.toNat + if M 27 a.toNat i.toNat - M 27 b.toNat j.toNat ≤ v then 1 else 0)
          rw [← hd]
          omega
        · show -1000 ≤ (if s = k.toNat then d else H s) ∧ (if s = k.toNat then d else H s) ≤ 1000
          rw [hval s (by omega)]
          unfold insF
          by_cases y3 : s < k.toNat
          · rw [if_pos y3]; exact hbd s (by omega)
          · rw [if_neg y3]
            by_cases y5 : s = k.toNat
            · rw [if_pos y5]; omega
            · rw [if_neg y5]; exact hbd (s - 1) (by omega)
      refine B_X11_span_105 C _ _ _ ?_
      simp only [c_iadd, c_isub, c_imul, c_ladd, c_lsub, c_lmul, c_ineg, c_lneg, c_ic, c_lc, c_iload, c_lload, c_aload, c_istore, c_astore, c_lstore, c_iinc, c_dup, c_dup2, c_goto, c_i2l, c_l2i, c_idiv, c_ldiv, c_lrem, c_lshl, c_gi, c_gl, c_gr, c_pi, c_pz, c_pl, c_iald, c_lald, c_bald, c_aald, c_iast, c_last, c_bast, c_callV, c_callS, c_mmax, c_mmin, c_mabs, c_mmaxl, c_mabsl, c_iret, c_zret, c_lret, c_vret, c_tsw, c_lsw, c_icmp_eq, c_icmp_ne, c_icmp_lt, c_icmp_ge, c_icmp_gt, c_icmp_le, c_if_eq, c_if_ne, c_if_lt, c_if_ge, c_if_gt, c_if_le, c_lcmp_eq, c_lcmp_ne, c_lcmp_lt, c_lcmp_ge, c_lcmp_gt, c_lcmp_le, c_lraw_eq, c_lraw_lt, c_lraw_ge, c_lraw_gt, c_lraw_le, acat, scat, tswP, pops, st1, st2, klo, pad, elo, List.getElem?_cons_zero, List.getElem?_cons_succ, List.getElem?_nil, List.set_cons_zero, List.set_cons_succ, List.set_nil, Option.toList_some, Option.toList_none, List.cons_append, List.nil_append, List.length_cons, List.length_nil, stc_ap, stm_ap, false_and, and_false, and_self, true_and, and_true, Nat.reduceEqDiff, reduceIte, al_12, al_13, al_14, al_15, al_16, al_17, al_18, al_19, al_20, al_21, al_22, al_23, al_24, al_25, al_26, al_27, al_28, al_29, al_30, al_31, al_32, al_33, al_34, al_35, al_36, al_37, al_38, al_39, al_40, al_41, al_42, al_43, al_44, al_45, al_46, al_47, al_48, al_49, al_50, al_51, al_52, al_53, al_54, al_55, at_12, at_13, at_14, at_15, at_16, at_17, at_18, at_19, at_20, at_21, at_22, at_23, at_24, at_25, at_26, at_27, at_28, at_29, at_30, at_31, at_32, at_33, at_34, at_35, at_36, at_37, at_38, at_39, at_40, at_41, at_42, at_43, at_44, at_45, at_46, at_47, at_48, at_49, at_50, at_51, at_52, at_53, at_54, at_55, cn_0, cn_1, cn_2, cn_3, cn_4, cn_5, cn_6, cn_7, cn_8, cn_9, cn_10, cn_11, cn_12, cn_13, cn_14, cn_15, cn_16, cn_17, cn_18, cn_19, cn_20, cn_21, cn_22, cn_23, cn_24, cn_25, cn_26, cn_27, cn_28, cn_29, cn_30, cn_31, cn_32, cn_33, cn_34, cn_35, cn_36, cn_37, cn_38, cn_39, cn_40, cn_41, cn_42, cn_43, cn_44, cn_45, cn_46, cn_47, cn_48, cn_49, cn_50, cn_51, cn_52, cn_53, cn_54, cn_55, Nat.reduceAdd, Nat.reduceLT, Nat.reduceLeDiff, Nat.lt_add_one, Nat.zero_lt_succ, Nat.reduceSub, ite_true, ite_false, reduceCtorEq, forall_const, Nat.reduceSucc, Nat.zero_add, Nat.add_zero, Nat.le_refl, Nat.zero_le, Nat.reducePow, Int.reduceNeg, Nat.reduceMul, eq_self, Int.cast_ofNat_Int, Int.toNat_natCast, iR, lR, Int.reduceEq, Int.reduceLT, Int.reduceLE, Int.reduceNe, not_false_eq_true, not_true_eq_false, false_implies, true_implies, Int.reduceAdd, Int.reduceSub, Int.reduceMul, Int.reduceToNat, implies_true, or_true, true_or, or_false, false_or]
      refine ⟨by omega, fun y3 => hfin (Or.inl y3), fun y3 => ?_⟩
      have hb1 := hbd (k - 1).toNat (by omega)
      rw [hH1 (k - 1).toNat (by omega)]
      refine ⟨by omega, by omega, by omega, fun y4 => hfin (Or.inr y4), fun y4 => ⟨by omega, by omega, ?_⟩⟩
      rw [show k + -1 = k - 1 by omega]
      refine ih3 (by omega) _ ⟨by omega, _, stm_on M0 44 0 _ H _, fun s hs => ?_, fun s y5 y6 => ?_⟩
      · show (if s = k.toNat then _ else H s) = h s
        rw [if_neg (by omega)]; exact hH1 s (by omega)
      · show (if s + 1 = k.toNat then h (k - 1).toNat else H (s + 1)) = h s ∧ d < h s
        by_cases y7 : s + 1 = k.toNat
        · rw [if_pos y7, show (k - 1).toNat = s by omega] at *
          exact ⟨rfl, by omega⟩
        · rw [if_neg y7]
          exact hH2 s (by omega) y6
  -- all differences are in their places
  have ei : i = na := by omega
  have hGS : GS M a.toNat b.toNat h := by
    unfold GS
    rw [← hna, ← hnb, ← ei]
    exact ⟨hso, hc, hbd⟩
  rw [ei]
  have hn : 1 ≤ na * nb ∧ na * nb ≤ 400 := by
    have e2 : 1 * nb ≤ na * nb := Int.mul_le_mul_of_nonneg_right (by omega) (by omega)
    have := hmul na (by omega) (by omega)
    omega
  clear ih hso hc hbd
  obtain ⟨k, hk⟩ : ∃ k : Nat, na = k := ⟨na.toNat, by omega⟩
  obtain ⟨o, ho⟩ : ∃ o : Nat, nb = o := ⟨nb.toNat, by omega⟩
  have hPr := fun M' r hf1 hf2 hst hrm => hP M' r h hf1 hf2 hst hGS hrm
  rw [← hna, ← hnb] at hPr
  rw [show na.toNat = k by omega, show nb.toNat = o by omega] at hPr ⊢
  have hko : (k : Int) * (o : Int) = na * nb := by rw [hk, ho]
  refine ⟨by omega, by omega, fun c hcp => ?_⟩
  have e33 : M0 33 0 (41 * (na + nb) + na).toNat = chs (k + o) k := by
    rw [c33, hCE.at (by omega) (by omega) (by omega)]
    unfold chI
    rw [if_neg (by omega), show (na + nb).toNat = k + o by omega, show na.toNat = k by omega]
  have ec0 : c (20001 * na).toNat = wps k o 1 := by
    have := hcp 0 (by omega)
    rw [show (20001 * na).toNat = 20001 * k + 0 by omega, this]
    show _ = 0 + wpn k o ((0 : Nat) : Int)
    omega
  rw [e33, ec0]
  have hT0 := chs_nn (k + o) k
  have hT1 := chs_2 (k + o) k
  have h4 := pow_le (a := k + o) (b := 40) (by omega)
  have p40 : (2 : Int) ^ 40 = 1099511627776 := by decide
  obtain ⟨TT, hT⟩ : ∃ TT : Int, TT = chs (k + o) k := ⟨_, rfl⟩
  rw [← hT] at hT0 hT1 ⊢
  have hpT : 0 ≤ p * TT ∧ p * TT ≤ 1000 * 1099511627776 := by
    refine ⟨Int.mul_nonneg (by omega) (by omega), ?_⟩
    have a1 : p * TT ≤ 1000 * TT := Int.mul_le_mul_of_nonneg_right (by omega) (by omega)
    omega
  obtain ⟨N, hN⟩ : ∃ N : Int, N = na * nb := ⟨_, rfl⟩
  rw [← hN] at hn hPr hko hcp ⊢
  refine ⟨by omega, by omega, ?_⟩
  obtain ⟨M1, hM1⟩ : ∃ M1 : Mm, M1 = stc (stc M0 44 0 h) 34 0 c := ⟨_, rfl⟩
  rw [← hM1]
  have r44 : M1 44 0 = h := by rw [hM1, stc_ne _ _ _ _ (by decide)]; exact stc_self M0 44 0 h
  have r34 : M1 34 0 = c := by rw [hM1]; exact stc_self _ 34 0 c
  -- the end
  have h274 : ∀ (r : Int) (z1 z2 : Option AV), stepM k o p q r → J x 274 [some (zr 11 0), some (zi a), some (zi b), some (zi p), some (zi q), some (zi na), some (zi nb), some (zi N), some (zl TT), none, some (zi r), z1, z2] [] M1 := by
    intro r z1 z2 hst
    have hr := hst.1
    rw [hko] at hr
    have hPr2 : ∀ M' : Mm, (∀ g' : Nat, ¬ g' = 11 → ¬ g' = 45 → M' g' = M1 g') → (∀ k : Nat, ¬ k = 25 → M' 11 0 k = M1 11 0 k) → RM M' r (if 0 < r then h (r - 1).toNat else 0) (if 0 < r then h (N - r).toNat else 0) (h ((N - 1) / 2).toNat + h (N / 2).toNat) → P (some (zi r)) M' := fun M' f1 f2 f3 => hPr M' r (fun g' a1 a2 a3 a4 => by rw [f1 g' a1 a4, hM1, stc_ne _ _ _ _ a2, stc_ne _ _ _ _ a3, ← hM0, stm_ne _ _ _ _ _ a1]) (fun k' a1 a2 => by rw [f2 k' a2, hM1, stc_ne _ _ _ _ (by decide), stc_ne _ _ _ _ (by decide), ← hM0, stm_ap, if_neg (by omega)]) hst f3
    have h343 : ∀ (lo up fl : Int), lo = (if 0 < r then h (r - 1).toNat else 0) → up = (if 0 < r then h (N - r).toNat else 0) → fl = (if r = 0 then 0 else 1) → J x 343 [some (zr 11 0), some (zi a), some (zi b), some (zi p), some (zi q), some (zi na), some (zi nb), some (zi N), some (zl TT), none, some (zi r), z1, z2] [zi fl, zi 2, zr 45 0] (stm (stm (stm M1 11 0 25 1) 45 0 0 lo) 45 0 1 up) := by
      intro lo up fl h5 h6 h7
      refine B_X11_span_343 C hR _ _ _ ?_
      simp only [c_iadd, c_isub, c_imul, c_ladd, c_lsub, c_lmul, c_ineg, c_lneg, c_ic, c_lc, c_iload, c_lload, c_aload, c_istore, c_astore, c_lstore, c_iinc, c_dup, c_dup2, c_goto, c_i2l, c_l2i, c_idiv, c_ldiv, c_lrem, c_lshl, c_gi, c_gl, c_gr, c_pi, c_pz, c_pl, c_iald, c_lald, c_bald, c_aald, c_iast, c_last, c_bast, c_callV, c_callS, c_mmax, c_mmin, c_mabs, c_mmaxl, c_mabsl, c_iret, c_zret, c_lret, c_vret, c_tsw, c_lsw, c_icmp_eq, c_icmp_ne, c_icmp_lt, c_icmp_ge, c_icmp_gt, c_icmp_le, c_if_eq, c_if_ne, c_if_lt, c_if_ge, c_if_gt, c_if_le, c_lcmp_eq, c_lcmp_ne, c_lcmp_lt, c_lcmp_ge, c_lcmp_gt, c_lcmp_le, c_lraw_eq, c_lraw_lt, c_lraw_ge, c_lraw_gt, c_lraw_le, acat, scat, tswP, pops, st1, st2, klo, pad, elo, List.getElem?_cons_zero, List.getElem?_cons_succ, List.getElem?_nil, List.set_cons_zero, List.set_cons_succ, List.set_nil, Option.toList_some, Option.toList_none, List.cons_append, List.nil_append, List.length_cons, List.length_nil, stc_ap, stm_ap, false_and, and_false, and_self, true_and, and_true, Nat.reduceEqDiff, reduceIte, al_12, al_13, al_14, al_15, al_16, al_17, al_18, al_19, al_20, al_21, al_22, al_23, al_24, al_25, al_26, al_27, al_28, al_29, al_30, al_31, al_32, al_33, al_34, al_35, al_36, al_37, al_38, al_39, al_40, al_41, al_42, al_43, al_44, al_45, al_46, al_47, al_48, al_49, al_50, al_51, al_52, al_53, al_54, al_55, at_12, at_13, at_14, at_15, at_16, at_17, at_18, at_19, at_20, at_21, at_22, at_23, at_24, at_25, at_26, at_27, at_28, at_29, at_30, at_31, at_32, at_33, at_34, at_35, at_36, at_37, at_38, at_39, at_40, at_41, at_42, at_43, at_44, at_45, at_46, at_47, at_48, at_49, at_50, at_51, at_52, at_53, at_54, at_55, cn_0, cn_1, cn_2, cn_3, cn_4, cn_5, cn_6, cn_7, cn_8, cn_9, cn_10, cn_11, cn_12, cn_13, cn_14, cn_15, cn_16, cn_17, cn_18, cn_19, cn_20, cn_21, cn_22, cn_23, cn_24, cn_25, cn_26, cn_27, cn_28, cn_29, cn_30, cn_31, cn_32, cn_33, cn_34, cn_35, cn_36, cn_37, cn_38, cn_39, cn_40, cn_41, cn_42, cn_43, cn_44, cn_45, cn_46, cn_47, cn_48, cn_49, cn_50, cn_51, cn_52, cn_53, cn_54, cn_55, Nat.reduceAdd, Nat.reduceLT, Nat.reduceLeDiff, Nat.lt_add_one, Nat.zero_lt_succ, Nat.reduceSub, ite_true, ite_false, reduceCtorEq, forall_const, Nat.reduceSucc, Nat.zero_add, Nat.add_zero, Nat.le_refl, Nat.zero_le, Nat.reducePow, Int.reduceNeg, Nat.reduceMul, eq_self, Int.cast_ofNat_Int, Int.toNat_natCast, iR, lR, Int.reduceEq, Int.reduceLT, Int.reduceLE, Int.reduceNe, not_false_eq_true, not_true_eq_false, false_implies, true_implies, Int.reduceAdd, Int.reduceSub, Int.reduceMul, Int.reduceToNat, implies_true, or_true, true_or, or_false, false_or, r44]
      refine ⟨by omega, by omega, by omega, by omega, hPr2 _ (fun g' a1 a2 => ?_) (fun k' a1 => ?_) ⟨rfl, h5, h6, h7, rfl⟩⟩
      · rw [stm_ne _ _ _ _ _ a2, stm_ne _ _ _ _ _ a2, stm_ne _ _ _ _ _ a2, stm_ne _ _ _ _ _ a2, stm_ne _ _ _ _ _ a1]
      · rw [stm_ne _ _ _ _ _ (by decide), stm_ne _ _ _ _ _ (by decide), stm_ne _ _ _ _ _ (by decide), stm_ne _ _ _ _ _ (by decide), stm_ap, if_neg (by omega)]
    have h327 : ∀ (lo up : Int), lo = (if 0 < r then h (r - 1).toNat else 0) → up = (if 0 < r then h (N - r).toNat else 0) → J x 327 [some (zr 11 0), some (zi a), some (zi b), some (zi p), some (zi q), some (zi na), some (zi nb), some (zi N), some (zl TT), none, some (zi r), z1, z2] [zi up, zi 1, zr 45 0] (stm (stm M1 11 0 25 1) 45 0 0 lo) := by
      intro lo up h5 h6
      refine B_X11_span_327 C _ _ _ ?_
      simp only [c_iadd, c_isub, c_imul, c_ladd, c_lsub, c_lmul, c_ineg, c_lneg, c_ic, c_lc, c_iload, c_lload, c_aload, c_istore, c_astore, c_lstore, c_iinc, c_dup, c_dup2, c_goto, c_i2l, c_l2i, c_idiv, c_ldiv, c_lrem, c_lshl, c_gi, c_gl, c_gr, c_pi, c_pz, c_pl, c_iald, c_lald, c_bald, c_aald, c_iast, c_last, c_bast, c_callV, c_callS, c_mmax, c_mmin, c_mabs, c_mmaxl, c_mabsl, c_iret, c_zret, c_lret, c_vret, c_tsw, c_lsw, c_icmp_eq, c_icmp_ne, c_icmp_lt, c_icmp_ge, c_icmp_gt, c_icmp_le, c_if_eq, c_if_ne, c_if_lt, c_if_ge, c_if_gt, c_if_le, c_lcmp_eq, c_lcmp_ne, c_lcmp_lt, c_lcmp_ge, c_lcmp_gt, c_lcmp_le, c_lraw_eq, c_lraw_lt, c_lraw_ge, c_lraw_gt, c_lraw_le, acat, scat, tswP, pops, st1, st2, klo, pad, elo, List.getElem?_cons_zero, List.getElem?_cons_succ, List.getElem?_nil, List.set_cons_zero, List.set_cons_succ, List.set_nil, Option.toList_some, Option.toList_none, List.cons_append, List.nil_append, List.length_cons, List.length_nil, stc_ap, stm_ap, false_and, and_false, and_self, true_and, and_true, Nat.reduceEqDiff, reduceIte, al_12, al_13, al_14, al_15, al_16, al_17, al_18, al_19, al_20, al_21, al_22, al_23, al_24, al_25, al_26, al_27, al_28, al_29, al_30, al_31, al_32, al_33, al_34, al_35, al_36, al_37, al_38, al_39, al_40, al_41, al_42, al_43, al_44, al_45, al_46, al_47, al_48, al_49, al_50, al_51, al_52, al_53, al_54, al_55, at_12, at_13, at_14, at_15, at_16, at_17, at_18, at_19, at_20, at_21, at_22, at_23, at_24, at_25, at_26, at_27, at_28, at_29, at_30, at_31, at_32, at_33, at_34, at_35, at_36, at_37, at_38, at_39, at_40, at_41, at_42, at_43, at_44, at_45, at_46, at_47, at_48, at_49, at_50, at_51, at_52, at_53, at_54, at_55, cn_0, cn_1, cn_2, cn_3, cn_4, cn_5, cn_6, cn_7, cn_8, cn_9, cn_10, cn_11, cn_12, cn_13, cn_14, cn_15, cn_16, cn_17, cn_18, cn_19, cn_20, cn_21, cn_22, cn_23, cn_24, cn_25, cn_26, cn_27, cn_28, cn_29, cn_30, cn_31, cn_32, cn_33, cn_34, cn_35, cn_36, cn_37, cn_38, cn_39, cn_40, cn_41, cn_42, cn_43, cn_44, cn_45, cn_46, cn_47, cn_48, cn_49, cn_50, cn_51, cn_52, cn_53, cn_54, cn_55, Nat.reduceAdd, Nat.reduceLT, Nat.reduceLeDiff, Nat.lt_add_one, Nat.zero_lt_succ, Nat.reduceSub, ite_true, ite_false, reduceCtorEq, forall_const, Nat.reduceSucc, Nat.zero_add, Nat.add_zero, Nat.le_refl, Nat.zero_le, Nat.reducePow, Int.reduceNeg, Nat.reduceMul, eq_self, Int.cast_ofNat_Int, Int.toNat_natCast, iR, lR, Int.reduceEq, Int.reduceLT, Int.reduceLE, Int.reduceNe, not_false_eq_true, not_true_eq_false, false_implies, true_implies, Int.reduceAdd, Int.reduceSub, Int.reduceMul, Int.reduceToNat, implies_true, or_true, true_or, or_false, false_or]
      exact ⟨by omega, fun y => h343 lo up 1 h5 h6 (by rw [if_neg y]), fun y => h343 lo up 0 h5 h6 (by rw [if_pos y])⟩
    have h302 : ∀ (lo : Int), lo = (if 0 < r then h (r - 1).toNat else 0) → J x 302 [some (zr 11 0), some (zi a), some (zi b), some (zi p), some (zi q), some (zi na), some (zi nb), some (zi N), some (zl TT), none, some (zi r), z1, z2] [zi lo, zi 0, zr 45 0] (stm M1 11 0 25 1) := by
      intro lo h5
      refine B_X11_span_302 C _ _ _ ?_
      simp only [c_iadd, c_isub, c_imul, c_ladd, c_lsub, c_lmul, c_ineg, c_lneg, c_ic, c_lc, c_iload, c_lload, c_aload, c_istore, c_astore, c_lstore, c_iinc, c_dup, c_dup2, c_goto, c_i2l, c_l2i, c_idiv, c_ldiv, c_lrem, c_lshl, c_gi, c_gl, c_gr, c_pi, c_pz, c_pl, c_iald, c_lald, c_bald, c_aald, c_iast, c_last, c_bast, c_callV, c_callS, c_mmax, c_mmin, c_mabs, c_mmaxl, c_mabsl, c_iret, c_zret, c_lret, c_vret, c_tsw, c_lsw, c_icmp_eq, c_icmp_ne, c_icmp_lt, c_icmp_ge, c_icmp_gt, c_icmp_le, c_if_eq, c_if_ne, c_if_lt, c_if_ge, c_if_gt, c_if_le, c_lcmp_eq, c_lcmp_ne, c_lcmp_lt, c_lcmp_ge, c_lcmp_gt, c_lcmp_le, c_lraw_eq, c_lraw_lt, c_lraw_ge, c_lraw_gt, c_lraw_le, acat, scat, tswP, pops, st1, st2, klo, pad, elo, List.getElem?_cons_zero, List.getElem?_cons_succ, List.getElem?_nil, List.set_cons_zero, List.set_cons_succ, List.set_nil, Option.toList_some, Option.toList_none, List.cons_append, List.nil_append, List.length_cons, List.length_nil, stc_ap, stm_ap, false_and, and_false, and_self, true_and, and_true, Nat.reduceEqDiff, reduceIte, al_12, al_13, al_14, al_15, al_16, al_17, al_18, al_19, al_20, al_21, al_22, al_23, al_24, al_25, al_26, al_27, al_28, al_29, al_30, al_31, al_32, al_33, al_34, al_35, al_36, al_37, al_38, al_39, al_40, al_41, al_42, al_43, al_44, al_45, al_46, al_47, al_48, al_49, al_50, al_51, al_52, al_53, al_54, al_55, at_12, at_13, at_14, at_15, at_16, at_17, at_18, at_19, at_20, at_21, at_22, at_23, at_24, at_25, at_26, at_27, at_28, at_29, at_30, at_31, at_32, at_33, at_34, at_35, at_36, at_37, at_38, at_39, at_40, at_41, at_42, at_43, at_44, at_45, at_46, at_47, at_48, at_49, at_50, at_51, at_52, at_53, at_54, at_55, cn_0, cn_1, cn_2, cn_3, cn_4, cn_5, cn_6, cn_7, cn_8, cn_9, cn_10, cn_11, cn_12, cn_13, cn_14, cn_15, cn_16, cn_17, cn_18, cn_19, cn_20, cn_21, cn_22, cn_23, cn_24, cn_25, cn_26, cn_27, cn_28, cn_29, cn_30, cn_31, cn_32, cn_33, cn_34, cn_35, cn_36, cn_37, cn_38, cn_39, cn_40, cn_41, cn_42, cn_43, cn_44, cn_45, cn_46, cn_47, cn_48, cn_49, cn_50, cn_51, cn_52, cn_53, cn_54, cn_55, Nat.reduceAdd, Nat.reduceLT, Nat.reduceLeDiff, Nat.lt_add_one, Nat.zero_lt_succ, Nat.reduceSub, ite_true, ite_false, reduceCtorEq, forall_const, Nat.reduceSucc, Nat.zero_add, Nat.add_zero, Nat.le_refl, Nat.zero_le, Nat.reducePow, Int.reduceNeg, Nat.reduceMul, eq_self, Int.cast_ofNat_Int, Int.toNat_natCast, iR, lR, Int.reduceEq, Int.reduceLT, Int.reduceLE, Int.reduceNe, not_false_eq_true, not_true_eq_false, false_implies, true_implies, Int.reduceAdd, Int.reduceSub, Int.reduceMul, Int.reduceToNat, implies_true, or_true, true_or, or_false, false_or, r44]
      exact ⟨by omega, fun y => ⟨by omega, h327 lo _ h5 (by rw [if_pos (by omega)])⟩, fun y => h327 lo _ h5 (by rw [if_neg (by omega)])⟩
    refine B_X11_span_274 C _ _ _ ?_
    simp only [c_iadd, c_isub, c_imul, c_ladd, c_lsub, c_lmul, c_ineg, c_lneg, c_ic, c_lc, c_iload, c_lload, c_aload, c_istore, c_astore, c_lstore, c_iinc, c_dup, c_dup2, c_goto, c_i2l, c_l2i, c_idiv, c_ldiv, c_lrem, c_lshl, c_gi, c_gl, c_gr, c_pi, c_pz, c_pl, c_iald, c_lald, c_bald, c_aald, c_iast, c_last, c_bast, c_callV, c_callS, c_mmax, c_mmin, c_mabs, c_mmaxl, c_mabsl, c_iret, c_zret, c_lret, c_vret, c_tsw, c_lsw, c_icmp_eq, c_icmp_ne, c_icmp_lt, c_icmp_ge, c_icmp_gt, c_icmp_le, c_if_eq, c_if_ne, c_if_lt, c_if_ge, c_if_gt, c_if_le, c_lcmp_eq, c_lcmp_ne, c_lcmp_lt, c_lcmp_ge, c_lcmp_gt, c_lcmp_le, c_lraw_eq, c_lraw_lt, c_lraw_ge, c_lraw_gt, c_lraw_le, acat, scat, tswP, pops, st1, st2, klo, pad, elo, List.getElem?_cons_zero, List.getElem?_cons_succ, List.getElem?_nil, List.set_cons_zero, List.set_cons_succ, List.set_nil, Option.toList_some, Option.toList_none, List.cons_append, List.nil_append, List.length_cons, List.length_nil, stc_ap, stm_ap, false_and, and_false, and_self, true_and, and_true, Nat.reduceEqDiff, reduceIte, al_12, al_13, al_14, al_15, al_16, al_17, al_18, al_19, al_20, al_21, al_22, al_23, al_24, al_25, al_26, al_27, al_28, al_29, al_30, al_31, al_32, al_33, al_34, al_35, al_36, al_37, al_38, al_39, al_40, al_41, al_42, al_43, al_44, al_45, al_46, al_47, al_48, al_49, al_50, al_51, al_52, al_53, al_54, al_55, at_12, at_13, at_14, at_15, at_16, at_17, at_18, at_19, at_20, at_21, at_22, at_23, at_24, at_25, at_26, at_27, at_28, at_29, at_30, at_31, at_32, at_33, at_34, at_35, at_36, at_37, at_38, at_39, at_40, at_41, at_42, at_43, at_44, at_45, at_46, at_47, at_48, at_49, at_50, at_51, at_52, at_53, at_54, at_55, cn_0, cn_1, cn_2, cn_3, cn_4, cn_5, cn_6, cn_7, cn_8, cn_9, cn_10, cn_11, cn_12, cn_13, cn_14, cn_15, cn_16, cn_17, cn_18, cn_19, cn_20, cn_21, cn_22, cn_23, cn_24, cn_25, cn_26, cn_27, cn_28, cn_29, cn_30, cn_31, cn_32, cn_33, cn_34, cn_35, cn_36, cn_37, cn_38, cn_39, cn_40, cn_41, cn_42, cn_43, cn_44, cn_45, cn_46, cn_47, cn_48, cn_49, cn_50, cn_51, cn_52, cn_53, cn_54, cn_55, Nat.reduceAdd, Nat.reduceLT, Nat.reduceLeDiff, Nat.lt_add_one, Nat.zero_lt_succ, Nat.reduceSub, ite_true, ite_false, reduceCtorEq, forall_const, Nat.reduceSucc, Nat.zero_add, Nat.add_zero, Nat.le_refl, Nat.zero_le, Nat.reducePow, Int.reduceNeg, Nat.reduceMul, eq_self, Int.cast_ofNat_Int, Int.toNat_natCast, iR, lR, Int.reduceEq, Int.reduceLT, Int.reduceLE, Int.reduceNe, not_false_eq_true, not_true_eq_false, false_implies, true_implies, Int.reduceAdd, Int.reduceSub, Int.reduceMul, Int.reduceToNat, implies_true, or_true, true_or, or_false, false_or, r44]
    exact ⟨by omega, fun y => ⟨by omega, h302 _ (by rw [if_pos (by omega)])⟩, fun y => h302 _ (by rw [if_neg (by omega)])⟩
  suffices hh : ∀ (t : Int) (M' : Mm), (M1 = M' ∧ (0 ≤ t ∧ t ≤ N) ∧ ∀ u : Nat, (u : Int) < t → 2 * q * wps k o (u + 1) ≤ p * TT) → J x 212 [some (zr 11 0), some (zi a), some (zi b), some (zi p), some (zi q), some (zi na), some (zi nb), some (zi N), some (zl TT), none, some (zi t), some (zl (wps k o (t.toNat + 1))), none] [] M' by
    exact hh 0 M1 ⟨rfl, by omega, fun u hu => by omega⟩
  refine loopU N _ _ ?_
  rintro t M' ⟨rfl, ht, hle⟩ ih
  have hws := wps_in k o (by omega) (t.toNat + 1)
  have hqw : 0 ≤ 2 * q * wps k o (t.toNat + 1) ∧ 2 * q * wps k o (t.toNat + 1) ≤ 2000 * (500 * 1099511627776) := by
    refine ⟨Int.mul_nonneg (by omega) (by omega), ?_⟩
    have a1 : 2 * q * wps k o (t.toNat + 1) ≤ 2000 * wps k o (t.toNat + 1) := Int.mul_le_mul_of_nonneg_right (by omega) (by omega)
    omega
  have h268 : ∀ v : Int, t < N → 2 * q * wps k o (t.toNat + 1) ≤ p * TT → v = wpn k o (t + 1) → J x 268 [some (zr 11 0), some (zi a), some (zi b), some (zi p), some (zi q), some (zi na), some (zi nb), some (zi N), some (zl TT), none, some (zi (t + 1)), some (zl (wps k o (t.toNat + 1))), none] [zl v, zl (wps k o (t.toNat + 1))] M1 := by
    intro v hlt hok hv
    refine B_X11_span_268 C _ _ _ ?_
    simp only [c_iadd, c_isub, c_imul, c_ladd, c_lsub, c_lmul, c_ineg, c_lneg, c_ic, c_lc, c_iload, c_lload, c_aload, c_istore, c_astore, c_lstore, c_iinc, c_dup, c_dup2, c_goto, c_i2l, c_l2i, c_idiv, c_ldiv, c_lrem, c_lshl, c_gi, c_gl, c_gr, c_pi, c_pz, c_pl, c_iald, c_lald, c_bald, c_aald, c_iast, c_last, c_bast, c_callV, c_callS, c_mmax, c_mmin, c_mabs, c_mmaxl, c_mabsl, c_iret, c_zret, c_lret, c_vret, c_tsw, c_lsw, c_icmp_eq, c_icmp_ne, c_icmp_lt, c_icmp_ge, c_icmp_gt, c_icmp_le, c_if_eq, c_if_ne, c_if_lt, c_if_ge, c_if_gt, c_if_le, c_lcmp_eq, c_lcmp_ne, c_lcmp_lt, c_lcmp_ge, c_lcmp_gt, c_lcmp_le, c_lraw_eq, c_lraw_lt, c_lraw_ge, c_lraw_gt, c_lraw_le, acat, scat, tswP, pops, st1, st2, klo, pad, elo, List.getElem?_cons_zero, List.getElem?_cons_succ, List.getElem?_nil, List.set_cons_zero, List.set_cons_succ, List.set_nil, Option.toList_some, Option.toList_none, List.cons_append, List.nil_append, List.length_cons, List.length_nil, stc_ap, stm_ap, false_and, and_false, and_self, true_and, and_true, Nat.reduceEqDiff, reduceIte, al_12, al_13, al_14, al_15, al_16, al_17, al_18, al_19, al_20, al_21, al_22, al_23, al_24, al_25, al_26, al_27, al_28, al_29, al_30, al_31, al_32, al_33, al_34, al_35, al_36, al_37, al_38, al_39, al_40, al_41, al_42, al_43, al_44, al_45, al_46, al_47, al_48, al_49, al_50, al_51, al_52, al_53, al_54, al_55, at_12, at_13, at_14, at_15, at_16, at_17, at_18, at_19, at_20, at_21, at_22, at_23, at_24, at_25, at_26, at_27, at_28, at_29, at_30, at_31, at_32, at_33, at_34, at_35, at_36, at_37, at_38, at_39, at_40, at_41, at_42, at_43, at_44, at_45, at_46, at_47, at_48, at_49, at_50, at_51, at_52, at_53, at_54, at_55, cn_0, cn_1, cn_2, cn_3, cn_4, cn_5, cn_6, cn_7, cn_8, cn_9, cn_10, cn_11, cn_12, cn_13, cn_14, cn_15, cn_16, cn_17, cn_18, cn_19, cn_20, cn_21, cn_22, cn_23, cn_24, cn_25, cn_26, cn_27, cn_28, cn_29, cn_30, cn_31, cn_32, cn_33, cn_34, cn_35, cn_36, cn_37, cn_38, cn_39, cn_40, cn_41, cn_42, cn_43, cn_44, cn_45, cn_46, cn_47, cn_48, cn_49, cn_50, cn_51, cn_52, cn_53, cn_54, cn_55, Nat.reduceAdd, Nat.reduceLT, Nat.reduceLeDiff, Nat.lt_add_one, Nat.zero_lt_succ, Nat.reduceSub, ite_true, ite_false, reduceCtorEq, forall_const, Nat.reduceSucc, Nat.zero_add, Nat.add_zero, Nat.le_refl, Nat.zero_le, Nat.reducePow, Int.reduceNeg, Nat.reduceMul, eq_self, Int.cast_ofNat_Int, Int.toNat_natCast, iR, lR, Int.reduceEq, Int.reduceLT, Int.reduceLE, Int.reduceNe, not_false_eq_true, not_true_eq_false, false_implies, true_implies, Int.reduceAdd, Int.reduceSub, Int.reduceMul, Int.reduceToNat, implies_true, or_true, true_or, or_false, false_or]
    have := ih hlt M1 ⟨rfl, by omega, fun u hu => ?_⟩
    · rw [show (t + 1).toNat + 1 = (t.toNat + 1) + 1 by omega, show wps k o (t.toNat + 1 + 1) = wps k o (t.toNat + 1) + wpn k o ((t.toNat + 1 : Nat) : Int) from rfl, show ((t.toNat + 1 : Nat) : Int) = t + 1 by omega, ← hv] at this
      exact this
    · by_cases e : u = t.toNat
      · rw [e]; exact hok
      · exact hle u (by omega)
  refine B_X11_span_212 C _ _ _ ?_
  simp only [c_iadd, c_isub, c_imul, c_ladd, c_lsub, c_lmul, c_ineg, c_lneg, c_ic, c_lc, c_iload, c_lload, c_aload, c_istore, c_astore, c_lstore, c_iinc, c_dup, c_dup2, c_goto, c_i2l, c_l2i, c_idiv, c_ldiv, c_lrem, c_lshl, c_gi, c_gl, c_gr, c_pi, c_pz, c_pl, c_iald, c_lald, c_bald, c_aald, c_iast, c_last, c_bast, c_callV, c_callS, c_mmax, c_mmin, c_mabs, c_mmaxl, c_mabsl, c_iret, c_zret, c_lret, c_vret, c_tsw, c_lsw, c_icmp_eq, c_icmp_ne, c_icmp_lt, c_icmp_ge, c_icmp_gt, c_icmp_le, c_if_eq, c_if_ne, c_if_lt, c_if_ge, c_if_gt, c_if_le, c_lcmp_eq, c_lcmp_ne, c_lcmp_lt, c_lcmp_ge, c_lcmp_gt, c_lcmp_le, c_lraw_eq, c_lraw_lt, c_lraw_ge, c_lraw_gt, c_lraw_le, acat, scat, tswP, pops, st1, st2, klo, pad, elo, List.getElem?_cons_zero, List.getElem?_cons_succ, List.getElem?_nil, List.set_cons_zero, List.set_cons_succ, List.set_nil, Option.toList_some, Option.toList_none, List.cons_append, List.nil_append, List.length_cons, List.length_nil, stc_ap, stm_ap, false_and, and_false, and_self, true_and, and_true, Nat.reduceEqDiff, reduceIte, al_12, al_13, al_14, al_15, al_16, al_17, al_18, al_19, al_20, al_21, al_22, al_23, al_24, al_25, al_26, al_27, al_28, al_29, al_30, al_31, al_32, al_33, al_34, al_35, al_36, al_37, al_38, al_39, al_40, al_41, al_42, al_43, al_44, al_45, al_46, al_47, al_48, al_49, al_50, al_51, al_52, al_53, al_54, al_55, at_12, at_13, at_14, at_15, at_16, at_17, at_18, at_19, at_20, at_21, at_22, at_23, at_24, at_25, at_26, at_27, at_28, at_29, at_30, at_31, at_32, at_33, at_34, at_35, at_36, at_37, at_38, at_39, at_40, at_41, at_42, at_43, at_44, at_45, at_46, at_47, at_48, at_49, at_50, at_51, at_52, at_53, at_54, at_55, cn_0, cn_1, cn_2, cn_3, cn_4, cn_5, cn_6, cn_7, cn_8, cn_9, cn_10, cn_11, cn_12, cn_13, cn_14, cn_15, cn_16, cn_17, cn_18, cn_19, cn_20, cn_21, cn_22, cn_23, cn_24, cn_25, cn_26, cn_27, cn_28, cn_29, cn_30, cn_31, cn_32, cn_33, cn_34, cn_35, cn_36, cn_37, cn_38, cn_39, cn_40, cn_41, cn_42, cn_43, cn_44, cn_45, cn_46, cn_47, cn_48, cn_49, cn_50, cn_51, cn_52, cn_53, cn_54, cn_55, Nat.reduceAdd, Nat.reduceLT, Nat.reduceLeDiff, Nat.lt_add_one, Nat.zero_lt_succ, Nat.reduceSub, ite_true, ite_false, reduceCtorEq, forall_const, Nat.reduceSucc, Nat.zero_add, Nat.add_zero, Nat.le_refl, Nat.zero_le, Nat.reducePow, Int.reduceNeg, Nat.reduceMul, eq_self, Int.cast_ofNat_Int, Int.toNat_natCast, iR, lR, Int.reduceEq, Int.reduceLT, Int.reduceLE, Int.reduceNe, not_false_eq_true, not_true_eq_false, false_implies, true_implies, Int.reduceAdd, Int.reduceSub, Int.reduceMul, Int.reduceToNat, implies_true, or_true, true_or, or_false, false_or, r34]
  refine ⟨by omega, by omega, fun y => h274 _ _ _ ⟨by rw [hko]; omega, fun u hu => by rw [← hT]; exact hle u hu, fun y2 => by rw [hko] at y2; omega⟩, fun y => ⟨by omega, by omega, by omega, by omega, fun y2 => h274 _ _ _ ⟨by rw [hko]; omega, fun u hu => by rw [← hT]; exact hle u hu, fun _ => by rw [← hT]; omega⟩, fun y2 => ⟨by omega, by omega, fun y3 => by omega, fun y3 => ⟨by omega, h268 _ (by omega) (by omega) ?_⟩⟩⟩⟩
  rw [show (20001 * na + (t + 1)).toNat = 20001 * k + (t + 1).toNat by omega, hcp (t + 1).toNat (by omega), show (((t + 1).toNat : Nat) : Int) = t + 1 by omega]
