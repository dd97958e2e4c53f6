/-! CloudBench$Grid: columns, tally, figure; CloudBench.margins -/
def TSr (φ : Int → Int → Int) (cs : Nat → Int) (k c : Nat) (t m l w fx : Int) : Nat → Int := sm (fun x => TSx φ cs k c t m l (w * chI (cs c) x) (if c = 0 then (x : Int) else fx) x ((cs c).toNat - x + 1))
theorem TS_r (φ : Int → Int → Int) (cs : Nat → Int) (k c : Nat) (t m l w fx : Int) : TS φ cs (k + 1) c t m l w fx = TSr φ cs k c t m l w fx ((cs c).toNat + 1) := TS_x φ cs k c t m l w fx
theorem fc_step (l : Launch) (K d : Nat) (hd2 : 2 ≤ d) (hFB : ∀ K' : Nat, K = K' + 1 → MetT l yX1_fillBelow cX1_fillBelow 11 none (d - 1) (T_X1_fillBelow K')) : MetT l yX1_fillColumn cX1_fillColumn 10 none d (T_X1_fillColumn K) := by
  refine MetT.of (by decide +kernel) (fun as M P h => by unfold T_X1_fillColumn at h; split at h <;> first | (simp [elo]; done) | exact h.elim) (fun x as M P h C hR => ?_)
  unfold T_X1_fillColumn at h
  split at h
  rotate_left
  · exact h.elim
  rename_i g s c t m lw w
  obtain ⟨rfl, rfl, hG, hc, hF, h7, hP⟩ := h
  obtain ⟨q1, q2, q3, q4, q5⟩ := id hG
  obtain ⟨f1, f2, f3, f4⟩ := id hF
  obtain ⟨cn, hcn⟩ : ∃ cn : Nat, c = cn := ⟨c.toNat, by omega⟩
  subst hcn
  rw [show ((cn : Int)).toNat = cn by omega] at *
  obtain ⟨k, hk⟩ : ∃ k : Nat, (M 1 0 5).toNat - cn = k + 1 := ⟨(M 1 0 5).toNat - cn - 1, by omega⟩
  rw [hk] at f2 hP
  obtain ⟨s1, s2, s3, s4⟩ := clS_le q3 (c := cn) (k := k) (by omega)
  rw [s1] at f2
  have hcs := q3 cn (by omega)
  refine B_X1_fillColumn_0 C hR (by omega) (k_X1_waysToSplit l) (by omega) (k_X1_note l) (by omega) _ _ _ ?_
  simp only [c_iadd, c_isub, c_imul, c_ladd, c_lsub, c_lmul, c_ineg, c_lneg, c_ic, c_lc, c_iload, c_lload, c_aload, c_istore, c_astore, c_lstore, c_iinc, c_dup, c_dup2, c_goto, c_i2l, c_l2i, c_idiv, c_ldiv, c_lrem, c_lshl, c_gi, c_gl, c_gr, c_pi, c_pz, c_pl, c_iald, c_lald, c_bald, c_aald, c_iast, c_last, c_bast, c_callV, c_callS, c_mmax, c_mmin, c_mabs, c_mmaxl, c_mabsl, c_iret, c_zret, c_lret, c_vret, c_tsw, c_lsw, c_icmp_eq, c_icmp_ne, c_icmp_lt, c_icmp_ge, c_icmp_gt, c_icmp_le, c_if_eq, c_if_ne, c_if_lt, c_if_ge, c_if_gt, c_if_le, c_lcmp_eq, c_lcmp_ne, c_lcmp_lt, c_lcmp_ge, c_lcmp_gt, c_lcmp_le, c_lraw_eq, c_lraw_lt, c_lraw_ge, c_lraw_gt, c_lraw_le, acat, scat, tswP, pops, st1, st2, klo, pad, elo, List.getElem?_cons_zero, List.getElem?_cons_succ, List.getElem?_nil, List.set_cons_zero, List.set_cons_succ, List.set_nil, Option.toList_some, Option.toList_none, List.cons_append, List.nil_append, List.length_cons, List.length_nil, stc_ap, stm_ap, false_and, and_false, and_self, true_and, and_true, Nat.reduceEqDiff, reduceIte, al_12, al_13, al_14, al_15, al_16, al_17, al_18, al_19, al_20, al_21, al_22, al_23, al_24, al_25, al_26, al_27, al_28, al_29, al_30, al_31, al_32, al_33, al_34, al_35, al_36, al_37, al_38, al_39, al_40, al_41, al_42, al_43, al_44, al_45, al_46, al_47, al_48, al_49, al_50, al_51, al_52, al_53, al_54, al_55, at_12, at_13, at_14, at_15, at_16, at_17, at_18, at_19, at_20, at_21, at_22, at_23, at_24, at_25, at_26, at_27, at_28, at_29, at_30, at_31, at_32, at_33, at_34, at_35, at_36, at_37, at_38, at_39, at_40, at_41, at_42, at_43, at_44, at_45, at_46, at_47, at_48, at_49, at_50, at_51, at_52, at_53, at_54, at_55, cn_0, cn_1, cn_2, cn_3, cn_4, cn_5, cn_6, cn_7, cn_8, cn_9, cn_10, cn_11, cn_12, cn_13, cn_14, cn_15, cn_16, cn_17, cn_18, cn_19, cn_20, cn_21, cn_22, cn_23, cn_24, cn_25, cn_26, cn_27, cn_28, cn_29, cn_30, cn_31, cn_32, cn_33, cn_34, cn_35, cn_36, cn_37, cn_38, cn_39, cn_40, cn_41, cn_42, cn_43, cn_44, cn_45, cn_46, cn_47, cn_48, cn_49, cn_50, cn_51, cn_52, cn_53, cn_54, cn_55, Nat.reduceAdd, Nat.reduceLT, Nat.reduceLeDiff, Nat.lt_add_one, Nat.zero_lt_succ, Nat.reduceSub, ite_true, ite_false, reduceCtorEq, forall_const, Nat.reduceSucc, Nat.zero_add, Nat.add_zero, Nat.le_refl, Nat.zero_le, Nat.reducePow, Int.reduceNeg, Nat.reduceMul, eq_self, Int.cast_ofNat_Int, Int.toNat_natCast, iR, lR, Int.reduceEq, Int.reduceLT, Int.reduceLE, Int.reduceNe, not_false_eq_true, not_true_eq_false, false_implies, true_implies, Int.reduceAdd, Int.reduceSub, Int.reduceMul, Int.reduceToNat, implies_true, or_true, true_or, or_false, false_or, T_X1_waysToSplit, T_X1_note]
  generalize hS : M 15 0 cn = S at *
  refine ⟨by omega, by omega, fun z => ⟨by omega, by omega, by omega, ?_⟩, fun z => ?_⟩
  rotate_left
  · -- the last column
    have ek : k = 0 := by omega
    subst ek
    have e0 : clS (M 15 0) (cn + 1) 0 = 0 := rfl
    have en : (M 1 0 5 - 1).toNat = cn := by omega
    rw [en, hS]
    have t1 := tri_nn S t m
    have t2 := tri_le hcs t m
    have hw : 0 ≤ w * tri S t m ∧ w * tri S t m < 9223372036854775808 := by
      refine ⟨Int.mul_nonneg f4.1 t1, ?_⟩
      have u1 : w * tri S t m ≤ b3 (clS (M 15 0) 0 cn) * tri S t m := Int.mul_le_mul_of_nonneg_right f4.2 t1
      have u2 : b3 (clS (M 15 0) 0 cn) * tri S t m ≤ b3 (clS (M 15 0) 0 cn) * b3 S := Int.mul_le_mul_of_nonneg_left t2 (by have := b3_pos (clS (M 15 0) 0 cn); omega)
      have u3 := b3_mul s4 hcs
      have u4 := b3_40 (n := clS (M 15 0) 0 cn + S) (by omega)
      omega
    have hl : ∀ φ : Int → Int → Int, TS φ (M 15 0) (0 + 1) cn t m lw w (M 1 0 7) = φ (M 1 0 7) (w * tri S t m) := fun φ => by
      have := TS_last φ (M 15 0) (c := cn) (t := t) (m := m) (l := lw) (w := w) (fx := M 1 0 7) f1.1 f1.2.1 f1.2.2 (by omega) (by omega)
      rw [hS] at this
      exact this
    have h7b := h7 (by omega)
    refine ⟨by omega, q1, by omega, by omega, by omega, by omega, q4, by omega, by omega, fun M' hA h7' => hP M' ?_ (fun _ => h7')⟩
    rw [hl, hl, hl, hl]
    exact hA
  · -- columns behind it
    obtain ⟨K', hK'⟩ : ∃ K', K = K' + 1 := ⟨K - 1, by omega⟩
    have hfb := hFB K' hK'
    have hz : ∀ (φ : Int → Int → Int) (a b : Nat), a ≤ b → (∀ v : Nat, a ≤ v → v < b → (t < (v : Int) ∨ m + lw < S - v)) → TSr φ (M 15 0) k cn t m lw w (M 1 0 7) b = TSr φ (M 15 0) k cn t m lw w (M 1 0 7) a := by
      intro φ a b hab h
      refine sm_ext hab fun v v1 v2 => ?_
      unfold TSx
      refine sm_z fun y hy => ?_
      have := h v v1 v2
      rw [hS, if_neg (by omega)]
    suffices hh : ∀ (v : Int) (M' : Mm), ((max 0 (S - m - lw) ≤ v ∧ (v ≤ min S t + 1 ∨ v = max 0 (S - m - lw))) ∧ AC M M' (TSr (phU (M 1 0 8)) (M 15 0) k cn t m lw w (M 1 0 7) v.toNat) (TSr phN (M 15 0) k cn t m lw w (M 1 0 7) v.toNat) (TSr (phA (M 13 0 0)) (M 15 0) k cn t m lw w (M 1 0 7) v.toNat) (TSr (phB (M 13 0 0)) (M 15 0) k cn t m lw w (M 1 0 7) v.toNat) ∧ (¬ (cn : Int) = 0 → M' 1 0 7 = M 1 0 7)) → J x 64 [some (zr 1 0), some (zi cn), some (zi t), some (zi m), some (zi lw), some (zl w), none, some (zi S), some (zi (min S t)), some (zi v)] [] M' by
      refine hh _ M ⟨⟨Int.le_refl _, Or.inr rfl⟩, ?_, fun _ => rfl⟩
      have e0 : ∀ φ : Int → Int → Int, TSr φ (M 15 0) k cn t m lw w (M 1 0 7) (max 0 (S - m - lw)).toNat = 0 := fun φ => by
        rw [hz φ 0 _ (Nat.zero_le _) (fun y y1 y2 => by omega)]
        rfl
      rw [e0, e0, e0, e0]
      exact AC.rf M
    refine loopU (min S t + 1) _ _ ?_
    rintro v M' ⟨hv, hA, h7'⟩ ih
    -- the call
    have h81 : ∀ M2 : Mm, v ≤ min S t → AC M M2 (TSr (phU (M 1 0 8)) (M 15 0) k cn t m lw w (M 1 0 7) v.toNat) (TSr phN (M 15 0) k cn t m lw w (M 1 0 7) v.toNat) (TSr (phA (M 13 0 0)) (M 15 0) k cn t m lw w (M 1 0 7) v.toNat) (TSr (phB (M 13 0 0)) (M 15 0) k cn t m lw w (M 1 0 7) v.toNat) → M2 1 0 7 = (if cn = 0 then v else M 1 0 7) → J x 81 [some (zr 1 0), some (zi cn), some (zi t), some (zi m), some (zi lw), some (zl w), none, some (zi S), some (zi (min S t)), some (zi v)] [] M2 := by
      intro M2 hvl hA2 h72
      have hG2 := hG.ac hA2
      have a1 := hA2.1
      have a2 := hA2.2.1
      have c15 : M2 15 = M 15 := a1 15 (by decide)
      have c13 : M2 13 = M 13 := a1 13 (by decide)
      have c5 : M2 1 0 5 = M 1 0 5 := a2 0 5 (by omega)
      have c8 : M2 1 0 8 = M 1 0 8 := a2 0 8 (by omega)
      refine B_X1_fillColumn_81 C (k_X0_of l) (by omega) hfb (by omega) _ _ _ ?_
      simp only [c_iadd, c_isub, c_imul, c_ladd, c_lsub, c_lmul, c_ineg, c_lneg, c_ic, c_lc, c_iload, c_lload, c_aload, c_istore, c_astore, c_lstore, c_iinc, c_dup, c_dup2, c_goto, c_i2l, c_l2i, c_idiv, c_ldiv, c_lrem, c_lshl, c_gi, c_gl, c_gr, c_pi, c_pz, c_pl, c_iald, c_lald, c_bald, c_aald, c_iast, c_last, c_bast, c_callV, c_callS, c_mmax, c_mmin, c_mabs, c_mmaxl, c_mabsl, c_iret, c_zret, c_lret, c_vret, c_tsw, c_lsw, c_icmp_eq, c_icmp_ne, c_icmp_lt, c_icmp_ge, c_icmp_gt, c_icmp_le, c_if_eq, c_if_ne, c_if_lt, c_if_ge, c_if_gt, c_if_le, c_lcmp_eq, c_lcmp_ne, c_lcmp_lt, c_lcmp_ge, c_lcmp_gt, c_lcmp_le, c_lraw_eq, c_lraw_lt, c_lraw_ge, c_lraw_gt, c_lraw_le, acat, scat, tswP, pops, st1, st2, klo, pad, elo, List.getElem?_cons_zero, List.getElem?_cons_succ, List.getElem?_nil, List.set_cons_zero, List.set_cons_succ, List.set_nil, Option.toList_some, Option.toList_none, List.cons_append, List.nil_append, List.length_cons, List.length_nil, stc_ap, stm_ap, false_and, and_false, and_self, true_and, and_true, Nat.reduceEqDiff, reduceIte, al_12, al_13, al_14, al_15, al_16, al_17, al_18, al_19, al_20, al_21, al_22, al_23, al_24, al_25, al_26, al_27, al_28, al_29, al_30, al_31, al_32, al_33, al_34, al_35, al_36, al_37, al_38, al_39, al_40, al_41, al_42, al_43, al_44, al_45, al_46, al_47, al_48, al_49, al_50, al_51, al_52, al_53, al_54, al_55, at_12, at_13, at_14, at_15, at_16, at_17, at_18, at_19, at_20, at_21, at_22, at_23, at_24, at_25, at_26, at_27, at_28, at_29, at_30, at_31, at_32, at_33, at_34, at_35, at_36, at_37, at_38, at_39, at_40, at_41, at_42, at_43, at_44, at_45, at_46, at_47, at_48, at_49, at_50, at_51, at_52, at_53, at_54, at_55, cn_0, cn_1, cn_2, cn_3, cn_4, cn_5, cn_6, cn_7, cn_8, cn_9, cn_10, cn_11, cn_12, cn_13, cn_14, cn_15, cn_16, cn_17, cn_18, cn_19, cn_20, cn_21, cn_22, cn_23, cn_24, cn_25, cn_26, cn_27, cn_28, cn_29, cn_30, cn_31, cn_32, cn_33, cn_34, cn_35, cn_36, cn_37, cn_38, cn_39, cn_40, cn_41, cn_42, cn_43, cn_44, cn_45, cn_46, cn_47, cn_48, cn_49, cn_50, cn_51, cn_52, cn_53, cn_54, cn_55, Nat.reduceAdd, Nat.reduceLT, Nat.reduceLeDiff, Nat.lt_add_one, Nat.zero_lt_succ, Nat.reduceSub, ite_true, ite_false, reduceCtorEq, forall_const, Nat.reduceSucc, Nat.zero_add, Nat.add_zero, Nat.le_refl, Nat.zero_le, Nat.reducePow, Int.reduceNeg, Nat.reduceMul, eq_self, Int.cast_ofNat_Int, Int.toNat_natCast, iR, lR, Int.reduceEq, Int.reduceLT, Int.reduceLE, Int.reduceNe, not_false_eq_true, not_true_eq_false, false_implies, true_implies, Int.reduceAdd, Int.reduceSub, Int.reduceMul, Int.reduceToNat, implies_true, or_true, true_or, or_false, false_or, T_X0_of, T_X1_fillBelow, c5, c8, c15, c13]
      rw [hS]
      refine ⟨hG2.1, by omega, by omega, hG2, by omega, ⟨w, ?_, rfl⟩, by omega, ?_, fun M3 hA3 h73 => ?_⟩
      · unfold FB
        rw [c15, c5, hk, s1]
        exact ⟨f1, by omega, f3, f4⟩
      · rw [h72]
        split
        · omega
        · exact h7 (by omega)
      · have hstp : ∀ φ : Int → Int → Int, TSr φ (M 15 0) k cn t m lw w (M 1 0 7) (v + 1).toNat = TSr φ (M 15 0) k cn t m lw w (M 1 0 7) v.toNat + TSx φ (M 15 0) ((M 1 0 5).toNat - cn - 1) cn t m lw (w * chI S v) (M2 1 0 7) v.toNat (S.toNat - v.toNat + 1) := fun φ => by
          rw [show (v + 1).toNat = v.toNat + 1 by omega, show (M 1 0 5).toNat - cn - 1 = k by omega, h72]
          unfold TSr
          rw [sm_s, hS, show ((v.toNat : Nat) : Int) = v by omega]
        refine ih (by omega) M3 ⟨⟨by omega, Or.inl (by omega)⟩, ?_, fun hne => ?_⟩
        · rw [hstp, hstp, hstp, hstp]
          exact hA2.tr hA3
        · rw [h73, h72, if_neg (by omega)]
    refine B_X1_fillColumn_64 C hR _ _ _ ?_
    simp only [c_iadd, c_isub, c_imul, c_ladd, c_lsub, c_lmul, c_ineg, c_lneg, c_ic, c_lc, c_iload, c_lload, c_aload, c_istore, c_astore, c_lstore, c_iinc, c_dup, c_dup2, c_goto, c_i2l, c_l2i, c_idiv, c_ldiv, c_lrem, c_lshl, c_gi, c_gl, c_gr, c_pi, c_pz, c_pl, c_iald, c_lald, c_bald, c_aald, c_iast, c_last, c_bast, c_callV, c_callS, c_mmax, c_mmin, c_mabs, c_mmaxl, c_mabsl, c_iret, c_zret, c_lret, c_vret, c_tsw, c_lsw, c_icmp_eq, c_icmp_ne, c_icmp_lt, c_icmp_ge, c_icmp_gt, c_icmp_le, c_if_eq, c_if_ne, c_if_lt, c_if_ge, c_if_gt, c_if_le, c_lcmp_eq, c_lcmp_ne, c_lcmp_lt, c_lcmp_ge, c_lcmp_gt, c_lcmp_le, c_lraw_eq, c_lraw_lt, c_lraw_ge, c_lraw_gt, c_lraw_le, acat, scat, tswP, pops, st1, st2, klo, pad, elo, List.getElem?_cons_zero, List.getElem?_cons_succ, List.getElem?_nil, List.set_cons_zero, List.set_cons_succ, List.set_nil, Option.toList_some, Option.toList_none, List.cons_append, List.nil_append, List.length_cons, List.length_nil, stc_ap, stm_ap, false_and, and_false, and_self, true_and, and_true, Nat.reduceEqDiff, reduceIte, al_12, al_13, al_14, al_15, al_16, al_17, al_18, al_19, al_20, al_21, al_22, al_23, al_24, al_25, al_26, al_27, al_28, al_29, al_30, al_31, al_32, al_33, al_34, al_35, al_36, al_37, al_38, al_39, al_40, al_41, al_42, al_43, al_44, al_45, al_46, al_47, al_48, al_49, al_50, al_51, al_52, al_53, al_54, al_55, at_12, at_13, at_14, at_15, at_16, at_17, at_18, at_19, at_20, at_21, at_22, at_23, at_24, at_25, at_26, at_27, at_28, at_29, at_30, at_31, at_32, at_33, at_34, at_35, at_36, at_37, at_38, at_39, at_40, at_41, at_42, at_43, at_44, at_45, at_46, at_47, at_48, at_49, at_50, at_51, at_52, at_53, at_54, at_55, cn_0, cn_1, cn_2, cn_3, cn_4, cn_5, cn_6, cn_7, cn_8, cn_9, cn_10, cn_11, cn_12, cn_13, cn_14, cn_15, cn_16, cn_17, cn_18, cn_19, cn_20, cn_21, cn_22, cn_23, cn_24, cn_25, cn_26, cn_27, cn_28, cn_29, cn_30, cn_31, cn_32, cn_33, cn_34, cn_35, cn_36, cn_37, cn_38, cn_39, cn_40, cn_41, cn_42, cn_43, cn_44, cn_45, cn_46, cn_47, cn_48, cn_49, cn_50, cn_51, cn_52, cn_53, cn_54, cn_55, Nat.reduceAdd, Nat.reduceLT, Nat.reduceLeDiff, Nat.lt_add_one, Nat.zero_lt_succ, Nat.reduceSub, ite_true, ite_false, reduceCtorEq, forall_const, Nat.reduceSucc, Nat.zero_add, Nat.add_zero, Nat.le_refl, Nat.zero_le, Nat.reducePow, Int.reduceNeg, Nat.reduceMul, eq_self, Int.cast_ofNat_Int, Int.toNat_natCast, iR, lR, Int.reduceEq, Int.reduceLT, Int.reduceLE, Int.reduceNe, not_false_eq_true, not_true_eq_false, false_implies, true_implies, Int.reduceAdd, Int.reduceSub, Int.reduceMul, Int.reduceToNat, implies_true, or_true, true_or, or_false, false_or]
    refine ⟨by omega, by omega, fun z2 => ?_, fun z2 => ⟨by omega, fun z3 => h81 M' (by omega) hA ?_, fun z3 => h81 _ (by omega) (hA.set v) ?_⟩⟩
    · have e1 : ∀ φ : Int → Int → Int, TS φ (M 15 0) (k + 1) cn t m lw w (M 1 0 7) = TSr φ (M 15 0) k cn t m lw w (M 1 0 7) v.toNat := fun φ => by
        rw [TS_r, hS]
        rcases Nat.le_total v.toNat (S.toNat + 1) with hle | hle
        · exact hz φ _ _ hle (fun y' y1 y2 => by omega)
        · exact (hz φ _ _ hle (fun y' y1 y2 => by omega)).symm
      rw [e1, e1, e1, e1] at hP
      exact hP M' hA h7'
    · rw [if_neg (by omega)]
      exact h7' z3
    · rw [if_pos (by omega)]
      rfl
theorem k_X1_fillColumn (l : Launch) (K : Nat) : MetT l yX1_fillColumn cX1_fillColumn 10 none (2 * K + 2) (T_X1_fillColumn K) := by
  induction K with
  | zero => exact fc_step l 0 2 (by decide) (fun K' h => by omega)
  | succ K ih =>
    refine fc_step l (K + 1) (2 * (K + 1) + 2) (by omega) (fun K' h => ?_)
    obtain rfl : K' = K := by omega
    exact k_X1_fillBelow l K' (2 * K' + 2) ih
/-! figures of a row of counts -/
def rsF (f : Nat → Int) (i : Nat) : Int := sm (fun j => f (4 * i + j)) 4
def clF (f : Nat → Int) (j : Nat) : Int := sm (fun i => f (4 * i + j)) 3
def owF (f : Nat → Int) : Nat → Int
  | 0 => 1
  | j + 1 => owF f j * tri (clF f j) (f j) (f (4 + j))
def phW (w o c0 : Int) : Int → Int → Int := if w = 2 then phU o else if w = 3 then phN else if w = 4 then phA c0 else phB c0
def T_X1_tally : Ct := fun as M P => match as with
  | [.inr (some (g, s))] => g = 1 ∧ s = 0 ∧ GB M ∧ (∀ i : Nat, i < 3 → 0 ≤ M 14 0 i) ∧ M 14 0 0 + M 14 0 1 + M 14 0 2 = clS (M 15 0) 0 (M 1 0 5).toNat ∧ clS (M 15 0) 0 (M 1 0 5).toNat ≤ 40 ∧ ∀ M' : Mm, (∀ g' : Nat, ¬ g' = 1 → M' g' = M g') → (∀ k : Nat, k ≤ 6 → M' 1 0 k = M 1 0 k) → M' 1 0 9 = TS (phU (M 1 0 8)) (M 15 0) (M 1 0 5).toNat 0 (M 14 0 0) (M 14 0 1) (M 14 0 2) 1 0 → M' 1 0 10 = TS phN (M 15 0) (M 1 0 5).toNat 0 (M 14 0 0) (M 14 0 1) (M 14 0 2) 1 0 → M' 1 0 11 = TS (phA (M 13 0 0)) (M 15 0) (M 1 0 5).toNat 0 (M 14 0 0) (M 14 0 1) (M 14 0 2) 1 0 → M' 1 0 12 = TS (phB (M 13 0 0)) (M 15 0) (M 1 0 5).toNat 0 (M 14 0 0) (M 14 0 1) (M 14 0 2) 1 0 → P none M'
  | _ => False
theorem TS_fx (φ : Int → Int → Int) (cs : Nat → Int) {n : Nat} (hn : 1 ≤ n) (t m l w fx fx' : Int) : TS φ cs n 0 t m l w fx = TS φ cs n 0 t m l w fx' := by
  obtain ⟨k, rfl⟩ : ∃ k, n = k + 1 := ⟨n - 1, by omega⟩
  rfl
theorem k_X1_tally (l : Launch) : MetT l yX1_tally cX1_tally 1 none 9 T_X1_tally := by
  refine MetT.of (by decide +kernel) (fun as M P h => by unfold T_X1_tally at h; split at h <;> first | (simp [elo]; done) | exact h.elim) (fun x as M P h C hR => ?_)
  unfold T_X1_tally at h
  split at h
  rotate_left
  · exact h.elim
  rename_i g s
  obtain ⟨rfl, rfl, hG, h14, hS, h40, hP⟩ := h
  obtain ⟨q1, q2, q3, q4, q5⟩ := id hG
  refine B_X1_tally_0 C hR (k_X1_fillColumn l 3) (by decide) _ _ _ ?_
  simp only [c_iadd, c_isub, c_imul, c_ladd, c_lsub, c_lmul, c_ineg, c_lneg, c_ic, c_lc, c_iload, c_lload, c_aload, c_istore, c_astore, c_lstore, c_iinc, c_dup, c_dup2, c_goto, c_i2l, c_l2i, c_idiv, c_ldiv, c_lrem, c_lshl, c_gi, c_gl, c_gr, c_pi, c_pz, c_pl, c_iald, c_lald, c_bald, c_aald, c_iast, c_last, c_bast, c_callV, c_callS, c_mmax, c_mmin, c_mabs, c_mmaxl, c_mabsl, c_iret, c_zret, c_lret, c_vret, c_tsw, c_lsw, c_icmp_eq, c_icmp_ne, c_icmp_lt, c_icmp_ge, c_icmp_gt, c_icmp_le, c_if_eq, c_if_ne, c_if_lt, c_if_ge, c_if_gt, c_if_le, c_lcmp_eq, c_lcmp_ne, c_lcmp_lt, c_lcmp_ge, c_lcmp_gt, c_lcmp_le, c_lraw_eq, c_lraw_lt, c_lraw_ge, c_lraw_gt, c_lraw_le, acat, scat, tswP, pops, st1, st2, klo, pad, elo, List.getElem?_cons_zero, List.getElem?_cons_succ, List.getElem?_nil, List.set_cons_zero, List.set_cons_succ, List.set_nil, Option.toList_some, Option.toList_none, List.cons_append, List.nil_append, List.length_cons, List.length_nil, stc_ap, stm_ap, false_and, and_false, and_self, true_and, and_true, Nat.reduceEqDiff, reduceIte, al_12, al_13, al_14, al_15, al_16, al_17, al_18, al_19, al_20, al_21, al_22, al_23, al_24, al_25, al_26, al_27, al_28, al_29, al_30, al_31, al_32, al_33, al_34, al_35, al_36, al_37, al_38, al_39, al_40, al_41, al_42, al_43, al_44, al_45, al_46, al_47, al_48, al_49, al_50, al_51, al_52, al_53, al_54, al_55, at_12, at_13, at_14, at_15, at_16, at_17, at_18, at_19, at_20, at_21, at_22, at_23, at_24, at_25, at_26, at_27, at_28, at_29, at_30, at_31, at_32, at_33, at_34, at_35, at_36, at_37, at_38, at_39, at_40, at_41, at_42, at_43, at_44, at_45, at_46, at_47, at_48, at_49, at_50, at_51, at_52, at_53, at_54, at_55, cn_0, cn_1, cn_2, cn_3, cn_4, cn_5, cn_6, cn_7, cn_8, cn_9, cn_10, cn_11, cn_12, cn_13, cn_14, cn_15, cn_16, cn_17, cn_18, cn_19, cn_20, cn_21, cn_22, cn_23, cn_24, cn_25, cn_26, cn_27, cn_28, cn_29, cn_30, cn_31, cn_32, cn_33, cn_34, cn_35, cn_36, cn_37, cn_38, cn_39, cn_40, cn_41, cn_42, cn_43, cn_44, cn_45, cn_46, cn_47, cn_48, cn_49, cn_50, cn_51, cn_52, cn_53, cn_54, cn_55, Nat.reduceAdd, Nat.reduceLT, Nat.reduceLeDiff, Nat.lt_add_one, Nat.zero_lt_succ, Nat.reduceSub, ite_true, ite_false, reduceCtorEq, forall_const, Nat.reduceSucc, Nat.zero_add, Nat.add_zero, Nat.le_refl, Nat.zero_le, Nat.reducePow, Int.reduceNeg, Nat.reduceMul, eq_self, Int.cast_ofNat_Int, Int.toNat_natCast, iR, lR, Int.reduceEq, Int.reduceLT, Int.reduceLE, Int.reduceNe, not_false_eq_true, not_true_eq_false, false_implies, true_implies, Int.reduceAdd, Int.reduceSub, Int.reduceMul, Int.reduceToNat, implies_true, or_true, true_or, or_false, false_or, T_X1_fillColumn]
  have r0 := h14 0 (by decide)
  have r1 := h14 1 (by decide)
  have r2 := h14 2 (by decide)
  refine ⟨⟨q1, q2, q3, q4, q5⟩, by omega, ⟨⟨r0, r1, r2⟩, hS, ?_, (show (0 : Int) ≤ 1 ∧ (1 : Int) ≤ b3 0 by decide)⟩, fun M' hA => ?_⟩
  · show 0 + (M 14 0 0 + M 14 0 1 + M 14 0 2) ≤ 40
    omega
  · obtain ⟨p1, p2, p3, p4, p5, p6⟩ := hA
    refine hP M' (fun g' hg => ?_) (fun k hk => ?_) ?_ ?_ ?_ ?_
    · rw [p1 g' hg, stm_ne _ _ _ _ _ hg, stm_ne _ _ _ _ _ hg, stm_ne _ _ _ _ _ hg, stm_ne _ _ _ _ _ hg]
    · rw [p2 0 k (by omega), stm_ap, if_neg (by omega), stm_ap, if_neg (by omega), stm_ap, if_neg (by omega), stm_ap, if_neg (by omega)]
    · rw [p3, TS_fx _ _ (by omega) _ _ _ _ _ 0]; exact Int.zero_add _
    · rw [p4, TS_fx _ _ (by omega) _ _ _ _ _ 0]; exact Int.zero_add _
    · rw [p5, TS_fx _ _ (by omega) _ _ _ _ _ 0]; exact Int.zero_add _
    · rw [p6, TS_fx _ _ (by omega) _ _ _ _ _ 0]; exact Int.zero_add _
