/-! CloudBench$Grid -/
def T_X1_waysToSplit : Ct := fun as M P => match as with
  | [.inr (some (g, s)), .inl (.inl n), .inl (.inl a), .inl (.inl b)] => g = 1 ∧ s = 0 ∧ CI M ∧ (0 ≤ n ∧ n ≤ 40) ∧ (0 ≤ a ∧ a ≤ 40) ∧ iR b ∧ P (some (zl (tri n a b))) M
  | _ => False
theorem k_X1_waysToSplit (l : Launch) : MetT l yX1_waysToSplit cX1_waysToSplit 4 (some .long) 1 T_X1_waysToSplit := by
  refine MetT.of (by decide +kernel) (fun as M P h => by unfold T_X1_waysToSplit at h; split at h <;> first | (simp [elo]; done) | exact h.elim) (fun x as M P h C hR => ?_)
  unfold T_X1_waysToSplit at h
  split at h
  rotate_left
  · exact h.elim
  rename_i g s n a b
  obtain ⟨rfl, rfl, hC, hn, ha, hb, hP⟩ := h
  refine B_X1_waysToSplit_0 C hR (k_X0_of l) (by decide) _ _ _ ?_
  simp only [c_iadd, c_isub, c_imul, c_ladd, c_lsub, c_lmul, c_ineg, c_lneg, c_ic, c_lc, c_iload, c_lload, c_aload, c_istore, c_astore, c_lstore, c_iinc, c_dup, c_dup2, c_goto, c_i2l, c_l2i, c_idiv, c_ldiv, c_lrem, c_lshl, c_gi, c_gl, c_gr, c_pi, c_pz, c_pl, c_iald, c_lald, c_bald, c_aald, c_iast, c_last, c_bast, c_callV, c_callS, c_mmax, c_mmin, c_mabs, c_mmaxl, c_mabsl, c_iret, c_zret, c_lret, c_vret, c_tsw, c_lsw, c_icmp_eq, c_icmp_ne, c_icmp_lt, c_icmp_ge, c_icmp_gt, c_icmp_le, c_if_eq, c_if_ne, c_if_lt, c_if_ge, c_if_gt, c_if_le, c_lcmp_eq, c_lcmp_ne, c_lcmp_lt, c_lcmp_ge, c_lcmp_gt, c_lcmp_le, c_lraw_eq, c_lraw_lt, c_lraw_ge, c_lraw_gt, c_lraw_le, acat, scat, tswP, pops, st1, st2, klo, pad, elo, List.getElem?_cons_zero, List.getElem?_cons_succ, List.getElem?_nil, List.set_cons_zero, List.set_cons_succ, List.set_nil, Option.toList_some, Option.toList_none, List.cons_append, List.nil_append, List.length_cons, List.length_nil, stc_ap, stm_ap, false_and, and_false, and_self, true_and, and_true, Nat.reduceEqDiff, reduceIte, al_12, al_13, al_14, al_15, al_16, al_17, al_18, al_19, al_20, al_21, al_22, al_23, al_24, al_25, al_26, al_27, al_28, al_29, al_30, al_31, al_32, al_33, al_34, al_35, al_36, al_37, al_38, al_39, al_40, al_41, al_42, al_43, al_44, al_45, al_46, al_47, al_48, al_49, al_50, al_51, al_52, al_53, al_54, al_55, at_12, at_13, at_14, at_15, at_16, at_17, at_18, at_19, at_20, at_21, at_22, at_23, at_24, at_25, at_26, at_27, at_28, at_29, at_30, at_31, at_32, at_33, at_34, at_35, at_36, at_37, at_38, at_39, at_40, at_41, at_42, at_43, at_44, at_45, at_46, at_47, at_48, at_49, at_50, at_51, at_52, at_53, at_54, at_55, cn_0, cn_1, cn_2, cn_3, cn_4, cn_5, cn_6, cn_7, cn_8, cn_9, cn_10, cn_11, cn_12, cn_13, cn_14, cn_15, cn_16, cn_17, cn_18, cn_19, cn_20, cn_21, cn_22, cn_23, cn_24, cn_25, cn_26, cn_27, cn_28, cn_29, cn_30, cn_31, cn_32, cn_33, cn_34, cn_35, cn_36, cn_37, cn_38, cn_39, cn_40, cn_41, cn_42, cn_43, cn_44, cn_45, cn_46, cn_47, cn_48, cn_49, cn_50, cn_51, cn_52, cn_53, cn_54, cn_55, Nat.reduceAdd, Nat.reduceLT, Nat.reduceLeDiff, Nat.lt_add_one, Nat.zero_lt_succ, Nat.reduceSub, ite_true, ite_false, reduceCtorEq, forall_const, Nat.reduceSucc, Nat.zero_add, Nat.add_zero, Nat.le_refl, Nat.zero_le, Nat.reducePow, Int.reduceNeg, Nat.reduceMul, eq_self, Int.cast_ofNat_Int, Int.toNat_natCast, iR, lR, Int.reduceEq, Int.reduceLT, Int.reduceLE, Int.reduceNe, not_false_eq_true, not_true_eq_false, false_implies, true_implies, Int.reduceAdd, Int.reduceSub, Int.reduceMul, Int.reduceToNat, implies_true, or_true, true_or, or_false, false_or, T_X0_of]
  exact ⟨hC, by omega, by omega, hC, by omega, hb, hP⟩
/-- what a table adds -/
def phU (o _fx w : Int) : Int := if w ≤ o then w else 0
def phN (_fx _w : Int) : Int := 1
def phA (c0 fx w : Int) : Int := if c0 ≤ fx then w else 0
def phB (c0 fx w : Int) : Int := if fx ≤ c0 then w else 0
/-- the four sums have grown so -/
def AC (M M' : Mm) (u n a b : Int) : Prop := (∀ g' : Nat, ¬ g' = 1 → M' g' = M g') ∧ (∀ s k : Nat, ¬ (s = 0 ∧ (k = 7 ∨ k = 9 ∨ k = 10 ∨ k = 11 ∨ k = 12)) → M' 1 s k = M 1 s k) ∧ M' 1 0 9 = M 1 0 9 + u ∧ M' 1 0 10 = M 1 0 10 + n ∧ M' 1 0 11 = M 1 0 11 + a ∧ M' 1 0 12 = M 1 0 12 + b
theorem AC.rf (M : Mm) : AC M M 0 0 0 0 := ⟨fun _ _ => rfl, fun _ _ _ => rfl, by omega, by omega, by omega, by omega⟩
theorem AC.tr {M M' M2 : Mm} {u n a b u' n' a' b' : Int} (h : AC M M' u n a b) (h' : AC M' M2 u' n' a' b') : AC M M2 (u + u') (n + n') (a + a') (b + b') := by
  obtain ⟨p1, p2, p3, p4, p5, p6⟩ := h
  obtain ⟨q1, q2, q3, q4, q5, q6⟩ := h'
  exact ⟨fun g hg => (q1 g hg).trans (p1 g hg), fun s k hk => (q2 s k hk).trans (p2 s k hk), by omega, by omega, by omega, by omega⟩
theorem AC.eq {M M' : Mm} {u n a b u' n' a' b' : Int} (h : AC M M' u n a b) (e1 : u = u') (e2 : n = n') (e3 : a = a') (e4 : b = b') : AC M M' u' n' a' b' := by subst e1 e2 e3 e4; exact h
theorem AC.set {M M' : Mm} {u n a b : Int} (h : AC M M' u n a b) (v : Int) : AC M (stm M' 1 0 7 v) u n a b := by
  obtain ⟨p1, p2, p3, p4, p5, p6⟩ := h
  exact ⟨fun g hg => (stm_ne _ _ _ _ _ hg).trans (p1 g hg), fun s k hk => by rw [stm_ap, if_neg (fun z => hk ⟨z.2.1, Or.inl z.2.2⟩)]; exact p2 s k hk, p3, p4, p5, p6⟩
def T_X1_note : Ct := fun as M P => match as with
  | [.inr (some (g, s)), .inl (.inr w)] => g = 1 ∧ s = 0 ∧ lR w ∧ lR (M 1 0 8) ∧ iR (M 1 0 7) ∧ iR (M 13 0 0) ∧ ∀ M' : Mm, AC M M' (phU (M 1 0 8) (M 1 0 7) w) (phN (M 1 0 7) w) (phA (M 13 0 0) (M 1 0 7) w) (phB (M 13 0 0) (M 1 0 7) w) → M' 1 0 7 = M 1 0 7 → P none M'
  | _ => False
theorem k_X1_note (l : Launch) : MetT l yX1_note cX1_note 3 none 0 T_X1_note := by
  refine MetT.of (by decide +kernel) (fun as M P h => by unfold T_X1_note at h; split at h <;> first | (simp [elo]; done) | exact h.elim) (fun x as M P h C hR => ?_)
  unfold T_X1_note at h
  split at h
  rotate_left
  · exact h.elim
  rename_i g s w
  obtain ⟨rfl, rfl, hw, ho, hf, hc, hP⟩ := h
  have h52 : ∀ M2 : Mm, M2 13 = M 13 → M2 1 0 7 = M 1 0 7 → (M 1 0 7 ≤ M 13 0 0 → P none (stm M2 1 0 12 (M2 1 0 12 + w))) → (¬ M 1 0 7 ≤ M 13 0 0 → P none M2) → J x 52 [some (zr 1 0), some (zl w), none] [] M2 := by
    intro M2 e1 e2 g1 g2
    refine B_X1_note_52 C hR _ _ _ ?_
    simp only [c_iadd, c_isub, c_imul, c_ladd, c_lsub, c_lmul, c_ineg, c_lneg, c_ic, c_lc, c_iload, c_lload, c_aload, c_istore, c_astore, c_lstore, c_iinc, c_dup, c_dup2, c_goto, c_i2l, c_l2i, c_idiv, c_ldiv, c_lrem, c_lshl, c_gi, c_gl, c_gr, c_pi, c_pz, c_pl, c_iald, c_lald, c_bald, c_aald, c_iast, c_last, c_bast, c_callV, c_callS, c_mmax, c_mmin, c_mabs, c_mmaxl, c_mabsl, c_iret, c_zret, c_lret, c_vret, c_tsw, c_lsw, c_icmp_eq, c_icmp_ne, c_icmp_lt, c_icmp_ge, c_icmp_gt, c_icmp_le, c_if_eq, c_if_ne, c_if_lt, c_if_ge, c_if_gt, c_if_le, c_lcmp_eq, c_lcmp_ne, c_lcmp_lt, c_lcmp_ge, c_lcmp_gt, c_lcmp_le, c_lraw_eq, c_lraw_lt, c_lraw_ge, c_lraw_gt, c_lraw_le, acat, scat, tswP, pops, st1, st2, klo, pad, elo, List.getElem?_cons_zero, List.getElem?_cons_succ, List.getElem?_nil, List.set_cons_zero, List.set_cons_succ, List.set_nil, Option.toList_some, Option.toList_none, List.cons_append, List.nil_append, List.length_cons, List.length_nil, stc_ap, stm_ap, false_and, and_false, and_self, true_and, and_true, Nat.reduceEqDiff, reduceIte, al_12, al_13, al_14, al_15, al_16, al_17, al_18, al_19, al_20, al_21, al_22, al_23, al_24, al_25, al_26, al_27, al_28, al_29, al_30, al_31, al_32, al_33, al_34, al_35, al_36, al_37, al_38, al_39, al_40, al_41, al_42, al_43, al_44, al_45, al_46, al_47, al_48, al_49, al_50, al_51, al_52, al_53, al_54, al_55, at_12, at_13, at_14, at_15, at_16, at_17, at_18, at_19, at_20, at_21, at_22, at_23, at_24, at_25, at_26, at_27, at_28, at_29, at_30, at_31, at_32, at_33, at_34, at_35, at_36, at_37, at_38, at_39, at_40, at_41, at_42, at_43, at_44, at_45, at_46, at_47, at_48, at_49, at_50, at_51, at_52, at_53, at_54, at_55, cn_0, cn_1, cn_2, cn_3, cn_4, cn_5, cn_6, cn_7, cn_8, cn_9, cn_10, cn_11, cn_12, cn_13, cn_14, cn_15, cn_16, cn_17, cn_18, cn_19, cn_20, cn_21, cn_22, cn_23, cn_24, cn_25, cn_26, cn_27, cn_28, cn_29, cn_30, cn_31, cn_32, cn_33, cn_34, cn_35, cn_36, cn_37, cn_38, cn_39, cn_40, cn_41, cn_42, cn_43, cn_44, cn_45, cn_46, cn_47, cn_48, cn_49, cn_50, cn_51, cn_52, cn_53, cn_54, cn_55, Nat.reduceAdd, Nat.reduceLT, Nat.reduceLeDiff, Nat.lt_add_one, Nat.zero_lt_succ, Nat.reduceSub, ite_true, ite_false, reduceCtorEq, forall_const, Nat.reduceSucc, Nat.zero_add, Nat.add_zero, Nat.le_refl, Nat.zero_le, Nat.reducePow, Int.reduceNeg, Nat.reduceMul, eq_self, Int.cast_ofNat_Int, Int.toNat_natCast, iR, lR, Int.reduceEq, Int.reduceLT, Int.reduceLE, Int.reduceNe, not_false_eq_true, not_true_eq_false, false_implies, true_implies, Int.reduceAdd, Int.reduceSub, Int.reduceMul, Int.reduceToNat, implies_true, or_true, true_or, or_false, false_or, e1, e2]
    exact ⟨hf, hc, fun z => g2 (by omega), fun z => g1 (by omega)⟩
  have h29 : ∀ M2 : Mm, M2 13 = M 13 → M2 1 0 7 = M 1 0 7 → (M 13 0 0 ≤ M 1 0 7 → J x 52 [some (zr 1 0), some (zl w), none] [] (stm M2 1 0 11 (M2 1 0 11 + w))) → (¬ M 13 0 0 ≤ M 1 0 7 → J x 52 [some (zr 1 0), some (zl w), none] [] M2) → J x 29 [some (zr 1 0), some (zl w), none] [] M2 := by
    intro M2 e1 e2 g1 g2
    refine B_X1_note_29 C _ _ _ ?_
    simp only [c_iadd, c_isub, c_imul, c_ladd, c_lsub, c_lmul, c_ineg, c_lneg, c_ic, c_lc, c_iload, c_lload, c_aload, c_istore, c_astore, c_lstore, c_iinc, c_dup, c_dup2, c_goto, c_i2l, c_l2i, c_idiv, c_ldiv, c_lrem, c_lshl, c_gi, c_gl, c_gr, c_pi, c_pz, c_pl, c_iald, c_lald, c_bald, c_aald, c_iast, c_last, c_bast, c_callV, c_callS, c_mmax, c_mmin, c_mabs, c_mmaxl, c_mabsl, c_iret, c_zret, c_lret, c_vret, c_tsw, c_lsw, c_icmp_eq, c_icmp_ne, c_icmp_lt, c_icmp_ge, c_icmp_gt, c_icmp_le, c_if_eq, c_if_ne, c_if_lt, c_if_ge, c_if_gt, c_if_le, c_lcmp_eq, c_lcmp_ne, c_lcmp_lt, c_lcmp_ge, c_lcmp_gt, c_lcmp_le, c_lraw_eq, c_lraw_lt, c_lraw_ge, c_lraw_gt, c_lraw_le, acat, scat, tswP, pops, st1, st2, klo, pad, elo, List.getElem?_cons_zero, List.getElem?_cons_succ, List.getElem?_nil, List.set_cons_zero, List.set_cons_succ, List.set_nil, Option.toList_some, Option.toList_none, List.cons_append, List.nil_append, List.length_cons, List.length_nil, stc_ap, stm_ap, false_and, and_false, and_self, true_and, and_true, Nat.reduceEqDiff, reduceIte, al_12, al_13, al_14, al_15, al_16, al_17, al_18, al_19, al_20, al_21, al_22, al_23, al_24, al_25, al_26, al_27, al_28, al_29, al_30, al_31, al_32, al_33, al_34, al_35, al_36, al_37, al_38, al_39, al_40, al_41, al_42, al_43, al_44, al_45, al_46, al_47, al_48, al_49, al_50, al_51, al_52, al_53, al_54, al_55, at_12, at_13, at_14, at_15, at_16, at_17, at_18, at_19, at_20, at_21, at_22, at_23, at_24, at_25, at_26, at_27, at_28, at_29, at_30, at_31, at_32, at_33, at_34, at_35, at_36, at_37, at_38, at_39, at_40, at_41, at_42, at_43, at_44, at_45, at_46, at_47, at_48, at_49, at_50, at_51, at_52, at_53, at_54, at_55, cn_0, cn_1, cn_2, cn_3, cn_4, cn_5, cn_6, cn_7, cn_8, cn_9, cn_10, cn_11, cn_12, cn_13, cn_14, cn_15, cn_16, cn_17, cn_18, cn_19, cn_20, cn_21, cn_22, cn_23, cn_24, cn_25, cn_26, cn_27, cn_28, cn_29, cn_30, cn_31, cn_32, cn_33, cn_34, cn_35, cn_36, cn_37, cn_38, cn_39, cn_40, cn_41, cn_42, cn_43, cn_44, cn_45, cn_46, cn_47, cn_48, cn_49, cn_50, cn_51, cn_52, cn_53, cn_54, cn_55, Nat.reduceAdd, Nat.reduceLT, Nat.reduceLeDiff, Nat.lt_add_one, Nat.zero_lt_succ, Nat.reduceSub, ite_true, ite_false, reduceCtorEq, forall_const, Nat.reduceSucc, Nat.zero_add, Nat.add_zero, Nat.le_refl, Nat.zero_le, Nat.reducePow, Int.reduceNeg, Nat.reduceMul, eq_self, Int.cast_ofNat_Int, Int.toNat_natCast, iR, lR, Int.reduceEq, Int.reduceLT, Int.reduceLE, Int.reduceNe, not_false_eq_true, not_true_eq_false, false_implies, true_implies, Int.reduceAdd, Int.reduceSub, Int.reduceMul, Int.reduceToNat, implies_true, or_true, true_or, or_false, false_or, e1, e2]
    exact ⟨hf, hc, fun z => g2 (by omega), fun z => g1 (by omega)⟩
  have hgo : ∀ M2 : Mm, AC M M2 (phU (M 1 0 8) (M 1 0 7) w) 1 0 0 → M2 1 0 7 = M 1 0 7 → J x 29 [some (zr 1 0), some (zl w), none] [] M2 := by
    intro M2 hA e7
    have e13 : M2 13 = M 13 := hA.1 13 (by decide)
    have stA : ∀ (M3 : Mm) (a : Int), AC M M3 (phU (M 1 0 8) (M 1 0 7) w) 1 a 0 → M3 1 0 7 = M 1 0 7 → a = phA (M 13 0 0) (M 1 0 7) w → J x 52 [some (zr 1 0), some (zl w), none] [] M3 := by
      intro M3 a hA3 e73 ea
      refine h52 M3 (hA3.1 13 (by decide)) e73 (fun z => hP _ ?_ e73) (fun z => hP _ (hA3.eq rfl rfl ea ?_) e73)
      · obtain ⟨p1, p2, p3, p4, p5, p6⟩ := hA3
        refine ⟨fun g hg => (stm_ne _ _ _ _ _ hg).trans (p1 g hg), fun s k hk => by rw [stm_ap, if_neg (fun z => hk ⟨z.2.1, by omega⟩)]; exact p2 s k hk, p3, p4, by rw [← ea]; exact p5, ?_⟩
        show M3 1 0 12 + w = _
        unfold phB
        rw [if_pos z]
        omega
      · unfold phB; rw [if_neg z]
    refine h29 M2 e13 e7 (fun z => stA _ w ?_ e7 (by unfold phA; rw [if_pos z])) (fun z => stA _ 0 hA e7 (by unfold phA; rw [if_neg z]))
    obtain ⟨p1, p2, p3, p4, p5, p6⟩ := hA
    refine ⟨fun g hg => (stm_ne _ _ _ _ _ hg).trans (p1 g hg), fun s k hk => by rw [stm_ap, if_neg (fun z => hk ⟨z.2.1, by omega⟩)]; exact p2 s k hk, p3, p4, ?_, p6⟩
    show M2 1 0 11 + w = _
    omega
  refine B_X1_note_0 C _ _ _ ?_
  simp only [c_iadd, c_isub, c_imul, c_ladd, c_lsub, c_lmul, c_ineg, c_lneg, c_ic, c_lc, c_iload, c_lload, c_aload, c_istore, c_astore, c_lstore, c_iinc, c_dup, c_dup2, c_goto, c_i2l, c_l2i, c_idiv, c_ldiv, c_lrem, c_lshl, c_gi, c_gl, c_gr, c_pi, c_pz, c_pl, c_iald, c_lald, c_bald, c_aald, c_iast, c_last, c_bast, c_callV, c_callS, c_mmax, c_mmin, c_mabs, c_mmaxl, c_mabsl, c_iret, c_zret, c_lret, c_vret, c_tsw, c_lsw, c_icmp_eq, c_icmp_ne, c_icmp_lt, c_icmp_ge, c_icmp_gt, c_icmp_le, c_if_eq, c_if_ne, c_if_lt, c_if_ge, c_if_gt, c_if_le, c_lcmp_eq, c_lcmp_ne, c_lcmp_lt, c_lcmp_ge, c_lcmp_gt, c_lcmp_le, c_lraw_eq, c_lraw_lt, c_lraw_ge, c_lraw_gt, c_lraw_le, acat, scat, tswP, pops, st1, st2, klo, pad, elo, List.getElem?_cons_zero, List.getElem?_cons_succ, List.getElem?_nil, List.set_cons_zero, List.set_cons_succ, List.set_nil, Option.toList_some, Option.toList_none, List.cons_append, List.nil_append, List.length_cons, List.length_nil, stc_ap, stm_ap, false_and, and_false, and_self, true_and, and_true, Nat.reduceEqDiff, reduceIte, al_12, al_13, al_14, al_15, al_16, al_17, al_18, al_19, al_20, al_21, al_22, al_23, al_24, al_25, al_26, al_27, al_28, al_29, al_30, al_31, al_32, al_33, al_34, al_35, al_36, al_37, al_38, al_39, al_40, al_41, al_42, al_43, al_44, al_45, al_46, al_47, al_48, al_49, al_50, al_51, al_52, al_53, al_54, al_55, at_12, at_13, at_14, at_15, at_16, at_17, at_18, at_19, at_20, at_21, at_22, at_23, at_24, at_25, at_26, at_27, at_28, at_29, at_30, at_31, at_32, at_33, at_34, at_35, at_36, at_37, at_38, at_39, at_40, at_41, at_42, at_43, at_44, at_45, at_46, at_47, at_48, at_49, at_50, at_51, at_52, at_53, at_54, at_55, cn_0, cn_1, cn_2, cn_3, cn_4, cn_5, cn_6, cn_7, cn_8, cn_9, cn_10, cn_11, cn_12, cn_13, cn_14, cn_15, cn_16, cn_17, cn_18, cn_19, cn_20, cn_21, cn_22, cn_23, cn_24, cn_25, cn_26, cn_27, cn_28, cn_29, cn_30, cn_31, cn_32, cn_33, cn_34, cn_35, cn_36, cn_37, cn_38, cn_39, cn_40, cn_41, cn_42, cn_43, cn_44, cn_45, cn_46, cn_47, cn_48, cn_49, cn_50, cn_51, cn_52, cn_53, cn_54, cn_55, Nat.reduceAdd, Nat.reduceLT, Nat.reduceLeDiff, Nat.lt_add_one, Nat.zero_lt_succ, Nat.reduceSub, ite_true, ite_false, reduceCtorEq, forall_const, Nat.reduceSucc, Nat.zero_add, Nat.add_zero, Nat.le_refl, Nat.zero_le, Nat.reducePow, Int.reduceNeg, Nat.reduceMul, eq_self, Int.cast_ofNat_Int, Int.toNat_natCast, iR, lR, Int.reduceEq, Int.reduceLT, Int.reduceLE, Int.reduceNe, not_false_eq_true, not_true_eq_false, false_implies, true_implies, Int.reduceAdd, Int.reduceSub, Int.reduceMul, Int.reduceToNat, implies_true, or_true, true_or, or_false, false_or]
  refine ⟨hw, ho, fun z => hgo _ ?_ rfl, fun z => hgo _ ?_ rfl⟩
  · refine ⟨fun g hg => stm_ne _ _ _ _ _ hg, fun s k hk => by rw [stm_ap, if_neg (fun z => hk ⟨z.2.1, by omega⟩)], ?_, rfl, (Int.add_zero _).symm, (Int.add_zero _).symm⟩
    unfold phU
    rw [if_neg (by omega), Int.add_zero]
    rfl
  · refine ⟨fun g hg => (stm_ne _ _ _ _ _ hg).trans (stm_ne _ _ _ _ _ hg), fun s k hk => by rw [stm_ap, if_neg (fun z => hk ⟨z.2.1, by omega⟩), stm_ap, if_neg (fun z => hk ⟨z.2.1, by omega⟩)], ?_, rfl, (Int.add_zero _).symm, (Int.add_zero _).symm⟩
    unfold phU
    rw [if_pos (by omega)]
    rfl
/-- the table's sums are in bounds, the columns' sums as they are -/
def GB (M : Mm) : Prop := CI M ∧ (2 ≤ M 1 0 5 ∧ M 1 0 5 ≤ 4) ∧ (∀ j : Nat, j < 4 → 0 ≤ M 15 0 j) ∧ lR (M 1 0 8) ∧ (0 ≤ M 13 0 0 ∧ M 13 0 0 ≤ 40)
theorem GB.ac {M M' : Mm} {u n a b : Int} (h : GB M) (hA : AC M M' u n a b) : GB M' := by
  obtain ⟨p1, p2, -⟩ := hA
  obtain ⟨q1, q2, q3, q4, q5⟩ := h
  refine ⟨CI_cg (p1 12 (by decide)) q1, by rw [p2 0 5 (by omega)]; exact q2, by rw [p1 15 (by decide)]; exact q3, by rw [p2 0 8 (by omega)]; exact q4, by rw [p1 13 (by decide)]; exact q5⟩
/-- what is there of t, m, l is what columns c and on hold; w is small -/
def FB (M : Mm) (c : Nat) (t m l w : Int) : Prop := (0 ≤ t ∧ 0 ≤ m ∧ 0 ≤ l) ∧ t + m + l = clS (M 15 0) c ((M 1 0 5).toNat - c) ∧ clS (M 15 0) 0 c + (t + m + l) ≤ 40 ∧ (0 ≤ w ∧ w ≤ b3 (clS (M 15 0) 0 c))
def T_X1_fillColumn (K : Nat) : Ct := fun as M P => match as with
  | [.inr (some (g, s)), .inl (.inl c), .inl (.inl t), .inl (.inl m), .inl (.inl l), .inl (.inr w)] => g = 1 ∧ s = 0 ∧ GB M ∧ (0 ≤ c ∧ c ≤ M 1 0 5 - 1 ∧ M 1 0 5 - 1 - c ≤ K) ∧ FB M c.toNat t m l w ∧ (¬ c = 0 → 0 ≤ M 1 0 7 ∧ M 1 0 7 ≤ 40) ∧ ∀ M' : Mm, AC M M' (TS (phU (M 1 0 8)) (M 15 0) ((M 1 0 5).toNat - c.toNat) c.toNat t m l w (M 1 0 7)) (TS phN (M 15 0) ((M 1 0 5).toNat - c.toNat) c.toNat t m l w (M 1 0 7)) (TS (phA (M 13 0 0)) (M 15 0) ((M 1 0 5).toNat - c.toNat) c.toNat t m l w (M 1 0 7)) (TS (phB (M 13 0 0)) (M 15 0) ((M 1 0 5).toNat - c.toNat) c.toNat t m l w (M 1 0 7)) → (¬ c = 0 → M' 1 0 7 = M 1 0 7) → P none M'
  | _ => False
/-- one row of the sum: the first count is x -/
def TSx (φ : Int → Int → Int) (cs : Nat → Int) (k c : Nat) (t m l w1 fx : Int) (x : Nat) : Nat → Int := sm (fun y => if (x : Int) ≤ t ∧ (y : Int) ≤ m ∧ cs c - x - y ≤ l then TS φ cs k (c + 1) (t - x) (m - y) (l - (cs c - x - y)) (w1 * chI (cs c - x) y) fx else 0)
theorem TS_x (φ : Int → Int → Int) (cs : Nat → Int) (k c : Nat) (t m l w fx : Int) : TS φ cs (k + 1) c t m l w fx = sm (fun x => TSx φ cs k c t m l (w * chI (cs c) x) (if c = 0 then (x : Int) else fx) x ((cs c).toNat - x + 1)) ((cs c).toNat + 1) := by
  refine sm_cg fun x _ => ?_
  unfold TSx
  refine sm_cg fun y _ => ?_
  unfold tri
  rw [Int.mul_assoc]
theorem clS_le {cs : Nat → Int} (h : ∀ j, j < 4 → 0 ≤ cs j) {c k : Nat} (hk : c + k + 1 ≤ 4) : clS cs c (k + 1) = cs c + clS cs (c + 1) k ∧ 0 ≤ clS cs (c + 1) k ∧ clS cs 0 (c + 1) = clS cs 0 c + cs c ∧ 0 ≤ clS cs 0 c := by
  refine ⟨rfl, clS_nn fun j a b => h j (by omega), ?_, clS_nn fun j a b => h j (by omega)⟩
  have key : ∀ (c d : Nat), clS cs d (c + 1) = clS cs d c + cs (d + c) := by
    intro c
    induction c with
    | zero => intro d; show cs d + 0 = 0 + cs (d + 0); rw [Nat.add_zero]; omega
    | succ c ih =>
      intro d
      show cs d + clS cs (d + 1) (c + 1) = cs d + clS cs (d + 1) c + cs (d + (c + 1))
      rw [ih (d + 1), show d + 1 + c = d + (c + 1) by omega]
      omega
  have := key c 0
  rw [Nat.zero_add] at this
  exact this
def T_X1_fillBelow (K : Nat) : Ct := fun as M P => match as with
  | [.inr (some (g, s)), .inl (.inl c), .inl (.inl v), .inl (.inl t), .inl (.inl m), .inl (.inl l), .inl (.inr w1)] => g = 1 ∧ s = 0 ∧ GB M ∧ (0 ≤ c ∧ c + 1 ≤ M 1 0 5 - 1 ∧ M 1 0 5 - 1 - (c + 1) ≤ K) ∧ (∃ w : Int, FB M c.toNat t m l w ∧ w1 = w * chI (M 15 0 c.toNat) v) ∧ (0 ≤ v ∧ v ≤ t ∧ v ≤ M 15 0 c.toNat) ∧ (0 ≤ M 1 0 7 ∧ M 1 0 7 ≤ 40) ∧ ∀ M' : Mm, AC M M' (TSx (phU (M 1 0 8)) (M 15 0) ((M 1 0 5).toNat - c.toNat - 1) c.toNat t m l w1 (M 1 0 7) v.toNat ((M 15 0 c.toNat).toNat - v.toNat + 1)) (TSx phN (M 15 0) ((M 1 0 5).toNat - c.toNat - 1) c.toNat t m l w1 (M 1 0 7) v.toNat ((M 15 0 c.toNat).toNat - v.toNat + 1)) (TSx (phA (M 13 0 0)) (M 15 0) ((M 1 0 5).toNat - c.toNat - 1) c.toNat t m l w1 (M 1 0 7) v.toNat ((M 15 0 c.toNat).toNat - v.toNat + 1)) (TSx (phB (M 13 0 0)) (M 15 0) ((M 1 0 5).toNat - c.toNat - 1) c.toNat t m l w1 (M 1 0 7) v.toNat ((M 15 0 c.toNat).toNat - v.toNat + 1)) → M' 1 0 7 = M 1 0 7 → P none M'
  | _ => False
theorem k_X1_fillBelow (l : Launch) (K d : Nat) (hFC : MetT l yX1_fillColumn cX1_fillColumn 10 none d (T_X1_fillColumn K)) : MetT l yX1_fillBelow cX1_fillBelow 11 none (d + 1) (T_X1_fillBelow K) := by
  refine MetT.of (by decide +kernel) (fun as M P h => by unfold T_X1_fillBelow at h; split at h <;> first | (simp [elo]; done) | exact h.elim) (fun x as M P h C hR => ?_)
  unfold T_X1_fillBelow at h
  split at h
  rotate_left
  · exact h.elim
  rename_i g s c v t m lw w1
  obtain ⟨rfl, rfl, hG, hc, ⟨w, hF, rfl⟩, hv, h7, hP⟩ := h
  obtain ⟨q1, q2, q3, q4, q5⟩ := id hG
  obtain ⟨f1, f2, f3, f4⟩ := id hF
  obtain ⟨cn, hcn⟩ : ∃ cn : Nat, c = cn := ⟨c.toNat, by omega⟩
  subst hcn
  rw [show ((cn : Int)).toNat = cn by omega] at *
  obtain ⟨k, hk⟩ : ∃ k : Nat, (M 1 0 5).toNat - cn = k + 1 := ⟨(M 1 0 5).toNat - cn - 1, by omega⟩
  rw [show (M 1 0 5).toNat - cn - 1 = k by omega] at hP
  rw [hk] at f2
  obtain ⟨s1, s2, s3, s4⟩ := clS_le q3 (c := cn) (k := k) (by omega)
  rw [s1] at f2
  have hcs := q3 cn (by omega)
  refine B_X1_fillBelow_0 C (by omega) _ _ _ ?_
  simp only [c_iadd, c_isub, c_imul, c_ladd, c_lsub, c_lmul, c_ineg, c_lneg, c_ic, c_lc, c_iload, c_lload, c_aload, c_istore, c_astore, c_lstore, c_iinc, c_dup, c_dup2, c_goto, c_i2l, c_l2i, c_idiv, c_ldiv, c_lrem, c_lshl, c_gi, c_gl, c_gr, c_pi, c_pz, c_pl, c_iald, c_lald, c_bald, c_aald, c_iast, c_last, c_bast, c_callV, c_callS, c_mmax, c_mmin, c_mabs, c_mmaxl, c_mabsl, c_iret, c_zret, c_lret, c_vret, c_tsw, c_lsw, c_icmp_eq, c_icmp_ne, c_icmp_lt, c_icmp_ge, c_icmp_gt, c_icmp_le, c_if_eq, c_if_ne, c_if_lt, c_if_ge, c_if_gt, c_if_le, c_lcmp_eq, c_lcmp_ne, c_lcmp_lt, c_lcmp_ge, c_lcmp_gt, c_lcmp_le, c_lraw_eq, c_lraw_lt, c_lraw_ge, c_lraw_gt, c_lraw_le, acat, scat, tswP, pops, st1, st2, klo, pad, elo, List.getElem?_cons_zero, List.getElem?_cons_succ, List.getElem?_nil, List.set_cons_zero, List.set_cons_succ, List.set_nil, Option.toList_some, Option.toList_none, List.cons_append, List.nil_append, List.length_cons, List.length_nil, stc_ap, stm_ap, false_and, and_false, and_self, true_and, and_true, Nat.reduceEqDiff, reduceIte, al_12, al_13, al_14, al_15, al_16, al_17, al_18, al_19, al_20, al_21, al_22, al_23, al_24, al_25, al_26, al_27, al_28, al_29, al_30, al_31, al_32, al_33, al_34, al_35, al_36, al_37, al_38, al_39, al_40, al_41, al_42, al_43, al_44, al_45, al_46, al_47, al_48, al_49, al_50, al_51, al_52, al_53, al_54, al_55, at_12, at_13, at_14, at_15, at_16, at_17, at_18, at_19, at_20, at_21, at_22, at_23, at_24, at_25, at_26, at_27, at_28, at_29, at_30, at_31, at_32, at_33, at_34, at_35, at_36, at_37, at_38, at_39, at_40, at_41, at_42, at_43, at_44, at_45, at_46, at_47, at_48, at_49, at_50, at_51, at_52, at_53, at_54, at_55, cn_0, cn_1, cn_2, cn_3, cn_4, cn_5, cn_6, cn_7, cn_8, cn_9, cn_10, cn_11, cn_12, cn_13, cn_14, cn_15, cn_16, cn_17, cn_18, cn_19, cn_20, cn_21, cn_22, cn_23, cn_24, cn_25, cn_26, cn_27, cn_28, cn_29, cn_30, cn_31, cn_32, cn_33, cn_34, cn_35, cn_36, cn_37, cn_38, cn_39, cn_40, cn_41, cn_42, cn_43, cn_44, cn_45, cn_46, cn_47, cn_48, cn_49, cn_50, cn_51, cn_52, cn_53, cn_54, cn_55, Nat.reduceAdd, Nat.reduceLT, Nat.reduceLeDiff, Nat.lt_add_one, Nat.zero_lt_succ, Nat.reduceSub, ite_true, ite_false, reduceCtorEq, forall_const, Nat.reduceSucc, Nat.zero_add, Nat.add_zero, Nat.le_refl, Nat.zero_le, Nat.reducePow, Int.reduceNeg, Nat.reduceMul, eq_self, Int.cast_ofNat_Int, Int.toNat_natCast, iR, lR, Int.reduceEq, Int.reduceLT, Int.reduceLE, Int.reduceNe, not_false_eq_true, not_true_eq_false, false_implies, true_implies, Int.reduceAdd, Int.reduceSub, Int.reduceMul, Int.reduceToNat, implies_true, or_true, true_or, or_false, false_or]
  generalize hS : M 15 0 cn = S at *
  refine ⟨by omega, by omega, by omega, ?_⟩
  obtain ⟨vn, hvn⟩ : ∃ vn : Nat, v = vn := ⟨v.toNat, by omega⟩
  subst hvn
  rw [show ((vn : Int)).toNat = vn by omega] at *
  -- rows ahead of the first and behind the last add nothing
  have hz : ∀ (φ : Int → Int → Int) (a b : Nat), a ≤ b → (∀ y : Nat, a ≤ y → y < b → ¬ ((y : Int) ≤ m ∧ S - vn - y ≤ lw)) → TSx φ (M 15 0) k cn t m lw (w * chI S vn) (M 1 0 7) vn b = TSx φ (M 15 0) k cn t m lw (w * chI S vn) (M 1 0 7) vn a := by
    intro φ a b hab h
    refine sm_ext hab fun y y1 y2 => ?_
    rw [hS, if_neg (fun z => h y y1 y2 z.2)]
  suffices hh : ∀ (y : Int) (M' : Mm), ((max 0 (S - vn - lw) ≤ y ∧ (y ≤ min (S - vn) m + 1 ∨ y = max 0 (S - vn - lw))) ∧ AC M M' (TSx (phU (M 1 0 8)) (M 15 0) k cn t m lw (w * chI S vn) (M 1 0 7) vn y.toNat) (TSx phN (M 15 0) k cn t m lw (w * chI S vn) (M 1 0 7) vn y.toNat) (TSx (phA (M 13 0 0)) (M 15 0) k cn t m lw (w * chI S vn) (M 1 0 7) vn y.toNat) (TSx (phB (M 13 0 0)) (M 15 0) k cn t m lw (w * chI S vn) (M 1 0 7) vn y.toNat) ∧ M' 1 0 7 = M 1 0 7) → J x 30 [some (zr 1 0), some (zi cn), some (zi vn), some (zi t), some (zi m), some (zi lw), some (zl (w * chI S vn)), none, some (zi (S - vn)), some (zi (min (S - vn) m)), some (zi y)] [] M' by
    refine hh _ M ⟨⟨Int.le_refl _, Or.inr rfl⟩, ?_, rfl⟩
    have e0 : ∀ φ : Int → Int → Int, TSx φ (M 15 0) k cn t m lw (w * chI S vn) (M 1 0 7) vn (max 0 (S - vn - lw)).toNat = 0 := fun φ => by
      rw [hz φ 0 _ (Nat.zero_le _) (fun y y1 y2 => by omega)]
      rfl
    rw [e0, e0, e0, e0]
    exact AC.rf M
  refine loopU (min (S - vn) m + 1) _ _ ?_
  rintro y M' ⟨hy, hA, h7'⟩ ih
  have hG' := hG.ac hA
  have a1 := hA.1
  have a2 := hA.2.1
  have c15 : M' 15 = M 15 := a1 15 (by decide)
  have c13 : M' 13 = M 13 := a1 13 (by decide)
  have c5 : M' 1 0 5 = M 1 0 5 := a2 0 5 (by omega)
  have c8 : M' 1 0 8 = M 1 0 8 := a2 0 8 (by omega)
  refine B_X1_fillBelow_30 C hR (k_X0_of l) (by omega) hFC (by omega) _ _ _ ?_
  simp only [c_iadd, c_isub, c_imul, c_ladd, c_lsub, c_lmul, c_ineg, c_lneg, c_ic, c_lc, c_iload, c_lload, c_aload, c_istore, c_astore, c_lstore, c_iinc, c_dup, c_dup2, c_goto, c_i2l, c_l2i, c_idiv, c_ldiv, c_lrem, c_lshl, c_gi, c_gl, c_gr, c_pi, c_pz, c_pl, c_iald, c_lald, c_bald, c_aald, c_iast, c_last, c_bast, c_callV, c_callS, c_mmax, c_mmin, c_mabs, c_mmaxl, c_mabsl, c_iret, c_zret, c_lret, c_vret, c_tsw, c_lsw, c_icmp_eq, c_icmp_ne, c_icmp_lt, c_icmp_ge, c_icmp_gt, c_icmp_le, c_if_eq, c_if_ne, c_if_lt, c_if_ge, c_if_gt, c_if_le, c_lcmp_eq, c_lcmp_ne, c_lcmp_lt, c_lcmp_ge, c_lcmp_gt, c_lcmp_le, c_lraw_eq, c_lraw_lt, c_lraw_ge, c_lraw_gt, c_lraw_le, acat, scat, tswP, pops, st1, st2, klo, pad, elo, List.getElem?_cons_zero, List.getElem?_cons_succ, List.getElem?_nil, List.set_cons_zero, List.set_cons_succ, List.set_nil, Option.toList_some, Option.toList_none, List.cons_append, List.nil_append, List.length_cons, List.length_nil, stc_ap, stm_ap, false_and, and_false, and_self, true_and, and_true, Nat.reduceEqDiff, reduceIte, al_12, al_13, al_14, al_15, al_16, al_17, al_18, al_19, al_20, al_21, al_22, al_23, al_24, al_25, al_26, al_27, al_28, al_29, al_30, al_31, al_32, al_33, al_34, al_35, al_36, al_37, al_38, al_39, al_40, al_41, al_42, al_43, al_44, al_45, al_46, al_47, al_48, al_49, al_50, al_51, al_52, al_53, al_54, al_55, at_12, at_13, at_14, at_15, at_16, at_17, at_18, at_19, at_20, at_21, at_22, at_23, at_24, at_25, at_26, at_27, at_28, at_29, at_30, at_31, at_32, at_33, at_34, at_35, at_36, at_37, at_38, at_39, at_40, at_41, at_42, at_43, at_44, at_45, at_46, at_47, at_48, at_49, at_50, at_51, at_52, at_53, at_54, at_55, cn_0, cn_1, cn_2, cn_3, cn_4, cn_5, cn_6, cn_7, cn_8, cn_9, cn_10, cn_11, cn_12, cn_13, cn_14, cn_15, cn_16, cn_17, cn_18, cn_19, cn_20, cn_21, cn_22, cn_23, cn_24, cn_25, cn_26, cn_27, cn_28, cn_29, cn_30, cn_31, cn_32, cn_33, cn_34, cn_35, cn_36, cn_37, cn_38, cn_39, cn_40, cn_41, cn_42, cn_43, cn_44, cn_45, cn_46, cn_47, cn_48, cn_49, cn_50, cn_51, cn_52, cn_53, cn_54, cn_55, Nat.reduceAdd, Nat.reduceLT, Nat.reduceLeDiff, Nat.lt_add_one, Nat.zero_lt_succ, Nat.reduceSub, ite_true, ite_false, reduceCtorEq, forall_const, Nat.reduceSucc, Nat.zero_add, Nat.add_zero, Nat.le_refl, Nat.zero_le, Nat.reducePow, Int.reduceNeg, Nat.reduceMul, eq_self, Int.cast_ofNat_Int, Int.toNat_natCast, iR, lR, Int.reduceEq, Int.reduceLT, Int.reduceLE, Int.reduceNe, not_false_eq_true, not_true_eq_false, false_implies, true_implies, Int.reduceAdd, Int.reduceSub, Int.reduceMul, Int.reduceToNat, implies_true, or_true, true_or, or_false, false_or, T_X0_of, T_X1_fillColumn, c5, c8, c15, c13, h7']
  refine ⟨by omega, by omega, fun z => ?_, fun z => ?_⟩
  · have e1 : ∀ φ : Int → Int → Int, TSx φ (M 15 0) k cn t m lw (w * chI S vn) (M 1 0 7) vn (S.toNat - vn + 1) = TSx φ (M 15 0) k cn t m lw (w * chI S vn) (M 1 0 7) vn y.toNat := fun φ => by
      rcases Nat.le_total y.toNat (S.toNat - vn + 1) with hle | hle
      · exact hz φ _ _ hle (fun y' y1 y2 => by omega)
      · exact (hz φ _ _ hle (fun y' y1 y2 => by omega)).symm
    rw [e1, e1, e1, e1] at hP
    exact hP M' hA h7'
  · have hw : 0 ≤ w * tri S vn y ∧ w * tri S vn y ≤ b3 (clS (M 15 0) 0 cn + S) := by
      have t1 := tri_nn S vn y
      have t2 := tri_le hcs vn y
      refine ⟨Int.mul_nonneg f4.1 t1, ?_⟩
      have u1 : w * tri S vn y ≤ b3 (clS (M 15 0) 0 cn) * tri S vn y := Int.mul_le_mul_of_nonneg_right f4.2 t1
      have u2 : b3 (clS (M 15 0) 0 cn) * tri S vn y ≤ b3 (clS (M 15 0) 0 cn) * b3 S := Int.mul_le_mul_of_nonneg_left t2 (by have := b3_pos (clS (M 15 0) 0 cn); omega)
      have u3 := b3_mul s4 hcs
      omega
    have ew : w * chI S vn * chI (S - vn) y = w * tri S vn y := by unfold tri; rw [Int.mul_assoc]
    refine ⟨hG'.1, by omega, by omega, hG', by omega, ?_, by omega, fun M2 hA2 h72 => ?_⟩
    · unfold FB
      rw [c15, c5, show ((cn : Int) + 1).toNat = cn + 1 by omega, show (M 1 0 5).toNat - (cn + 1) = k by omega, s3, ew]
      exact ⟨by omega, by omega, by omega, hw⟩
    · have hstp : ∀ φ : Int → Int → Int, TSx φ (M 15 0) k cn t m lw (w * chI S vn) (M 1 0 7) vn (y + 1).toNat = TSx φ (M 15 0) k cn t m lw (w * chI S vn) (M 1 0 7) vn y.toNat + TS φ (M 15 0) ((M 1 0 5).toNat - ((cn : Int) + 1).toNat) ((cn : Int) + 1).toNat (t - vn) (m - y) (lw - (S - vn - y)) (w * chI S vn * chI (S - vn) y) (M 1 0 7) := fun φ => by
        rw [show (y + 1).toNat = y.toNat + 1 by omega, show ((cn : Int) + 1).toNat = cn + 1 by omega, show (M 1 0 5).toNat - (cn + 1) = k by omega]
        unfold TSx
        rw [sm_s, hS, if_pos (by omega), show ((y.toNat : Nat) : Int) = y by omega]
      refine ih (by omega) M2 ⟨⟨by omega, Or.inl (by omega)⟩, ?_, h72 (by omega)⟩
      rw [hstp, hstp, hstp, hstp]
      exact hA.tr hA2
