/-! CloudBench$Grid: addUp, figure; CloudBench.margins -/
def gst (M : Mm) (R Cc : Nat → Int) (o : Int) : Mm := stm (stc (stc M 14 0 R) 15 0 Cc) 1 0 8 o
theorem gst_r14 (M : Mm) (R Cc : Nat → Int) (o : Int) : gst M R Cc o 14 0 = R := by
  funext k; simp [gst, stm_ap, stc_ap]
theorem gst_r15 (M : Mm) (R Cc : Nat → Int) (o : Int) : gst M R Cc o 15 0 = Cc := by
  funext k; simp [gst, stm_ap, stc_ap]
theorem gst_r8 (M : Mm) (R Cc : Nat → Int) (o : Int) : gst M R Cc o 1 0 8 = o := rfl
theorem gst_o (M : Mm) (R Cc : Nat → Int) (o : Int) {g : Nat} (h1 : ¬ g = 1) (h2 : ¬ g = 14) (h3 : ¬ g = 15) : gst M R Cc o g = M g := by
  unfold gst
  rw [stm_ne _ _ _ _ _ h1, stc_ne _ _ _ _ h3, stc_ne _ _ _ _ h2]
theorem gst_r13 (M : Mm) (R Cc : Nat → Int) (o : Int) : gst M R Cc o 13 = M 13 := gst_o M R Cc o (by decide) (by decide) (by decide)
theorem gst_1 (M : Mm) (R Cc : Nat → Int) (o : Int) {k : Nat} (h : ¬ k = 8) : gst M R Cc o 1 0 k = M 1 0 k := by
  unfold gst
  rw [stm_ap, if_neg (fun z => h z.2.2)]
  rfl
theorem gst_14 (M : Mm) (R Cc : Nat → Int) (o : Int) (k : Nat) (v : Int) : stm (gst M R Cc o) 14 0 k v = gst M (fun j => if j = k then v else R j) Cc o := by
  funext g' s' k'
  simp only [gst, stm_ap, stc_ap]
  by_cases g1 : g' = 14
  · subst g1
    by_cases s1 : s' = 0
    · subst s1
      by_cases k1 : k' = k <;> simp [k1]
    · simp [s1]
  · simp [g1]
theorem gst_15 (M : Mm) (R Cc : Nat → Int) (o : Int) (k : Nat) (v : Int) : stm (gst M R Cc o) 15 0 k v = gst M R (fun j => if j = k then v else Cc j) o := by
  funext g' s' k'
  simp only [gst, stm_ap, stc_ap]
  by_cases g1 : g' = 15
  · subst g1
    by_cases s1 : s' = 0
    · subst s1
      by_cases k1 : k' = k <;> simp [k1]
    · simp [s1]
  · simp [g1]
theorem gst_8 (M : Mm) (R Cc : Nat → Int) (o v : Int) : stm (gst M R Cc o) 1 0 8 v = gst M R Cc v := by
  funext g' s' k'
  simp only [gst, stm_ap, stc_ap]
  by_cases g1 : g' = 1 ∧ s' = 0 ∧ k' = 8
  · simp [g1]
  · rw [if_neg g1, if_neg g1, if_neg g1]
theorem sm12 (f : Nat → Int) : sm f 12 = 0 + f 0 + f 1 + f 2 + f 3 + f 4 + f 5 + f 6 + f 7 + f 8 + f 9 + f 10 + f 11 := rfl
theorem clF_e (f : Nat → Int) : clF f 0 = 0 + f 0 + f 4 + f 8 ∧ clF f 1 = 0 + f 1 + f 5 + f 9 ∧ clF f 2 = 0 + f 2 + f 6 + f 10 ∧ clF f 3 = 0 + f 3 + f 7 + f 11 := ⟨rfl, rfl, rfl, rfl⟩
theorem rsF_e (f : Nat → Int) : rsF f 0 = 0 + f 0 + f 1 + f 2 + f 3 ∧ rsF f 1 = 0 + f 4 + f 5 + f 6 + f 7 ∧ rsF f 2 = 0 + f 8 + f 9 + f 10 + f 11 := ⟨rfl, rfl, rfl⟩
theorem f12 {f : Nat → Int} (h : ∀ j, j < 12 → 0 ≤ f j) : 0 ≤ f 0 ∧ 0 ≤ f 1 ∧ 0 ≤ f 2 ∧ 0 ≤ f 3 ∧ 0 ≤ f 4 ∧ 0 ≤ f 5 ∧ 0 ≤ f 6 ∧ 0 ≤ f 7 ∧ 0 ≤ f 8 ∧ 0 ≤ f 9 ∧ 0 ≤ f 10 ∧ 0 ≤ f 11 := ⟨h 0 (by decide), h 1 (by decide), h 2 (by decide), h 3 (by decide), h 4 (by decide), h 5 (by decide), h 6 (by decide), h 7 (by decide), h 8 (by decide), h 9 (by decide), h 10 (by decide), h 11 (by decide)⟩
theorem clF_in {f : Nat → Int} (h : ∀ j, j < 12 → 0 ≤ f j) {j : Nat} (hj : j < 4) : 0 ≤ clF f j ∧ clF f j ≤ sm f 12 ∧ f j ≤ sm f 12 ∧ f (4 + j) ≤ sm f 12 ∧ f j ≤ clF f j ∧ f j + f (4 + j) ≤ clF f j := by
  have a := f12 h
  have b := clF_e f
  have c := sm12 f
  match j, hj with
  | 0, _ => exact ⟨by omega, by omega, by omega, (by omega : f 4 ≤ sm f 12), by omega, (by omega : f 0 + f 4 ≤ clF f 0)⟩
  | 1, _ => exact ⟨by omega, by omega, by omega, (by omega : f 5 ≤ sm f 12), by omega, (by omega : f 1 + f 5 ≤ clF f 1)⟩
  | 2, _ => exact ⟨by omega, by omega, by omega, (by omega : f 6 ≤ sm f 12), by omega, (by omega : f 2 + f 6 ≤ clF f 2)⟩
  | 3, _ => exact ⟨by omega, by omega, by omega, (by omega : f 7 ≤ sm f 12), by omega, (by omega : f 3 + f 7 ≤ clF f 3)⟩
def T_X1_addUp : Ct := fun as M P => match as with
  | [.inr (some (g, s))] => g = 1 ∧ s = 0 ∧ CI M ∧ (∀ j : Nat, j < 12 → 0 ≤ M 13 0 j) ∧ sm (M 13 0) 12 ≤ 40 ∧ ∀ R Cc : Nat → Int, (∀ i : Nat, i < 3 → R i = rsF (M 13 0) i) → (∀ j : Nat, j < 4 → Cc j = clF (M 13 0) j) → P none (gst M R Cc (owF (M 13 0) 4))
  | _ => False
theorem k_X1_addUp (l : Launch) : MetT l yX1_addUp cX1_addUp 3 none 2 T_X1_addUp := by
  refine MetT.of (by decide +kernel) (fun as M P h => by unfold T_X1_addUp at h; split at h <;> first | (simp [elo]; done) | exact h.elim) (fun x as M P h C hR => ?_)
  unfold T_X1_addUp at h
  split at h
  rotate_left
  · exact h.elim
  rename_i g s
  obtain ⟨rfl, rfl, hC, h0, h40, hP⟩ := h
  refine B_X1_addUp_0 C _ _ _ ?_
  simp only [c_iadd, c_isub, c_imul, c_ladd, c_lsub, c_lmul, c_ineg, c_lneg, c_ic, c_lc, c_iload, c_lload, c_aload, c_istore, c_astore, c_lstore, c_iinc, c_dup, c_dup2, c_goto, c_i2l, c_l2i, c_idiv, c_ldiv, c_lrem, c_lshl, c_gi, c_gl, c_gr, c_pi, c_pz, c_pl, c_iald, c_lald, c_bald, c_aald, c_iast, c_last, c_bast, c_callV, c_callS, c_mmax, c_mmin, c_mabs, c_mmaxl, c_mabsl, c_iret, c_zret, c_lret, c_vret, c_tsw, c_lsw, c_icmp_eq, c_icmp_ne, c_icmp_lt, c_icmp_ge, c_icmp_gt, c_icmp_le, c_if_eq, c_if_ne, c_if_lt, c_if_ge, c_if_gt, c_if_le, c_lcmp_eq, c_lcmp_ne, c_lcmp_lt, c_lcmp_ge, c_lcmp_gt, c_lcmp_le, c_lraw_eq, c_lraw_lt, c_lraw_ge, c_lraw_gt, c_lraw_le, acat, scat, tswP, pops, st1, st2, klo, pad, elo, List.getElem?_cons_zero, List.getElem?_cons_succ, List.getElem?_nil, List.set_cons_zero, List.set_cons_succ, List.set_nil, Option.toList_some, Option.toList_none, List.cons_append, List.nil_append, List.length_cons, List.length_nil, stc_ap, stm_ap, false_and, and_false, and_self, true_and, and_true, Nat.reduceEqDiff, reduceIte, al_12, al_13, al_14, al_15, al_16, al_17, al_18, al_19, al_20, al_21, al_22, al_23, al_24, al_25, al_26, al_27, al_28, al_29, al_30, al_31, al_32, al_33, al_34, al_35, al_36, al_37, al_38, al_39, al_40, al_41, al_42, al_43, al_44, al_45, al_46, al_47, al_48, al_49, al_50, al_51, al_52, al_53, al_54, al_55, at_12, at_13, at_14, at_15, at_16, at_17, at_18, at_19, at_20, at_21, at_22, at_23, at_24, at_25, at_26, at_27, at_28, at_29, at_30, at_31, at_32, at_33, at_34, at_35, at_36, at_37, at_38, at_39, at_40, at_41, at_42, at_43, at_44, at_45, at_46, at_47, at_48, at_49, at_50, at_51, at_52, at_53, at_54, at_55, cn_0, cn_1, cn_2, cn_3, cn_4, cn_5, cn_6, cn_7, cn_8, cn_9, cn_10, cn_11, cn_12, cn_13, cn_14, cn_15, cn_16, cn_17, cn_18, cn_19, cn_20, cn_21, cn_22, cn_23, cn_24, cn_25, cn_26, cn_27, cn_28, cn_29, cn_30, cn_31, cn_32, cn_33, cn_34, cn_35, cn_36, cn_37, cn_38, cn_39, cn_40, cn_41, cn_42, cn_43, cn_44, cn_45, cn_46, cn_47, cn_48, cn_49, cn_50, cn_51, cn_52, cn_53, cn_54, cn_55, Nat.reduceAdd, Nat.reduceLT, Nat.reduceLeDiff, Nat.lt_add_one, Nat.zero_lt_succ, Nat.reduceSub, ite_true, ite_false, reduceCtorEq, forall_const, Nat.reduceSucc, Nat.zero_add, Nat.add_zero, Nat.le_refl, Nat.zero_le, Nat.reducePow, Int.reduceNeg, Nat.reduceMul, eq_self, Int.cast_ofNat_Int, Int.toNat_natCast, iR, lR, Int.reduceEq, Int.reduceLT, Int.reduceLE, Int.reduceNe, not_false_eq_true, not_true_eq_false, false_implies, true_implies, Int.reduceAdd, Int.reduceSub, Int.reduceMul, Int.reduceToNat, implies_true, or_true, true_or, or_false, false_or]
  obtain ⟨f, hf⟩ : ∃ f : Nat → Int, f = M 13 0 := ⟨_, rfl⟩
  rw [← hf] at h0 h40 hP
  refine loopU 3 (fun i M' => (0 ≤ i ∧ i ≤ 3) ∧ ∃ R : Nat → Int, M' = stc M 14 0 R ∧ ∀ j : Nat, (j : Int) < i → R j = 0) (fun i M' => J x 2 [some (zr 1 0), some (zi i), none] [] M') ?_ 0 M ⟨by omega, M 14 0, (stc_id M 14 0).symm, fun j hj => by omega⟩
  rintro i M' ⟨hi, R, rfl, hR0⟩ ih
  refine B_X1_addUp_2 C _ _ _ ?_
  simp only [c_iadd, c_isub, c_imul, c_ladd, c_lsub, c_lmul, c_ineg, c_lneg, c_ic, c_lc, c_iload, c_lload, c_aload, c_istore, c_astore, c_lstore, c_iinc, c_dup, c_dup2, c_goto, c_i2l, c_l2i, c_idiv, c_ldiv, c_lrem, c_lshl, c_gi, c_gl, c_gr, c_pi, c_pz, c_pl, c_iald, c_lald, c_bald, c_aald, c_iast, c_last, c_bast, c_callV, c_callS, c_mmax, c_mmin, c_mabs, c_mmaxl, c_mabsl, c_iret, c_zret, c_lret, c_vret, c_tsw, c_lsw, c_icmp_eq, c_icmp_ne, c_icmp_lt, c_icmp_ge, c_icmp_gt, c_icmp_le, c_if_eq, c_if_ne, c_if_lt, c_if_ge, c_if_gt, c_if_le, c_lcmp_eq, c_lcmp_ne, c_lcmp_lt, c_lcmp_ge, c_lcmp_gt, c_lcmp_le, c_lraw_eq, c_lraw_lt, c_lraw_ge, c_lraw_gt, c_lraw_le, acat, scat, tswP, pops, st1, st2, klo, pad, elo, List.getElem?_cons_zero, List.getElem?_cons_succ, List.getElem?_nil, List.set_cons_zero, List.set_cons_succ, List.set_nil, Option.toList_some, Option.toList_none, List.cons_append, List.nil_append, List.length_cons, List.length_nil, stc_ap, stm_ap, false_and, and_false, and_self, true_and, and_true, Nat.reduceEqDiff, reduceIte, al_12, al_13, al_14, al_15, al_16, al_17, al_18, al_19, al_20, al_21, al_22, al_23, al_24, al_25, al_26, al_27, al_28, al_29, al_30, al_31, al_32, al_33, al_34, al_35, al_36, al_37, al_38, al_39, al_40, al_41, al_42, al_43, al_44, al_45, al_46, al_47, al_48, al_49, al_50, al_51, al_52, al_53, al_54, al_55, at_12, at_13, at_14, at_15, at_16, at_17, at_18, at_19, at_20, at_21, at_22, at_23, at_24, at_25, at_26, at_27, at_28, at_29, at_30, at_31, at_32, at_33, at_34, at_35, at_36, at_37, at_38, at_39, at_40, at_41, at_42, at_43, at_44, at_45, at_46, at_47, at_48, at_49, at_50, at_51, at_52, at_53, at_54, at_55, cn_0, cn_1, cn_2, cn_3, cn_4, cn_5, cn_6, cn_7, cn_8, cn_9, cn_10, cn_11, cn_12, cn_13, cn_14, cn_15, cn_16, cn_17, cn_18, cn_19, cn_20, cn_21, cn_22, cn_23, cn_24, cn_25, cn_26, cn_27, cn_28, cn_29, cn_30, cn_31, cn_32, cn_33, cn_34, cn_35, cn_36, cn_37, cn_38, cn_39, cn_40, cn_41, cn_42, cn_43, cn_44, cn_45, cn_46, cn_47, cn_48, cn_49, cn_50, cn_51, cn_52, cn_53, cn_54, cn_55, Nat.reduceAdd, Nat.reduceLT, Nat.reduceLeDiff, Nat.lt_add_one, Nat.zero_lt_succ, Nat.reduceSub, ite_true, ite_false, reduceCtorEq, forall_const, Nat.reduceSucc, Nat.zero_add, Nat.add_zero, Nat.le_refl, Nat.zero_le, Nat.reducePow, Int.reduceNeg, Nat.reduceMul, eq_self, Int.cast_ofNat_Int, Int.toNat_natCast, iR, lR, Int.reduceEq, Int.reduceLT, Int.reduceLE, Int.reduceNe, not_false_eq_true, not_true_eq_false, false_implies, true_implies, Int.reduceAdd, Int.reduceSub, Int.reduceMul, Int.reduceToNat, implies_true, or_true, true_or, or_false, false_or]
  refine ⟨by omega, fun z => ?_, fun z => ⟨by omega, ih (by omega) _ ⟨by omega, _, stm_on M 14 0 _ R _, fun j hj => ?_⟩⟩⟩
  rotate_left
  · show (if j = i.toNat then 0 else R j) = 0
    split
    · rfl
    · exact hR0 j (by omega)
  have hR0 : ∀ j : Nat, j < 3 → R j = 0 := fun j hj => hR0 j (by omega)
  clear ih
  have e0 : stm (stc M 14 0 R) 1 0 8 1 = gst M R (M 15 0) 1 := by
    unfold gst
    rw [show M 15 0 = (stc M 14 0 R) 15 0 from rfl, stc_id]
  rw [e0]
  refine loopU 4 (fun j M' => (0 ≤ j ∧ j ≤ 4) ∧ ∃ R Cc : Nat → Int, M' = gst M R Cc (owF f j.toNat) ∧ (∀ i : Nat, i < 3 → R i = sm (fun t => f (4 * i + t)) j.toNat) ∧ ∀ j' : Nat, (j' : Int) < j → Cc j' = clF f j') (fun j M' => J x 27 [some (zr 1 0), some (zi j), none] [] M') ?_ 0 _ ⟨by omega, R, M 15 0, rfl, hR0, fun j' hj' => by omega⟩
  rintro j M' ⟨hj, R, Cc, rfl, hR1, hC1⟩ ih
  refine B_X1_addUp_27 C hR _ _ _ ?_
  simp only [c_iadd, c_isub, c_imul, c_ladd, c_lsub, c_lmul, c_ineg, c_lneg, c_ic, c_lc, c_iload, c_lload, c_aload, c_istore, c_astore, c_lstore, c_iinc, c_dup, c_dup2, c_goto, c_i2l, c_l2i, c_idiv, c_ldiv, c_lrem, c_lshl, c_gi, c_gl, c_gr, c_pi, c_pz, c_pl, c_iald, c_lald, c_bald, c_aald, c_iast, c_last, c_bast, c_callV, c_callS, c_mmax, c_mmin, c_mabs, c_mmaxl, c_mabsl, c_iret, c_zret, c_lret, c_vret, c_tsw, c_lsw, c_icmp_eq, c_icmp_ne, c_icmp_lt, c_icmp_ge, c_icmp_gt, c_icmp_le, c_if_eq, c_if_ne, c_if_lt, c_if_ge, c_if_gt, c_if_le, c_lcmp_eq, c_lcmp_ne, c_lcmp_lt, c_lcmp_ge, c_lcmp_gt, c_lcmp_le, c_lraw_eq, c_lraw_lt, c_lraw_ge, c_lraw_gt, c_lraw_le, acat, scat, tswP, pops, st1, st2, klo, pad, elo, List.getElem?_cons_zero, List.getElem?_cons_succ, List.getElem?_nil, List.set_cons_zero, List.set_cons_succ, List.set_nil, Option.toList_some, Option.toList_none, List.cons_append, List.nil_append, List.length_cons, List.length_nil, stc_ap, stm_ap, false_and, and_false, and_self, true_and, and_true, Nat.reduceEqDiff, reduceIte, al_12, al_13, al_14, al_15, al_16, al_17, al_18, al_19, al_20, al_21, al_22, al_23, al_24, al_25, al_26, al_27, al_28, al_29, al_30, al_31, al_32, al_33, al_34, al_35, al_36, al_37, al_38, al_39, al_40, al_41, al_42, al_43, al_44, al_45, al_46, al_47, al_48, al_49, al_50, al_51, al_52, al_53, al_54, al_55, at_12, at_13, at_14, at_15, at_16, at_17, at_18, at_19, at_20, at_21, at_22, at_23, at_24, at_25, at_26, at_27, at_28, at_29, at_30, at_31, at_32, at_33, at_34, at_35, at_36, at_37, at_38, at_39, at_40, at_41, at_42, at_43, at_44, at_45, at_46, at_47, at_48, at_49, at_50, at_51, at_52, at_53, at_54, at_55, cn_0, cn_1, cn_2, cn_3, cn_4, cn_5, cn_6, cn_7, cn_8, cn_9, cn_10, cn_11, cn_12, cn_13, cn_14, cn_15, cn_16, cn_17, cn_18, cn_19, cn_20, cn_21, cn_22, cn_23, cn_24, cn_25, cn_26, cn_27, cn_28, cn_29, cn_30, cn_31, cn_32, cn_33, cn_34, cn_35, cn_36, cn_37, cn_38, cn_39, cn_40, cn_41, cn_42, cn_43, cn_44, cn_45, cn_46, cn_47, cn_48, cn_49, cn_50, cn_51, cn_52, cn_53, cn_54, cn_55, Nat.reduceAdd, Nat.reduceLT, Nat.reduceLeDiff, Nat.lt_add_one, Nat.zero_lt_succ, Nat.reduceSub, ite_true, ite_false, reduceCtorEq, forall_const, Nat.reduceSucc, Nat.zero_add, Nat.add_zero, Nat.le_refl, Nat.zero_le, Nat.reducePow, Int.reduceNeg, Nat.reduceMul, eq_self, Int.cast_ofNat_Int, Int.toNat_natCast, iR, lR, Int.reduceEq, Int.reduceLT, Int.reduceLE, Int.reduceNe, not_false_eq_true, not_true_eq_false, false_implies, true_implies, Int.reduceAdd, Int.reduceSub, Int.reduceMul, Int.reduceToNat, implies_true, or_true, true_or, or_false, false_or]
  refine ⟨by omega, fun z => ?_, fun z => ⟨by omega, ?_⟩⟩
  · rw [show j.toNat = 4 by omega] at hR1 ⊢
    exact hP R Cc hR1 (fun j' hj' => hC1 j' (by omega))
  rw [gst_15]
  have hb := clF_in h0 (j := j.toNat) (by omega)
  refine loopU 3 (fun i M' => (0 ≤ i ∧ i ≤ 3) ∧ ∃ R Cc : Nat → Int, M' = gst M R Cc (owF f j.toNat) ∧ (∀ i' : Nat, i' < 3 → R i' = sm (fun t => f (4 * i' + t)) (if (i' : Int) < i then j.toNat + 1 else j.toNat)) ∧ Cc j.toNat = sm (fun t => f (4 * t + j.toNat)) i.toNat ∧ ∀ j' : Nat, (j' : Int) < j → Cc j' = clF f j') (fun i M' => J x 41 [some (zr 1 0), some (zi j), some (zi i)] [] M') ?_ 0 _ ⟨by omega, R, _, rfl, fun i' hi' => by rw [if_neg (by omega)]; exact hR1 i' hi', by show (if j.toNat = j.toNat then 0 else _) = _; rw [if_pos rfl]; rfl, fun j' hj' => by show (if j' = j.toNat then 0 else Cc j') = _; rw [if_neg (by omega)]; exact hC1 j' hj'⟩
  rintro i M' ⟨hi, R, Cc, rfl, hR1, hC2, hC1⟩ ih2
  refine B_X1_addUp_41 C (k_X1_waysToSplit l) (by decide) _ _ _ ?_
  simp only [c_iadd, c_isub, c_imul, c_ladd, c_lsub, c_lmul, c_ineg, c_lneg, c_ic, c_lc, c_iload, c_lload, c_aload, c_istore, c_astore, c_lstore, c_iinc, c_dup, c_dup2, c_goto, c_i2l, c_l2i, c_idiv, c_ldiv, c_lrem, c_lshl, c_gi, c_gl, c_gr, c_pi, c_pz, c_pl, c_iald, c_lald, c_bald, c_aald, c_iast, c_last, c_bast, c_callV, c_callS, c_mmax, c_mmin, c_mabs, c_mmaxl, c_mabsl, c_iret, c_zret, c_lret, c_vret, c_tsw, c_lsw, c_icmp_eq, c_icmp_ne, c_icmp_lt, c_icmp_ge, c_icmp_gt, c_icmp_le, c_if_eq, c_if_ne, c_if_lt, c_if_ge, c_if_gt, c_if_le, c_lcmp_eq, c_lcmp_ne, c_lcmp_lt, c_lcmp_ge, c_lcmp_gt, c_lcmp_le, c_lraw_eq, c_lraw_lt, c_lraw_ge, c_lraw_gt, c_lraw_le, acat, scat, tswP, pops, st1, st2, klo, pad, elo, List.getElem?_cons_zero, List.getElem?_cons_succ, List.getElem?_nil, List.set_cons_zero, List.set_cons_succ, List.set_nil, Option.toList_some, Option.toList_none, List.cons_append, List.nil_append, List.length_cons, List.length_nil, stc_ap, stm_ap, false_and, and_false, and_self, true_and, and_true, Nat.reduceEqDiff, reduceIte, al_12, al_13, al_14, al_15, al_16, al_17, al_18, al_19, al_20, al_21, al_22, al_23, al_24, al_25, al_26, al_27, al_28, al_29, al_30, al_31, al_32, al_33, al_34, al_35, al_36, al_37, al_38, al_39, al_40, al_41, al_42, al_43, al_44, al_45, al_46, al_47, al_48, al_49, al_50, al_51, al_52, al_53, al_54, al_55, at_12, at_13, at_14, at_15, at_16, at_17, at_18, at_19, at_20, at_21, at_22, at_23, at_24, at_25, at_26, at_27, at_28, at_29, at_30, at_31, at_32, at_33, at_34, at_35, at_36, at_37, at_38, at_39, at_40, at_41, at_42, at_43, at_44, at_45, at_46, at_47, at_48, at_49, at_50, at_51, at_52, at_53, at_54, at_55, cn_0, cn_1, cn_2, cn_3, cn_4, cn_5, cn_6, cn_7, cn_8, cn_9, cn_10, cn_11, cn_12, cn_13, cn_14, cn_15, cn_16, cn_17, cn_18, cn_19, cn_20, cn_21, cn_22, cn_23, cn_24, cn_25, cn_26, cn_27, cn_28, cn_29, cn_30, cn_31, cn_32, cn_33, cn_34, cn_35, cn_36, cn_37, cn_38, cn_39, cn_40, cn_41, cn_42, cn_43, cn_44, cn_45, cn_46, cn_47, cn_48, cn_49, cn_50, cn_51, cn_52, cn_53, cn_54, cn_55, Nat.reduceAdd, Nat.reduceLT, Nat.reduceLeDiff, Nat.lt_add_one, Nat.zero_lt_succ, Nat.reduceSub, ite_true, ite_false, reduceCtorEq, forall_const, Nat.reduceSucc, Nat.zero_add, Nat.add_zero, Nat.le_refl, Nat.zero_le, Nat.reducePow, Int.reduceNeg, Nat.reduceMul, eq_self, Int.cast_ofNat_Int, Int.toNat_natCast, iR, lR, Int.reduceEq, Int.reduceLT, Int.reduceLE, Int.reduceNe, not_false_eq_true, not_true_eq_false, false_implies, true_implies, Int.reduceAdd, Int.reduceSub, Int.reduceMul, Int.reduceToNat, implies_true, or_true, true_or, or_false, false_or, T_X1_waysToSplit, gst_r14, gst_r15, gst_r13, gst_r8, gst_14, gst_15]
  rw [← hf]
  refine ⟨by omega, fun z2 => ?_, fun z2 => ⟨by omega, by omega, by omega, by omega, ?_⟩⟩
  · have e3 : Cc j.toNat = clF f j.toNat := by rw [hC2, show i.toNat = 3 by omega]; rfl
    rw [show (4 + j).toNat = 4 + j.toNat by omega, e3]
    refine ⟨by omega, by omega, by omega, CI_cg (gst_o M R Cc _ (by decide) (by decide) (by decide)) hC, by omega, by have := h0 j.toNat (by omega); omega, by have := h0 (4 + j.toNat) (by omega); omega, ?_⟩
    refine J_fgt [true, true, false] (ih (by omega) _ ⟨by omega, R, Cc, ?_, fun i' hi' => ?_, fun j' hj' => ?_⟩)
    · rw [gst_8, show (j + 1).toNat = j.toNat + 1 by omega]
      rfl
    · have := hR1 i' hi'
      rw [if_pos (by omega)] at this
      rw [show (j + 1).toNat = j.toNat + 1 by omega]
      exact this
    · by_cases e : j' = j.toNat
      · rw [e, e3]
      · exact hC1 j' (by omega)
  · refine ⟨by omega, by omega, ih2 (by omega) _ ⟨by omega, _, _, rfl, fun i' hi' => ?_, ?_, fun j' hj' => ?_⟩⟩
    · show (if i' = i.toNat then R i.toNat + f (i * 4 + j).toNat else R i') = _
      by_cases e : i' = i.toNat
      · rw [if_pos e, if_pos (by omega), hR1 _ (by omega), if_neg (by omega), sm_s, e, show (i * 4 + j).toNat = 4 * i.toNat + j.toNat by omega]
      · rw [if_neg e, hR1 i' hi']
        by_cases e2 : (i' : Int) < i
        · rw [if_pos e2, if_pos (by omega)]
        · rw [if_neg e2, if_neg (by omega)]
    · show (if j.toNat = j.toNat then Cc j.toNat + f (i * 4 + j).toNat else _) = _
      rw [if_pos rfl, hC2, show (i + 1).toNat = i.toNat + 1 by omega, sm_s, show (i * 4 + j).toNat = 4 * i.toNat + j.toNat by omega]
    · show (if j' = j.toNat then _ else Cc j') = _
      rw [if_neg (by omega)]
      exact hC1 j' hj'
/-! figure -/
def figF (f : Nat → Int) (n : Nat) (w : Int) : Int := if w = 0 then tri (sm f 12) (rsF f 0) (rsF f 1) else if w = 1 then owF f 4 else if 2 ≤ w ∧ w ≤ 5 then TS (phW w (owF f 4) (f 0)) (clF f) n 0 (rsF f 0) (rsF f 1) (rsF f 2) 1 0 else -1
theorem TS_cg (φ : Int → Int → Int) {cs cs' : Nat → Int} (k : Nat) : ∀ (c : Nat) (t m l w fx : Int), (∀ j, c ≤ j → j < c + k → cs j = cs' j) → TS φ cs k c t m l w fx = TS φ cs' k c t m l w fx := by
  induction k with
  | zero => intro c t m l w fx _; rfl
  | succ k ih =>
    intro c t m l w fx h
    have hc := h c (by omega) (by omega)
    show sm _ ((cs c).toNat + 1) = sm _ ((cs' c).toNat + 1)
    rw [hc]
    refine sm_cg fun x _ => ?_
    refine sm_cg fun y _ => ?_
    rw [ih (c + 1) _ _ _ _ _ (fun j a b => h j (by omega) (by omega))]
theorem owF_in {f : Nat → Int} (h : ∀ j, j < 12 → 0 ≤ f j) {j : Nat} (hj : j ≤ 4) : 0 ≤ owF f j ∧ owF f j ≤ b3 (sm (clF f) j) ∧ 0 ≤ sm (clF f) j := by
  induction j with
  | zero => exact ⟨(by decide : (0 : Int) ≤ 1), (by decide : (1 : Int) ≤ b3 0), (by decide : (0 : Int) ≤ 0)⟩
  | succ j ih =>
    obtain ⟨i1, i2, i3⟩ := ih (by omega)
    have c1 := (clF_in h (j := j) (by omega)).1
    have t1 := tri_nn (clF f j) (f j) (f (4 + j))
    have t2 := tri_le c1 (f j) (f (4 + j))
    rw [sm_s]
    refine ⟨Int.mul_nonneg i1 t1, ?_, by omega⟩
    have u1 : owF f j * tri (clF f j) (f j) (f (4 + j)) ≤ b3 (sm (clF f) j) * tri (clF f j) (f j) (f (4 + j)) := Int.mul_le_mul_of_nonneg_right i2 t1
    have u2 : b3 (sm (clF f) j) * tri (clF f j) (f j) (f (4 + j)) ≤ b3 (sm (clF f) j) * b3 (clF f j) := Int.mul_le_mul_of_nonneg_left t2 (by have := b3_pos (sm (clF f) j); omega)
    have u3 := b3_mul i3 c1
    show owF f j * tri (clF f j) (f j) (f (4 + j)) ≤ _
    omega
theorem clS_cg {cs cs' : Nat → Int} (k : Nat) : ∀ c : Nat, (∀ j, c ≤ j → j < c + k → cs j = cs' j) → clS cs c k = clS cs' c k := by
  induction k with
  | zero => intro c _; rfl
  | succ k ih => intro c h; show cs c + _ = cs' c + _; rw [h c (by omega) (by omega), ih (c + 1) (fun j a b => h j (by omega) (by omega))]
theorem GI_sum {M : Mm} (h : GI M) : clS (clF (M 13 0)) 0 (M 1 0 5).toNat = sm (M 13 0) 12 ∧ rsF (M 13 0) 0 + rsF (M 13 0) 1 + rsF (M 13 0) 2 = sm (M 13 0) 12 := by
  obtain ⟨⟨hr, hc⟩, h0, -, -, h5⟩ := h
  have a := f12 h0
  have b := clF_e (M 13 0)
  have c := sm12 (M 13 0)
  have d := rsF_e (M 13 0)
  refine ⟨?_, by omega⟩
  have z3 : M 1 0 5 ≤ 3 → M 13 0 3 = 0 ∧ M 13 0 7 = 0 ∧ M 13 0 11 = 0 := fun h => ⟨h5 0 3 (by decide) (by decide) (Or.inr (by omega)), h5 1 3 (by decide) (by decide) (Or.inr (by omega)), h5 2 3 (by decide) (by decide) (Or.inr (by omega))⟩
  have z2 : M 1 0 5 ≤ 2 → M 13 0 2 = 0 ∧ M 13 0 6 = 0 ∧ M 13 0 10 = 0 := fun h => ⟨h5 0 2 (by decide) (by decide) (Or.inr (by omega)), h5 1 2 (by decide) (by decide) (Or.inr (by omega)), h5 2 2 (by decide) (by decide) (Or.inr (by omega))⟩
  rcases (show M 1 0 5 = 2 ∨ M 1 0 5 = 3 ∨ M 1 0 5 = 4 by omega) with e | e | e
  · rw [e]
    show clF (M 13 0) 0 + (clF (M 13 0) 1 + 0) = _
    have := z3 (by omega)
    have := z2 (by omega)
    omega
  · rw [e]
    show clF (M 13 0) 0 + (clF (M 13 0) 1 + (clF (M 13 0) 2 + 0)) = _
    have := z3 (by omega)
    omega
  · rw [e]
    show clF (M 13 0) 0 + (clF (M 13 0) 1 + (clF (M 13 0) 2 + (clF (M 13 0) 3 + 0))) = _
    omega
theorem sm_clF (f : Nat → Int) : sm (clF f) 4 = sm f 12 := by
  have b := clF_e f
  have c := sm12 f
  show 0 + clF f 0 + clF f 1 + clF f 2 + clF f 3 = _
  omega
def T_X1_figure : Ct := fun as M P => match as with
  | [.inr (some (g, s)), .inl (.inl w)] => g = 1 ∧ s = 0 ∧ GI M ∧ CI M ∧ iR w ∧ ∀ M' : Mm, (∀ g' : Nat, ¬ g' = 1 → ¬ g' = 14 → ¬ g' = 15 → M' g' = M g') → (∀ k : Nat, k ≤ 6 → M' 1 0 k = M 1 0 k) → P (some (zl (figF (M 13 0) (M 1 0 5).toNat w))) M'
  | _ => False
theorem k_X1_figure (l : Launch) : MetT l yX1_figure cX1_figure 2 (some .long) 10 T_X1_figure := by
  refine MetT.of (by decide +kernel) (fun as M P h => by unfold T_X1_figure at h; split at h <;> first | (simp [elo]; done) | exact h.elim) (fun x as M P h C hR => ?_)
  unfold T_X1_figure at h
  split at h
  rotate_left
  · exact h.elim
  rename_i g s w
  obtain ⟨rfl, rfl, hG, hC, hw, hP⟩ := h
  obtain ⟨⟨hr, hc⟩, h0, h6, h40, h5⟩ := id hG
  have hsum := GI_sum hG
  refine B_X1_figure_0 C hR (k_X1_addUp l) (by decide) (k_X1_waysToSplit l) (by decide) (k_X1_tally l) (by decide) _ _ _ ?_
  simp only [c_iadd, c_isub, c_imul, c_ladd, c_lsub, c_lmul, c_ineg, c_lneg, c_ic, c_lc, c_iload, c_lload, c_aload, c_istore, c_astore, c_lstore, c_iinc, c_dup, c_dup2, c_goto, c_i2l, c_l2i, c_idiv, c_ldiv, c_lrem, c_lshl, c_gi, c_gl, c_gr, c_pi, c_pz, c_pl, c_iald, c_lald, c_bald, c_aald, c_iast, c_last, c_bast, c_callV, c_callS, c_mmax, c_mmin, c_mabs, c_mmaxl, c_mabsl, c_iret, c_zret, c_lret, c_vret, c_tsw, c_lsw, c_icmp_eq, c_icmp_ne, c_icmp_lt, c_icmp_ge, c_icmp_gt, c_icmp_le, c_if_eq, c_if_ne, c_if_lt, c_if_ge, c_if_gt, c_if_le, c_lcmp_eq, c_lcmp_ne, c_lcmp_lt, c_lcmp_ge, c_lcmp_gt, c_lcmp_le, c_lraw_eq, c_lraw_lt, c_lraw_ge, c_lraw_gt, c_lraw_le, acat, scat, tswP, pops, st1, st2, klo, pad, elo, List.getElem?_cons_zero, List.getElem?_cons_succ, List.getElem?_nil, List.set_cons_zero, List.set_cons_succ, List.set_nil, Option.toList_some, Option.toList_none, List.cons_append, List.nil_append, List.length_cons, List.length_nil, stc_ap, stm_ap, false_and, and_false, and_self, true_and, and_true, Nat.reduceEqDiff, reduceIte, al_12, al_13, al_14, al_15, al_16, al_17, al_18, al_19, al_20, al_21, al_22, al_23, al_24, al_25, al_26, al_27, al_28, al_29, al_30, al_31, al_32, al_33, al_34, al_35, al_36, al_37, al_38, al_39, al_40, al_41, al_42, al_43, al_44, al_45, al_46, al_47, al_48, al_49, al_50, al_51, al_52, al_53, al_54, al_55, at_12, at_13, at_14, at_15, at_16, at_17, at_18, at_19, at_20, at_21, at_22, at_23, at_24, at_25, at_26, at_27, at_28, at_29, at_30, at_31, at_32, at_33, at_34, at_35, at_36, at_37, at_38, at_39, at_40, at_41, at_42, at_43, at_44, at_45, at_46, at_47, at_48, at_49, at_50, at_51, at_52, at_53, at_54, at_55, cn_0, cn_1, cn_2, cn_3, cn_4, cn_5, cn_6, cn_7, cn_8, cn_9, cn_10, cn_11, cn_12, cn_13, cn_14, cn_15, cn_16, cn_17, cn_18, cn_19, cn_20, cn_21, cn_22, cn_23, cn_24, cn_25, cn_26, cn_27, cn_28, cn_29, cn_30, cn_31, cn_32, cn_33, cn_34, cn_35, cn_36, cn_37, cn_38, cn_39, cn_40, cn_41, cn_42, cn_43, cn_44, cn_45, cn_46, cn_47, cn_48, cn_49, cn_50, cn_51, cn_52, cn_53, cn_54, cn_55, Nat.reduceAdd, Nat.reduceLT, Nat.reduceLeDiff, Nat.lt_add_one, Nat.zero_lt_succ, Nat.reduceSub, ite_true, ite_false, reduceCtorEq, forall_const, Nat.reduceSucc, Nat.zero_add, Nat.add_zero, Nat.le_refl, Nat.zero_le, Nat.reducePow, Int.reduceNeg, Nat.reduceMul, eq_self, Int.cast_ofNat_Int, Int.toNat_natCast, iR, lR, Int.reduceEq, Int.reduceLT, Int.reduceLE, Int.reduceNe, not_false_eq_true, not_true_eq_false, false_implies, true_implies, Int.reduceAdd, Int.reduceSub, Int.reduceMul, Int.reduceToNat, implies_true, or_true, true_or, or_false, false_or, T_X1_addUp, T_X1_waysToSplit, T_X1_tally]
  refine ⟨hC, h0, by omega, fun R Cc hR1 hC1 => ?_⟩
  generalize hf : M 13 0 = f at *
  have ho := owF_in h0 (j := 4) (by omega)
  rw [sm_clF] at ho
  have ho2 := b3_40 (n := sm f 12) (by omega)
  have e13 : ∀ k : Nat, gst M R Cc (owF f 4) 13 0 k = f k := fun k => by rw [gst_r13, hf]
  have e1 : ∀ k : Nat, ¬ k = 8 → gst M R Cc (owF f 4) 1 0 k = M 1 0 k := fun k hk => gst_1 M R Cc _ hk
  have e15 : gst M R Cc (owF f 4) 15 0 = Cc := gst_r15 M R Cc _
  have e14 : gst M R Cc (owF f 4) 14 0 = R := gst_r14 M R Cc _
  have b := f12 h0
  have rr := rsF_e f
  have hfr : ∀ g' : Nat, ¬ g' = 1 → ¬ g' = 14 → ¬ g' = 15 → gst M R Cc (owF f 4) g' = M g' := fun g' a1 a2 a3 => gst_o M R Cc _ a1 a2 a3
  have hCI : CI (gst M R Cc (owF f 4)) := CI_cg (hfr 12 (by decide) (by decide) (by decide)) hC
  have hclS : clS Cc 0 (M 1 0 5).toNat = sm f 12 := by
    rw [clS_cg (cs' := clF f) _ 0 (fun j a b => hC1 j (by omega))]
    exact hsum.1
  have hGB : GB (gst M R Cc (owF f 4)) := by
    refine ⟨hCI, by rw [e1 5 (by decide)]; omega, fun j hj => by rw [e15, hC1 j hj]; exact (clF_in h0 hj).1, by rw [gst_r8]; omega, by rw [e13]; have := clF_in h0 (j := 0) (by omega); omega⟩
  have htl : ∀ Q : Mm → Prop, (∀ M' : Mm, (∀ g' : Nat, ¬ g' = 1 → ¬ g' = 14 → ¬ g' = 15 → M' g' = M g') → (∀ k : Nat, k ≤ 6 → M' 1 0 k = M 1 0 k) → M' 1 0 9 = figF f (M 1 0 5).toNat 2 → M' 1 0 10 = figF f (M 1 0 5).toNat 3 → M' 1 0 11 = figF f (M 1 0 5).toNat 4 → M' 1 0 12 = figF f (M 1 0 5).toNat 5 → Q M') → (GB (gst M R Cc (owF f 4)) ∧ (∀ i : Nat, i < 3 → 0 ≤ gst M R Cc (owF f 4) 14 0 i) ∧ gst M R Cc (owF f 4) 14 0 0 + gst M R Cc (owF f 4) 14 0 1 + gst M R Cc (owF f 4) 14 0 2 = clS (gst M R Cc (owF f 4) 15 0) 0 (gst M R Cc (owF f 4) 1 0 5).toNat ∧ clS (gst M R Cc (owF f 4) 15 0) 0 (gst M R Cc (owF f 4) 1 0 5).toNat ≤ 40 ∧ ∀ M' : Mm, (∀ g' : Nat, ¬ g' = 1 → M' g' = gst M R Cc (owF f 4) g') → (∀ k : Nat, k ≤ 6 → M' 1 0 k = gst M R Cc (owF f 4) 1 0 k) → M' 1 0 9 = TS (phU (gst M R Cc (owF f 4) 1 0 8)) (gst M R Cc (owF f 4) 15 0) (gst M R Cc (owF f 4) 1 0 5).toNat 0 (gst M R Cc (owF f 4) 14 0 0) (gst M R Cc (owF f 4) 14 0 1) (gst M R Cc (owF f 4) 14 0 2) 1 0 → M' 1 0 10 = TS phN (gst M R Cc (owF f 4) 15 0) (gst M R Cc (owF f 4) 1 0 5).toNat 0 (gst M R Cc (owF f 4) 14 0 0) (gst M R Cc (owF f 4) 14 0 1) (gst M R Cc (owF f 4) 14 0 2) 1 0 → M' 1 0 11 = TS (phA (gst M R Cc (owF f 4) 13 0 0)) (gst M R Cc (owF f 4) 15 0) (gst M R Cc (owF f 4) 1 0 5).toNat 0 (gst M R Cc (owF f 4) 14 0 0) (gst M R Cc (owF f 4) 14 0 1) (gst M R Cc (owF f 4) 14 0 2) 1 0 → M' 1 0 12 = TS (phB (gst M R Cc (owF f 4) 13 0 0)) (gst M R Cc (owF f 4) 15 0) (gst M R Cc (owF f 4) 1 0 5).toNat 0 (gst M R Cc (owF f 4) 14 0 0) (gst M R Cc (owF f 4) 14 0 1) (gst M R Cc (owF f 4) 14 0 2) 1 0 → Q M') := by
    intro Q hQ
    rw [e14, e15, e1 5 (by decide), e13, gst_r8, hR1 0 (by decide), hR1 1 (by decide), hR1 2 (by decide), hclS]
    refine ⟨hGB, fun i hi => ?_, hsum.2, by omega, fun M' a1 a2 a3 a4 a5 a6 => ?_⟩
    · rw [hR1 i hi]
      match i, hi with
      | 0, _ => omega
      | 1, _ => omega
      | 2, _ => omega
    · have hts : ∀ φ : Int → Int → Int, TS φ Cc (M 1 0 5).toNat 0 (rsF f 0) (rsF f 1) (rsF f 2) 1 0 = TS φ (clF f) (M 1 0 5).toNat 0 (rsF f 0) (rsF f 1) (rsF f 2) 1 0 := fun φ => TS_cg φ _ 0 _ _ _ _ _ (fun j u v => hC1 j (by omega))
      rw [hts] at a3 a4 a5 a6
      exact hQ M' (fun g' u1 u2 u3 => (a1 g' u1).trans (hfr g' u1 u2 u3)) (fun k hk => (a2 k hk).trans (e1 k (by omega))) a3 a4 a5 a6
  refine ⟨hw, ⟨fun e => ?_, fun e => ?_, fun e => ?_, fun e => ?_, fun e => ?_, fun e => ?_⟩, fun e => ?_⟩
  · subst e
    rw [e14, e1 6 (by decide), hR1 0 (by decide), hR1 1 (by decide), h6]
    exact ⟨hCI, by omega, by omega, by omega, hP _ hfr (fun k hk => e1 k (by omega))⟩
  · subst e
    exact hP _ hfr (fun k hk => e1 k (by omega))
  · subst e
    exact htl _ (fun M' u1 u2 u3 u4 u5 u6 => by rw [u3]; exact hP M' u1 u2)
  · subst e
    exact htl _ (fun M' u1 u2 u3 u4 u5 u6 => by rw [u4]; exact hP M' u1 u2)
  · subst e
    exact htl _ (fun M' u1 u2 u3 u4 u5 u6 => by rw [u5]; exact hP M' u1 u2)
  · subst e
    exact htl _ (fun M' u1 u2 u3 u4 u5 u6 => by rw [u6]; exact hP M' u1 u2)
  · have := hP _ hfr (fun k hk => e1 k (by omega))
    unfold figF at this
    rw [if_neg (by omega), if_neg (by omega), if_neg (by omega)] at this
    exact this
def T_X10_margins : Ct := fun as M P => match as with
  | [.inr (some (g, s)), .inl (.inl w)] => g = 10 ∧ s = 0 ∧ T_X1_figure [zr 1 0, zi w] M P
  | _ => False
theorem k_X10_margins (l : Launch) : MetT l yX10_margins cX10_margins 2 (some .long) 11 T_X10_margins := by
  refine MetT.of (by decide +kernel) (fun as M P h => by unfold T_X10_margins at h; split at h <;> first | (simp [elo]; done) | exact h.elim) (fun x as M P h C hR => ?_)
  unfold T_X10_margins at h
  split at h
  rotate_left
  · exact h.elim
  rename_i g s w
  obtain ⟨rfl, rfl, hP⟩ := h
  simp only [T_X1_figure, true_and] at hP
  obtain ⟨hG, hC, hw, h1⟩ := hP
  refine B_X10_margins_0 C hR (k_X1_figure l) (by decide) _ _ _ ?_
  simp only [c_iadd, c_isub, c_imul, c_ladd, c_lsub, c_lmul, c_ineg, c_lneg, c_ic, c_lc, c_iload, c_lload, c_aload, c_istore, c_astore, c_lstore, c_iinc, c_dup, c_dup2, c_goto, c_i2l, c_l2i, c_idiv, c_ldiv, c_lrem, c_lshl, c_gi, c_gl, c_gr, c_pi, c_pz, c_pl, c_iald, c_lald, c_bald, c_aald, c_iast, c_last, c_bast, c_callV, c_callS, c_mmax, c_mmin, c_mabs, c_mmaxl, c_mabsl, c_iret, c_zret, c_lret, c_vret, c_tsw, c_lsw, c_icmp_eq, c_icmp_ne, c_icmp_lt, c_icmp_ge, c_icmp_gt, c_icmp_le, c_if_eq, c_if_ne, c_if_lt, c_if_ge, c_if_gt, c_if_le, c_lcmp_eq, c_lcmp_ne, c_lcmp_lt, c_lcmp_ge, c_lcmp_gt, c_lcmp_le, c_lraw_eq, c_lraw_lt, c_lraw_ge, c_lraw_gt, c_lraw_le, acat, scat, tswP, pops, st1, st2, klo, pad, elo, List.getElem?_cons_zero, List.getElem?_cons_succ, List.getElem?_nil, List.set_cons_zero, List.set_cons_succ, List.set_nil, Option.toList_some, Option.toList_none, List.cons_append, List.nil_append, List.length_cons, List.length_nil, stc_ap, stm_ap, false_and, and_false, and_self, true_and, and_true, Nat.reduceEqDiff, reduceIte, al_12, al_13, al_14, al_15, al_16, al_17, al_18, al_19, al_20, al_21, al_22, al_23, al_24, al_25, al_26, al_27, al_28, al_29, al_30, al_31, al_32, al_33, al_34, al_35, al_36, al_37, al_38, al_39, al_40, al_41, al_42, al_43, al_44, al_45, al_46, al_47, al_48, al_49, al_50, al_51, al_52, al_53, al_54, al_55, at_12, at_13, at_14, at_15, at_16, at_17, at_18, at_19, at_20, at_21, at_22, at_23, at_24, at_25, at_26, at_27, at_28, at_29, at_30, at_31, at_32, at_33, at_34, at_35, at_36, at_37, at_38, at_39, at_40, at_41, at_42, at_43, at_44, at_45, at_46, at_47, at_48, at_49, at_50, at_51, at_52, at_53, at_54, at_55, cn_0, cn_1, cn_2, cn_3, cn_4, cn_5, cn_6, cn_7, cn_8, cn_9, cn_10, cn_11, cn_12, cn_13, cn_14, cn_15, cn_16, cn_17, cn_18, cn_19, cn_20, cn_21, cn_22, cn_23, cn_24, cn_25, cn_26, cn_27, cn_28, cn_29, cn_30, cn_31, cn_32, cn_33, cn_34, cn_35, cn_36, cn_37, cn_38, cn_39, cn_40, cn_41, cn_42, cn_43, cn_44, cn_45, cn_46, cn_47, cn_48, cn_49, cn_50, cn_51, cn_52, cn_53, cn_54, cn_55, Nat.reduceAdd, Nat.reduceLT, Nat.reduceLeDiff, Nat.lt_add_one, Nat.zero_lt_succ, Nat.reduceSub, ite_true, ite_false, reduceCtorEq, forall_const, Nat.reduceSucc, Nat.zero_add, Nat.add_zero, Nat.le_refl, Nat.zero_le, Nat.reducePow, Int.reduceNeg, Nat.reduceMul, eq_self, Int.cast_ofNat_Int, Int.toNat_natCast, iR, lR, Int.reduceEq, Int.reduceLT, Int.reduceLE, Int.reduceNe, not_false_eq_true, not_true_eq_false, false_implies, true_implies, Int.reduceAdd, Int.reduceSub, Int.reduceMul, Int.reduceToNat, implies_true, or_true, true_or, or_false, false_or, T_X1_figure]
  exact ⟨hG, hC, hw, fun M' u1 u2 => h1 M' u1 u2⟩
