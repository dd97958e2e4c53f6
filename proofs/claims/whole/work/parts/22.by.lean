/-! CloudBench$Question: counted by a side, listed -/
def onB (M : Mm) (v side : Int) : Bool := decide ((side = 0 ∧ M 5 0 8 ≤ v) ∨ (side = 1 ∧ v ≤ M 5 0 8) ∨ (¬ side = 0 ∧ ¬ side = 1 ∧ farv M (M 5 0 8) ≤ farv M v))
theorem onB_iff {M : Mm} {v side : Int} : onB M v side = true ↔ onS M v side := decide_eq_true_iff
theorem onB_cg {M M' : Mm} (h : M' 5 = M 5) (v side : Int) : onB M' v side = onB M v side := by
  unfold onB farv
  rw [h]
def csm (D : Int → Int) (p : Int → Bool) (fi : Int) : Nat → Int
  | 0 => 0
  | n + 1 => csm D p fi n + if p (fi + n) then D (fi + n) else 0
/-- scores of keys and their measure stay small -/
def mOk (M : Mm) : Prop := lR (M 5 0 8) ∧ farOk M (M 5 0 8) ∧ ∀ key : Int, 0 ≤ key → key ≤ 20000 → lR (M 5 0 10 * key + M 5 0 11) ∧ farOk M (M 5 0 10 * key + M 5 0 11)
def T_X5_countBy : Ct := fun as M P => match as with
  | [.inr (some (g, s)), .inl (.inl side)] => g = 5 ∧ s = 0 ∧ iR side ∧ QI M ∧ mOk M ∧ ∀ (M' : Mm) (dk : Int → Int) (fi la : Int), QD (M 5 0 5) (M 5 0 6) (M 5 0 7) (M 21 0) dk fi la → (∀ g' : Nat, ¬ g' = 9 → ¬ g' = 28 → ¬ g' = 29 → ¬ g' = 21 → M' g' = M g') → (0 ≤ fi ∧ fi ≤ 20000 ∧ -1 ≤ la ∧ la ≤ 20000) → P (some (zl (csm dk (fun key => onB M (M 5 0 10 * key + M 5 0 11) side) fi (la + 1 - fi).toNat))) M'
  | _ => False
theorem k_X5_countBy (l : Launch) : MetT l yX5_countBy cX5_countBy 5 (some .long) 4 T_X5_countBy := by
  refine MetT.of (by decide +kernel) (fun as M P h => by unfold T_X5_countBy at h; split at h <;> first | (simp [elo]; done) | exact h.elim) (fun x as M P h C hR => ?_)
  unfold T_X5_countBy at h
  split at h
  rotate_left
  · exact h.elim
  rename_i g s side
  obtain ⟨rfl, rfl, hsd, hQ, ⟨hm1, hm2, hm3⟩, hP⟩ := h
  refine B_X5_countBy_0 C (k_X5_countWays l) (by decide) _ _ _ ?_
  simp only [c_iadd, c_isub, c_imul, c_ladd, c_lsub, c_lmul, c_ineg, c_lneg, c_ic, c_lc, c_iload, c_lload, c_aload, c_istore, c_astore, c_lstore, c_iinc, c_dup, c_dup2, c_goto, c_i2l, c_l2i, c_idiv, c_ldiv, c_lrem, c_lshl, c_gi, c_gl, c_gr, c_pi, c_pz, c_pl, c_iald, c_lald, c_bald, c_aald, c_iast, c_last, c_bast, c_callV, c_callS, c_mmax, c_mmin, c_mabs, c_mmaxl, c_mabsl, c_iret, c_zret, c_lret, c_vret, c_tsw, c_lsw, c_icmp_eq, c_icmp_ne, c_icmp_lt, c_icmp_ge, c_icmp_gt, c_icmp_le, c_if_eq, c_if_ne, c_if_lt, c_if_ge, c_if_gt, c_if_le, c_lcmp_eq, c_lcmp_ne, c_lcmp_lt, c_lcmp_ge, c_lcmp_gt, c_lcmp_le, c_lraw_eq, c_lraw_lt, c_lraw_ge, c_lraw_gt, c_lraw_le, acat, scat, tswP, pops, st1, st2, klo, pad, elo, List.getElem?_cons_zero, List.getElem?_cons_succ, List.getElem?_nil, List.set_cons_zero, List.set_cons_succ, List.set_nil, Option.toList_some, Option.toList_none, List.cons_append, List.nil_append, List.length_cons, List.length_nil, stc_ap, stm_ap, false_and, and_false, and_self, true_and, and_true, Nat.reduceEqDiff, reduceIte, al_12, al_13, al_14, al_15, al_16, al_17, al_18, al_19, al_20, al_21, al_22, al_23, al_24, al_25, al_26, al_27, al_28, al_29, al_30, al_31, al_32, al_33, al_34, al_35, al_36, al_37, al_38, al_39, al_40, al_41, al_42, al_43, al_44, al_45, al_46, al_47, al_48, al_49, al_50, al_51, al_52, al_53, al_54, al_55, at_12, at_13, at_14, at_15, at_16, at_17, at_18, at_19, at_20, at_21, at_22, at_23, at_24, at_25, at_26, at_27, at_28, at_29, at_30, at_31, at_32, at_33, at_34, at_35, at_36, at_37, at_38, at_39, at_40, at_41, at_42, at_43, at_44, at_45, at_46, at_47, at_48, at_49, at_50, at_51, at_52, at_53, at_54, at_55, cn_0, cn_1, cn_2, cn_3, cn_4, cn_5, cn_6, cn_7, cn_8, cn_9, cn_10, cn_11, cn_12, cn_13, cn_14, cn_15, cn_16, cn_17, cn_18, cn_19, cn_20, cn_21, cn_22, cn_23, cn_24, cn_25, cn_26, cn_27, cn_28, cn_29, cn_30, cn_31, cn_32, cn_33, cn_34, cn_35, cn_36, cn_37, cn_38, cn_39, cn_40, cn_41, cn_42, cn_43, cn_44, cn_45, cn_46, cn_47, cn_48, cn_49, cn_50, cn_51, cn_52, cn_53, cn_54, cn_55, Nat.reduceAdd, Nat.reduceLT, Nat.reduceLeDiff, Nat.lt_add_one, Nat.zero_lt_succ, Nat.reduceSub, ite_true, ite_false, reduceCtorEq, forall_const, Nat.reduceSucc, Nat.zero_add, Nat.add_zero, Nat.le_refl, Nat.zero_le, Nat.reducePow, Int.reduceNeg, Nat.reduceMul, eq_self, Int.cast_ofNat_Int, Int.toNat_natCast, iR, lR, Int.reduceEq, Int.reduceLT, Int.reduceLE, Int.reduceNe, not_false_eq_true, not_true_eq_false, false_implies, true_implies, Int.reduceAdd, Int.reduceSub, Int.reduceMul, Int.reduceToNat, implies_true, or_true, true_or, or_false, false_or, T_X5_countWays]
  refine ⟨hQ, fun M1 dk fi la hqd hfr hwk => ?_⟩
  have hP := hP M1 dk fi la hqd hfr hwk.2.2.1
  obtain ⟨w3, w4, wb, wk⟩ := hwk
  have h5 : M1 5 = M 5 := hfr 5 (by decide) (by decide) (by decide) (by decide)
  rw [w3]
  suffices hh : ∀ (key : Int) (M' : Mm), (M1 = M' ∧ fi ≤ key ∧ (key ≤ la + 1 ∨ key = fi)) → J x 15 [some (zr 5 0), some (zi side), some (zl (csm dk (fun key => onB M (M 5 0 10 * key + M 5 0 11) side) fi (key - fi).toNat)), none, some (zi key)] [] M' by
    have := hh fi M1 ⟨rfl, by omega, Or.inr rfl⟩
    rw [Int.sub_self] at this
    exact this
  refine loopU (la + 1) _ _ ?_
  rintro key M' ⟨rfl, hk1, hk2⟩ ih
  refine B_X5_countBy_15 C hR (k_X5_isOnSide l) (by decide) (k_X9_of l) (by decide) _ _ _ ?_
  simp only [c_iadd, c_isub, c_imul, c_ladd, c_lsub, c_lmul, c_ineg, c_lneg, c_ic, c_lc, c_iload, c_lload, c_aload, c_istore, c_astore, c_lstore, c_iinc, c_dup, c_dup2, c_goto, c_i2l, c_l2i, c_idiv, c_ldiv, c_lrem, c_lshl, c_gi, c_gl, c_gr, c_pi, c_pz, c_pl, c_iald, c_lald, c_bald, c_aald, c_iast, c_last, c_bast, c_callV, c_callS, c_mmax, c_mmin, c_mabs, c_mmaxl, c_mabsl, c_iret, c_zret, c_lret, c_vret, c_tsw, c_lsw, c_icmp_eq, c_icmp_ne, c_icmp_lt, c_icmp_ge, c_icmp_gt, c_icmp_le, c_if_eq, c_if_ne, c_if_lt, c_if_ge, c_if_gt, c_if_le, c_lcmp_eq, c_lcmp_ne, c_lcmp_lt, c_lcmp_ge, c_lcmp_gt, c_lcmp_le, c_lraw_eq, c_lraw_lt, c_lraw_ge, c_lraw_gt, c_lraw_le, acat, scat, tswP, pops, st1, st2, klo, pad, elo, List.getElem?_cons_zero, List.getElem?_cons_succ, List.getElem?_nil, List.set_cons_zero, List.set_cons_succ, List.set_nil, Option.toList_some, Option.toList_none, List.cons_append, List.nil_append, List.length_cons, List.length_nil, stc_ap, stm_ap, false_and, and_false, and_self, true_and, and_true, Nat.reduceEqDiff, reduceIte, al_12, al_13, al_14, al_15, al_16, al_17, al_18, al_19, al_20, al_21, al_22, al_23, al_24, al_25, al_26, al_27, al_28, al_29, al_30, al_31, al_32, al_33, al_34, al_35, al_36, al_37, al_38, al_39, al_40, al_41, al_42, al_43, al_44, al_45, al_46, al_47, al_48, al_49, al_50, al_51, al_52, al_53, al_54, al_55, at_12, at_13, at_14, at_15, at_16, at_17, at_18, at_19, at_20, at_21, at_22, at_23, at_24, at_25, at_26, at_27, at_28, at_29, at_30, at_31, at_32, at_33, at_34, at_35, at_36, at_37, at_38, at_39, at_40, at_41, at_42, at_43, at_44, at_45, at_46, at_47, at_48, at_49, at_50, at_51, at_52, at_53, at_54, at_55, cn_0, cn_1, cn_2, cn_3, cn_4, cn_5, cn_6, cn_7, cn_8, cn_9, cn_10, cn_11, cn_12, cn_13, cn_14, cn_15, cn_16, cn_17, cn_18, cn_19, cn_20, cn_21, cn_22, cn_23, cn_24, cn_25, cn_26, cn_27, cn_28, cn_29, cn_30, cn_31, cn_32, cn_33, cn_34, cn_35, cn_36, cn_37, cn_38, cn_39, cn_40, cn_41, cn_42, cn_43, cn_44, cn_45, cn_46, cn_47, cn_48, cn_49, cn_50, cn_51, cn_52, cn_53, cn_54, cn_55, Nat.reduceAdd, Nat.reduceLT, Nat.reduceLeDiff, Nat.lt_add_one, Nat.zero_lt_succ, Nat.reduceSub, ite_true, ite_false, reduceCtorEq, forall_const, Nat.reduceSucc, Nat.zero_add, Nat.add_zero, Nat.le_refl, Nat.zero_le, Nat.reducePow, Int.reduceNeg, Nat.reduceMul, eq_self, Int.cast_ofNat_Int, Int.toNat_natCast, iR, lR, Int.reduceEq, Int.reduceLT, Int.reduceLE, Int.reduceNe, not_false_eq_true, not_true_eq_false, false_implies, true_implies, Int.reduceAdd, Int.reduceSub, Int.reduceMul, Int.reduceToNat, implies_true, or_true, true_or, or_false, false_or, T_X5_isOnSide, T_X9_of, h5, w3, w4]
  have h60 : ∀ v : Int, (key ≤ la → csm dk (fun key => onB M (M 5 0 10 * key + M 5 0 11) side) fi (key + 1 - fi).toNat = v) → key ≤ la → J x 60 [some (zr 5 0), some (zi side), some (zl v), none, some (zi key)] [] M1 := by
    intro v hv hle
    refine B_X5_countBy_60 C _ _ _ ?_
    simp only [c_iadd, c_isub, c_imul, c_ladd, c_lsub, c_lmul, c_ineg, c_lneg, c_ic, c_lc, c_iload, c_lload, c_aload, c_istore, c_astore, c_lstore, c_iinc, c_dup, c_dup2, c_goto, c_i2l, c_l2i, c_idiv, c_ldiv, c_lrem, c_lshl, c_gi, c_gl, c_gr, c_pi, c_pz, c_pl, c_iald, c_lald, c_bald, c_aald, c_iast, c_last, c_bast, c_callV, c_callS, c_mmax, c_mmin, c_mabs, c_mmaxl, c_mabsl, c_iret, c_zret, c_lret, c_vret, c_tsw, c_lsw, c_icmp_eq, c_icmp_ne, c_icmp_lt, c_icmp_ge, c_icmp_gt, c_icmp_le, c_if_eq, c_if_ne, c_if_lt, c_if_ge, c_if_gt, c_if_le, c_lcmp_eq, c_lcmp_ne, c_lcmp_lt, c_lcmp_ge, c_lcmp_gt, c_lcmp_le, c_lraw_eq, c_lraw_lt, c_lraw_ge, c_lraw_gt, c_lraw_le, acat, scat, tswP, pops, st1, st2, klo, pad, elo, List.getElem?_cons_zero, List.getElem?_cons_succ, List.getElem?_nil, List.set_cons_zero, List.set_cons_succ, List.set_nil, Option.toList_some, Option.toList_none, List.cons_append, List.nil_append, List.length_cons, List.length_nil, stc_ap, stm_ap, false_and, and_false, and_self, true_and, and_true, Nat.reduceEqDiff, reduceIte, al_12, al_13, al_14, al_15, al_16, al_17, al_18, al_19, al_20, al_21, al_22, al_23, al_24, al_25, al_26, al_27, al_28, al_29, al_30, al_31, al_32, al_33, al_34, al_35, al_36, al_37, al_38, al_39, al_40, al_41, al_42, al_43, al_44, al_45, al_46, al_47, al_48, al_49, al_50, al_51, al_52, al_53, al_54, al_55, at_12, at_13, at_14, at_15, at_16, at_17, at_18, at_19, at_20, at_21, at_22, at_23, at_24, at_25, at_26, at_27, at_28, at_29, at_30, at_31, at_32, at_33, at_34, at_35, at_36, at_37, at_38, at_39, at_40, at_41, at_42, at_43, at_44, at_45, at_46, at_47, at_48, at_49, at_50, at_51, at_52, at_53, at_54, at_55, cn_0, cn_1, cn_2, cn_3, cn_4, cn_5, cn_6, cn_7, cn_8, cn_9, cn_10, cn_11, cn_12, cn_13, cn_14, cn_15, cn_16, cn_17, cn_18, cn_19, cn_20, cn_21, cn_22, cn_23, cn_24, cn_25, cn_26, cn_27, cn_28, cn_29, cn_30, cn_31, cn_32, cn_33, cn_34, cn_35, cn_36, cn_37, cn_38, cn_39, cn_40, cn_41, cn_42, cn_43, cn_44, cn_45, cn_46, cn_47, cn_48, cn_49, cn_50, cn_51, cn_52, cn_53, cn_54, cn_55, Nat.reduceAdd, Nat.reduceLT, Nat.reduceLeDiff, Nat.lt_add_one, Nat.zero_lt_succ, Nat.reduceSub, ite_true, ite_false, reduceCtorEq, forall_const, Nat.reduceSucc, Nat.zero_add, Nat.add_zero, Nat.le_refl, Nat.zero_le, Nat.reducePow, Int.reduceNeg, Nat.reduceMul, eq_self, Int.cast_ofNat_Int, Int.toNat_natCast, iR, lR, Int.reduceEq, Int.reduceLT, Int.reduceLE, Int.reduceNe, not_false_eq_true, not_true_eq_false, false_implies, true_implies, Int.reduceAdd, Int.reduceSub, Int.reduceMul, Int.reduceToNat, implies_true, or_true, true_or, or_false, false_or]
    rw [← hv hle]
    exact ih (by omega) _ ⟨rfl, by omega, Or.inl (by omega)⟩
  have hst : key ≤ la → csm dk (fun key => onB M (M 5 0 10 * key + M 5 0 11) side) fi (key + 1 - fi).toNat = csm dk (fun key => onB M (M 5 0 10 * key + M 5 0 11) side) fi (key - fi).toNat + if onB M (M 5 0 10 * key + M 5 0 11) side then dk key else 0 := by
    intro _
    rw [show (key + 1 - fi).toNat = (key - fi).toNat + 1 by omega]
    show _ + (if onB M (M 5 0 10 * (fi + ((key - fi).toNat : Nat)) + M 5 0 11) side = true then dk (fi + ((key - fi).toNat : Nat)) else 0) = _
    rw [show fi + (((key - fi).toNat : Nat) : Int) = key by omega]
  have hfo : ∀ v : Int, farOk M v → farOk M1 v := fun v h => by unfold farOk at h ⊢; rw [h5]; exact h
  refine ⟨by omega, by omega, fun q => ?_, fun q => ?_⟩
  · have e9 : (key - fi).toNat = (la + 1 - fi).toNat := by omega
    rw [e9]
    exact hP
  · have hk := hm3 key (by omega) (by omega)
    have hwk := wk key hk1 (by omega)
    refine ⟨by omega, hsd, hk.1, hm1, hfo _ hk.2, hfo _ hm2, fun o => ⟨by omega, by omega, by omega, fun _ _ => hwk.1, ?_⟩, fun o => ?_⟩
    · refine h60 _ (fun hle => ?_) (by omega)
      rw [hst hle, if_pos (show onB M (M 5 0 10 * key + M 5 0 11) side = true by rw [← onB_cg h5]; exact onB_iff.mpr o), if_pos ⟨hk1, hle⟩, hwk.2]
    · refine h60 _ (fun hle => ?_) (by omega)
      rw [hst hle, if_neg (show ¬ onB M (M 5 0 10 * key + M 5 0 11) side = true by rw [← onB_cg h5]; exact fun z => o (onB_iff.mp z)), Int.add_zero]
/-- the keys that have ways, in rising order -/
def nzk (D : Int → Int) (fi : Int) : Nat → List Int
  | 0 => []
  | n + 1 => if 0 < D (fi + n) then nzk D fi n ++ [fi + n] else nzk D fi n
theorem nzk_len (D : Int → Int) (fi : Int) (n : Nat) : (nzk D fi n).length ≤ n := by
  induction n with
  | zero => exact Nat.le_refl 0
  | succ n ih =>
    unfold nzk
    split
    · rw [List.length_append]; simp only [List.length_cons, List.length_nil]; omega
    · omega
/-- the ladder holds the listed keys' scores and ways, as many as it keeps -/
def LK (M : Mm) (st sh : Int) (dk : Int → Int) (ks : List Int) : Prop := M 2 0 2 = ks.length ∧ ∀ q : Nat, q < 2000 → ∀ key : Int, ks[q]? = some key → M 16 0 q = st * key + sh ∧ M 17 0 q = dk key
def T_X5_listInto : Ct := fun as M P => match as with
  | [.inr (some (g, s)), .inr (some (g2, s2))] => g = 5 ∧ s = 0 ∧ g2 = 2 ∧ s2 = 0 ∧ QI M ∧ ∀ (M' : Mm) (dk : Int → Int) (fi la : Int), QD (M 5 0 5) (M 5 0 6) (M 5 0 7) (M 21 0) dk fi la → (∀ g' : Nat, ¬ g' = 9 → ¬ g' = 28 → ¬ g' = 29 → ¬ g' = 21 → ¬ g' = 2 → ¬ g' = 16 → ¬ g' = 17 → M' g' = M g') → (0 ≤ fi ∧ fi ≤ 20000 ∧ -1 ≤ la ∧ la ≤ 20000) → LK M' (M 5 0 10) (M 5 0 11) dk (nzk dk fi (la + 1 - fi).toNat) → P none M'
  | _ => False
