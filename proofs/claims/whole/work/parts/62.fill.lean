/-! CloudBenchModel.fill: paired tests, the whole -/
theorem fill_3s (l : Launch) {x : Xc} (C : Cx x l cX11_fill RX11 10 4) {P : Option AV → Mm → Prop} (hR : Rx x none P) {M1 : Mm} {r h : Nat → Int} {t a b na nb nn : Int} {m : Nat} (hm : m ≤ 20) (h15 : M1 11 0 15 = m) (hr : M1 39 0 = r) (hh40 : M1 40 0 = h) (hrb : ∀ j : Nat, j < m → 0 ≤ r j ∧ r j ≤ 81) (hhb : ∀ j : Nat, j < m → h j = 0 ∨ h j = 1) (h7 : M1 11 0 7 = 0) {ths : Nat → Int} (ht0 : ths 0 = 0) (hts : ∀ k : Nat, k < m → ths (k + 1) = ths k + if h k = 0 then 0 else r k)
    (hP : ∀ M' : Mm, (∀ g' : Nat, ¬ g' = 11 → ¬ g' = 34 → ¬ g' = 35 → ¬ g' = 36 → M' g' = M1 g') → (∀ k : Nat, ¬ k = 7 → ¬ k = 9 → ¬ k = 10 → ¬ k = 11 → M' 11 0 k = M1 11 0 k) → ML M' (tlst (swc r m) 1 0 (sm r m + 1).toNat) → M' 11 0 9 = ths m → M' 11 0 10 = 2 → M' 11 0 11 = sm r m → P none M') :
    J x 318 [some (zr 11 0), some (zi t), some (zi a), some (zi b), some (zi na), some (zi nb), some (zi nn), some (zl 0), none, some (zi 0)] [] (stm M1 11 0 9 0) := by
  have hr' : ∀ i : Nat, M1 39 0 i = r i := fun i => by rw [hr]
  have hh' : ∀ i : Nat, M1 40 0 i = h i := fun i => by rw [hh40]
  have hsr : ∀ k : Nat, k ≤ m → 0 ≤ sm r k ∧ sm r k ≤ 2000 := fun k hk => by
    have := sm_in (f := r) (n := k) (c := 81) (by decide) (fun j hj => hrb j (by omega))
    omega
  suffices hh : ∀ (k : Int) (M' : Mm), ((0 ≤ k ∧ k ≤ m) ∧ M' = stm M1 11 0 9 (ths k.toNat)) → J x 318 [some (zr 11 0), some (zi t), some (zi a), some (zi b), some (zi na), some (zi nb), some (zi nn), some (zl (sm r k.toNat)), none, some (zi k)] [] M' by
    exact hh 0 _ ⟨by omega, congrArg (stm M1 11 0 9) ht0.symm⟩
  refine loopU m _ _ ?_
  rintro k M' ⟨hk, rfl⟩ ih
  have h367 : ∀ v s1 : Int, k < m → v = (if h k.toNat = 0 then 0 else r k.toNat) → s1 = sm r (k.toNat + 1) → J x 367 [some (zr 11 0), some (zi t), some (zi a), some (zi b), some (zi na), some (zi nb), some (zi nn), some (zl s1), none, some (zi k)] [zl v, zl (ths k.toNat), zr 11 0] (stm M1 11 0 9 (ths k.toNat)) := by
    intro v s1 hlt hv hs1
    refine B_X11_fill_367 C _ _ _ ?_
    simp only [c_iadd, c_isub, c_imul, c_ladd, c_lsub, c_lmul, c_ineg, c_lneg, c_ic, c_lc, c_iload, c_lload, c_aload, c_istore, c_astore, c_lstore, c_iinc, c_dup, c_dup2, c_goto, c_i2l, c_l2i, c_idiv, c_ldiv, c_lrem, c_lshl, c_gi, c_gl, c_gr, c_pi, c_pz, c_pl, c_iald, c_lald, c_bald, c_aald, c_iast, c_last, c_bast, c_callV, c_callS, c_mmax, c_mmin, c_mabs, c_mmaxl, c_mabsl, c_iret, c_zret, c_lret, c_vret, c_tsw, c_lsw, c_icmp_eq, c_icmp_ne, c_icmp_lt, c_icmp_ge, c_icmp_gt, c_icmp_le, c_if_eq, c_if_ne, c_if_lt, c_if_ge, c_if_gt, c_if_le, c_lcmp_eq, c_lcmp_ne, c_lcmp_lt, c_lcmp_ge, c_lcmp_gt, c_lcmp_le, c_lraw_eq, c_lraw_lt, c_lraw_ge, c_lraw_gt, c_lraw_le, acat, scat, tswP, pops, st1, st2, klo, pad, elo, List.getElem?_cons_zero, List.getElem?_cons_succ, List.getElem?_nil, List.set_cons_zero, List.set_cons_succ, List.set_nil, Option.toList_some, Option.toList_none, List.cons_append, List.nil_append, List.length_cons, List.length_nil, stc_ap, stm_ap, false_and, and_false, and_self, true_and, and_true, Nat.reduceEqDiff, reduceIte, al_12, al_13, al_14, al_15, al_16, al_17, al_18, al_19, al_20, al_21, al_22, al_23, al_24, al_25, al_26, al_27, al_28, al_29, al_30, al_31, al_32, al_33, al_34, al_35, al_36, al_37, al_38, al_39, al_40, al_41, al_42, al_43, al_44, al_45, al_46, al_47, al_48, al_49, al_50, al_51, al_52, al_53, al_54, al_55, at_12, at_13, at_14, at_15, at_16, at_17, at_18, at_19, at_20, at_21, at_22, at_23, at_24, at_25, at_26, at_27, at_28, at_29, at_30, at_31, at_32, at_33, at_34, at_35, at_36, at_37, at_38, at_39, at_40, at_41, at_42, at_43, at_44, at_45, at_46, at_47, at_48, at_49, at_50, at_51, at_52, at_53, at_54, at_55, cn_0, cn_1, cn_2, cn_3, cn_4, cn_5, cn_6, cn_7, cn_8, cn_9, cn_10, cn_11, cn_12, cn_13, cn_14, cn_15, cn_16, cn_17, cn_18, cn_19, cn_20, cn_21, cn_22, cn_23, cn_24, cn_25, cn_26, cn_27, cn_28, cn_29, cn_30, cn_31, cn_32, cn_33, cn_34, cn_35, cn_36, cn_37, cn_38, cn_39, cn_40, cn_41, cn_42, cn_43, cn_44, cn_45, cn_46, cn_47, cn_48, cn_49, cn_50, cn_51, cn_52, cn_53, cn_54, cn_55, Nat.reduceAdd, Nat.reduceLT, Nat.reduceLeDiff, Nat.lt_add_one, Nat.zero_lt_succ, Nat.reduceSub, ite_true, ite_false, reduceCtorEq, forall_const, Nat.reduceSucc, Nat.zero_add, Nat.add_zero, Nat.le_refl, Nat.zero_le, Nat.reducePow, Int.reduceNeg, Nat.reduceMul, eq_self, Int.cast_ofNat_Int, Int.toNat_natCast, iR, lR, Int.reduceEq, Int.reduceLT, Int.reduceLE, Int.reduceNe, not_false_eq_true, not_true_eq_false, false_implies, true_implies, Int.reduceAdd, Int.reduceSub, Int.reduceMul, Int.reduceToNat, implies_true, or_true, true_or, or_false, false_or, stm_sm]
    have e9 : stm M1 11 0 9 (ths k.toNat + v) = stm M1 11 0 9 (ths (k + 1).toNat) := by rw [show (k + 1).toNat = k.toNat + 1 by omega, hts k.toNat (by omega), hv]
    have := ih hlt _ ⟨by omega, e9⟩
    rw [show (k + 1).toNat = k.toNat + 1 by omega, ← hs1] at this
    exact this
  refine B_X11_fill_318 C hR (k_X11_any l) (by decide) _ _ _ ?_
  simp only [c_iadd, c_isub, c_imul, c_ladd, c_lsub, c_lmul, c_ineg, c_lneg, c_ic, c_lc, c_iload, c_lload, c_aload, c_istore, c_astore, c_lstore, c_iinc, c_dup, c_dup2, c_goto, c_i2l, c_l2i, c_idiv, c_ldiv, c_lrem, c_lshl, c_gi, c_gl, c_gr, c_pi, c_pz, c_pl, c_iald, c_lald, c_bald, c_aald, c_iast, c_last, c_bast, c_callV, c_callS, c_mmax, c_mmin, c_mabs, c_mmaxl, c_mabsl, c_iret, c_zret, c_lret, c_vret, c_tsw, c_lsw, c_icmp_eq, c_icmp_ne, c_icmp_lt, c_icmp_ge, c_icmp_gt, c_icmp_le, c_if_eq, c_if_ne, c_if_lt, c_if_ge, c_if_gt, c_if_le, c_lcmp_eq, c_lcmp_ne, c_lcmp_lt, c_lcmp_ge, c_lcmp_gt, c_lcmp_le, c_lraw_eq, c_lraw_lt, c_lraw_ge, c_lraw_gt, c_lraw_le, acat, scat, tswP, pops, st1, st2, klo, pad, elo, List.getElem?_cons_zero, List.getElem?_cons_succ, List.getElem?_nil, List.set_cons_zero, List.set_cons_succ, List.set_nil, Option.toList_some, Option.toList_none, List.cons_append, List.nil_append, List.length_cons, List.length_nil, stc_ap, stm_ap, false_and, and_false, and_self, true_and, and_true, Nat.reduceEqDiff, reduceIte, al_12, al_13, al_14, al_15, al_16, al_17, al_18, al_19, al_20, al_21, al_22, al_23, al_24, al_25, al_26, al_27, al_28, al_29, al_30, al_31, al_32, al_33, al_34, al_35, al_36, al_37, al_38, al_39, al_40, al_41, al_42, al_43, al_44, al_45, al_46, al_47, al_48, al_49, al_50, al_51, al_52, al_53, al_54, al_55, at_12, at_13, at_14, at_15, at_16, at_17, at_18, at_19, at_20, at_21, at_22, at_23, at_24, at_25, at_26, at_27, at_28, at_29, at_30, at_31, at_32, at_33, at_34, at_35, at_36, at_37, at_38, at_39, at_40, at_41, at_42, at_43, at_44, at_45, at_46, at_47, at_48, at_49, at_50, at_51, at_52, at_53, at_54, at_55, cn_0, cn_1, cn_2, cn_3, cn_4, cn_5, cn_6, cn_7, cn_8, cn_9, cn_10, cn_11, cn_12, cn_13, cn_14, cn_15, cn_16, cn_17, cn_18, cn_19, cn_20, cn_21, cn_22, cn_23, cn_24, cn_25, cn_26, cn_27, cn_28, cn_29, cn_30, cn_31, cn_32, cn_33, cn_34, cn_35, cn_36, cn_37, cn_38, cn_39, cn_40, cn_41, cn_42, cn_43, cn_44, cn_45, cn_46, cn_47, cn_48, cn_49, cn_50, cn_51, cn_52, cn_53, cn_54, cn_55, Nat.reduceAdd, Nat.reduceLT, Nat.reduceLeDiff, Nat.lt_add_one, Nat.zero_lt_succ, Nat.reduceSub, ite_true, ite_false, reduceCtorEq, forall_const, Nat.reduceSucc, Nat.zero_add, Nat.add_zero, Nat.le_refl, Nat.zero_le, Nat.reducePow, Int.reduceNeg, Nat.reduceMul, eq_self, Int.cast_ofNat_Int, Int.toNat_natCast, iR, lR, Int.reduceEq, Int.reduceLT, Int.reduceLE, Int.reduceNe, not_false_eq_true, not_true_eq_false, false_implies, true_implies, Int.reduceAdd, Int.reduceSub, Int.reduceMul, Int.reduceToNat, implies_true, or_true, true_or, or_false, false_or, T_X11_any, hr', hh', h15]
  refine ⟨by omega, by omega, fun z => ?_, fun z => ?_⟩
  · rw [show k.toNat = m by omega]
    have hs := hsr m (Nat.le_refl m)
    refine ⟨by omega, by omega, by omega, by omega, fun j hj => by have := hrb j (by omega); omega, h7, fun M' hk1 hml => ?_⟩
    rw [show stm M1 11 0 9 (ths m) 39 0 = r by rw [stm_ne _ _ _ _ _ (by decide)]; exact hr] at hml
    refine hP _ (fun g' a1 a2 a3 a4 => ?_) (fun k' a1 a2 a3 a4 => ?_) (ML_cg (M := M') (by rw [stm_ap, if_neg (by decide), stm_ap, if_neg (by decide)]) (by rw [stm_ne _ _ _ _ _ (by decide), stm_ne _ _ _ _ _ (by decide)]) (by rw [stm_ne _ _ _ _ _ (by decide), stm_ne _ _ _ _ _ (by decide)]) hml) ?_ ?_ rfl
    · rw [stm_ne _ _ _ _ _ a1, stm_ne _ _ _ _ _ a1, hk1.1 g' a1 a2 a3 a4, stm_ne _ _ _ _ _ a1]
    · rw [stm_ap, if_neg (by omega), stm_ap, if_neg (by omega), hk1.2 k' a1, stm_ap, if_neg (by omega)]
    · rw [stm_ap, if_neg (by decide), stm_ap, if_neg (by decide), hk1.2 9 (by decide)]
      rfl
    · rw [stm_ap, if_neg (by decide)]
      rfl
  · have hrk := hrb k.toNat (by omega)
    have hhk := hhb k.toNat (by omega)
    have es : sm r k.toNat + r k.toNat = sm r (k.toNat + 1) := rfl
    exact ⟨by omega, by omega, by omega, by omega, fun y => h367 0 _ (by omega) (by rw [if_pos y]) es, fun y => ⟨by omega, by omega, h367 _ _ (by omega) (by rw [if_neg y]) es⟩⟩
theorem fill_4s (l : Launch) {x : Xc} (C : Cx x l cX11_fill RX11 10 4) {P : Option AV → Mm → Prop} (hR : Rx x none P) {M1 : Mm} {r h : Nat → Int} {t a b na nb nn : Int} {m : Nat} (hm : m ≤ 20) (h15 : M1 11 0 15 = m) (hr : M1 38 0 = r) (hh40 : M1 40 0 = h) (hrb : ∀ j : Nat, j < m → 0 ≤ r j ∧ r j ≤ 1000) (hhb : ∀ j : Nat, j < m → h j = 0 ∨ h j = 1) (h7 : M1 11 0 7 = 0) {ths : Nat → Int} (ht0 : ths 0 = 0) (hts : ∀ k : Nat, k < m → ths (k + 1) = ths k + if h k = 0 then -(r k) else r k)
    (hP : ∀ M' : Mm, (∀ g' : Nat, ¬ g' = 11 → ¬ g' = 34 → ¬ g' = 35 → ¬ g' = 36 → M' g' = M1 g') → (∀ k : Nat, ¬ k = 7 → ¬ k = 9 → M' 11 0 k = M1 11 0 k) → ML M' (tlst (swc r m) 2 (-(sm r m)) (sm r m + 1).toNat) → M' 11 0 9 = ths m → P none M') :
    J x 413 [some (zr 11 0), some (zi t), some (zi a), some (zi b), some (zi na), some (zi nb), some (zi nn), some (zl 0), none, some (zi 0)] [] (stm M1 11 0 9 0) := by
  have hr' : ∀ i : Nat, M1 38 0 i = r i := fun i => by rw [hr]
  have hh' : ∀ i : Nat, M1 40 0 i = h i := fun i => by rw [hh40]
  have hsr : ∀ k : Nat, k ≤ m → 0 ≤ sm r k ∧ sm r k ≤ 20000 := fun k hk => by
    have := sm_in (f := r) (n := k) (c := 1000) (by decide) (fun j hj => hrb j (by omega))
    omega
  suffices hh : ∀ (k : Int) (M' : Mm), ((0 ≤ k ∧ k ≤ m) ∧ M' = stm M1 11 0 9 (ths k.toNat)) → J x 413 [some (zr 11 0), some (zi t), some (zi a), some (zi b), some (zi na), some (zi nb), some (zi nn), some (zl (sm r k.toNat)), none, some (zi k)] [] M' by
    exact hh 0 _ ⟨by omega, congrArg (stm M1 11 0 9) ht0.symm⟩
  refine loopU m _ _ ?_
  rintro k M' ⟨hk, rfl⟩ ih
  have h470 : ∀ v s1 : Int, k < m → v = (if h k.toNat = 0 then -(r k.toNat) else r k.toNat) → s1 = sm r (k.toNat + 1) → J x 470 [some (zr 11 0), some (zi t), some (zi a), some (zi b), some (zi na), some (zi nb), some (zi nn), some (zl s1), none, some (zi k)] [zl v, zl (ths k.toNat), zr 11 0] (stm M1 11 0 9 (ths k.toNat)) := by
    intro v s1 hlt hv hs1
    refine B_X11_fill_470 C _ _ _ ?_
    simp only [c_iadd, c_isub, c_imul, c_ladd, c_lsub, c_lmul, c_ineg, c_lneg, c_ic, c_lc, c_iload, c_lload, c_aload, c_istore, c_astore, c_lstore, c_iinc, c_dup, c_dup2, c_goto, c_i2l, c_l2i, c_idiv, c_ldiv, c_lrem, c_lshl, c_gi, c_gl, c_gr, c_pi, c_pz, c_pl, c_iald, c_lald, c_bald, c_aald, c_iast, c_last, c_bast, c_callV, c_callS, c_mmax, c_mmin, c_mabs, c_mmaxl, c_mabsl, c_iret, c_zret, c_lret, c_vret, c_tsw, c_lsw, c_icmp_eq, c_icmp_ne, c_icmp_lt, c_icmp_ge, c_icmp_gt, c_icmp_le, c_if_eq, c_if_ne, c_if_lt, c_if_ge, c_if_gt, c_if_le, c_lcmp_eq, c_lcmp_ne, c_lcmp_lt, c_lcmp_ge, c_lcmp_gt, c_lcmp_le, c_lraw_eq, c_lraw_lt, c_lraw_ge, c_lraw_gt, c_lraw_le, acat, scat, tswP, pops, st1, st2, klo, pad, elo, List.getElem?_cons_zero, List.getElem?_cons_succ, List.getElem?_nil, List.set_cons_zero, List.set_cons_succ, List.set_nil, Option.toList_some, Option.toList_none, List.cons_append, List.nil_append, List.length_cons, List.length_nil, stc_ap, stm_ap, false_and, and_false, and_self, true_and, and_true, Nat.reduceEqDiff, reduceIte, al_12, al_13, al_14, al_15, al_16, al_17, al_18, al_19, al_20, al_21, al_22, al_23, al_24, al_25, al_26, al_27, al_28, al_29, al_30, al_31, al_32, al_33, al_34, al_35, al_36, al_37, al_38, al_39, al_40, al_41, al_42, al_43, al_44, al_45, al_46, al_47, al_48, al_49, al_50, al_51, al_52, al_53, al_54, al_55, at_12, at_13, at_14, at_15, at_16, at_17, at_18, at_19, at_20, at_21, at_22, at_23, at_24, at_25, at_26, at_27, at_28, at_29, at_30, at_31, at_32, at_33, at_34, at_35, at_36, at_37, at_38, at_39, at_40, at_41, at_42, at_43, at_44, at_45, at_46, at_47, at_48, at_49, at_50, at_51, at_52, at_53, at_54, at_55, cn_0, cn_1, cn_2, cn_3, cn_4, cn_5, cn_6, cn_7, cn_8, cn_9, cn_10, cn_11, cn_12, cn_13, cn_14, cn_15, cn_16, cn_17, cn_18, cn_19, cn_20, cn_21, cn_22, cn_23, cn_24, cn_25, cn_26, cn_27, cn_28, cn_29, cn_30, cn_31, cn_32, cn_33, cn_34, cn_35, cn_36, cn_37, cn_38, cn_39, cn_40, cn_41, cn_42, cn_43, cn_44, cn_45, cn_46, cn_47, cn_48, cn_49, cn_50, cn_51, cn_52, cn_53, cn_54, cn_55, Nat.reduceAdd, Nat.reduceLT, Nat.reduceLeDiff, Nat.lt_add_one, Nat.zero_lt_succ, Nat.reduceSub, ite_true, ite_false, reduceCtorEq, forall_const, Nat.reduceSucc, Nat.zero_add, Nat.add_zero, Nat.le_refl, Nat.zero_le, Nat.reducePow, Int.reduceNeg, Nat.reduceMul, eq_self, Int.cast_ofNat_Int, Int.toNat_natCast, iR, lR, Int.reduceEq, Int.reduceLT, Int.reduceLE, Int.reduceNe, not_false_eq_true, not_true_eq_false, false_implies, true_implies, Int.reduceAdd, Int.reduceSub, Int.reduceMul, Int.reduceToNat, implies_true, or_true, true_or, or_false, false_or, stm_sm]
    have e9 : stm M1 11 0 9 (ths k.toNat + v) = stm M1 11 0 9 (ths (k + 1).toNat) := by rw [show (k + 1).toNat = k.toNat + 1 by omega, hts k.toNat (by omega), hv]
    have := ih hlt _ ⟨by omega, e9⟩
    rw [show (k + 1).toNat = k.toNat + 1 by omega, ← hs1] at this
    exact this
  refine B_X11_fill_413 C hR (k_X11_any l) (by decide) _ _ _ ?_
  simp only [c_iadd, c_isub, c_imul, c_ladd, c_lsub, c_lmul, c_ineg, c_lneg, c_ic, c_lc, c_iload, c_lload, c_aload, c_istore, c_astore, c_lstore, c_iinc, c_dup, c_dup2, c_goto, c_i2l, c_l2i, c_idiv, c_ldiv, c_lrem, c_lshl, c_gi, c_gl, c_gr, c_pi, c_pz, c_pl, c_iald, c_lald, c_bald, c_aald, c_iast, c_last, c_bast, c_callV, c_callS, c_mmax, c_mmin, c_mabs, c_mmaxl, c_mabsl, c_iret, c_zret, c_lret, c_vret, c_tsw, c_lsw, c_icmp_eq, c_icmp_ne, c_icmp_lt, c_icmp_ge, c_icmp_gt, c_icmp_le, c_if_eq, c_if_ne, c_if_lt, c_if_ge, c_if_gt, c_if_le, c_lcmp_eq, c_lcmp_ne, c_lcmp_lt, c_lcmp_ge, c_lcmp_gt, c_lcmp_le, c_lraw_eq, c_lraw_lt, c_lraw_ge, c_lraw_gt, c_lraw_le, acat, scat, tswP, pops, st1, st2, klo, pad, elo, List.getElem?_cons_zero, List.getElem?_cons_succ, List.getElem?_nil, List.set_cons_zero, List.set_cons_succ, List.set_nil, Option.toList_some, Option.toList_none, List.cons_append, List.nil_append, List.length_cons, List.length_nil, stc_ap, stm_ap, false_and, and_false, and_self, true_and, and_true, Nat.reduceEqDiff, reduceIte, al_12, al_13, al_14, al_15, al_16, al_17, al_18, al_19, al_20, al_21, al_22, al_23, al_24, al_25, al_26, al_27, al_28, al_29, al_30, al_31, al_32, al_33, al_34, al_35, al_36, al_37, al_38, al_39, al_40, al_41, al_42, al_43, al_44, al_45, al_46, al_47, al_48, al_49, al_50, al_51, al_52, al_53, al_54, al_55, at_12, at_13, at_14, at_15, at_16, at_17, at_18, at_19, at_20, at_21, at_22, at_23, at_24, at_25, at_26, at_27, at_28, at_29, at_30, at_31, at_32, at_33, at_34, at_35, at_36, at_37, at_38, at_39, at_40, at_41, at_42, at_43, at_44, at_45, at_46, at_47, at_48, at_49, at_50, at_51, at_52, at_53, at_54, at_55, cn_0, cn_1, cn_2, cn_3, cn_4, cn_5, cn_6, cn_7, cn_8, cn_9, cn_10, cn_11, cn_12, cn_13, cn_14, cn_15, cn_16, cn_17, cn_18, cn_19, cn_20, cn_21, cn_22, cn_23, cn_24, cn_25, cn_26, cn_27, cn_28, cn_29, cn_30, cn_31, cn_32, cn_33, cn_34, cn_35, cn_36, cn_37, cn_38, cn_39, cn_40, cn_41, cn_42, cn_43, cn_44, cn_45, cn_46, cn_47, cn_48, cn_49, cn_50, cn_51, cn_52, cn_53, cn_54, cn_55, Nat.reduceAdd, Nat.reduceLT, Nat.reduceLeDiff, Nat.lt_add_one, Nat.zero_lt_succ, Nat.reduceSub, ite_true, ite_false, reduceCtorEq, forall_const, Nat.reduceSucc, Nat.zero_add, Nat.add_zero, Nat.le_refl, Nat.zero_le, Nat.reducePow, Int.reduceNeg, Nat.reduceMul, eq_self, Int.cast_ofNat_Int, Int.toNat_natCast, iR, lR, Int.reduceEq, Int.reduceLT, Int.reduceLE, Int.reduceNe, not_false_eq_true, not_true_eq_false, false_implies, true_implies, Int.reduceAdd, Int.reduceSub, Int.reduceMul, Int.reduceToNat, implies_true, or_true, true_or, or_false, false_or, T_X11_any, hr', hh', h15]
  refine ⟨by omega, by omega, fun z => ?_, fun z => ?_⟩
  · rw [show k.toNat = m by omega]
    have hs := hsr m (Nat.le_refl m)
    refine ⟨by omega, by omega, by omega, by omega, fun j hj => by have := hrb j (by omega); omega, h7, fun M' hk1 hml => ?_⟩
    rw [show stm M1 11 0 9 (ths m) 38 0 = r by rw [stm_ne _ _ _ _ _ (by decide)]; exact hr] at hml
    refine hP _ (fun g' a1 a2 a3 a4 => ?_) (fun k' a1 a2 => ?_) hml ?_
    · rw [hk1.1 g' a1 a2 a3 a4, stm_ne _ _ _ _ _ a1]
    · rw [hk1.2 k' a1, stm_ap, if_neg (by omega)]
    · rw [hk1.2 9 (by decide)]
      rfl
  · have hrk := hrb k.toNat (by omega)
    have hhk := hhb k.toNat (by omega)
    have es : sm r k.toNat + r k.toNat = sm r (k.toNat + 1) := rfl
    exact ⟨by omega, by omega, by omega, by omega, fun y => ⟨by omega, by omega, h470 _ _ (by omega) (by rw [if_pos y]) es⟩, fun y => ⟨by omega, by omega, h470 _ _ (by omega) (by rw [if_neg y]) es⟩⟩
theorem DK_at {ds : List Int} {f h : Nat → Int} (hd : DK ds f h) {q : Nat} (hq : q < ds.length) : f q = zab (dg ds q) ∧ h q = if 0 < dg ds q then 1 else 0 := by
  have e : ds[q]? = some (dg ds q) := by
    unfold dg
    rw [List.getD_eq_getElem?_getD, List.getElem?_eq_getElem hq]
    rfl
  exact hd q _ e
/-- every row can be sorted by changes of neighbours -/
theorem srt_ex (f : Nat → Int) (n : Nat) : ∃ f' : Nat → Int, pmf n f f' ∧ srt f' n := by
  have ins : ∀ (d : Nat) (g : Nat → Int) (m : Nat), m < n → d ≤ m → (∀ i j, i < j → j < m + 1 → i ≠ d → j ≠ d → g i ≤ g j) → (∀ j, d < j → j < m + 1 → g d ≤ g j) → ∃ g' : Nat → Int, pmf n g g' ∧ srt g' (m + 1) := by
    intro d
    induction d with
    | zero =>
      intro g m hm hd h1 h2
      refine ⟨g, pmf.rf n g, fun i j hij hj => ?_⟩
      by_cases e : i = 0
      · rw [e]; exact h2 j (by omega) hj
      · exact h1 i j hij hj e (by omega)
    | succ d ih =>
      intro g m hm hd h1 h2
      by_cases hc : g d ≤ g (d + 1)
      · refine ⟨g, pmf.rf n g, fun i j hij hj => ?_⟩
        by_cases e : i = d + 1
        · rw [e]; exact h2 j (by omega) hj
        · by_cases e2 : j = d + 1
          · rw [e2]
            by_cases e3 : i = d
            · rw [e3]; exact hc
            · exact Int.le_trans (h1 i d (by omega) (by omega) e (by omega)) hc
          · exact h1 i j hij hj e e2
      · have q1 : ∀ i j, i < j → j < m + 1 → i ≠ d → j ≠ d → (if i = d then g (d + 1) else if i = d + 1 then g d else g i) ≤ (if j = d then g (d + 1) else if j = d + 1 then g d else g j) := by
          intro i j hij hj e1 e2
          rw [if_neg e1, if_neg e2]
          by_cases e3 : i = d + 1
          · rw [if_pos e3, if_neg (by omega)]
            exact h1 d j (by omega) hj (by omega) (by omega)
          · rw [if_neg e3]
            by_cases e4 : j = d + 1
            · rw [if_pos e4]; exact h1 i d (by omega) (by omega) e3 (by omega)
            · rw [if_neg e4]; exact h1 i j hij hj e3 e4
        have q2 : ∀ j, d < j → j < m + 1 → (if d = d then g (d + 1) else if d = d + 1 then g d else g d) ≤ (if j = d then g (d + 1) else if j = d + 1 then g d else g j) := by
          intro j hj1 hj2
          rw [if_pos rfl, if_neg (by omega)]
          by_cases e4 : j = d + 1
          · rw [if_pos e4]; omega
          · rw [if_neg e4]; exact h2 j (by omega) hj2
        obtain ⟨g', p1, p2⟩ := ih (fun j => if j = d then g (d + 1) else if j = d + 1 then g d else g j) m hm (by omega) q1 q2
        refine ⟨g', fun Φ hs hf => p1 Φ hs (hs d g _ ⟨by omega, ?_, ?_, fun j a1 a2 => ?_⟩ hf), p2⟩
        · show (if d = d then _ else _) = _; rw [if_pos rfl]
        · show (if d + 1 = d then _ else if d + 1 = d + 1 then g d else _) = _; rw [if_neg (by omega), if_pos rfl]
        · show (if j = d then _ else if j = d + 1 then _ else g j) = _; rw [if_neg a1, if_neg a2]
  have key : ∀ m : Nat, m ≤ n → ∃ f' : Nat → Int, pmf n f f' ∧ srt f' m := by
    intro m
    induction m with
    | zero => intro _; exact ⟨f, pmf.rf n f, fun i j h1 h2 => by omega⟩
    | succ m ih =>
      intro hm
      obtain ⟨g, p1, p2⟩ := ih (by omega)
      obtain ⟨g', q1, q2⟩ := ins m g m (by omega) (Nat.le_refl m) (fun i j hij hj e1 e2 => p2 i j hij (by omega)) (fun j h1 h2 => by omega)
      exact ⟨g', fun Φ hs hf => q1 Φ hs (p1 Φ hs hf), q2⟩
  exact key n (Nat.le_refl n)
/-- sorted rows with the same counts are the same -/
theorem srt_uq {f g : Nat → Int} {n : Nat} (hf : srt f n) (hg : srt g n) (h : ∀ v : Int, cle f v n = cle g v n) : ∀ j, j < n → f j = g j := by
  intro j hj
  have e : ∀ v : Int, f j ≤ v ↔ g j ≤ v := fun v => by rw [srt_cle hf v hj, srt_cle hg v hj, h v]
  have h1 := (e (f j)).mp (Int.le_refl _)
  have h2 := (e (g j)).mpr (Int.le_refl _)
  omega
theorem gpc_cg {f g : Nat → Int} {n : Nat} (h : ∀ j, j < n → f j = g j) (K : Nat) (m : Int) : ∀ i j : Nat, i ≤ n → gpc f n K m i j = gpc g n K m i j := by
  intro i
  induction i with
  | zero => intro j _; cases j <;> rfl
  | succ i ih =>
    intro j hi
    rw [gpc_s, gpc_s]
    unfold gpa
    rw [ih j (by omega), ih (j - 1) (by omega)]
    by_cases e : i + 1 = n
    · by_cases c : m < zab (n * j - K * (i + 1 : Nat))
      · rw [if_pos ⟨Or.inl e, c⟩, if_pos ⟨Or.inl e, c⟩]
      · rw [if_neg (show ¬ ((i + 1 = n ∨ ¬ f (i + 1) = f i) ∧ m < zab (n * j - K * (i + 1 : Nat))) from fun z => c z.2), if_neg (show ¬ ((i + 1 = n ∨ ¬ g (i + 1) = g i) ∧ m < zab (n * j - K * (i + 1 : Nat))) from fun z => c z.2)]
    · rw [h (i + 1) (by omega), h i (by omega)]
theorem gpd_cg {f g : Nat → Int} {n K : Nat} (h : ∀ j, j < n → f j = g j) (v : Int) : gpd f n K v = gpd g n K v := by
  unfold gpd
  rw [gpc_cg h K v n K (Nat.le_refl n), gpc_cg h K (v - 1) n K (Nat.le_refl n)]
set_option maxHeartbeats 2000000 in
theorem k_X11_fill (l : Launch) : MetT l yX11_fill cX11_fill 10 none 4 T_X11_fill := by
  refine MetT.of (by decide +kernel) (fun as M P h => by unfold T_X11_fill at h; split at h <;> first | (simp [elo]; done) | exact h.elim) (fun x as M P h C hR => ?_)
  unfold T_X11_fill at h
  split at h
  rotate_left
  · exact h.elim
  rename_i g s t a b
  obtain ⟨rfl, rfl, hcan, hI, hE, hCE, hP⟩ := h
  obtain ⟨ht, htwo, heq, htw⟩ := id hcan
  obtain ⟨wa, wb, wc, wd, we⟩ := id htwo
  have ia := hI a.toNat (by omega)
  have ib := hI b.toNat (by omega)
  refine B_X11_fill_0 C hR (k_X11_order l) (by decide) (k_X11_takeDifferences l) (by decide) (k_X11_ranks l) (by decide) (k_X11_takeAll l) (by decide) (k_X11_most l) (by decide) _ _ _ ?_
  simp only [c_iadd, c_isub, c_imul, c_ladd, c_lsub, c_lmul, c_ineg, c_lneg, c_ic, c_lc, c_iload, c_lload, c_aload, c_istore, c_astore, c_lstore, c_iinc, c_dup, c_dup2, c_goto, c_i2l, c_l2i, c_idiv, c_ldiv, c_lrem, c_lshl, c_gi, c_gl, c_gr, c_pi, c_pz, c_pl, c_iald, c_lald, c_bald, c_aald, c_iast, c_last, c_bast, c_callV, c_callS, c_mmax, c_mmin, c_mabs, c_mmaxl, c_mabsl, c_iret, c_zret, c_lret, c_vret, c_tsw, c_lsw, c_icmp_eq, c_icmp_ne, c_icmp_lt, c_icmp_ge, c_icmp_gt, c_icmp_le, c_if_eq, c_if_ne, c_if_lt, c_if_ge, c_if_gt, c_if_le, c_lcmp_eq, c_lcmp_ne, c_lcmp_lt, c_lcmp_ge, c_lcmp_gt, c_lcmp_le, c_lraw_eq, c_lraw_lt, c_lraw_ge, c_lraw_gt, c_lraw_le, acat, scat, tswP, pops, st1, st2, klo, pad, elo, List.getElem?_cons_zero, List.getElem?_cons_succ, List.getElem?_nil, List.set_cons_zero, List.set_cons_succ, List.set_nil, Option.toList_some, Option.toList_none, List.cons_append, List.nil_append, List.length_cons, List.length_nil, stc_ap, stm_ap, false_and, and_false, and_self, true_and, and_true, Nat.reduceEqDiff, reduceIte, al_12, al_13, al_14, al_15, al_16, al_17, al_18, al_19, al_20, al_21, al_22, al_23, al_24, al_25, al_26, al_27, al_28, al_29, al_30, al_31, al_32, al_33, al_34, al_35, al_36, al_37, al_38, al_39, al_40, al_41, al_42, al_43, al_44, al_45, al_46, al_47, al_48, al_49, al_50, al_51, al_52, al_53, al_54, al_55, at_12, at_13, at_14, at_15, at_16, at_17, at_18, at_19, at_20, at_21, at_22, at_23, at_24, at_25, at_26, at_27, at_28, at_29, at_30, at_31, at_32, at_33, at_34, at_35, at_36, at_37, at_38, at_39, at_40, at_41, at_42, at_43, at_44, at_45, at_46, at_47, at_48, at_49, at_50, at_51, at_52, at_53, at_54, at_55, cn_0, cn_1, cn_2, cn_3, cn_4, cn_5, cn_6, cn_7, cn_8, cn_9, cn_10, cn_11, cn_12, cn_13, cn_14, cn_15, cn_16, cn_17, cn_18, cn_19, cn_20, cn_21, cn_22, cn_23, cn_24, cn_25, cn_26, cn_27, cn_28, cn_29, cn_30, cn_31, cn_32, cn_33, cn_34, cn_35, cn_36, cn_37, cn_38, cn_39, cn_40, cn_41, cn_42, cn_43, cn_44, cn_45, cn_46, cn_47, cn_48, cn_49, cn_50, cn_51, cn_52, cn_53, cn_54, cn_55, Nat.reduceAdd, Nat.reduceLT, Nat.reduceLeDiff, Nat.lt_add_one, Nat.zero_lt_succ, Nat.reduceSub, ite_true, ite_false, reduceCtorEq, forall_const, Nat.reduceSucc, Nat.zero_add, Nat.add_zero, Nat.le_refl, Nat.zero_le, Nat.reducePow, Int.reduceNeg, Nat.reduceMul, eq_self, Int.cast_ofNat_Int, Int.toNat_natCast, iR, lR, Int.reduceEq, Int.reduceLT, Int.reduceLE, Int.reduceNe, not_false_eq_true, not_true_eq_false, false_implies, true_implies, Int.reduceAdd, Int.reduceSub, Int.reduceMul, Int.reduceToNat, implies_true, or_true, true_or, or_false, false_or, T_X11_order, T_X11_takeDifferences, T_X11_ranks, T_X11_takeAll, T_X11_most]
  rw [hE.sz wa, hE.sz wb]
  obtain ⟨M0, hM0⟩ : ∃ M0 : Mm, M0 = stm (stm (stm (stm M 11 0 7 0) 11 0 9 0) 11 0 10 1) 11 0 11 0 := ⟨_, rfl⟩
  rw [← hM0]
  have o : ∀ g' : Nat, ¬ g' = 11 → M0 g' = M g' := fun g' h => by rw [hM0, stm_ne _ _ _ _ _ h, stm_ne _ _ _ _ _ h, stm_ne _ _ _ _ _ h, stm_ne _ _ _ _ _ h]
  have o11 : ∀ k : Nat, (k < 7 ∨ 11 < k ∨ k = 8) → M0 11 0 k = M 11 0 k := fun k h => by rw [hM0, stm_ap, if_neg (by omega), stm_ap, if_neg (by omega), stm_ap, if_neg (by omega), stm_ap, if_neg (by omega)]
  have o7 : M0 11 0 7 = 0 := by rw [hM0]; rfl
  have o9 : M0 11 0 9 = 0 := by rw [hM0]; rfl
  have o10 : M0 11 0 10 = 1 := by rw [hM0]; rfl
  have o11' : M0 11 0 11 = 0 := by rw [hM0]; rfl
  have c8 := o 8 (by decide)
  have c27 := o 27 (by decide)
  have hI0 : SI M0 := SI_cg c8 c27 hI
  have hE0 : SE M0 := SE_cg c8 c27 (o 31 (by decide)) (o 32 (by decide)) hE
  have hdif : dif M0 a.toNat b.toNat = dif M a.toNat b.toNat := dif_cg c27 _ _
  have hosm : osm M0 a.toNat b.toNat = osm M a.toNat b.toNat := by
    funext k
    have e1 : ∀ i j : Nat, osg M0 a.toNat b.toNat i j = osg M a.toNat b.toNat i j := fun i j => by unfold osg; rw [c27]
    have e2 : ∀ i j : Nat, osi M0 a.toNat b.toNat i j = osi M a.toNat b.toNat i j := fun i j => by
      induction j with
      | zero => rfl
      | succ j ih => show osi M0 _ _ i j + osg M0 _ _ i j = osi M _ _ i j + osg M _ _ i j; rw [ih, e1]
    induction k with
    | zero => rfl
    | succ k ih => show osm M0 _ _ k + osi M0 _ _ k k = osm M _ _ k + osi M _ _ k k; rw [ih, e2]
  refine ⟨wa, wb, by omega, fun z => ⟨by omega, fun z2 => ?_, fun z2 => ?_⟩, fun z => ?_⟩
  · -- ORDER
    have e5 : t = 5 := by omega
    rw [hosm]
    refine ⟨wa, wb, heq (by omega), by omega, hI0, hE0, fun M' hk1 hml h8 h9 => ?_⟩
    refine hP M' _ _ _ 1 0 ⟨fun g' a1 a2 => ?_, fun k a1 a2 a3 a4 => ?_⟩ (Or.inr (Or.inr (Or.inr (Or.inr (Or.inr ⟨e5, rfl, rfl, rfl, rfl, rfl⟩))))) ⟨hml, h8, h9, ?_, ?_⟩
    · rw [hk1.1 g' a1 (by omega) (by omega) (by omega), o g' a1]
    · rw [hk1.2 k (by omega) (by omega) (by omega), o11 k (by omega)]
    · rw [hk1.2 10 (by decide) (by decide) (by decide)]; exact o10
    · rw [hk1.2 11 (by decide) (by decide) (by decide)]; exact o11'
  · -- SIGNS, TURNS
    rw [hdif]
    refine ⟨wa, wb, heq (by omega), hI0, hE0, fun f h hdk => ?_⟩
    obtain ⟨ds, hds⟩ : ∃ ds : List Int, ds = nzl (dif M a.toNat b.toNat) (M 8 a.toNat 1).toNat := ⟨_, rfl⟩
    rw [← hds] at hdk ⊢
    have hlen : ds.length ≤ 20 := by
      have := nzl_len (dif M a.toNat b.toNat) (M 8 a.toNat 1).toNat
      rw [← hds] at this
      omega
    have hdg : ∀ q : Nat, q < ds.length → -1000 ≤ dg ds q ∧ dg ds q ≤ 1000 ∧ ¬ dg ds q = 0 := fun q hq => by
      have := dg_in hI (a := a.toNat) (b := b.toNat) (by omega) (by omega) (heq (by omega)) (q := q) (by rw [← hds]; exact hq)
      rw [← hds] at this
      exact this
    have hzb : ∀ q : Nat, q < ds.length → 0 ≤ zab (dg ds q) ∧ zab (dg ds q) ≤ 1000 := fun q hq => by
      have := hdg q hq
      exact zab_in ⟨by omega, by omega⟩
    have hfq : ∀ q : Nat, q < ds.length → f q = zab (dg ds q) := fun q hq => (DK_at hdk hq).1
    have hhq : ∀ q : Nat, q < ds.length → h q = if 0 < dg ds q then 1 else 0 := fun q hq => (DK_at hdk hq).2
    have hh01 : ∀ q : Nat, q < ds.length → h q = 0 ∨ h q = 1 := fun q hq => by rw [hhq q hq]; split <;> simp
    obtain ⟨M1, hM1⟩ : ∃ M1 : Mm, M1 = dst M0 f h (ds.length) (M 8 a.toNat 1 - ds.length) := ⟨_, rfl⟩
    rw [← hM1]
    have r15 : M1 11 0 15 = ds.length := by rw [hM1]; rfl
    have r38 : M1 38 0 = f := by rw [hM1]; exact dst_r38 _ _ _ _ _
    have r40 : M1 40 0 = h := by rw [hM1]; exact dst_r40 _ _ _ _ _
    have ro : ∀ g' : Nat, ¬ g' = 11 → ¬ g' = 38 → ¬ g' = 40 → M1 g' = M g' := fun g' a1 a2 a3 => by rw [hM1, dst_o _ _ _ _ _ a1 a2 a3, o g' a1]
    have r11 : ∀ k : Nat, ¬ k = 15 → ¬ k = 18 → M1 11 0 k = M0 11 0 k := fun k a1 a2 => by rw [hM1]; exact dst_11 _ _ _ _ _ a1 a2
    rw [r15, show ((ds.length : Int)).toNat = ds.length by omega, Int.one_mul]
    refine ⟨by omega, by omega, fun z3 => ?_, fun z3 => ?_⟩
    · -- TURNS
      have e4 : t = 4 := by omega
      have e9 : stm M1 11 0 8 (2 ^ ds.length) = stm (stm M1 11 0 8 (2 ^ ds.length)) 11 0 9 0 := by
        have e : stm M1 11 0 8 (2 ^ ds.length) 11 0 9 = 0 := by rw [stm_ap, if_neg (by decide), r11 9 (by decide) (by decide)]; exact o9
        conv => lhs; rw [← stm_id (stm M1 11 0 8 (2 ^ ds.length)) 11 0 9, e]
      rw [e9]
      refine fill_4s l C hR (m := ds.length) (r := f) (h := h) (ths := fun k => sm (dg ds) k) hlen (by rw [stm_ap, if_neg (by decide)]; exact r15) (by rw [stm_ne _ _ _ _ _ (by decide)]; exact r38) (by rw [stm_ne _ _ _ _ _ (by decide)]; exact r40) (fun j hj => by rw [hfq j hj]; exact hzb j hj) hh01 (by rw [stm_ap, if_neg (by decide), r11 7 (by decide) (by decide)]; exact o7) rfl (fun k hk => ?_) (fun M' f1 f2 f3 f4 => ?_)
      · show sm (dg ds) k + dg ds k = sm (dg ds) k + _
        congr 1
        rw [hhq k hk, hfq k hk]
        have := hdg k hk
        unfold zab
        by_cases e : 0 < dg ds k
        · rw [if_pos e, if_neg (by decide), if_neg (by omega)]
        · rw [if_neg e, if_pos rfl, if_pos (by omega)]; omega
      · have esm : sm f ds.length = sm (fun j => zab (dg ds j)) ds.length := sm_cg hfq
        rw [esm, tlst_cg (D' := swc (fun j => zab (dg ds j)) ds.length) (fun v _ => swc_cg hfq _)] at f3
        refine hP M' _ _ _ 1 0 ⟨fun g' a1 a2 => ?_, fun k a1 a2 a3 a4 => ?_⟩ (Or.inr (Or.inr (Or.inr (Or.inr (Or.inl ⟨e4, ds, hds, rfl, rfl, rfl, rfl, rfl⟩))))) ⟨f3, ?_, f4, ?_, ?_⟩
        · rw [f1 g' a1 (by omega) (by omega) (by omega), stm_ne _ _ _ _ _ a1, ro g' a1 (by omega) (by omega)]
        · rw [f2 k (by omega) (by omega), stm_ap, if_neg (by omega), r11 k a2 a3, o11 k (by omega)]
        · rw [f2 8 (by decide) (by decide)]; rfl
        · rw [f2 10 (by decide) (by decide), stm_ap, if_neg (by decide), r11 10 (by decide) (by decide)]; exact o10
        · rw [f2 11 (by decide) (by decide), stm_ap, if_neg (by decide), r11 11 (by decide) (by decide)]; exact o11'
    · -- SIGNS
      rw [show stm M1 11 0 8 (2 ^ ds.length) 38 0 = f by rw [stm_ne _ _ _ _ _ (by decide)]; exact r38, r38]
      refine ⟨by omega, fun j hj => by rw [hfq j (by omega)]; have := hzb j (by omega); exact ⟨by omega, by omega⟩, fun r hr => ?_⟩
      have hrs : ∀ j : Nat, j < ds.length → r j = srk ds j := fun j hj => by
        rw [hr j (by omega), hfq j hj, drk_cg (g := fun q => zab (dg ds q)) hfq]
        rfl
      have e9 : stc (stm M1 11 0 8 (2 ^ ds.length)) 39 0 r = stm (stc (stm M1 11 0 8 (2 ^ ds.length)) 39 0 r) 11 0 9 0 := by
        have e : stc (stm M1 11 0 8 (2 ^ ds.length)) 39 0 r 11 0 9 = 0 := by rw [stc_ne _ _ _ _ (by decide), stm_ap, if_neg (by decide), r11 9 (by decide) (by decide)]; exact o9
        conv => lhs; rw [← stm_id (stc (stm M1 11 0 8 (2 ^ ds.length)) 39 0 r) 11 0 9, e]
      rw [e9]
      refine fill_3s l C hR (m := ds.length) (r := r) (h := h) (ths := fun k => ssm ds k) hlen (by rw [stc_ne _ _ _ _ (by decide), stm_ap, if_neg (by decide)]; exact r15) (stc_self _ _ _ _) (by rw [stc_ne _ _ _ _ (by decide), stm_ne _ _ _ _ _ (by decide)]; exact r40) (fun j hj => by rw [hrs j hj]; have := srk_in ds j; omega) hh01 (by rw [stc_ne _ _ _ _ (by decide), stm_ap, if_neg (by decide), r11 7 (by decide) (by decide)]; exact o7) rfl (fun k hk => ?_) (fun M' f1 f2 f3 f4 f5 f6 => ?_)
      · show ssm ds k + (if 0 < dg ds k then srk ds k else 0) = ssm ds k + _
        congr 1
        rw [hhq k hk, hrs k hk]
        by_cases e : 0 < dg ds k
        · rw [if_pos e, if_pos e, if_neg (by decide)]
        · rw [if_neg e, if_neg e, if_pos rfl]
      · have esm : sm r ds.length = sm (srk ds) ds.length := sm_cg hrs
        rw [esm] at f3 f6
        rw [tlst_cg (D' := swc (srk ds) ds.length) (fun v _ => swc_cg hrs _)] at f3
        refine hP M' _ _ _ 2 _ ⟨fun g' a1 a2 => ?_, fun k a1 a2 a3 a4 => ?_⟩ (Or.inr (Or.inr (Or.inr (Or.inl ⟨by omega, ds, hds, rfl, rfl, rfl, rfl, rfl⟩)))) ⟨f3, ?_, f4, f5, f6⟩
        · rw [f1 g' a1 (by omega) (by omega) (by omega), stc_ne _ _ _ _ (by omega), stm_ne _ _ _ _ _ a1, ro g' a1 (by omega) (by omega)]
        · rw [f2 k (by omega) (by omega) (by omega) (by omega), stc_ne _ _ _ _ (by decide), stm_ap, if_neg (by omega), r11 k a2 a3, o11 k (by omega)]
        · rw [f2 8 (by decide) (by decide) (by decide) (by decide), stc_ne _ _ _ _ (by decide)]; rfl
  · -- SUMS, RANKS, MOST
    obtain ⟨na, hna⟩ : ∃ na : Int, na = M 8 a.toNat 1 := ⟨_, rfl⟩
    obtain ⟨nb, hnb⟩ : ∃ nb : Int, nb = M 8 b.toNat 1 := ⟨_, rfl⟩
    rw [← hna, ← hnb]
    refine ⟨wa, wb, hI0, hE0, fun f hf => ?_⟩
    have hfp : ∀ j : Nat, j < (na + nb).toNat → f j = pol M a.toNat b.toNat j := fun j hj => by rw [hf j (by omega)]; exact pol_cg c8 c27 _ _ (by omega)
    have hpb : ∀ j : Nat, (j : Int) < na + nb → -500 ≤ pol M a.toNat b.toNat j ∧ pol M a.toNat b.toNat j ≤ 500 := fun j hj => pol_in hI (by omega) (by omega) j (by omega)
    have hfb : ∀ j : Nat, (j : Int) < na + nb → -500 ≤ f j ∧ f j ≤ 500 := fun j hj => by rw [hfp j (by omega)]; exact hpb j hj
    obtain ⟨M1, hM1⟩ : ∃ M1 : Mm, M1 = tst M0 f (na + nb) := ⟨_, rfl⟩
    rw [← hM1]
    have r15 : M1 11 0 15 = na + nb := by rw [hM1]; rfl
    have r38 : M1 38 0 = f := by rw [hM1]; exact tst_r38 _ _ _
    have ro : ∀ g' : Nat, ¬ g' = 11 → ¬ g' = 38 → M1 g' = M g' := fun g' a1 a2 => by rw [hM1, tst_o _ _ _ a1 a2, o g' a1]
    have r11 : ∀ k : Nat, ¬ k = 15 → M1 11 0 k = M0 11 0 k := fun k a1 => by rw [hM1]; unfold tst; rw [stm_ap, if_neg (by omega), stc_ne _ _ _ _ (by decide)]
    have e33 : M1 33 0 (41 * (na + nb) + na).toNat = chI (na + nb) na := by
      rw [ro 33 (by decide) (by decide)]
      exact hCE.at (by omega) (by omega) (by omega)
    rw [e33]
    obtain ⟨M2, hM2⟩ : ∃ M2 : Mm, M2 = stm M1 11 0 8 (chI (na + nb) na) := ⟨_, rfl⟩
    rw [← hM2]
    have s38 : M2 38 0 = f := by rw [hM2, stm_ne _ _ _ _ _ (by decide)]; exact r38
    have s15 : M2 11 0 15 = na + nb := by rw [hM2, stm_ap, if_neg (by decide)]; exact r15
    have so : ∀ g' : Nat, ¬ g' = 11 → ¬ g' = 38 → M2 g' = M g' := fun g' a1 a2 => by rw [hM2, stm_ne _ _ _ _ _ a1]; exact ro g' a1 a2
    have s11 : ∀ k : Nat, ¬ k = 15 → ¬ k = 8 → M2 11 0 k = M0 11 0 k := fun k a1 a2 => by rw [hM2, stm_ap, if_neg (by omega)]; exact r11 k a1
    have s8 : M2 11 0 8 = chI (na + nb) na := by rw [hM2]; rfl
    refine ⟨by omega, by omega, fun z2 => ⟨by omega, fun z3 => ?_, fun z3 => ?_⟩, fun z2 => ?_⟩
    · -- MOST
      have e2 : t = 2 := by omega
      obtain ⟨f', hpm, hso⟩ : ∃ f' : Nat → Int, pmf (na + nb).toNat f f' ∧ srt f' (na + nb).toNat := srt_ex f (na + nb).toNat
      have hSO : SO f' f (na + nb).toNat := ⟨hso, fun v => cle_pm hpm v⟩
      refine ⟨CE_cg (so 33 (by decide) (by decide)) hCE, by omega, by omega, r15, by rw [r11 7 (by decide)]; exact o7, by rw [r11 9 (by decide)]; exact o9, fun j hj => by rw [r38]; exact hfb j (by omega), f', by rw [s38]; exact hSO, fun M' G gm k1 k2 k3 k4 => ?_⟩
      rw [s38] at k2 k4
      have hcl : ∀ v : Int, ∀ m : Nat, m ≤ (na + nb).toNat → cle f v m = cle (pol M a.toNat b.toNat) v m := fun v m hm => cle_cg (fun j hj => hfp j (by omega)) v
      have hnxv : ∀ last : Int, ∀ m : Nat, m ≤ (na + nb).toNat → nxv f last m = nxv (pol M a.toNat b.toNat) last m := fun last m => by
        induction m with
        | zero => intro _; rfl
        | succ m ih =>
          intro hm
          show (if last < f m ∧ f m < nxv f last m then f m else nxv f last m) = (if last < pol M a.toNat b.toNat m ∧ pol M a.toNat b.toNat m < nxv (pol M a.toNat b.toNat) last m then pol M a.toNat b.toNat m else nxv (pol M a.toNat b.toNat) last m)
          rw [ih (by omega), hfp m (by omega)]
      have hvsq : ∀ u : Nat, vsq f (na + nb).toNat u = vsq (pol M a.toNat b.toNat) (na + nb).toNat u := fun u => by
        induction u with
        | zero => exact hnxv _ _ (Nat.le_refl _)
        | succ u ih =>
          show nxv f (vsq f (na + nb).toNat u) _ = nxv (pol M a.toNat b.toNat) (vsq (pol M a.toNat b.toNat) (na + nb).toNat u) _
          rw [hnxv _ _ (Nat.le_refl _), ih]
      have heqc : ∀ v : Int, eqc f v (na + nb).toNat = eqc (pol M a.toNat b.toNat) v (na + nb).toNat := fun v => by
        have key : ∀ m : Nat, m ≤ (na + nb).toNat → eqc f v m = eqc (pol M a.toNat b.toNat) v m := fun m => by
          induction m with
          | zero => intro _; rfl
          | succ m ih => intro hm; show eqc f v m + (if f m = v then 1 else 0) = eqc (pol M a.toNat b.toNat) v m + (if pol M a.toNat b.toNat m = v then 1 else 0); rw [ih (by omega), hfp m (by omega)]
        exact key _ (Nat.le_refl _)
      have hgrp : grp (pol M a.toNat b.toNat) (na + nb).toNat G gm := by
        obtain ⟨y1, y2, y3⟩ := k2
        exact ⟨y1, fun u hu => by rw [← hvsq, ← heqc]; exact y2 u hu, by rw [← hvsq]; exact y3⟩
      have hth : mxf (fun u => mvA f na nb (vsq f (na + nb).toNat u)) gm.toNat = mxf (fun u => mvA (pol M a.toNat b.toNat) na nb (vsq (pol M a.toNat b.toNat) (na + nb).toNat u)) gm.toNat := by
        congr 1
        funext u
        rw [hvsq]
        unfold mvA
        rw [hcl _ _ (by omega), hcl _ _ (Nat.le_refl _)]
      rw [hth] at k4
      refine hP M' _ _ _ 1 0 ⟨fun g' a1 a2 => ?_, fun k a1 a2 a3 a4 => ?_⟩ (Or.inr (Or.inr (Or.inl ⟨e2, fun f2 hf2 => ?_, rfl, ⟨G, gm, by rw [← hna, ← hnb]; exact hgrp, rfl⟩, rfl, rfl⟩))) ⟨k3, ?_, by rw [← hna, ← hnb]; exact k4, ?_, ?_⟩
      · rw [k1.1 g' a1 (by omega) (by omega) (by omega) (by omega) (by omega), so g' a1 (by omega)]
      · rw [k1.2 k (by omega) (by omega) a4, s11 k a2 (by omega), o11 k (by omega)]
      · rw [← hna, ← hnb] at hf2 ⊢
        have hff : ∀ j : Nat, j < (na + nb).toNat → f' j = f2 j := srt_uq hso hf2.1 (fun v => by rw [hSO.2 v, hcl v _ (Nat.le_refl _), hf2.2 v])
        exact tlst_cg fun v _ => gpd_cg hff _
      · rw [k1.2 8 (by decide) (by decide) (by decide), s8, hna, hnb]
      · rw [k1.2 10 (by decide) (by decide) (by decide), s11 10 (by decide) (by decide)]; exact o10
      · rw [k1.2 11 (by decide) (by decide) (by decide), s11 11 (by decide) (by decide)]; exact o11'
    · -- RANKS
      have e1 : t = 1 := by omega
      rw [r15, s38, r38]
      refine ⟨by omega, fun j hj => by have := hfb j hj; exact ⟨by omega, by omega⟩, fun r hr => ?_⟩
      have hrp : ∀ j : Nat, j < (na + nb).toNat → r j = drk (pol M a.toNat b.toNat) (na + nb).toNat (pol M a.toNat b.toNat j) := fun j hj => by rw [hr j (by omega), drk_cg (g := pol M a.toNat b.toNat) hfp, hfp j hj]
      have e9 : stc M2 39 0 r = stm (stc M2 39 0 r) 11 0 9 0 := by
        have e : stc M2 39 0 r 11 0 9 = 0 := by rw [stc_ne _ _ _ _ (by decide), s11 9 (by decide) (by decide)]; exact o9
        conv => lhs; rw [← stm_id (stc M2 39 0 r) 11 0 9, e]
      rw [e9]
      refine fill_1s l C hR (r := r) (by omega) (by omega) (stc_self _ _ _ _) (fun j hj => by rw [hrp j (by omega)]; have := drk_in (pol M a.toNat b.toNat) (na + nb).toNat (pol M a.toNat b.toNat j); omega) (by rw [stc_ne _ _ _ _ (by decide), s11 7 (by decide) (by decide)]; exact o7) (fun M' f1 f2 f3 f4 f5 => ?_)
      rw [tlst_cg (D' := cw (fun j => drk (pol M a.toNat b.toNat) (na + nb).toNat (pol M a.toNat b.toNat j)) (na + nb).toNat na.toNat) (fun v _ => cw_cg hrp _ _)] at f3
      rw [sm_cg (g := fun j => drk (pol M a.toNat b.toNat) (na + nb).toNat (pol M a.toNat b.toNat j)) (fun j hj => hrp j (by omega))] at f4
      refine hP M' _ _ _ 1 _ ⟨fun g' a1 a2 => ?_, fun k a1 a2 a3 a4 => ?_⟩ (Or.inr (Or.inl ⟨e1, rfl, rfl, rfl, rfl, rfl⟩)) ⟨by rw [← hna, ← hnb]; exact f3, ?_, by rw [← hna, ← hnb]; exact f4, ?_, by rw [← hna, ← hnb]; exact f5⟩
      · rw [f1 g' a1 (by omega) (by omega) (by omega), stc_ne _ _ _ _ (by omega), so g' a1 (by omega)]
      · rw [f2 k (by omega) (by omega) (by omega), stc_ne _ _ _ _ (by decide), s11 k a2 (by omega), o11 k (by omega)]
      · rw [f2 8 (by decide) (by decide) (by decide), stc_ne _ _ _ _ (by decide), s8, hna, hnb]
      · rw [f2 10 (by decide) (by decide) (by decide), stc_ne _ _ _ _ (by decide), s11 10 (by decide) (by decide)]; exact o10
    · -- SUMS
      have e9 : M2 = fst9 M2 f 0 := by
        unfold fst9
        rw [← s38, stc_id]
        have e : M2 11 0 9 = 0 := by rw [s11 9 (by decide) (by decide)]; exact o9
        rw [← e, stm_id]
      rw [e9]
      refine fill_0s l C hR (by omega) (by omega) hfb (by rw [s11 7 (by decide) (by decide)]; exact o7) (fun M' f1 f2 f3 f4 f5 f6 => ?_)
      rw [tlst_cg (D' := cw (fun j => pol M a.toNat b.toNat j + 500) (na + nb).toNat na.toNat) (fun v _ => cw_cg (fun j hj => by rw [hfp j hj]) _ _)] at f3
      rw [sm_cg (g := pol M a.toNat b.toNat) (fun j hj => hfp j (by omega))] at f4 f6
      refine hP M' _ _ _ _ _ ⟨fun g' a1 a2 => ?_, fun k a1 a2 a3 a4 => ?_⟩ (Or.inl ⟨z2, rfl, rfl, rfl, rfl, rfl⟩) ⟨by rw [← hna, ← hnb]; exact f3, ?_, by rw [← hna]; exact f4, by rw [← hna, ← hnb]; exact f5, by rw [← hna, ← hnb]; exact f6⟩
      · rw [f1 g' a1 (by omega) (by omega) (by omega) (by omega), so g' a1 (by omega)]
      · rw [f2 k (by omega) (by omega) (by omega) (by omega), s11 k a2 (by omega), o11 k (by omega)]
      · rw [f2 8 (by decide) (by decide) (by decide) (by decide), s8, hna, hnb]
