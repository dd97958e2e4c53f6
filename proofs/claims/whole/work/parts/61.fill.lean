/-! CloudBenchModel.fill -/
/-- the answers to a question: the list of scores, TOTAL, what is there, how far it is -/
def ANS (M : Mm) (t : Int) (a b : Nat) (ks : List (Int × Int)) (tt th ft fl : Int) : Prop :=
  (t = 0 ∧ ks = tlst (cw (fun j => pol M a b j + 500) (M 8 a 1 + M 8 b 1).toNat (M 8 a 1).toNat) 1 (-500 * M 8 a 1) (1000 * M 8 a 1 + 1).toNat ∧ tt = chI (M 8 a 1 + M 8 b 1) (M 8 a 1) ∧ th = sm (pol M a b) (M 8 a 1).toNat ∧ ft = M 8 a 1 + M 8 b 1 ∧ fl = M 8 a 1 * sm (pol M a b) (M 8 a 1 + M 8 b 1).toNat) ∨
  (t = 1 ∧ ks = tlst (cw (fun j => drk (pol M a b) (M 8 a 1 + M 8 b 1).toNat (pol M a b j)) (M 8 a 1 + M 8 b 1).toNat (M 8 a 1).toNat) 1 0 (80 * M 8 a 1 + 1).toNat ∧ tt = chI (M 8 a 1 + M 8 b 1) (M 8 a 1) ∧ th = sm (fun j => drk (pol M a b) (M 8 a 1 + M 8 b 1).toNat (pol M a b j)) (M 8 a 1).toNat ∧ ft = 1 ∧ fl = M 8 a 1 * (M 8 a 1 + M 8 b 1 + 1)) ∨
  (t = 2 ∧ (∀ f : Nat → Int, SO f (pol M a b) (M 8 a 1 + M 8 b 1).toNat → ks = tlst (gpd f (M 8 a 1 + M 8 b 1).toNat (M 8 a 1).toNat) 1 0 (M 8 a 1 * M 8 b 1 + 1).toNat) ∧ tt = chI (M 8 a 1 + M 8 b 1) (M 8 a 1) ∧ (∃ (G : Nat → Int) (gm : Int), grp (pol M a b) (M 8 a 1 + M 8 b 1).toNat G gm ∧ th = mxf (fun u => mvA (pol M a b) (M 8 a 1) (M 8 b 1) (vsq (pol M a b) (M 8 a 1 + M 8 b 1).toNat u)) gm.toNat) ∧ ft = 1 ∧ fl = 0) ∨
  (t = 3 ∧ ∃ ds : List Int, ds = nzl (dif M a b) (M 8 a 1).toNat ∧ ks = tlst (swc (srk ds) ds.length) 1 0 (sm (srk ds) ds.length + 1).toNat ∧ tt = 2 ^ ds.length ∧ th = ssm ds ds.length ∧ ft = 2 ∧ fl = sm (srk ds) ds.length) ∨
  (t = 4 ∧ ∃ ds : List Int, ds = nzl (dif M a b) (M 8 a 1).toNat ∧ ks = tlst (swc (fun j => zab (dg ds j)) ds.length) 2 (-(sm (fun j => zab (dg ds j)) ds.length)) (sm (fun j => zab (dg ds j)) ds.length + 1).toNat ∧ tt = 2 ^ ds.length ∧ th = sm (dg ds) ds.length ∧ ft = 1 ∧ fl = 0) ∨
  (t = 5 ∧ ks = tlst (ordD (M 8 a 1)) 2 (-(trn (M 8 a 1))) (trn (M 8 a 1) + 1).toNat ∧ tt = fac (M 8 a 1).toNat ∧ th = osm M a b (M 8 a 1).toNat ∧ ft = 1 ∧ fl = 0)
def keepF (M M' : Mm) : Prop := (∀ g' : Nat, ¬ g' = 11 → (g' < 34 ∨ 43 < g' ∨ g' = 37) → M' g' = M g') ∧ ∀ k : Nat, (k < 7 ∨ 11 < k) → ¬ k = 15 → ¬ k = 18 → ¬ k = 20 → M' 11 0 k = M 11 0 k
def FK (M : Mm) (ks : List (Int × Int)) (tt th ft fl : Int) : Prop := ML M ks ∧ M 11 0 8 = tt ∧ M 11 0 9 = th ∧ M 11 0 10 = ft ∧ M 11 0 11 = fl
def T_X11_fill : Ct := fun as M P => match as with
  | [.inr (some (g, s)), .inl (.inl t), .inl (.inl a), .inl (.inl b)] => g = 11 ∧ s = 0 ∧ can M t a b ∧ SI M ∧ SE M ∧ CE M ∧ ∀ (M' : Mm) (ks : List (Int × Int)) (tt th ft fl : Int), keepF M M' → ANS M t a.toNat b.toNat ks tt th ft fl → FK M' ks tt th ft fl → P none M'
  | _ => False
theorem tlst_cg {D D' : Int → Int} {times more : Int} {n : Nat} (h : ∀ v : Nat, v < n → D v = D' v) : tlst D times more n = tlst D' times more n := by
  induction n with
  | zero => rfl
  | succ n ih =>
    show (if D n = 0 then _ else _ ++ [(_, D n)]) = (if D' n = 0 then _ else _ ++ [(_, D' n)])
    rw [ih fun v hv => h v (by omega), h n (by omega)]
theorem swc_cg {f g : Nat → Int} {n : Nat} (h : ∀ j, j < n → f j = g j) (s : Int) : swc f n s = swc g n s := by
  induction n generalizing s with
  | zero => rfl
  | succ n ih =>
    show swc f n s + swc f n (s - f n) = swc g n s + swc g n (s - g n)
    rw [ih (fun j hj => h j (by omega)), ih (fun j hj => h j (by omega)), h n (by omega)]
theorem ML_cg {M M' : Mm} {ks : List (Int × Int)} (h7 : M' 11 0 7 = M 11 0 7) (h35 : M' 35 = M 35) (h36 : M' 36 = M 36) (h : ML M ks) : ML M' ks := by
  refine ⟨by rw [h7]; exact h.1, fun q s c hq => ?_⟩
  rw [h35, h36]
  exact h.2 q s c hq
def fst9 (M : Mm) (f : Nat → Int) (t : Int) : Mm := stm (stc M 38 0 f) 11 0 9 t
theorem fst9_38 (M : Mm) (f : Nat → Int) (t : Int) (k : Nat) (v : Int) : stm (fst9 M f t) 38 0 k v = fst9 M (fun j => if j = k then v else f j) t := by
  unfold fst9
  rw [stm_cm _ 11 0 9 38 0 k t v (by decide), stm_on]
theorem fst9_9 (M : Mm) (f : Nat → Int) (t v : Int) : stm (fst9 M f t) 11 0 9 v = fst9 M f v := by
  unfold fst9
  rw [stm_sm]
theorem fst9_r38 (M : Mm) (f : Nat → Int) (t : Int) : fst9 M f t 38 0 = f := by
  funext k; simp [fst9, stm_ap, stc_ap]
theorem fst9_r9 (M : Mm) (f : Nat → Int) (t : Int) : fst9 M f t 11 0 9 = t := rfl
theorem fst9_o (M : Mm) (f : Nat → Int) (t : Int) {g : Nat} (h1 : ¬ g = 11) (h2 : ¬ g = 38) : fst9 M f t g = M g := by
  unfold fst9
  rw [stm_ne _ _ _ _ _ h1, stc_ne _ _ _ _ h2]
theorem fst9_11 (M : Mm) (f : Nat → Int) (t : Int) {k : Nat} (h : ¬ k = 9) : fst9 M f t 11 0 k = M 11 0 k := by
  unfold fst9
  rw [stm_ap, if_neg (by omega), stc_ne _ _ _ _ (by decide)]
/-- from the loop of SUMS to the end -/
theorem fill_0s (l : Launch) {x : Xc} (C : Cx x l cX11_fill RX11 10 4) {P : Option AV → Mm → Prop} (hR : Rx x none P) {M1 : Mm} {f : Nat → Int} {t a b na nb : Int} (ha : 1 ≤ na ∧ na ≤ 20) (hb : 1 ≤ nb ∧ nb ≤ 20) (hf : ∀ j : Nat, (j : Int) < na + nb → -500 ≤ f j ∧ f j ≤ 500) (h7 : M1 11 0 7 = 0)
    (hP : ∀ M' : Mm, (∀ g' : Nat, ¬ g' = 11 → ¬ g' = 34 → ¬ g' = 35 → ¬ g' = 36 → ¬ g' = 38 → M' g' = M1 g') → (∀ k : Nat, ¬ k = 7 → ¬ k = 9 → ¬ k = 10 → ¬ k = 11 → M' 11 0 k = M1 11 0 k) → ML M' (tlst (cw (fun j => f j + 500) (na + nb).toNat na.toNat) 1 (-500 * na) (1000 * na + 1).toNat) → M' 11 0 9 = sm f na.toNat → M' 11 0 10 = na + nb → M' 11 0 11 = na * sm f (na + nb).toNat → P none M') :
    J x 81 [some (zr 11 0), some (zi t), some (zi a), some (zi b), some (zi na), some (zi nb), some (zi (na + nb)), some (zl 0), none, some (zi 0)] [] (fst9 M1 f 0) := by
  suffices hh : ∀ (k : Int) (M' : Mm), ((0 ≤ k ∧ k ≤ na + nb) ∧ ∃ F : Nat → Int, M' = fst9 M1 F (sm f (min k na).toNat) ∧ ∀ j : Nat, (j : Int) < na + nb → F j = if (j : Int) < k then f j + 500 else f j) → J x 81 [some (zr 11 0), some (zi t), some (zi a), some (zi b), some (zi na), some (zi nb), some (zi (na + nb)), some (zl (sm f k.toNat)), none, some (zi k)] [] M' by
    refine hh 0 _ ⟨by omega, f, ?_, fun j hj => by rw [if_neg (by omega)]⟩
    rw [show (min 0 na).toNat = 0 by omega]
    rfl
  refine loopU (na + nb) _ _ ?_
  rintro k M' ⟨hk, F, rfl, hF⟩ ih
  have h125 : ∀ v s1 : Int, k < na + nb → v = (if k < na then f k.toNat else 0) → s1 = sm f (k.toNat + 1) → J x 125 [some (zr 11 0), some (zi t), some (zi a), some (zi b), some (zi na), some (zi nb), some (zi (na + nb)), some (zl s1), none, some (zi k)] [zl v, zl (sm f (min k na).toNat), zr 11 0] (fst9 M1 F (sm f (min k na).toNat)) := by
    intro v s1 hlt hv hs1
    refine B_X11_fill_125 C _ _ _ ?_
    simp only [c_iadd, c_isub, c_imul, c_ladd, c_lsub, c_lmul, c_ineg, c_lneg, c_ic, c_lc, c_iload, c_lload, c_aload, c_istore, c_astore, c_lstore, c_iinc, c_dup, c_dup2, c_goto, c_i2l, c_l2i, c_idiv, c_ldiv, c_lrem, c_lshl, c_gi, c_gl, c_gr, c_pi, c_pz, c_pl, c_iald, c_lald, c_bald, c_aald, c_iast, c_last, c_bast, c_callV, c_callS, c_mmax, c_mmin, c_mabs, c_mmaxl, c_mabsl, c_iret, c_zret, c_lret, c_vret, c_tsw, c_lsw, c_icmp_eq, c_icmp_ne, c_icmp_lt, c_icmp_ge, c_icmp_gt, c_icmp_le, c_if_eq, c_if_ne, c_if_lt, c_if_ge, c_if_gt, c_if_le, c_lcmp_eq, c_lcmp_ne, c_lcmp_lt, c_lcmp_ge, c_lcmp_gt, c_lcmp_le, c_lraw_eq, c_lraw_lt, c_lraw_ge, c_lraw_gt, c_lraw_le, acat, scat, tswP, pops, st1, st2, klo, pad, elo, List.getElem?_cons_zero, List.getElem?_cons_succ, List.getElem?_nil, List.set_cons_zero, List.set_cons_succ, List.set_nil, Option.toList_some, Option.toList_none, List.cons_append, List.nil_append, List.length_cons, List.length_nil, stc_ap, stm_ap, false_and, and_false, and_self, true_and, and_true, Nat.reduceEqDiff, reduceIte, al_12, al_13, al_14, al_15, al_16, al_17, al_18, al_19, al_20, al_21, al_22, al_23, al_24, al_25, al_26, al_27, al_28, al_29, al_30, al_31, al_32, al_33, al_34, al_35, al_36, al_37, al_38, al_39, al_40, al_41, al_42, al_43, al_44, al_45, al_46, al_47, al_48, al_49, al_50, al_51, al_52, al_53, al_54, al_55, at_12, at_13, at_14, at_15, at_16, at_17, at_18, at_19, at_20, at_21, at_22, at_23, at_24, at_25, at_26, at_27, at_28, at_29, at_30, at_31, at_32, at_33, at_34, at_35, at_36, at_37, at_38, at_39, at_40, at_41, at_42, at_43, at_44, at_45, at_46, at_47, at_48, at_49, at_50, at_51, at_52, at_53, at_54, at_55, cn_0, cn_1, cn_2, cn_3, cn_4, cn_5, cn_6, cn_7, cn_8, cn_9, cn_10, cn_11, cn_12, cn_13, cn_14, cn_15, cn_16, cn_17, cn_18, cn_19, cn_20, cn_21, cn_22, cn_23, cn_24, cn_25, cn_26, cn_27, cn_28, cn_29, cn_30, cn_31, cn_32, cn_33, cn_34, cn_35, cn_36, cn_37, cn_38, cn_39, cn_40, cn_41, cn_42, cn_43, cn_44, cn_45, cn_46, cn_47, cn_48, cn_49, cn_50, cn_51, cn_52, cn_53, cn_54, cn_55, Nat.reduceAdd, Nat.reduceLT, Nat.reduceLeDiff, Nat.lt_add_one, Nat.zero_lt_succ, Nat.reduceSub, ite_true, ite_false, reduceCtorEq, forall_const, Nat.reduceSucc, Nat.zero_add, Nat.add_zero, Nat.le_refl, Nat.zero_le, Nat.reducePow, Int.reduceNeg, Nat.reduceMul, eq_self, Int.cast_ofNat_Int, Int.toNat_natCast, iR, lR, Int.reduceEq, Int.reduceLT, Int.reduceLE, Int.reduceNe, not_false_eq_true, not_true_eq_false, false_implies, true_implies, Int.reduceAdd, Int.reduceSub, Int.reduceMul, Int.reduceToNat, implies_true, or_true, true_or, or_false, false_or, fst9_9, fst9_38, fst9_r38]
    have hFk := hF k.toNat (by omega)
    rw [if_neg (by omega)] at hFk
    have := ih hlt (fst9 M1 (fun j => if j = k.toNat then F k.toNat + 500 else F j) (sm f (min k na).toNat + v)) ⟨by omega, (fun j => if j = k.toNat then F k.toNat + 500 else F j), ?_, fun j hj => ?_⟩
    · rw [show (k + 1).toNat = k.toNat + 1 by omega, ← hs1] at this
      exact ⟨by omega, by omega, this⟩
    · congr 1
      rw [hv]
      by_cases e : k < na
      · rw [if_pos e, show (min (k + 1) na).toNat = k.toNat + 1 by omega, show (min k na).toNat = k.toNat by omega, sm_s]
      · rw [if_neg e, show (min (k + 1) na).toNat = (min k na).toNat by omega, Int.add_zero]
    · show (if j = k.toNat then F k.toNat + 500 else F j) = _
      by_cases e : j = k.toNat
      · rw [if_pos e, hFk, if_pos (by omega), e]
      · rw [if_neg e, hF j hj]
        by_cases e2 : (j : Int) < k
        · rw [if_pos e2, if_pos (by omega)]
        · rw [if_neg e2, if_neg (by omega)]
  refine B_X11_fill_81 C hR (k_X11_chosen l) (by decide) _ _ _ ?_
  simp only [c_iadd, c_isub, c_imul, c_ladd, c_lsub, c_lmul, c_ineg, c_lneg, c_ic, c_lc, c_iload, c_lload, c_aload, c_istore, c_astore, c_lstore, c_iinc, c_dup, c_dup2, c_goto, c_i2l, c_l2i, c_idiv, c_ldiv, c_lrem, c_lshl, c_gi, c_gl, c_gr, c_pi, c_pz, c_pl, c_iald, c_lald, c_bald, c_aald, c_iast, c_last, c_bast, c_callV, c_callS, c_mmax, c_mmin, c_mabs, c_mmaxl, c_mabsl, c_iret, c_zret, c_lret, c_vret, c_tsw, c_lsw, c_icmp_eq, c_icmp_ne, c_icmp_lt, c_icmp_ge, c_icmp_gt, c_icmp_le, c_if_eq, c_if_ne, c_if_lt, c_if_ge, c_if_gt, c_if_le, c_lcmp_eq, c_lcmp_ne, c_lcmp_lt, c_lcmp_ge, c_lcmp_gt, c_lcmp_le, c_lraw_eq, c_lraw_lt, c_lraw_ge, c_lraw_gt, c_lraw_le, acat, scat, tswP, pops, st1, st2, klo, pad, elo, List.getElem?_cons_zero, List.getElem?_cons_succ, List.getElem?_nil, List.set_cons_zero, List.set_cons_succ, List.set_nil, Option.toList_some, Option.toList_none, List.cons_append, List.nil_append, List.length_cons, List.length_nil, stc_ap, stm_ap, false_and, and_false, and_self, true_and, and_true, Nat.reduceEqDiff, reduceIte, al_12, al_13, al_14, al_15, al_16, al_17, al_18, al_19, al_20, al_21, al_22, al_23, al_24, al_25, al_26, al_27, al_28, al_29, al_30, al_31, al_32, al_33, al_34, al_35, al_36, al_37, al_38, al_39, al_40, al_41, al_42, al_43, al_44, al_45, al_46, al_47, al_48, al_49, al_50, al_51, al_52, al_53, al_54, al_55, at_12, at_13, at_14, at_15, at_16, at_17, at_18, at_19, at_20, at_21, at_22, at_23, at_24, at_25, at_26, at_27, at_28, at_29, at_30, at_31, at_32, at_33, at_34, at_35, at_36, at_37, at_38, at_39, at_40, at_41, at_42, at_43, at_44, at_45, at_46, at_47, at_48, at_49, at_50, at_51, at_52, at_53, at_54, at_55, cn_0, cn_1, cn_2, cn_3, cn_4, cn_5, cn_6, cn_7, cn_8, cn_9, cn_10, cn_11, cn_12, cn_13, cn_14, cn_15, cn_16, cn_17, cn_18, cn_19, cn_20, cn_21, cn_22, cn_23, cn_24, cn_25, cn_26, cn_27, cn_28, cn_29, cn_30, cn_31, cn_32, cn_33, cn_34, cn_35, cn_36, cn_37, cn_38, cn_39, cn_40, cn_41, cn_42, cn_43, cn_44, cn_45, cn_46, cn_47, cn_48, cn_49, cn_50, cn_51, cn_52, cn_53, cn_54, cn_55, Nat.reduceAdd, Nat.reduceLT, Nat.reduceLeDiff, Nat.lt_add_one, Nat.zero_lt_succ, Nat.reduceSub, ite_true, ite_false, reduceCtorEq, forall_const, Nat.reduceSucc, Nat.zero_add, Nat.add_zero, Nat.le_refl, Nat.zero_le, Nat.reducePow, Int.reduceNeg, Nat.reduceMul, eq_self, Int.cast_ofNat_Int, Int.toNat_natCast, iR, lR, Int.reduceEq, Int.reduceLT, Int.reduceLE, Int.reduceNe, not_false_eq_true, not_true_eq_false, false_implies, true_implies, Int.reduceAdd, Int.reduceSub, Int.reduceMul, Int.reduceToNat, implies_true, or_true, true_or, or_false, false_or, T_X11_chosen, fst9_r38, fst9_r9]
  refine ⟨by omega, by omega, fun z => ?_, fun z => ?_⟩
  · have hFe : ∀ j : Nat, (j : Int) < na + nb → F j = f j + 500 := fun j hj => by rw [hF j hj, if_pos (by omega)]
    have hsb := sm_abs (f := f) (n := (na + nb).toNat) (c := 500) (by decide) (fun j hj => hf j (by omega))
    refine ⟨by omega, by omega, by omega, by omega, fun j hj => ?_, by rw [fst9_11 _ _ _ (by decide)]; exact h7, fun M' hk1 hml => ⟨by omega, by omega, ?_⟩⟩
    · rw [hFe j hj]; have := hf j hj; omega
    · rw [show k.toNat = (na + nb).toNat by omega]
      refine hP _ (fun g' a1 a2 a3 a4 a5 => ?_) (fun k' a1 a2 a3 a4 => ?_) (ML_cg rfl (by rw [stm_ne _ _ _ _ _ (by decide), stm_ne _ _ _ _ _ (by decide)]) (by rw [stm_ne _ _ _ _ _ (by decide), stm_ne _ _ _ _ _ (by decide)]) ?_) ?_ ?_ ?_
      · rw [stm_ne _ _ _ _ _ a1, stm_ne _ _ _ _ _ a1, hk1.1 g' a1 a2 a3 a4, fst9_o _ _ _ a1 a5]
      · rw [stm_ap, if_neg (by omega), stm_ap, if_neg (by omega), hk1.2 k' a1, fst9_11 _ _ _ a2]
      · rw [tlst_cg (D' := cw F (na + nb).toNat na.toNat) (fun v _ => (cw_cg (fun j hj => hFe j (by omega)) _ _).symm)]
        exact hml
      · rw [stm_ap, if_neg (by decide), stm_ap, if_neg (by decide), hk1.2 9 (by decide), fst9_r9, show (min k na).toNat = na.toNat by omega]
      · rw [stm_ap, if_neg (by decide)]; rfl
      · rfl
  · have hFk := hF k.toNat (by omega)
    rw [if_neg (by omega)] at hFk
    have hfk := hf k.toNat (by omega)
    rw [hFk]
    have es : sm f k.toNat + f k.toNat = sm f (k.toNat + 1) := rfl
    exact ⟨by omega, by omega, by omega, by omega, fun y => h125 0 _ (by omega) (by rw [if_neg (by omega)]) es, fun y => ⟨by omega, by omega, h125 _ _ (by omega) (by rw [if_pos (by omega)]) es⟩⟩
/-- from the loop of RANKS to the end -/
theorem fill_1s (l : Launch) {x : Xc} (C : Cx x l cX11_fill RX11 10 4) {P : Option AV → Mm → Prop} (hR : Rx x none P) {M1 : Mm} {r : Nat → Int} {t a b na nb : Int} (ha : 1 ≤ na ∧ na ≤ 20) (hb : 1 ≤ nb ∧ nb ≤ 20) (hr : M1 39 0 = r) (hrb : ∀ j : Nat, (j : Int) < na + nb → 0 ≤ r j ∧ r j ≤ 81) (h7 : M1 11 0 7 = 0)
    (hP : ∀ M' : Mm, (∀ g' : Nat, ¬ g' = 11 → ¬ g' = 34 → ¬ g' = 35 → ¬ g' = 36 → M' g' = M1 g') → (∀ k : Nat, ¬ k = 7 → ¬ k = 9 → ¬ k = 11 → M' 11 0 k = M1 11 0 k) → ML M' (tlst (cw r (na + nb).toNat na.toNat) 1 0 (80 * na + 1).toNat) → M' 11 0 9 = sm r na.toNat → M' 11 0 11 = na * (na + nb + 1) → P none M') :
    J x 206 [some (zr 11 0), some (zi t), some (zi a), some (zi b), some (zi na), some (zi nb), some (zi (na + nb)), some (zi 0), none, none] [] (stm M1 11 0 9 0) := by
  suffices hh : ∀ (k : Int) (M' : Mm), ((0 ≤ k ∧ k ≤ na) ∧ M' = stm M1 11 0 9 (sm r k.toNat)) → J x 206 [some (zr 11 0), some (zi t), some (zi a), some (zi b), some (zi na), some (zi nb), some (zi (na + nb)), some (zi k), none, none] [] M' by
    exact hh 0 _ ⟨by omega, rfl⟩
  refine loopU na _ _ ?_
  rintro k M' ⟨hk, rfl⟩ ih
  refine B_X11_fill_206 C hR (k_X11_chosen l) (by decide) _ _ _ ?_
  simp only [c_iadd, c_isub, c_imul, c_ladd, c_lsub, c_lmul, c_ineg, c_lneg, c_ic, c_lc, c_iload, c_lload, c_aload, c_istore, c_astore, c_lstore, c_iinc, c_dup, c_dup2, c_goto, c_i2l, c_l2i, c_idiv, c_ldiv, c_lrem, c_lshl, c_gi, c_gl, c_gr, c_pi, c_pz, c_pl, c_iald, c_lald, c_bald, c_aald, c_iast, c_last, c_bast, c_callV, c_callS, c_mmax, c_mmin, c_mabs, c_mmaxl, c_mabsl, c_iret, c_zret, c_lret, c_vret, c_tsw, c_lsw, c_icmp_eq, c_icmp_ne, c_icmp_lt, c_icmp_ge, c_icmp_gt, c_icmp_le, c_if_eq, c_if_ne, c_if_lt, c_if_ge, c_if_gt, c_if_le, c_lcmp_eq, c_lcmp_ne, c_lcmp_lt, c_lcmp_ge, c_lcmp_gt, c_lcmp_le, c_lraw_eq, c_lraw_lt, c_lraw_ge, c_lraw_gt, c_lraw_le, acat, scat, tswP, pops, st1, st2, klo, pad, elo, List.getElem?_cons_zero, List.getElem?_cons_succ, List.getElem?_nil, List.set_cons_zero, List.set_cons_succ, List.set_nil, Option.toList_some, Option.toList_none, List.cons_append, List.nil_append, List.length_cons, List.length_nil, stc_ap, stm_ap, false_and, and_false, and_self, true_and, and_true, Nat.reduceEqDiff, reduceIte, al_12, al_13, al_14, al_15, al_16, al_17, al_18, al_19, al_20, al_21, al_22, al_23, al_24, al_25, al_26, al_27, al_28, al_29, al_30, al_31, al_32, al_33, al_34, al_35, al_36, al_37, al_38, al_39, al_40, al_41, al_42, al_43, al_44, al_45, al_46, al_47, al_48, al_49, al_50, al_51, al_52, al_53, al_54, al_55, at_12, at_13, at_14, at_15, at_16, at_17, at_18, at_19, at_20, at_21, at_22, at_23, at_24, at_25, at_26, at_27, at_28, at_29, at_30, at_31, at_32, at_33, at_34, at_35, at_36, at_37, at_38, at_39, at_40, at_41, at_42, at_43, at_44, at_45, at_46, at_47, at_48, at_49, at_50, at_51, at_52, at_53, at_54, at_55, cn_0, cn_1, cn_2, cn_3, cn_4, cn_5, cn_6, cn_7, cn_8, cn_9, cn_10, cn_11, cn_12, cn_13, cn_14, cn_15, cn_16, cn_17, cn_18, cn_19, cn_20, cn_21, cn_22, cn_23, cn_24, cn_25, cn_26, cn_27, cn_28, cn_29, cn_30, cn_31, cn_32, cn_33, cn_34, cn_35, cn_36, cn_37, cn_38, cn_39, cn_40, cn_41, cn_42, cn_43, cn_44, cn_45, cn_46, cn_47, cn_48, cn_49, cn_50, cn_51, cn_52, cn_53, cn_54, cn_55, Nat.reduceAdd, Nat.reduceLT, Nat.reduceLeDiff, Nat.lt_add_one, Nat.zero_lt_succ, Nat.reduceSub, ite_true, ite_false, reduceCtorEq, forall_const, Nat.reduceSucc, Nat.zero_add, Nat.add_zero, Nat.le_refl, Nat.zero_le, Nat.reducePow, Int.reduceNeg, Nat.reduceMul, eq_self, Int.cast_ofNat_Int, Int.toNat_natCast, iR, lR, Int.reduceEq, Int.reduceLT, Int.reduceLE, Int.reduceNe, not_false_eq_true, not_true_eq_false, false_implies, true_implies, Int.reduceAdd, Int.reduceSub, Int.reduceMul, Int.reduceToNat, implies_true, or_true, true_or, or_false, false_or, T_X11_chosen, hr, stm_sm]
  refine ⟨by omega, by omega, fun z => ⟨by omega, by omega, by omega, fun j hj => by have := hrb j hj; omega, h7, fun M' hk1 hml => ⟨by omega, by omega, ?_⟩⟩, fun z => ⟨by omega, by have := hrb k.toNat (by omega); omega, ih (by omega) _ ⟨by omega, ?_⟩⟩⟩
  · rw [show stm M1 11 0 9 (sm r k.toNat) 39 0 = r by rw [stm_ne _ _ _ _ _ (by decide)]; exact hr] at hml
    refine hP _ (fun g' a1 a2 a3 a4 => ?_) (fun k' a1 a2 a3 => ?_) (ML_cg (M := M') (by rw [stm_ap, if_neg (by decide)]) (by rw [stm_ne _ _ _ _ _ (by decide)]) (by rw [stm_ne _ _ _ _ _ (by decide)]) hml) ?_ rfl
    · rw [stm_ne _ _ _ _ _ a1, hk1.1 g' a1 a2 a3 a4, stm_ne _ _ _ _ _ a1]
    · rw [stm_ap, if_neg (by omega), hk1.2 k' a1, stm_ap, if_neg (by omega)]
    · rw [stm_ap, if_neg (by decide), hk1.2 9 (by decide)]
      show sm r k.toNat = _
      rw [show k.toNat = na.toNat by omega]
  · rw [show (k + 1).toNat = k.toNat + 1 by omega, sm_s]
