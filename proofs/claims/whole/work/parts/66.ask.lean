/-! CloudBench.ask; bounds of counts -/
theorem lsm_tlst {D : Int → Int} (hD : ∀ v : Nat, 0 ≤ D v) (p : Int → Bool) (st sh : Int) (n : Nat) : 0 ≤ lsm p (tlst D st sh n) ∧ lsm p (tlst D st sh n) ≤ sm (fun v => D v) n := by
  induction n with
  | zero => exact ⟨Int.le_refl 0, Int.le_refl 0⟩
  | succ n ih =>
    have h := hD n
    rw [sm_s]
    show 0 ≤ lsm p (if D n = 0 then _ else _ ++ [(st * n + sh, D n)]) ∧ lsm p (if D n = 0 then _ else _ ++ [(st * n + sh, D n)]) ≤ _
    split
    · omega
    · rw [lsm_app]
      split <;> omega
theorem sm_split (f : Nat → Int) (a b : Nat) : sm f (a + b) = sm f a + sm (fun j => f (a + j)) b := by
  induction b with
  | zero => show sm f a = sm f a + 0; omega
  | succ b ih => show sm f (a + b) + f (a + b) = _; rw [ih, sm_s]; omega
theorem mh_sum (i : Nat) : ∀ N : Nat, sm (fun v => mh i (v : Int)) N ≤ fac i := by
  induction i with
  | zero =>
    intro N
    show sm (fun v => if (v : Int) = 0 then 1 else 0) N ≤ 1
    cases N with
    | zero => decide
    | succ N =>
      rw [sm_one (k := 0) (by omega) (fun j _ hj => if_neg (by omega))]
      decide
  | succ i ih =>
    intro N
    have f0 : 0 ≤ fac i := Int.le_trans (Int.le_refl 0) (ih 0)
    have hsh : ∀ t : Nat, sm (fun v => mh i ((v : Int) - t)) N ≤ fac i := by
      intro t
      by_cases h : N ≤ t
      · rw [sm_z (fun j hj => mh_neg (by omega))]; exact f0
      · obtain ⟨d, rfl⟩ : ∃ d, N = t + d := ⟨N - t, by omega⟩
        rw [sm_split, sm_z (fun j hj => mh_neg (by omega)), Int.zero_add, sm_cg (g := fun v => mh i (v : Int)) (fun j hj => by
          show mh i (((t + j : Nat) : Int) - t) = mh i j
          rw [show ((t + j : Nat) : Int) - t = j by omega])]
        exact ih d
    have key : ∀ m : Nat, sm (fun v => psm (mh i) m (v : Int)) N ≤ m * fac i := by
      intro m
      induction m with
      | zero => rw [sm_z (f := fun v => psm (mh i) 0 (v : Int)) (fun j hj => rfl)]; omega
      | succ m ihm =>
        have e : sm (fun v => psm (mh i) (m + 1) (v : Int)) N = sm (fun v => psm (mh i) m (v : Int)) N + sm (fun v => mh i ((v : Int) - m)) N := sm_ad (f := fun v => psm (mh i) m (v : Int)) (g := fun v => mh i ((v : Int) - m))
        rw [e]
        have := hsh m
        have e2 : ((m + 1 : Nat) : Int) * fac i = m * fac i + fac i := by rw [Int.natCast_add, Int.add_mul]; simp
        omega
    have := key (i + 1)
    show sm (fun v => psm (mh i) (i + 1) (v : Int)) N ≤ fac i * (i + 1)
    rw [Int.mul_comm]
    exact this
theorem chs_1 {n k : Nat} (h : k ≤ n) : 1 ≤ chs n k := by
  induction n generalizing k with
  | zero => obtain rfl : k = 0 := by omega
            decide
  | succ n ih =>
    cases k with
    | zero => rw [chs_z]; exact Int.le_refl 1
    | succ k => rw [chs_ss]; have := ih (k := k) (by omega); have := chs_nn n (k + 1); omega
theorem fac_1 (n : Nat) : 1 ≤ fac n := by
  induction n with
  | zero => decide
  | succ n ih =>
    show 1 ≤ fac n * (n + 1)
    have : fac n * 1 ≤ fac n * (n + 1) := Int.mul_le_mul_of_nonneg_left (by omega) (by omega)
    omega
/-- a chance is one -/
theorem ANS_ch {M : Mm} (hI : SI M) {t : Int} {a b : Nat} (ha : a < 8) (hb : b < 8) (hz : 0 < M 8 a 1 ∧ 0 < M 8 b 1) (hab : 3 ≤ t → M 8 a 1 = M 8 b 1) {ks : List (Int × Int)} {tt th ft fl : Int} (h : ANS M t a b ks tt th ft fl) (p : Int → Bool) : (0 ≤ lsm p ks ∧ lsm p ks < 9223372036854775808) ∧ (0 < tt ∧ tt < 9223372036854775808) := by
  have ia := (hI a ha).1
  have ib := (hI b hb).1
  have p40 : (2 : Int) ^ 40 = 1099511627776 := by decide
  have hlt : ∀ (D : Int → Int) (st sh : Int) (n : Nat), n ≤ 20002 → (∀ v : Nat, 0 ≤ D v ∧ D v ≤ 1099511627776) → ks = tlst D st sh n → 0 ≤ lsm p ks ∧ lsm p ks < 9223372036854775808 := by
    intro D st sh n hn hD hk
    rw [hk]
    have h1 := lsm_tlst (fun v => (hD v).1) p st sh n
    have h2 := sm_in (f := fun v => D v) (n := n) (c := 1099511627776) (by decide) (fun j _ => hD j)
    have h3 : (n : Int) * 1099511627776 ≤ 20002 * 1099511627776 := Int.mul_le_mul_of_nonneg_right (by omega) (by decide)
    omega
  have hch : 0 < chI (M 8 a 1 + M 8 b 1) (M 8 a 1) ∧ chI (M 8 a 1 + M 8 b 1) (M 8 a 1) < 9223372036854775808 := by
    unfold chI
    rw [if_neg (by omega)]
    have h1 := chs_1 (n := (M 8 a 1 + M 8 b 1).toNat) (k := (M 8 a 1).toNat) (by omega)
    have h2 := chs_2 (M 8 a 1 + M 8 b 1).toNat (M 8 a 1).toNat
    have h3 := pow_le (a := (M 8 a 1 + M 8 b 1).toNat) (b := 40) (by omega)
    omega
  rcases h with ⟨ht, hk, htt, -⟩ | ⟨ht, hk, htt, -⟩ | ⟨ht, hk, htt, -⟩ | ⟨ht, ds, hds, hk, htt, -⟩ | ⟨ht, ds, hds, hk, htt, -⟩ | ⟨ht, hk, htt, -⟩
  · exact ⟨hlt _ _ _ _ (by omega) (fun v => cw_lR _ (by omega) _ _) hk, by rw [htt]; exact hch⟩
  · exact ⟨hlt _ _ _ _ (by omega) (fun v => cw_lR _ (by omega) _ _) hk, by rw [htt]; exact hch⟩
  · obtain ⟨f, hf⟩ := SO_ex (pol M a b) (M 8 a 1 + M 8 b 1).toNat
    have hm : 0 ≤ M 8 a 1 * M 8 b 1 ∧ M 8 a 1 * M 8 b 1 ≤ M 8 a 1 * 20 := ⟨Int.mul_nonneg (by omega) (by omega), Int.mul_le_mul_of_nonneg_left (by omega) (by omega)⟩
    exact ⟨hlt _ _ _ _ (by omega) (fun v => ⟨gpd_nn _ _ _, (gpd_lR f (by omega) _).2.1⟩) (hk f hf), by rw [htt]; exact hch⟩
  · have hlen : ds.length ≤ 20 := by have := nzl_len (dif M a b) (M 8 a 1).toNat; rw [← hds] at this; omega
    have h3 := sm_in (f := srk ds) (n := ds.length) (c := 41) (by decide) (fun j hj => by have := srk_in ds j; omega)
    have h4 := pow_le (a := ds.length) (b := 40) (by omega)
    have h5 : (0 : Int) < 2 ^ ds.length := Int.pow_pos (by decide)
    exact ⟨hlt _ _ _ _ (by omega) (fun v => swc_lR _ (by omega) _) hk, by rw [htt]; omega⟩
  · have hlen : ds.length ≤ 20 := by have := nzl_len (dif M a b) (M 8 a 1).toNat; rw [← hds] at this; omega
    have h4 := pow_le (a := ds.length) (b := 40) (by omega)
    have h5 : (0 : Int) < 2 ^ ds.length := Int.pow_pos (by decide)
    have hdg : ∀ q : Nat, q < ds.length → -1000 ≤ dg ds q ∧ dg ds q ≤ 1000 := fun q hq => by
      have := dg_in hI (a := a) (b := b) ha hb (hab (by omega)) (q := q) (by rw [← hds]; exact hq)
      rw [← hds] at this
      exact ⟨this.1, this.2.1⟩
    have h3 := sm_in (f := fun j => zab (dg ds j)) (n := ds.length) (c := 1000) (by decide) (fun j hj => zab_in (hdg j hj))
    exact ⟨hlt _ _ _ _ (by omega) (fun v => swc_lR _ (by omega) _) hk, by rw [htt]; omega⟩
  · have f1 := fac_1 (M 8 a 1).toNat
    have f2 : fac (M 8 a 1).toNat ≤ 2432902008176640000 := fac_le ⟨(M 8 a 1).toNat, by omega⟩
    refine ⟨?_, by rw [htt]; omega⟩
    rw [hk]
    have h1 := lsm_tlst (D := ordD (M 8 a 1)) (fun v => mh_nn _ _) p 2 (-(trn (M 8 a 1))) (trn (M 8 a 1) + 1).toNat
    have e : sm (fun v => ordD (M 8 a 1) (v : Int)) (trn (M 8 a 1) + 1).toNat = sm (fun v => mh (M 8 a 1).toNat (v : Int)) (trn (M 8 a 1) + 1).toNat := sm_cg fun j hj => by
      have := mh_sym (M 8 a 1).toNat (j : Int)
      rw [show (((M 8 a 1).toNat : Nat) : Int) = M 8 a 1 by omega] at this
      exact this
    have h2 := mh_sum (M 8 a 1).toNat (trn (M 8 a 1) + 1).toNat
    rw [e] at h1
    omega
def keepR (M M' : Mm) : Prop := ∀ g' : Nat, ¬ g' = 3 → ¬ g' = 4 → ¬ g' = 5 → ¬ g' = 9 → ¬ g' = 18 → ¬ g' = 19 → ¬ g' = 20 → ¬ g' = 21 → ¬ g' = 28 → ¬ g' = 29 → M' g' = M g'
/-- the class's answers are those that ANS tells -/
def cAns (M : Mm) (t : Int) (a b : Nat) (sd c tt : Int) : Prop := ∀ (ks : List (Int × Int)) (tt' th ft fl : Int), ANS M t a b ks tt' th ft fl → c = lsm (onP th ft fl sd) ks ∧ tt = tt'
def T_X10_ask : Ct := fun as M P => match as with
  | [.inr (some (g, s)), .inl (.inl t), .inl (.inl a), .inl (.inl b), .inl (.inl sd)] => g = 10 ∧ s = 0 ∧ iR t ∧ iR a ∧ iR b ∧ iR sd ∧ SI M ∧ CI M ∧ (0 ≤ M 7 0 3 ∧ M 7 0 3 ≤ 20) ∧ ((can M t a b ∧ (0 ≤ sd ∧ sd ≤ 2) ∧ M 7 0 3 < 20) → ∀ (M' : Mm) (c tt : Int), keepR M M' → cAns M t a.toNat b.toNat sd c tt → P (some (zi (M 7 0 3))) (stm (stm (stm (stm M' 24 0 (M 7 0 3).toNat c) 25 0 (M 7 0 3).toNat tt) 26 0 (M 7 0 3).toNat 0) 7 0 3 (M 7 0 3 + 1))) ∧ (¬ (can M t a b ∧ (0 ≤ sd ∧ sd ≤ 2) ∧ M 7 0 3 < 20) → P (some (zi (-1))) M)
  | _ => False
/-- a posed question, counted -/
theorem count_ok {M M1 : Mm} {t : Int} {a b : Nat} (hps : PSD M M1 t a b) {sd : Int} (hsd : iR sd) {P : Option AV → Mm → Prop} (hP : ∀ (M' : Mm) (c : Int), (∀ g' : Nat, ¬ g' = 9 → ¬ g' = 28 → ¬ g' = 29 → ¬ g' = 21 → M' g' = M1 g') → cAns M t a b sd c (M1 5 0 9) → P (some (zl c)) M') : T_X5_countBy [zr 5 0, zi sd] M1 P := by
  obtain ⟨h5, hQ, hm, hans⟩ := hps
  refine ⟨rfl, rfl, hsd, hQ, hm, fun M' dk fi la hqd hfr hb => hP M' _ hfr fun ks tt' th ft fl hA => ?_⟩
  obtain ⟨e8, e9, e12, e13, htie⟩ := hans ks tt' th ft fl hA
  obtain ⟨hnn, hprs⟩ := htie dk fi la hqd
  refine ⟨?_, e9⟩
  rw [← hprs]
  refine csm_prs hb.1 hnn (fun k => ?_) _
  rw [onB_P, e8, e12, e13]
theorem k_X10_ask (l : Launch) : MetT l yX10_ask cX10_ask 5 (some .int) 5 T_X10_ask := by
  refine MetT.of (by decide +kernel) (fun as M P h => by unfold T_X10_ask at h; split at h <;> first | (simp [elo]; done) | exact h.elim) (fun x as M P h C hR => ?_)
  unfold T_X10_ask at h
  split at h
  rotate_left
  · exact h.elim
  rename_i g s t a b sd
  obtain ⟨rfl, rfl, ht, ha, hb, hsd, hI, hC, h7, h1, h2⟩ := h
  refine B_X10_ask_0 C hR (k_X10_canBeAsked l) (by decide) (k_X10_isSide l) (by decide) (k_X7_isFull l) (by decide) (k_X5_pose l) (by decide) (k_X5_countBy l) (by decide) (k_X7_append l) (by decide) _ _ _ ?_
  simp only [c_iadd, c_isub, c_imul, c_ladd, c_lsub, c_lmul, c_ineg, c_lneg, c_ic, c_lc, c_iload, c_lload, c_aload, c_istore, c_astore, c_lstore, c_iinc, c_dup, c_dup2, c_goto, c_i2l, c_l2i, c_idiv, c_ldiv, c_lrem, c_lshl, c_gi, c_gl, c_gr, c_pi, c_pz, c_pl, c_iald, c_lald, c_bald, c_aald, c_iast, c_last, c_bast, c_callV, c_callS, c_mmax, c_mmin, c_mabs, c_mmaxl, c_mabsl, c_iret, c_zret, c_lret, c_vret, c_tsw, c_lsw, c_icmp_eq, c_icmp_ne, c_icmp_lt, c_icmp_ge, c_icmp_gt, c_icmp_le, c_if_eq, c_if_ne, c_if_lt, c_if_ge, c_if_gt, c_if_le, c_lcmp_eq, c_lcmp_ne, c_lcmp_lt, c_lcmp_ge, c_lcmp_gt, c_lcmp_le, c_lraw_eq, c_lraw_lt, c_lraw_ge, c_lraw_gt, c_lraw_le, acat, scat, tswP, pops, st1, st2, klo, pad, elo, List.getElem?_cons_zero, List.getElem?_cons_succ, List.getElem?_nil, List.set_cons_zero, List.set_cons_succ, List.set_nil, Option.toList_some, Option.toList_none, List.cons_append, List.nil_append, List.length_cons, List.length_nil, stc_ap, stm_ap, false_and, and_false, and_self, true_and, and_true, Nat.reduceEqDiff, reduceIte, al_12, al_13, al_14, al_15, al_16, al_17, al_18, al_19, al_20, al_21, al_22, al_23, al_24, al_25, al_26, al_27, al_28, al_29, al_30, al_31, al_32, al_33, al_34, al_35, al_36, al_37, al_38, al_39, al_40, al_41, al_42, al_43, al_44, al_45, al_46, al_47, al_48, al_49, al_50, al_51, al_52, al_53, al_54, al_55, at_12, at_13, at_14, at_15, at_16, at_17, at_18, at_19, at_20, at_21, at_22, at_23, at_24, at_25, at_26, at_27, at_28, at_29, at_30, at_31, at_32, at_33, at_34, at_35, at_36, at_37, at_38, at_39, at_40, at_41, at_42, at_43, at_44, at_45, at_46, at_47, at_48, at_49, at_50, at_51, at_52, at_53, at_54, at_55, cn_0, cn_1, cn_2, cn_3, cn_4, cn_5, cn_6, cn_7, cn_8, cn_9, cn_10, cn_11, cn_12, cn_13, cn_14, cn_15, cn_16, cn_17, cn_18, cn_19, cn_20, cn_21, cn_22, cn_23, cn_24, cn_25, cn_26, cn_27, cn_28, cn_29, cn_30, cn_31, cn_32, cn_33, cn_34, cn_35, cn_36, cn_37, cn_38, cn_39, cn_40, cn_41, cn_42, cn_43, cn_44, cn_45, cn_46, cn_47, cn_48, cn_49, cn_50, cn_51, cn_52, cn_53, cn_54, cn_55, Nat.reduceAdd, Nat.reduceLT, Nat.reduceLeDiff, Nat.lt_add_one, Nat.zero_lt_succ, Nat.reduceSub, ite_true, ite_false, reduceCtorEq, forall_const, Nat.reduceSucc, Nat.zero_add, Nat.add_zero, Nat.le_refl, Nat.zero_le, Nat.reducePow, Int.reduceNeg, Nat.reduceMul, eq_self, Int.cast_ofNat_Int, Int.toNat_natCast, iR, lR, Int.reduceEq, Int.reduceLT, Int.reduceLE, Int.reduceNe, not_false_eq_true, not_true_eq_false, false_implies, true_implies, Int.reduceAdd, Int.reduceSub, Int.reduceMul, Int.reduceToNat, implies_true, or_true, true_or, or_false, false_or, T_X10_canBeAsked, T_X10_isSide, T_X7_isFull, T_X7_append]
  refine ⟨ht, ha, hb, hI, fun hc => ⟨hsd, fun z => ⟨by omega, fun z2 => h2 fun q => by omega, fun z2 => ?_⟩, fun z => h2 fun q => z q.2.1⟩, fun hc => h2 fun q => hc q.1⟩
  obtain ⟨-, wt, -⟩ := id hc
  obtain ⟨wa, wb, -⟩ := id wt
  refine ⟨wa, wb, pose_ok hI hC hc fun M1 k1 hps => ⟨Nat.le_of_ble_eq_true rfl, count_ok hps hsd fun M2 c k2 hca => ?_⟩⟩
  simp only [c_iadd, c_isub, c_imul, c_ladd, c_lsub, c_lmul, c_ineg, c_lneg, c_ic, c_lc, c_iload, c_lload, c_aload, c_istore, c_astore, c_lstore, c_iinc, c_dup, c_dup2, c_goto, c_i2l, c_l2i, c_idiv, c_ldiv, c_lrem, c_lshl, c_gi, c_gl, c_gr, c_pi, c_pz, c_pl, c_iald, c_lald, c_bald, c_aald, c_iast, c_last, c_bast, c_callV, c_callS, c_mmax, c_mmin, c_mabs, c_mmaxl, c_mabsl, c_iret, c_zret, c_lret, c_vret, c_tsw, c_lsw, c_icmp_eq, c_icmp_ne, c_icmp_lt, c_icmp_ge, c_icmp_gt, c_icmp_le, c_if_eq, c_if_ne, c_if_lt, c_if_ge, c_if_gt, c_if_le, c_lcmp_eq, c_lcmp_ne, c_lcmp_lt, c_lcmp_ge, c_lcmp_gt, c_lcmp_le, c_lraw_eq, c_lraw_lt, c_lraw_ge, c_lraw_gt, c_lraw_le, acat, scat, tswP, pops, st1, st2, klo, pad, elo, List.getElem?_cons_zero, List.getElem?_cons_succ, List.getElem?_nil, List.set_cons_zero, List.set_cons_succ, List.set_nil, Option.toList_some, Option.toList_none, List.cons_append, List.nil_append, List.length_cons, List.length_nil, stc_ap, stm_ap, false_and, and_false, and_self, true_and, and_true, Nat.reduceEqDiff, reduceIte, al_12, al_13, al_14, al_15, al_16, al_17, al_18, al_19, al_20, al_21, al_22, al_23, al_24, al_25, al_26, al_27, al_28, al_29, al_30, al_31, al_32, al_33, al_34, al_35, al_36, al_37, al_38, al_39, al_40, al_41, al_42, al_43, al_44, al_45, al_46, al_47, al_48, al_49, al_50, al_51, al_52, al_53, al_54, al_55, at_12, at_13, at_14, at_15, at_16, at_17, at_18, at_19, at_20, at_21, at_22, at_23, at_24, at_25, at_26, at_27, at_28, at_29, at_30, at_31, at_32, at_33, at_34, at_35, at_36, at_37, at_38, at_39, at_40, at_41, at_42, at_43, at_44, at_45, at_46, at_47, at_48, at_49, at_50, at_51, at_52, at_53, at_54, at_55, cn_0, cn_1, cn_2, cn_3, cn_4, cn_5, cn_6, cn_7, cn_8, cn_9, cn_10, cn_11, cn_12, cn_13, cn_14, cn_15, cn_16, cn_17, cn_18, cn_19, cn_20, cn_21, cn_22, cn_23, cn_24, cn_25, cn_26, cn_27, cn_28, cn_29, cn_30, cn_31, cn_32, cn_33, cn_34, cn_35, cn_36, cn_37, cn_38, cn_39, cn_40, cn_41, cn_42, cn_43, cn_44, cn_45, cn_46, cn_47, cn_48, cn_49, cn_50, cn_51, cn_52, cn_53, cn_54, cn_55, Nat.reduceAdd, Nat.reduceLT, Nat.reduceLeDiff, Nat.lt_add_one, Nat.zero_lt_succ, Nat.reduceSub, ite_true, ite_false, reduceCtorEq, forall_const, Nat.reduceSucc, Nat.zero_add, Nat.add_zero, Nat.le_refl, Nat.zero_le, Nat.reducePow, Int.reduceNeg, Nat.reduceMul, eq_self, Int.cast_ofNat_Int, Int.toNat_natCast, iR, lR, Int.reduceEq, Int.reduceLT, Int.reduceLE, Int.reduceNe, not_false_eq_true, not_true_eq_false, false_implies, true_implies, Int.reduceAdd, Int.reduceSub, Int.reduceMul, Int.reduceToNat, implies_true, or_true, true_or, or_false, false_or]
  have e7 : M2 7 = M 7 := by rw [k2 7 (by decide) (by decide) (by decide) (by decide), k1 7 (by decide) (by decide) (by decide) (by decide) (by decide) (by decide) (by decide)]
  have e5 : M2 5 = M1 5 := k2 5 (by decide) (by decide) (by decide) (by decide)
  rw [e7, e5]
  exact ⟨by omega, h1 ⟨hc, z, z2⟩ M2 c _ (fun g' a1 a2 a3 a4 a5 a6 a7 a8 a9 a10 => (k2 g' a4 a9 a10 a8).trans (k1 g' a1 a2 a3 a5 a6 a7 a8)) hca⟩
