/-! CloudBenchModel: within, most -/
theorem hsm_neg {G : Int → Int → Int} (hG : ∀ X Y : Int, Y < 0 → G X Y = 0) (m : Nat) (X : Int) {Y : Int} (hY : Y < 0) : hsm G m X Y = 0 := by
  unfold hsm
  refine sm_z fun j _ => ?_
  rw [hG X _ (by omega), Int.mul_zero]
/-- choices ahead of a group -/
def gpI (f : Nat → Int) (n K : Nat) (m : Int) (e : Nat) (_X Y : Int) : Int := if Y < 0 then 0 else gpc f n K m e Y.toNat
theorem gpI_neg (f : Nat → Int) (n K : Nat) (m : Int) (e : Nat) : ∀ X Y : Int, Y < 0 → gpI f n K m e X Y = 0 := fun _ _ h => if_pos h
theorem gp_in {f : Nat → Int} {n K : Nat} {m : Int} {e s : Nat} (hes : e + s ≤ n) (hf : ∀ t, 1 ≤ t → t < s → f (e + t) = f (e + t - 1)) {t : Nat} (ht : t < s) : ∀ j : Nat, gpc f n K m (e + t) j = hsm (gpI f n K m e) t 0 j := by
  induction t with
  | zero =>
    intro j
    show gpc f n K m e j = 0 + chs 0 0 * gpI f n K m e 0 ((j : Int) - ((0 : Nat) : Int))
    rw [chs_z, Int.one_mul, Int.zero_add]
    unfold gpI
    rw [if_neg (by omega), show ((j : Int) - ((0 : Nat) : Int)).toNat = j by omega]
  | succ t ih =>
    intro j
    have ih := ih (by omega)
    rw [show e + (t + 1) = (e + t) + 1 by omega, gpc_s, if_neg]
    · unfold gpa
      rw [hsm_s, ih j]
      congr 1
      by_cases h0 : j = 0
      · subst h0
        rw [if_pos rfl, hsm_neg (gpI_neg f n K m e) _ _ (by omega)]
      · rw [if_neg h0, ih (j - 1), show ((j - 1 : Nat) : Int) = (j : Int) - 1 by omega]
    · rintro ⟨h1 | h1, -⟩
      · omega
      · exact h1 (by have := hf (t + 1) (by omega) ht; rw [show e + (t + 1) - 1 = e + t by omega] at this; exact this)
theorem gp_end {f : Nat → Int} {n K : Nat} {m : Int} {e s : Nat} (hs : 1 ≤ s) (hes : e + s ≤ n) (hf : ∀ t, 1 ≤ t → t < s → f (e + t) = f (e + t - 1)) (hend : e + s = n ∨ ¬ f (e + s) = f (e + s - 1)) (j : Nat) : gpc f n K m (e + s) j = if m < zab (n * j - K * (e + s : Nat)) then 0 else hsm (gpI f n K m e) s 0 j := by
  obtain ⟨t, rfl⟩ : ∃ t, s = t + 1 := ⟨s - 1, by omega⟩
  have ih := gp_in (K := K) (m := m) hes hf (t := t) (by omega)
  rw [show e + (t + 1) = (e + t) + 1 by omega] at hend ⊢
  rw [gpc_s]
  have e1 : gpa f n K m (e + t) j = hsm (gpI f n K m e) (t + 1) 0 j := by
    unfold gpa
    rw [hsm_s, ih j]
    congr 1
    by_cases h0 : j = 0
    · subst h0
      rw [if_pos rfl, hsm_neg (gpI_neg f n K m e) _ _ (by omega)]
    · rw [if_neg h0, ih (j - 1), show ((j - 1 : Nat) : Int) = (j : Int) - 1 by omega]
  rw [e1]
  by_cases c : m < zab (n * j - K * ((e + t + 1 : Nat) : Int))
  · rw [if_pos c, if_pos ⟨hend, c⟩]
  · rw [if_neg c, if_neg (fun z => c z.2)]
/-- f is the sorted row of A -/
def SO (f A : Nat → Int) (n : Nat) : Prop := srt f n ∧ ∀ v : Int, cle f v n = cle A v n
/-- the places of a group hold its number -/
theorem grp_blk {A f G : Nat → Int} {n : Nat} {gm : Int} (hA : ∀ j, j < n → -500 ≤ A j ∧ A j ≤ 500) (hg : grp A n G gm) (hs : SO f A n) {u : Nat} (hu : (u : Int) < gm) : (0 ≤ sm G u ∧ 1 ≤ G u ∧ sm G (u + 1) ≤ n ∧ sm G (u + 1) = sm G u + G u) ∧ (∀ j : Nat, sm G u ≤ j → (j : Int) < sm G (u + 1) → f j = vsq A n u) ∧ (∀ j : Nat, j < n → sm G (u + 1) ≤ j → vsq A n u < f j) := by
  obtain ⟨g1, g2, g3⟩ := hg
  obtain ⟨⟨p1, p0⟩, p2, p3⟩ := grp_sum hA g2 u (by omega)
  obtain ⟨⟨q1, q0⟩, q2, q3⟩ := grp_sum hA g2 (u + 1) (by omega)
  obtain ⟨h1, h2⟩ := g2 u hu
  obtain ⟨s1, s2, s3⟩ := vsq_step hA p1 h1
  have hc := cle_in A (vpr A n u) n
  have hc2 := cle_in A (vpr A n (u + 1)) n
  refine ⟨⟨by omega, by omega, by omega, sm_s G u⟩, fun j j1 j2 => ?_, fun j j1 j2 => ?_⟩
  · have hjn : j < n := by omega
    have k1 : f j ≤ vsq A n u := (srt_cle hs.1 _ hjn).mpr (by rw [hs.2]; rw [q2] at j2; exact j2)
    have k2 : ¬ f j ≤ vpr A n u := fun h => by
      have := (srt_cle hs.1 _ hjn).mp h
      rw [hs.2] at this
      omega
    apply Classical.byContradiction
    intro hne
    have e : cle A (f j) n = cle A (vpr A n u) n := by
      refine cle_iff fun k hk => ⟨fun h => ?_, fun h => by omega⟩
      apply Classical.byContradiction
      intro h3
      obtain ⟨i1, i2, i3, i4⟩ := nxv_in hA p1
      have := i3 k hk (by omega)
      rw [← vsq_n] at this
      omega
    have := (srt_cle hs.1 (f j) hjn).mp (Int.le_refl _)
    rw [hs.2, e] at this
    omega
  · apply Classical.byContradiction
    intro h
    have := (srt_cle hs.1 (vsq A n u) j1).mp (by omega)
    rw [hs.2] at this
    have e : cle A (vpr A n (u + 1)) n = cle A (vsq A n u) n := rfl
    omega
def T_X11_within : Ct := fun as M P => match as with
  | [.inr (some (g, s)), .inl (.inl na), .inl (.inl nb), .inl (.inl m)] => g = 11 ∧ s = 0 ∧ CE M ∧ (1 ≤ na ∧ na ≤ 20) ∧ (1 ≤ nb ∧ nb ≤ 20) ∧ (0 ≤ m ∧ m ≤ 400) ∧ ∃ (A f : Nat → Int), (∀ j, j < (na + nb).toNat → -500 ≤ A j ∧ A j ≤ 500) ∧ grp A (na + nb).toNat (M 41 0) (M 11 0 20) ∧ SO f A (na + nb).toNat ∧ ∀ W N : Nat → Int, P (some (zl (gpc f (na + nb).toNat na.toNat m (na + nb).toNat na.toNat))) (stc (stc M 42 0 W) 43 0 N)
  | _ => False
def wst (M : Mm) (W N : Nat → Int) : Mm := stc (stc M 42 0 W) 43 0 N
theorem wst_42 (M : Mm) (W N : Nat → Int) (k : Nat) (v : Int) : stm (wst M W N) 42 0 k v = wst M (fun j => if j = k then v else W j) N := by
  unfold wst
  rw [stc_cm _ 42 0 43 0 W N (by decide), stm_on, stc_cm _ 43 0 42 0 N _ (by decide)]
theorem wst_43 (M : Mm) (W N : Nat → Int) (k : Nat) (v : Int) : stm (wst M W N) 43 0 k v = wst M W (fun j => if j = k then v else N j) := by
  unfold wst
  rw [stm_on]
theorem wst_r42 (M : Mm) (W N : Nat → Int) : wst M W N 42 0 = W := by
  unfold wst
  rw [stc_ne _ _ _ _ (by decide), stc_self]
theorem wst_r43 (M : Mm) (W N : Nat → Int) : wst M W N 43 0 = N := by
  unfold wst
  rw [stc_self]
theorem wst_o (M : Mm) (W N : Nat → Int) {g : Nat} (h1 : ¬ g = 42) (h2 : ¬ g = 43) : wst M W N g = M g := by
  unfold wst
  rw [stc_ne _ _ _ _ h2, stc_ne _ _ _ _ h1]
theorem wst_r41 (M : Mm) (W N : Nat → Int) : wst M W N 41 = M 41 := wst_o M W N (by decide) (by decide)
theorem wst_r33 (M : Mm) (W N : Nat → Int) : wst M W N 33 = M 33 := wst_o M W N (by decide) (by decide)
theorem wst_r11 (M : Mm) (W N : Nat → Int) : wst M W N 11 = M 11 := wst_o M W N (by decide) (by decide)
theorem k_X11_within (l : Launch) : MetT l yX11_within cX11_within 9 (some .long) 1 T_X11_within := by
  refine MetT.of (by decide +kernel) (fun as M P h => by unfold T_X11_within at h; split at h <;> first | (simp [elo]; done) | exact h.elim) (fun x as M P h C hR => ?_)
  unfold T_X11_within at h
  split at h
  rotate_left
  · exact h.elim
  rename_i g s na nb m
  obtain ⟨rfl, rfl, hCE, ha, hb, hm, A, f, hA, hg, hso, hP⟩ := h
  obtain ⟨K, hK⟩ : ∃ K : Nat, na = K := ⟨na.toNat, by omega⟩
  obtain ⟨B, hB⟩ : ∃ B : Nat, nb = B := ⟨nb.toNat, by omega⟩
  subst hK
  subst hB
  rw [show ((K : Int) + B).toNat = K + B by omega] at hA hg hso hP
  rw [show ((K : Int)).toNat = K by omega] at hP
  obtain ⟨n, hn⟩ : ∃ n : Nat, n = K + B := ⟨_, rfl⟩
  rw [← hn] at hA hg hso hP
  obtain ⟨G, hG⟩ : ∃ G : Nat → Int, G = M 41 0 := ⟨_, rfl⟩
  have hGi : ∀ i : Nat, M 41 0 i = G i := fun i => by rw [hG]
  rw [← hG] at hg
  obtain ⟨gm, hgm⟩ : ∃ gm : Int, gm = M 11 0 20 := ⟨_, rfl⟩
  rw [← hgm] at hg
  have hgb := hg.1
  have hP : ∀ W N : Nat → Int, P (some (zl (gpc f n K m n K))) (wst M W N) := hP
  refine B_X11_within_0 C _ _ _ ?_
  simp only [c_iadd, c_isub, c_imul, c_ladd, c_lsub, c_lmul, c_ineg, c_lneg, c_ic, c_lc, c_iload, c_lload, c_aload, c_istore, c_astore, c_lstore, c_iinc, c_dup, c_dup2, c_goto, c_i2l, c_l2i, c_idiv, c_ldiv, c_lrem, c_lshl, c_gi, c_gl, c_gr, c_pi, c_pz, c_pl, c_iald, c_lald, c_bald, c_aald, c_iast, c_last, c_bast, c_callV, c_callS, c_mmax, c_mmin, c_mabs, c_mmaxl, c_mabsl, c_iret, c_zret, c_lret, c_vret, c_tsw, c_lsw, c_icmp_eq, c_icmp_ne, c_icmp_lt, c_icmp_ge, c_icmp_gt, c_icmp_le, c_if_eq, c_if_ne, c_if_lt, c_if_ge, c_if_gt, c_if_le, c_lcmp_eq, c_lcmp_ne, c_lcmp_lt, c_lcmp_ge, c_lcmp_gt, c_lcmp_le, c_lraw_eq, c_lraw_lt, c_lraw_ge, c_lraw_gt, c_lraw_le, acat, scat, tswP, pops, st1, st2, klo, pad, elo, List.getElem?_cons_zero, List.getElem?_cons_succ, List.getElem?_nil, List.set_cons_zero, List.set_cons_succ, List.set_nil, Option.toList_some, Option.toList_none, List.cons_append, List.nil_append, List.length_cons, List.length_nil, stc_ap, stm_ap, false_and, and_false, and_self, true_and, and_true, Nat.reduceEqDiff, reduceIte, al_12, al_13, al_14, al_15, al_16, al_17, al_18, al_19, al_20, al_21, al_22, al_23, al_24, al_25, al_26, al_27, al_28, al_29, al_30, al_31, al_32, al_33, al_34, al_35, al_36, al_37, al_38, al_39, al_40, al_41, al_42, al_43, al_44, al_45, al_46, al_47, al_48, al_49, al_50, al_51, al_52, al_53, al_54, al_55, at_12, at_13, at_14, at_15, at_16, at_17, at_18, at_19, at_20, at_21, at_22, at_23, at_24, at_25, at_26, at_27, at_28, at_29, at_30, at_31, at_32, at_33, at_34, at_35, at_36, at_37, at_38, at_39, at_40, at_41, at_42, at_43, at_44, at_45, at_46, at_47, at_48, at_49, at_50, at_51, at_52, at_53, at_54, at_55, cn_0, cn_1, cn_2, cn_3, cn_4, cn_5, cn_6, cn_7, cn_8, cn_9, cn_10, cn_11, cn_12, cn_13, cn_14, cn_15, cn_16, cn_17, cn_18, cn_19, cn_20, cn_21, cn_22, cn_23, cn_24, cn_25, cn_26, cn_27, cn_28, cn_29, cn_30, cn_31, cn_32, cn_33, cn_34, cn_35, cn_36, cn_37, cn_38, cn_39, cn_40, cn_41, cn_42, cn_43, cn_44, cn_45, cn_46, cn_47, cn_48, cn_49, cn_50, cn_51, cn_52, cn_53, cn_54, cn_55, Nat.reduceAdd, Nat.reduceLT, Nat.reduceLeDiff, Nat.lt_add_one, Nat.zero_lt_succ, Nat.reduceSub, ite_true, ite_false, reduceCtorEq, forall_const, Nat.reduceSucc, Nat.zero_add, Nat.add_zero, Nat.le_refl, Nat.zero_le, Nat.reducePow, Int.reduceNeg, Nat.reduceMul, eq_self, Int.cast_ofNat_Int, Int.toNat_natCast, iR, lR, Int.reduceEq, Int.reduceLT, Int.reduceLE, Int.reduceNe, not_false_eq_true, not_true_eq_false, false_implies, true_implies, Int.reduceAdd, Int.reduceSub, Int.reduceMul, Int.reduceToNat, implies_true, or_true, true_or, or_false, false_or]
  refine loopU ((K : Int) + 1) (fun i M' => (0 ≤ i ∧ i ≤ K + 1) ∧ ∃ W N : Nat → Int, M' = wst M W N ∧ ∀ j : Nat, (j : Int) < i → W j = gpc f n K m 0 j) (fun i M' => J x 3 [some (zr 11 0), some (zi K), some (zi B), some (zi m), some (zi i), none, none, none, none] [] M') ?_ 0 _ ⟨by omega, M 42 0, M 43 0, ?_, fun j hj => by omega⟩
  rotate_left
  · unfold wst
    rw [stc_id, stc_id]
  rintro i M' ⟨hi, W, N, rfl, hW⟩ ih
  have h25 : ∀ w : Int, i ≤ K → w = gpc f n K m 0 i.toNat → J x 25 [some (zr 11 0), some (zi K), some (zi B), some (zi m), some (zi i), none, none, none, none] [zl w, zi i, zr 42 0] (wst M W N) := by
    intro w hle hw
    refine B_X11_within_25 C _ _ _ ?_
    simp only [c_iadd, c_isub, c_imul, c_ladd, c_lsub, c_lmul, c_ineg, c_lneg, c_ic, c_lc, c_iload, c_lload, c_aload, c_istore, c_astore, c_lstore, c_iinc, c_dup, c_dup2, c_goto, c_i2l, c_l2i, c_idiv, c_ldiv, c_lrem, c_lshl, c_gi, c_gl, c_gr, c_pi, c_pz, c_pl, c_iald, c_lald, c_bald, c_aald, c_iast, c_last, c_bast, c_callV, c_callS, c_mmax, c_mmin, c_mabs, c_mmaxl, c_mabsl, c_iret, c_zret, c_lret, c_vret, c_tsw, c_lsw, c_icmp_eq, c_icmp_ne, c_icmp_lt, c_icmp_ge, c_icmp_gt, c_icmp_le, c_if_eq, c_if_ne, c_if_lt, c_if_ge, c_if_gt, c_if_le, c_lcmp_eq, c_lcmp_ne, c_lcmp_lt, c_lcmp_ge, c_lcmp_gt, c_lcmp_le, c_lraw_eq, c_lraw_lt, c_lraw_ge, c_lraw_gt, c_lraw_le, acat, scat, tswP, pops, st1, st2, klo, pad, elo, List.getElem?_cons_zero, List.getElem?_cons_succ, List.getElem?_nil, List.set_cons_zero, List.set_cons_succ, List.set_nil, Option.toList_some, Option.toList_none, List.cons_append, List.nil_append, List.length_cons, List.length_nil, stc_ap, stm_ap, false_and, and_false, and_self, true_and, and_true, Nat.reduceEqDiff, reduceIte, al_12, al_13, al_14, al_15, al_16, al_17, al_18, al_19, al_20, al_21, al_22, al_23, al_24, al_25, al_26, al_27, al_28, al_29, al_30, al_31, al_32, al_33, al_34, al_35, al_36, al_37, al_38, al_39, al_40, al_41, al_42, al_43, al_44, al_45, al_46, al_47, al_48, al_49, al_50, al_51, al_52, al_53, al_54, al_55, at_12, at_13, at_14, at_15, at_16, at_17, at_18, at_19, at_20, at_21, at_22, at_23, at_24, at_25, at_26, at_27, at_28, at_29, at_30, at_31, at_32, at_33, at_34, at_35, at_36, at_37, at_38, at_39, at_40, at_41, at_42, at_43, at_44, at_45, at_46, at_47, at_48, at_49, at_50, at_51, at_52, at_53, at_54, at_55, cn_0, cn_1, cn_2, cn_3, cn_4, cn_5, cn_6, cn_7, cn_8, cn_9, cn_10, cn_11, cn_12, cn_13, cn_14, cn_15, cn_16, cn_17, cn_18, cn_19, cn_20, cn_21, cn_22, cn_23, cn_24, cn_25, cn_26, cn_27, cn_28, cn_29, cn_30, cn_31, cn_32, cn_33, cn_34, cn_35, cn_36, cn_37, cn_38, cn_39, cn_40, cn_41, cn_42, cn_43, cn_44, cn_45, cn_46, cn_47, cn_48, cn_49, cn_50, cn_51, cn_52, cn_53, cn_54, cn_55, Nat.reduceAdd, Nat.reduceLT, Nat.reduceLeDiff, Nat.lt_add_one, Nat.zero_lt_succ, Nat.reduceSub, ite_true, ite_false, reduceCtorEq, forall_const, Nat.reduceSucc, Nat.zero_add, Nat.add_zero, Nat.le_refl, Nat.zero_le, Nat.reducePow, Int.reduceNeg, Nat.reduceMul, eq_self, Int.cast_ofNat_Int, Int.toNat_natCast, iR, lR, Int.reduceEq, Int.reduceLT, Int.reduceLE, Int.reduceNe, not_false_eq_true, not_true_eq_false, false_implies, true_implies, Int.reduceAdd, Int.reduceSub, Int.reduceMul, Int.reduceToNat, implies_true, or_true, true_or, or_false, false_or, wst_42]
    refine ⟨by omega, ih (by omega) _ ⟨by omega, _, N, rfl, fun j hj => ?_⟩⟩
    show (if j = i.toNat then w else W j) = _
    by_cases e : j = i.toNat
    · rw [if_pos e, hw, e]
    · rw [if_neg e]; exact hW j (by omega)
  refine B_X11_within_3 C _ _ _ ?_
  simp only [c_iadd, c_isub, c_imul, c_ladd, c_lsub, c_lmul, c_ineg, c_lneg, c_ic, c_lc, c_iload, c_lload, c_aload, c_istore, c_astore, c_lstore, c_iinc, c_dup, c_dup2, c_goto, c_i2l, c_l2i, c_idiv, c_ldiv, c_lrem, c_lshl, c_gi, c_gl, c_gr, c_pi, c_pz, c_pl, c_iald, c_lald, c_bald, c_aald, c_iast, c_last, c_bast, c_callV, c_callS, c_mmax, c_mmin, c_mabs, c_mmaxl, c_mabsl, c_iret, c_zret, c_lret, c_vret, c_tsw, c_lsw, c_icmp_eq, c_icmp_ne, c_icmp_lt, c_icmp_ge, c_icmp_gt, c_icmp_le, c_if_eq, c_if_ne, c_if_lt, c_if_ge, c_if_gt, c_if_le, c_lcmp_eq, c_lcmp_ne, c_lcmp_lt, c_lcmp_ge, c_lcmp_gt, c_lcmp_le, c_lraw_eq, c_lraw_lt, c_lraw_ge, c_lraw_gt, c_lraw_le, acat, scat, tswP, pops, st1, st2, klo, pad, elo, List.getElem?_cons_zero, List.getElem?_cons_succ, List.getElem?_nil, List.set_cons_zero, List.set_cons_succ, List.set_nil, Option.toList_some, Option.toList_none, List.cons_append, List.nil_append, List.length_cons, List.length_nil, stc_ap, stm_ap, false_and, and_false, and_self, true_and, and_true, Nat.reduceEqDiff, reduceIte, al_12, al_13, al_14, al_15, al_16, al_17, al_18, al_19, al_20, al_21, al_22, al_23, al_24, al_25, al_26, al_27, al_28, al_29, al_30, al_31, al_32, al_33, al_34, al_35, al_36, al_37, al_38, al_39, al_40, al_41, al_42, al_43, al_44, al_45, al_46, al_47, al_48, al_49, al_50, al_51, al_52, al_53, al_54, al_55, at_12, at_13, at_14, at_15, at_16, at_17, at_18, at_19, at_20, at_21, at_22, at_23, at_24, at_25, at_26, at_27, at_28, at_29, at_30, at_31, at_32, at_33, at_34, at_35, at_36, at_37, at_38, at_39, at_40, at_41, at_42, at_43, at_44, at_45, at_46, at_47, at_48, at_49, at_50, at_51, at_52, at_53, at_54, at_55, cn_0, cn_1, cn_2, cn_3, cn_4, cn_5, cn_6, cn_7, cn_8, cn_9, cn_10, cn_11, cn_12, cn_13, cn_14, cn_15, cn_16, cn_17, cn_18, cn_19, cn_20, cn_21, cn_22, cn_23, cn_24, cn_25, cn_26, cn_27, cn_28, cn_29, cn_30, cn_31, cn_32, cn_33, cn_34, cn_35, cn_36, cn_37, cn_38, cn_39, cn_40, cn_41, cn_42, cn_43, cn_44, cn_45, cn_46, cn_47, cn_48, cn_49, cn_50, cn_51, cn_52, cn_53, cn_54, cn_55, Nat.reduceAdd, Nat.reduceLT, Nat.reduceLeDiff, Nat.lt_add_one, Nat.zero_lt_succ, Nat.reduceSub, ite_true, ite_false, reduceCtorEq, forall_const, Nat.reduceSucc, Nat.zero_add, Nat.add_zero, Nat.le_refl, Nat.zero_le, Nat.reducePow, Int.reduceNeg, Nat.reduceMul, eq_self, Int.cast_ofNat_Int, Int.toNat_natCast, iR, lR, Int.reduceEq, Int.reduceLT, Int.reduceLE, Int.reduceNe, not_false_eq_true, not_true_eq_false, false_implies, true_implies, Int.reduceAdd, Int.reduceSub, Int.reduceMul, Int.reduceToNat, implies_true, or_true, true_or, or_false, false_or]
  refine ⟨by omega, by omega, fun z => ?_, fun z => ⟨by omega, fun z2 => h25 0 (by omega) ?_, fun z2 => h25 1 (by omega) ?_⟩⟩
  rotate_left
  · rw [show i.toNat = (i.toNat - 1) + 1 by omega]; rfl
  · rw [show i.toNat = 0 by omega]; rfl
  have hW : ∀ j : Nat, j ≤ K → W j = gpc f n K m 0 j := fun j hj => hW j (by omega)
  clear ih h25
  -- group after group
  suffices hh : ∀ (u : Int) (M' : Mm), ((0 ≤ u ∧ u ≤ gm) ∧ ∃ W N : Nat → Int, M' = wst M W N ∧ ∀ j : Nat, j ≤ K → W j = if sm G u.toNat - j ≤ B then gpc f n K m (sm G u.toNat).toNat j else 0) → J x 38 [some (zr 11 0), some (zi K), some (zi B), some (zi m), some (zi (sm G u.toNat)), some (zi u), none, none, none] [] M' by
    refine hh 0 _ ⟨by omega, W, N, rfl, fun j hj => ?_⟩
    show W j = if (0 : Int) - j ≤ B then gpc f n K m 0 j else 0
    rw [if_pos (by omega)]
    exact hW j hj
  clear hW
  refine loopU gm _ _ ?_
  rintro u M' ⟨hu, W, N, rfl, hW⟩ ih
  refine B_X11_within_38 C hR _ _ _ ?_
  simp only [c_iadd, c_isub, c_imul, c_ladd, c_lsub, c_lmul, c_ineg, c_lneg, c_ic, c_lc, c_iload, c_lload, c_aload, c_istore, c_astore, c_lstore, c_iinc, c_dup, c_dup2, c_goto, c_i2l, c_l2i, c_idiv, c_ldiv, c_lrem, c_lshl, c_gi, c_gl, c_gr, c_pi, c_pz, c_pl, c_iald, c_lald, c_bald, c_aald, c_iast, c_last, c_bast, c_callV, c_callS, c_mmax, c_mmin, c_mabs, c_mmaxl, c_mabsl, c_iret, c_zret, c_lret, c_vret, c_tsw, c_lsw, c_icmp_eq, c_icmp_ne, c_icmp_lt, c_icmp_ge, c_icmp_gt, c_icmp_le, c_if_eq, c_if_ne, c_if_lt, c_if_ge, c_if_gt, c_if_le, c_lcmp_eq, c_lcmp_ne, c_lcmp_lt, c_lcmp_ge, c_lcmp_gt, c_lcmp_le, c_lraw_eq, c_lraw_lt, c_lraw_ge, c_lraw_gt, c_lraw_le, acat, scat, tswP, pops, st1, st2, klo, pad, elo, List.getElem?_cons_zero, List.getElem?_cons_succ, List.getElem?_nil, List.set_cons_zero, List.set_cons_succ, List.set_nil, Option.toList_some, Option.toList_none, List.cons_append, List.nil_append, List.length_cons, List.length_nil, stc_ap, stm_ap, false_and, and_false, and_self, true_and, and_true, Nat.reduceEqDiff, reduceIte, al_12, al_13, al_14, al_15, al_16, al_17, al_18, al_19, al_20, al_21, al_22, al_23, al_24, al_25, al_26, al_27, al_28, al_29, al_30, al_31, al_32, al_33, al_34, al_35, al_36, al_37, al_38, al_39, al_40, al_41, al_42, al_43, al_44, al_45, al_46, al_47, al_48, al_49, al_50, al_51, al_52, al_53, al_54, al_55, at_12, at_13, at_14, at_15, at_16, at_17, at_18, at_19, at_20, at_21, at_22, at_23, at_24, at_25, at_26, at_27, at_28, at_29, at_30, at_31, at_32, at_33, at_34, at_35, at_36, at_37, at_38, at_39, at_40, at_41, at_42, at_43, at_44, at_45, at_46, at_47, at_48, at_49, at_50, at_51, at_52, at_53, at_54, at_55, cn_0, cn_1, cn_2, cn_3, cn_4, cn_5, cn_6, cn_7, cn_8, cn_9, cn_10, cn_11, cn_12, cn_13, cn_14, cn_15, cn_16, cn_17, cn_18, cn_19, cn_20, cn_21, cn_22, cn_23, cn_24, cn_25, cn_26, cn_27, cn_28, cn_29, cn_30, cn_31, cn_32, cn_33, cn_34, cn_35, cn_36, cn_37, cn_38, cn_39, cn_40, cn_41, cn_42, cn_43, cn_44, cn_45, cn_46, cn_47, cn_48, cn_49, cn_50, cn_51, cn_52, cn_53, cn_54, cn_55, Nat.reduceAdd, Nat.reduceLT, Nat.reduceLeDiff, Nat.lt_add_one, Nat.zero_lt_succ, Nat.reduceSub, ite_true, ite_false, reduceCtorEq, forall_const, Nat.reduceSucc, Nat.zero_add, Nat.add_zero, Nat.le_refl, Nat.zero_le, Nat.reducePow, Int.reduceNeg, Nat.reduceMul, eq_self, Int.cast_ofNat_Int, Int.toNat_natCast, iR, lR, Int.reduceEq, Int.reduceLT, Int.reduceLE, Int.reduceNe, not_false_eq_true, not_true_eq_false, false_implies, true_implies, Int.reduceAdd, Int.reduceSub, Int.reduceMul, Int.reduceToNat, implies_true, or_true, true_or, or_false, false_or, wst_r42, wst_r41, wst_r11, hGi, ← hgm]
  refine ⟨by omega, by omega, fun y => ⟨by omega, ?_⟩, fun y => ⟨by omega, ?_⟩⟩
  · have e1 : sm G u.toNat = n := by
      have h1 := grp_sum hA hg.2.1 u.toNat (by omega)
      have h2 := hg.2.2
      rw [show gm.toNat = u.toNat by omega, vsq_n] at h2
      obtain ⟨i1, i2, i3, i4⟩ := nxv_in hA h1.1.1
      rw [h1.2.1]
      refine cle_all fun j hj => ?_
      apply Classical.byContradiction
      intro h3
      have := i3 j hj (by omega)
      have := hA j hj
      omega
    have := hW K (Nat.le_refl K)
    rw [e1, if_pos (by omega), show ((n : Int)).toNat = n by omega] at this
    rw [this]
    exact hP W N
  obtain ⟨⟨b1, b2, b3', b4⟩, b5, b6⟩ := grp_blk hA hg hso (u := u.toNat) (by omega)
  obtain ⟨e, he⟩ : ∃ e : Nat, sm G u.toNat = e := ⟨(sm G u.toNat).toNat, by omega⟩
  obtain ⟨t, ht⟩ : ∃ t : Nat, G u.toNat = t := ⟨(G u.toNat).toNat, by omega⟩
  rw [he] at hW b1 b4 b5 ⊢
  rw [b4, ht] at b3' b5 b6
  rw [ht] at b2 ⊢
  rw [show ((e : Int)).toNat = e by omega] at hW
  have hfl : ∀ q, 1 ≤ q → q < t → f (e + q) = f (e + q - 1) := fun q h1 h2 => by
    rw [b5 (e + q) (by omega) (by omega), b5 (e + q - 1) (by omega) (by omega)]
  have hen : e + t = n ∨ ¬ f (e + t) = f (e + t - 1) := by
    by_cases h : e + t = n
    · exact Or.inl h
    · refine Or.inr fun h2 => ?_
      have h3 := b6 (e + t) (by omega) (by omega)
      rw [h2, b5 (e + t - 1) (by omega) (by omega)] at h3
      omega
  have hge := gp_end (K := K) (m := m) (f := f) (n := n) (e := e) (s := t) (by omega) (by omega) hfl hen
  have hnb : n - K = B := by omega
  -- one more group
  refine loopU ((K : Int) + 1) (fun i M' => (0 ≤ i ∧ i ≤ K + 1) ∧ ∃ N : Nat → Int, M' = wst M W N ∧ ∀ j : Nat, (j : Int) < i → N j = if ((e + t : Nat) : Int) - j ≤ B then gpc f n K m (e + t) j else 0) (fun i M' => J x 62 [some (zr 11 0), some (zi K), some (zi B), some (zi m), some (zi ((e : Int) + t)), some (zi u), some (zi i), none, none] [] M') ?_ 0 _ ⟨by omega, N, rfl, fun j hj => by omega⟩
  rintro i M' ⟨hi, N, rfl, hN⟩ ih2
  have h180 : ∀ (N2 : Nat → Int) (z7 z8 : Option AV), i ≤ K → (∀ j : Nat, (j : Int) < i → N2 j = N j) → N2 i.toNat = (if ((e + t : Nat) : Int) - i ≤ B then gpc f n K m (e + t) i.toNat else 0) → J x 180 [some (zr 11 0), some (zi K), some (zi B), some (zi m), some (zi ((e : Int) + t)), some (zi u), some (zi i), z7, z8] [] (wst M W N2) := by
    intro N2 z7 z8 hle h1 h2
    refine B_X11_within_180 C _ _ _ ?_
    simp only [c_iadd, c_isub, c_imul, c_ladd, c_lsub, c_lmul, c_ineg, c_lneg, c_ic, c_lc, c_iload, c_lload, c_aload, c_istore, c_astore, c_lstore, c_iinc, c_dup, c_dup2, c_goto, c_i2l, c_l2i, c_idiv, c_ldiv, c_lrem, c_lshl, c_gi, c_gl, c_gr, c_pi, c_pz, c_pl, c_iald, c_lald, c_bald, c_aald, c_iast, c_last, c_bast, c_callV, c_callS, c_mmax, c_mmin, c_mabs, c_mmaxl, c_mabsl, c_iret, c_zret, c_lret, c_vret, c_tsw, c_lsw, c_icmp_eq, c_icmp_ne, c_icmp_lt, c_icmp_ge, c_icmp_gt, c_icmp_le, c_if_eq, c_if_ne, c_if_lt, c_if_ge, c_if_gt, c_if_le, c_lcmp_eq, c_lcmp_ne, c_lcmp_lt, c_lcmp_ge, c_lcmp_gt, c_lcmp_le, c_lraw_eq, c_lraw_lt, c_lraw_ge, c_lraw_gt, c_lraw_le, acat, scat, tswP, pops, st1, st2, klo, pad, elo, List.getElem?_cons_zero, List.getElem?_cons_succ, List.getElem?_nil, List.set_cons_zero, List.set_cons_succ, List.set_nil, Option.toList_some, Option.toList_none, List.cons_append, List.nil_append, List.length_cons, List.length_nil, stc_ap, stm_ap, false_and, and_false, and_self, true_and, and_true, Nat.reduceEqDiff, reduceIte, al_12, al_13, al_14, al_15, al_16, al_17, al_18, al_19, al_20, al_21, al_22, al_23, al_24, al_25, al_26, al_27, al_28, al_29, al_30, al_31, al_32, al_33, al_34, al_35, al_36, al_37, al_38, al_39, al_40, al_41, al_42, al_43, al_44, al_45, al_46, al_47, al_48, al_49, al_50, al_51, al_52, al_53, al_54, al_55, at_12, at_13, at_14, at_15, at_16, at_17, at_18, at_19, at_20, at_21, at_22, at_23, at_24, at_25, at_26, at_27, at_28, at_29, at_30, at_31, at_32, at_33, at_34, at_35, at_36, at_37, at_38, at_39, at_40, at_41, at_42, at_43, at_44, at_45, at_46, at_47, at_48, at_49, at_50, at_51, at_52, at_53, at_54, at_55, cn_0, cn_1, cn_2, cn_3, cn_4, cn_5, cn_6, cn_7, cn_8, cn_9, cn_10, cn_11, cn_12, cn_13, cn_14, cn_15, cn_16, cn_17, cn_18, cn_19, cn_20, cn_21, cn_22, cn_23, cn_24, cn_25, cn_26, cn_27, cn_28, cn_29, cn_30, cn_31, cn_32, cn_33, cn_34, cn_35, cn_36, cn_37, cn_38, cn_39, cn_40, cn_41, cn_42, cn_43, cn_44, cn_45, cn_46, cn_47, cn_48, cn_49, cn_50, cn_51, cn_52, cn_53, cn_54, cn_55, Nat.reduceAdd, Nat.reduceLT, Nat.reduceLeDiff, Nat.lt_add_one, Nat.zero_lt_succ, Nat.reduceSub, ite_true, ite_false, reduceCtorEq, forall_const, Nat.reduceSucc, Nat.zero_add, Nat.add_zero, Nat.le_refl, Nat.zero_le, Nat.reducePow, Int.reduceNeg, Nat.reduceMul, eq_self, Int.cast_ofNat_Int, Int.toNat_natCast, iR, lR, Int.reduceEq, Int.reduceLT, Int.reduceLE, Int.reduceNe, not_false_eq_true, not_true_eq_false, false_implies, true_implies, Int.reduceAdd, Int.reduceSub, Int.reduceMul, Int.reduceToNat, implies_true, or_true, true_or, or_false, false_or]
    refine J_fgt [true, true, true, true, true, true, true, false, false] (ih2 (by omega) _ ⟨by omega, N2, rfl, fun j hj => ?_⟩)
    by_cases e1 : j = i.toNat
    · rw [e1, h2, show ((i.toNat : Nat) : Int) = i by omega]
    · rw [h1 j (by omega)]; exact hN j (by omega)
  refine B_X11_within_62 C (k_X11_sizeOf l) (by decide) _ _ _ ?_
  simp only [c_iadd, c_isub, c_imul, c_ladd, c_lsub, c_lmul, c_ineg, c_lneg, c_ic, c_lc, c_iload, c_lload, c_aload, c_istore, c_astore, c_lstore, c_iinc, c_dup, c_dup2, c_goto, c_i2l, c_l2i, c_idiv, c_ldiv, c_lrem, c_lshl, c_gi, c_gl, c_gr, c_pi, c_pz, c_pl, c_iald, c_lald, c_bald, c_aald, c_iast, c_last, c_bast, c_callV, c_callS, c_mmax, c_mmin, c_mabs, c_mmaxl, c_mabsl, c_iret, c_zret, c_lret, c_vret, c_tsw, c_lsw, c_icmp_eq, c_icmp_ne, c_icmp_lt, c_icmp_ge, c_icmp_gt, c_icmp_le, c_if_eq, c_if_ne, c_if_lt, c_if_ge, c_if_gt, c_if_le, c_lcmp_eq, c_lcmp_ne, c_lcmp_lt, c_lcmp_ge, c_lcmp_gt, c_lcmp_le, c_lraw_eq, c_lraw_lt, c_lraw_ge, c_lraw_gt, c_lraw_le, acat, scat, tswP, pops, st1, st2, klo, pad, elo, List.getElem?_cons_zero, List.getElem?_cons_succ, List.getElem?_nil, List.set_cons_zero, List.set_cons_succ, List.set_nil, Option.toList_some, Option.toList_none, List.cons_append, List.nil_append, List.length_cons, List.length_nil, stc_ap, stm_ap, false_and, and_false, and_self, true_and, and_true, Nat.reduceEqDiff, reduceIte, al_12, al_13, al_14, al_15, al_16, al_17, al_18, al_19, al_20, al_21, al_22, al_23, al_24, al_25, al_26, al_27, al_28, al_29, al_30, al_31, al_32, al_33, al_34, al_35, al_36, al_37, al_38, al_39, al_40, al_41, al_42, al_43, al_44, al_45, al_46, al_47, al_48, al_49, al_50, al_51, al_52, al_53, al_54, al_55, at_12, at_13, at_14, at_15, at_16, at_17, at_18, at_19, at_20, at_21, at_22, at_23, at_24, at_25, at_26, at_27, at_28, at_29, at_30, at_31, at_32, at_33, at_34, at_35, at_36, at_37, at_38, at_39, at_40, at_41, at_42, at_43, at_44, at_45, at_46, at_47, at_48, at_49, at_50, at_51, at_52, at_53, at_54, at_55, cn_0, cn_1, cn_2, cn_3, cn_4, cn_5, cn_6, cn_7, cn_8, cn_9, cn_10, cn_11, cn_12, cn_13, cn_14, cn_15, cn_16, cn_17, cn_18, cn_19, cn_20, cn_21, cn_22, cn_23, cn_24, cn_25, cn_26, cn_27, cn_28, cn_29, cn_30, cn_31, cn_32, cn_33, cn_34, cn_35, cn_36, cn_37, cn_38, cn_39, cn_40, cn_41, cn_42, cn_43, cn_44, cn_45, cn_46, cn_47, cn_48, cn_49, cn_50, cn_51, cn_52, cn_53, cn_54, cn_55, Nat.reduceAdd, Nat.reduceLT, Nat.reduceLeDiff, Nat.lt_add_one, Nat.zero_lt_succ, Nat.reduceSub, ite_true, ite_false, reduceCtorEq, forall_const, Nat.reduceSucc, Nat.zero_add, Nat.add_zero, Nat.le_refl, Nat.zero_le, Nat.reducePow, Int.reduceNeg, Nat.reduceMul, eq_self, Int.cast_ofNat_Int, Int.toNat_natCast, iR, lR, Int.reduceEq, Int.reduceLT, Int.reduceLE, Int.reduceNe, not_false_eq_true, not_true_eq_false, false_implies, true_implies, Int.reduceAdd, Int.reduceSub, Int.reduceMul, Int.reduceToNat, implies_true, or_true, true_or, or_false, false_or, T_X11_sizeOf, wst_43]
  refine ⟨by omega, by omega, fun y2 => ?_, fun y2 => ?_⟩
  · -- the new row is taken over
    have hN : ∀ j : Nat, j ≤ K → N j = if ((e + t : Nat) : Int) - j ≤ B then gpc f n K m (e + t) j else 0 := fun j hj => hN j (by omega)
    refine J_fgt [true, true, true, true, true, true, true, false, false] ?_
    refine loopU ((K : Int) + 1) (fun i M' => (0 ≤ i ∧ i ≤ K + 1) ∧ ∃ W : Nat → Int, M' = wst M W N ∧ ∀ j : Nat, (j : Int) < i → W j = N j) (fun i M' => J x 189 [some (zr 11 0), some (zi K), some (zi B), some (zi m), some (zi ((e : Int) + t)), some (zi u), some (zi i), none, none] [] M') ?_ 0 _ ⟨by omega, W, rfl, fun j hj => by omega⟩
    rintro i M' ⟨hi, W, rfl, hW⟩ ih3
    refine B_X11_within_189 C _ _ _ ?_
    simp only [c_iadd, c_isub, c_imul, c_ladd, c_lsub, c_lmul, c_ineg, c_lneg, c_ic, c_lc, c_iload, c_lload, c_aload, c_istore, c_astore, c_lstore, c_iinc, c_dup, c_dup2, c_goto, c_i2l, c_l2i, c_idiv, c_ldiv, c_lrem, c_lshl, c_gi, c_gl, c_gr, c_pi, c_pz, c_pl, c_iald, c_lald, c_bald, c_aald, c_iast, c_last, c_bast, c_callV, c_callS, c_mmax, c_mmin, c_mabs, c_mmaxl, c_mabsl, c_iret, c_zret, c_lret, c_vret, c_tsw, c_lsw, c_icmp_eq, c_icmp_ne, c_icmp_lt, c_icmp_ge, c_icmp_gt, c_icmp_le, c_if_eq, c_if_ne, c_if_lt, c_if_ge, c_if_gt, c_if_le, c_lcmp_eq, c_lcmp_ne, c_lcmp_lt, c_lcmp_ge, c_lcmp_gt, c_lcmp_le, c_lraw_eq, c_lraw_lt, c_lraw_ge, c_lraw_gt, c_lraw_le, acat, scat, tswP, pops, st1, st2, klo, pad, elo, List.getElem?_cons_zero, List.getElem?_cons_succ, List.getElem?_nil, List.set_cons_zero, List.set_cons_succ, List.set_nil, Option.toList_some, Option.toList_none, List.cons_append, List.nil_append, List.length_cons, List.length_nil, stc_ap, stm_ap, false_and, and_false, and_self, true_and, and_true, Nat.reduceEqDiff, reduceIte, al_12, al_13, al_14, al_15, al_16, al_17, al_18, al_19, al_20, al_21, al_22, al_23, al_24, al_25, al_26, al_27, al_28, al_29, al_30, al_31, al_32, al_33, al_34, al_35, al_36, al_37, al_38, al_39, al_40, al_41, al_42, al_43, al_44, al_45, al_46, al_47, al_48, al_49, al_50, al_51, al_52, al_53, al_54, al_55, at_12, at_13, at_14, at_15, at_16, at_17, at_18, at_19, at_20, at_21, at_22, at_23, at_24, at_25, at_26, at_27, at_28, at_29, at_30, at_31, at_32, at_33, at_34, at_35, at_36, at_37, at_38, at_39, at_40, at_41, at_42, at_43, at_44, at_45, at_46, at_47, at_48, at_49, at_50, at_51, at_52, at_53, at_54, at_55, cn_0, cn_1, cn_2, cn_3, cn_4, cn_5, cn_6, cn_7, cn_8, cn_9, cn_10, cn_11, cn_12, cn_13, cn_14, cn_15, cn_16, cn_17, cn_18, cn_19, cn_20, cn_21, cn_22, cn_23, cn_24, cn_25, cn_26, cn_27, cn_28, cn_29, cn_30, cn_31, cn_32, cn_33, cn_34, cn_35, cn_36, cn_37, cn_38, cn_39, cn_40, cn_41, cn_42, cn_43, cn_44, cn_45, cn_46, cn_47, cn_48, cn_49, cn_50, cn_51, cn_52, cn_53, cn_54, cn_55, Nat.reduceAdd, Nat.reduceLT, Nat.reduceLeDiff, Nat.lt_add_one, Nat.zero_lt_succ, Nat.reduceSub, ite_true, ite_false, reduceCtorEq, forall_const, Nat.reduceSucc, Nat.zero_add, Nat.add_zero, Nat.le_refl, Nat.zero_le, Nat.reducePow, Int.reduceNeg, Nat.reduceMul, eq_self, Int.cast_ofNat_Int, Int.toNat_natCast, iR, lR, Int.reduceEq, Int.reduceLT, Int.reduceLE, Int.reduceNe, not_false_eq_true, not_true_eq_false, false_implies, true_implies, Int.reduceAdd, Int.reduceSub, Int.reduceMul, Int.reduceToNat, implies_true, or_true, true_or, or_false, false_or, wst_r43, wst_42]
    refine ⟨by omega, by omega, fun y3 => ?_, fun y3 => ⟨by omega, by omega, ih3 (by omega) _ ⟨by omega, _, rfl, fun j hj => ?_⟩⟩⟩
    · have := ih (by omega) (wst M W N) ⟨by omega, W, N, rfl, fun j hj => ?_⟩
      · rw [show (u + 1).toNat = u.toNat + 1 by omega, sm_s, he, ht] at this
        exact J_fgt [true, true, true, true, true, true, false, true, true] this
      · rw [hW j (by omega), hN j hj, show (u + 1).toNat = u.toNat + 1 by omega, sm_s, he, ht, show ((e : Int) + (t : Int)).toNat = e + t by omega, show ((e + t : Nat) : Int) = (e : Int) + t by omega]
    · show (if j = i.toNat then N i.toNat else W j) = _
      by_cases e1 : j = i.toNat
      · rw [if_pos e1, e1]
      · rw [if_neg e1]; exact hW j (by omega)
  · -- one count of the new row
    have hbi : 0 ≤ (B : Int) * i ∧ (B : Int) * i ≤ 20 * 20 := by
      refine ⟨Int.mul_nonneg (by omega) (by omega), ?_⟩
      have a1 : (B : Int) * i ≤ 20 * i := Int.mul_le_mul_of_nonneg_right (by omega) (by omega)
      omega
    have hko : (e : Int) + t - i ≤ B → 0 ≤ (e : Int) + t - i → 0 ≤ (K : Int) * ((e : Int) + t - i) ∧ (K : Int) * ((e : Int) + t - i) ≤ 20 * 20 := by
      intro h1 h2
      refine ⟨Int.mul_nonneg (by omega) (by omega), ?_⟩
      have a1 : (K : Int) * ((e : Int) + t - i) ≤ 20 * ((e : Int) + t - i) := Int.mul_le_mul_of_nonneg_right (by omega) (by omega)
      omega
    have hzz : (B : Int) * i - K * ((e : Int) + t - i) = n * (i.toNat : Int) - K * (e + t : Nat) := by
      rw [show ((i.toNat : Nat) : Int) = i by omega, hn, show ((e + t : Nat) : Int) = (e : Int) + t by omega, show ((K + B : Nat) : Int) = (K : Int) + B by omega, Int.mul_sub, Int.add_mul]
      omega
    refine ⟨by omega, by omega, fun y3 => h180 _ _ _ (by omega) (fun j hj => if_neg (by omega)) ?_, fun y3 => ⟨by omega, by omega, fun y4 => h180 _ _ _ (by omega) (fun j hj => if_neg (by omega)) ?_, fun y4 => ?_⟩⟩
    · (try dsimp only)
      rw [if_pos rfl, if_pos (by omega), gpc_gt f n K m (by omega)]
    · (try dsimp only)
      rw [if_pos rfl, if_neg (by omega)]
    · have hk2 := hko (by omega) (by omega)
      rw [hzz]
      have hzb : 0 ≤ zab (n * (i.toNat : Int) - K * (e + t : Nat)) ∧ zab (n * (i.toNat : Int) - K * (e + t : Nat)) ≤ 400 := by
        rw [← hzz]
        unfold zab
        split <;> omega
      refine ⟨by rw [← hzz]; omega, by omega, by omega, fun y5 => ?_, fun y5 => h180 _ _ _ (by omega) (fun j hj => if_neg (by omega)) ?_⟩
      rotate_left
      · (try dsimp only)
        rw [if_pos rfl, if_pos (by omega), hge, if_pos (by omega)]
      · -- the sum over how many of the group are chosen
        have hWI : ∀ q : Nat, q ≤ t → (q : Int) ≤ i → W (i - q).toNat = gpI f n K m e 0 (i - q) := by
          intro q h1 h2
          rw [hW (i - q).toNat (by omega), if_pos (by omega)]
          unfold gpI
          rw [if_neg (by omega)]
        suffices hh : ∀ (q : Int) (M' : Mm), ((0 ≤ q ∧ q ≤ t + 1 ∧ q ≤ i + 1) ∧ ∃ N2 : Nat → Int, M' = wst M W N2 ∧ (∀ j : Nat, (j : Int) < i → N2 j = N j) ∧ N2 i.toNat = sm (fun y => chs t y * gpI f n K m e 0 (i - y)) q.toNat) → J x 116 [some (zr 11 0), some (zi K), some (zi B), some (zi m), some (zi ((e : Int) + t)), some (zi u), some (zi i), some (zi ((e : Int) + t - i)), some (zi q)] [] M' by
          refine hh 0 _ ⟨by omega, _, rfl, fun j hj => if_neg (by omega), ?_⟩
          (try dsimp only)
          rw [if_pos rfl]
          rfl
        refine loopU ((t : Int) + 1) _ _ ?_
        rintro q M' ⟨hq, N2, rfl, hN2, hN3⟩ ih3
        have hfin : hsm (gpI f n K m e) t 0 i = N2 i.toNat → J x 180 [some (zr 11 0), some (zi K), some (zi B), some (zi m), some (zi ((e : Int) + t)), some (zi u), some (zi i), some (zi ((e : Int) + t - i)), some (zi q)] [] (wst M W N2) := by
          intro h1
          refine h180 N2 _ _ (by omega) hN2 ?_
          rw [if_pos (by omega), hge, if_neg (by omega), ← h1, show ((i.toNat : Nat) : Int) = i by omega]
        refine B_X11_within_116 C _ _ _ ?_
        simp only [c_iadd, c_isub, c_imul, c_ladd, c_lsub, c_lmul, c_ineg, c_lneg, c_ic, c_lc, c_iload, c_lload, c_aload, c_istore, c_astore, c_lstore, c_iinc, c_dup, c_dup2, c_goto, c_i2l, c_l2i, c_idiv, c_ldiv, c_lrem, c_lshl, c_gi, c_gl, c_gr, c_pi, c_pz, c_pl, c_iald, c_lald, c_bald, c_aald, c_iast, c_last, c_bast, c_callV, c_callS, c_mmax, c_mmin, c_mabs, c_mmaxl, c_mabsl, c_iret, c_zret, c_lret, c_vret, c_tsw, c_lsw, c_icmp_eq, c_icmp_ne, c_icmp_lt, c_icmp_ge, c_icmp_gt, c_icmp_le, c_if_eq, c_if_ne, c_if_lt, c_if_ge, c_if_gt, c_if_le, c_lcmp_eq, c_lcmp_ne, c_lcmp_lt, c_lcmp_ge, c_lcmp_gt, c_lcmp_le, c_lraw_eq, c_lraw_lt, c_lraw_ge, c_lraw_gt, c_lraw_le, acat, scat, tswP, pops, st1, st2, klo, pad, elo, List.getElem?_cons_zero, List.getElem?_cons_succ, List.getElem?_nil, List.set_cons_zero, List.set_cons_succ, List.set_nil, Option.toList_some, Option.toList_none, List.cons_append, List.nil_append, List.length_cons, List.length_nil, stc_ap, stm_ap, false_and, and_false, and_self, true_and, and_true, Nat.reduceEqDiff, reduceIte, al_12, al_13, al_14, al_15, al_16, al_17, al_18, al_19, al_20, al_21, al_22, al_23, al_24, al_25, al_26, al_27, al_28, al_29, al_30, al_31, al_32, al_33, al_34, al_35, al_36, al_37, al_38, al_39, al_40, al_41, al_42, al_43, al_44, al_45, al_46, al_47, al_48, al_49, al_50, al_51, al_52, al_53, al_54, al_55, at_12, at_13, at_14, at_15, at_16, at_17, at_18, at_19, at_20, at_21, at_22, at_23, at_24, at_25, at_26, at_27, at_28, at_29, at_30, at_31, at_32, at_33, at_34, at_35, at_36, at_37, at_38, at_39, at_40, at_41, at_42, at_43, at_44, at_45, at_46, at_47, at_48, at_49, at_50, at_51, at_52, at_53, at_54, at_55, cn_0, cn_1, cn_2, cn_3, cn_4, cn_5, cn_6, cn_7, cn_8, cn_9, cn_10, cn_11, cn_12, cn_13, cn_14, cn_15, cn_16, cn_17, cn_18, cn_19, cn_20, cn_21, cn_22, cn_23, cn_24, cn_25, cn_26, cn_27, cn_28, cn_29, cn_30, cn_31, cn_32, cn_33, cn_34, cn_35, cn_36, cn_37, cn_38, cn_39, cn_40, cn_41, cn_42, cn_43, cn_44, cn_45, cn_46, cn_47, cn_48, cn_49, cn_50, cn_51, cn_52, cn_53, cn_54, cn_55, Nat.reduceAdd, Nat.reduceLT, Nat.reduceLeDiff, Nat.lt_add_one, Nat.zero_lt_succ, Nat.reduceSub, ite_true, ite_false, reduceCtorEq, forall_const, Nat.reduceSucc, Nat.zero_add, Nat.add_zero, Nat.le_refl, Nat.zero_le, Nat.reducePow, Int.reduceNeg, Nat.reduceMul, eq_self, Int.cast_ofNat_Int, Int.toNat_natCast, iR, lR, Int.reduceEq, Int.reduceLT, Int.reduceLE, Int.reduceNe, not_false_eq_true, not_true_eq_false, false_implies, true_implies, Int.reduceAdd, Int.reduceSub, Int.reduceMul, Int.reduceToNat, implies_true, or_true, true_or, or_false, false_or, wst_r41, wst_r42, wst_r43, wst_r33, wst_43, hGi, ht]
        refine ⟨by omega, by omega, by omega, fun y6 => hfin ?_, fun y6 => ⟨by omega, by omega, fun y7 => hfin ?_, fun y7 => ?_⟩⟩
        · rw [hN3]
          unfold hsm
          rw [show q.toNat = t + 1 by omega]
        · rw [hN3]
          unfold hsm
          refine sm_ext (by omega) fun y k1 k2 => ?_
          rw [gpI_neg f n K m e _ _ (by omega), Int.mul_zero]
        · rw [hCE.at (n := t) (k := q) (by omega) (by omega) (by omega)]
          refine ⟨by omega, by omega, by omega, by omega, by omega, ih3 (by omega) _ ⟨by omega, _, rfl, fun j hj => ?_, ?_⟩⟩
          · show (if j = i.toNat then _ else N2 j) = N j
            rw [if_neg (by omega)]; exact hN2 j hj
          · show (if i.toNat = i.toNat then N2 i.toNat + W (i - q).toNat * chI t q else _) = _
            have h1 := hWI q.toNat (by omega) (by omega)
            rw [show ((q.toNat : Nat) : Int) = q by omega] at h1
            rw [if_pos rfl, hN3, h1, show (q + 1).toNat = q.toNat + 1 by omega, sm_s, show ((q.toNat : Nat) : Int) = q by omega, Int.mul_comm]
            unfold chI
            rw [if_neg (by omega), show ((t : Int)).toNat = t by omega]
