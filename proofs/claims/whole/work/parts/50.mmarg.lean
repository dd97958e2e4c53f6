/-! CloudBenchModel.margins: the walk through all tables -/
theorem clF_3 (f : Nat → Int) (c : Nat) : clF f c = f c + f (4 + c) + f (8 + c) := by
  show 0 + f (4 * 0 + c) + f (4 * 1 + c) + f (4 * 2 + c) = _
  rw [show 4 * 0 + c = c by omega, show 4 * 1 + c = 4 + c by omega, show 4 * 2 + c = 8 + c by omega]
  omega
/-- one place of the walk: the table's rest with first count a and second b -/
def tmT (φ : Int → Int → Int) (cs : Nat → Int) (k c : Nat) (t m l w fx : Int) (a b : Nat) : Int := if (a : Int) ≤ t ∧ (b : Int) ≤ m ∧ cs c - a - b ≤ l then TS φ cs k (c + 1) (t - a) (m - b) (l - (cs c - a - b)) (w * tri (cs c) a b) (if c = 0 then (a : Int) else fx) else 0
/-- what has been passed -/
def dnT (φ : Int → Int → Int) (cs : Nat → Int) (k c : Nat) (t m l w fx : Int) (a b : Nat) : Int := sm (fun u => sm (tmT φ cs k c t m l w fx u) ((cs c).toNat - u + 1)) a + sm (tmT φ cs k c t m l w fx a) b
theorem dnT_0 (φ : Int → Int → Int) (cs : Nat → Int) (k c : Nat) (t m l w fx : Int) : dnT φ cs k c t m l w fx 0 0 = 0 := rfl
theorem dnT_b (φ : Int → Int → Int) (cs : Nat → Int) (k c : Nat) (t m l w fx : Int) (a b : Nat) : dnT φ cs k c t m l w fx a (b + 1) = dnT φ cs k c t m l w fx a b + tmT φ cs k c t m l w fx a b := by
  unfold dnT
  rw [sm_s, Int.add_assoc]
theorem dnT_a (φ : Int → Int → Int) (cs : Nat → Int) (k c : Nat) (t m l w fx : Int) (a : Nat) : dnT φ cs k c t m l w fx (a + 1) 0 = dnT φ cs k c t m l w fx a ((cs c).toNat - a + 1) := by
  unfold dnT
  rw [sm_s]
  exact Int.add_zero _
theorem dnT_e (φ : Int → Int → Int) (cs : Nat → Int) (k c : Nat) (t m l w fx : Int) : dnT φ cs k c t m l w fx ((cs c).toNat + 1) 0 = TS φ cs (k + 1) c t m l w fx := by
  unfold dnT
  exact Int.add_zero _
def mgL (x : Xc) (M0 : Mm) (f : Nat → Int) (n : Nat) (w own : Int) (k : Nat) : Prop := ∀ c : Nat, c + k + 1 = n → ∀ (F S L D : Nat → Int) (sum t m lw v fx : Int), L (3 * c) = t → L (3 * c + 1) = m → L (3 * c + 2) = lw → D c = v → F c = 0 → S c = -1 → (¬ c = 0 → F 0 = fx ∧ 0 ≤ fx ∧ fx ≤ 40) → (0 ≤ t ∧ 0 ≤ m ∧ 0 ≤ lw) → t + m + lw = clS (clF f) c (k + 1) → clS (clF f) 0 c + (t + m + lw) ≤ 40 → (0 ≤ v ∧ v ≤ b3 (clS (clF f) 0 c)) →
      (∀ F' S' L' D' : Nat → Int, (∀ j, j < c → F' j = F j ∧ S' j = S j) → (∀ j, j < 3 * c + 3 → L' j = L j) → (∀ j, j ≤ c → D' j = D j) → J x 193 [some (zr 11 0), some (zi w), some (zl own), none, some (zl (sum + TS (phM w own (f 0)) (clF f) (k + 1) c t m lw v fx)), none, some (zi ((c : Int) - 1)), none, none, none, none, none] [] (mst M0 F' S' L' D')) →
      J x 193 [some (zr 11 0), some (zi w), some (zl own), none, some (zl sum), none, some (zi c), none, none, none, none, none] [] (mst M0 F S L D)
set_option maxRecDepth 100000 in
set_option maxHeartbeats 4000000 in
theorem mg_step {l : Launch} {x : Xc} {M0 : Mm} (C : Cx x l cX11_margins RX11 12 1) {P : Option AV → Mm → Prop} (hR : Rx x (some .long) P) {f : Nat → Int} {n : Nat} {w own : Int} (hCE : CE M0) (h46 : ∀ j, j < 12 → M0 46 0 j = f j) (h26 : M0 11 0 26 = 2 ∨ M0 11 0 26 = 3) (hz : M0 11 0 26 = 2 → ∀ j, j < 4 → f (8 + j) = 0) (h27 : M0 11 0 27 = n) (hn : 2 ≤ n ∧ n ≤ 4) (hf : ∀ j, j < 12 → 0 ≤ f j) (h40 : sm f 12 ≤ 40) (hw : 0 ≤ w ∧ w ≤ 5) (hw1 : ¬ w = 1) (hown : lR own) (k : Nat) (hnx : ∀ k' : Nat, k = k' + 1 → mgL x M0 f n w own k') : mgL x M0 f n w own k := by
  intro c hck F S L D sum t m lw v fx hL0 hL1 hL2 hD hF hS hfx hb hsum h40' hv hK
  have hcs := clF_in hf (j := c) (by omega)
  obtain ⟨s1, s2, s3, s4⟩ := clS_le (cs := clF f) (fun j hj => (clF_in hf hj).1) (c := c) (k := k) (by omega)
  rw [s1] at hsum
  obtain ⟨S0, hS0⟩ : ∃ S0 : Nat, clF f c = S0 := ⟨(clF f c).toNat, by omega⟩
  have hS0n : (clF f c).toNat = S0 := by omega
  obtain ⟨φ, hφ⟩ : ∃ φ : Int → Int → Int, φ = phM w own (f 0) := ⟨_, rfl⟩
  rw [← hφ] at hK
  have h0 := hf 0 (by decide)
  have h0' := (clF_in hf (j := 0) (by decide)).2.2.1
  suffices hh : ∀ s : Nat × Nat, (s.1 ≤ S0 ∧ s.1 + s.2 ≤ S0 + 1) → ∀ F' S' L' D' : Nat → Int, F' c = s.1 → S' c = (s.2 : Int) - 1 → (∀ j, j < c → F' j = F j ∧ S' j = S j) → (∀ j, j < 3 * c + 3 → L' j = L j) → (∀ j, j ≤ c → D' j = D j) → J x 193 [some (zr 11 0), some (zi w), some (zl own), none, some (zl (sum + dnT φ (clF f) k c t m lw v fx s.1 s.2)), none, some (zi c), none, none, none, none, none] [] (mst M0 F' S' L' D') by
    have := hh (0, 0) ⟨Nat.zero_le _, Nat.zero_le _⟩ F S L D hF hS (fun _ _ => ⟨rfl, rfl⟩) (fun _ _ => rfl) (fun _ _ => rfl)
    rw [dnT_0, Int.add_zero] at this
    exact this
  refine loopM (fun s => (S0 + 1 - s.1) * (S0 + 3) + (S0 + 2 - s.2)) _ _ ?_
  rintro ⟨a, b1⟩ ⟨ha, hb1⟩ ih F' S' L' D' e1 e2 e3 e4 e5
  simp only at ha hb1 ih e1 e2 ⊢
  have g0 := e4 (3 * c) (by omega)
  have g1 := e4 (3 * c + 1) (by omega)
  have g2 := e4 (3 * c + 2) (by omega)
  have g3 := e5 c (Nat.le_refl c)
  rw [hL0] at g0
  rw [hL1] at g1
  rw [hL2] at g2
  rw [hD] at g3
  -- the walk goes on at a place
  have h290 : ∀ (a' b' : Nat) (F2 S2 : Nat → Int), a' + b' ≤ S0 → (S0 + 1 - a') * (S0 + 3) + (S0 + 2 - (b' + 1)) < (S0 + 1 - a) * (S0 + 3) + (S0 + 2 - b1) → F2 c = a' → S2 c = b' → (∀ j, j < c → F2 j = F j ∧ S2 j = S j) → J x 290 [some (zr 11 0), some (zi w), some (zl own), none, some (zl (sum + dnT φ (clF f) k c t m lw v fx a' b')), none, some (zi c), some (zi S0), none, none, none, none] [] (mst M0 F2 S2 L' D') := by
    intro a' b' F2 S2 hab hmu q1 q2 q3
    have hgo : ∀ (F3 S3 L3 D3 : Nat → Int) (sm1 : Int), sm1 = sum + dnT φ (clF f) k c t m lw v fx a' b' + tmT φ (clF f) k c t m lw v fx a' b' → F3 c = a' → S3 c = b' → (∀ j, j < c → F3 j = F j ∧ S3 j = S j) → (∀ j, j < 3 * c + 3 → L3 j = L j) → (∀ j, j ≤ c → D3 j = D j) → J x 193 [some (zr 11 0), some (zi w), some (zl own), none, some (zl sm1), none, some (zi c), none, none, none, none, none] [] (mst M0 F3 S3 L3 D3) := by
      intro F3 S3 L3 D3 sm1 hs1 u1 u2 u3 u4 u5
      have := ih (a', b' + 1) hmu ⟨by show a' ≤ S0; omega, by show a' + (b' + 1) ≤ S0 + 1; omega⟩ F3 S3 L3 D3 u1 (by rw [u2]; show (b' : Int) = ((b' + 1 : Nat) : Int) - 1; omega) u3 u4 u5
      simp only at this
      rw [dnT_b, ← Int.add_assoc, ← hs1] at this
      exact this
    refine B_X11_margins_290 C (k_X11_put_ l) (by decide) _ _ _ ?_
    have i0 : (3 * (c : Int)).toNat = 3 * c := by omega
    have i1 : (3 * (c : Int) + 1).toNat = 3 * c + 1 := by omega
    have i2 : (3 * (c : Int) + 2).toNat = 3 * c + 2 := by omega
    simp only [c_iadd, c_isub, c_imul, c_ladd, c_lsub, c_lmul, c_ineg, c_lneg, c_ic, c_lc, c_iload, c_lload, c_aload, c_istore, c_astore, c_lstore, c_iinc, c_dup, c_dup2, c_goto, c_i2l, c_l2i, c_idiv, c_ldiv, c_lrem, c_lshl, c_gi, c_gl, c_gr, c_pi, c_pz, c_pl, c_iald, c_lald, c_bald, c_aald, c_iast, c_last, c_bast, c_callV, c_callS, c_mmax, c_mmin, c_mabs, c_mmaxl, c_mabsl, c_iret, c_zret, c_lret, c_vret, c_tsw, c_lsw, c_icmp_eq, c_icmp_ne, c_icmp_lt, c_icmp_ge, c_icmp_gt, c_icmp_le, c_if_eq, c_if_ne, c_if_lt, c_if_ge, c_if_gt, c_if_le, c_lcmp_eq, c_lcmp_ne, c_lcmp_lt, c_lcmp_ge, c_lcmp_gt, c_lcmp_le, c_lraw_eq, c_lraw_lt, c_lraw_ge, c_lraw_gt, c_lraw_le, acat, scat, tswP, pops, st1, st2, klo, pad, elo, List.getElem?_cons_zero, List.getElem?_cons_succ, List.getElem?_nil, List.set_cons_zero, List.set_cons_succ, List.set_nil, Option.toList_some, Option.toList_none, List.cons_append, List.nil_append, List.length_cons, List.length_nil, stc_ap, stm_ap, false_and, and_false, and_self, true_and, and_true, Nat.reduceEqDiff, reduceIte, al_12, al_13, al_14, al_15, al_16, al_17, al_18, al_19, al_20, al_21, al_22, al_23, al_24, al_25, al_26, al_27, al_28, al_29, al_30, al_31, al_32, al_33, al_34, al_35, al_36, al_37, al_38, al_39, al_40, al_41, al_42, al_43, al_44, al_45, al_46, al_47, al_48, al_49, al_50, al_51, al_52, al_53, al_54, al_55, at_12, at_13, at_14, at_15, at_16, at_17, at_18, at_19, at_20, at_21, at_22, at_23, at_24, at_25, at_26, at_27, at_28, at_29, at_30, at_31, at_32, at_33, at_34, at_35, at_36, at_37, at_38, at_39, at_40, at_41, at_42, at_43, at_44, at_45, at_46, at_47, at_48, at_49, at_50, at_51, at_52, at_53, at_54, at_55, cn_0, cn_1, cn_2, cn_3, cn_4, cn_5, cn_6, cn_7, cn_8, cn_9, cn_10, cn_11, cn_12, cn_13, cn_14, cn_15, cn_16, cn_17, cn_18, cn_19, cn_20, cn_21, cn_22, cn_23, cn_24, cn_25, cn_26, cn_27, cn_28, cn_29, cn_30, cn_31, cn_32, cn_33, cn_34, cn_35, cn_36, cn_37, cn_38, cn_39, cn_40, cn_41, cn_42, cn_43, cn_44, cn_45, cn_46, cn_47, cn_48, cn_49, cn_50, cn_51, cn_52, cn_53, cn_54, cn_55, Nat.reduceAdd, Nat.reduceLT, Nat.reduceLeDiff, Nat.lt_add_one, Nat.zero_lt_succ, Nat.reduceSub, ite_true, ite_false, reduceCtorEq, forall_const, Nat.reduceSucc, Nat.zero_add, Nat.add_zero, Nat.le_refl, Nat.zero_le, Nat.reducePow, Int.reduceNeg, Nat.reduceMul, eq_self, Int.cast_ofNat_Int, Int.toNat_natCast, iR, lR, Int.reduceEq, Int.reduceLT, Int.reduceLE, Int.reduceNe, not_false_eq_true, not_true_eq_false, false_implies, true_implies, Int.reduceAdd, Int.reduceSub, Int.reduceMul, Int.reduceToNat, implies_true, or_true, true_or, or_false, false_or, T_X11_put_, mst_r47, mst_r48, mst_r49, mst_r50, mst_r11, mst_47, mst_48, mst_49, mst_50, q1, q2, i0, i1, i2, g0, g1, g2, g3, h27]
    have hnow : 0 ≤ v * tri S0 a' b' ∧ v * tri S0 a' b' ≤ b3 (clS (clF f) 0 c + S0) := by
      have t1 := tri_nn S0 a' b'
      have t2 := tri_le (s := S0) (by omega) a' b'
      refine ⟨Int.mul_nonneg hv.1 t1, ?_⟩
      have u1 : v * tri S0 a' b' ≤ b3 (clS (clF f) 0 c) * tri S0 a' b' := Int.mul_le_mul_of_nonneg_right hv.2 t1
      have u2 : b3 (clS (clF f) 0 c) * tri S0 a' b' ≤ b3 (clS (clF f) 0 c) * b3 S0 := Int.mul_le_mul_of_nonneg_left t2 (by have := b3_pos (clS (clF f) 0 c); omega)
      have u3 := b3_mul s4 (show (0 : Int) ≤ S0 by omega)
      omega
    have htm0 : ¬ ((a' : Int) ≤ t ∧ (b' : Int) ≤ m ∧ (S0 : Int) - a' - b' ≤ lw) → tmT φ (clF f) k c t m lw v fx a' b' = 0 := fun h => by
      unfold tmT
      rw [hS0, if_neg h]
    have hskip : ¬ ((a' : Int) ≤ t ∧ (b' : Int) ≤ m ∧ (S0 : Int) - a' - b' ≤ lw) → ∀ z8 : Option AV, J x 193 [some (zr 11 0), some (zi w), some (zl own), none, some (zl (sum + dnT φ (clF f) k c t m lw v fx a' b')), none, some (zi c), some (zi S0), z8, none, none, none] [] (mst M0 F2 S2 L' D') := fun h z8 =>
      J_fgt [true, true, true, true, true, true, true, false, false, false, false, false] (hgo F2 S2 L' D' _ (by rw [htm0 h, Int.add_zero]) q1 q2 q3 e4 e5)
    refine ⟨by omega, by omega, by omega, fun _ => ⟨by omega, by omega, by omega, by omega, by omega, by omega, fun z1 => hskip (by omega) _, fun z1 => ⟨by omega, by omega, by omega, by omega, fun z2 => hskip (by omega) _, fun z2 => ⟨by omega, by omega, by omega, fun z3 => ⟨by omega, by omega, by omega, CE_cg (mst_r33 M0 F2 S2 L' D') hCE, by omega, by omega, by omega, fun z4 => ?_, fun z4 => ?_⟩, fun z3 => hskip (by omega) _⟩⟩⟩, fun z1 => by omega⟩
    · -- the next column
      obtain ⟨k', hk'⟩ : ∃ k', k = k' + 1 := ⟨k - 1, by omega⟩
      refine ⟨by omega, by omega, by omega, by omega, by omega, by omega, by omega, by omega, by omega, by omega, by omega, ?_⟩
      refine J_fgt [true, true, true, true, true, true, true, false, false, false, false, false] ?_
      rw [show (a' : Int) + b' + ((S0 : Int) - a' - b') = S0 by omega]
      have key := hnx k' hk' (c + 1) (by omega)
      have ec : ((c + 1 : Nat) : Int) = (c : Int) + 1 := by omega
      rw [ec, ← hφ] at key
      refine key _ _ _ _ _ (t - a') (m - b') (lw - ((S0 : Int) - a' - b')) (v * tri S0 a' b') (if c = 0 then (a' : Int) else fx) ?_ ?_ ?_ ?_ ?_ ?_ (fun _ => ?_) (by omega) (by rw [← hk']; omega) (by rw [s3, hS0]; omega) (by rw [s3, hS0]; exact hnow) (fun F3 S3 L3 D3 u1 u2 u3 => ?_)
      · (try dsimp only); repeat' split
        all_goals omega
      · (try dsimp only); repeat' split
        all_goals omega
      · (try dsimp only); repeat' split
        all_goals omega
      · (try dsimp only); rw [if_pos (by omega)]
      · (try dsimp only); rw [if_pos (by omega)]
      · (try dsimp only); rw [if_pos (by omega)]
      · (try dsimp only)
        rw [if_neg (by omega)]
        by_cases e : c = 0
        · subst e; rw [if_pos rfl, q1]; omega
        · rw [if_neg e, (q3 0 (by omega)).1]; exact hfx e
      · rw [show (c : Int) + 1 - 1 = c by omega]
        refine hgo F3 S3 L3 D3 _ ?_ ?_ ?_ (fun j hj => ?_) (fun j hj => ?_) (fun j hj => ?_)
        · congr 1
          unfold tmT
          rw [hS0, if_pos (show (a' : Int) ≤ t ∧ (b' : Int) ≤ m ∧ (S0 : Int) - a' - b' ≤ lw by omega), hk']
        · rw [(u1 c (by omega)).1]; (try dsimp only); rw [if_neg (by omega)]; exact q1
        · rw [(u1 c (by omega)).2]; (try dsimp only); rw [if_neg (by omega)]; exact q2
        · rw [(u1 j (by omega)).1, (u1 j (by omega)).2]; (try dsimp only); rw [if_neg (by omega), if_neg (by omega)]; exact q3 j hj
        · rw [u2 j (by omega)]; (try dsimp only); rw [if_neg (by omega), if_neg (by omega), if_neg (by omega)]; exact e4 j hj
        · rw [u3 j (by omega)]; (try dsimp only); rw [if_neg (by omega)]; exact e5 j hj
    · -- a table is whole
      have hk0 : k = 0 := by omega
      have hc0 : ¬ c = 0 := by omega
      have hF0 : F2 0 = fx := by rw [(q3 0 (by omega)).1]; exact (hfx hc0).1
      have hfx2 := (hfx hc0).2
      have u4 := b3_40 (n := clS (clF f) 0 c + S0) (by omega)
      rw [show (a' : Int) + b' + ((S0 : Int) - a' - b') = S0 by omega]
      obtain ⟨T1, T2⟩ := mg_tail (l := l) (x := x) (M1 := mst M0 F2 S2 L' D') C (f0 := 0) (cc := f 0) (fx := fx) (w := w) (own := own) (sum := sum + dnT φ (clF f) k c t m lw v fx a' b') (c := c) (z7 := S0) (z8 := (S0 : Int) - a' - b') (now := v * tri S0 a' b') (by rw [mst_r46]; exact h46 0 (by decide)) (by rw [mst_r47]; exact hF0) (by omega) (by omega) hw hw1 (by omega) hown (hgo F2 S2 L' D' _ (by
        congr 1
        unfold tmT
        rw [hS0, if_pos (show (a' : Int) ≤ t ∧ (b' : Int) ≤ m ∧ (S0 : Int) - a' - b' ≤ lw by omega), hk0, if_neg hc0, hφ]
        rfl) q1 q2 q3 e4 e5)
      exact ⟨by omega, T1, fun y1 => ⟨by omega, (T2 y1).1, fun y2 => ⟨by omega, ((T2 y1).2 y2).1, fun y3 => ⟨by omega, hown, (((T2 y1).2 y2).2 y3).1, (((T2 y1).2 y2).2 y3).2⟩⟩⟩⟩
  -- from the head to the place
  have h237 : ∀ th : Int, th = f (8 + c) → J x 237 [some (zr 11 0), some (zi w), some (zl own), none, some (zl (sum + dnT φ (clF f) k c t m lw v fx a b1)), none, some (zi c), none, none, none, none, none] [zi th, zi (f c + f (4 + c))] (mst M0 F' S' L' D') := by
    intro th hth
    refine B_X11_margins_237 C _ _ _ ?_
    have esz : f c + f (4 + c) + th = S0 := by rw [hth, ← clF_3]; exact hS0
    simp only [c_iadd, c_isub, c_imul, c_ladd, c_lsub, c_lmul, c_ineg, c_lneg, c_ic, c_lc, c_iload, c_lload, c_aload, c_istore, c_astore, c_lstore, c_iinc, c_dup, c_dup2, c_goto, c_i2l, c_l2i, c_idiv, c_ldiv, c_lrem, c_lshl, c_gi, c_gl, c_gr, c_pi, c_pz, c_pl, c_iald, c_lald, c_bald, c_aald, c_iast, c_last, c_bast, c_callV, c_callS, c_mmax, c_mmin, c_mabs, c_mmaxl, c_mabsl, c_iret, c_zret, c_lret, c_vret, c_tsw, c_lsw, c_icmp_eq, c_icmp_ne, c_icmp_lt, c_icmp_ge, c_icmp_gt, c_icmp_le, c_if_eq, c_if_ne, c_if_lt, c_if_ge, c_if_gt, c_if_le, c_lcmp_eq, c_lcmp_ne, c_lcmp_lt, c_lcmp_ge, c_lcmp_gt, c_lcmp_le, c_lraw_eq, c_lraw_lt, c_lraw_ge, c_lraw_gt, c_lraw_le, acat, scat, tswP, pops, st1, st2, klo, pad, elo, List.getElem?_cons_zero, List.getElem?_cons_succ, List.getElem?_nil, List.set_cons_zero, List.set_cons_succ, List.set_nil, Option.toList_some, Option.toList_none, List.cons_append, List.nil_append, List.length_cons, List.length_nil, stc_ap, stm_ap, false_and, and_false, and_self, true_and, and_true, Nat.reduceEqDiff, reduceIte, al_12, al_13, al_14, al_15, al_16, al_17, al_18, al_19, al_20, al_21, al_22, al_23, al_24, al_25, al_26, al_27, al_28, al_29, al_30, al_31, al_32, al_33, al_34, al_35, al_36, al_37, al_38, al_39, al_40, al_41, al_42, al_43, al_44, al_45, al_46, al_47, al_48, al_49, al_50, al_51, al_52, al_53, al_54, al_55, at_12, at_13, at_14, at_15, at_16, at_17, at_18, at_19, at_20, at_21, at_22, at_23, at_24, at_25, at_26, at_27, at_28, at_29, at_30, at_31, at_32, at_33, at_34, at_35, at_36, at_37, at_38, at_39, at_40, at_41, at_42, at_43, at_44, at_45, at_46, at_47, at_48, at_49, at_50, at_51, at_52, at_53, at_54, at_55, cn_0, cn_1, cn_2, cn_3, cn_4, cn_5, cn_6, cn_7, cn_8, cn_9, cn_10, cn_11, cn_12, cn_13, cn_14, cn_15, cn_16, cn_17, cn_18, cn_19, cn_20, cn_21, cn_22, cn_23, cn_24, cn_25, cn_26, cn_27, cn_28, cn_29, cn_30, cn_31, cn_32, cn_33, cn_34, cn_35, cn_36, cn_37, cn_38, cn_39, cn_40, cn_41, cn_42, cn_43, cn_44, cn_45, cn_46, cn_47, cn_48, cn_49, cn_50, cn_51, cn_52, cn_53, cn_54, cn_55, Nat.reduceAdd, Nat.reduceLT, Nat.reduceLeDiff, Nat.lt_add_one, Nat.zero_lt_succ, Nat.reduceSub, ite_true, ite_false, reduceCtorEq, forall_const, Nat.reduceSucc, Nat.zero_add, Nat.add_zero, Nat.le_refl, Nat.zero_le, Nat.reducePow, Int.reduceNeg, Nat.reduceMul, eq_self, Int.cast_ofNat_Int, Int.toNat_natCast, iR, lR, Int.reduceEq, Int.reduceLT, Int.reduceLE, Int.reduceNe, not_false_eq_true, not_true_eq_false, false_implies, true_implies, Int.reduceAdd, Int.reduceSub, Int.reduceMul, Int.reduceToNat, implies_true, or_true, true_or, or_false, false_or, mst_r47, mst_r48, mst_47, mst_48, e1, e2, esz]
    have eb : (b1 : Int) - 1 + 1 = b1 := by omega
    rw [eb]
    refine ⟨by omega, by omega, by omega, by omega, by omega, by omega, fun z1 => ?_, fun z1 => ⟨by omega, by omega, by omega, ?_⟩⟩
    · refine h290 a b1 F' _ (by omega) (by omega) e1 (by (try dsimp only); rw [if_pos rfl]) (fun j hj => ⟨(e3 j hj).1, by (try dsimp only); rw [if_neg (by omega)]; exact (e3 j hj).2⟩)
    · by_cases hlt : a + 1 ≤ S0
      · have hd : dnT φ (clF f) k c t m lw v fx a b1 = dnT φ (clF f) k c t m lw v fx (a + 1) 0 := by
          rw [dnT_a, hS0n, show S0 - a + 1 = b1 by omega]
        rw [hd]
        refine h290 (a + 1) 0 _ _ (by omega) ?_ (by (try dsimp only); rw [if_pos rfl]; omega) (by (try dsimp only); rw [if_pos rfl]; rfl) (fun j hj => ⟨by (try dsimp only); rw [if_neg (by omega)]; exact (e3 j hj).1, by (try dsimp only); rw [if_neg (by omega), if_neg (by omega)]; exact (e3 j hj).2⟩)
        rw [show S0 + 1 - a = (S0 + 1 - (a + 1)) + 1 by omega, Nat.succ_mul]
        omega
      · have ea : a = S0 := by omega
        have hd : dnT φ (clF f) k c t m lw v fx a b1 = TS φ (clF f) (k + 1) c t m lw v fx := by
          rw [← dnT_e, dnT_a, hS0n, ea, show S0 - S0 + 1 = b1 by omega]
        rw [hd]
        refine B_X11_margins_290 C (k_X11_put_ l) (by decide) _ _ _ ?_
        simp only [c_iadd, c_isub, c_imul, c_ladd, c_lsub, c_lmul, c_ineg, c_lneg, c_ic, c_lc, c_iload, c_lload, c_aload, c_istore, c_astore, c_lstore, c_iinc, c_dup, c_dup2, c_goto, c_i2l, c_l2i, c_idiv, c_ldiv, c_lrem, c_lshl, c_gi, c_gl, c_gr, c_pi, c_pz, c_pl, c_iald, c_lald, c_bald, c_aald, c_iast, c_last, c_bast, c_callV, c_callS, c_mmax, c_mmin, c_mabs, c_mmaxl, c_mabsl, c_iret, c_zret, c_lret, c_vret, c_tsw, c_lsw, c_icmp_eq, c_icmp_ne, c_icmp_lt, c_icmp_ge, c_icmp_gt, c_icmp_le, c_if_eq, c_if_ne, c_if_lt, c_if_ge, c_if_gt, c_if_le, c_lcmp_eq, c_lcmp_ne, c_lcmp_lt, c_lcmp_ge, c_lcmp_gt, c_lcmp_le, c_lraw_eq, c_lraw_lt, c_lraw_ge, c_lraw_gt, c_lraw_le, acat, scat, tswP, pops, st1, st2, klo, pad, elo, List.getElem?_cons_zero, List.getElem?_cons_succ, List.getElem?_nil, List.set_cons_zero, List.set_cons_succ, List.set_nil, Option.toList_some, Option.toList_none, List.cons_append, List.nil_append, List.length_cons, List.length_nil, stc_ap, stm_ap, false_and, and_false, and_self, true_and, and_true, Nat.reduceEqDiff, reduceIte, al_12, al_13, al_14, al_15, al_16, al_17, al_18, al_19, al_20, al_21, al_22, al_23, al_24, al_25, al_26, al_27, al_28, al_29, al_30, al_31, al_32, al_33, al_34, al_35, al_36, al_37, al_38, al_39, al_40, al_41, al_42, al_43, al_44, al_45, al_46, al_47, al_48, al_49, al_50, al_51, al_52, al_53, al_54, al_55, at_12, at_13, at_14, at_15, at_16, at_17, at_18, at_19, at_20, at_21, at_22, at_23, at_24, at_25, at_26, at_27, at_28, at_29, at_30, at_31, at_32, at_33, at_34, at_35, at_36, at_37, at_38, at_39, at_40, at_41, at_42, at_43, at_44, at_45, at_46, at_47, at_48, at_49, at_50, at_51, at_52, at_53, at_54, at_55, cn_0, cn_1, cn_2, cn_3, cn_4, cn_5, cn_6, cn_7, cn_8, cn_9, cn_10, cn_11, cn_12, cn_13, cn_14, cn_15, cn_16, cn_17, cn_18, cn_19, cn_20, cn_21, cn_22, cn_23, cn_24, cn_25, cn_26, cn_27, cn_28, cn_29, cn_30, cn_31, cn_32, cn_33, cn_34, cn_35, cn_36, cn_37, cn_38, cn_39, cn_40, cn_41, cn_42, cn_43, cn_44, cn_45, cn_46, cn_47, cn_48, cn_49, cn_50, cn_51, cn_52, cn_53, cn_54, cn_55, Nat.reduceAdd, Nat.reduceLT, Nat.reduceLeDiff, Nat.lt_add_one, Nat.zero_lt_succ, Nat.reduceSub, ite_true, ite_false, reduceCtorEq, forall_const, Nat.reduceSucc, Nat.zero_add, Nat.add_zero, Nat.le_refl, Nat.zero_le, Nat.reducePow, Int.reduceNeg, Nat.reduceMul, eq_self, Int.cast_ofNat_Int, Int.toNat_natCast, iR, lR, Int.reduceEq, Int.reduceLT, Int.reduceLE, Int.reduceNe, not_false_eq_true, not_true_eq_false, false_implies, true_implies, Int.reduceAdd, Int.reduceSub, Int.reduceMul, Int.reduceToNat, implies_true, or_true, true_or, or_false, false_or, T_X11_put_, mst_r47, mst_r48, mst_r49, mst_r50, mst_r11, mst_47, mst_48, mst_49, mst_50]
        refine ⟨by omega, by omega, by omega, fun z2 => by omega, fun z2 => J_fgt [true, true, true, true, true, true, true, false, false, false, false, false] ?_⟩
        exact hK _ _ _ _ (fun j hj => ⟨by (try dsimp only); rw [if_neg (by omega)]; exact (e3 j hj).1, by (try dsimp only); rw [if_neg (by omega), if_neg (by omega)]; exact (e3 j hj).2⟩) e4 e5
  refine B_X11_margins_193 C hR _ _ _ ?_
  have i4 : (4 + (c : Int)).toNat = 4 + c := by omega
  have i8 : (8 + (c : Int)).toNat = 8 + c := by omega
  have k0 := h46 c (by omega)
  have k4 := h46 (4 + c) (by omega)
  have k8 := h46 (8 + c) (by omega)
  simp only [c_iadd, c_isub, c_imul, c_ladd, c_lsub, c_lmul, c_ineg, c_lneg, c_ic, c_lc, c_iload, c_lload, c_aload, c_istore, c_astore, c_lstore, c_iinc, c_dup, c_dup2, c_goto, c_i2l, c_l2i, c_idiv, c_ldiv, c_lrem, c_lshl, c_gi, c_gl, c_gr, c_pi, c_pz, c_pl, c_iald, c_lald, c_bald, c_aald, c_iast, c_last, c_bast, c_callV, c_callS, c_mmax, c_mmin, c_mabs, c_mmaxl, c_mabsl, c_iret, c_zret, c_lret, c_vret, c_tsw, c_lsw, c_icmp_eq, c_icmp_ne, c_icmp_lt, c_icmp_ge, c_icmp_gt, c_icmp_le, c_if_eq, c_if_ne, c_if_lt, c_if_ge, c_if_gt, c_if_le, c_lcmp_eq, c_lcmp_ne, c_lcmp_lt, c_lcmp_ge, c_lcmp_gt, c_lcmp_le, c_lraw_eq, c_lraw_lt, c_lraw_ge, c_lraw_gt, c_lraw_le, acat, scat, tswP, pops, st1, st2, klo, pad, elo, List.getElem?_cons_zero, List.getElem?_cons_succ, List.getElem?_nil, List.set_cons_zero, List.set_cons_succ, List.set_nil, Option.toList_some, Option.toList_none, List.cons_append, List.nil_append, List.length_cons, List.length_nil, stc_ap, stm_ap, false_and, and_false, and_self, true_and, and_true, Nat.reduceEqDiff, reduceIte, al_12, al_13, al_14, al_15, al_16, al_17, al_18, al_19, al_20, al_21, al_22, al_23, al_24, al_25, al_26, al_27, al_28, al_29, al_30, al_31, al_32, al_33, al_34, al_35, al_36, al_37, al_38, al_39, al_40, al_41, al_42, al_43, al_44, al_45, al_46, al_47, al_48, al_49, al_50, al_51, al_52, al_53, al_54, al_55, at_12, at_13, at_14, at_15, at_16, at_17, at_18, at_19, at_20, at_21, at_22, at_23, at_24, at_25, at_26, at_27, at_28, at_29, at_30, at_31, at_32, at_33, at_34, at_35, at_36, at_37, at_38, at_39, at_40, at_41, at_42, at_43, at_44, at_45, at_46, at_47, at_48, at_49, at_50, at_51, at_52, at_53, at_54, at_55, cn_0, cn_1, cn_2, cn_3, cn_4, cn_5, cn_6, cn_7, cn_8, cn_9, cn_10, cn_11, cn_12, cn_13, cn_14, cn_15, cn_16, cn_17, cn_18, cn_19, cn_20, cn_21, cn_22, cn_23, cn_24, cn_25, cn_26, cn_27, cn_28, cn_29, cn_30, cn_31, cn_32, cn_33, cn_34, cn_35, cn_36, cn_37, cn_38, cn_39, cn_40, cn_41, cn_42, cn_43, cn_44, cn_45, cn_46, cn_47, cn_48, cn_49, cn_50, cn_51, cn_52, cn_53, cn_54, cn_55, Nat.reduceAdd, Nat.reduceLT, Nat.reduceLeDiff, Nat.lt_add_one, Nat.zero_lt_succ, Nat.reduceSub, ite_true, ite_false, reduceCtorEq, forall_const, Nat.reduceSucc, Nat.zero_add, Nat.add_zero, Nat.le_refl, Nat.zero_le, Nat.reducePow, Int.reduceNeg, Nat.reduceMul, eq_self, Int.cast_ofNat_Int, Int.toNat_natCast, iR, lR, Int.reduceEq, Int.reduceLT, Int.reduceLE, Int.reduceNe, not_false_eq_true, not_true_eq_false, false_implies, true_implies, Int.reduceAdd, Int.reduceSub, Int.reduceMul, Int.reduceToNat, implies_true, or_true, true_or, or_false, false_or, mst_r46, mst_r11, i4, i8, k0, k4, k8]
  refine ⟨by omega, fun z => by omega, fun z => ⟨by omega, by omega, by omega, fun z1 => h237 _ ?_, fun z1 => ⟨by omega, h237 _ rfl⟩⟩⟩
  exact (hz (by omega) c (by omega)).symm
theorem mg_lv {l : Launch} {x : Xc} {M0 : Mm} (C : Cx x l cX11_margins RX11 12 1) {P : Option AV → Mm → Prop} (hR : Rx x (some .long) P) {f : Nat → Int} {n : Nat} {w own : Int} (hCE : CE M0) (h46 : ∀ j, j < 12 → M0 46 0 j = f j) (h26 : M0 11 0 26 = 2 ∨ M0 11 0 26 = 3) (hz : M0 11 0 26 = 2 → ∀ j, j < 4 → f (8 + j) = 0) (h27 : M0 11 0 27 = n) (hn : 2 ≤ n ∧ n ≤ 4) (hf : ∀ j, j < 12 → 0 ≤ f j) (h40 : sm f 12 ≤ 40) (hw : 0 ≤ w ∧ w ≤ 5) (hw1 : ¬ w = 1) (hown : lR own) (k : Nat) : mgL x M0 f n w own k := by
  induction k with
  | zero => exact mg_step C hR hCE h46 h26 hz h27 hn hf h40 hw hw1 hown 0 (fun k' h => by omega)
  | succ k ih => exact mg_step C hR hCE h46 h26 hz h27 hn hf h40 hw hw1 hown (k + 1) (fun k' h => (show k = k' by omega) ▸ ih)
