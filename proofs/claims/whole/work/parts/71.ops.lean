theorem o_cell {M : Mm} (h : INV M) {r c v : Int} (hr : iR r) (hc : iR c) (hv : iR v) : bI T_X10_cell T2_cell [zr 10 0, zi r, zi c, zi v] [zr 11 0, zi r, zi c, zi v] M := by
  obtain ⟨hS, hK, ⟨hG, hGE⟩, hL, hE, hO⟩ := id h
  obtain ⟨g1, g2, g3, g4, g5⟩ := id hG
  obtain ⟨q1, q2, q3⟩ := id hGE
  have es : sm (M 46 0) 12 = sm (M 13 0) 12 := sm_cg q3
  have hGI2 : ∀ M1 : Mm, M1 11 = M 11 → M1 46 = M 46 → GI2 M1 := fun M1 e1 e2 => by
    unfold GI2
    rw [e1, e2, q1, q2, es, ← g3]
    exact ⟨g1, fun j hj => by rw [q3 j hj]; exact g2 j hj, g4⟩
  have key : ∀ M1 : Mm, M1 11 = M 11 → M1 46 = M 46 → (cell2 M1 r c v ↔ cellOk M r c v) := fun M1 e1 e2 => by
    unfold cell2 cellOk
    rw [e1, e2, q1, q2, es, ← g3]
    refine and_congr_right fun z1 => and_congr_right fun z2 => ?_
    unfold tabOk at g1
    rw [q3 _ (by omega)]
  refine ⟨rfl, rfl, rfl, rfl, hr, hc, hv, hG, fun q => ?_, fun q => ⟨_, rfl, rfl, rfl, hr, hc, hv, hGI2 M rfl rfl, fun z2 => absurd ((key M rfl rfl).mp z2) q, fun _ => ⟨rfl, INV_th 0 h⟩⟩⟩
  obtain ⟨M1, hM1⟩ : ∃ M1 : Mm, stm (stm M 1 0 6 (M 1 0 6 + (v - M 13 0 (4 * r.toNat + c.toNat)))) 13 0 (4 * r.toNat + c.toNat) v = M1 := ⟨_, rfl⟩
  have f1 : ∀ g : Nat, ¬ g = 1 → ¬ g = 13 → M1 g = M g := fun g a1 a2 => by rw [← hM1, stm_ne _ _ _ _ _ a2, stm_ne _ _ _ _ _ a1]
  rw [hM1]
  refine ⟨_, rfl, rfl, rfl, hr, hc, hv, hGI2 M1 (f1 11 (by decide) (by decide)) (f1 46 (by decide) (by decide)), fun _ => ⟨rfl, ?_⟩, fun z2 => absurd ((key M1 (f1 11 (by decide) (by decide)) (f1 46 (by decide) (by decide))).mpr q) z2⟩
  obtain ⟨w1, w2, w3, w4⟩ := id q
  unfold tabOk at g1
  obtain ⟨p, hp⟩ : ∃ p : Nat, 4 * r.toNat + c.toNat = p := ⟨_, rfl⟩
  rw [hp] at hM1 w4 ⊢
  obtain ⟨M2, hM2⟩ : ∃ M2 : Mm, stm (stm M1 11 0 2 0) 46 0 p v = M2 := ⟨_, rfl⟩
  rw [hM2]
  have fr : ∀ g : Nat, ¬ g = 1 → ¬ g = 13 → ¬ g = 11 → ¬ g = 46 → M2 g = M g := fun g a1 a2 a3 a4 => by rw [← hM2, stm_ne _ _ _ _ _ a4, stm_ne _ _ _ _ _ a3, f1 g a1 a2]
  have f11 : ∀ q : Nat, ¬ q = 2 → M2 11 0 q = M 11 0 q := fun q a1 => by
    rw [← hM2, ← hM1]; simp only [stc_ap, stm_ap, false_and, and_false, and_self, true_and, and_true, Nat.reduceEqDiff, reduceIte]; rw [if_neg a1]
  have e13 : ∀ j : Nat, M2 13 0 j = if j = p then v else M 13 0 j := fun j => by
    rw [← hM2, ← hM1]; simp only [stc_ap, stm_ap, false_and, and_false, and_self, true_and, and_true, Nat.reduceEqDiff, reduceIte]
  have e46 : ∀ j : Nat, M2 46 0 j = if j = p then v else M 46 0 j := fun j => by
    rw [← hM2, ← hM1]; simp only [stc_ap, stm_ap, false_and, and_false, and_self, true_and, and_true, Nat.reduceEqDiff, reduceIte]
  have F : ∀ L : List Nat, (∀ g ∈ L, ¬ g = 1 ∧ ¬ g = 13 ∧ ¬ g = 11 ∧ ¬ g = 46) → ∀ g : Nat, g ∈ L → M2 g = M g := fun L hL' g hg => fr g (hL' g hg).1 (hL' g hg).2.1 (hL' g hg).2.2.1 (hL' g hg).2.2.2
  refine ⟨S_cg (F _ (by decide)) hS, K_cg (F _ (by decide)) hK, ?_, L_cg (F _ (by decide)) (f11 _ (by decide)) hL, R_cg (F _ (by decide)) (f11 _ (by decide)) hE, O_cg (F _ (by decide)) (f11 _ (by decide)) hO⟩
  have e4 : M2 1 0 4 = M 1 0 4 := by rw [← hM2, ← hM1]; rfl
  have e5 : M2 1 0 5 = M 1 0 5 := by rw [← hM2, ← hM1]; rfl
  have e6 : M2 1 0 6 = M 1 0 6 + (v - M 13 0 p) := by rw [← hM2, ← hM1]; rfl
  have esm : sm (M2 13 0) 12 = sm (M 13 0) 12 - M 13 0 p + v := by
    rw [show M2 13 0 = fun j => if j = p then v else M 13 0 j from funext e13, sm_upd _ _ _ _ (by omega)]
  refine ⟨⟨by rw [e4, e5]; exact g1, fun j hj => ?_, by rw [e6, esm]; omega, by rw [e6]; omega, fun r' c' hr' hc' z => ?_⟩, by rw [f11 26 (by decide), e4]; exact q1, by rw [f11 27 (by decide), e5]; exact q2, fun j hj => ?_⟩
  · rw [e13]
    split
    · omega
    · exact g2 j hj
  · rw [e4, e5] at z
    rw [e13, if_neg (by omega)]
    exact g5 r' c' hr' hc' z
  · rw [e46, e13, q3 j hj]
theorem o_margins {M : Mm} (h : INV M) {w : Int} (hw : iR w) : bL T_X10_margins T_X11_margins [zr 10 0, zi w] [zr 11 0, zi w] M := by
  obtain ⟨hS, hK, hG, hL, hE, hO⟩ := id h
  refine ⟨rfl, rfl, rfl, rfl, hG.1, hK.1, hw, fun M1 f1 f2 => ?_⟩
  have kk : ∀ g : Nat, g ∈ 11 :: kg → M1 g = M g := fun g hg => f1 g (fun e => by subst e; revert hg; decide) (fun e => by subst e; revert hg; decide) (fun e => by subst e; revert hg; decide)
  have hN : INV M1 := INV_scr (fun g hg => kk g (List.mem_cons_of_mem _ hg)) (fun k _ z => f2 k z) (fun k _ => by rw [kk 11 (by decide)]) h
  refine ⟨_, rfl, rfl, rfl, hw, hN.2.2.1.1, hN.2.2.1.2, hN.2.1.2.1, fun M2 f3 f4 => ⟨?_, ?_⟩⟩
  · rw [kk 13 (by decide), f2 5 (by decide)]
  · exact INV_scr (M := stm M1 11 0 2 0) (fun g hg => by rw [stm_ne _ _ _ _ _ (fun e => by subst e; revert hg; decide)]; exact f3 g (fun e => by subst e; revert hg; decide) (fun e => by subst e; revert hg; decide) (fun e => by subst e; revert hg; decide) (fun e => by subst e; revert hg; decide) (fun e => by subst e; revert hg; decide)) (fun k _ _ => by rw [stm_ne _ _ _ _ _ (by decide), f3 1 (by decide) (by decide) (by decide) (by decide) (by decide)]) (fun k _ => by rw [f4]) (INV_th 0 hN)
