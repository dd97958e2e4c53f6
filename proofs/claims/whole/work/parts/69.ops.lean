theorem o_turn {M : Mm} (h : INV M) {a k c : Int} (ha : iR a) (hk : iR k) (hc : iR c) : bI T_X10_turn T2_turn [zr 10 0, zi a, zi k, zi c] [zr 11 0, zi a, zi k, zi c] M := by
  obtain ⟨hS, hK, hG, hL, hE, hO⟩ := id h
  have key : ∀ M1 : Mm, M1 31 = M 31 → M1 32 = M 32 → (turn2 M1 a k c ↔ turnOk M a k c) := fun M1 e1 e2 => by
    unfold turn2 turnOk
    rw [e1, e2]
    refine and_congr_right fun wa => and_congr_right fun _ => and_congr_right fun _ => ?_
    obtain ⟨i1, i2⟩ := hS.2 a.toNat (by omega)
    unfold within5
    rw [i1]
    exact forall_congr' fun j => ⟨fun z hj => by rw [← i2 j hj]; exact z hj, fun z hj => by have := z hj; rw [← i2 j hj] at this; exact this⟩
  refine ⟨rfl, rfl, ha, hk, hc, hS.1, fun q => ?_, fun q => ⟨_, rfl, rfl, rfl, ha, hk, hc, NI_of rfl rfl hS, fun q2 => absurd ((key M rfl rfl).mp q2) q, fun _ => ⟨rfl, INV_th 0 h⟩⟩⟩
  obtain ⟨wa, wk, wc, wi⟩ := id q
  obtain ⟨s0, hs0⟩ : ∃ s0 : Nat, a = s0 := ⟨a.toNat, by omega⟩
  subst hs0
  simp only [Int.toNat_natCast] at wi ⊢
  obtain ⟨M1, hM1⟩ : ∃ M1 : Mm, stc M 27 s0 (fun j => if (j : Int) < M 8 s0 1 then M 27 s0 j * k + c else M 27 s0 j) = M1 := ⟨_, rfl⟩
  have f1 : ∀ g : Nat, ¬ g = 27 → M1 g = M g := fun g a1 => by rw [← hM1, stc_ne _ _ _ _ a1]
  rw [hM1]
  refine ⟨_, rfl, rfl, rfl, ha, hk, hc, NI_of (f1 31 (by decide)) (f1 32 (by decide)) hS, fun _ f hf1 hf2 => ⟨rfl, ?_⟩, fun q2 => absurd ((key M1 (f1 31 (by decide)) (f1 32 (by decide))).mpr q) q2⟩
  simp only [Int.toNat_natCast] at hf1 hf2
  rw [f1 31 (by decide), f1 32 (by decide)] at hf1 hf2
  obtain ⟨w1, w2⟩ := hS.2 s0 (by omega)
  have w3 := (hS.1 s0 (by omega)).1
  rw [w1] at hf1 hf2
  obtain ⟨M2, hM2⟩ : ∃ M2 : Mm, stc (stm M1 11 0 2 0) 31 0 f = M2 := ⟨_, rfl⟩
  rw [hM2]
  have fr : ∀ g : Nat, ¬ g = 27 → ¬ g = 11 → ¬ g = 31 → M2 g = M g := fun g a1 a3 a5 => by rw [← hM2, stc_ne _ _ _ _ a5, stm_ne _ _ _ _ _ a3, f1 g a1]
  have f11 : ∀ q : Nat, ¬ q = 2 → M2 11 0 q = M 11 0 q := fun q hq => by
    rw [← hM2, ← hM1]; simp only [stc_ap, stm_ap, false_and, and_false, and_self, true_and, and_true, Nat.reduceEqDiff, reduceIte]; rw [if_neg hq]
  have g27 : ∀ s j : Nat, M2 27 s j = if s = s0 then (if (j : Int) < M 8 s0 1 then M 27 s0 j * k + c else M 27 s0 j) else M 27 s j := fun s j => by
    rw [← hM2, ← hM1]; simp only [stc_ap, stm_ap, false_and, and_false, and_self, true_and, and_true, Nat.reduceEqDiff, reduceIte]; split <;> rfl
  have g31 : M2 31 0 = f := by
    rw [← hM2, stc_self]
  have F : ∀ L : List Nat, (∀ g ∈ L, ¬ g = 27 ∧ ¬ g = 11 ∧ ¬ g = 31) → ∀ g : Nat, g ∈ L → M2 g = M g := fun L hL' g hg => fr g (hL' g hg).1 (hL' g hg).2.1 (hL' g hg).2.2
  refine ⟨⟨fun s hs => ?_, fun s hs => ?_⟩, K_cg (F _ (by decide)) hK, G_cg (F _ (by decide)) (fun k _ _ => by rw [fr 1 (by decide) (by decide) (by decide)]) ⟨f11 _ (by decide), f11 _ (by decide)⟩ hG, L_cg (F _ (by decide)) (f11 _ (by decide)) hL, R_cg (F _ (by decide)) (f11 _ (by decide)) hE, O_cg (F _ (by decide)) (f11 _ (by decide)) hO⟩
  · obtain ⟨i1, i2⟩ := hS.1 s hs
    rw [fr 8 (by decide) (by decide) (by decide)]
    refine ⟨i1, fun j hj => ?_⟩
    rw [g27]
    by_cases e : s = s0
    · subst e
      rw [if_pos rfl, if_pos hj]
      exact wi j hj
    · rw [if_neg e]
      exact i2 j hj
  · obtain ⟨i1, i2⟩ := hS.2 s hs
    rw [fr 8 (by decide) (by decide) (by decide), fr 32 (by decide) (by decide) (by decide), g31]
    refine ⟨i1, fun j hj => ?_⟩
    rw [g27]
    by_cases e : s = s0
    · subst e
      rw [if_pos rfl, if_pos hj, hf1 j hj, w2 j hj]
    · rw [if_neg e, ← i2 j hj]
      have := (hS.1 s hs).1
      exact hf2 _ (by omega)
/-- both sides may have changed scratch alone -/
theorem INV_two {M M1 M2 : Mm} (hk1 : ∀ g : Nat, g ∈ 11 :: kg → M1 g = M g) (h1 : ∀ k : Nat, 4 ≤ k → k ≤ 6 → M1 1 0 k = M 1 0 k) (hk2 : ∀ g : Nat, g ∈ 1 :: kg → M2 g = M1 g) (h11 : ∀ k : Nat, k ∈ [13, 25, 26, 27, 33] → M2 11 0 k = M1 11 0 k) (h : INV M) : INV M2 := by
  refine INV_scr (M := M1) (fun g hg => hk2 g (List.mem_cons_of_mem _ hg)) (fun k _ _ => by rw [hk2 1 (by decide)]) h11 (INV_scr (fun g hg => hk1 g (List.mem_cons_of_mem _ hg)) h1 (fun k _ => by rw [hk1 11 (by decide)]) h)
theorem drk_pol {M M1 : Mm} (h8 : M1 8 = M 8) (h27 : M1 27 = M 27) (a b : Nat) (hn : 0 ≤ M 8 a 1 + M 8 b 1) (v : Int) : drk (pol M1 a b) (M 8 a 1 + M 8 b 1).toNat v = drk (pol M a b) (M 8 a 1 + M 8 b 1).toNat v := drk_cg (fun j hj => pol_cg h8 h27 a b (by omega)) v
theorem o_rank {M : Mm} (h : INV M) {a b k : Int} (ha : iR a) (hb : iR b) (hk : iR k) : bI T_X10_rank T_X11_rank [zr 10 0, zi a, zi b, zi k] [zr 11 0, zi a, zi b, zi k] M := by
  obtain ⟨hS, hK, hG, hL, hE, hO⟩ := id h
  refine ⟨rfl, rfl, ha, hb, hk, hS.1, fun q M1 f1 => ⟨_, rfl, rfl, rfl, ha, hb, hk, ?_⟩, fun q => ⟨_, rfl, rfl, rfl, ha, hb, hk, hS.1, hS.2, fun q2 => absurd q2.1 q, fun _ => ⟨rfl, INV_th 0 h⟩⟩⟩
  have e8 := f1 8 (by decide) (by decide)
  have e27 := f1 27 (by decide) (by decide)
  have kk : ∀ g : Nat, g ∈ 11 :: kg → M1 g = M g := fun g hg => f1 g (fun e => by subst e; revert hg; decide) (fun e => by subst e; revert hg; decide)
  have hS1 := S_cg (fun g hg => kk g (by revert g; decide)) hS
  have hN : INV M1 := INV_scr (fun g hg => kk g (List.mem_cons_of_mem _ hg)) (fun k _ _ => by rw [f1 1 (by decide) (by decide)]) (fun k _ => by rw [kk 11 (by decide)]) h
  have hn : 0 ≤ M 8 a.toNat 1 + M 8 b.toNat 1 := by have := q.2.2.2; omega
  refine ⟨hS1.1, hS1.2, ?_⟩
  rw [two_cg e8, e8]
  refine ⟨fun q2 M2 f2 f3 => ⟨?_, ?_⟩, fun q2 => ⟨?_, INV_th 0 hN⟩⟩
  · rw [if_pos q2.2, drk_pol e8 e27 _ _ hn, pol_cg e8 e27 _ _ (by omega)]
  · exact INV_scr (fun g hg => f2 g (fun e => by subst e; revert hg; decide) (fun e => by subst e; revert hg; decide) (fun e => by subst e; revert hg; decide)) (fun k _ _ => by rw [f2 1 (by decide) (by decide) (by decide)]) (fun k hk => f3 k (fun e => by subst e; revert hk; decide) (fun e => by subst e; revert hk; decide)) hN
  · rw [if_neg fun z => q2 ⟨q, z⟩]
theorem o_noughts {M : Mm} (h : INV M) {a b : Int} (ha : iR a) (hb : iR b) : bI T_X10_noughts T_X11_noughts [zr 10 0, zi a, zi b] [zr 11 0, zi a, zi b] M := by
  obtain ⟨hS, hK, hG, hL, hE, hO⟩ := id h
  refine ⟨rfl, rfl, ha, hb, hS.1, fun q M1 f1 => ⟨_, rfl, rfl, rfl, ha, hb, ?_⟩, fun q => ⟨_, rfl, rfl, rfl, ha, hb, hS.1, hS.2, fun q2 => absurd q2 q, fun _ => ⟨rfl, INV_th 0 h⟩⟩⟩
  have e8 := f1 8 (by decide) (by decide) (by decide)
  have kk : ∀ g : Nat, g ∈ 11 :: kg → M1 g = M g := fun g hg => f1 g (fun e => by subst e; revert hg; decide) (fun e => by subst e; revert hg; decide) (fun e => by subst e; revert hg; decide)
  have hS1 := S_cg (fun g hg => kk g (by revert g; decide)) hS
  have hN : INV M1 := INV_scr (fun g hg => kk g (List.mem_cons_of_mem _ hg)) (fun k _ _ => by rw [f1 1 (by decide) (by decide) (by decide)]) (fun k _ => by rw [kk 11 (by decide)]) h
  refine ⟨hS1.1, hS1.2, ?_⟩
  rw [two_cg e8, e8, dif_cg (kk 27 (by decide))]
  refine ⟨fun q2 M2 f2 f3 => ⟨rfl, ?_⟩, fun q2 => absurd q q2⟩
  exact INV_scr (fun g hg => f2 g (fun e => by subst e; revert hg; decide) (fun e => by subst e; revert hg; decide) (fun e => by subst e; revert hg; decide)) (fun k _ _ => by rw [f2 1 (by decide) (by decide) (by decide)]) (fun k hk => f3 k (fun e => by subst e; revert hk; decide) (fun e => by subst e; revert hk; decide) (fun e => by subst e; revert hk; decide)) hN
theorem o_row {M : Mm} (h : INV M) {k w : Int} (hk : iR k) (hw : iR w) : bL T_X10_row T_X11_row [zr 10 0, zi k, zi w] [zr 11 0, zi k, zi w] M := by
  obtain ⟨hS, hK, hG, ⟨l1, l2, l3⟩, hE, hO⟩ := id h
  have fin : ∀ z : Int, z = (if (0 ≤ k ∧ k < M 11 0 13) ∧ (0 ≤ w ∧ w ≤ 1) then M 37 0 (2 * k + w).toNat else -1) → ∃ z' : Int, some (zl z) = some (zl z') ∧ T_X11_row [zr 11 0, zi k, zi w] M (fun r' M2 => r' = some (zl z') ∧ INV M2) := fun z hz => ⟨z, rfl, rfl, rfl, hk, hw, by omega, by rw [hz], INV_th 0 h⟩
  refine ⟨rfl, rfl, hk, hw, by unfold iR; omega, fun q => fin _ ?_, fun q => fin _ ?_, fun q => fin _ ?_⟩
  · rw [if_pos (by omega), show (2 * k + w).toNat = 2 * k.toNat by omega, (l3 k.toNat (by omega) (by omega)).1]
  · rw [if_pos (by omega), show (2 * k + w).toNat = 2 * k.toNat + 1 by omega, (l3 k.toNat (by omega) (by omega)).2]
  · rw [if_neg (by omega)]
theorem o_ends {M : Mm} (h : INV M) {w : Int} (hw : iR w) : bI T_X10_ends T_X11_ends [zr 10 0, zi w] [zr 11 0, zi w] M := by
  obtain ⟨hS, hK, hG, hL, ⟨e1, e2, e3, e4⟩, hO⟩ := id h
  refine ⟨rfl, rfl, hw, e1, e3, _, rfl, rfl, rfl, hw, by omega, ?_, INV_th 0 h⟩
  rw [e2]
  rcases e1 with e1 | e1
  · rw [if_neg (by omega), if_pos e1]
  · obtain ⟨u0, u1, u2, u3⟩ := e4 e1
    rw [if_neg (show ¬ M 6 0 4 = 0 by omega)]
    by_cases w0 : w = 0
    · subst w0; rw [if_pos (by omega), if_pos rfl, ← u0]; rfl
    · rw [if_neg w0]
      by_cases w1 : w = 1
      · subst w1; rw [if_pos (by omega), if_pos rfl, ← u1]; rfl
      · rw [if_neg w1]
        by_cases w2 : w = 2
        · subst w2; rw [if_pos (by omega), if_pos rfl, ← u2]; rfl
        · rw [if_neg w2]
          by_cases w3 : w = 3
          · subst w3; rw [if_pos (by omega), if_pos rfl, ← u3]; rfl
          · rw [if_neg w3, if_neg (by omega)]
