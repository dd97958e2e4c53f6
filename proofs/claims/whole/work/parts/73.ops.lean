theorem GS_cg {M M' : Mm} (h8 : M' 8 = M 8) (h27 : M' 27 = M 27) (a b : Nat) (f : Nat → Int) : GS M' a b f = GS M a b f := by
  unfold GS
  rw [h8, h27]
theorem o_span {M : Mm} (h : INV M) {a b p q : Int} (ha : iR a) (hb : iR b) (hp : iR p) (hq : iR q) : bI T_X10_span T_X11_span [zr 10 0, zi a, zi b, zi p, zi q] [zr 11 0, zi a, zi b, zi p, zi q] M := by
  obtain ⟨hS, hK, hG, hL, hE, hO⟩ := id h
  refine ⟨rfl, rfl, ha, hb, hp, hq, hS.1, hK.2.2, hK.1, fun z M1 r f f1 hst hgs hrk => ⟨_, rfl, rfl, rfl, ha, hb, hp, hq, ?_⟩, fun z => ⟨_, rfl, rfl, rfl, ha, hb, hp, hq, hS.1, hS.2, hK.2.1, fun z2 => absurd z2 z, fun _ => ⟨rfl, INV_th 0 h⟩⟩⟩
  have k1 : ∀ L : List Nat, (∀ g ∈ L, ¬ g = 6 ∧ ¬ g = 9 ∧ ¬ g = 23 ∧ ¬ g = 28 ∧ ¬ g = 29) → ∀ g : Nat, g ∈ L → M1 g = M g := fun L hL' g hg => f1 g (hL' g hg).1 (hL' g hg).2.1 (hL' g hg).2.2.1 (hL' g hg).2.2.2.1 (hL' g hg).2.2.2.2
  have e8 := k1 [8] (by decide) 8 (by decide)
  have e27 := k1 [27] (by decide) 27 (by decide)
  have e11 := k1 [11] (by decide) 11 (by decide)
  have e1 := k1 [1] (by decide) 1 (by decide)
  have hS1 := S_cg (k1 _ (by decide)) hS
  have hK1 := K_cg (k1 _ (by decide)) hK
  refine ⟨hS1.1, hS1.2, hK1.2.1, ?_⟩
  rw [two_cg e8, e8]
  refine ⟨fun _ M2 r' f' f2 f3 hst' hgs' hrm => ?_, fun z2 => absurd z z2⟩
  rw [GS_cg e8 e27] at hgs'
  obtain ⟨⟨wa, wb, wab, ww⟩, wpq⟩ := id z
  obtain ⟨na, hna⟩ : ∃ na : Nat, M 8 a.toNat 1 = na := ⟨(M 8 a.toNat 1).toNat, by omega⟩
  obtain ⟨nb, hnb⟩ : ∃ nb : Nat, M 8 b.toNat 1 = nb := ⟨(M 8 b.toNat 1).toNat, by omega⟩
  have ia := (hS.1 a.toNat (by omega)).1
  have ib := (hS.1 b.toNat (by omega)).1
  rw [hna, hnb, Int.toNat_natCast, Int.toNat_natCast] at hst hst'
  have er := step_uq wpq.1 wpq.2.1 hst hst'
  subst er
  have hnn : (na : Int) * nb = ((na * nb : Nat) : Int) := (Int.natCast_mul _ _).symm
  have hpos : 0 < na * nb := Nat.mul_pos (by omega) (by omega)
  have ef : ∀ j : Nat, j < na * nb → f' j = f j := by
    obtain ⟨s1, s2, -⟩ := hgs
    obtain ⟨t1, t2, -⟩ := hgs'
    rw [hna, hnb, hnn, Int.toNat_natCast] at s1 t1
    rw [hna, hnb, hnn, Int.toNat_natCast] at s2 t2
    exact srt_uq t1 s1 (fun v => by rw [s2 v, t2 v])
  have hr := hst.1
  rw [hna, hnb, hnn] at hrk hrm
  rw [hnn] at hr
  refine ⟨rfl, ?_⟩
  have k2 : ∀ L : List Nat, (∀ g ∈ L, ¬ g = 11 ∧ ¬ g = 34 ∧ ¬ g = 44 ∧ ¬ g = 45) → ∀ g : Nat, g ∈ L → M2 g = M1 g := fun L hL' g hg => f2 g (hL' g hg).1 (hL' g hg).2.1 (hL' g hg).2.2.1 (hL' g hg).2.2.2
  have F : ∀ L : List Nat, (∀ g ∈ L, (¬ g = 11 ∧ ¬ g = 34 ∧ ¬ g = 44 ∧ ¬ g = 45) ∧ (¬ g = 6 ∧ ¬ g = 9 ∧ ¬ g = 23 ∧ ¬ g = 28 ∧ ¬ g = 29)) → ∀ g : Nat, g ∈ L → M2 g = M g := fun L hL' g hg => (k2 L (fun g hg => (hL' g hg).1) g hg).trans (k1 L (fun g hg => (hL' g hg).2) g hg)
  have f11 : ∀ q : Nat, ¬ q = 2 → ¬ q = 25 → M2 11 0 q = M 11 0 q := fun q a1 a2 => by rw [f3 q a1 a2, e11]
  refine ⟨S_cg (F _ (by decide)) hS, K_cg (F _ (by decide)) hK, G_cg (F _ (by decide)) (fun k _ _ => by rw [F [1] (by decide) 1 (by decide)]) ⟨f11 _ (by decide) (by decide), f11 _ (by decide) (by decide)⟩ hG, L_cg (F _ (by decide)) (f11 _ (by decide) (by decide)) hL, ?_, O_cg (F _ (by decide)) (f11 _ (by decide) (by decide)) hO⟩
  obtain ⟨r4, r5, r6, r7, r8⟩ := hrk
  obtain ⟨m1, m2, m3, m4, m5⟩ := hrm
  unfold REI
  rw [k2 [6] (by decide) 6 (by decide), r4, r5, r6, r7, r8, m1, m2, m3, m4, m5]
  have hk400 : na * nb ≤ 20 * 20 := Nat.mul_le_mul (by omega) (by omega)
  refine ⟨Or.inr rfl, rfl, by unfold iR; omega, fun _ => ⟨?_, ?_, ?_, ?_⟩⟩
  · split
    · rw [ef _ (by omega)]
    · rfl
  · split
    · rw [ef _ (by omega)]
    · rfl
  · split <;> split <;> first | rfl | omega
  · rw [ef _ (by omega), ef _ (by omega)]
