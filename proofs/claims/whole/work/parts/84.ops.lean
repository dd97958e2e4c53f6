/-! what may throw: both sides -/
def bTI (T T' : Ct) (as as' : List AV) (M : Mm) : Prop := T as M (fun r M1 => ∃ k : Int, (k = 0 ∨ k = 1) ∧ r = some (zi k) ∧ T' as' M1 (fun r' M2 => ∃ b : Int, iR b ∧ r' = some (zi b) ∧ INV M2 ∧ M2 11 0 2 = k ∧ (k = 0 → M2 55 0 0 = b)))
def bTL (T T' : Ct) (as as' : List AV) (M : Mm) : Prop := T as M (fun r M1 => ∃ k : Int, (k = 0 ∨ k = 1) ∧ r = some (zi k) ∧ T' as' M1 (fun r' M2 => ∃ b : Int, r' = some (zl b) ∧ INV M2 ∧ M2 11 0 2 = k ∧ (k = 0 → M2 55 0 0 = b)))
theorem INV_out {M : Mm} (v : Int) (h : INV M) : INV (stm M 55 0 0 v) := INV_scr (fun g hg => stm_ne _ _ _ _ _ (fun e => by subst e; revert hg; decide)) (fun k _ _ => rfl) (fun k hk => rfl) h
theorem o_number {M : Mm} (h : INV M) {a i : Int} (ha : iR a) (hi : iR i) : bTI T_L_number T_X11_number [zr 10 0, zi a, zi i, zr 55 0] [zr 11 0, zi a, zi i] M := by
  obtain ⟨hS, hK, hG, hL, hE, hO⟩ := id h
  refine ⟨rfl, rfl, rfl, rfl, ha, hi, hS.1, fun q => ⟨0, Or.inl rfl, rfl, rfl, rfl, ha, hi, ?_⟩, fun q => ⟨1, Or.inr rfl, rfl, rfl, rfl, ha, hi, hS.1, hS.2, fun q2 => absurd q2 q, fun _ => ⟨0, by unfold iR; omega, rfl, INV_th 1 (INV_th 0 h), rfl, fun z => by omega⟩⟩⟩
  have hN := INV_out (M 27 a.toNat i.toNat) h
  have hb := (hS.1 a.toNat (by omega)).2 i.toNat (by omega)
  exact ⟨hN.1.1, hN.1.2, fun _ => ⟨_, by unfold iR; show -2147483648 ≤ M 27 a.toNat i.toNat ∧ M 27 a.toNat i.toNat < 2147483648; omega, rfl, INV_th 0 hN, rfl, fun _ => rfl⟩, fun q2 => absurd q q2⟩
theorem keepR_l {M M' : Mm} (k1 : keepR M M') : ∀ L : List Nat, (∀ g ∈ L, ¬ g = 3 ∧ ¬ g = 4 ∧ ¬ g = 5 ∧ ¬ g = 9 ∧ ¬ g = 18 ∧ ¬ g = 19 ∧ ¬ g = 20 ∧ ¬ g = 21 ∧ ¬ g = 28 ∧ ¬ g = 29) → ∀ g : Nat, g ∈ L → M' g = M g := fun L hL' g hg => by
  obtain ⟨a1, a2, a3, a4, a5, a6, a7, a8, a9, a10⟩ := hL' g hg
  exact k1 g a1 a2 a3 a4 a5 a6 a7 a8 a9 a10
theorem INV_r {M M1 : Mm} (h : INV M) (k1 : keepR M M1) : INV M1 := INV_scr (keepR_l k1 kg (by decide)) (fun k _ _ => by rw [keepR_l k1 [1] (by decide) 1 (by decide)]) (fun k _ => by rw [keepR_l k1 [11] (by decide) 11 (by decide)]) h
theorem INV_g {M M2 : Mm} (h : INV M) (k2 : keepG M M2) : INV M2 := by
  have F : ∀ L : List Nat, (∀ g ∈ L, ¬ g = 11 ∧ (g < 34 ∨ 43 < g ∨ g = 37)) → ∀ g : Nat, g ∈ L → M2 g = M g := fun L hL' g hg => k2.1 g (hL' g hg).1 (hL' g hg).2
  refine INV_scr (F kg (by decide)) (fun k _ _ => by rw [F [1] (by decide) 1 (by decide)]) (fun k hk => ?_) h
  have : (11 < k) ∧ ¬ k = 2 ∧ ¬ k = 15 ∧ ¬ k = 18 ∧ ¬ k = 20 := by revert k; decide
  exact k2.2 k (Or.inr this.1) this.2.1 this.2.2.1 this.2.2.2.1 this.2.2.2.2
theorem o_score {M : Mm} (h : INV M) {t a b : Int} (ht : iR t) (ha : iR a) (hb : iR b) : bTL T_L_score T_X11_score [zr 10 0, zi t, zi a, zi b, zr 55 0] [zr 11 0, zi t, zi a, zi b] M := by
  obtain ⟨hS, hK, hG, hL, hE, hO⟩ := id h
  refine ⟨rfl, rfl, rfl, rfl, ht, ha, hb, hS.1, hK.1, fun q M1 v k1 hv => ⟨0, Or.inl rfl, rfl, rfl, rfl, ht, ha, hb, ?_⟩, fun q => ⟨1, Or.inr rfl, rfl, rfl, rfl, ht, ha, hb, hS.1, hS.2, hK.2.1, fun q2 => absurd q2 q, fun _ => ⟨0, rfl, INV_th 1 h, rfl, fun z => by omega⟩⟩⟩
  have hN := INV_out v (INV_r h k1)
  have e8 : stm M1 55 0 0 v 8 = M 8 := by rw [stm_ne _ _ _ _ _ (by decide)]; exact keepR_l k1 [8] (by decide) 8 (by decide)
  have e27 : stm M1 55 0 0 v 27 = M 27 := by rw [stm_ne _ _ _ _ _ (by decide)]; exact keepR_l k1 [27] (by decide) 27 (by decide)
  refine ⟨hN.1.1, hN.1.2, hN.2.1.2.1, fun _ M2 ks tt th ft fl k2 k3 hA => ⟨th, rfl, INV_g hN k2, k3, fun _ => ?_⟩, fun q2 => absurd (by rw [can_cg e8 e27]; exact q) q2⟩
  obtain ⟨-, ⟨wa, wb, wab, wz⟩, -⟩ := id q
  rw [k2.1 55 (by decide) (by decide), ← hv ks tt th ft fl (ANS_c2 e8 e27 (by omega) hA)]
  rfl
theorem o_total {M : Mm} (h : INV M) {t a b : Int} (ht : iR t) (ha : iR a) (hb : iR b) : bTL T_L_total T_X11_total [zr 10 0, zi t, zi a, zi b, zr 55 0] [zr 11 0, zi t, zi a, zi b] M := by
  obtain ⟨hS, hK, hG, hL, hE, hO⟩ := id h
  refine ⟨rfl, rfl, rfl, rfl, ht, ha, hb, hS.1, hK.1, fun q M1 v k1 hv => ⟨0, Or.inl rfl, rfl, rfl, rfl, ht, ha, hb, ?_⟩, fun q => ⟨1, Or.inr rfl, rfl, rfl, rfl, ht, ha, hb, hS.1, hS.2, hK.2.1, fun q2 => absurd q2 q, fun _ => ⟨0, rfl, INV_th 1 h, rfl, fun z => by omega⟩⟩⟩
  have hN := INV_out v (INV_r h k1)
  have e8 : stm M1 55 0 0 v 8 = M 8 := by rw [stm_ne _ _ _ _ _ (by decide)]; exact keepR_l k1 [8] (by decide) 8 (by decide)
  have e27 : stm M1 55 0 0 v 27 = M 27 := by rw [stm_ne _ _ _ _ _ (by decide)]; exact keepR_l k1 [27] (by decide) 27 (by decide)
  refine ⟨hN.1.1, hN.1.2, hN.2.1.2.1, fun _ M2 ks tt th ft fl k2 k3 hA => ⟨tt, rfl, INV_g hN k2, k3, fun _ => ?_⟩, fun q2 => absurd (by rw [can_cg e8 e27]; exact q) q2⟩
  obtain ⟨-, ⟨wa, wb, wab, wz⟩, -⟩ := id q
  rw [k2.1 55 (by decide) (by decide), ← hv ks tt th ft fl (ANS_c2 e8 e27 (by omega) hA)]
  rfl
theorem o_count {M : Mm} (h : INV M) {t a b sd : Int} (ht : iR t) (ha : iR a) (hb : iR b) (hsd : iR sd) : bTL T_L_count T_X11_count [zr 10 0, zi t, zi a, zi b, zi sd, zr 55 0] [zr 11 0, zi t, zi a, zi b, zi sd] M := by
  obtain ⟨hS, hK, hG, hL, hE, hO⟩ := id h
  refine ⟨rfl, rfl, rfl, rfl, ht, ha, hb, hsd, hS.1, hK.1, fun q M1 v tt0 k1 hv => ⟨0, Or.inl rfl, rfl, rfl, rfl, ht, ha, hb, hsd, ?_⟩, fun q => ⟨1, Or.inr rfl, rfl, rfl, rfl, ht, ha, hb, hsd, hS.1, hS.2, hK.2.1, fun q2 => absurd q2 q, fun _ => ⟨0, rfl, INV_th 1 h, rfl, fun z => by omega⟩⟩⟩
  have hN := INV_out v (INV_r h k1)
  have e8 : stm M1 55 0 0 v 8 = M 8 := by rw [stm_ne _ _ _ _ _ (by decide)]; exact keepR_l k1 [8] (by decide) 8 (by decide)
  have e27 : stm M1 55 0 0 v 27 = M 27 := by rw [stm_ne _ _ _ _ _ (by decide)]; exact keepR_l k1 [27] (by decide) 27 (by decide)
  refine ⟨hN.1.1, hN.1.2, hN.2.1.2.1, fun _ M2 ks tt th ft fl k2 k3 hA => ⟨_, rfl, INV_g hN k2, k3, fun _ => ?_⟩, fun q2 => absurd (by rw [can_cg e8 e27]; exact q) q2⟩
  obtain ⟨-, ⟨wa, wb, wab, wz⟩, -⟩ := id q.1
  rw [k2.1 55 (by decide) (by decide), ← (hv ks tt th ft fl (ANS_c2 e8 e27 (by omega) hA)).1]
  rfl
theorem o_spread {M : Mm} (h : INV M) {t a b : Int} (ht : iR t) (ha : iR a) (hb : iR b) : bTI T_L_spread T_X11_spread [zr 10 0, zi t, zi a, zi b, zr 55 0] [zr 11 0, zi t, zi a, zi b] M := by
  obtain ⟨hS, hK, hG, hL, hE, hO⟩ := id h
  refine ⟨rfl, rfl, rfl, rfl, ht, ha, hb, hS.1, hK.1, fun q M1 k1 hb2 hv => ⟨0, Or.inl rfl, rfl, rfl, rfl, ht, ha, hb, ?_⟩, fun q => ⟨1, Or.inr rfl, rfl, rfl, rfl, ht, ha, hb, hS.1, hS.2, hK.2.1, fun q2 => absurd q2 q, fun _ => ⟨0, by unfold iR; omega, rfl, INV_th 1 h, rfl, fun z => by omega⟩⟩⟩
  obtain ⟨N1, hN1⟩ : ∃ N1 : Mm, stm M1 55 0 0 (M1 2 0 2) = N1 := ⟨_, rfl⟩
  rw [hN1]
  have kL : ∀ L : List Nat, (∀ g ∈ L, ¬ g = 55 ∧ ¬ g = 3 ∧ ¬ g = 4 ∧ ¬ g = 5 ∧ ¬ g = 9 ∧ ¬ g = 18 ∧ ¬ g = 19 ∧ ¬ g = 20 ∧ ¬ g = 21 ∧ ¬ g = 28 ∧ ¬ g = 29 ∧ ¬ g = 2 ∧ ¬ g = 16 ∧ ¬ g = 17) → ∀ g : Nat, g ∈ L → N1 g = M g := fun L hL' g hg => by
    obtain ⟨a0, a1, a2, a3, a4, a5, a6, a7, a8, a9, a10, a11, a12, a13⟩ := hL' g hg
    rw [← hN1, stm_ne _ _ _ _ _ a0]
    exact k1 g a1 a2 a3 a4 a5 a6 a7 a8 a9 a10 a11 a12 a13
  have e8 := kL [8] (by decide) 8 (by decide)
  have e27 := kL [27] (by decide) 27 (by decide)
  have e11 := kL [11] (by decide) 11 (by decide)
  have hS1 := S_cg (kL _ (by decide)) hS
  refine ⟨hS1.1, hS1.2, CE_cg (kL [33] (by decide) 33 (by decide)) hK.2.1, fun _ M2 ks tt th ft fl k2 k3 k4 hA hn hl => ?_, fun q2 => absurd (by rw [can_cg e8 e27]; exact q) q2⟩
  obtain ⟨-, ⟨wa, wb, wab, wz⟩, wn, -⟩ := id q
  have hA' := ANS_c2 e8 e27 (by omega) hA
  obtain ⟨v1, v2⟩ := hv ks tt th ft fl hA'
  have hok := (ANS_ok hS.1 (by omega) (by omega) wn hA').1
  have F1 : ∀ L : List Nat, (∀ g ∈ L, ¬ g = 11 ∧ (g < 34 ∨ 43 < g)) → ∀ g : Nat, g ∈ L → M2 g = N1 g := fun L hL' g hg => k2 g (hL' g hg).1 (hL' g hg).2
  have F : ∀ L : List Nat, (∀ g ∈ L, (¬ g = 11 ∧ (g < 34 ∨ 43 < g)) ∧ (¬ g = 55 ∧ ¬ g = 3 ∧ ¬ g = 4 ∧ ¬ g = 5 ∧ ¬ g = 9 ∧ ¬ g = 18 ∧ ¬ g = 19 ∧ ¬ g = 20 ∧ ¬ g = 21 ∧ ¬ g = 28 ∧ ¬ g = 29 ∧ ¬ g = 2 ∧ ¬ g = 16 ∧ ¬ g = 17)) → ∀ g : Nat, g ∈ L → M2 g = M g := fun L hL' g hg => (F1 L (fun g hg => (hL' g hg).1) g hg).trans (kL L (fun g hg => (hL' g hg).2) g hg)
  have f11 : ∀ k : Nat, 11 < k → ¬ k = 13 → ¬ k = 15 → ¬ k = 18 → ¬ k = 20 → M2 11 0 k = M 11 0 k := fun k a1 a2 a3 a4 a5 => by rw [k3 k (Or.inr a1) (by omega) a2 a3 a4 a5, e11]
  have e2 : M2 2 = M1 2 := by rw [F1 [2] (by decide) 2 (by decide), ← hN1, stm_ne _ _ _ _ _ (by decide)]
  have e16 : M2 16 = M1 16 := by rw [F1 [16] (by decide) 16 (by decide), ← hN1, stm_ne _ _ _ _ _ (by decide)]
  have e17 : M2 17 = M1 17 := by rw [F1 [17] (by decide) 17 (by decide), ← hN1, stm_ne _ _ _ _ _ (by decide)]
  refine ⟨ks.length, by unfold iR; omega, rfl, ⟨S_cg (F _ (by decide)) hS, K_cg (F _ (by decide)) hK, G_cg (F _ (by decide)) (fun k _ _ => by rw [F [1] (by decide) 1 (by decide)]) ⟨f11 _ (by decide) (by decide) (by decide) (by decide) (by decide), f11 _ (by decide) (by decide) (by decide) (by decide) (by decide)⟩ hG, ?_, R_cg (F _ (by decide)) (f11 _ (by decide) (by decide) (by decide) (by decide) (by decide)) hE, O_cg (F _ (by decide)) (f11 _ (by decide) (by decide) (by decide) (by decide) (by decide)) hO⟩, k4, fun _ => ?_⟩
  · unfold LDI
    rw [e2, e16, e17, hn, v1]
    refine ⟨by omega, by omega, fun q hq hq2 => ?_⟩
    have hlt : q < ks.length := by omega
    obtain ⟨⟨sc, c⟩, hget⟩ : ∃ z : Int × Int, ks[q]? = some z := ⟨_, List.getElem?_eq_getElem hlt⟩
    obtain ⟨w1, w2⟩ := v2 q sc c hq hget
    obtain ⟨w3, w4⟩ := hl q sc c hq hget
    rw [w1, w2, w3, w4]
    exact ⟨rfl, rfl⟩
  · rw [F1 [55] (by decide) 55 (by decide), ← hN1]
    show M1 2 0 2 = _
    exact v1
