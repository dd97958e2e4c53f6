theorem o_pairs {M : Mm} (h : INV M) {a b u : Int} (ha : iR a) (hb : iR b) (hu : iR u) : bL T_X10_pairs T_X11_pairs [zr 10 0, zi a, zi b, zi u] [zr 11 0, zi a, zi b, zi u] M := by
  obtain ⟨hS, hK, hG, hL, hE, hO⟩ := id h
  refine ⟨rfl, rfl, ha, hb, hu, hS.1, hK.2.2, fun q M1 f1 => ⟨_, rfl, rfl, rfl, ha, hb, hu, ?_⟩, fun q => ⟨_, rfl, rfl, rfl, ha, hb, hu, hS.1, hS.2, fun q2 => absurd q2.2 q.2, fun _ => ⟨rfl, INV_th 0 h⟩, fun q2 => absurd q.1 q2⟩, fun q => ⟨_, rfl, rfl, rfl, ha, hb, hu, hS.1, hS.2, fun q2 => absurd q2.1 q, fun q2 => absurd q2.1 q, fun _ => ⟨rfl, INV_th 0 h⟩⟩⟩
  have e8 := f1 8 (by decide) (by decide) (by decide)
  have kk : ∀ g : Nat, g ∈ 11 :: kg → M1 g = M g := fun g hg => f1 g (fun e => by subst e; revert hg; decide) (fun e => by subst e; revert hg; decide) (fun e => by subst e; revert hg; decide)
  have hS1 := S_cg (fun g hg => kk g (by revert g; decide)) hS
  have hN : INV M1 := INV_scr (fun g hg => kk g (List.mem_cons_of_mem _ hg)) (fun k _ _ => by rw [f1 1 (by decide) (by decide) (by decide)]) (fun k _ => by rw [kk 11 (by decide)]) h
  refine ⟨hS1.1, hS1.2, ?_⟩
  rw [two_cg e8, e8]
  refine ⟨fun q2 c => ⟨rfl, ?_⟩, fun q2 => absurd q.2 q2.2, fun q2 => absurd q.1 q2⟩
  have hN' := INV_th 0 hN
  exact INV_scr (fun g hg => stc_ne _ _ _ _ (fun e => by subst e; revert hg; decide)) (fun k _ _ => by rw [stc_ne _ _ _ _ (by decide)]) (fun k hk => by rw [stc_ne _ _ _ _ (by decide)]) hN'
theorem o_asked {M : Mm} (h : INV M) {i w : Int} (hi : iR i) (hw : iR w) : bL T_X10_asked T_X11_asked [zr 10 0, zi i, zi w] [zr 11 0, zi i, zi w] M := by
  obtain ⟨hS, hK, hG, hL, hE, ⟨⟨o1, o2⟩, o3, o4⟩⟩ := id h
  have fin : ∀ z : Int, z = (if 0 ≤ i ∧ i < M 11 0 33 then (if w = 0 then M 51 0 i.toNat else if w = 1 then M 52 0 i.toNat else if w = 2 then M 53 0 i.toNat else -1) else -1) → ∃ z' : Int, some (zl z) = some (zl z') ∧ T_X11_asked [zr 11 0, zi i, zi w] M (fun r' M2 => r' = some (zl z') ∧ INV M2) := fun z hz => ⟨z, rfl, rfl, rfl, hi, hw, by omega, fun j hj => by rw [(o4 j (by omega)).2.2]; exact (o2 j (by omega)).2.2, by rw [hz], INV_th 0 h⟩
  refine ⟨rfl, rfl, hi, hw, o1, fun j hj => (o2 j hj).2.2, fun q => fin _ ?_, fun q => fin _ ?_, fun q => fin _ ?_, fun q => fin _ ?_⟩
  · rw [if_pos (by omega), if_pos q.2.2, (o4 i.toNat (by omega)).1]
  · rw [if_pos (by omega), if_neg (by omega), if_pos q.2.2, (o4 i.toNat (by omega)).2.1]
  · rw [if_pos (by omega), if_neg (by omega), if_neg (by omega), if_pos q.2.2, (o4 i.toNat (by omega)).2.2]
  · by_cases c : 0 ≤ i ∧ i < M 11 0 33
    · rw [if_pos c, if_neg (by omega), if_neg (by omega), if_neg (by omega)]
    · rw [if_neg c]
theorem hlD_cg {c c' t t' : Nat → Int} {n p q r : Int} {line : Nat → Nat} {df : Nat → Int} (hc : ∀ j : Nat, (j : Int) < n → c j = c' j ∧ t j = t' j) (h : hlD c t n p q r line df) : hlD c' t' n p q r line df := by
  have hp : ∀ k : Nat, pkd c t n line k → pkd c' t' n line k := fun k z => ⟨z.1, z.2.1, fun j hj hs => by
    have z3 := z.2.2 j hj hs
    unfold prec shl at z3 ⊢
    rw [← (hc j hj).1, ← (hc j hj).2, ← (hc _ z.1).1, ← (hc _ z.1).2]
    exact z3⟩
  have hq : ∀ k : Nat, pkd c t n line k → (pss c' t' n p q (line k) k ↔ pss c t n p q (line k) k) := fun k z => by
    unfold pss
    rw [← (hc _ z.1).1, ← (hc _ z.1).2]
  obtain ⟨h1, h2, h3, h4⟩ := h
  exact ⟨h1, fun k hk => ⟨hp k (h2 k hk).1, (hq k (h2 k hk).1).mpr (h2 k hk).2⟩, fun hr => ⟨hp _ (h3 hr).1, fun z => (h3 hr).2 ((hq _ (h3 hr).1).mp z)⟩, h4⟩
theorem o_held {M : Mm} (h : INV M) {p q : Int} (hp : iR p) (hq : iR q) : bI T_X10_held T_X11_held [zr 10 0, zi p, zi q] [zr 11 0, zi p, zi q] M := by
  obtain ⟨hS, hK, hG, hL, hE, ⟨⟨o1, o2⟩, o3, o4⟩⟩ := id h
  have hli : LI (M 51 0) (M 52 0) (M 53 0) (M 11 0 33) := by
    refine ⟨by omega, fun j hj => ?_⟩
    obtain ⟨u1, u2, u3⟩ := o4 j (by omega)
    rw [u1, u2, u3]
    exact o2 j (by omega)
  refine ⟨rfl, rfl, hp, hq, ⟨o1, o2⟩, fun z r line df hh => ⟨_, rfl, rfl, rfl, hp, hq, hli, fun _ r' line' L df' hh' => ?_, fun z2 => absurd z z2⟩, fun z => ⟨_, rfl, rfl, rfl, hp, hq, hli, fun z2 => absurd z2 z, fun _ => ⟨rfl, INV_th 0 h⟩⟩⟩
  have hh2 : hlD (M 51 0) (M 52 0) (M 11 0 33) p q r' line' df' := hh'
  rw [o3] at hh2
  obtain ⟨er, ed⟩ := hlD_eq (fun j hj => (o2 j hj).2.1.1) (hlD_cg (fun j hj => ⟨(o4 j hj).1, (o4 j hj).2.1⟩) hh2) hh
  refine ⟨by rw [er], ?_⟩
  obtain ⟨M2, hM2⟩ : ∃ M2 : Mm, stc (stc (stm (stc M 26 0 df) 11 0 2 0) 54 0 L) 53 0 df' = M2 := ⟨_, rfl⟩
  rw [hM2]
  have fr : ∀ g : Nat, ¬ g = 26 → ¬ g = 11 → ¬ g = 54 → ¬ g = 53 → M2 g = M g := fun g a1 a2 a3 a4 => by rw [← hM2, stc_ne _ _ _ _ a4, stc_ne _ _ _ _ a3, stm_ne _ _ _ _ _ a2, stc_ne _ _ _ _ a1]
  have f11 : ∀ q : Nat, ¬ q = 2 → M2 11 0 q = M 11 0 q := fun q hq => by
    rw [← hM2]; simp only [stc_ap, stm_ap, false_and, and_false, and_self, true_and, and_true, Nat.reduceEqDiff, reduceIte]; rw [if_neg hq]
  have g26 : M2 26 0 = df := by rw [← hM2, stc_ne _ _ _ _ (by decide), stc_ne _ _ _ _ (by decide), stm_ne _ _ _ _ _ (by decide), stc_self]
  have g53 : M2 53 0 = df' := by rw [← hM2, stc_self]
  have F : ∀ L : List Nat, (∀ g ∈ L, ¬ g = 26 ∧ ¬ g = 11 ∧ ¬ g = 54 ∧ ¬ g = 53) → ∀ g : Nat, g ∈ L → M2 g = M g := fun L hL' g hg => fr g (hL' g hg).1 (hL' g hg).2.1 (hL' g hg).2.2.1 (hL' g hg).2.2.2
  refine ⟨S_cg (F _ (by decide)) hS, K_cg (F _ (by decide)) hK, G_cg (F _ (by decide)) (fun k _ _ => by rw [F [1] (by decide) 1 (by decide)]) ⟨f11 _ (by decide), f11 _ (by decide)⟩ hG, L_cg (F _ (by decide)) (f11 _ (by decide)) hL, R_cg (F _ (by decide)) (f11 _ (by decide)) hE, ?_⟩
  unfold ROI
  rw [F [7] (by decide) 7 (by decide), F [24] (by decide) 24 (by decide), F [25] (by decide) 25 (by decide), F [51] (by decide) 51 (by decide), F [52] (by decide) 52 (by decide), g26, g53, f11 33 (by decide)]
  exact ⟨⟨o1, fun j hj => ⟨(o2 j hj).1, (o2 j hj).2.1, (hh.2.2.2 j hj).1⟩⟩, o3, fun j hj => ⟨(o4 j hj).1, (o4 j hj).2.1, ed j hj⟩⟩
theorem o_anew {M : Mm} (h : INV M) : T_X10_anew [zr 10 0] M (fun r M1 => r = none ∧ T_X11_anew [zr 11 0] M1 (fun r' M2 => r' = none ∧ INV M2)) := by
  obtain ⟨hS, hK, hG, hL, hE, hO⟩ := id h
  refine ⟨rfl, rfl, rfl, rfl, rfl, rfl, ?_⟩
  obtain ⟨M2, hM2⟩ : ∃ M2 : Mm, stm (stm (stm M 7 0 3 0) 11 0 2 0) 11 0 33 0 = M2 := ⟨_, rfl⟩
  rw [hM2]
  have fr : ∀ g : Nat, ¬ g = 7 → ¬ g = 11 → M2 g = M g := fun g a1 a2 => by rw [← hM2, stm_ne _ _ _ _ _ a2, stm_ne _ _ _ _ _ a2, stm_ne _ _ _ _ _ a1]
  have f11 : ∀ q : Nat, ¬ q = 2 → ¬ q = 33 → M2 11 0 q = M 11 0 q := fun q hq hq2 => by
    rw [← hM2]; simp only [stc_ap, stm_ap, false_and, and_false, and_self, true_and, and_true, Nat.reduceEqDiff, reduceIte]; rw [if_neg hq2, if_neg hq]
  have F : ∀ L : List Nat, (∀ g ∈ L, ¬ g = 7 ∧ ¬ g = 11) → ∀ g : Nat, g ∈ L → M2 g = M g := fun L hL' g hg => fr g (hL' g hg).1 (hL' g hg).2
  refine ⟨S_cg (F _ (by decide)) hS, K_cg (F _ (by decide)) hK, G_cg (F _ (by decide)) (fun k _ _ => by rw [F [1] (by decide) 1 (by decide)]) ⟨f11 _ (by decide) (by decide), f11 _ (by decide) (by decide)⟩ hG, L_cg (F _ (by decide)) (f11 _ (by decide) (by decide)) hL, R_cg (F _ (by decide)) (f11 _ (by decide) (by decide)) hE, ?_⟩
  have e7 : M2 7 0 3 = 0 := by rw [← hM2]; rfl
  have e33 : M2 11 0 33 = 0 := by rw [← hM2]; rfl
  exact ⟨⟨by omega, fun j hj => by omega⟩, by omega, fun j hj => by omega⟩
theorem o_table {M : Mm} (h : INV M) {r c : Int} (hr : iR r) (hc : iR c) : bI T_X10_table T_X11_table [zr 10 0, zi r, zi c] [zr 11 0, zi r, zi c] M := by
  obtain ⟨hS, hK, hG, hL, hE, hO⟩ := id h
  refine ⟨rfl, rfl, rfl, rfl, hr, hc, fun z f hf => ⟨_, rfl, rfl, rfl, hr, hc, fun _ f' hf' => ⟨rfl, ?_⟩, fun z2 => absurd z z2⟩, fun z => ⟨_, rfl, rfl, rfl, hr, hc, fun z2 => absurd z2 z, fun _ => ⟨rfl, INV_th 0 h⟩⟩⟩
  obtain ⟨M2, hM2⟩ : ∃ M2 : Mm, stc (stm (stm (stm (stc (stm (stm (stm M 1 0 4 r) 1 0 5 c) 1 0 6 0) 13 0 f) 11 0 2 0) 11 0 26 r) 11 0 27 c) 46 0 f' = M2 := ⟨_, rfl⟩
  rw [hM2]
  have fr : ∀ g : Nat, ¬ g = 1 → ¬ g = 13 → ¬ g = 11 → ¬ g = 46 → M2 g = M g := fun g a1 a2 a3 a4 => by rw [← hM2, stc_ne _ _ _ _ a4, stm_ne _ _ _ _ _ a3, stm_ne _ _ _ _ _ a3, stm_ne _ _ _ _ _ a3, stc_ne _ _ _ _ a2, stm_ne _ _ _ _ _ a1, stm_ne _ _ _ _ _ a1, stm_ne _ _ _ _ _ a1]
  have f11 : ∀ q : Nat, ¬ q = 2 → ¬ q = 26 → ¬ q = 27 → M2 11 0 q = M 11 0 q := fun q a1 a2 a3 => by
    rw [← hM2]; simp only [stc_ap, stm_ap, false_and, and_false, and_self, true_and, and_true, Nat.reduceEqDiff, reduceIte]; rw [if_neg a3, if_neg a2, if_neg a1]
  have g13 : M2 13 0 = f := by rw [← hM2, stc_ne _ _ _ _ (by decide), stm_ne _ _ _ _ _ (by decide), stm_ne _ _ _ _ _ (by decide), stm_ne _ _ _ _ _ (by decide), stc_self]
  have g46 : M2 46 0 = f' := by rw [← hM2, stc_self]
  have F : ∀ L : List Nat, (∀ g ∈ L, ¬ g = 1 ∧ ¬ g = 13 ∧ ¬ g = 11 ∧ ¬ g = 46) → ∀ g : Nat, g ∈ L → M2 g = M g := fun L hL' g hg => fr g (hL' g hg).1 (hL' g hg).2.1 (hL' g hg).2.2.1 (hL' g hg).2.2.2
  refine ⟨S_cg (F _ (by decide)) hS, K_cg (F _ (by decide)) hK, ?_, L_cg (F _ (by decide)) (f11 _ (by decide) (by decide) (by decide)) hL, R_cg (F _ (by decide)) (f11 _ (by decide) (by decide) (by decide)) hE, O_cg (F _ (by decide)) (f11 _ (by decide) (by decide) (by decide)) hO⟩
  have e4 : M2 1 0 4 = r := by rw [← hM2]; rfl
  have e5 : M2 1 0 5 = c := by rw [← hM2]; rfl
  have e6 : M2 1 0 6 = 0 := by rw [← hM2]; rfl
  have e26 : M2 11 0 26 = r := by rw [← hM2]; rfl
  have e27 : M2 11 0 27 = c := by rw [← hM2]; rfl
  have s0 : sm f 12 = 0 := by
    rw [sm_cg (g := fun _ => 0) hf]
    rfl
  refine ⟨⟨?_, fun j hj => ?_, ?_, ?_, fun r' c' hr' hc' _ => ?_⟩, ?_, ?_, fun j hj => ?_⟩
  · rw [e4, e5]; exact z
  · rw [g13, hf j hj]; exact Int.le_refl 0
  · rw [e6, g13, s0]
  · rw [e6]; decide
  · rw [g13, hf _ (by omega)]
  · rw [e26, e4]
  · rw [e27, e5]
  · rw [g46, g13, hf j hj, hf' j hj]
