/-! what holds between the class and the reference, call after call -/
/-- a contract with a smaller want -/
def mono (T : Ct) : Ct := fun as M P => ∃ Q : Option AV → Mm → Prop, T as M Q ∧ ∀ r M', Q r M' → P r M'
theorem MetT.up {l : Launch} {y : MethodName} {b : ByteArray} {nl : Nat} {ret : Option FieldType} {d : Nat} {T : Ct} (h : MetT l y b nl ret d T) : MetT l y b nl ret d (mono T) := by
  intro D ad cA sz as M P hT p e h1 h2 h3 s m args below h4 h5 h6 h7
  obtain ⟨Q, hT, hQ⟩ := hT
  obtain ⟨n, o, a1, a2, a3, ⟨⟨r, M', e1, e2, e3⟩, e4⟩, e5⟩ := h D ad cA sz as M Q hT p e h1 h2 h3 s m args below h4 h5 h6 h7
  exact ⟨n, o, a1, a2, a3, ⟨⟨r, M', e1, hQ r M' e2, e3⟩, e4⟩, e5⟩
def LDI (M : Mm) : Prop := (0 ≤ M 2 0 2 ∧ M 2 0 2 ≤ 1000000) ∧ M 11 0 13 = min (M 2 0 2) 2000 ∧ ∀ q : Nat, q < 2000 → (q : Int) < M 2 0 2 → M 37 0 (2 * q) = M 16 0 q ∧ M 37 0 (2 * q + 1) = M 17 0 q
def REI (M : Mm) : Prop := (M 6 0 4 = 0 ∨ M 6 0 4 = 1) ∧ M 11 0 25 = M 6 0 4 ∧ iR (M 6 0 5) ∧ (M 6 0 4 = 1 → M 45 0 0 = M 6 0 6 ∧ M 45 0 1 = M 6 0 7 ∧ M 45 0 2 = (if 0 < M 6 0 5 then 1 else 0) ∧ M 45 0 3 = M 6 0 8)
def ROI (M : Mm) : Prop := LI (M 24 0) (M 25 0) (M 26 0) (M 7 0 3) ∧ M 11 0 33 = M 7 0 3 ∧ ∀ j : Nat, (j : Int) < M 7 0 3 → M 51 0 j = M 24 0 j ∧ M 52 0 j = M 25 0 j ∧ M 53 0 j = M 26 0 j
def INV (M : Mm) : Prop := (SI M ∧ SE M) ∧ (CI M ∧ CE M ∧ RI M) ∧ (GI M ∧ GE M) ∧ LDI M ∧ REI M ∧ ROI M
theorem S_cg {M M' : Mm} (k : ∀ g : Nat, g ∈ [8, 27, 31, 32] → M' g = M g) (h : SI M ∧ SE M) : SI M' ∧ SE M' := ⟨SI_cg (k 8 (by decide)) (k 27 (by decide)) h.1, SE_cg (k 8 (by decide)) (k 27 (by decide)) (k 31 (by decide)) (k 32 (by decide)) h.2⟩
theorem RI_cg {M M' : Mm} (h : M' 22 = M 22) (hR : RI M) : RI M' := fun j hj => by rw [h]; exact hR j hj
theorem K_cg {M M' : Mm} (k : ∀ g : Nat, g ∈ [12, 22, 33] → M' g = M g) (h : CI M ∧ CE M ∧ RI M) : CI M' ∧ CE M' ∧ RI M' := ⟨CI_cg (k 12 (by decide)) h.1, CE_cg (k 33 (by decide)) h.2.1, RI_cg (k 22 (by decide)) h.2.2⟩
theorem GI_cg {M M' : Mm} (h13 : M' 13 = M 13) (h1 : ∀ k : Nat, 4 ≤ k → k ≤ 6 → M' 1 0 k = M 1 0 k) (h : GI M) : GI M' := by
  unfold GI
  rw [h13, h1 4 (by omega) (by omega), h1 5 (by omega) (by omega), h1 6 (by omega) (by omega)]
  exact h
theorem GE_cg {M M' : Mm} (h13 : M' 13 = M 13) (h46 : M' 46 = M 46) (h1 : ∀ k : Nat, 4 ≤ k → k ≤ 6 → M' 1 0 k = M 1 0 k) (h11 : M' 11 0 26 = M 11 0 26 ∧ M' 11 0 27 = M 11 0 27) (h : GE M) : GE M' := by
  unfold GE
  rw [h13, h46, h1 4 (by omega) (by omega), h1 5 (by omega) (by omega), h11.1, h11.2]
  exact h
theorem G_cg {M M' : Mm} (k : ∀ g : Nat, g ∈ [13, 46] → M' g = M g) (h1 : ∀ k : Nat, 4 ≤ k → k ≤ 6 → M' 1 0 k = M 1 0 k) (h11 : M' 11 0 26 = M 11 0 26 ∧ M' 11 0 27 = M 11 0 27) (h : GI M ∧ GE M) : GI M' ∧ GE M' := ⟨GI_cg (k 13 (by decide)) h1 h.1, GE_cg (k 13 (by decide)) (k 46 (by decide)) h1 h11 h.2⟩
theorem L_cg {M M' : Mm} (k : ∀ g : Nat, g ∈ [2, 16, 17, 37] → M' g = M g) (h11 : M' 11 0 13 = M 11 0 13) (h : LDI M) : LDI M' := by
  unfold LDI
  rw [k 2 (by decide), k 16 (by decide), k 17 (by decide), k 37 (by decide), h11]
  exact h
theorem R_cg {M M' : Mm} (k : ∀ g : Nat, g ∈ [6, 45] → M' g = M g) (h11 : M' 11 0 25 = M 11 0 25) (h : REI M) : REI M' := by
  unfold REI
  rw [k 6 (by decide), k 45 (by decide), h11]
  exact h
theorem O_cg {M M' : Mm} (k : ∀ g : Nat, g ∈ [7, 24, 25, 26, 51, 52, 53] → M' g = M g) (h11 : M' 11 0 33 = M 11 0 33) (h : ROI M) : ROI M' := by
  unfold ROI
  rw [k 7 (by decide), k 24 (by decide), k 25 (by decide), k 26 (by decide), k 51 (by decide), k 52 (by decide), k 53 (by decide), h11]
  exact h
/-- the groups that INV speaks of (but 1 and 11) -/
def kg : List Nat := [2, 6, 7, 8, 12, 13, 16, 17, 22, 24, 25, 26, 27, 31, 32, 33, 37, 45, 46, 51, 52, 53]
theorem INV_scr {M M' : Mm} (hk : ∀ g : Nat, g ∈ kg → M' g = M g) (h1 : ∀ k : Nat, 4 ≤ k → k ≤ 6 → M' 1 0 k = M 1 0 k) (h11 : ∀ k : Nat, k ∈ [13, 25, 26, 27, 33] → M' 11 0 k = M 11 0 k) (h : INV M) : INV M' := by
  obtain ⟨a, b, c, d, e, f⟩ := h
  have kk : ∀ L : List Nat, (∀ g ∈ L, g ∈ kg) → ∀ g : Nat, g ∈ L → M' g = M g := fun L hL g hg => hk g (hL g hg)
  exact ⟨S_cg (kk _ (by decide)) a, K_cg (kk _ (by decide)) b, G_cg (kk _ (by decide)) h1 ⟨h11 26 (by decide), h11 27 (by decide)⟩ c, L_cg (kk _ (by decide)) (h11 13 (by decide)) d, R_cg (kk _ (by decide)) (h11 25 (by decide)) e, O_cg (kk _ (by decide)) (h11 33 (by decide)) f⟩
/-- 'thrown' alone is set -/
theorem INV_th {M : Mm} (v : Int) (h : INV M) : INV (stm M 11 0 2 v) := INV_scr (fun g hg => stm_ne _ _ _ _ _ (fun e => by subst e; revert hg; decide)) (fun k _ _ => rfl) (fun k hk => by rw [stm_ap, if_neg (fun z => by rw [z.2.2] at hk; revert hk; decide)]) h
/-- both answer alike, and all holds on -/
def bI (T T' : Ct) (as as' : List AV) (M : Mm) : Prop := T as M (fun r M1 => ∃ z : Int, r = some (zi z) ∧ T' as' M1 (fun r' M2 => r' = some (zi z) ∧ INV M2))
def bL (T T' : Ct) (as as' : List AV) (M : Mm) : Prop := T as M (fun r M1 => ∃ z : Int, r = some (zl z) ∧ T' as' M1 (fun r' M2 => r' = some (zl z) ∧ INV M2))
theorem NI_of {M M' : Mm} (h31 : M' 31 = M 31) (h32 : M' 32 = M 32) (h : SI M ∧ SE M) : NI M' := fun s hs => by
  rw [h31, h32]
  obtain ⟨e1, e2⟩ := h.2 s hs
  obtain ⟨i1, i2⟩ := h.1 s hs
  rw [e1]
  exact ⟨i1, fun j hj => by rw [e2 j hj]; exact i2 j hj⟩
theorem o_put {M : Mm} (h : INV M) {a v : Int} (ha : iR a) (hv : iR v) : bI T_X10_put T2_put [zr 10 0, zi a, zi v] [zr 11 0, zi a, zi v] M := by
  obtain ⟨hS, hK, hG, hL, hE, hO⟩ := id h
  have e0 : ∀ s : Nat, s < 8 → M 32 0 s = M 8 s 1 := fun s hs => (hS.2 s hs).1
  refine ⟨rfl, rfl, ha, hv, hS.1, fun q => ?_, fun q => ⟨_, rfl, rfl, rfl, ha, hv, NI_of rfl rfl hS, fun q2 => absurd ⟨q2.1, q2.2.1, by rw [← e0 _ (by omega)]; exact q2.2.2⟩ q, fun _ => ⟨rfl, INV_th 0 h⟩⟩⟩
  have i := (hS.1 a.toNat (by omega)).1
  have ea := e0 a.toNat (by omega)
  obtain ⟨n, hn⟩ : ∃ n : Nat, M 8 a.toNat 1 = n := ⟨(M 8 a.toNat 1).toNat, by omega⟩
  obtain ⟨k, hk⟩ : ∃ k : Nat, a = k := ⟨a.toNat, by omega⟩
  subst hk
  rw [Int.toNat_natCast] at hn ea i
  simp only [Int.toNat_natCast, hn] at q ⊢
  obtain ⟨M1, hM1⟩ : ∃ M1 : Mm, stm (stm M 27 k n v) 8 k 1 (n + 1) = M1 := ⟨_, rfl⟩
  have f1 : ∀ g : Nat, ¬ g = 8 → ¬ g = 27 → M1 g = M g := fun g a1 a2 => by rw [← hM1, stm_ne _ _ _ _ _ a1, stm_ne _ _ _ _ _ a2]
  rw [hM1]
  refine ⟨_, rfl, rfl, rfl, ha, hv, NI_of (f1 31 (by decide) (by decide)) (f1 32 (by decide) (by decide)) hS, ?_⟩
  simp only [Int.toNat_natCast]
  rw [f1 32 (by decide) (by decide), ea, hn]
  refine ⟨fun _ => ⟨rfl, ?_⟩, fun q2 => absurd q q2⟩
  obtain ⟨M2, hM2⟩ : ∃ M2 : Mm, stm (stm (stm M1 11 0 2 0) 31 0 (20 * k + (n : Int).toNat) v) 32 0 k (n + 1) = M2 := ⟨_, rfl⟩
  rw [hM2]
  have f : ∀ g : Nat, ¬ g = 8 → ¬ g = 27 → ¬ g = 11 → ¬ g = 31 → ¬ g = 32 → M2 g = M g := fun g a1 a2 a3 a4 a5 => by rw [← hM2, stm_ne _ _ _ _ _ a5, stm_ne _ _ _ _ _ a4, stm_ne _ _ _ _ _ a3, f1 g a1 a2]
  have f11 : ∀ q : Nat, ¬ q = 2 → M2 11 0 q = M 11 0 q := fun q hq => by
    rw [← hM2, ← hM1]; simp only [stc_ap, stm_ap, false_and, and_false, and_self, true_and, and_true, Nat.reduceEqDiff, reduceIte]; rw [if_neg hq]
  have g8 : ∀ s : Nat, M2 8 s 1 = if s = k then (n : Int) + 1 else M 8 s 1 := fun s => by
    rw [← hM2, ← hM1]; simp only [stc_ap, stm_ap, false_and, and_false, and_self, true_and, and_true, Nat.reduceEqDiff, reduceIte]
  have g27 : ∀ s j : Nat, M2 27 s j = if s = k ∧ j = n then v else M 27 s j := fun s j => by
    rw [← hM2, ← hM1]; simp only [stc_ap, stm_ap, false_and, and_false, and_self, true_and, and_true, Nat.reduceEqDiff, reduceIte]
  have g31 : ∀ j : Nat, M2 31 0 j = if j = 20 * k + n then v else M 31 0 j := fun j => by
    rw [← hM2, ← hM1]; simp only [stc_ap, stm_ap, false_and, and_false, and_self, true_and, and_true, Nat.reduceEqDiff, reduceIte]; rw [Int.toNat_natCast]
  have g32 : ∀ s : Nat, M2 32 0 s = if s = k then (n : Int) + 1 else M 32 0 s := fun s => by
    rw [← hM2, ← hM1]; simp only [stc_ap, stm_ap, false_and, and_false, and_self, true_and, and_true, Nat.reduceEqDiff, reduceIte]
  have F : ∀ L : List Nat, (∀ g ∈ L, ¬ g = 8 ∧ ¬ g = 27 ∧ ¬ g = 11 ∧ ¬ g = 31 ∧ ¬ g = 32) → ∀ g : Nat, g ∈ L → M2 g = M g := fun L hL' g hg => f g (hL' g hg).1 (hL' g hg).2.1 (hL' g hg).2.2.1 (hL' g hg).2.2.2.1 (hL' g hg).2.2.2.2
  refine ⟨⟨fun s hs => ?_, fun s hs => ?_⟩, K_cg (F _ (by decide)) hK, G_cg (F _ (by decide)) (fun k _ _ => by rw [f 1 (by decide) (by decide) (by decide) (by decide) (by decide)]) ⟨f11 _ (by decide), f11 _ (by decide)⟩ hG, L_cg (F _ (by decide)) (f11 _ (by decide)) hL, R_cg (F _ (by decide)) (f11 _ (by decide)) hE, O_cg (F _ (by decide)) (f11 _ (by decide)) hO⟩
  · obtain ⟨i1, i2⟩ := hS.1 s hs
    rw [g8]
    by_cases c : s = k
    · subst c
      rw [if_pos rfl]
      refine ⟨by omega, fun j hj => ?_⟩
      rw [g27]
      by_cases c : j = n
      · rw [if_pos ⟨rfl, c⟩]; exact q.2.1
      · rw [if_neg (fun z => c z.2)]; exact i2 j (by omega)
    · rw [if_neg c]
      refine ⟨i1, fun j hj => ?_⟩
      rw [g27, if_neg (fun z => c z.1)]
      exact i2 j hj
  · obtain ⟨i1, i2⟩ := hS.2 s hs
    rw [g8, g32]
    by_cases c : s = k
    · subst c
      rw [if_pos rfl, if_pos rfl]
      refine ⟨rfl, fun j hj => ?_⟩
      rw [g27, g31]
      by_cases c : j = n
      · rw [if_pos (by omega), if_pos ⟨rfl, c⟩]
      · rw [if_neg (by omega), if_neg (fun z => c z.2)]; exact i2 j (by omega)
    · rw [if_neg c, if_neg c]
      refine ⟨i1, fun j hj => ?_⟩
      have := (hS.1 s hs).1
      rw [g27, g31, if_neg (by omega), if_neg (fun z => c z.1)]
      exact i2 j hj
theorem o_drop {M : Mm} (h : INV M) {a : Int} (ha : iR a) : bI T_X10_drop T2_drop [zr 10 0, zi a] [zr 11 0, zi a] M := by
  obtain ⟨hS, hK, hG, hL, hE, hO⟩ := id h
  refine ⟨rfl, rfl, ha, fun q => ?_, fun q => ⟨_, rfl, rfl, rfl, ha, fun q2 => absurd q2 q, fun _ => ⟨rfl, INV_th 0 h⟩⟩⟩
  obtain ⟨k, hk⟩ : ∃ k : Nat, a = k := ⟨a.toNat, by omega⟩
  subst hk
  simp only [Int.toNat_natCast]
  have ek := (hS.2 k (by omega)).1
  obtain ⟨M1, hM1⟩ : ∃ M1 : Mm, stm M 8 k 1 0 = M1 := ⟨_, rfl⟩
  have f1 : ∀ g : Nat, ¬ g = 8 → M1 g = M g := fun g a1 => by rw [← hM1, stm_ne _ _ _ _ _ a1]
  rw [hM1]
  refine ⟨_, rfl, rfl, rfl, ha, fun _ => ?_, fun q2 => absurd q q2⟩
  simp only [Int.toNat_natCast]
  rw [f1 32 (by decide), ek]
  refine ⟨rfl, ?_⟩
  obtain ⟨M2, hM2⟩ : ∃ M2 : Mm, stm (stm M1 11 0 2 0) 32 0 k 0 = M2 := ⟨_, rfl⟩
  rw [hM2]
  have f : ∀ g : Nat, ¬ g = 8 → ¬ g = 11 → ¬ g = 32 → M2 g = M g := fun g a1 a3 a5 => by rw [← hM2, stm_ne _ _ _ _ _ a5, stm_ne _ _ _ _ _ a3, f1 g a1]
  have f11 : ∀ q : Nat, ¬ q = 2 → M2 11 0 q = M 11 0 q := fun q hq => by
    rw [← hM2, ← hM1]; simp only [stc_ap, stm_ap, false_and, and_false, and_self, true_and, and_true, Nat.reduceEqDiff, reduceIte]; rw [if_neg hq]
  have g8 : ∀ s : Nat, M2 8 s 1 = if s = k then 0 else M 8 s 1 := fun s => by
    rw [← hM2, ← hM1]; simp only [stc_ap, stm_ap, false_and, and_false, and_self, true_and, and_true, Nat.reduceEqDiff, reduceIte]
  have g32 : ∀ s : Nat, M2 32 0 s = if s = k then 0 else M 32 0 s := fun s => by
    rw [← hM2, ← hM1]; simp only [stc_ap, stm_ap, false_and, and_false, and_self, true_and, and_true, Nat.reduceEqDiff, reduceIte]
  have F : ∀ L : List Nat, (∀ g ∈ L, ¬ g = 8 ∧ ¬ g = 11 ∧ ¬ g = 32) → ∀ g : Nat, g ∈ L → M2 g = M g := fun L hL' g hg => f g (hL' g hg).1 (hL' g hg).2.1 (hL' g hg).2.2
  refine ⟨⟨fun s hs => ?_, fun s hs => ?_⟩, K_cg (F _ (by decide)) hK, G_cg (F _ (by decide)) (fun k _ _ => by rw [f 1 (by decide) (by decide) (by decide)]) ⟨f11 _ (by decide), f11 _ (by decide)⟩ hG, L_cg (F _ (by decide)) (f11 _ (by decide)) hL, R_cg (F _ (by decide)) (f11 _ (by decide)) hE, O_cg (F _ (by decide)) (f11 _ (by decide)) hO⟩
  · obtain ⟨i1, i2⟩ := hS.1 s hs
    rw [g8, f 27 (by decide) (by decide) (by decide)]
    by_cases c : s = k
    · rw [if_pos c]
      exact ⟨by omega, fun j hj => by omega⟩
    · rw [if_neg c]
      exact ⟨i1, i2⟩
  · obtain ⟨i1, i2⟩ := hS.2 s hs
    rw [g8, g32, f 27 (by decide) (by decide) (by decide), f 31 (by decide) (by decide) (by decide)]
    by_cases c : s = k
    · rw [if_pos c, if_pos c]
      exact ⟨rfl, fun j hj => by omega⟩
    · rw [if_neg c, if_neg c]
      exact ⟨i1, i2⟩
