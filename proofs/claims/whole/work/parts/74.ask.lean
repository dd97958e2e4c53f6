theorem nxv_cg {A B : Nat → Int} {n : Nat} (h : ∀ j, j < n → A j = B j) (last : Int) : ∀ m : Nat, m ≤ n → nxv A last m = nxv B last m := by
  intro m
  induction m with
  | zero => intro _; rfl
  | succ m ih =>
    intro hm
    show (if last < A m ∧ A m < nxv A last m then A m else nxv A last m) = (if last < B m ∧ B m < nxv B last m then B m else nxv B last m)
    rw [ih (by omega), h m (by omega)]
theorem vsq_cg {A B : Nat → Int} {n : Nat} (h : ∀ j, j < n → A j = B j) (u : Nat) : vsq A n u = vsq B n u := by
  induction u with
  | zero => exact nxv_cg h _ _ (Nat.le_refl _)
  | succ u ih =>
    show nxv A (vsq A n u) _ = nxv B (vsq B n u) _
    rw [nxv_cg h _ _ (Nat.le_refl _), ih]
theorem eqc_cg {A B : Nat → Int} {n : Nat} (h : ∀ j, j < n → A j = B j) (v : Int) : ∀ m : Nat, m ≤ n → eqc A v m = eqc B v m := by
  intro m
  induction m with
  | zero => intro _; rfl
  | succ m ih => intro hm; show eqc A v m + (if A m = v then 1 else 0) = eqc B v m + (if B m = v then 1 else 0); rw [ih (by omega), h m (by omega)]
theorem osm_cg {M M' : Mm} (h27 : M' 27 = M 27) (a b k : Nat) : osm M' a b k = osm M a b k := by
  have e1 : ∀ i j : Nat, osg M' a b i j = osg M a b i j := fun i j => by unfold osg; rw [h27]
  have e2 : ∀ i j : Nat, osi M' a b i j = osi M a b i j := fun i j => by
    induction j with
    | zero => rfl
    | succ j ih => show osi M' _ _ i j + osg M' _ _ i j = osi M _ _ i j + osg M _ _ i j; rw [ih, e1]
  induction k with
  | zero => rfl
  | succ k ih => show osm M' _ _ k + osi M' _ _ k k = osm M _ _ k + osi M _ _ k k; rw [ih, e2]
/-- the answers hang on the samples alone -/
theorem ANS_c2 {M M' : Mm} (h8 : M' 8 = M 8) (h27 : M' 27 = M 27) {t : Int} {a b : Nat} (hn : 0 ≤ M 8 a 1 ∧ 0 ≤ M 8 b 1) {ks : List (Int × Int)} {tt th ft fl : Int} (h : ANS M' t a b ks tt th ft fl) : ANS M t a b ks tt th ft fl := by
  have hp : ∀ j : Nat, (j : Int) < M 8 a 1 + M 8 b 1 → pol M' a b j = pol M a b j := fun j hj => pol_cg h8 h27 a b hj
  have hp2 : ∀ j : Nat, j < (M 8 a 1 + M 8 b 1).toNat → pol M' a b j = pol M a b j := fun j hj => hp j (by omega)
  have hd : ∀ v : Int, drk (pol M' a b) (M 8 a 1 + M 8 b 1).toNat v = drk (pol M a b) (M 8 a 1 + M 8 b 1).toNat v := fun v => drk_cg hp2 v
  unfold ANS at *
  rw [h8, dif_cg h27, osm_cg h27] at h
  rcases h with ⟨rfl, e1, e2, e3, e4, e5⟩ | ⟨rfl, e1, e2, e3, e4, e5⟩ | ⟨rfl, e1, e2, ⟨G, gm, e3, e6⟩, e4, e5⟩ | h | h | h
  · refine Or.inl ⟨rfl, ?_, e2, ?_, e4, ?_⟩
    · rw [e1]
      exact tlst_cg fun v _ => cw_cg (fun j hj => by rw [hp2 j hj]) _ _
    · rw [e3]
      exact sm_cg fun j hj => hp j (by omega)
    · rw [e5, sm_cg hp2]
  · refine Or.inr (Or.inl ⟨rfl, ?_, e2, ?_, e4, e5⟩)
    · rw [e1]
      exact tlst_cg fun v _ => cw_cg (fun j hj => by rw [hp2 j hj, hd]) _ _
    · rw [e3]
      exact sm_cg fun j hj => by rw [hp j (by omega), hd]
  · refine Or.inr (Or.inr (Or.inl ⟨rfl, fun f hf => e1 f ⟨hf.1, fun v => by rw [hf.2 v]; exact (cle_cg hp2 v).symm⟩, e2, ⟨G, gm, ?_, ?_⟩, e4, e5⟩))
    · obtain ⟨y1, y2, y3⟩ := e3
      refine ⟨y1, fun u hu => ?_, ?_⟩
      · rw [← vsq_cg hp2, ← eqc_cg hp2 _ _ (Nat.le_refl _)]; exact y2 u hu
      · rw [← vsq_cg hp2]; exact y3
    · rw [e6]
      congr 1
      funext u
      rw [vsq_cg hp2]
      unfold mvA
      rw [cle_cg (n := (M 8 a 1).toNat) (fun j hj => hp j (by omega)), cle_cg hp2]
  · exact Or.inr (Or.inr (Or.inr (Or.inl h)))
  · exact Or.inr (Or.inr (Or.inr (Or.inr (Or.inl h))))
  · exact Or.inr (Or.inr (Or.inr (Or.inr (Or.inr h))))
theorem o_ask {M : Mm} (h : INV M) {t a b sd : Int} (ht : iR t) (ha : iR a) (hb : iR b) (hsd : iR sd) : bI T_X10_ask T_X11_ask [zr 10 0, zi t, zi a, zi b, zi sd] [zr 11 0, zi t, zi a, zi b, zi sd] M := by
  obtain ⟨hS, hK, hG, hL, hE, ⟨o1, o2⟩, o3, o4⟩ := id h
  refine ⟨rfl, rfl, ht, ha, hb, hsd, hS.1, hK.1, o1, fun q M1 c tt k1 hca => ⟨_, rfl, rfl, rfl, ht, ha, hb, hsd, ?_⟩, fun q => ⟨_, rfl, rfl, rfl, ht, ha, hb, hsd, hS.1, hS.2, hK.2.1, by omega, fun q2 => absurd ⟨q2.1, q2.2.1, by omega⟩ q, fun _ => ⟨rfl, INV_th 0 h⟩⟩⟩
  obtain ⟨n, hn⟩ : ∃ n : Nat, M 7 0 3 = n := ⟨(M 7 0 3).toNat, by omega⟩
  rw [hn, Int.toNat_natCast]
  obtain ⟨N1, hN1⟩ : ∃ N1 : Mm, stm (stm (stm (stm M1 24 0 n c) 25 0 n tt) 26 0 n 0) 7 0 3 (n + 1) = N1 := ⟨_, rfl⟩
  rw [hN1]
  have kR : ∀ L : List Nat, (∀ g ∈ L, ¬ g = 3 ∧ ¬ g = 4 ∧ ¬ g = 5 ∧ ¬ g = 9 ∧ ¬ g = 18 ∧ ¬ g = 19 ∧ ¬ g = 20 ∧ ¬ g = 21 ∧ ¬ g = 28 ∧ ¬ g = 29) → ∀ g : Nat, g ∈ L → M1 g = M g := fun L hL' g hg => by
    obtain ⟨a1, a2, a3, a4, a5, a6, a7, a8, a9, a10⟩ := hL' g hg
    exact k1 g a1 a2 a3 a4 a5 a6 a7 a8 a9 a10
  have kN : ∀ g : Nat, ¬ g = 24 → ¬ g = 25 → ¬ g = 26 → ¬ g = 7 → N1 g = M1 g := fun g a1 a2 a3 a4 => by rw [← hN1, stm_ne _ _ _ _ _ a4, stm_ne _ _ _ _ _ a3, stm_ne _ _ _ _ _ a2, stm_ne _ _ _ _ _ a1]
  have kM : ∀ L : List Nat, (∀ g ∈ L, (¬ g = 24 ∧ ¬ g = 25 ∧ ¬ g = 26 ∧ ¬ g = 7) ∧ (¬ g = 3 ∧ ¬ g = 4 ∧ ¬ g = 5 ∧ ¬ g = 9 ∧ ¬ g = 18 ∧ ¬ g = 19 ∧ ¬ g = 20 ∧ ¬ g = 21 ∧ ¬ g = 28 ∧ ¬ g = 29)) → ∀ g : Nat, g ∈ L → N1 g = M g := fun L hL' g hg => by
    obtain ⟨a1, a2, a3, a4⟩ := (hL' g hg).1
    exact (kN g a1 a2 a3 a4).trans (kR L (fun g hg => (hL' g hg).2) g hg)
  have e8 := kM [8] (by decide) 8 (by decide)
  have e27 := kM [27] (by decide) 27 (by decide)
  have e11 := kM [11] (by decide) 11 (by decide)
  have hS1 := S_cg (kM _ (by decide)) hS
  have hK1 : CE N1 := CE_cg (kM [33] (by decide) 33 (by decide)) hK.2.1
  refine ⟨hS1.1, hS1.2, hK1, ?_⟩
  rw [can_cg e8 e27, e11, o3, hn]
  refine ⟨by omega, fun _ M2 ks tt' th ft fl k2 k3 hA => ⟨rfl, ?_⟩, fun q2 => absurd ⟨q.1, q.2.1, by omega⟩ q2⟩
  obtain ⟨-, ⟨wa, wb, wab, wz⟩, wn, -⟩ := id q.1
  have hA' := ANS_c2 e8 e27 (by omega) hA
  obtain ⟨hc, htt⟩ := hca ks tt' th ft fl hA'
  have hch := ANS_ch hS.1 (by omega) (by omega) wz wn hA' (onP th ft fl sd)
  rw [← hc, ← htt] at hch
  rw [← hc, ← htt, Int.toNat_natCast]
  clear hca hA hA'
  obtain ⟨M3, hM3⟩ : ∃ M3 : Mm, stm (stm (stm (stm M2 51 0 n c) 52 0 n tt) 53 0 n 0) 11 0 33 (n + 1) = M3 := ⟨_, rfl⟩
  rw [hM3]
  have k3' : ∀ g : Nat, ¬ g = 51 → ¬ g = 52 → ¬ g = 53 → ¬ g = 11 → M3 g = M2 g := fun g a1 a2 a3 a4 => by rw [← hM3, stm_ne _ _ _ _ _ a4, stm_ne _ _ _ _ _ a3, stm_ne _ _ _ _ _ a2, stm_ne _ _ _ _ _ a1]
  have F1 : ∀ L : List Nat, (∀ g ∈ L, (¬ g = 51 ∧ ¬ g = 52 ∧ ¬ g = 53) ∧ ¬ g = 11 ∧ (g < 34 ∨ 43 < g ∨ g = 37)) → ∀ g : Nat, g ∈ L → M3 g = N1 g := fun L hL' g hg => by
    obtain ⟨⟨a1, a2, a3⟩, a4, a5⟩ := hL' g hg
    exact (k3' g a1 a2 a3 a4).trans (k2.1 g a4 a5)
  have F : ∀ L : List Nat, (∀ g ∈ L, ((¬ g = 51 ∧ ¬ g = 52 ∧ ¬ g = 53) ∧ ¬ g = 11 ∧ (g < 34 ∨ 43 < g ∨ g = 37)) ∧ (¬ g = 24 ∧ ¬ g = 25 ∧ ¬ g = 26 ∧ ¬ g = 7) ∧ (¬ g = 3 ∧ ¬ g = 4 ∧ ¬ g = 5 ∧ ¬ g = 9 ∧ ¬ g = 18 ∧ ¬ g = 19 ∧ ¬ g = 20 ∧ ¬ g = 21 ∧ ¬ g = 28 ∧ ¬ g = 29)) → ∀ g : Nat, g ∈ L → M3 g = M g := fun L hL' g hg => (F1 L (fun g hg => (hL' g hg).1) g hg).trans (kM L (fun g hg => (hL' g hg).2) g hg)
  have f11 : ∀ q : Nat, 11 < q → ¬ q = 15 → ¬ q = 18 → ¬ q = 20 → ¬ q = 33 → M3 11 0 q = M 11 0 q := fun q a1 a2 a3 a4 a5 => by
    rw [← hM3, stm_ap, if_neg (fun z => a5 z.2.2), stm_ne _ _ _ _ _ (by decide), stm_ne _ _ _ _ _ (by decide), stm_ne _ _ _ _ _ (by decide), k2.2 q (by omega) (by omega) a2 a3 a4, e11]
  have g24 : ∀ j : Nat, M3 24 0 j = if j = n then c else M 24 0 j := fun j => by
    rw [F1 [24] (by decide) 24 (by decide), ← hN1]; simp only [stc_ap, stm_ap, false_and, and_false, and_self, true_and, and_true, Nat.reduceEqDiff, reduceIte]; rw [kR [24] (by decide) 24 (by decide)]
  have g25 : ∀ j : Nat, M3 25 0 j = if j = n then tt else M 25 0 j := fun j => by
    rw [F1 [25] (by decide) 25 (by decide), ← hN1]; simp only [stc_ap, stm_ap, false_and, and_false, and_self, true_and, and_true, Nat.reduceEqDiff, reduceIte]; rw [kR [25] (by decide) 25 (by decide)]
  have g26 : ∀ j : Nat, M3 26 0 j = if j = n then 0 else M 26 0 j := fun j => by
    rw [F1 [26] (by decide) 26 (by decide), ← hN1]; simp only [stc_ap, stm_ap, false_and, and_false, and_self, true_and, and_true, Nat.reduceEqDiff, reduceIte]; rw [kR [26] (by decide) 26 (by decide)]
  have g7 : M3 7 0 3 = n + 1 := by
    rw [F1 [7] (by decide) 7 (by decide), ← hN1]; simp only [stc_ap, stm_ap, false_and, and_false, and_self, true_and, and_true, Nat.reduceEqDiff, reduceIte]
  have g51 : ∀ j : Nat, M3 51 0 j = if j = n then c else M 51 0 j := fun j => by
    rw [← hM3]; simp only [stc_ap, stm_ap, false_and, and_false, and_self, true_and, and_true, Nat.reduceEqDiff, reduceIte]; rw [k2.1 51 (by decide) (by decide), kM [51] (by decide) 51 (by decide)]
  have g52 : ∀ j : Nat, M3 52 0 j = if j = n then tt else M 52 0 j := fun j => by
    rw [← hM3]; simp only [stc_ap, stm_ap, false_and, and_false, and_self, true_and, and_true, Nat.reduceEqDiff, reduceIte]; rw [k2.1 52 (by decide) (by decide), kM [52] (by decide) 52 (by decide)]
  have g53 : ∀ j : Nat, M3 53 0 j = if j = n then 0 else M 53 0 j := fun j => by
    rw [← hM3]; simp only [stc_ap, stm_ap, false_and, and_false, and_self, true_and, and_true, Nat.reduceEqDiff, reduceIte]; rw [k2.1 53 (by decide) (by decide), kM [53] (by decide) 53 (by decide)]
  have g33 : M3 11 0 33 = n + 1 := by rw [← hM3]; rfl
  refine ⟨S_cg (F _ (by decide)) hS, K_cg (F _ (by decide)) hK, G_cg (F _ (by decide)) (fun k _ _ => by rw [F [1] (by decide) 1 (by decide)]) ⟨f11 _ (by decide) (by decide) (by decide) (by decide) (by decide), f11 _ (by decide) (by decide) (by decide) (by decide) (by decide)⟩ hG, L_cg (F _ (by decide)) (f11 _ (by decide) (by decide) (by decide) (by decide) (by decide)) hL, R_cg (F _ (by decide)) (f11 _ (by decide) (by decide) (by decide) (by decide) (by decide)) hE, ?_⟩
  unfold ROI LI
  rw [g7, g33]
  refine ⟨⟨by omega, fun j hj => ?_⟩, rfl, fun j hj => ?_⟩
  · rw [g24, g25, g26]
    by_cases e : j = n
    · rw [if_pos e, if_pos e, if_pos e]
      exact ⟨hch.1, hch.2, Or.inl rfl⟩
    · rw [if_neg e, if_neg e, if_neg e]
      exact o2 j (by omega)
  · rw [g24, g25, g26, g51, g52, g53]
    by_cases e : j = n
    · rw [if_pos e, if_pos e, if_pos e, if_pos e, if_pos e, if_pos e]
      exact ⟨rfl, rfl, rfl⟩
    · rw [if_neg e, if_neg e, if_neg e, if_neg e, if_neg e, if_neg e]
      exact o4 j (by omega)
