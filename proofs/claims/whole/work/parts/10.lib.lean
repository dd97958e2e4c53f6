/-! loops and memory -/
theorem loopU (e : Int) (I G : Int → Mm → Prop) (step : ∀ i M, I i M → (i < e → ∀ M', I (i + 1) M' → G (i + 1) M') → G i M) : ∀ i M, I i M → G i M := by
  have key : ∀ (n : Nat) (i : Int) (M : Mm), (e - i).toNat = n → I i M → G i M := by
    intro n
    induction n using Nat.strongRecOn with
    | ind n ih =>
      intro i M hn hI
      exact step i M hI (fun hlt M' hI' => ih (e - (i + 1)).toNat (by omega) (i + 1) M' rfl hI')
  exact fun i M h => key _ i M rfl h
theorem loopD (e : Int) (I G : Int → Mm → Prop) (step : ∀ i M, I i M → (e < i → ∀ M', I (i - 1) M' → G (i - 1) M') → G i M) : ∀ i M, I i M → G i M := by
  have key : ∀ (n : Nat) (i : Int) (M : Mm), (i - e).toNat = n → I i M → G i M := by
    intro n
    induction n using Nat.strongRecOn with
    | ind n ih =>
      intro i M hn hI
      exact step i M hI (fun hlt M' hI' => ih (i - 1 - e).toNat (by omega) (i - 1) M' rfl hI')
  exact fun i M h => key _ i M rfl h
theorem loopM {σ : Type} (μ : σ → Nat) (I G : σ → Prop) (step : ∀ s, I s → (∀ s', μ s' < μ s → I s' → G s') → G s) : ∀ s, I s → G s := by
  have key : ∀ (n : Nat) (s : σ), μ s = n → I s → G s := by
    intro n
    induction n using Nat.strongRecOn with
    | ind n ih =>
      intro s hn hI
      exact step s hI (fun s' h hI' => ih (μ s') (by omega) s' rfl hI')
  exact fun s h => key _ s rfl h
theorem stc_ap (M : Mm) (g s : Nat) (f : Nat → Int) (g' s' : Nat) : stc M g s f g' s' = if g' = g ∧ s' = s then f else M g' s' := rfl
theorem stm_ap (M : Mm) (g s k : Nat) (v : Int) (g' s' k' : Nat) : stm M g s k v g' s' k' = if g' = g ∧ s' = s ∧ k' = k then v else M g' s' k' := rfl
theorem stm_on (M : Mm) (g s k : Nat) (f : Nat → Int) (v : Int) : stm (stc M g s f) g s k v = stc M g s (fun j => if j = k then v else f j) := by
  rw [stm_stc]
  funext g' s'
  unfold stc
  by_cases h : g' = g ∧ s' = s
  · rw [if_pos h, if_pos h]
    funext j
    simp
  · rw [if_neg h, if_neg h, if_neg h]
theorem stc_on (M : Mm) (g s : Nat) (f f' : Nat → Int) : stc (stc M g s f) g s f' = stc M g s f' := by
  funext g' s'
  unfold stc
  by_cases h : g' = g ∧ s' = s
  · rw [if_pos h, if_pos h]
  · rw [if_neg h, if_neg h, if_neg h]
theorem stc_id (M : Mm) (g s : Nat) : stc M g s (M g s) = M := by
  funext g' s'
  unfold stc
  by_cases h : g' = g ∧ s' = s
  · rw [if_pos h, h.1, h.2]
  · rw [if_neg h]
theorem stc_self (M : Mm) (g s : Nat) (f : Nat → Int) : stc M g s f g s = f := by simp [stc]
/-- a group's content by its places -/
theorem stc_eq {M M' : Mm} {g s : Nat} {f : Nat → Int} (h1 : ∀ k, M' g s k = f k) (h2 : ∀ g' s', ¬ (g' = g ∧ s' = s) → M' g' s' = M g' s') : M' = stc M g s f := by
  funext g' s'
  unfold stc
  by_cases h : g' = g ∧ s' = s
  · rw [if_pos h, h.1, h.2]
    exact funext h1
  · rw [if_neg h, h2 g' s' h]
