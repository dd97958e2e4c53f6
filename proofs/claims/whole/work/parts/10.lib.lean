/-! loops and memory -/
theorem loopU (e : Int) (I G : Int → Mm → Prop) (step : ∀ i M, I i M → (i < e → ∀ M', I (i + 1) M' → G (i + 1) M') → G i M) : ∀ i M, I i M → G i M := by
  have key : ∀ (n : Nat) (i : Int) (M : Mm), (e - i).toNat = n → I i M → G i M := by
    intro n
    induction n using Nat.strongRecOn with
    | ind n ih =>
      intro i M hn hI
      exact step i M hI (fun hlt M' hI' => ih (e - (i + 1)).toNat (by omega) (i + 1) M' rfl hI')
  exact fun i M h => key _ i M rfl h
theorem loopD (e : Int) (I G : Int → Mm → Prop) (step : ∀ i M, I i M → (e < i → ∀ M', I (i - 1) M' → G (i - 1) M') → G i M) : ∀ i M, I i M → G i M := by
  have key : ∀ (n : Nat) (i : Int) (M : Mm), (i - e).toNat = n → I i M → G i M := by
    intro n
    induction n using Nat.strongRecOn with
    | ind n ih =>
      intro i M hn hI
      exact step i M hI (fun hlt M' hI' => ih (i - 1 - e).toNat (by omega) (i - 1) M' rfl hI')
  exact fun i M h => key _ i M rfl h
theorem loopM {σ : Type} (μ : σ → Nat) (I G : σ → Prop) (step : ∀ s, I s → (∀ s', μ s' < μ s → I s' → G s') → G s) : ∀ s, I s → G s := by
  have key : ∀ (n : Nat) (s : σ), μ s = n → I s → G s := by
    intro n
    induction n using Nat.strongRecOn with
    | ind n ih =>
      intro s hn hI
      exact step s hI (fun s' h hI' => ih (μ s') (by omega) s' rfl hI')
  exact fun s h => key _ s rfl h
theorem stc_ap (M : Mm) (g s : Nat) (f : Nat → Int) (g' s' : Nat) : stc M g s f g' s' = if g' = g ∧ s' = s then f else M g' s' := rfl
theorem stm_ap (M : Mm) (g s k : Nat) (v : Int) (g' s' k' : Nat) : stm M g s k v g' s' k' = if g' = g ∧ s' = s ∧ k' = k then v else M g' s' k' := rfl
theorem stm_on (M : Mm) (g s k : Nat) (f : Nat → Int) (v : Int) : stm (stc M g s f) g s k v = stc M g s (fun j => if j = k then v else f j) := by
  rw [stm_stc]
  funext g' s'
  unfold stc
  by_cases h : g' = g ∧ s' = s
  · rw [if_pos h, if_pos h]
    funext j
    simp
  · rw [if_neg h, if_neg h, if_neg h]
theorem stc_on (M : Mm) (g s : Nat) (f f' : Nat → Int) : stc (stc M g s f) g s f' = stc M g s f' := by
  funext g' s'
  unfold stc
  by_cases h : g' = g ∧ s' = s
  · rw [if_pos h, if_pos h]
  · rw [if_neg h, if_neg h, if_neg h]
theorem stc_id (M : Mm) (g s : Nat) : stc M g s (M g s) = M := by
  funext g' s'
  unfold stc
  by_cases h : g' = g ∧ s' = s
  · rw [if_pos h, h.1, h.2]
  · rw [if_neg h]
theorem stc_self (M : Mm) (g s : Nat) (f : Nat → Int) : stc M g s f g s = f := by simp [stc]
/-- a group's content by its places -/
theorem stc_eq {M M' : Mm} {g s : Nat} {f : Nat → Int} (h1 : ∀ k, M' g s k = f k) (h2 : ∀ g' s', ¬ (g' = g ∧ s' = s) → M' g' s' = M g' s') : M' = stc M g s f := by
  funext g' s'
  unfold stc
  by_cases h : g' = g ∧ s' = s
  · rw [if_pos h, h.1, h.2]
    exact funext h1
  · rw [if_neg h, h2 g' s' h]
/-! groups by their numbers -/
theorem al_12 : alen 12 = 1681 := rfl
theorem at_12 : aty 12 = 1 := rfl
theorem al_13 : alen 13 = 12 := rfl
theorem at_13 : aty 13 = 0 := rfl
theorem al_14 : alen 14 = 3 := rfl
theorem at_14 : aty 14 = 0 := rfl
theorem al_15 : alen 15 = 4 := rfl
theorem at_15 : aty 15 = 0 := rfl
theorem al_16 : alen 16 = 2000 := rfl
theorem at_16 : aty 16 = 1 := rfl
theorem al_17 : alen 17 = 2000 := rfl
theorem at_17 : aty 17 = 1 := rfl
theorem al_18 : alen 18 = 20 := rfl
theorem at_18 : aty 18 = 0 := rfl
theorem al_19 : alen 19 = 20 := rfl
theorem at_19 : aty 19 = 0 := rfl
theorem al_20 : alen 20 = 40 := rfl
theorem at_20 : aty 20 = 0 := rfl
theorem al_21 : alen 21 = 40 := rfl
theorem at_21 : aty 21 = 0 := rfl
theorem al_22 : alen 22 = 40 := rfl
theorem at_22 : aty 22 = 0 := rfl
theorem al_23 : alen 23 = 400 := rfl
theorem at_23 : aty 23 = 0 := rfl
theorem al_24 : alen 24 = 20 := rfl
theorem at_24 : aty 24 = 1 := rfl
theorem al_25 : alen 25 = 20 := rfl
theorem at_25 : aty 25 = 1 := rfl
theorem al_26 : alen 26 = 20 := rfl
theorem at_26 : aty 26 = 2 := rfl
theorem al_27 : alen 27 = 20 := rfl
theorem at_27 : aty 27 = 0 := rfl
theorem al_28 : alen 28 = 210021 := rfl
theorem at_28 : aty 28 = 1 := rfl
theorem al_29 : alen 29 = 41 := rfl
theorem at_29 : aty 29 = 0 := rfl
theorem al_30 : alen 30 = 8 := rfl
theorem at_30 : aty 30 = 11 := rfl
theorem al_31 : alen 31 = 160 := rfl
theorem at_31 : aty 31 = 0 := rfl
theorem al_32 : alen 32 = 8 := rfl
theorem at_32 : aty 32 = 0 := rfl
theorem al_33 : alen 33 = 1681 := rfl
theorem at_33 : aty 33 = 1 := rfl
theorem al_34 : alen 34 = 420021 := rfl
theorem at_34 : aty 34 = 1 := rfl
theorem al_35 : alen 35 = 20002 := rfl
theorem at_35 : aty 35 = 1 := rfl
theorem al_36 : alen 36 = 20002 := rfl
theorem at_36 : aty 36 = 1 := rfl
theorem al_37 : alen 37 = 4000 := rfl
theorem at_37 : aty 37 = 1 := rfl
theorem al_38 : alen 38 = 40 := rfl
theorem at_38 : aty 38 = 0 := rfl
theorem al_39 : alen 39 = 40 := rfl
theorem at_39 : aty 39 = 0 := rfl
theorem al_40 : alen 40 = 40 := rfl
theorem at_40 : aty 40 = 2 := rfl
theorem al_41 : alen 41 = 40 := rfl
theorem at_41 : aty 41 = 0 := rfl
theorem al_42 : alen 42 = 21 := rfl
theorem at_42 : aty 42 = 1 := rfl
theorem al_43 : alen 43 = 21 := rfl
theorem at_43 : aty 43 = 1 := rfl
theorem al_44 : alen 44 = 400 := rfl
theorem at_44 : aty 44 = 0 := rfl
theorem al_45 : alen 45 = 4 := rfl
theorem at_45 : aty 45 = 0 := rfl
theorem al_46 : alen 46 = 12 := rfl
theorem at_46 : aty 46 = 0 := rfl
theorem al_47 : alen 47 = 5 := rfl
theorem at_47 : aty 47 = 0 := rfl
theorem al_48 : alen 48 = 5 := rfl
theorem at_48 : aty 48 = 0 := rfl
theorem al_49 : alen 49 = 15 := rfl
theorem at_49 : aty 49 = 0 := rfl
theorem al_50 : alen 50 = 5 := rfl
theorem at_50 : aty 50 = 1 := rfl
theorem al_51 : alen 51 = 20 := rfl
theorem at_51 : aty 51 = 1 := rfl
theorem al_52 : alen 52 = 20 := rfl
theorem at_52 : aty 52 = 1 := rfl
theorem al_53 : alen 53 = 20 := rfl
theorem at_53 : aty 53 = 2 := rfl
theorem al_54 : alen 54 = 20 := rfl
theorem at_54 : aty 54 = 0 := rfl
theorem al_55 : alen 55 = 1 := rfl
theorem at_55 : aty 55 = 1 := rfl
theorem cn_0 : cnt 0 = 1 := rfl
theorem cn_1 : cnt 1 = 1 := rfl
theorem cn_2 : cnt 2 = 1 := rfl
theorem cn_3 : cnt 3 = 1 := rfl
theorem cn_4 : cnt 4 = 1 := rfl
theorem cn_5 : cnt 5 = 1 := rfl
theorem cn_6 : cnt 6 = 1 := rfl
theorem cn_7 : cnt 7 = 1 := rfl
theorem cn_8 : cnt 8 = 8 := rfl
theorem cn_9 : cnt 9 = 1 := rfl
theorem cn_10 : cnt 10 = 1 := rfl
theorem cn_11 : cnt 11 = 1 := rfl
theorem cn_12 : cnt 12 = 1 := rfl
theorem cn_13 : cnt 13 = 1 := rfl
theorem cn_14 : cnt 14 = 1 := rfl
theorem cn_15 : cnt 15 = 1 := rfl
theorem cn_16 : cnt 16 = 1 := rfl
theorem cn_17 : cnt 17 = 1 := rfl
theorem cn_18 : cnt 18 = 1 := rfl
theorem cn_19 : cnt 19 = 1 := rfl
theorem cn_20 : cnt 20 = 1 := rfl
theorem cn_21 : cnt 21 = 1 := rfl
theorem cn_22 : cnt 22 = 1 := rfl
theorem cn_23 : cnt 23 = 1 := rfl
theorem cn_24 : cnt 24 = 1 := rfl
theorem cn_25 : cnt 25 = 1 := rfl
theorem cn_26 : cnt 26 = 1 := rfl
theorem cn_27 : cnt 27 = 8 := rfl
theorem cn_28 : cnt 28 = 1 := rfl
theorem cn_29 : cnt 29 = 1 := rfl
theorem cn_30 : cnt 30 = 1 := rfl
theorem cn_31 : cnt 31 = 1 := rfl
theorem cn_32 : cnt 32 = 1 := rfl
theorem cn_33 : cnt 33 = 1 := rfl
theorem cn_34 : cnt 34 = 1 := rfl
theorem cn_35 : cnt 35 = 1 := rfl
theorem cn_36 : cnt 36 = 1 := rfl
theorem cn_37 : cnt 37 = 1 := rfl
theorem cn_38 : cnt 38 = 1 := rfl
theorem cn_39 : cnt 39 = 1 := rfl
theorem cn_40 : cnt 40 = 1 := rfl
theorem cn_41 : cnt 41 = 1 := rfl
theorem cn_42 : cnt 42 = 1 := rfl
theorem cn_43 : cnt 43 = 1 := rfl
theorem cn_44 : cnt 44 = 1 := rfl
theorem cn_45 : cnt 45 = 1 := rfl
theorem cn_46 : cnt 46 = 1 := rfl
theorem cn_47 : cnt 47 = 1 := rfl
theorem cn_48 : cnt 48 = 1 := rfl
theorem cn_49 : cnt 49 = 1 := rfl
theorem cn_50 : cnt 50 = 1 := rfl
theorem cn_51 : cnt 51 = 1 := rfl
theorem cn_52 : cnt 52 = 1 := rfl
theorem cn_53 : cnt 53 = 1 := rfl
theorem cn_54 : cnt 54 = 1 := rfl
theorem cn_55 : cnt 55 = 1 := rfl
