/-! bounds of the counts; CloudBench$Question.listInto -/
theorem gpc_in (f : Nat → Int) (n K : Nat) (m : Int) (i j : Nat) : 0 ≤ gpc f n K m i j ∧ gpc f n K m i j ≤ chs i j := by
  induction i generalizing j with
  | zero => cases j with
    | zero => exact ⟨by decide, by decide⟩
    | succ j => exact ⟨Int.le_refl 0, chs_nn 0 (j + 1)⟩
  | succ i ih =>
    rw [gpc_s]
    have h0 := chs_nn (i + 1) j
    split
    · exact ⟨Int.le_refl 0, h0⟩
    · unfold gpa
      cases j with
      | zero =>
        have := ih 0
        have e : chs i 0 = 1 := by cases i <;> rfl
        rw [if_pos rfl, Int.add_zero]
        show _ ∧ _ ≤ (1 : Int)
        omega
      | succ j =>
        have h1 := ih (j + 1)
        have h2 := ih j
        rw [if_neg (show ¬ j + 1 = 0 by omega), show j + 1 - 1 = j by omega]
        show _ ∧ _ ≤ chs i j + chs i (j + 1)
        omega
def fac : Nat → Int
  | 0 => 1
  | n + 1 => fac n * (n + 1)
theorem psm_le {h : Int → Int} {b : Int} (hb : ∀ s, h s ≤ b) (m : Nat) (s : Int) : psm h m s ≤ m * b := by
  induction m with
  | zero => show (0 : Int) ≤ _; simp
  | succ m ih =>
    show psm h m s + h (s - m) ≤ _
    have := hb (s - m)
    have e : ((m + 1 : Nat) : Int) * b = m * b + b := by rw [Int.natCast_add, Int.add_mul]; simp
    omega
theorem mh_le (i : Nat) (s : Int) : mh i s ≤ fac i := by
  induction i generalizing s with
  | zero => unfold mh; show _ ≤ (1 : Int); split <;> decide
  | succ i ih =>
    have := psm_le ih (i + 1) s
    show psm (mh i) (i + 1) s ≤ fac i * (i + 1)
    rw [Int.mul_comm (fac i)]
    exact this
theorem fac_le : ∀ i : Fin 21, fac i.val ≤ 2432902008176640000 := by decide +kernel
theorem pow_le {a b : Nat} (h : a ≤ b) : (2 : Int) ^ a ≤ 2 ^ b := by
  obtain ⟨d, rfl⟩ : ∃ d, b = a + d := ⟨b - a, by omega⟩
  induction d with
  | zero => exact Int.le_refl _
  | succ d ih =>
    have := ih (by omega)
    rw [show a + (d + 1) = (a + d) + 1 by omega, Int.pow_succ]
    have : (0 : Int) ≤ 2 ^ (a + d) := Int.pow_nonneg (by decide)
    omega
theorem QD_lR {M : Mm} {dk : Int → Int} {fi la : Int} (hQ : QI M) (h : QD (M 5 0 5) (M 5 0 6) (M 5 0 7) (M 21 0) dk fi la) (key : Int) : -2000000000000 ≤ dk key ∧ dk key ≤ 2432902008176640000 := by
  obtain ⟨q0, q1, q2, q3, q4, q5⟩ := hQ
  have p40 : (2 : Int) ^ 40 = 1099511627776 := by decide
  rcases h with ⟨ht, f', -, -, -, -, hd⟩ | ⟨ht, f', -, -, -, -, hd⟩ | ⟨ht, -, -, hd⟩ | ⟨ht, -, -, hd⟩
  · have r1 := q1 (by omega)
    rw [hd]
    have h1 := cw_nn (M 21 0) (M 5 0 6).toNat (M 5 0 7).toNat key
    have h2 := cw_le (M 21 0) (M 5 0 6).toNat (M 5 0 7).toNat key
    have h3 := chs_2 (M 5 0 6).toNat (M 5 0 7).toNat
    have h4 := pow_le (a := (M 5 0 6).toNat) (b := 40) (by omega)
    omega
  · have r1 := q1 (by omega)
    rw [hd]
    unfold gpd
    have h1 := gpc_in f' (M 5 0 6).toNat (M 5 0 7).toNat key (M 5 0 6).toNat (M 5 0 7).toNat
    have h5 := gpc_in f' (M 5 0 6).toNat (M 5 0 7).toNat (key - 1) (M 5 0 6).toNat (M 5 0 7).toNat
    have h3 := chs_2 (M 5 0 6).toNat (M 5 0 7).toNat
    have h4 := pow_le (a := (M 5 0 6).toNat) (b := 40) (by omega)
    split <;> omega
  · have r1 := q2 (by omega)
    rw [hd]
    have h1 := swc_nn (M 21 0) (M 5 0 6).toNat key
    have h2 := swc_le (M 21 0) (M 5 0 6).toNat key
    have h4 := pow_le (a := (M 5 0 6).toNat) (b := 40) (by omega)
    omega
  · have r1 := q2 (by omega)
    rw [hd]
    have h1 := mh_nn (M 5 0 6).toNat key
    have h2 := mh_le (M 5 0 6).toNat key
    have h3 := fac_le ⟨(M 5 0 6).toNat, by omega⟩
    have h4 : fac (M 5 0 6).toNat ≤ 2432902008176640000 := h3
    omega
theorem lad_ap {M : Mm} {v c : Int} {g : Nat} (h2 : ¬ g = 2) (h16 : ¬ g = 16) (h17 : ¬ g = 17) : lad M v c g = M g := by
  unfold lad
  funext s k
  rw [stm_ap, if_neg (fun z => h2 z.1)]
  split
  · rw [stm_ap, if_neg (fun z => h17 z.1), stm_ap, if_neg (fun z => h16 z.1)]
  · rfl
theorem LK_lad {M : Mm} {st sh : Int} {dk : Int → Int} {ks : List Int} (h : LK M st sh dk ks) (key : Int) : LK (lad M (st * key + sh) (dk key)) st sh dk (ks ++ [key]) := by
  obtain ⟨h1, h2⟩ := h
  refine ⟨?_, fun q hq key' hk => ?_⟩
  · unfold lad
    rw [stm_ap, if_pos ⟨rfl, rfl, rfl⟩, h1, List.length_append]
    rfl
  · unfold lad
    by_cases e : q < ks.length
    · rw [List.getElem?_append_left e] at hk
      have := h2 q hq key' hk
      rw [stm_ap, if_neg (by omega), stm_ap, if_neg (by omega)]
      split
      · rw [stm_ap, if_neg (by omega), stm_ap, if_neg (by omega), stm_ap, if_neg (by omega), stm_ap, if_neg (by omega)]
        exact this
      · exact this
    · rw [List.getElem?_append_right (by omega)] at hk
      have hl := (List.getElem?_eq_some_iff.mp hk).1
      simp only [List.length_cons, List.length_nil] at hl
      have e2 : q - ks.length = 0 := by omega
      rw [e2] at hk
      cases hk
      rw [stm_ap, if_neg (by omega), stm_ap, if_neg (by omega)]
      rw [if_pos (by omega), stm_ap, if_neg (by omega), stm_ap, if_pos ⟨rfl, rfl, by omega⟩, stm_ap, if_pos ⟨rfl, rfl, by omega⟩]
      exact ⟨rfl, rfl⟩
