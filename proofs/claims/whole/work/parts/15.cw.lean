/-! how many choices of k of the first n have the sum s -/
def cw (f : Nat → Int) : Nat → Nat → Int → Int
  | 0, 0, s => if s = 0 then 1 else 0
  | 0, _ + 1, _ => 0
  | n + 1, 0, s => cw f n 0 s
  | n + 1, k + 1, s => cw f n (k + 1) s + cw f n k (s - f n)
theorem cw_z (f : Nat → Int) (n : Nat) (s : Int) : cw f n 0 s = if s = 0 then 1 else 0 := by
  induction n with
  | zero => rfl
  | succ n ih => exact ih
theorem cw_s (f : Nat → Int) (n k : Nat) (s : Int) : cw f (n + 1) (k + 1) s = cw f n (k + 1) s + cw f n k (s - f n) := rfl
theorem cw_gt (f : Nat → Int) {n k : Nat} (h : n < k) (s : Int) : cw f n k s = 0 := by
  induction n generalizing k s with
  | zero => cases k with
    | zero => omega
    | succ k => rfl
  | succ n ih => cases k with
    | zero => omega
    | succ k => rw [cw_s, ih (by omega), ih (by omega)]; rfl
theorem cw_nn (f : Nat → Int) (n k : Nat) (s : Int) : 0 ≤ cw f n k s := by
  induction n generalizing k s with
  | zero => cases k with
    | zero => rw [cw_z]; split <;> decide
    | succ k => exact Int.le_refl 0
  | succ n ih => cases k with
    | zero => exact ih 0 s
    | succ k => rw [cw_s]; have := ih (k + 1) s; have := ih k (s - f n); omega
theorem chs_nn (n k : Nat) : 0 ≤ chs n k := by
  induction n generalizing k with
  | zero => cases k <;> simp [chs]
  | succ n ih => cases k with
    | zero => show (0 : Int) ≤ 1; decide
    | succ k => show 0 ≤ chs n k + chs n (k + 1); have := ih k; have := ih (k + 1); omega
theorem cw_le (f : Nat → Int) (n k : Nat) (s : Int) : cw f n k s ≤ chs n k := by
  induction n generalizing k s with
  | zero => cases k with
    | zero => rw [cw_z]; show _ ≤ (1 : Int); split <;> decide
    | succ k => exact Int.le_refl 0
  | succ n ih => cases k with
    | zero => have := ih 0 s; show cw f n 0 s ≤ 1; cases n <;> exact this
    | succ k => rw [cw_s]; show _ ≤ chs n k + chs n (k + 1); have := ih (k + 1) s; have := ih k (s - f n); omega
theorem chs_2 (n k : Nat) : chs n k ≤ 2 ^ n := by
  induction n generalizing k with
  | zero => cases k <;> simp [chs]
  | succ n ih => cases k with
    | zero =>
      show (1 : Int) ≤ 2 ^ (n + 1)
      have := ih 0
      have h1 : chs n 0 = 1 := by cases n <;> rfl
      rw [h1] at this
      rw [Int.pow_succ]
      omega
    | succ k =>
      show chs n k + chs n (k + 1) ≤ _
      have := ih k
      have := ih (k + 1)
      rw [Int.pow_succ]
      omega
theorem cw_cg {f g : Nat → Int} {n : Nat} (h : ∀ j, j < n → f j = g j) (k : Nat) (s : Int) : cw f n k s = cw g n k s := by
  induction n generalizing k s with
  | zero => cases k <;> rfl
  | succ n ih => cases k with
    | zero => exact ih (fun j hj => h j (by omega)) 0 s
    | succ k => rw [cw_s, cw_s, ih (fun j hj => h j (by omega)), ih (fun j hj => h j (by omega)), h n (by omega)]
theorem cw_sh (f : Nat → Int) (c : Int) (n k : Nat) (s : Int) : cw (fun j => f j + c) n k s = cw f n k (s - k * c) := by
  induction n generalizing k s with
  | zero => cases k with
    | zero => simp [cw]
    | succ k => rfl
  | succ n ih => cases k with
    | zero =>
      show cw (fun j => f j + c) n 0 s = cw f n 0 (s - (0 : Nat) * c)
      rw [ih]
    | succ k =>
      rw [cw_s, cw_s, ih, ih]
      congr 2
      have : ((k + 1 : Nat) : Int) * c = k * c + c := by rw [Int.natCast_add, Int.add_mul]; simp
      omega
theorem cw_sw {n p : Nat} {f g : Nat → Int} (h : sw1 n p f g) (k : Nat) (s : Int) : cw g n k s = cw f n k s := by
  obtain ⟨hp, h1, h2, h3⟩ := h
  obtain ⟨m, rfl⟩ : ∃ m, n = p + 2 + m := ⟨n - (p + 2), by omega⟩
  clear hp
  induction m generalizing k s with
  | zero =>
    have e : ∀ k s, cw g p k s = cw f p k s := fun k s => cw_cg (fun j hj => h3 j (by omega) (by omega)) k s
    cases k with
    | zero => exact e 0 s
    | succ k =>
      show cw g (p + 1) (k + 1) s + cw g (p + 1) k (s - g (p + 1)) = cw f (p + 1) (k + 1) s + cw f (p + 1) k (s - f (p + 1))
      cases k with
      | zero =>
        show (cw g p 1 s + cw g p 0 (s - g p)) + cw g p 0 (s - g (p + 1)) = (cw f p 1 s + cw f p 0 (s - f p)) + cw f p 0 (s - f (p + 1))
        rw [e, e, e, h1, h2]
        omega
      | succ k =>
        show (cw g p (k + 2) s + cw g p (k + 1) (s - g p)) + (cw g p (k + 1) (s - g (p + 1)) + cw g p k (s - g (p + 1) - g p)) = (cw f p (k + 2) s + cw f p (k + 1) (s - f p)) + (cw f p (k + 1) (s - f (p + 1)) + cw f p k (s - f (p + 1) - f p))
        rw [e, e, e, e, h1, h2, show s - f p - f (p + 1) = s - f (p + 1) - f p by omega]
        omega
  | succ m ih =>
    cases k with
    | zero => exact ih 0 s
    | succ k =>
      show cw g (p + 2 + m) (k + 1) s + cw g (p + 2 + m) k (s - g (p + 2 + m)) = cw f (p + 2 + m) (k + 1) s + cw f (p + 2 + m) k (s - f (p + 2 + m))
      rw [ih, ih, h3 _ (by omega) (by omega)]
theorem cw_pm {n : Nat} {f g : Nat → Int} (h : pmf n f g) (k : Nat) (s : Int) : cw g n k s = cw f n k s := h (fun q => cw q n k s = cw f n k s) (fun p a b hs e => (cw_sw hs k s).trans e) rfl
theorem sm_s (f : Nat → Int) (n : Nat) : sm f (n + 1) = sm f n + f n := rfl
/-- the sum of the k greatest of the first n, if they rise -/
def gsm (f : Nat → Int) (n k : Nat) : Int := sm f n - sm f (n - k)
theorem gsm_s (f : Nat → Int) {n k : Nat} : gsm f (n + 1) (k + 1) = gsm f n k + f n := by
  unfold gsm
  rw [sm_s, show n + 1 - (k + 1) = n - k by omega]
  omega
theorem gsm_up (f : Nat → Int) {n k : Nat} (h : srt f (n + 1)) (hk : k ≤ n) : gsm f n k ≤ gsm f (n + 1) k := by
  unfold gsm
  cases k with
  | zero => simp
  | succ k =>
    rw [sm_s, show n + 1 - (k + 1) = (n - (k + 1)) + 1 by omega, sm_s]
    have := h (n - (k + 1)) n (by omega) (by omega)
    omega
theorem srt.less {f : Nat → Int} {n m : Nat} (h : srt f n) (hm : m ≤ n) : srt f m := fun i j h1 h2 => h i j h1 (by omega)
theorem gsm_le (f : Nat → Int) {n m k : Nat} (h : srt f m) (hn : n ≤ m) (hk : k ≤ n) : gsm f n k ≤ gsm f m k := by
  obtain ⟨d, rfl⟩ : ∃ d, m = n + d := ⟨m - n, by omega⟩
  induction d with
  | zero => exact Int.le_refl _
  | succ d ih =>
    have h1 := ih (h.less (by omega)) (by omega)
    have h2 := gsm_up f (n := n + d) (k := k) h (by omega)
    exact Int.le_trans h1 h2
theorem cw_supp {f : Nat → Int} {n : Nat} (hs : srt f n) {k : Nat} (hk : k ≤ n) {s : Int} (h : cw f n k s ≠ 0) : sm f k ≤ s ∧ s ≤ gsm f n k := by
  induction n generalizing k s with
  | zero =>
    obtain rfl : k = 0 := by omega
    rw [cw_z] at h
    have : s = 0 := by
      by_cases e : s = 0
      · exact e
      · rw [if_neg e] at h; exact absurd rfl h
    subst this
    simp [gsm, sm]
  | succ n ih =>
    cases k with
    | zero =>
      rw [cw_z] at h
      have : s = 0 := by
        by_cases e : s = 0
        · exact e
        · rw [if_neg e] at h; exact absurd rfl h
      subst this
      simp [gsm, sm]
    | succ k =>
      rw [cw_s] at h
      by_cases e : cw f n k (s - f n) = 0
      · have h1 : cw f n (k + 1) s ≠ 0 := fun z => h (by rw [z, e]; rfl)
        have hkn : k + 1 ≤ n := by
          rcases Nat.lt_or_ge n (k + 1) with q | q
          · exact absurd (cw_gt f q s) h1
          · exact q
        obtain ⟨q1, q2⟩ := ih (hs.less (by omega)) hkn h1
        exact ⟨q1, Int.le_trans q2 (gsm_up f hs hkn)⟩
      · obtain ⟨q1, q2⟩ := ih (hs.less (by omega)) (by omega) e
        refine ⟨?_, by rw [gsm_s]; omega⟩
        rw [sm_s]
        rcases Nat.lt_or_ge k n with q | q
        · have := hs k n q (by omega); omega
        · rw [show k = n by omega] at q1 ⊢; omega
theorem sm_in {f : Nat → Int} {n : Nat} {c : Int} (hc : 0 ≤ c) (h : ∀ j, j < n → 0 ≤ f j ∧ f j ≤ c) : 0 ≤ sm f n ∧ sm f n ≤ n * c := by
  induction n with
  | zero => simp [sm]
  | succ n ih =>
    have h1 := ih fun j hj => h j (by omega)
    have h2 := h n (by omega)
    rw [sm_s]
    have : ((n + 1 : Nat) : Int) * c = n * c + c := by rw [Int.natCast_add, Int.add_mul]; simp
    omega
theorem gsm_in {f : Nat → Int} {n k : Nat} {c : Int} (hk : k ≤ n) (h : ∀ j, j < n → 0 ≤ f j ∧ f j ≤ c) : 0 ≤ gsm f n k ∧ gsm f n k ≤ k * c := by
  induction k generalizing n with
  | zero => simp [gsm]
  | succ k ih =>
    obtain ⟨m, rfl⟩ : ∃ m, n = m + 1 := ⟨n - 1, by omega⟩
    have h1 := ih (n := m) (by omega) fun j hj => h j (by omega)
    have h2 := h m (by omega)
    rw [gsm_s]
    have : ((k + 1 : Nat) : Int) * c = k * c + c := by rw [Int.natCast_add, Int.add_mul]; simp
    omega
theorem sm_gsm {f : Nat → Int} {n : Nat} (hs : srt f n) {k : Nat} (hk : k ≤ n) : sm f k ≤ gsm f n k := by
  have h : gsm f k k ≤ gsm f n k := gsm_le f hs hk (Nat.le_refl k)
  unfold gsm at h
  simp only [Nat.sub_self, sm, Int.sub_zero] at h
  exact h
