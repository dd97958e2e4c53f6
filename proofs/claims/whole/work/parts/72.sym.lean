/-! the ways of pairs: as many with u as with all but u; all together -/
theorem cle_id (v : Int) (n : Nat) : cle (fun j => (j : Int)) v n = max 0 (min (v + 1) n) := by
  induction n with
  | zero => show (0 : Int) = _; omega
  | succ n ih =>
    show cle (fun j => (j : Int)) v n + (if (n : Int) ≤ v then 1 else 0) = _
    rw [ih]
    split <;> omega
theorem cle_rv (N : Nat) (v : Int) (m : Nat) (hm : m ≤ N) : cle (fun j => (N : Int) - 1 - j) v m = m - max 0 (min (N - 1 - v) m) := by
  induction m with
  | zero => show (0 : Int) = _; omega
  | succ m ih =>
    show cle (fun j => (N : Int) - 1 - j) v m + (if (N : Int) - 1 - m ≤ v then 1 else 0) = _
    rw [ih (by omega)]
    split <;> omega
theorem cw_rv (n k : Nat) (s : Int) : cw (fun j => (n : Int) - 1 - j) n k s = cw (fun j => (j : Int)) n k s := by
  obtain ⟨f', hp, hs⟩ := srt_ex (fun j => (n : Int) - 1 - j) n
  have e : ∀ j, j < n → f' j = (j : Int) := srt_uq hs (fun i j hi hj => by show (i : Int) ≤ j; omega) (fun v => by
    rw [cle_pm hp v, cle_rv n v n (Nat.le_refl _), cle_id]
    omega)
  rw [← cw_pm hp k s, cw_cg e]
theorem cw_rf (f : Nat → Int) (c : Int) (n : Nat) : ∀ (k : Nat) (s : Int), cw (fun j => c - f j) n k s = cw f n k (k * c - s) := by
  induction n with
  | zero =>
    intro k s
    cases k with
    | zero => show (if s = 0 then (1 : Int) else 0) = (if ((0 : Nat) : Int) * c - s = 0 then 1 else 0); rw [Int.natCast_zero, Int.zero_mul]; split <;> split <;> first | rfl | omega
    | succ k => rfl
  | succ n ih =>
    intro k s
    cases k with
    | zero => exact ih 0 s
    | succ k =>
      rw [cw_s, cw_s, ih, ih]
      congr 2
      rw [Int.natCast_succ, Int.add_mul, Int.one_mul]
      omega
theorem sm_tw (k : Nat) : 2 * sm (fun j => (j : Int)) k = k * (k - 1) := by
  induction k with
  | zero => rfl
  | succ k ih =>
    rw [sm_s, Int.mul_add, ih, Int.natCast_succ, Int.mul_sub, Int.mul_sub, Int.add_mul, Int.mul_add]
    omega
theorem wpn_sym (k o : Nat) (u : Int) : wpn k o u = wpn k o (k * o - u) := by
  unfold wpn
  rw [← cw_rv, cw_rf (fun j => (j : Int)) (((k + o : Nat) : Int) - 1)]
  congr 1
  have := sm_tw k
  rw [Int.mul_sub] at this
  rw [Int.mul_sub, Int.natCast_add, Int.mul_add]
  omega
theorem sm_nn {f : Nat → Int} (h : ∀ j, 0 ≤ f j) (n : Nat) : 0 ≤ sm f n := by
  induction n with
  | zero => exact Int.le_refl 0
  | succ n ih => rw [sm_s]; have := h n; omega
theorem sm_hit (lo : Int) (N : Nat) : sm (fun u => if lo + (u : Int) = 0 then (1 : Int) else 0) N = if lo ≤ 0 ∧ 0 < lo + N then 1 else 0 := by
  induction N with
  | zero => show (0 : Int) = _; rw [if_neg (by omega)]
  | succ N ih =>
    rw [sm_s, ih]
    by_cases c : lo + (N : Int) = 0
    · rw [if_neg (by omega), if_pos c, if_pos (by omega)]; rfl
    · by_cases d : lo ≤ 0 ∧ 0 < lo + N
      · rw [if_pos d, if_neg c, if_pos (by omega)]; rfl
      · rw [if_neg d, if_neg c, if_neg (by omega)]; rfl
theorem cw_sum (f : Nat → Int) (n : Nat) : ∀ (k : Nat) (lo : Int) (N : Nat), (∀ s : Int, cw f n k s ≠ 0 → lo ≤ s ∧ s < lo + N) → sm (fun u => cw f n k (lo + u)) N = chs n k := by
  induction n with
  | zero =>
    intro k lo N h
    cases k with
    | zero =>
      have := h 0 (by show (1 : Int) ≠ 0; decide)
      show sm (fun u => if lo + (u : Int) = 0 then (1 : Int) else 0) N = 1
      rw [sm_hit, if_pos (by omega)]
    | succ k =>
      show sm (fun u => 0) N = 0
      induction N with
      | zero => rfl
      | succ N ih => rw [sm_s, ih (fun s hs => absurd rfl hs)]; rfl
  | succ n ih =>
    intro k lo N h
    cases k with
    | zero =>
      have := ih 0 lo N h
      rw [chs_z] at this ⊢
      exact this
    | succ k =>
      have e : (fun u : Nat => cw f (n + 1) (k + 1) (lo + u)) = fun u : Nat => cw f n (k + 1) (lo + u) + cw f n k (lo - f n + u) := funext fun u => by
        rw [cw_s, show lo + (u : Int) - f n = lo - f n + u by omega]
      have w1 : ∀ s : Int, cw f n (k + 1) s ≠ 0 → lo ≤ s ∧ s < lo + N := fun s hs => h s (by
        have h1 := cw_nn f n (k + 1) s
        have h2 := cw_nn f n k (s - f n)
        rw [cw_s]
        omega)
      have w2 : ∀ s : Int, cw f n k s ≠ 0 → lo - f n ≤ s ∧ s < lo - f n + N := fun s hs => by
        have := h (s + f n) (by
          have h1 := cw_nn f n (k + 1) (s + f n)
          have h2 := cw_nn f n k s
          rw [cw_s, show s + f n - f n = s by omega]
          omega)
        omega
      rw [e, sm_ad, ih (k + 1) lo N w1, ih k (lo - f n) N w2, chs_ss, Int.add_comm]
theorem wps_all (k o : Nat) : wps k o (k * o + 1) = chs (k + o) k := by
  have hsp : ∀ u : Int, wpn k o u ≠ 0 → 0 ≤ u := fun u hu => by
    have := (cw_supp (f := fun j => (j : Int)) (n := k + o) (fun i j hi hj => by show (i : Int) ≤ j; omega) (by omega) hu).1
    omega
  have hsp2 : ∀ u : Int, wpn k o u ≠ 0 → u ≤ k * o := fun u hu => by
    have := hsp (k * o - u) (by rw [← wpn_sym]; exact hu)
    omega
  unfold wps wpn
  refine cw_sum _ _ _ _ _ (fun s hs => ?_)
  have e : s = sm (fun j => (j : Int)) k + (s - sm (fun j => (j : Int)) k) := by omega
  rw [e] at hs
  have h1 := hsp _ hs
  have h2 := hsp2 _ hs
  rw [Int.natCast_succ, Int.natCast_mul]
  omega
theorem wps_sym (k o : Nat) (m : Nat) : m ≤ k * o + 1 → wps k o (k * o + 1 - m) + wps k o m = chs (k + o) k := by
  induction m with
  | zero =>
    intro _
    rw [← wps_all]
    exact Int.add_zero _
  | succ m ih =>
    intro hm
    have := ih (by omega)
    rw [show k * o + 1 - m = (k * o + 1 - (m + 1)) + 1 by omega] at this
    unfold wps at this ⊢
    rw [sm_s] at this ⊢
    have es := wpn_sym k o (m : Int)
    rw [show ((k * o + 1 - (m + 1) : Nat) : Int) = (k : Int) * o - m by rw [← Int.natCast_mul]; omega] at this
    omega
theorem wps_mono (k o : Nat) {m n : Nat} (h : m ≤ n) : wps k o m ≤ wps k o n := by
  induction n with
  | zero => rw [show m = 0 by omega]; exact Int.le_refl _
  | succ n ih =>
    by_cases c : m = n + 1
    · rw [c]; exact Int.le_refl _
    · have h1 := ih (by omega)
      have h2 := wpn_nn k o (n : Int)
      unfold wps at h1 ⊢
      rw [sm_s]
      omega
theorem step_uq {k o : Nat} {p q r r' : Int} (hp : 0 < p) (hq : p < q) (h : stepOk k o p q r) (h' : stepM k o p q r') : r = r' := by
  obtain ⟨a1, a2, a3⟩ := h
  obtain ⟨b1, b2, b3⟩ := h'
  have hko : (0 : Int) ≤ (k : Int) * o := by rw [← Int.natCast_mul]; omega
  rcases Int.lt_trichotomy r r' with c | c | c
  · exfalso
    have c1 := b2 r.toNat (by omega)
    by_cases d : r < (k : Int) * o / 2
    · have := a3 d; omega
    · have hs := wps_sym k o (k * o - r.toNat) (by omega)
      have hm := wps_mono k o (m := k * o - r.toNat) (n := r.toNat + 1) (by
        have : (k : Int) * o = ((k * o : Nat) : Int) := (Int.natCast_mul _ _).symm
        omega)
      rw [show k * o + 1 - (k * o - r.toNat) = r.toNat + 1 by
        have : (k : Int) * o = ((k * o : Nat) : Int) := (Int.natCast_mul _ _).symm
        omega] at hs
      have h1 := chs_1 (n := k + o) (k := k) (by omega)
      have h2 : q * chs (k + o) k ≤ q * (2 * wps k o (r.toNat + 1)) := Int.mul_le_mul_of_nonneg_left (by omega) (by omega)
      have h3 : p * chs (k + o) k < q * chs (k + o) k := Int.mul_lt_mul_of_pos_right hq (by omega)
      rw [← Int.mul_assoc, Int.mul_comm q 2] at h2
      omega
  · exact c
  · exfalso
    have c1 := a2 r'.toNat (by omega)
    have c2 := b3 (by omega)
    omega
