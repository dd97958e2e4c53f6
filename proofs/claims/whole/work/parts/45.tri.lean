/-! tables: how many ways a column's things can be put, sums over all tables -/
theorem chs_z (n : Nat) : chs n 0 = 1 := by cases n <;> rfl
theorem chs_ss (n k : Nat) : chs (n + 1) (k + 1) = chs n k + chs n (k + 1) := rfl
def trk (n x y : Nat) : Int := chs n x * chs (n - x) y
theorem trk_nn (n x y : Nat) : 0 ≤ trk n x y := Int.mul_nonneg (chs_nn _ _) (chs_nn _ _)
theorem trk_le (n : Nat) : ∀ x y : Nat, trk (n + 1) x y ≤ 3 ^ n := by
  induction n with
  | zero =>
    intro x y
    show chs 1 x * chs (1 - x) y ≤ 1
    match x with
    | 0 =>
      rw [chs_z, Int.one_mul]
      match y with
      | 0 => decide
      | 1 => decide
      | y + 2 => show chs 0 (y + 1) + chs 0 (y + 2) ≤ 1; exact (by decide : (0 : Int) + 0 ≤ 1)
    | 1 =>
      show chs 1 1 * chs 0 y ≤ 1
      match y with
      | 0 => decide
      | y + 1 => show chs 1 1 * 0 ≤ 1; decide
    | x + 2 =>
      rw [show chs 1 (x + 2) = 0 from chs_0 (by omega), Int.zero_mul]
      decide
  | succ n ih =>
    intro x y
    have p3 : (3 : Int) ^ (n + 1) = 3 ^ n * 3 := Int.pow_succ 3 n
    have p0 : (0 : Int) < 3 ^ n := Int.pow_pos (by decide)
    match x with
    | 0 =>
      show chs (n + 2) 0 * chs (n + 2) y ≤ _
      rw [chs_z, Int.one_mul]
      match y with
      | 0 => rw [chs_z]; omega
      | y + 1 =>
        rw [chs_ss]
        have a1 := ih 0 y
        have a2 := ih 0 (y + 1)
        unfold trk at a1 a2
        rw [chs_z, Int.one_mul, Nat.sub_zero] at a1 a2
        omega
    | x + 1 =>
      show chs (n + 2) (x + 1) * chs (n + 2 - (x + 1)) y ≤ _
      rw [chs_ss, Int.add_mul, show n + 2 - (x + 1) = n + 1 - x by omega]
      have a1 := ih x y
      unfold trk at a1
      by_cases hx : x + 1 ≤ n + 1
      · match y with
        | 0 =>
          have a2 := ih (x + 1) 0
          unfold trk at a2
          rw [chs_z] at *
          omega
        | y + 1 =>
          have a2 := ih (x + 1) y
          have a3 := ih (x + 1) (y + 1)
          unfold trk at a2 a3
          have e : chs (n + 1 - x) (y + 1) = chs (n + 1 - (x + 1)) y + chs (n + 1 - (x + 1)) (y + 1) := by
            rw [show n + 1 - x = (n + 1 - (x + 1)) + 1 by omega, chs_ss]
          have e2 : chs (n + 1) (x + 1) * chs (n + 1 - x) (y + 1) = chs (n + 1) (x + 1) * chs (n + 1 - (x + 1)) y + chs (n + 1) (x + 1) * chs (n + 1 - (x + 1)) (y + 1) := by rw [e, Int.mul_add]
          omega
      · rw [show chs (n + 1) (x + 1) = 0 from chs_0 (by omega), Int.zero_mul]
        omega
/-- the ways to put s things: x first, y second, the rest third -/
def tri (s x y : Int) : Int := chI s x * chI (s - x) y
theorem chI_nn (n k : Int) : 0 ≤ chI n k := by
  unfold chI
  split
  · exact Int.le_refl 0
  · exact chs_nn _ _
theorem tri_nn (s x y : Int) : 0 ≤ tri s x y := Int.mul_nonneg (chI_nn _ _) (chI_nn _ _)
theorem tri_trk (s x y : Nat) (h : x ≤ s) : tri s x y = trk s x y := by
  unfold tri trk chI
  rw [if_neg (by omega), if_neg (by omega), show ((s : Int) - x).toNat = s - x by omega]
  rfl
theorem tri_z {s x y : Int} (h : x < 0 ∨ y < 0 ∨ s < x + y) : tri s x y = 0 := by
  unfold tri
  by_cases h1 : s < 0 ∨ x < 0
  · unfold chI; rw [if_pos h1, Int.zero_mul]
  · by_cases h2 : s - x < 0 ∨ y < 0
    · rw [show chI (s - x) y = 0 by unfold chI; rw [if_pos h2], Int.mul_zero]
    · rw [show chI (s - x) y = 0 by unfold chI; rw [if_neg h2]; exact chs_0 (by omega), Int.mul_zero]
/-- a bound -/
def b3 (n : Int) : Int := if n ≤ 0 then 1 else 3 ^ (n - 1).toNat
theorem b3_pos (n : Int) : 0 < b3 n := by
  unfold b3
  split
  · decide
  · exact Int.pow_pos (by decide)
theorem tri_le {s : Int} (hs : 0 ≤ s) (x y : Int) : tri s x y ≤ b3 s := by
  have hb := b3_pos s
  by_cases h : x < 0 ∨ y < 0 ∨ s < x + y
  · rw [tri_z h]; omega
  · obtain ⟨n, rfl⟩ : ∃ n : Nat, s = n := ⟨s.toNat, by omega⟩
    obtain ⟨u, rfl⟩ : ∃ u : Nat, x = u := ⟨x.toNat, by omega⟩
    obtain ⟨v, rfl⟩ : ∃ v : Nat, y = v := ⟨y.toNat, by omega⟩
    rw [tri_trk n u v (by omega)]
    cases n with
    | zero =>
      obtain rfl : u = 0 := by omega
      obtain rfl : v = 0 := by omega
      decide
    | succ n =>
      have := trk_le n u v
      unfold b3
      rw [if_neg (by omega), show (((n + 1 : Nat) : Int) - 1).toNat = n by omega]
      exact this
theorem b3_mul {a b : Int} (ha : 0 ≤ a) (hb : 0 ≤ b) : b3 a * b3 b ≤ b3 (a + b) := by
  by_cases h1 : a = 0
  · subst h1; rw [show b3 0 = 1 from rfl, Int.one_mul, Int.zero_add]; exact Int.le_refl _
  · by_cases h2 : b = 0
    · subst h2; rw [show b3 0 = 1 from rfl, Int.mul_one, Int.add_zero]; exact Int.le_refl _
    · unfold b3
      rw [if_neg (by omega), if_neg (by omega), if_neg (by omega), ← Int.pow_add, show (a + b - 1).toNat = ((a - 1).toNat + (b - 1).toNat) + 1 by omega, Int.pow_succ]
      have : (0 : Int) < 3 ^ ((a - 1).toNat + (b - 1).toNat) := Int.pow_pos (by decide)
      omega
theorem b3_40 {n : Int} (h : n ≤ 40) : b3 n < 9223372036854775808 := by
  unfold b3
  split
  · decide
  · obtain ⟨m, hm⟩ : ∃ m : Nat, m = (n - 1).toNat := ⟨_, rfl⟩
    have hm2 : m ≤ 39 := by omega
    rw [← hm]
    have key : ∀ d : Nat, (3 : Int) ^ m ≤ 3 ^ (m + d) := by
      intro d
      induction d with
      | zero => exact Int.le_refl _
      | succ d ih =>
        rw [show m + (d + 1) = (m + d) + 1 by omega, Int.pow_succ]
        have : (0 : Int) < 3 ^ (m + d) := Int.pow_pos (by decide)
        omega
    have := key (39 - m)
    rw [show m + (39 - m) = 39 by omega] at this
    have e : (3 : Int) ^ 39 = 4052555153018976267 := by decide
    omega
/-! sums -/
theorem sm_ml (f : Nat → Int) (w : Int) (n : Nat) : sm (fun j => w * f j) n = w * sm f n := by
  induction n with
  | zero => show (0 : Int) = w * 0; rw [Int.mul_zero]
  | succ n ih => rw [sm_s, sm_s, ih, Int.mul_add]
theorem sm_one {f : Nat → Int} {n k : Nat} (hk : k < n) (h : ∀ j, j < n → j ≠ k → f j = 0) : sm f n = f k := by
  induction n with
  | zero => omega
  | succ n ih =>
    rw [sm_s]
    by_cases e : k = n
    · rw [sm_z (fun j hj => h j (by omega) (by omega)), e, Int.zero_add]
    · rw [ih (by omega) (fun j hj => h j (by omega)), h n (by omega) (fun z => e z.symm), Int.add_zero]
theorem sm_ext {f : Nat → Int} {a b : Nat} (hab : a ≤ b) (h : ∀ j, a ≤ j → j < b → f j = 0) : sm f b = sm f a := by
  obtain ⟨d, rfl⟩ : ∃ d, b = a + d := ⟨b - a, by omega⟩
  clear hab
  induction d with
  | zero => rfl
  | succ d ih =>
    rw [show a + (d + 1) = (a + d) + 1 by omega, sm_s, h (a + d) (by omega) (by omega), Int.add_zero]
    exact ih fun j h1 h2 => h j h1 (by omega)
/-! all ways to put the things of two lots -/
theorem psc (m : Nat) (a : Nat → Int) (N : Nat) : sm (fun y => chs (m + 1) y * a y) (N + 1) = sm (fun y => chs m y * a y) (N + 1) + sm (fun y => chs m y * a (y + 1)) N := by
  induction N with
  | zero =>
    show 0 + chs (m + 1) 0 * a 0 = 0 + chs m 0 * a 0 + 0
    rw [chs_z, chs_z, Int.add_zero]
  | succ N ih =>
    rw [sm_s, ih, sm_s (fun y => chs m y * a y) (N + 1), sm_s (fun y => chs m y * a (y + 1)) N]
    show _ + chs (m + 1) (N + 1) * a (N + 1) = _
    rw [chs_ss, Int.add_mul]
    omega
def hsm (G : Int → Int → Int) (m : Nat) (X Y : Int) : Int := sm (fun y => chs m y * G X (Y - y)) (m + 1)
theorem hsm_s (G : Int → Int → Int) (m : Nat) (X Y : Int) : hsm G (m + 1) X Y = hsm G m X Y + hsm G m X (Y - 1) := by
  unfold hsm
  rw [psc m (fun y => G X (Y - (y : Int))) (m + 1), sm_s (fun y => chs m y * G X (Y - (y : Int))) (m + 1)]
  rw [show chs m (m + 1) = 0 from chs_0 (by omega), Int.zero_mul, Int.add_zero]
  congr 1
  refine sm_cg fun j _ => ?_
  show chs m j * G X (Y - ((j + 1 : Nat) : Int)) = chs m j * G X (Y - 1 - (j : Int))
  rw [show Y - ((j + 1 : Nat) : Int) = Y - 1 - (j : Int) by omega]
def fsm (G : Int → Int → Int) (s : Nat) (X Y : Int) : Int := sm (fun x => chs s x * hsm G (s - x) (X - x) Y) (s + 1)
theorem fsm_s (G : Int → Int → Int) (s : Nat) (X Y : Int) : fsm G (s + 1) X Y = fsm G s (X - 1) Y + fsm G s X (Y - 1) + fsm G s X Y := by
  unfold fsm
  rw [psc s (fun x => hsm G (s + 1 - x) (X - (x : Int)) Y) (s + 1), sm_s (fun x => chs s x * hsm G (s + 1 - x) (X - (x : Int)) Y) (s + 1)]
  rw [show chs s (s + 1) = 0 from chs_0 (by omega), Int.zero_mul, Int.add_zero]
  have e1 : sm (fun x => chs s x * hsm G (s + 1 - x) (X - (x : Int)) Y) (s + 1) = sm (fun x => chs s x * hsm G (s - x) (X - (x : Int)) Y) (s + 1) + sm (fun x => chs s x * hsm G (s - x) (X - (x : Int)) (Y - 1)) (s + 1) := by
    rw [← sm_ad]
    refine sm_cg fun j hj => ?_
    rw [show s + 1 - j = (s - j) + 1 by omega, hsm_s, Int.mul_add]
  have e2 : sm (fun x => chs s x * hsm G (s + 1 - (x + 1)) (X - ((x + 1 : Nat) : Int)) Y) (s + 1) = sm (fun x => chs s x * hsm G (s - x) (X - 1 - (x : Int)) Y) (s + 1) := by
    refine sm_cg fun j hj => ?_
    rw [show s + 1 - (j + 1) = s - j by omega, show X - ((j + 1 : Nat) : Int) = X - 1 - (j : Int) by omega]
  rw [e1, e2]
  omega
theorem chI_s (n : Nat) (k : Int) : chI ((n : Int) + 1) k = chI n (k - 1) + chI n k := by
  unfold chI
  by_cases h : k < 0
  · rw [if_pos (by omega), if_pos (by omega), if_pos (by omega)]; rfl
  · by_cases h0 : k = 0
    · subst h0
      rw [if_neg (by omega), if_pos (by omega), if_neg (by omega)]
      show chs _ 0 = 0 + chs _ 0
      rw [chs_z, chs_z]; rfl
    · rw [if_neg (by omega), if_neg (by omega), if_neg (by omega), show ((n : Int) + 1).toNat = n + 1 by omega, show k.toNat = (k - 1).toNat + 1 by omega, show ((n : Int)).toNat = n by omega, chs_ss]
theorem tri_s (n : Nat) (X Y : Int) : tri ((n : Int) + 1) X Y = tri n (X - 1) Y + tri n X (Y - 1) + tri n X Y := by
  unfold tri
  rw [chI_s, Int.add_mul, show (n : Int) + 1 - X = n - (X - 1) by omega]
  by_cases h : X ≤ n
  · obtain ⟨m, hm⟩ : ∃ m : Nat, (m : Int) = n - X ∨ X < 0 := by
      by_cases h1 : X < 0
      · exact ⟨0, Or.inr h1⟩
      · exact ⟨(n - X).toNat, Or.inl (by omega)⟩
    rcases hm with hm | hm
    · rw [show (n : Int) - (X - 1) = (m : Int) + 1 by omega, chI_s, ← hm, Int.mul_add (chI n X)]
      omega
    · rw [show chI n X = 0 by unfold chI; rw [if_pos (Or.inr hm)]]
      rw [Int.zero_mul, Int.zero_mul, Int.zero_mul]
      omega
  · rw [show chI n X = 0 by unfold chI; split; rfl; exact chs_0 (by omega)]
    rw [Int.zero_mul, Int.zero_mul, Int.zero_mul]
    omega
theorem fsm_tri (T s : Nat) : ∀ X Y : Int, fsm (tri T) s X Y = tri ((s : Int) + T) X Y := by
  induction s with
  | zero =>
    intro X Y
    show 0 + chs 0 0 * (0 + chs 0 0 * tri T (X - ((0 : Nat) : Int)) (Y - ((0 : Nat) : Int))) = _
    rw [chs_z, Int.zero_add, Int.zero_add, Int.one_mul, Int.one_mul]
    simp
  | succ s ih =>
    intro X Y
    rw [fsm_s, ih, ih, ih]
    have := tri_s (s + T) X Y
    rw [show ((s + 1 : Nat) : Int) + T = ((s + T : Nat) : Int) + 1 by omega, this, show ((s + T : Nat) : Int) = (s : Int) + T by omega]
/-! the sum over all tables -/
def TS (φ : Int → Int → Int) (cs : Nat → Int) : Nat → Nat → Int → Int → Int → Int → Int → Int
  | 0, _, _, _, _, w, fx => φ fx w
  | k + 1, c, t, m, l, w, fx => sm (fun x => sm (fun y => if (x : Int) ≤ t ∧ (y : Int) ≤ m ∧ cs c - x - y ≤ l then TS φ cs k (c + 1) (t - x) (m - y) (l - (cs c - x - y)) (w * tri (cs c) x y) (if c = 0 then (x : Int) else fx) else 0) ((cs c).toNat - x + 1)) ((cs c).toNat + 1)
/-- the sum of k columns from c on -/
def clS (cs : Nat → Int) (c : Nat) : Nat → Int
  | 0 => 0
  | k + 1 => cs c + clS cs (c + 1) k
theorem clS_nn {cs : Nat → Int} {k : Nat} : ∀ {c : Nat}, (∀ j, c ≤ j → j < c + k → 0 ≤ cs j) → 0 ≤ clS cs c k := by
  induction k with
  | zero => intro c _; exact Int.le_refl 0
  | succ k ih => intro c h; have := h c (by omega) (by omega); have := ih (c := c + 1) (fun j h1 h2 => h j (by omega) (by omega)); show 0 ≤ cs c + _; omega
theorem TS_all (cs : Nat → Int) (k : Nat) : ∀ (c : Nat) (t m l w fx : Int), (∀ j, c ≤ j → j < c + k → 0 ≤ cs j) → 0 ≤ t → 0 ≤ m → 0 ≤ l → t + m + l = clS cs c k → TS (fun _ w => w) cs k c t m l w fx = w * tri (clS cs c k) t m := by
  induction k with
  | zero =>
    intro c t m l w fx _ h1 h2 h3 h4
    have h4 : t + m + l = 0 := h4
    obtain rfl : t = 0 := by omega
    obtain rfl : m = 0 := by omega
    show w = w * tri 0 0 0
    rw [show tri 0 0 0 = 1 by decide, Int.mul_one]
  | succ k ih =>
    intro c t m l w fx hc h1 h2 h3 h4
    have hcc := hc c (by omega) (by omega)
    have h4 : t + m + l = cs c + clS cs (c + 1) k := h4
    have hS := clS_nn (cs := cs) (k := k) (c := c + 1) (fun j a b => hc j (by omega) (by omega))
    show sm (fun x => sm (fun y => if (x : Int) ≤ t ∧ (y : Int) ≤ m ∧ cs c - x - y ≤ l then TS (fun _ w => w) cs k (c + 1) (t - x) (m - y) (l - (cs c - x - y)) (w * tri (cs c) x y) (if c = 0 then (x : Int) else fx) else 0) ((cs c).toNat - x + 1)) ((cs c).toNat + 1) = w * tri (cs c + clS cs (c + 1) k) t m
    obtain ⟨s, hs⟩ : ∃ s : Nat, cs c = s := ⟨(cs c).toNat, by omega⟩
    obtain ⟨T, hT⟩ : ∃ T : Nat, clS cs (c + 1) k = T := ⟨(clS cs (c + 1) k).toNat, by omega⟩
    have hsn : (cs c).toNat = s := by omega
    rw [hsn, hs, hT, ← fsm_tri T s t m]
    unfold fsm
    rw [← sm_ml]
    refine sm_cg fun x hx => ?_
    show _ = w * (chs s x * hsm (tri T) (s - x) (t - x) m)
    unfold hsm
    rw [← sm_ml, ← sm_ml]
    refine sm_cg fun y hy => ?_
    show _ = w * (chs s x * (chs (s - x) y * tri T (t - x) (m - y)))
    by_cases hcnd : (x : Int) ≤ t ∧ (y : Int) ≤ m ∧ (s : Int) - x - y ≤ l
    · rw [if_pos hcnd, ih (c + 1) _ _ _ _ _ (fun j a b => hc j (by omega) (by omega)) (by omega) (by omega) (by omega) (by omega), hT, tri_trk s x y (by omega)]
      unfold trk
      rw [Int.mul_assoc, Int.mul_assoc]
    · rw [if_neg hcnd, tri_z (s := (T : Int)) (by omega), Int.mul_zero, Int.mul_zero, Int.mul_zero]
/-- the last column has one way -/
theorem TS_last (φ : Int → Int → Int) (cs : Nat → Int) {c : Nat} {t m l w fx : Int} (h1 : 0 ≤ t) (h2 : 0 ≤ m) (h3 : 0 ≤ l) (h4 : t + m + l = cs c) (hc : c ≠ 0) : TS φ cs 1 c t m l w fx = φ fx (w * tri (cs c) t m) := by
  show sm (fun x => sm (fun y => if (x : Int) ≤ t ∧ (y : Int) ≤ m ∧ cs c - x - y ≤ l then φ (if c = 0 then (x : Int) else fx) (w * tri (cs c) x y) else 0) ((cs c).toNat - x + 1)) ((cs c).toNat + 1) = _
  rw [sm_one (k := t.toNat) (by omega), sm_one (k := m.toNat) (by omega)]
  · rw [if_pos (by omega), if_neg hc, show ((t.toNat : Nat) : Int) = t by omega, show ((m.toNat : Nat) : Int) = m by omega]
  · intro y hy hne
    rw [if_neg (by omega)]
  · intro x hx hne
    refine sm_z fun y hy => ?_
    rw [if_neg (by omega)]
