/-! CloudBenchModel: asks, score, total, count, spread, ask -/
theorem cle_split (f : Nat → Int) (x : Int) (p q : Nat) : cle f x (p + q) = cle f x p + cle (fun j => f (p + j)) x q := by
  induction q with
  | zero => show cle f x p = cle f x p + 0; omega
  | succ q ih =>
    show cle f x (p + q) + (if f (p + q) ≤ x then 1 else 0) = cle f x p + (cle (fun j => f (p + j)) x q + if f (p + q) ≤ x then 1 else 0)
    rw [ih]
    omega
theorem mxf_nn (h : Nat → Int) (n : Nat) : 0 ≤ mxf h n := by
  induction n with
  | zero => exact Int.le_refl 0
  | succ n ih => show 0 ≤ max (mxf h n) (h n); omega
theorem mxf_ge {h : Nat → Int} {n i : Nat} (hi : i < n) : h i ≤ mxf h n := by
  induction n with
  | zero => omega
  | succ n ih =>
    show h i ≤ max (mxf h n) (h n)
    by_cases e : i = n
    · rw [e]; omega
    · have := ih (by omega); omega
theorem mxf_le {h : Nat → Int} {n : Nat} {B : Int} (hB : 0 ≤ B) (hh : ∀ i, i < n → h i ≤ B) : mxf h n ≤ B := by
  induction n with
  | zero => exact hB
  | succ n ih =>
    show max (mxf h n) (h n) ≤ B
    have h1 := ih fun i hi => hh i (by omega)
    have h2 := hh n (by omega)
    omega
theorem mxg_mxf (M : Mm) (a b : Nat) (f : Nat → Int) (n : Nat) : mxg M a b f n = mxf (fun i => zab (M 8 b 1 * cle (M 27 a) (f i) (M 8 a 1).toNat - M 8 a 1 * cle (M 27 b) (f i) (M 8 b 1).toNat)) n := by
  induction n with
  | zero => rfl
  | succ n ih => show max (mxg M a b f n) _ = max (mxf _ n) _; rw [ih]
theorem vsq_onto {A : Nat → Int} {n : Nat} (hA : ∀ j, j < n → -500 ≤ A j ∧ A j ≤ 500) {i : Nat} (hi : i < n) : ∀ u : Nat, (∀ w, w < u → vpr A n w < 501) → A i ≤ vpr A n u → ∃ w, w < u ∧ vsq A n w = A i := by
  intro u
  induction u with
  | zero => intro _ h; have := hA i hi; have h : A i ≤ -501 := h; omega
  | succ u ih =>
    intro hp h
    by_cases e : A i ≤ vpr A n u
    · obtain ⟨w, h1, h2⟩ := ih (fun w hw => hp w (by omega)) e
      exact ⟨w, by omega, h2⟩
    · obtain ⟨i1, i2, i3, i4⟩ := nxv_in hA (hp u (by omega))
      have i3 := i3 i hi (by omega)
      rw [← vsq_n] at i3
      have h : A i ≤ vsq A n u := h
      exact ⟨u, by omega, by omega⟩
theorem most_eq {M : Mm} (hI : SI M) {a b : Nat} (ha : a < 8) (hb : b < 8) {G : Nat → Int} {gm : Int} (hg : grp (pol M a b) (M 8 a 1 + M 8 b 1).toNat G gm) : mxf (fun u => mvA (pol M a b) (M 8 a 1) (M 8 b 1) (vsq (pol M a b) (M 8 a 1 + M 8 b 1).toNat u)) gm.toNat = mxg M a b (pol M a b) (M 8 a 1 + M 8 b 1).toNat := by
  have ia := (hI a ha).1
  have ib := (hI b hb).1
  have hA : ∀ j, j < (M 8 a 1 + M 8 b 1).toNat → -500 ≤ pol M a b j ∧ pol M a b j ≤ 500 := fun j hj => pol_in hI ha hb j (by omega)
  have hmv : ∀ x : Int, mvA (pol M a b) (M 8 a 1) (M 8 b 1) x = zab (M 8 b 1 * cle (M 27 a) x (M 8 a 1).toNat - M 8 a 1 * cle (M 27 b) x (M 8 b 1).toNat) := by
    intro x
    unfold mvA
    have e1 : cle (pol M a b) x (M 8 a 1).toNat = cle (M 27 a) x (M 8 a 1).toNat := cle_cg (fun j hj => by unfold pol; rw [if_pos (by omega)]) x
    have e2 : cle (fun j => pol M a b ((M 8 a 1).toNat + j)) x (M 8 b 1).toNat = cle (M 27 b) x (M 8 b 1).toNat := cle_cg (fun j hj => by unfold pol; rw [if_neg (by omega), if_pos (by omega), show (M 8 a 1).toNat + j - (M 8 a 1).toNat = j by omega]) x
    have e3 := cle_split (pol M a b) x (M 8 a 1).toNat (M 8 b 1).toNat
    rw [show (M 8 a 1 + M 8 b 1).toNat = (M 8 a 1).toNat + (M 8 b 1).toNat by omega, e3, e2, e1, show cle (M 27 a) x (M 8 a 1).toNat + cle (M 27 b) x (M 8 b 1).toNat - cle (M 27 a) x (M 8 a 1).toNat = cle (M 27 b) x (M 8 b 1).toNat by omega]
  rw [mxg_mxf]
  obtain ⟨g1, g2, g3⟩ := hg
  refine Int.le_antisymm (mxf_le (mxf_nn _ _) fun u hu => ?_) (mxf_le (mxf_nn _ _) fun i hi => ?_)
  · obtain ⟨h1, h2⟩ := g2 u (by omega)
    obtain ⟨⟨p1, p0⟩, -⟩ := grp_sum hA g2 u (by omega)
    obtain ⟨i1, i2, i3, i4⟩ := nxv_in hA p1
    rw [← vsq_n] at i4
    rcases i4 with h | ⟨k, hk, he⟩
    · omega
    · show mvA (pol M a b) (M 8 a 1) (M 8 b 1) (vsq (pol M a b) (M 8 a 1 + M 8 b 1).toNat u) ≤ _
      rw [hmv, ← he]
      exact mxf_ge (h := fun i => zab (M 8 b 1 * cle (M 27 a) (pol M a b i) (M 8 a 1).toNat - M 8 a 1 * cle (M 27 b) (pol M a b i) (M 8 b 1).toNat)) hk
  · have hall : pol M a b i ≤ vpr (pol M a b) (M 8 a 1 + M 8 b 1).toNat gm.toNat := by
      obtain ⟨⟨p1, p0⟩, -⟩ := grp_sum hA g2 gm.toNat (by omega)
      obtain ⟨i1, i2, i3, -⟩ := nxv_in hA p1
      rw [← vsq_n] at i3
      apply Classical.byContradiction
      intro h
      have := i3 i hi (by omega)
      have := hA i hi
      omega
    obtain ⟨w, h1, h2⟩ := vsq_onto hA hi gm.toNat (fun w hw => (grp_sum hA g2 w (by omega)).1.1) hall
    show zab (M 8 b 1 * cle (M 27 a) (pol M a b i) (M 8 a 1).toNat - M 8 a 1 * cle (M 27 b) (pol M a b i) (M 8 b 1).toNat) ≤ _
    rw [← hmv, ← h2]
    exact mxf_ge (h := fun u => mvA (pol M a b) (M 8 a 1) (M 8 b 1) (vsq (pol M a b) (M 8 a 1 + M 8 b 1).toNat u)) h1
theorem tlst_mem {D : Int → Int} {times more : Int} {n : Nat} {s c : Int} (h : (s, c) ∈ tlst D times more n) : ∃ v : Nat, v < n ∧ s = times * v + more := by
  induction n with
  | zero => cases h
  | succ n ih =>
    unfold tlst at h
    split at h
    · obtain ⟨v, h1, h2⟩ := ih h
      exact ⟨v, by omega, h2⟩
    · rcases List.mem_append.mp h with h | h
      · obtain ⟨v, h1, h2⟩ := ih h
        exact ⟨v, by omega, h2⟩
      · rw [List.mem_singleton] at h
        injection h with e1 e2
        exact ⟨n, by omega, e1⟩
theorem osm_in (M : Mm) (a b : Nat) (n : Nat) (hn : n ≤ 20) : -400 ≤ osm M a b n ∧ osm M a b n ≤ 400 := by
  have e2 : ∀ i j : Nat, -(j : Int) ≤ osi M a b i j ∧ osi M a b i j ≤ j := fun i j => by
    induction j with
    | zero => exact ⟨Int.le_refl 0, Int.le_refl 0⟩
    | succ j ih =>
      have : -1 ≤ osg M a b i j ∧ osg M a b i j ≤ 1 := by unfold osg; split <;> omega
      show -((j + 1 : Nat) : Int) ≤ osi M a b i j + osg M a b i j ∧ osi M a b i j + osg M a b i j ≤ ((j + 1 : Nat) : Int)
      omega
  have e3 : ∀ n : Nat, n ≤ 20 → -(20 * (n : Int)) ≤ osm M a b n ∧ osm M a b n ≤ 20 * n := fun n => by
    induction n with
    | zero => intro _; exact ⟨Int.le_refl 0, Int.le_refl 0⟩
    | succ n ih =>
      intro h
      have h1 := ih (by omega)
      have h2 := e2 n n
      show -(20 * ((n + 1 : Nat) : Int)) ≤ osm M a b n + osi M a b n n ∧ osm M a b n + osi M a b n n ≤ 20 * ((n + 1 : Nat) : Int)
      omega
  have := e3 n hn
  omega
/-- what is told is in bounds -/
theorem ANS_in {M : Mm} (hI : SI M) {t : Int} {a b : Nat} (ha : a < 8) (hb : b < 8) (hab : 3 ≤ t → M 8 a 1 = M 8 b 1) {ks : List (Int × Int)} {tt th ft fl : Int} (h : ANS M t a b ks tt th ft fl) (hf2 : ∃ f : Nat → Int, SO f (pol M a b) (M 8 a 1 + M 8 b 1).toNat) : ks.length ≤ 20002 ∧ (∀ s c : Int, (s, c) ∈ ks → -100000 ≤ s ∧ s ≤ 100000) ∧ (-20000 ≤ th ∧ th ≤ 20000) ∧ (0 ≤ ft ∧ ft ≤ 40) ∧ (-1000000 ≤ fl ∧ fl ≤ 1000000) := by
  have ia := (hI a ha).1
  have ib := (hI b hb).1
  have hpb : ∀ j : Nat, (j : Int) < M 8 a 1 + M 8 b 1 → -500 ≤ pol M a b j ∧ pol M a b j ≤ 500 := fun j hj => pol_in hI ha hb j hj
  have hlt : ∀ (D : Int → Int) (times more : Int) (n : Nat), n ≤ 20002 → (1 ≤ times ∧ times ≤ 2) → (-20000 ≤ more ∧ more ≤ 0) → ks = tlst D times more n → ks.length ≤ 20002 ∧ ∀ s c : Int, (s, c) ∈ ks → -100000 ≤ s ∧ s ≤ 100000 := by
    intro D times more n hn ht hm hk
    refine ⟨by rw [hk]; have := tlst_len D times more n; omega, fun s c hs => ?_⟩
    rw [hk] at hs
    obtain ⟨v, h1, h2⟩ := tlst_mem hs
    have h3 : 0 ≤ times * v ∧ times * v ≤ 2 * v := ⟨Int.mul_nonneg (by omega) (by omega), Int.mul_le_mul_of_nonneg_right (by omega) (by omega)⟩
    omega
  rcases h with ⟨ht, hk, -, hth, hft, hfl⟩ | ⟨ht, hk, -, hth, hft, hfl⟩ | ⟨ht, hk, -, ⟨G, gm, hg, hth⟩, hft, hfl⟩ | ⟨ht, ds, hds, hk, -, hth, hft, hfl⟩ | ⟨ht, ds, hds, hk, -, hth, hft, hfl⟩ | ⟨ht, hk, -, hth, hft, hfl⟩
  · obtain ⟨h1, h2⟩ := hlt _ _ _ _ (by omega) (by omega) (by omega) hk
    have h3 := sm_abs (f := pol M a b) (n := (M 8 a 1).toNat) (c := 500) (by decide) (fun j hj => hpb j (by omega))
    have h4 := sm_abs (f := pol M a b) (n := (M 8 a 1 + M 8 b 1).toNat) (c := 500) (by decide) (fun j hj => hpb j (by omega))
    refine ⟨h1, h2, by omega, by omega, ?_⟩
    rw [hfl]
    have h5 : sm (pol M a b) (M 8 a 1 + M 8 b 1).toNat ≤ 20000 ∧ -20000 ≤ sm (pol M a b) (M 8 a 1 + M 8 b 1).toNat := by omega
    have h6 : M 8 a 1 * sm (pol M a b) (M 8 a 1 + M 8 b 1).toNat ≤ M 8 a 1 * 20000 := Int.mul_le_mul_of_nonneg_left (by omega) (by omega)
    have h7 : M 8 a 1 * (-20000) ≤ M 8 a 1 * sm (pol M a b) (M 8 a 1 + M 8 b 1).toNat := Int.mul_le_mul_of_nonneg_left (by omega) (by omega)
    omega
  · obtain ⟨h1, h2⟩ := hlt _ _ _ _ (by omega) (by omega) (by omega) hk
    have h3 := sm_in (f := fun j => drk (pol M a b) (M 8 a 1 + M 8 b 1).toNat (pol M a b j)) (n := (M 8 a 1).toNat) (c := 81) (by decide) (fun j hj => by have := drk_in (pol M a b) (M 8 a 1 + M 8 b 1).toNat (pol M a b j); omega)
    have h6 : M 8 a 1 * (M 8 a 1 + M 8 b 1 + 1) ≤ M 8 a 1 * 41 := Int.mul_le_mul_of_nonneg_left (by omega) (by omega)
    have h7 : 0 ≤ M 8 a 1 * (M 8 a 1 + M 8 b 1 + 1) := Int.mul_nonneg (by omega) (by omega)
    exact ⟨h1, h2, by omega, by omega, by omega⟩
  · obtain ⟨f, hf⟩ := hf2
    have hm : 0 ≤ M 8 a 1 * M 8 b 1 ∧ M 8 a 1 * M 8 b 1 ≤ M 8 a 1 * 20 := ⟨Int.mul_nonneg (by omega) (by omega), Int.mul_le_mul_of_nonneg_left (by omega) (by omega)⟩
    obtain ⟨h1, h2⟩ := hlt _ _ _ _ (by omega) (by omega) (by omega) (hk f hf)
    rw [most_eq hI ha hb hg] at hth
    have := mxg_in hI ha hb (pol M a b) (M 8 a 1 + M 8 b 1).toNat
    exact ⟨h1, h2, by omega, by omega, by omega⟩
  · have hlen : ds.length ≤ 20 := by have := nzl_len (dif M a b) (M 8 a 1).toNat; rw [← hds] at this; omega
    have h3 := sm_in (f := srk ds) (n := ds.length) (c := 41) (by decide) (fun j hj => by have := srk_in ds j; omega)
    obtain ⟨h1, h2⟩ := hlt _ _ _ _ (by omega) (by omega) (by omega) hk
    have h4 := ssm_in ds ds.length
    have h5 : (ds.length : Int) * (2 * ds.length + 1) ≤ 20 * (2 * ds.length + 1) := Int.mul_le_mul_of_nonneg_right (by omega) (by omega)
    exact ⟨h1, h2, by omega, by omega, by omega⟩
  · have hlen : ds.length ≤ 20 := by have := nzl_len (dif M a b) (M 8 a 1).toNat; rw [← hds] at this; omega
    have hdg : ∀ q : Nat, q < ds.length → -1000 ≤ dg ds q ∧ dg ds q ≤ 1000 := fun q hq => by
      have := dg_in hI (a := a) (b := b) ha hb (hab (by omega)) (q := q) (by rw [← hds]; exact hq)
      rw [← hds] at this
      exact ⟨this.1, this.2.1⟩
    have h3 := sm_in (f := fun j => zab (dg ds j)) (n := ds.length) (c := 1000) (by decide) (fun j hj => zab_in (hdg j hj))
    obtain ⟨h1, h2⟩ := hlt _ _ _ _ (by omega) (by omega) (by omega) hk
    have h4 := sm_abs (f := dg ds) (n := ds.length) (c := 1000) (by decide) hdg
    exact ⟨h1, h2, by omega, by omega, by omega⟩
  · have t20 : trn ((20 : Nat) : Int) = 190 := by decide
    have htn := trn_nn (M 8 a 1).toNat
    have htl := trn_le (a := (M 8 a 1).toNat) (b := 20) (by omega)
    rw [show (((M 8 a 1).toNat : Nat) : Int) = M 8 a 1 by omega] at htn htl
    obtain ⟨h1, h2⟩ := hlt _ _ _ _ (by omega) (by omega) (by omega) hk
    have h4 := osm_in M a b (M 8 a 1).toNat (by omega)
    exact ⟨h1, h2, by omega, by omega, by omega⟩
theorem SO_ex (A : Nat → Int) (n : Nat) : ∃ f : Nat → Int, SO f A n := by
  obtain ⟨f', hpm, hso⟩ := srt_ex A n
  exact ⟨f', hso, fun v => cle_pm hpm v⟩
theorem ANS_ok {M : Mm} (hI : SI M) {t : Int} {a b : Nat} (ha : a < 8) (hb : b < 8) (hab : 3 ≤ t → M 8 a 1 = M 8 b 1) {ks : List (Int × Int)} {tt th ft fl : Int} (h : ANS M t a b ks tt th ft fl) : ks.length ≤ 20002 ∧ mOkM th ft fl ks := by
  obtain ⟨h1, h2, h3, h4, h5⟩ := ANS_in hI ha hb hab h (SO_ex _ _)
  have key : ∀ s : Int, -100000 ≤ s → s ≤ 100000 → -1000000000000 ≤ ft * s - fl ∧ ft * s - fl ≤ 1000000000000 := by
    intro s u1 u2
    have v1 : ft * s ≤ ft * 100000 := Int.mul_le_mul_of_nonneg_left u2 h4.1
    have v2 : ft * (-100000) ≤ ft * s := Int.mul_le_mul_of_nonneg_left u1 h4.1
    omega
  refine ⟨h1, ⟨by omega, by omega⟩, key th (by omega) (by omega), fun s c hs => ?_⟩
  obtain ⟨u1, u2⟩ := h2 s c hs
  exact ⟨⟨by omega, by omega⟩, key s u1 u2⟩
theorem ANS_cg {M M' : Mm} (h8 : M' 8 = M 8) (h20 : M' 20 = M 20) (h27 : M' 27 = M 27) : ANS M' = ANS M := by
  have hp : pol M' = pol M := by
    funext a b j
    unfold pol
    rw [h8, h27, h20]
  have hd : dif M' = dif M := by
    funext a b j
    unfold dif
    rw [h27]
  have ho : osm M' = osm M := by
    funext a b k
    have e1 : ∀ i j : Nat, osg M' a b i j = osg M a b i j := fun i j => by unfold osg; rw [h27]
    have e2 : ∀ i j : Nat, osi M' a b i j = osi M a b i j := fun i j => by
      induction j with
      | zero => rfl
      | succ j ih => show osi M' _ _ i j + osg M' _ _ i j = osi M _ _ i j + osg M _ _ i j; rw [ih, e1]
    induction k with
    | zero => rfl
    | succ k ih => show osm M' _ _ k + osi M' _ _ k k = osm M _ _ k + osi M _ _ k k; rw [ih, e2]
  funext t a b ks tt th ft fl
  unfold ANS
  rw [hp, hd, ho, h8]
/-- what a question leaves as it was in the reference -/
def keepG (M M' : Mm) : Prop := (∀ g' : Nat, ¬ g' = 11 → (g' < 34 ∨ 43 < g' ∨ g' = 37) → M' g' = M g') ∧ ∀ k : Nat, (k < 7 ∨ 11 < k) → ¬ k = 2 → ¬ k = 15 → ¬ k = 18 → ¬ k = 20 → M' 11 0 k = M 11 0 k
theorem can_cg {M M' : Mm} (h8 : M' 8 = M 8) (h27 : M' 27 = M 27) {t a b : Int} : can M' t a b = can M t a b := by
  unfold can
  rw [two_cg h8, h8, h27]
def T_X11_asks : Ct := fun as M P => match as with
  | [.inr (some (g, s)), .inl (.inl t), .inl (.inl a), .inl (.inl b)] => g = 11 ∧ s = 0 ∧ iR t ∧ iR a ∧ iR b ∧ SI M ∧ SE M ∧ CE M ∧ (can M t a b → ∀ (M' : Mm) (ks : List (Int × Int)) (tt th ft fl : Int), keepG M M' → M' 11 0 2 = 0 → ANS M t a.toNat b.toNat ks tt th ft fl → FK M' ks tt th ft fl → P (some (zi 1)) M') ∧ (¬ can M t a b → P (some (zi 0)) (stm M 11 0 2 1))
  | _ => False
theorem k_X11_asks (l : Launch) : MetT l yX11_asks cX11_asks 4 (some .boolean) 5 T_X11_asks := by
  refine MetT.of (by decide +kernel) (fun as M P h => by unfold T_X11_asks at h; split at h <;> first | (simp [elo]; done) | exact h.elim) (fun x as M P h C hR => ?_)
  unfold T_X11_asks at h
  split at h
  rotate_left
  · exact h.elim
  rename_i g s t a b
  obtain ⟨rfl, rfl, ht, ha, hb, hI, hE, hCE, h1, h2⟩ := h
  refine B_X11_asks_0 C (k_X11_canAsk l) (by decide) _ _ _ ?_
  simp only [c_iadd, c_isub, c_imul, c_ladd, c_lsub, c_lmul, c_ineg, c_lneg, c_ic, c_lc, c_iload, c_lload, c_aload, c_istore, c_astore, c_lstore, c_iinc, c_dup, c_dup2, c_goto, c_i2l, c_l2i, c_idiv, c_ldiv, c_lrem, c_lshl, c_gi, c_gl, c_gr, c_pi, c_pz, c_pl, c_iald, c_lald, c_bald, c_aald, c_iast, c_last, c_bast, c_callV, c_callS, c_mmax, c_mmin, c_mabs, c_mmaxl, c_mabsl, c_iret, c_zret, c_lret, c_vret, c_tsw, c_lsw, c_icmp_eq, c_icmp_ne, c_icmp_lt, c_icmp_ge, c_icmp_gt, c_icmp_le, c_if_eq, c_if_ne, c_if_lt, c_if_ge, c_if_gt, c_if_le, c_lcmp_eq, c_lcmp_ne, c_lcmp_lt, c_lcmp_ge, c_lcmp_gt, c_lcmp_le, c_lraw_eq, c_lraw_lt, c_lraw_ge, c_lraw_gt, c_lraw_le, acat, scat, tswP, pops, st1, st2, klo, pad, elo, List.getElem?_cons_zero, List.getElem?_cons_succ, List.getElem?_nil, List.set_cons_zero, List.set_cons_succ, List.set_nil, Option.toList_some, Option.toList_none, List.cons_append, List.nil_append, List.length_cons, List.length_nil, stc_ap, stm_ap, false_and, and_false, and_self, true_and, and_true, Nat.reduceEqDiff, reduceIte, al_12, al_13, al_14, al_15, al_16, al_17, al_18, al_19, al_20, al_21, al_22, al_23, al_24, al_25, al_26, al_27, al_28, al_29, al_30, al_31, al_32, al_33, al_34, al_35, al_36, al_37, al_38, al_39, al_40, al_41, al_42, al_43, al_44, al_45, al_46, al_47, al_48, al_49, al_50, al_51, al_52, al_53, al_54, al_55, at_12, at_13, at_14, at_15, at_16, at_17, at_18, at_19, at_20, at_21, at_22, at_23, at_24, at_25, at_26, at_27, at_28, at_29, at_30, at_31, at_32, at_33, at_34, at_35, at_36, at_37, at_38, at_39, at_40, at_41, at_42, at_43, at_44, at_45, at_46, at_47, at_48, at_49, at_50, at_51, at_52, at_53, at_54, at_55, cn_0, cn_1, cn_2, cn_3, cn_4, cn_5, cn_6, cn_7, cn_8, cn_9, cn_10, cn_11, cn_12, cn_13, cn_14, cn_15, cn_16, cn_17, cn_18, cn_19, cn_20, cn_21, cn_22, cn_23, cn_24, cn_25, cn_26, cn_27, cn_28, cn_29, cn_30, cn_31, cn_32, cn_33, cn_34, cn_35, cn_36, cn_37, cn_38, cn_39, cn_40, cn_41, cn_42, cn_43, cn_44, cn_45, cn_46, cn_47, cn_48, cn_49, cn_50, cn_51, cn_52, cn_53, cn_54, cn_55, Nat.reduceAdd, Nat.reduceLT, Nat.reduceLeDiff, Nat.lt_add_one, Nat.zero_lt_succ, Nat.reduceSub, ite_true, ite_false, reduceCtorEq, forall_const, Nat.reduceSucc, Nat.zero_add, Nat.add_zero, Nat.le_refl, Nat.zero_le, Nat.reducePow, Int.reduceNeg, Nat.reduceMul, eq_self, Int.cast_ofNat_Int, Int.toNat_natCast, iR, lR, Int.reduceEq, Int.reduceLT, Int.reduceLE, Int.reduceNe, not_false_eq_true, not_true_eq_false, false_implies, true_implies, Int.reduceAdd, Int.reduceSub, Int.reduceMul, Int.reduceToNat, implies_true, or_true, true_or, or_false, false_or, T_X11_canAsk]
  refine ⟨ht, ha, hb, hI, hE, fun hc => ?_, fun hc => ?_⟩
  · refine B_X11_asks_16 C hR (k_X11_fill l) (by decide) _ _ _ ?_
    simp only [c_iadd, c_isub, c_imul, c_ladd, c_lsub, c_lmul, c_ineg, c_lneg, c_ic, c_lc, c_iload, c_lload, c_aload, c_istore, c_astore, c_lstore, c_iinc, c_dup, c_dup2, c_goto, c_i2l, c_l2i, c_idiv, c_ldiv, c_lrem, c_lshl, c_gi, c_gl, c_gr, c_pi, c_pz, c_pl, c_iald, c_lald, c_bald, c_aald, c_iast, c_last, c_bast, c_callV, c_callS, c_mmax, c_mmin, c_mabs, c_mmaxl, c_mabsl, c_iret, c_zret, c_lret, c_vret, c_tsw, c_lsw, c_icmp_eq, c_icmp_ne, c_icmp_lt, c_icmp_ge, c_icmp_gt, c_icmp_le, c_if_eq, c_if_ne, c_if_lt, c_if_ge, c_if_gt, c_if_le, c_lcmp_eq, c_lcmp_ne, c_lcmp_lt, c_lcmp_ge, c_lcmp_gt, c_lcmp_le, c_lraw_eq, c_lraw_lt, c_lraw_ge, c_lraw_gt, c_lraw_le, acat, scat, tswP, pops, st1, st2, klo, pad, elo, List.getElem?_cons_zero, List.getElem?_cons_succ, List.getElem?_nil, List.set_cons_zero, List.set_cons_succ, List.set_nil, Option.toList_some, Option.toList_none, List.cons_append, List.nil_append, List.length_cons, List.length_nil, stc_ap, stm_ap, false_and, and_false, and_self, true_and, and_true, Nat.reduceEqDiff, reduceIte, al_12, al_13, al_14, al_15, al_16, al_17, al_18, al_19, al_20, al_21, al_22, al_23, al_24, al_25, al_26, al_27, al_28, al_29, al_30, al_31, al_32, al_33, al_34, al_35, al_36, al_37, al_38, al_39, al_40, al_41, al_42, al_43, al_44, al_45, al_46, al_47, al_48, al_49, al_50, al_51, al_52, al_53, al_54, al_55, at_12, at_13, at_14, at_15, at_16, at_17, at_18, at_19, at_20, at_21, at_22, at_23, at_24, at_25, at_26, at_27, at_28, at_29, at_30, at_31, at_32, at_33, at_34, at_35, at_36, at_37, at_38, at_39, at_40, at_41, at_42, at_43, at_44, at_45, at_46, at_47, at_48, at_49, at_50, at_51, at_52, at_53, at_54, at_55, cn_0, cn_1, cn_2, cn_3, cn_4, cn_5, cn_6, cn_7, cn_8, cn_9, cn_10, cn_11, cn_12, cn_13, cn_14, cn_15, cn_16, cn_17, cn_18, cn_19, cn_20, cn_21, cn_22, cn_23, cn_24, cn_25, cn_26, cn_27, cn_28, cn_29, cn_30, cn_31, cn_32, cn_33, cn_34, cn_35, cn_36, cn_37, cn_38, cn_39, cn_40, cn_41, cn_42, cn_43, cn_44, cn_45, cn_46, cn_47, cn_48, cn_49, cn_50, cn_51, cn_52, cn_53, cn_54, cn_55, Nat.reduceAdd, Nat.reduceLT, Nat.reduceLeDiff, Nat.lt_add_one, Nat.zero_lt_succ, Nat.reduceSub, ite_true, ite_false, reduceCtorEq, forall_const, Nat.reduceSucc, Nat.zero_add, Nat.add_zero, Nat.le_refl, Nat.zero_le, Nat.reducePow, Int.reduceNeg, Nat.reduceMul, eq_self, Int.cast_ofNat_Int, Int.toNat_natCast, iR, lR, Int.reduceEq, Int.reduceLT, Int.reduceLE, Int.reduceNe, not_false_eq_true, not_true_eq_false, false_implies, true_implies, Int.reduceAdd, Int.reduceSub, Int.reduceMul, Int.reduceToNat, implies_true, or_true, true_or, or_false, false_or, T_X11_fill]
    have o : ∀ g' : Nat, ¬ g' = 11 → stm M 11 0 2 0 g' = M g' := fun g' h => stm_ne _ _ _ _ _ h
    refine ⟨by rw [can_cg (o 8 (by decide)) (o 27 (by decide))]; exact hc, SI_cg (o 8 (by decide)) (o 27 (by decide)) hI, SE_cg (o 8 (by decide)) (o 27 (by decide)) (o 31 (by decide)) (o 32 (by decide)) hE, CE_cg (o 33 (by decide)) hCE, fun M' ks tt th ft fl k1 k2 k3 => ?_⟩
    rw [ANS_cg (o 8 (by decide)) (o 20 (by decide)) (o 27 (by decide))] at k2
    refine h1 hc M' ks tt th ft fl ⟨fun g' a1 a2 => (k1.1 g' a1 a2).trans (o g' a1), fun k a1 a2 a3 a4 a5 => ?_⟩ ?_ k2 k3
    · rw [k1.2 k a1 a3 a4 a5, stm_ap, if_neg (by omega)]
    · rw [k1.2 2 (by decide) (by decide) (by decide) (by decide)]; rfl
  · refine B_X11_asks_16 C hR (k_X11_fill l) (by decide) _ _ _ ?_
    simp only [c_iadd, c_isub, c_imul, c_ladd, c_lsub, c_lmul, c_ineg, c_lneg, c_ic, c_lc, c_iload, c_lload, c_aload, c_istore, c_astore, c_lstore, c_iinc, c_dup, c_dup2, c_goto, c_i2l, c_l2i, c_idiv, c_ldiv, c_lrem, c_lshl, c_gi, c_gl, c_gr, c_pi, c_pz, c_pl, c_iald, c_lald, c_bald, c_aald, c_iast, c_last, c_bast, c_callV, c_callS, c_mmax, c_mmin, c_mabs, c_mmaxl, c_mabsl, c_iret, c_zret, c_lret, c_vret, c_tsw, c_lsw, c_icmp_eq, c_icmp_ne, c_icmp_lt, c_icmp_ge, c_icmp_gt, c_icmp_le, c_if_eq, c_if_ne, c_if_lt, c_if_ge, c_if_gt, c_if_le, c_lcmp_eq, c_lcmp_ne, c_lcmp_lt, c_lcmp_ge, c_lcmp_gt, c_lcmp_le, c_lraw_eq, c_lraw_lt, c_lraw_ge, c_lraw_gt, c_lraw_le, acat, scat, tswP, pops, st1, st2, klo, pad, elo, List.getElem?_cons_zero, List.getElem?_cons_succ, List.getElem?_nil, List.set_cons_zero, List.set_cons_succ, List.set_nil, Option.toList_some, Option.toList_none, List.cons_append, List.nil_append, List.length_cons, List.length_nil, stc_ap, stm_ap, false_and, and_false, and_self, true_and, and_true, Nat.reduceEqDiff, reduceIte, al_12, al_13, al_14, al_15, al_16, al_17, al_18, al_19, al_20, al_21, al_22, al_23, al_24, al_25, al_26, al_27, al_28, al_29, al_30, al_31, al_32, al_33, al_34, al_35, al_36, al_37, al_38, al_39, al_40, al_41, al_42, al_43, al_44, al_45, al_46, al_47, al_48, al_49, al_50, al_51, al_52, al_53, al_54, al_55, at_12, at_13, at_14, at_15, at_16, at_17, at_18, at_19, at_20, at_21, at_22, at_23, at_24, at_25, at_26, at_27, at_28, at_29, at_30, at_31, at_32, at_33, at_34, at_35, at_36, at_37, at_38, at_39, at_40, at_41, at_42, at_43, at_44, at_45, at_46, at_47, at_48, at_49, at_50, at_51, at_52, at_53, at_54, at_55, cn_0, cn_1, cn_2, cn_3, cn_4, cn_5, cn_6, cn_7, cn_8, cn_9, cn_10, cn_11, cn_12, cn_13, cn_14, cn_15, cn_16, cn_17, cn_18, cn_19, cn_20, cn_21, cn_22, cn_23, cn_24, cn_25, cn_26, cn_27, cn_28, cn_29, cn_30, cn_31, cn_32, cn_33, cn_34, cn_35, cn_36, cn_37, cn_38, cn_39, cn_40, cn_41, cn_42, cn_43, cn_44, cn_45, cn_46, cn_47, cn_48, cn_49, cn_50, cn_51, cn_52, cn_53, cn_54, cn_55, Nat.reduceAdd, Nat.reduceLT, Nat.reduceLeDiff, Nat.lt_add_one, Nat.zero_lt_succ, Nat.reduceSub, ite_true, ite_false, reduceCtorEq, forall_const, Nat.reduceSucc, Nat.zero_add, Nat.add_zero, Nat.le_refl, Nat.zero_le, Nat.reducePow, Int.reduceNeg, Nat.reduceMul, eq_self, Int.cast_ofNat_Int, Int.toNat_natCast, iR, lR, Int.reduceEq, Int.reduceLT, Int.reduceLE, Int.reduceNe, not_false_eq_true, not_true_eq_false, false_implies, true_implies, Int.reduceAdd, Int.reduceSub, Int.reduceMul, Int.reduceToNat, implies_true, or_true, true_or, or_false, false_or, T_X11_fill]
    exact h2 hc
def T_X11_score : Ct := fun as M P => match as with
  | [.inr (some (g, s)), .inl (.inl t), .inl (.inl a), .inl (.inl b)] => g = 11 ∧ s = 0 ∧ iR t ∧ iR a ∧ iR b ∧ SI M ∧ SE M ∧ CE M ∧ (can M t a b → ∀ (M' : Mm) (ks : List (Int × Int)) (tt th ft fl : Int), keepG M M' → M' 11 0 2 = 0 → ANS M t a.toNat b.toNat ks tt th ft fl → P (some (zl th)) M') ∧ (¬ can M t a b → P (some (zl 0)) (stm M 11 0 2 1))
  | _ => False
theorem k_X11_score (l : Launch) : MetT l yX11_score cX11_score 4 (some .long) 6 T_X11_score := by
  refine MetT.of (by decide +kernel) (fun as M P h => by unfold T_X11_score at h; split at h <;> first | (simp [elo]; done) | exact h.elim) (fun x as M P h C hR => ?_)
  unfold T_X11_score at h
  split at h
  rotate_left
  · exact h.elim
  rename_i g s t a b
  obtain ⟨rfl, rfl, ht, ha, hb, hI, hE, hCE, h1, h2⟩ := h
  refine B_X11_score_0 C hR (k_X11_asks l) (by decide) _ _ _ ?_
  simp only [c_iadd, c_isub, c_imul, c_ladd, c_lsub, c_lmul, c_ineg, c_lneg, c_ic, c_lc, c_iload, c_lload, c_aload, c_istore, c_astore, c_lstore, c_iinc, c_dup, c_dup2, c_goto, c_i2l, c_l2i, c_idiv, c_ldiv, c_lrem, c_lshl, c_gi, c_gl, c_gr, c_pi, c_pz, c_pl, c_iald, c_lald, c_bald, c_aald, c_iast, c_last, c_bast, c_callV, c_callS, c_mmax, c_mmin, c_mabs, c_mmaxl, c_mabsl, c_iret, c_zret, c_lret, c_vret, c_tsw, c_lsw, c_icmp_eq, c_icmp_ne, c_icmp_lt, c_icmp_ge, c_icmp_gt, c_icmp_le, c_if_eq, c_if_ne, c_if_lt, c_if_ge, c_if_gt, c_if_le, c_lcmp_eq, c_lcmp_ne, c_lcmp_lt, c_lcmp_ge, c_lcmp_gt, c_lcmp_le, c_lraw_eq, c_lraw_lt, c_lraw_ge, c_lraw_gt, c_lraw_le, acat, scat, tswP, pops, st1, st2, klo, pad, elo, List.getElem?_cons_zero, List.getElem?_cons_succ, List.getElem?_nil, List.set_cons_zero, List.set_cons_succ, List.set_nil, Option.toList_some, Option.toList_none, List.cons_append, List.nil_append, List.length_cons, List.length_nil, stc_ap, stm_ap, false_and, and_false, and_self, true_and, and_true, Nat.reduceEqDiff, reduceIte, al_12, al_13, al_14, al_15, al_16, al_17, al_18, al_19, al_20, al_21, al_22, al_23, al_24, al_25, al_26, al_27, al_28, al_29, al_30, al_31, al_32, al_33, al_34, al_35, al_36, al_37, al_38, al_39, al_40, al_41, al_42, al_43, al_44, al_45, al_46, al_47, al_48, al_49, al_50, al_51, al_52, al_53, al_54, al_55, at_12, at_13, at_14, at_15, at_16, at_17, at_18, at_19, at_20, at_21, at_22, at_23, at_24, at_25, at_26, at_27, at_28, at_29, at_30, at_31, at_32, at_33, at_34, at_35, at_36, at_37, at_38, at_39, at_40, at_41, at_42, at_43, at_44, at_45, at_46, at_47, at_48, at_49, at_50, at_51, at_52, at_53, at_54, at_55, cn_0, cn_1, cn_2, cn_3, cn_4, cn_5, cn_6, cn_7, cn_8, cn_9, cn_10, cn_11, cn_12, cn_13, cn_14, cn_15, cn_16, cn_17, cn_18, cn_19, cn_20, cn_21, cn_22, cn_23, cn_24, cn_25, cn_26, cn_27, cn_28, cn_29, cn_30, cn_31, cn_32, cn_33, cn_34, cn_35, cn_36, cn_37, cn_38, cn_39, cn_40, cn_41, cn_42, cn_43, cn_44, cn_45, cn_46, cn_47, cn_48, cn_49, cn_50, cn_51, cn_52, cn_53, cn_54, cn_55, Nat.reduceAdd, Nat.reduceLT, Nat.reduceLeDiff, Nat.lt_add_one, Nat.zero_lt_succ, Nat.reduceSub, ite_true, ite_false, reduceCtorEq, forall_const, Nat.reduceSucc, Nat.zero_add, Nat.add_zero, Nat.le_refl, Nat.zero_le, Nat.reducePow, Int.reduceNeg, Nat.reduceMul, eq_self, Int.cast_ofNat_Int, Int.toNat_natCast, iR, lR, Int.reduceEq, Int.reduceLT, Int.reduceLE, Int.reduceNe, not_false_eq_true, not_true_eq_false, false_implies, true_implies, Int.reduceAdd, Int.reduceSub, Int.reduceMul, Int.reduceToNat, implies_true, or_true, true_or, or_false, false_or, T_X11_asks]
  refine ⟨ht, ha, hb, hI, hE, hCE, fun hc M' ks tt th ft fl k1 k2 k3 k4 => ?_, fun hc => h2 hc⟩
  rw [k4.2.2.1]
  exact h1 hc M' ks tt th ft fl k1 k2 k3
def T_X11_total : Ct := fun as M P => match as with
  | [.inr (some (g, s)), .inl (.inl t), .inl (.inl a), .inl (.inl b)] => g = 11 ∧ s = 0 ∧ iR t ∧ iR a ∧ iR b ∧ SI M ∧ SE M ∧ CE M ∧ (can M t a b → ∀ (M' : Mm) (ks : List (Int × Int)) (tt th ft fl : Int), keepG M M' → M' 11 0 2 = 0 → ANS M t a.toNat b.toNat ks tt th ft fl → P (some (zl tt)) M') ∧ (¬ can M t a b → P (some (zl 0)) (stm M 11 0 2 1))
  | _ => False
theorem k_X11_total (l : Launch) : MetT l yX11_total cX11_total 4 (some .long) 6 T_X11_total := by
  refine MetT.of (by decide +kernel) (fun as M P h => by unfold T_X11_total at h; split at h <;> first | (simp [elo]; done) | exact h.elim) (fun x as M P h C hR => ?_)
  unfold T_X11_total at h
  split at h
  rotate_left
  · exact h.elim
  rename_i g s t a b
  obtain ⟨rfl, rfl, ht, ha, hb, hI, hE, hCE, h1, h2⟩ := h
  refine B_X11_total_0 C hR (k_X11_asks l) (by decide) _ _ _ ?_
  simp only [c_iadd, c_isub, c_imul, c_ladd, c_lsub, c_lmul, c_ineg, c_lneg, c_ic, c_lc, c_iload, c_lload, c_aload, c_istore, c_astore, c_lstore, c_iinc, c_dup, c_dup2, c_goto, c_i2l, c_l2i, c_idiv, c_ldiv, c_lrem, c_lshl, c_gi, c_gl, c_gr, c_pi, c_pz, c_pl, c_iald, c_lald, c_bald, c_aald, c_iast, c_last, c_bast, c_callV, c_callS, c_mmax, c_mmin, c_mabs, c_mmaxl, c_mabsl, c_iret, c_zret, c_lret, c_vret, c_tsw, c_lsw, c_icmp_eq, c_icmp_ne, c_icmp_lt, c_icmp_ge, c_icmp_gt, c_icmp_le, c_if_eq, c_if_ne, c_if_lt, c_if_ge, c_if_gt, c_if_le, c_lcmp_eq, c_lcmp_ne, c_lcmp_lt, c_lcmp_ge, c_lcmp_gt, c_lcmp_le, c_lraw_eq, c_lraw_lt, c_lraw_ge, c_lraw_gt, c_lraw_le, acat, scat, tswP, pops, st1, st2, klo, pad, elo, List.getElem?_cons_zero, List.getElem?_cons_succ, List.getElem?_nil, List.set_cons_zero, List.set_cons_succ, List.set_nil, Option.toList_some, Option.toList_none, List.cons_append, List.nil_append, List.length_cons, List.length_nil, stc_ap, stm_ap, false_and, and_false, and_self, true_and, and_true, Nat.reduceEqDiff, reduceIte, al_12, al_13, al_14, al_15, al_16, al_17, al_18, al_19, al_20, al_21, al_22, al_23, al_24, al_25, al_26, al_27, al_28, al_29, al_30, al_31, al_32, al_33, al_34, al_35, al_36, al_37, al_38, al_39, al_40, al_41, al_42, al_43, al_44, al_45, al_46, al_47, al_48, al_49, al_50, al_51, al_52, al_53, al_54, al_55, at_12, at_13, at_14, at_15, at_16, at_17, at_18, at_19, at_20, at_21, at_22, at_23, at_24, at_25, at_26, at_27, at_28, at_29, at_30, at_31, at_32, at_33, at_34, at_35, at_36, at_37, at_38, at_39, at_40, at_41, at_42, at_43, at_44, at_45, at_46, at_47, at_48, at_49, at_50, at_51, at_52, at_53, at_54, at_55, cn_0, cn_1, cn_2, cn_3, cn_4, cn_5, cn_6, cn_7, cn_8, cn_9, cn_10, cn_11, cn_12, cn_13, cn_14, cn_15, cn_16, cn_17, cn_18, cn_19, cn_20, cn_21, cn_22, cn_23, cn_24, cn_25, cn_26, cn_27, cn_28, cn_29, cn_30, cn_31, cn_32, cn_33, cn_34, cn_35, cn_36, cn_37, cn_38, cn_39, cn_40, cn_41, cn_42, cn_43, cn_44, cn_45, cn_46, cn_47, cn_48, cn_49, cn_50, cn_51, cn_52, cn_53, cn_54, cn_55, Nat.reduceAdd, Nat.reduceLT, Nat.reduceLeDiff, Nat.lt_add_one, Nat.zero_lt_succ, Nat.reduceSub, ite_true, ite_false, reduceCtorEq, forall_const, Nat.reduceSucc, Nat.zero_add, Nat.add_zero, Nat.le_refl, Nat.zero_le, Nat.reducePow, Int.reduceNeg, Nat.reduceMul, eq_self, Int.cast_ofNat_Int, Int.toNat_natCast, iR, lR, Int.reduceEq, Int.reduceLT, Int.reduceLE, Int.reduceNe, not_false_eq_true, not_true_eq_false, false_implies, true_implies, Int.reduceAdd, Int.reduceSub, Int.reduceMul, Int.reduceToNat, implies_true, or_true, true_or, or_false, false_or, T_X11_asks]
  refine ⟨ht, ha, hb, hI, hE, hCE, fun hc M' ks tt th ft fl k1 k2 k3 k4 => ?_, fun hc => h2 hc⟩
  rw [k4.2.1]
  exact h1 hc M' ks tt th ft fl k1 k2 k3
def T_X11_count : Ct := fun as M P => match as with
  | [.inr (some (g, s)), .inl (.inl t), .inl (.inl a), .inl (.inl b), .inl (.inl sd)] => g = 11 ∧ s = 0 ∧ iR t ∧ iR a ∧ iR b ∧ iR sd ∧ SI M ∧ SE M ∧ CE M ∧ ((can M t a b ∧ 0 ≤ sd ∧ sd ≤ 2) → ∀ (M' : Mm) (ks : List (Int × Int)) (tt th ft fl : Int), keepG M M' → M' 11 0 2 = 0 → ANS M t a.toNat b.toNat ks tt th ft fl → P (some (zl (lsm (onP th ft fl sd) ks))) M') ∧ (¬ (can M t a b ∧ 0 ≤ sd ∧ sd ≤ 2) → P (some (zl 0)) (stm M 11 0 2 1))
  | _ => False
theorem k_X11_count (l : Launch) : MetT l yX11_count cX11_count 5 (some .long) 6 T_X11_count := by
  refine MetT.of (by decide +kernel) (fun as M P h => by unfold T_X11_count at h; split at h <;> first | (simp [elo]; done) | exact h.elim) (fun x as M P h C hR => ?_)
  unfold T_X11_count at h
  split at h
  rotate_left
  · exact h.elim
  rename_i g s t a b sd
  obtain ⟨rfl, rfl, ht, ha, hb, hsd, hI, hE, hCE, h1, h2⟩ := h
  have h11 : ¬ (0 ≤ sd ∧ sd ≤ 2) → J x 11 [some (zr 11 0), some (zi t), some (zi a), some (zi b), some (zi sd)] [] M := by
    intro q
    refine B_X11_count_11 C hR _ _ _ ?_
    simp only [c_iadd, c_isub, c_imul, c_ladd, c_lsub, c_lmul, c_ineg, c_lneg, c_ic, c_lc, c_iload, c_lload, c_aload, c_istore, c_astore, c_lstore, c_iinc, c_dup, c_dup2, c_goto, c_i2l, c_l2i, c_idiv, c_ldiv, c_lrem, c_lshl, c_gi, c_gl, c_gr, c_pi, c_pz, c_pl, c_iald, c_lald, c_bald, c_aald, c_iast, c_last, c_bast, c_callV, c_callS, c_mmax, c_mmin, c_mabs, c_mmaxl, c_mabsl, c_iret, c_zret, c_lret, c_vret, c_tsw, c_lsw, c_icmp_eq, c_icmp_ne, c_icmp_lt, c_icmp_ge, c_icmp_gt, c_icmp_le, c_if_eq, c_if_ne, c_if_lt, c_if_ge, c_if_gt, c_if_le, c_lcmp_eq, c_lcmp_ne, c_lcmp_lt, c_lcmp_ge, c_lcmp_gt, c_lcmp_le, c_lraw_eq, c_lraw_lt, c_lraw_ge, c_lraw_gt, c_lraw_le, acat, scat, tswP, pops, st1, st2, klo, pad, elo, List.getElem?_cons_zero, List.getElem?_cons_succ, List.getElem?_nil, List.set_cons_zero, List.set_cons_succ, List.set_nil, Option.toList_some, Option.toList_none, List.cons_append, List.nil_append, List.length_cons, List.length_nil, stc_ap, stm_ap, false_and, and_false, and_self, true_and, and_true, Nat.reduceEqDiff, reduceIte, al_12, al_13, al_14, al_15, al_16, al_17, al_18, al_19, al_20, al_21, al_22, al_23, al_24, al_25, al_26, al_27, al_28, al_29, al_30, al_31, al_32, al_33, al_34, al_35, al_36, al_37, al_38, al_39, al_40, al_41, al_42, al_43, al_44, al_45, al_46, al_47, al_48, al_49, al_50, al_51, al_52, al_53, al_54, al_55, at_12, at_13, at_14, at_15, at_16, at_17, at_18, at_19, at_20, at_21, at_22, at_23, at_24, at_25, at_26, at_27, at_28, at_29, at_30, at_31, at_32, at_33, at_34, at_35, at_36, at_37, at_38, at_39, at_40, at_41, at_42, at_43, at_44, at_45, at_46, at_47, at_48, at_49, at_50, at_51, at_52, at_53, at_54, at_55, cn_0, cn_1, cn_2, cn_3, cn_4, cn_5, cn_6, cn_7, cn_8, cn_9, cn_10, cn_11, cn_12, cn_13, cn_14, cn_15, cn_16, cn_17, cn_18, cn_19, cn_20, cn_21, cn_22, cn_23, cn_24, cn_25, cn_26, cn_27, cn_28, cn_29, cn_30, cn_31, cn_32, cn_33, cn_34, cn_35, cn_36, cn_37, cn_38, cn_39, cn_40, cn_41, cn_42, cn_43, cn_44, cn_45, cn_46, cn_47, cn_48, cn_49, cn_50, cn_51, cn_52, cn_53, cn_54, cn_55, Nat.reduceAdd, Nat.reduceLT, Nat.reduceLeDiff, Nat.lt_add_one, Nat.zero_lt_succ, Nat.reduceSub, ite_true, ite_false, reduceCtorEq, forall_const, Nat.reduceSucc, Nat.zero_add, Nat.add_zero, Nat.le_refl, Nat.zero_le, Nat.reducePow, Int.reduceNeg, Nat.reduceMul, eq_self, Int.cast_ofNat_Int, Int.toNat_natCast, iR, lR, Int.reduceEq, Int.reduceLT, Int.reduceLE, Int.reduceNe, not_false_eq_true, not_true_eq_false, false_implies, true_implies, Int.reduceAdd, Int.reduceSub, Int.reduceMul, Int.reduceToNat, implies_true, or_true, true_or, or_false, false_or]
    exact h2 fun z => q z.2
  refine B_X11_count_0 C hR (k_X11_asks l) (by decide) (k_X11_counted l) (by decide) _ _ _ ?_
  simp only [c_iadd, c_isub, c_imul, c_ladd, c_lsub, c_lmul, c_ineg, c_lneg, c_ic, c_lc, c_iload, c_lload, c_aload, c_istore, c_astore, c_lstore, c_iinc, c_dup, c_dup2, c_goto, c_i2l, c_l2i, c_idiv, c_ldiv, c_lrem, c_lshl, c_gi, c_gl, c_gr, c_pi, c_pz, c_pl, c_iald, c_lald, c_bald, c_aald, c_iast, c_last, c_bast, c_callV, c_callS, c_mmax, c_mmin, c_mabs, c_mmaxl, c_mabsl, c_iret, c_zret, c_lret, c_vret, c_tsw, c_lsw, c_icmp_eq, c_icmp_ne, c_icmp_lt, c_icmp_ge, c_icmp_gt, c_icmp_le, c_if_eq, c_if_ne, c_if_lt, c_if_ge, c_if_gt, c_if_le, c_lcmp_eq, c_lcmp_ne, c_lcmp_lt, c_lcmp_ge, c_lcmp_gt, c_lcmp_le, c_lraw_eq, c_lraw_lt, c_lraw_ge, c_lraw_gt, c_lraw_le, acat, scat, tswP, pops, st1, st2, klo, pad, elo, List.getElem?_cons_zero, List.getElem?_cons_succ, List.getElem?_nil, List.set_cons_zero, List.set_cons_succ, List.set_nil, Option.toList_some, Option.toList_none, List.cons_append, List.nil_append, List.length_cons, List.length_nil, stc_ap, stm_ap, false_and, and_false, and_self, true_and, and_true, Nat.reduceEqDiff, reduceIte, al_12, al_13, al_14, al_15, al_16, al_17, al_18, al_19, al_20, al_21, al_22, al_23, al_24, al_25, al_26, al_27, al_28, al_29, al_30, al_31, al_32, al_33, al_34, al_35, al_36, al_37, al_38, al_39, al_40, al_41, al_42, al_43, al_44, al_45, al_46, al_47, al_48, al_49, al_50, al_51, al_52, al_53, al_54, al_55, at_12, at_13, at_14, at_15, at_16, at_17, at_18, at_19, at_20, at_21, at_22, at_23, at_24, at_25, at_26, at_27, at_28, at_29, at_30, at_31, at_32, at_33, at_34, at_35, at_36, at_37, at_38, at_39, at_40, at_41, at_42, at_43, at_44, at_45, at_46, at_47, at_48, at_49, at_50, at_51, at_52, at_53, at_54, at_55, cn_0, cn_1, cn_2, cn_3, cn_4, cn_5, cn_6, cn_7, cn_8, cn_9, cn_10, cn_11, cn_12, cn_13, cn_14, cn_15, cn_16, cn_17, cn_18, cn_19, cn_20, cn_21, cn_22, cn_23, cn_24, cn_25, cn_26, cn_27, cn_28, cn_29, cn_30, cn_31, cn_32, cn_33, cn_34, cn_35, cn_36, cn_37, cn_38, cn_39, cn_40, cn_41, cn_42, cn_43, cn_44, cn_45, cn_46, cn_47, cn_48, cn_49, cn_50, cn_51, cn_52, cn_53, cn_54, cn_55, Nat.reduceAdd, Nat.reduceLT, Nat.reduceLeDiff, Nat.lt_add_one, Nat.zero_lt_succ, Nat.reduceSub, ite_true, ite_false, reduceCtorEq, forall_const, Nat.reduceSucc, Nat.zero_add, Nat.add_zero, Nat.le_refl, Nat.zero_le, Nat.reducePow, Int.reduceNeg, Nat.reduceMul, eq_self, Int.cast_ofNat_Int, Int.toNat_natCast, iR, lR, Int.reduceEq, Int.reduceLT, Int.reduceLE, Int.reduceNe, not_false_eq_true, not_true_eq_false, false_implies, true_implies, Int.reduceAdd, Int.reduceSub, Int.reduceMul, Int.reduceToNat, implies_true, or_true, true_or, or_false, false_or, T_X11_asks, T_X11_counted]
  refine ⟨hsd, fun z => h11 (by omega), fun z => ⟨hsd, fun z2 => ⟨ht, ha, hb, hI, hE, hCE, fun hc M' ks tt th ft fl k1 k2 k3 k4 => ⟨by omega, ks, k4.1, ?_⟩, fun hc => h2 fun q => hc q.1⟩, fun z2 => h11 (by omega)⟩⟩
  obtain ⟨-, wt, weq, -⟩ := id hc
  obtain ⟨wa, wb, -⟩ := id wt
  obtain ⟨a1, a2⟩ := ANS_ok hI (a := a.toNat) (b := b.toNat) (by omega) (by omega) weq k3
  rw [k4.2.2.1, k4.2.2.2.1, k4.2.2.2.2]
  exact ⟨a1, a2, h1 ⟨hc, by omega, by omega⟩ M' ks tt th ft fl k1 k2 k3⟩
def T_X11_spread : Ct := fun as M P => match as with
  | [.inr (some (g, s)), .inl (.inl t), .inl (.inl a), .inl (.inl b)] => g = 11 ∧ s = 0 ∧ iR t ∧ iR a ∧ iR b ∧ SI M ∧ SE M ∧ CE M ∧ (can M t a b → ∀ (M' : Mm) (ks : List (Int × Int)) (tt th ft fl : Int), (∀ g' : Nat, ¬ g' = 11 → (g' < 34 ∨ 43 < g') → M' g' = M g') → (∀ k : Nat, (k < 7 ∨ 11 < k) → ¬ k = 2 → ¬ k = 13 → ¬ k = 15 → ¬ k = 18 → ¬ k = 20 → M' 11 0 k = M 11 0 k) → M' 11 0 2 = 0 → ANS M t a.toNat b.toNat ks tt th ft fl → M' 11 0 13 = min ks.length 2000 → (∀ (q : Nat) (sc c : Int), q < 2000 → ks[q]? = some (sc, c) → M' 37 0 (2 * q) = sc ∧ M' 37 0 (2 * q + 1) = c) → P (some (zi ks.length)) M') ∧ (¬ can M t a b → P (some (zi 0)) (stm M 11 0 2 1))
  | _ => False
theorem k_X11_spread (l : Launch) : MetT l yX11_spread cX11_spread 5 (some .int) 6 T_X11_spread := by
  refine MetT.of (by decide +kernel) (fun as M P h => by unfold T_X11_spread at h; split at h <;> first | (simp [elo]; done) | exact h.elim) (fun x as M P h C hR => ?_)
  unfold T_X11_spread at h
  split at h
  rotate_left
  · exact h.elim
  rename_i g s t a b
  obtain ⟨rfl, rfl, ht, ha, hb, hI, hE, hCE, h1, h2⟩ := h
  refine B_X11_spread_0 C hR (k_X11_asks l) (by decide) _ _ _ ?_
  simp only [c_iadd, c_isub, c_imul, c_ladd, c_lsub, c_lmul, c_ineg, c_lneg, c_ic, c_lc, c_iload, c_lload, c_aload, c_istore, c_astore, c_lstore, c_iinc, c_dup, c_dup2, c_goto, c_i2l, c_l2i, c_idiv, c_ldiv, c_lrem, c_lshl, c_gi, c_gl, c_gr, c_pi, c_pz, c_pl, c_iald, c_lald, c_bald, c_aald, c_iast, c_last, c_bast, c_callV, c_callS, c_mmax, c_mmin, c_mabs, c_mmaxl, c_mabsl, c_iret, c_zret, c_lret, c_vret, c_tsw, c_lsw, c_icmp_eq, c_icmp_ne, c_icmp_lt, c_icmp_ge, c_icmp_gt, c_icmp_le, c_if_eq, c_if_ne, c_if_lt, c_if_ge, c_if_gt, c_if_le, c_lcmp_eq, c_lcmp_ne, c_lcmp_lt, c_lcmp_ge, c_lcmp_gt, c_lcmp_le, c_lraw_eq, c_lraw_lt, c_lraw_ge, c_lraw_gt, c_lraw_le, acat, scat, tswP, pops, st1, st2, klo, pad, elo, List.getElem?_cons_zero, List.getElem?_cons_succ, List.getElem?_nil, List.set_cons_zero, List.set_cons_succ, List.set_nil, Option.toList_some, Option.toList_none, List.cons_append, List.nil_append, List.length_cons, List.length_nil, stc_ap, stm_ap, false_and, and_false, and_self, true_and, and_true, Nat.reduceEqDiff, reduceIte, al_12, al_13, al_14, al_15, al_16, al_17, al_18, al_19, al_20, al_21, al_22, al_23, al_24, al_25, al_26, al_27, al_28, al_29, al_30, al_31, al_32, al_33, al_34, al_35, al_36, al_37, al_38, al_39, al_40, al_41, al_42, al_43, al_44, al_45, al_46, al_47, al_48, al_49, al_50, al_51, al_52, al_53, al_54, al_55, at_12, at_13, at_14, at_15, at_16, at_17, at_18, at_19, at_20, at_21, at_22, at_23, at_24, at_25, at_26, at_27, at_28, at_29, at_30, at_31, at_32, at_33, at_34, at_35, at_36, at_37, at_38, at_39, at_40, at_41, at_42, at_43, at_44, at_45, at_46, at_47, at_48, at_49, at_50, at_51, at_52, at_53, at_54, at_55, cn_0, cn_1, cn_2, cn_3, cn_4, cn_5, cn_6, cn_7, cn_8, cn_9, cn_10, cn_11, cn_12, cn_13, cn_14, cn_15, cn_16, cn_17, cn_18, cn_19, cn_20, cn_21, cn_22, cn_23, cn_24, cn_25, cn_26, cn_27, cn_28, cn_29, cn_30, cn_31, cn_32, cn_33, cn_34, cn_35, cn_36, cn_37, cn_38, cn_39, cn_40, cn_41, cn_42, cn_43, cn_44, cn_45, cn_46, cn_47, cn_48, cn_49, cn_50, cn_51, cn_52, cn_53, cn_54, cn_55, Nat.reduceAdd, Nat.reduceLT, Nat.reduceLeDiff, Nat.lt_add_one, Nat.zero_lt_succ, Nat.reduceSub, ite_true, ite_false, reduceCtorEq, forall_const, Nat.reduceSucc, Nat.zero_add, Nat.add_zero, Nat.le_refl, Nat.zero_le, Nat.reducePow, Int.reduceNeg, Nat.reduceMul, eq_self, Int.cast_ofNat_Int, Int.toNat_natCast, iR, lR, Int.reduceEq, Int.reduceLT, Int.reduceLE, Int.reduceNe, not_false_eq_true, not_true_eq_false, false_implies, true_implies, Int.reduceAdd, Int.reduceSub, Int.reduceMul, Int.reduceToNat, implies_true, or_true, true_or, or_false, false_or, T_X11_asks]
  refine ⟨ht, ha, hb, hI, hE, hCE, fun hc M' ks tt th ft fl k1 k2 k3 k4 => ?_, fun hc => h2 hc⟩
  obtain ⟨-, wt, weq, -⟩ := id hc
  obtain ⟨wa, wb, -⟩ := id wt
  obtain ⟨a1, -⟩ := ANS_ok hI (a := a.toNat) (b := b.toNat) (by omega) (by omega) weq k3
  have hsz := k4.1.1
  have hgo : ∀ n : Int, n = min (ks.length : Int) 2000 → J x 33 [some (zr 11 0), some (zi t), some (zi a), some (zi b), none] [zi n, zr 11 0] M' := by
    intro n hn
    refine B_X11_spread_33 C _ _ _ ?_
    simp only [c_iadd, c_isub, c_imul, c_ladd, c_lsub, c_lmul, c_ineg, c_lneg, c_ic, c_lc, c_iload, c_lload, c_aload, c_istore, c_astore, c_lstore, c_iinc, c_dup, c_dup2, c_goto, c_i2l, c_l2i, c_idiv, c_ldiv, c_lrem, c_lshl, c_gi, c_gl, c_gr, c_pi, c_pz, c_pl, c_iald, c_lald, c_bald, c_aald, c_iast, c_last, c_bast, c_callV, c_callS, c_mmax, c_mmin, c_mabs, c_mmaxl, c_mabsl, c_iret, c_zret, c_lret, c_vret, c_tsw, c_lsw, c_icmp_eq, c_icmp_ne, c_icmp_lt, c_icmp_ge, c_icmp_gt, c_icmp_le, c_if_eq, c_if_ne, c_if_lt, c_if_ge, c_if_gt, c_if_le, c_lcmp_eq, c_lcmp_ne, c_lcmp_lt, c_lcmp_ge, c_lcmp_gt, c_lcmp_le, c_lraw_eq, c_lraw_lt, c_lraw_ge, c_lraw_gt, c_lraw_le, acat, scat, tswP, pops, st1, st2, klo, pad, elo, List.getElem?_cons_zero, List.getElem?_cons_succ, List.getElem?_nil, List.set_cons_zero, List.set_cons_succ, List.set_nil, Option.toList_some, Option.toList_none, List.cons_append, List.nil_append, List.length_cons, List.length_nil, stc_ap, stm_ap, false_and, and_false, and_self, true_and, and_true, Nat.reduceEqDiff, reduceIte, al_12, al_13, al_14, al_15, al_16, al_17, al_18, al_19, al_20, al_21, al_22, al_23, al_24, al_25, al_26, al_27, al_28, al_29, al_30, al_31, al_32, al_33, al_34, al_35, al_36, al_37, al_38, al_39, al_40, al_41, al_42, al_43, al_44, al_45, al_46, al_47, al_48, al_49, al_50, al_51, al_52, al_53, al_54, al_55, at_12, at_13, at_14, at_15, at_16, at_17, at_18, at_19, at_20, at_21, at_22, at_23, at_24, at_25, at_26, at_27, at_28, at_29, at_30, at_31, at_32, at_33, at_34, at_35, at_36, at_37, at_38, at_39, at_40, at_41, at_42, at_43, at_44, at_45, at_46, at_47, at_48, at_49, at_50, at_51, at_52, at_53, at_54, at_55, cn_0, cn_1, cn_2, cn_3, cn_4, cn_5, cn_6, cn_7, cn_8, cn_9, cn_10, cn_11, cn_12, cn_13, cn_14, cn_15, cn_16, cn_17, cn_18, cn_19, cn_20, cn_21, cn_22, cn_23, cn_24, cn_25, cn_26, cn_27, cn_28, cn_29, cn_30, cn_31, cn_32, cn_33, cn_34, cn_35, cn_36, cn_37, cn_38, cn_39, cn_40, cn_41, cn_42, cn_43, cn_44, cn_45, cn_46, cn_47, cn_48, cn_49, cn_50, cn_51, cn_52, cn_53, cn_54, cn_55, Nat.reduceAdd, Nat.reduceLT, Nat.reduceLeDiff, Nat.lt_add_one, Nat.zero_lt_succ, Nat.reduceSub, ite_true, ite_false, reduceCtorEq, forall_const, Nat.reduceSucc, Nat.zero_add, Nat.add_zero, Nat.le_refl, Nat.zero_le, Nat.reducePow, Int.reduceNeg, Nat.reduceMul, eq_self, Int.cast_ofNat_Int, Int.toNat_natCast, iR, lR, Int.reduceEq, Int.reduceLT, Int.reduceLE, Int.reduceNe, not_false_eq_true, not_true_eq_false, false_implies, true_implies, Int.reduceAdd, Int.reduceSub, Int.reduceMul, Int.reduceToNat, implies_true, or_true, true_or, or_false, false_or]
    obtain ⟨M1, hM1⟩ : ∃ M1 : Mm, M1 = stm M' 11 0 13 n := ⟨_, rfl⟩
    rw [← hM1]
    have r13 : M1 11 0 13 = n := by rw [hM1]; rfl
    have r7 : M1 11 0 7 = ks.length := by rw [hM1, stm_ap, if_neg (by decide)]; exact hsz
    have r35 : M1 35 = M' 35 := by rw [hM1]; exact stm_ne _ _ _ _ _ (by decide)
    have r36 : M1 36 = M' 36 := by rw [hM1]; exact stm_ne _ _ _ _ _ (by decide)
    refine loopU n (fun k M2 => (0 ≤ k ∧ k ≤ n) ∧ ∃ S : Nat → Int, M2 = stc M1 37 0 S ∧ ∀ (q : Nat) (sc c : Int), (q : Int) < k → ks[q]? = some (sc, c) → S (2 * q) = sc ∧ S (2 * q + 1) = c) (fun k M2 => J x 39 [some (zr 11 0), some (zi t), some (zi a), some (zi b), some (zi k)] [] M2) ?_ 0 _ ⟨by omega, M1 37 0, (stc_id M1 37 0).symm, fun q sc c hq => by omega⟩
    rintro k M2 ⟨hk, S, rfl, hS⟩ ih
    refine B_X11_spread_39 C hR _ _ _ ?_
    simp only [c_iadd, c_isub, c_imul, c_ladd, c_lsub, c_lmul, c_ineg, c_lneg, c_ic, c_lc, c_iload, c_lload, c_aload, c_istore, c_astore, c_lstore, c_iinc, c_dup, c_dup2, c_goto, c_i2l, c_l2i, c_idiv, c_ldiv, c_lrem, c_lshl, c_gi, c_gl, c_gr, c_pi, c_pz, c_pl, c_iald, c_lald, c_bald, c_aald, c_iast, c_last, c_bast, c_callV, c_callS, c_mmax, c_mmin, c_mabs, c_mmaxl, c_mabsl, c_iret, c_zret, c_lret, c_vret, c_tsw, c_lsw, c_icmp_eq, c_icmp_ne, c_icmp_lt, c_icmp_ge, c_icmp_gt, c_icmp_le, c_if_eq, c_if_ne, c_if_lt, c_if_ge, c_if_gt, c_if_le, c_lcmp_eq, c_lcmp_ne, c_lcmp_lt, c_lcmp_ge, c_lcmp_gt, c_lcmp_le, c_lraw_eq, c_lraw_lt, c_lraw_ge, c_lraw_gt, c_lraw_le, acat, scat, tswP, pops, st1, st2, klo, pad, elo, List.getElem?_cons_zero, List.getElem?_cons_succ, List.getElem?_nil, List.set_cons_zero, List.set_cons_succ, List.set_nil, Option.toList_some, Option.toList_none, List.cons_append, List.nil_append, List.length_cons, List.length_nil, stc_ap, stm_ap, false_and, and_false, and_self, true_and, and_true, Nat.reduceEqDiff, reduceIte, al_12, al_13, al_14, al_15, al_16, al_17, al_18, al_19, al_20, al_21, al_22, al_23, al_24, al_25, al_26, al_27, al_28, al_29, al_30, al_31, al_32, al_33, al_34, al_35, al_36, al_37, al_38, al_39, al_40, al_41, al_42, al_43, al_44, al_45, al_46, al_47, al_48, al_49, al_50, al_51, al_52, al_53, al_54, al_55, at_12, at_13, at_14, at_15, at_16, at_17, at_18, at_19, at_20, at_21, at_22, at_23, at_24, at_25, at_26, at_27, at_28, at_29, at_30, at_31, at_32, at_33, at_34, at_35, at_36, at_37, at_38, at_39, at_40, at_41, at_42, at_43, at_44, at_45, at_46, at_47, at_48, at_49, at_50, at_51, at_52, at_53, at_54, at_55, cn_0, cn_1, cn_2, cn_3, cn_4, cn_5, cn_6, cn_7, cn_8, cn_9, cn_10, cn_11, cn_12, cn_13, cn_14, cn_15, cn_16, cn_17, cn_18, cn_19, cn_20, cn_21, cn_22, cn_23, cn_24, cn_25, cn_26, cn_27, cn_28, cn_29, cn_30, cn_31, cn_32, cn_33, cn_34, cn_35, cn_36, cn_37, cn_38, cn_39, cn_40, cn_41, cn_42, cn_43, cn_44, cn_45, cn_46, cn_47, cn_48, cn_49, cn_50, cn_51, cn_52, cn_53, cn_54, cn_55, Nat.reduceAdd, Nat.reduceLT, Nat.reduceLeDiff, Nat.lt_add_one, Nat.zero_lt_succ, Nat.reduceSub, ite_true, ite_false, reduceCtorEq, forall_const, Nat.reduceSucc, Nat.zero_add, Nat.add_zero, Nat.le_refl, Nat.zero_le, Nat.reducePow, Int.reduceNeg, Nat.reduceMul, eq_self, Int.cast_ofNat_Int, Int.toNat_natCast, iR, lR, Int.reduceEq, Int.reduceLT, Int.reduceLE, Int.reduceNe, not_false_eq_true, not_true_eq_false, false_implies, true_implies, Int.reduceAdd, Int.reduceSub, Int.reduceMul, Int.reduceToNat, implies_true, or_true, true_or, or_false, false_or, r13, r7, r35, r36]
    refine ⟨by omega, by omega, fun z => ?_, fun z => ⟨by omega, by omega, by omega, by omega, ih (by omega) _ ⟨by omega, (fun j => if j = (2 * k + 1).toNat then M' 36 0 k.toNat else if j = (2 * k).toNat then M' 35 0 k.toNat else S j), ?_, fun q sc c hq hks => ?_⟩⟩⟩
    · refine h1 hc _ ks tt th ft fl (fun g' b1 b2 => ?_) (fun k' b1 b2 b3 b4 b5 b6 => ?_) ?_ k3 ?_ (fun q sc c hq hks => ?_)
      · by_cases e : g' = 37
        · omega
        · rw [stc_ne _ _ _ _ e, hM1, stm_ne _ _ _ _ _ b1]; exact k1.1 g' b1 (by omega)
      · rw [stc_ne _ _ _ _ (by decide), hM1, stm_ap, if_neg (by omega)]; exact k1.2 k' b1 b2 b4 b5 b6
      · rw [stc_ne _ _ _ _ (by decide), hM1, stm_ap, if_neg (by decide)]; exact k2
      · rw [stc_ne _ _ _ _ (by decide), r13]; omega
      · rw [stc_self]
        have := (List.getElem?_eq_some_iff.mp hks).1
        exact hS q sc c (by omega) hks
    · rw [stm_on, stm_on]
    · show (if 2 * q = (2 * k + 1).toNat then _ else if 2 * q = (2 * k).toNat then M' 35 0 k.toNat else S (2 * q)) = sc ∧ (if 2 * q + 1 = (2 * k + 1).toNat then M' 36 0 k.toNat else if 2 * q + 1 = (2 * k).toNat then _ else S (2 * q + 1)) = c
      rw [if_neg (by omega)]
      by_cases e : q = k.toNat
      · rw [if_pos (by omega), if_pos (by omega)]
        rw [e] at hks
        exact k4.1.2 k.toNat sc c hks
      · rw [if_neg (by omega), if_neg (by omega), if_neg (by omega)]
        exact hS q sc c (by omega) hks
  exact ⟨by omega, fun z => hgo _ (by omega), fun z => hgo _ (by omega)⟩
def T_X11_ask : Ct := fun as M P => match as with
  | [.inr (some (g, s)), .inl (.inl t), .inl (.inl a), .inl (.inl b), .inl (.inl sd)] => g = 11 ∧ s = 0 ∧ iR t ∧ iR a ∧ iR b ∧ iR sd ∧ SI M ∧ SE M ∧ CE M ∧ (0 ≤ M 11 0 33 ∧ M 11 0 33 ≤ 20) ∧ ((can M t a b ∧ (0 ≤ sd ∧ sd ≤ 2) ∧ M 11 0 33 < 20) → ∀ (M' : Mm) (ks : List (Int × Int)) (tt th ft fl : Int), keepG M M' → M' 11 0 2 = 0 → ANS M t a.toNat b.toNat ks tt th ft fl → P (some (zi (M 11 0 33))) (stm (stm (stm (stm M' 51 0 (M 11 0 33).toNat (lsm (onP th ft fl sd) ks)) 52 0 (M 11 0 33).toNat tt) 53 0 (M 11 0 33).toNat 0) 11 0 33 (M 11 0 33 + 1))) ∧ (¬ (can M t a b ∧ (0 ≤ sd ∧ sd ≤ 2) ∧ M 11 0 33 < 20) → P (some (zi (-1))) (stm M 11 0 2 0))
  | _ => False
theorem k_X11_ask (l : Launch) : MetT l yX11_ask cX11_ask 6 (some .int) 5 T_X11_ask := by
  refine MetT.of (by decide +kernel) (fun as M P h => by unfold T_X11_ask at h; split at h <;> first | (simp [elo]; done) | exact h.elim) (fun x as M P h C hR => ?_)
  unfold T_X11_ask at h
  split at h
  rotate_left
  · exact h.elim
  rename_i g s t a b sd
  obtain ⟨rfl, rfl, ht, ha, hb, hsd, hI, hE, hCE, h33, h1, h2⟩ := h
  have o : ∀ g' : Nat, ¬ g' = 11 → stm M 11 0 2 0 g' = M g' := fun g' h => stm_ne _ _ _ _ _ h
  have h34 : ¬ (can M t a b ∧ (0 ≤ sd ∧ sd ≤ 2) ∧ M 11 0 33 < 20) → J x 34 [some (zr 11 0), some (zi t), some (zi a), some (zi b), some (zi sd), none] [] M := by
    intro q
    refine B_X11_ask_34 C _ _ _ ?_
    simp only [c_iadd, c_isub, c_imul, c_ladd, c_lsub, c_lmul, c_ineg, c_lneg, c_ic, c_lc, c_iload, c_lload, c_aload, c_istore, c_astore, c_lstore, c_iinc, c_dup, c_dup2, c_goto, c_i2l, c_l2i, c_idiv, c_ldiv, c_lrem, c_lshl, c_gi, c_gl, c_gr, c_pi, c_pz, c_pl, c_iald, c_lald, c_bald, c_aald, c_iast, c_last, c_bast, c_callV, c_callS, c_mmax, c_mmin, c_mabs, c_mmaxl, c_mabsl, c_iret, c_zret, c_lret, c_vret, c_tsw, c_lsw, c_icmp_eq, c_icmp_ne, c_icmp_lt, c_icmp_ge, c_icmp_gt, c_icmp_le, c_if_eq, c_if_ne, c_if_lt, c_if_ge, c_if_gt, c_if_le, c_lcmp_eq, c_lcmp_ne, c_lcmp_lt, c_lcmp_ge, c_lcmp_gt, c_lcmp_le, c_lraw_eq, c_lraw_lt, c_lraw_ge, c_lraw_gt, c_lraw_le, acat, scat, tswP, pops, st1, st2, klo, pad, elo, List.getElem?_cons_zero, List.getElem?_cons_succ, List.getElem?_nil, List.set_cons_zero, List.set_cons_succ, List.set_nil, Option.toList_some, Option.toList_none, List.cons_append, List.nil_append, List.length_cons, List.length_nil, stc_ap, stm_ap, false_and, and_false, and_self, true_and, and_true, Nat.reduceEqDiff, reduceIte, al_12, al_13, al_14, al_15, al_16, al_17, al_18, al_19, al_20, al_21, al_22, al_23, al_24, al_25, al_26, al_27, al_28, al_29, al_30, al_31, al_32, al_33, al_34, al_35, al_36, al_37, al_38, al_39, al_40, al_41, al_42, al_43, al_44, al_45, al_46, al_47, al_48, al_49, al_50, al_51, al_52, al_53, al_54, al_55, at_12, at_13, at_14, at_15, at_16, at_17, at_18, at_19, at_20, at_21, at_22, at_23, at_24, at_25, at_26, at_27, at_28, at_29, at_30, at_31, at_32, at_33, at_34, at_35, at_36, at_37, at_38, at_39, at_40, at_41, at_42, at_43, at_44, at_45, at_46, at_47, at_48, at_49, at_50, at_51, at_52, at_53, at_54, at_55, cn_0, cn_1, cn_2, cn_3, cn_4, cn_5, cn_6, cn_7, cn_8, cn_9, cn_10, cn_11, cn_12, cn_13, cn_14, cn_15, cn_16, cn_17, cn_18, cn_19, cn_20, cn_21, cn_22, cn_23, cn_24, cn_25, cn_26, cn_27, cn_28, cn_29, cn_30, cn_31, cn_32, cn_33, cn_34, cn_35, cn_36, cn_37, cn_38, cn_39, cn_40, cn_41, cn_42, cn_43, cn_44, cn_45, cn_46, cn_47, cn_48, cn_49, cn_50, cn_51, cn_52, cn_53, cn_54, cn_55, Nat.reduceAdd, Nat.reduceLT, Nat.reduceLeDiff, Nat.lt_add_one, Nat.zero_lt_succ, Nat.reduceSub, ite_true, ite_false, reduceCtorEq, forall_const, Nat.reduceSucc, Nat.zero_add, Nat.add_zero, Nat.le_refl, Nat.zero_le, Nat.reducePow, Int.reduceNeg, Nat.reduceMul, eq_self, Int.cast_ofNat_Int, Int.toNat_natCast, iR, lR, Int.reduceEq, Int.reduceLT, Int.reduceLE, Int.reduceNe, not_false_eq_true, not_true_eq_false, false_implies, true_implies, Int.reduceAdd, Int.reduceSub, Int.reduceMul, Int.reduceToNat, implies_true, or_true, true_or, or_false, false_or]
    refine B_X11_ask_35 C hR (k_X11_fill l) (by decide) (k_X11_counted l) (by decide) _ _ _ ?_
    simp only [c_iadd, c_isub, c_imul, c_ladd, c_lsub, c_lmul, c_ineg, c_lneg, c_ic, c_lc, c_iload, c_lload, c_aload, c_istore, c_astore, c_lstore, c_iinc, c_dup, c_dup2, c_goto, c_i2l, c_l2i, c_idiv, c_ldiv, c_lrem, c_lshl, c_gi, c_gl, c_gr, c_pi, c_pz, c_pl, c_iald, c_lald, c_bald, c_aald, c_iast, c_last, c_bast, c_callV, c_callS, c_mmax, c_mmin, c_mabs, c_mmaxl, c_mabsl, c_iret, c_zret, c_lret, c_vret, c_tsw, c_lsw, c_icmp_eq, c_icmp_ne, c_icmp_lt, c_icmp_ge, c_icmp_gt, c_icmp_le, c_if_eq, c_if_ne, c_if_lt, c_if_ge, c_if_gt, c_if_le, c_lcmp_eq, c_lcmp_ne, c_lcmp_lt, c_lcmp_ge, c_lcmp_gt, c_lcmp_le, c_lraw_eq, c_lraw_lt, c_lraw_ge, c_lraw_gt, c_lraw_le, acat, scat, tswP, pops, st1, st2, klo, pad, elo, List.getElem?_cons_zero, List.getElem?_cons_succ, List.getElem?_nil, List.set_cons_zero, List.set_cons_succ, List.set_nil, Option.toList_some, Option.toList_none, List.cons_append, List.nil_append, List.length_cons, List.length_nil, stc_ap, stm_ap, false_and, and_false, and_self, true_and, and_true, Nat.reduceEqDiff, reduceIte, al_12, al_13, al_14, al_15, al_16, al_17, al_18, al_19, al_20, al_21, al_22, al_23, al_24, al_25, al_26, al_27, al_28, al_29, al_30, al_31, al_32, al_33, al_34, al_35, al_36, al_37, al_38, al_39, al_40, al_41, al_42, al_43, al_44, al_45, al_46, al_47, al_48, al_49, al_50, al_51, al_52, al_53, al_54, al_55, at_12, at_13, at_14, at_15, at_16, at_17, at_18, at_19, at_20, at_21, at_22, at_23, at_24, at_25, at_26, at_27, at_28, at_29, at_30, at_31, at_32, at_33, at_34, at_35, at_36, at_37, at_38, at_39, at_40, at_41, at_42, at_43, at_44, at_45, at_46, at_47, at_48, at_49, at_50, at_51, at_52, at_53, at_54, at_55, cn_0, cn_1, cn_2, cn_3, cn_4, cn_5, cn_6, cn_7, cn_8, cn_9, cn_10, cn_11, cn_12, cn_13, cn_14, cn_15, cn_16, cn_17, cn_18, cn_19, cn_20, cn_21, cn_22, cn_23, cn_24, cn_25, cn_26, cn_27, cn_28, cn_29, cn_30, cn_31, cn_32, cn_33, cn_34, cn_35, cn_36, cn_37, cn_38, cn_39, cn_40, cn_41, cn_42, cn_43, cn_44, cn_45, cn_46, cn_47, cn_48, cn_49, cn_50, cn_51, cn_52, cn_53, cn_54, cn_55, Nat.reduceAdd, Nat.reduceLT, Nat.reduceLeDiff, Nat.lt_add_one, Nat.zero_lt_succ, Nat.reduceSub, ite_true, ite_false, reduceCtorEq, forall_const, Nat.reduceSucc, Nat.zero_add, Nat.add_zero, Nat.le_refl, Nat.zero_le, Nat.reducePow, Int.reduceNeg, Nat.reduceMul, eq_self, Int.cast_ofNat_Int, Int.toNat_natCast, iR, lR, Int.reduceEq, Int.reduceLT, Int.reduceLE, Int.reduceNe, not_false_eq_true, not_true_eq_false, false_implies, true_implies, Int.reduceAdd, Int.reduceSub, Int.reduceMul, Int.reduceToNat, implies_true, or_true, true_or, or_false, false_or, T_X11_fill, T_X11_counted]
    exact h2 q
  refine B_X11_ask_0 C (k_X11_canAsk l) (by decide) _ _ _ ?_
  simp only [c_iadd, c_isub, c_imul, c_ladd, c_lsub, c_lmul, c_ineg, c_lneg, c_ic, c_lc, c_iload, c_lload, c_aload, c_istore, c_astore, c_lstore, c_iinc, c_dup, c_dup2, c_goto, c_i2l, c_l2i, c_idiv, c_ldiv, c_lrem, c_lshl, c_gi, c_gl, c_gr, c_pi, c_pz, c_pl, c_iald, c_lald, c_bald, c_aald, c_iast, c_last, c_bast, c_callV, c_callS, c_mmax, c_mmin, c_mabs, c_mmaxl, c_mabsl, c_iret, c_zret, c_lret, c_vret, c_tsw, c_lsw, c_icmp_eq, c_icmp_ne, c_icmp_lt, c_icmp_ge, c_icmp_gt, c_icmp_le, c_if_eq, c_if_ne, c_if_lt, c_if_ge, c_if_gt, c_if_le, c_lcmp_eq, c_lcmp_ne, c_lcmp_lt, c_lcmp_ge, c_lcmp_gt, c_lcmp_le, c_lraw_eq, c_lraw_lt, c_lraw_ge, c_lraw_gt, c_lraw_le, acat, scat, tswP, pops, st1, st2, klo, pad, elo, List.getElem?_cons_zero, List.getElem?_cons_succ, List.getElem?_nil, List.set_cons_zero, List.set_cons_succ, List.set_nil, Option.toList_some, Option.toList_none, List.cons_append, List.nil_append, List.length_cons, List.length_nil, stc_ap, stm_ap, false_and, and_false, and_self, true_and, and_true, Nat.reduceEqDiff, reduceIte, al_12, al_13, al_14, al_15, al_16, al_17, al_18, al_19, al_20, al_21, al_22, al_23, al_24, al_25, al_26, al_27, al_28, al_29, al_30, al_31, al_32, al_33, al_34, al_35, al_36, al_37, al_38, al_39, al_40, al_41, al_42, al_43, al_44, al_45, al_46, al_47, al_48, al_49, al_50, al_51, al_52, al_53, al_54, al_55, at_12, at_13, at_14, at_15, at_16, at_17, at_18, at_19, at_20, at_21, at_22, at_23, at_24, at_25, at_26, at_27, at_28, at_29, at_30, at_31, at_32, at_33, at_34, at_35, at_36, at_37, at_38, at_39, at_40, at_41, at_42, at_43, at_44, at_45, at_46, at_47, at_48, at_49, at_50, at_51, at_52, at_53, at_54, at_55, cn_0, cn_1, cn_2, cn_3, cn_4, cn_5, cn_6, cn_7, cn_8, cn_9, cn_10, cn_11, cn_12, cn_13, cn_14, cn_15, cn_16, cn_17, cn_18, cn_19, cn_20, cn_21, cn_22, cn_23, cn_24, cn_25, cn_26, cn_27, cn_28, cn_29, cn_30, cn_31, cn_32, cn_33, cn_34, cn_35, cn_36, cn_37, cn_38, cn_39, cn_40, cn_41, cn_42, cn_43, cn_44, cn_45, cn_46, cn_47, cn_48, cn_49, cn_50, cn_51, cn_52, cn_53, cn_54, cn_55, Nat.reduceAdd, Nat.reduceLT, Nat.reduceLeDiff, Nat.lt_add_one, Nat.zero_lt_succ, Nat.reduceSub, ite_true, ite_false, reduceCtorEq, forall_const, Nat.reduceSucc, Nat.zero_add, Nat.add_zero, Nat.le_refl, Nat.zero_le, Nat.reducePow, Int.reduceNeg, Nat.reduceMul, eq_self, Int.cast_ofNat_Int, Int.toNat_natCast, iR, lR, Int.reduceEq, Int.reduceLT, Int.reduceLE, Int.reduceNe, not_false_eq_true, not_true_eq_false, false_implies, true_implies, Int.reduceAdd, Int.reduceSub, Int.reduceMul, Int.reduceToNat, implies_true, or_true, true_or, or_false, false_or, T_X11_canAsk]
  refine ⟨hsd, fun z => h34 fun q => by omega, fun z => ⟨hsd, fun z2 => h34 fun q => by omega, fun z2 => ⟨by omega, fun z3 => h34 fun q => by omega, fun z3 => ⟨ht, ha, hb, hI, hE, fun hc => ?_, fun hc => h34 fun q => hc q.1⟩⟩⟩⟩
  refine B_X11_ask_35 C hR (k_X11_fill l) (by decide) (k_X11_counted l) (by decide) _ _ _ ?_
  simp only [c_iadd, c_isub, c_imul, c_ladd, c_lsub, c_lmul, c_ineg, c_lneg, c_ic, c_lc, c_iload, c_lload, c_aload, c_istore, c_astore, c_lstore, c_iinc, c_dup, c_dup2, c_goto, c_i2l, c_l2i, c_idiv, c_ldiv, c_lrem, c_lshl, c_gi, c_gl, c_gr, c_pi, c_pz, c_pl, c_iald, c_lald, c_bald, c_aald, c_iast, c_last, c_bast, c_callV, c_callS, c_mmax, c_mmin, c_mabs, c_mmaxl, c_mabsl, c_iret, c_zret, c_lret, c_vret, c_tsw, c_lsw, c_icmp_eq, c_icmp_ne, c_icmp_lt, c_icmp_ge, c_icmp_gt, c_icmp_le, c_if_eq, c_if_ne, c_if_lt, c_if_ge, c_if_gt, c_if_le, c_lcmp_eq, c_lcmp_ne, c_lcmp_lt, c_lcmp_ge, c_lcmp_gt, c_lcmp_le, c_lraw_eq, c_lraw_lt, c_lraw_ge, c_lraw_gt, c_lraw_le, acat, scat, tswP, pops, st1, st2, klo, pad, elo, List.getElem?_cons_zero, List.getElem?_cons_succ, List.getElem?_nil, List.set_cons_zero, List.set_cons_succ, List.set_nil, Option.toList_some, Option.toList_none, List.cons_append, List.nil_append, List.length_cons, List.length_nil, stc_ap, stm_ap, false_and, and_false, and_self, true_and, and_true, Nat.reduceEqDiff, reduceIte, al_12, al_13, al_14, al_15, al_16, al_17, al_18, al_19, al_20, al_21, al_22, al_23, al_24, al_25, al_26, al_27, al_28, al_29, al_30, al_31, al_32, al_33, al_34, al_35, al_36, al_37, al_38, al_39, al_40, al_41, al_42, al_43, al_44, al_45, al_46, al_47, al_48, al_49, al_50, al_51, al_52, al_53, al_54, al_55, at_12, at_13, at_14, at_15, at_16, at_17, at_18, at_19, at_20, at_21, at_22, at_23, at_24, at_25, at_26, at_27, at_28, at_29, at_30, at_31, at_32, at_33, at_34, at_35, at_36, at_37, at_38, at_39, at_40, at_41, at_42, at_43, at_44, at_45, at_46, at_47, at_48, at_49, at_50, at_51, at_52, at_53, at_54, at_55, cn_0, cn_1, cn_2, cn_3, cn_4, cn_5, cn_6, cn_7, cn_8, cn_9, cn_10, cn_11, cn_12, cn_13, cn_14, cn_15, cn_16, cn_17, cn_18, cn_19, cn_20, cn_21, cn_22, cn_23, cn_24, cn_25, cn_26, cn_27, cn_28, cn_29, cn_30, cn_31, cn_32, cn_33, cn_34, cn_35, cn_36, cn_37, cn_38, cn_39, cn_40, cn_41, cn_42, cn_43, cn_44, cn_45, cn_46, cn_47, cn_48, cn_49, cn_50, cn_51, cn_52, cn_53, cn_54, cn_55, Nat.reduceAdd, Nat.reduceLT, Nat.reduceLeDiff, Nat.lt_add_one, Nat.zero_lt_succ, Nat.reduceSub, ite_true, ite_false, reduceCtorEq, forall_const, Nat.reduceSucc, Nat.zero_add, Nat.add_zero, Nat.le_refl, Nat.zero_le, Nat.reducePow, Int.reduceNeg, Nat.reduceMul, eq_self, Int.cast_ofNat_Int, Int.toNat_natCast, iR, lR, Int.reduceEq, Int.reduceLT, Int.reduceLE, Int.reduceNe, not_false_eq_true, not_true_eq_false, false_implies, true_implies, Int.reduceAdd, Int.reduceSub, Int.reduceMul, Int.reduceToNat, implies_true, or_true, true_or, or_false, false_or, T_X11_fill, T_X11_counted]
  refine ⟨by rw [can_cg (o 8 (by decide)) (o 27 (by decide))]; exact hc, SI_cg (o 8 (by decide)) (o 27 (by decide)) hI, SE_cg (o 8 (by decide)) (o 27 (by decide)) (o 31 (by decide)) (o 32 (by decide)) hE, CE_cg (o 33 (by decide)) hCE, fun M' ks tt th ft fl k1 k2 k3 => ⟨by omega, ks, k3.1, ?_⟩⟩
  rw [ANS_cg (o 8 (by decide)) (o 20 (by decide)) (o 27 (by decide))] at k2
  obtain ⟨-, wt, weq, -⟩ := id hc
  obtain ⟨wa, wb, -⟩ := id wt
  obtain ⟨a1, a2⟩ := ANS_ok hI (a := a.toNat) (b := b.toNat) (by omega) (by omega) weq k2
  have e33 : M' 11 0 33 = M 11 0 33 := by rw [k1.2 33 (by decide) (by decide) (by decide) (by decide), stm_ap, if_neg (by decide)]
  rw [k3.2.1, k3.2.2.1, k3.2.2.2.1, k3.2.2.2.2, e33]
  have hfin := h1 ⟨hc, by omega, by omega⟩ M' ks tt th ft fl ⟨fun g' b1 b2 => (k1.1 g' b1 b2).trans (o g' b1), fun k b1 b2 b3 b4 b5 => by rw [k1.2 k b1 b3 b4 b5, stm_ap, if_neg (by omega)]⟩ (by rw [k1.2 2 (by decide) (by decide) (by decide) (by decide)]; rfl) k2
  rw [show M 11 0 33 + 1 - 1 = M 11 0 33 by omega]
  exact ⟨a1, a2, by omega, by omega, by omega, hfin⟩
