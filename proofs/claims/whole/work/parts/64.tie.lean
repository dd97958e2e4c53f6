/-! the ties between the class's keys and the reference's list -/
def prs (D : Int → Int) (st sh fi : Int) (n : Nat) : List (Int × Int) := (nzk D fi n).map (fun k => (st * k + sh, D k))
theorem prs_s (D : Int → Int) (st sh fi : Int) (n : Nat) : prs D st sh fi (n + 1) = if 0 < D (fi + n) then prs D st sh fi n ++ [(st * (fi + n) + sh, D (fi + n))] else prs D st sh fi n := by
  show (if 0 < D (fi + n) then nzk D fi n ++ [fi + n] else nzk D fi n).map (fun k => (st * k + sh, D k)) = if 0 < D (fi + n) then (nzk D fi n).map (fun k => (st * k + sh, D k)) ++ [(st * (fi + n) + sh, D (fi + n))] else (nzk D fi n).map (fun k => (st * k + sh, D k))
  split
  · rw [List.map_append]; rfl
  · rfl
theorem tlst_prs {D : Int → Int} (st sh : Int) {n : Nat} (h : ∀ v : Nat, 0 ≤ D v) : tlst D st sh n = prs D st sh 0 n := by
  induction n with
  | zero => rfl
  | succ n ih =>
    rw [prs_s, ← ih, Int.zero_add]
    show (if D n = 0 then _ else _) = _
    have := h n
    by_cases e : D n = 0
    · rw [if_pos e, if_neg (by omega)]
    · rw [if_neg e, if_pos (by omega)]
theorem csm_prs {D : Int → Int} {p q : Int → Bool} {st sh fi : Int} (hf : 0 ≤ fi) (h : ∀ k : Int, 0 ≤ k → 0 ≤ D k) (hpq : ∀ k : Int, p k = q (st * k + sh)) (n : Nat) : csm D p fi n = lsm q (prs D st sh fi n) := by
  induction n with
  | zero => rfl
  | succ n ih =>
    rw [prs_s]
    show csm D p fi n + (if p (fi + n) = true then D (fi + n) else 0) = _
    have := h (fi + n) (by omega)
    by_cases e : 0 < D (fi + n)
    · rw [if_pos e, lsm_app, ih, hpq]
    · rw [if_neg e, ih, show D (fi + n) = 0 by omega]
      split <;> omega
theorem nzk_nil {D : Int → Int} {fi : Int} {n : Nat} (h : ∀ k : Int, fi ≤ k → k < fi + n → D k = 0) : nzk D fi n = [] := by
  induction n with
  | zero => rfl
  | succ n ih =>
    unfold nzk
    rw [if_neg (by rw [h (fi + n) (by omega) (by omega)]; decide)]
    exact ih fun k h1 h2 => h k h1 (by omega)
theorem nzk_left {D : Int → Int} {fi : Int} {d : Nat} (h : ∀ k : Int, fi ≤ k → k < fi + d → D k = 0) (n : Nat) : nzk D fi (d + n) = nzk D (fi + d) n := by
  induction n with
  | zero => exact nzk_nil h
  | succ n ih =>
    show (if 0 < D (fi + ((d + n : Nat) : Int)) then nzk D fi (d + n) ++ [fi + ((d + n : Nat) : Int)] else nzk D fi (d + n)) = (if 0 < D (fi + d + n) then nzk D (fi + d) n ++ [fi + d + n] else nzk D (fi + d) n)
    rw [ih, show fi + ((d + n : Nat) : Int) = fi + d + n by omega]
theorem nzk_right {D : Int → Int} {fi : Int} {n : Nat} (d : Nat) (h : ∀ k : Int, fi + n ≤ k → D k = 0) : nzk D fi (n + d) = nzk D fi n := by
  induction d with
  | zero => rfl
  | succ d ih =>
    show (if 0 < D (fi + ((n + d : Nat) : Int)) then _ else nzk D fi (n + d)) = _
    rw [if_neg (by rw [h _ (by omega)]; decide), ih]
/-- a wider stretch of keys -/
theorem nzk_wide {D : Int → Int} {lo fi : Int} {N m : Nat} (h1 : lo ≤ fi) (h2 : fi + m ≤ lo + N) (hl : ∀ k : Int, k < fi → D k = 0) (hr : ∀ k : Int, fi + m ≤ k → D k = 0) : nzk D lo N = nzk D fi m := by
  obtain ⟨d, hd⟩ : ∃ d : Nat, lo + d = fi := ⟨(fi - lo).toNat, by omega⟩
  obtain ⟨e, he⟩ : ∃ e : Nat, N = d + (m + e) := ⟨N - d - m, by omega⟩
  rw [he, nzk_left (fun k _ h => hl k (by omega)), hd, nzk_right e hr]
theorem nzk_shift (D : Int → Int) (fi c : Int) (n : Nat) : nzk (fun k => D (k - c)) (fi + c) n = (nzk D fi n).map (fun k => k + c) := by
  induction n with
  | zero => rfl
  | succ n ih =>
    show (if 0 < D (fi + c + n - c) then nzk (fun k => D (k - c)) (fi + c) n ++ [fi + c + n] else nzk (fun k => D (k - c)) (fi + c) n) = (if 0 < D (fi + n) then nzk D fi n ++ [fi + n] else nzk D fi n).map (fun k => k + c)
    rw [ih, show fi + c + n - c = fi + n by omega]
    split
    · rw [List.map_append]
      show _ = _ ++ [fi + n + c]
      rw [show fi + n + c = fi + c + n by omega]
    · rfl
theorem nzk_cg {D D' : Int → Int} {fi : Int} {n : Nat} (h : ∀ k : Int, D k = D' k) : nzk D fi n = nzk D' fi n := by rw [show D = D' from funext h]
/-! orders read from behind -/
theorem psm_sm (h : Int → Int) (m : Nat) (s : Int) : psm h m s = sm (fun t => h (s - t)) m := by
  induction m with
  | zero => rfl
  | succ m ih => show psm h m s + h (s - m) = _; rw [ih]; rfl
theorem sm_front (f : Nat → Int) (n : Nat) : sm f (n + 1) = f 0 + sm (fun j => f (j + 1)) n := by
  induction n with
  | zero => show 0 + f 0 = f 0 + 0; omega
  | succ n ih => rw [sm_s, ih, sm_s]; omega
theorem sm_rev (f : Nat → Int) (n : Nat) : sm f n = sm (fun j => f (n - 1 - j)) n := by
  induction n with
  | zero => rfl
  | succ n ih =>
    rw [sm_s, sm_front, ih]
    rw [show f (n + 1 - 1 - 0) = f n by rw [show n + 1 - 1 - 0 = n by omega], Int.add_comm]
    congr 1
    refine sm_cg fun j hj => ?_
    rw [show n + 1 - 1 - (j + 1) = n - 1 - j by omega]
theorem mh_sym (i : Nat) : ∀ s : Int, mh i (trn i - s) = mh i s := by
  induction i with
  | zero =>
    intro s
    show (if trn ((0 : Nat) : Int) - s = 0 then 1 else 0) = if s = 0 then 1 else 0
    have : trn ((0 : Nat) : Int) = 0 := by decide
    rw [this]
    by_cases e : s = 0
    · rw [if_pos (by omega), if_pos e]
    · rw [if_neg (by omega), if_neg e]
  | succ i ih =>
    intro s
    show psm (mh i) (i + 1) (trn ((i + 1 : Nat) : Int) - s) = psm (mh i) (i + 1) s
    rw [psm_sm, psm_sm, sm_rev]
    refine sm_cg fun j hj => ?_
    rw [← ih (s - j)]
    have e := trn_s (i : Int)
    rw [show ((i + 1 : Nat) : Int) = (i : Int) + 1 by omega, e, show ((i + 1 - 1 - j : Nat) : Int) = (i : Int) - j by omega]
    congr 1
    omega
/-! gaps -/
theorem gpc_mono (f : Nat → Int) (n K : Nat) {m m' : Int} (h : m ≤ m') (i : Nat) : ∀ j : Nat, gpc f n K m i j ≤ gpc f n K m' i j := by
  induction i with
  | zero => intro j; cases j <;> exact Int.le_refl _
  | succ i ih =>
    intro j
    rw [gpc_s, gpc_s]
    have h0 : 0 ≤ gpa f n K m' i j := by
      unfold gpa
      have := (gpc_in f n K m' i j).1
      have := (gpc_in f n K m' i (j - 1)).1
      split <;> omega
    by_cases c : (i + 1 = n ∨ ¬ f (i + 1) = f i) ∧ m < zab (n * j - K * (i + 1 : Nat))
    · rw [if_pos c]
      split
      · exact Int.le_refl 0
      · exact h0
    · rw [if_neg c, if_neg (fun z => c ⟨z.1, by have := z.2; omega⟩)]
      unfold gpa
      have h1 := ih j
      have h2 := ih (j - 1)
      split <;> omega
theorem gpd_nn (f : Nat → Int) (n K : Nat) {v : Int} : 0 ≤ gpd f n K v := by
  unfold gpd
  have h1 := gpc_mono f n K (m := v - 1) (m' := v) (by omega) n K
  have h2 := (gpc_in f n K v n K).1
  split <;> omega
/-- the question is posed: it is in bounds, and it has the answers that the document asks for -/
def PSD (M M' : Mm) (t : Int) (a b : Nat) : Prop := M' 5 0 5 = t ∧ QI M' ∧ mOk M' ∧ ∀ (ks : List (Int × Int)) (tt th ft fl : Int), ANS M t a b ks tt th ft fl → M' 5 0 8 = th ∧ M' 5 0 9 = tt ∧ M' 5 0 12 = ft ∧ M' 5 0 13 = fl ∧ ∀ (dk : Int → Int) (fi la : Int), QD (M' 5 0 5) (M' 5 0 6) (M' 5 0 7) (M' 21 0) dk fi la → (∀ k : Int, 0 ≤ k → 0 ≤ dk k) ∧ prs dk (M' 5 0 10) (M' 5 0 11) fi (la + 1 - fi).toNat = ks
theorem mOk_of {M : Mm} {sc st sh ft fc : Int} (e8 : M 5 0 8 = sc) (e10 : M 5 0 10 = st) (e11 : M 5 0 11 = sh) (e12 : M 5 0 12 = ft) (e13 : M 5 0 13 = fc) (h8 : -100000 ≤ sc ∧ sc ≤ 100000) (hst : 1 ≤ st ∧ st ≤ 2) (hsh : -50000 ≤ sh ∧ sh ≤ 50000) (hft : 0 ≤ ft ∧ ft ≤ 40) (hfc : -1000000 ≤ fc ∧ fc ≤ 1000000) : mOk M := by
  have key : ∀ v : Int, -100000 ≤ v → v ≤ 100000 → -1000000000000 ≤ ft * v - fc ∧ ft * v - fc ≤ 1000000000000 := by
    intro v u1 u2
    have v1 : ft * v ≤ ft * 100000 := Int.mul_le_mul_of_nonneg_left u2 hft.1
    have v2 : ft * (-100000) ≤ ft * v := Int.mul_le_mul_of_nonneg_left u1 hft.1
    omega
  unfold mOk farOk
  rw [e8, e10, e11, e12, e13]
  refine ⟨⟨by omega, by omega⟩, key sc h8.1 h8.2, fun k k1 k2 => ?_⟩
  have h1 : 0 ≤ st * k ∧ st * k ≤ 2 * k := ⟨Int.mul_nonneg (by omega) k1, Int.mul_le_mul_of_nonneg_right hst.2 k1⟩
  exact ⟨⟨by omega, by omega⟩, key _ (by omega) (by omega)⟩
/-- choices by their sums: the class's stretch of keys, the reference's wider one -/
theorem cw_tie {f f' : Nat → Int} {n k : Nat} (hk : k ≤ n) (hpm : pmf n f f') (hso : srt f' n) {c : Int} (hc : 0 ≤ c) (hb : ∀ j, j < n → 0 ≤ f j ∧ f j ≤ c) {lo : Int} {N : Nat} (hlo : lo ≤ 0) (hN : k * c < lo + N) : nzk (cw f n k) lo N = nzk (cw f n k) (sm f' k) (gsm f' n k + 1 - sm f' k).toNat := by
  have hb' : ∀ j, j < n → 0 ≤ f' j ∧ f' j ≤ c := pmf_all hpm (p := fun v => 0 ≤ v ∧ v ≤ c) hb
  have g1 := gsm_in (f := f') (n := n) (k := k) (c := c) hk hb'
  have g2 := sm_in (f := f') (n := k) (c := c) hc (fun q hq => hb' q (by omega))
  have g3 := sm_gsm hso hk
  have hz : ∀ s : Int, ¬ (sm f' k ≤ s ∧ s ≤ gsm f' n k) → cw f n k s = 0 := fun s h => by
    rw [← cw_pm hpm]
    exact Classical.byContradiction fun z => h (cw_supp hso hk z)
  refine nzk_wide (by omega) (by omega) (fun s hs => hz s (by omega)) (fun s hs => hz s (by omega))
theorem ps_0 {M M' : Mm} {a b : Nat} (hI : SI M) (ha : a < 8) (hb : b < 8) (za : 0 < M 8 a 1) (zb : 0 < M 8 b 1) (h5 : M' 5 0 5 = 0) (hv : ∀ j : Nat, (j : Int) < M 8 a 1 + M 8 b 1 → M' 21 0 j = pol M a b j - lst M a b) (hp : posed M' (M 8 a 1 + M 8 b 1) (M 8 a 1) (sm (M 27 a) (M 8 a 1).toNat) (chI (M 8 a 1 + M 8 b 1) (M 8 a 1)) 1 (M 8 a 1 * lst M a b) (M 8 a 1 + M 8 b 1) (M 8 a 1 * sm (pol M a b) (M 8 a 1 + M 8 b 1).toNat)) : PSD M M' 0 a b := by
  have ia := (hI a ha).1
  have ib := (hI b hb).1
  have hpb : ∀ j : Nat, (j : Int) < M 8 a 1 + M 8 b 1 → -500 ≤ pol M a b j ∧ pol M a b j ≤ 500 := fun j hj => pol_in hI ha hb j hj
  obtain ⟨p6, p7, p8, p9, p10, p11, p12, p13⟩ := hp
  obtain ⟨l1, l2, l3⟩ := mnf_in (pol M a b) (M 8 a 1 + M 8 b 1).toNat (fun j hj => hpb j (by omega))
  have hlst : mnf (pol M a b) (M 8 a 1 + M 8 b 1).toNat = lst M a b := rfl
  rw [hlst] at l1 l2 l3
  obtain ⟨L, hL⟩ : ∃ L : Int, L = lst M a b := ⟨_, rfl⟩
  rw [← hL] at l1 l2 l3 hv p11
  have hesm : sm (M 27 a) (M 8 a 1).toNat = sm (pol M a b) (M 8 a 1).toNat := sm_cg fun j hj => by unfold pol; rw [if_pos (by omega)]
  rw [hesm] at p8
  have h3 := sm_abs (f := pol M a b) (n := (M 8 a 1).toNat) (c := 500) (by decide) (fun j hj => hpb j (by omega))
  have h4 := sm_abs (f := pol M a b) (n := (M 8 a 1 + M 8 b 1).toNat) (c := 500) (by decide) (fun j hj => hpb j (by omega))
  generalize hna : M 8 a 1 = na at *
  generalize hnb : M 8 b 1 = nb at *
  have hLm : (-10000 ≤ na * L ∧ na * L ≤ 10000) ∧ -(500 * na) ≤ na * L := by
    have v1 : na * L ≤ na * 500 := Int.mul_le_mul_of_nonneg_left (by omega) (by omega)
    have v2 : na * (-500) ≤ na * L := Int.mul_le_mul_of_nonneg_left (by omega) (by omega)
    omega
  have hfl : -1000000 ≤ na * sm (pol M a b) (na + nb).toNat ∧ na * sm (pol M a b) (na + nb).toNat ≤ 1000000 := by
    have v1 : na * sm (pol M a b) (na + nb).toNat ≤ na * 20000 := Int.mul_le_mul_of_nonneg_left (by omega) (by omega)
    have v2 : na * (-20000) ≤ na * sm (pol M a b) (na + nb).toNat := Int.mul_le_mul_of_nonneg_left (by omega) (by omega)
    omega
  refine ⟨h5, ⟨by omega, fun _ => by rw [p6, p7]; omega, fun h => by omega, fun h => by omega, fun _ _ j hj => ?_, fun h => by omega⟩, mOk_of p8 p10 p11 p12 p13 (by omega) (by omega) (by omega) (by omega) (by omega), fun ks tt th ft fl hans => ?_⟩
  · rw [hv j (by omega)]
    have := hpb j (by omega)
    have := l3 j (by omega)
    omega
  · rcases hans with ⟨-, hk, htt, hth, hft, hfl⟩ | ⟨ht, -⟩ | ⟨ht, -⟩ | ⟨ht, -⟩ | ⟨ht, -⟩ | ⟨ht, -⟩
    rotate_left
    · omega
    · omega
    · omega
    · omega
    · omega
    rw [hna, hnb] at hk htt hft hfl
    rw [hna] at hth
    refine ⟨by rw [p8, hth], by rw [p9, htt], by rw [p12, hft], by rw [p13, hfl], fun dk fi la hqd => ?_⟩
    rw [h5, p6, p7] at hqd
    rcases hqd with ⟨-, f', hpm, hso, hfi, hla, hdk⟩ | ⟨h, -⟩ | ⟨h, -⟩ | ⟨h, -⟩
    rotate_left
    · omega
    · omega
    · omega
    refine ⟨fun k _ => by rw [hdk]; exact cw_nn _ _ _ _, ?_⟩
    have edk : dk = cw (M' 21 0) (na + nb).toNat na.toNat := funext hdk
    obtain ⟨c0, hc0⟩ : ∃ c0 : Int, c0 = 500 * na + na * L := ⟨_, rfl⟩
    have hnat : ((na.toNat : Nat) : Int) = na := by omega
    have eD : ∀ v : Int, cw (fun j => pol M a b j + 500) (na + nb).toNat na.toNat v = dk (v - c0) := by
      intro v
      rw [edk, cw_cg (f := M' 21 0) (g := fun j => pol M a b j + (-L)) (fun j hj => by rw [hv j (by omega)]; omega), cw_sh, cw_sh, hnat]
      congr 1
      rw [Int.mul_neg, hc0, Int.mul_comm na 500]
      omega
    rw [hk, tlst_prs _ _ (fun v => cw_nn _ _ _ _)]
    unfold prs
    rw [show (cw (fun j => pol M a b j + 500) (na + nb).toNat na.toNat) = (fun k => dk (k - c0)) from funext eD]
    have e1 := nzk_shift dk (-c0) c0 (1000 * na + 1).toNat
    rw [show -c0 + c0 = 0 by omega] at e1
    rw [e1, List.map_map, edk]
    have e2 := cw_tie (f := M' 21 0) (f' := f') (n := (na + nb).toNat) (k := na.toNat) (by omega) hpm hso (c := 500 - L) (by omega) (fun j hj => by rw [hv j (by omega)]; have := hpb j (by omega); have := l3 j (by omega); omega) (lo := -c0) (N := (1000 * na + 1).toNat) (by omega) (by rw [hnat, Int.mul_sub, hc0, Int.mul_comm na 500]; omega)
    rw [e2, ← hfi, ← hla, p10, p11]
    refine List.map_congr_left fun k _ => ?_
    show (1 * k + na * L, _) = (1 * (k + c0) + -500 * na, cw (M' 21 0) (na + nb).toNat na.toNat (k + c0 - c0))
    rw [show k + c0 - c0 = k by omega, show 1 * (k + c0) + -500 * na = 1 * k + na * L by rw [hc0]; omega]
