/-! the ties of the other tests; what a posed question answers -/
theorem drk_2n {f : Nat → Int} {n j : Nat} (hj : j < n) : drk f n (f j) ≤ 2 * n := by
  have h1 := ltc_in f (f j) n
  have h2 := eqc_1 (A := f) (v := f j) hj rfl
  unfold drk
  omega
theorem ps_1 {M M' : Mm} {a b : Nat} {f : Nat → Int} (hI : SI M) (ha : a < 8) (hb : b < 8) (za : 0 < M 8 a 1) (zb : 0 < M 8 b 1) (h5 : M' 5 0 5 = 1) (hf : ∀ j : Nat, (j : Int) < M 8 a 1 + M 8 b 1 → f j = drk (pol M a b) (M 8 a 1 + M 8 b 1).toNat (pol M a b j)) (hv : M' 21 0 = f) (hp : posed M' (M 8 a 1 + M 8 b 1) (M 8 a 1) (sm f (M 8 a 1).toNat) (chI (M 8 a 1 + M 8 b 1) (M 8 a 1)) 1 0 1 (M 8 a 1 * (M 8 a 1 + M 8 b 1 + 1))) : PSD M M' 1 a b := by
  have ia := (hI a ha).1
  have ib := (hI b hb).1
  obtain ⟨p6, p7, p8, p9, p10, p11, p12, p13⟩ := hp
  generalize hna : M 8 a 1 = na at *
  generalize hnb : M 8 b 1 = nb at *
  have hfb : ∀ j : Nat, (j : Int) < na + nb → 0 ≤ f j ∧ f j ≤ 80 := fun j hj => by
    rw [hf j hj]
    have h1 := drk_in (pol M a b) (na + nb).toNat (pol M a b j)
    have h2 := drk_2n (f := pol M a b) (n := (na + nb).toNat) (j := j) (by omega)
    omega
  have hs := sm_in (f := f) (n := na.toNat) (c := 80) (by decide) (fun j hj => hfb j (by omega))
  have hfl : 0 ≤ na * (na + nb + 1) ∧ na * (na + nb + 1) ≤ 1000 := by
    have v1 : na * (na + nb + 1) ≤ na * 41 := Int.mul_le_mul_of_nonneg_left (by omega) (by omega)
    exact ⟨Int.mul_nonneg (by omega) (by omega), by omega⟩
  refine ⟨h5, ⟨by omega, fun _ => by rw [p6, p7]; omega, fun h => by omega, fun h => by omega, fun _ _ j hj => ?_, fun h => by omega⟩, mOk_of p8 p10 p11 p12 p13 (by omega) (by omega) (by omega) (by omega) (by omega), fun ks tt th ft fl hans => ?_⟩
  · rw [hv]
    have := hfb j (by omega)
    omega
  · rcases hans with ⟨ht, -⟩ | ⟨-, hk, htt, hth, hft, hfl⟩ | ⟨ht, -⟩ | ⟨ht, -⟩ | ⟨ht, -⟩ | ⟨ht, -⟩
    · omega
    rotate_left
    · omega
    · omega
    · omega
    · omega
    rw [hna, hnb] at hk htt hth hfl
    refine ⟨by rw [p8, hth]; exact sm_cg fun j hj => hf j (by omega), by rw [p9, htt], by rw [p12, hft], by rw [p13, hfl], fun dk fi la hqd => ?_⟩
    rw [h5, p6, p7, hv] at hqd
    rcases hqd with ⟨-, f', hpm, hso, hfi, hla, hdk⟩ | ⟨h, -⟩ | ⟨h, -⟩ | ⟨h, -⟩
    rotate_left
    · omega
    · omega
    · omega
    refine ⟨fun k _ => by rw [hdk]; exact cw_nn _ _ _ _, ?_⟩
    have edk : dk = cw f (na + nb).toNat na.toNat := funext hdk
    have hnat : ((na.toNat : Nat) : Int) = na := by omega
    have eD : cw (fun j => drk (pol M a b) (na + nb).toNat (pol M a b j)) (na + nb).toNat na.toNat = dk := by
      rw [edk]
      funext v
      exact (cw_cg (fun j hj => hf j (by omega)) _ _).symm
    rw [hk, eD, tlst_prs _ _ (fun v => by rw [edk]; exact cw_nn _ _ _ _)]
    unfold prs
    have e2 := cw_tie (f := f) (f' := f') (n := (na + nb).toNat) (k := na.toNat) (by omega) hpm hso (c := 80) (by omega) (fun j hj => hfb j (by omega)) (lo := 0) (N := (80 * na + 1).toNat) (by omega) (by omega)
    rw [p10, p11, edk, e2, ← hfi, ← hla]
theorem ps_2 {M M' : Mm} {a b : Nat} (hI : SI M) (ha : a < 8) (hb : b < 8) (za : 0 < M 8 a 1) (zb : 0 < M 8 b 1) (h5 : M' 5 0 5 = 2) (hv : ∀ j : Nat, (j : Int) < M 8 a 1 + M 8 b 1 → M' 21 0 j = pol M a b j) (hp : posed M' (M 8 a 1 + M 8 b 1) (M 8 a 1) (mxg M a b (pol M a b) (M 8 a 1 + M 8 b 1).toNat) (chI (M 8 a 1 + M 8 b 1) (M 8 a 1)) 1 0 1 0) : PSD M M' 2 a b := by
  have ia := (hI a ha).1
  have ib := (hI b hb).1
  have hpb : ∀ j : Nat, (j : Int) < M 8 a 1 + M 8 b 1 → -500 ≤ pol M a b j ∧ pol M a b j ≤ 500 := fun j hj => pol_in hI ha hb j hj
  obtain ⟨p6, p7, p8, p9, p10, p11, p12, p13⟩ := hp
  have hmx := mxg_in hI ha hb (pol M a b) (M 8 a 1 + M 8 b 1).toNat
  refine ⟨h5, ⟨by omega, fun _ => by rw [p6, p7]; omega, fun h => by omega, fun h => by omega, fun h => by omega, fun _ j hj => ?_⟩, mOk_of p8 p10 p11 p12 p13 (by omega) (by omega) (by omega) (by omega) (by omega), fun ks tt th ft fl hans => ?_⟩
  · rw [hv j (by omega)]
    exact hpb j (by omega)
  · rcases hans with ⟨ht, -⟩ | ⟨ht, -⟩ | ⟨-, hk, htt, ⟨G, gm, hg, hth⟩, hft, hfl⟩ | ⟨ht, -⟩ | ⟨ht, -⟩ | ⟨ht, -⟩
    · omega
    · omega
    rotate_left
    · omega
    · omega
    · omega
    rw [most_eq hI ha hb hg] at hth
    refine ⟨by rw [p8, hth], by rw [p9, htt], by rw [p12, hft], by rw [p13, hfl], fun dk fi la hqd => ?_⟩
    rw [h5, p6, p7] at hqd
    rcases hqd with ⟨h, -⟩ | ⟨-, f', hpm, hso, hfi, hla, hdk⟩ | ⟨h, -⟩ | ⟨h, -⟩
    · omega
    rotate_left
    · omega
    · omega
    have edk : dk = gpd f' (M 8 a 1 + M 8 b 1).toNat (M 8 a 1).toNat := funext hdk
    refine ⟨fun k _ => by rw [hdk]; exact gpd_nn _ _ _, ?_⟩
    have hSO : SO f' (pol M a b) (M 8 a 1 + M 8 b 1).toNat := ⟨hso, fun v => by rw [cle_pm hpm v]; exact cle_cg (fun j hj => hv j (by omega)) v⟩
    rw [hk f' hSO, tlst_prs _ _ (fun v => gpd_nn _ _ _), p10, p11, edk, hfi, hla, show M 8 a 1 * (M 8 a 1 + M 8 b 1 - M 8 a 1) + 1 - 0 = M 8 a 1 * M 8 b 1 + 1 by rw [show M 8 a 1 + M 8 b 1 - M 8 a 1 = M 8 b 1 by omega]; omega]
theorem ps_3 {M M' : Mm} {a b : Nat} {ds : List Int} (hI : SI M) (ha : a < 8) (hb : b < 8) (hab : M 8 a 1 = M 8 b 1) (h5 : M' 5 0 5 = 3) (hds : ds = nzl (dif M a b) (M 8 a 1).toNat) (hv : ∀ j : Nat, j < ds.length → M' 21 0 j = srk ds j) (hp : posed M' ds.length 0 (ssm ds ds.length) (2 ^ ds.length) 1 0 2 (sm (srk ds) ds.length)) : PSD M M' 3 a b := by
  have ia := (hI a ha).1
  obtain ⟨p6, p7, p8, p9, p10, p11, p12, p13⟩ := hp
  have hlen : ds.length ≤ 20 := by have := nzl_len (dif M a b) (M 8 a 1).toNat; rw [← hds] at this; omega
  have h3 := sm_in (f := srk ds) (n := ds.length) (c := 41) (by decide) (fun j hj => by have := srk_in ds j; omega)
  have h4 := ssm_in ds ds.length
  have h6 : (ds.length : Int) * (2 * ds.length + 1) ≤ 20 * (2 * ds.length + 1) := Int.mul_le_mul_of_nonneg_right (by omega) (by omega)
  refine ⟨h5, ⟨by omega, fun h => by omega, fun _ => by rw [p6]; omega, fun h => by omega, fun _ _ j hj => ?_, fun h => by omega⟩, mOk_of p8 p10 p11 p12 p13 (by omega) (by omega) (by omega) (by omega) (by omega), fun ks tt th ft fl hans => ?_⟩
  · rw [hv j (by omega)]
    have := srk_in ds j
    omega
  · rcases hans with ⟨ht, -⟩ | ⟨ht, -⟩ | ⟨ht, -⟩ | ⟨-, ds', hds', hk, htt, hth, hft, hfl⟩ | ⟨ht, -⟩ | ⟨ht, -⟩
    · omega
    · omega
    · omega
    rotate_left
    · omega
    · omega
    obtain rfl : ds' = ds := hds'.trans hds.symm
    refine ⟨by rw [p8, hth], by rw [p9, htt], by rw [p12, hft], by rw [p13, hfl], fun dk fi la hqd => ?_⟩
    rw [h5, p6, p7] at hqd
    rcases hqd with ⟨h, -⟩ | ⟨h, -⟩ | ⟨-, hfi, hla, hdk⟩ | ⟨h, -⟩
    · omega
    · omega
    rotate_left
    · omega
    rw [show ((ds'.length : Int)).toNat = ds'.length by omega] at hla hdk
    have edk : dk = swc (srk ds') ds'.length := by
      funext v
      rw [hdk]
      exact swc_cg hv _
    rw [sm_cg (g := srk ds') hv] at hla
    refine ⟨fun k _ => by rw [edk]; exact swc_nn _ _ _, ?_⟩
    rw [hk, tlst_prs _ _ (fun v => swc_nn _ _ _), p10, p11, edk, hfi, hla, Int.sub_zero]
theorem ps_4 {M M' : Mm} {a b : Nat} {ds : List Int} (hI : SI M) (ha : a < 8) (hb : b < 8) (hab : M 8 a 1 = M 8 b 1) (h5 : M' 5 0 5 = 4) (hds : ds = nzl (dif M a b) (M 8 a 1).toNat) (hv : ∀ j : Nat, j < ds.length → M' 21 0 j = zab (dg ds j)) (hp : posed M' ds.length 0 (sm (dg ds) ds.length) (2 ^ ds.length) 2 (-(sm (fun j => zab (dg ds j)) ds.length)) 1 0) : PSD M M' 4 a b := by
  have ia := (hI a ha).1
  obtain ⟨p6, p7, p8, p9, p10, p11, p12, p13⟩ := hp
  have hlen : ds.length ≤ 20 := by have := nzl_len (dif M a b) (M 8 a 1).toNat; rw [← hds] at this; omega
  have hdg : ∀ q : Nat, q < ds.length → -1000 ≤ dg ds q ∧ dg ds q ≤ 1000 := fun q hq => by
    have := dg_in hI (a := a) (b := b) ha hb hab (q := q) (by rw [← hds]; exact hq)
    rw [← hds] at this
    exact ⟨this.1, this.2.1⟩
  have h3 := sm_in (f := fun j => zab (dg ds j)) (n := ds.length) (c := 1000) (by decide) (fun j hj => zab_in (hdg j hj))
  have h4 := sm_abs (f := dg ds) (n := ds.length) (c := 1000) (by decide) hdg
  refine ⟨h5, ⟨by omega, fun h => by omega, fun _ => by rw [p6]; omega, fun h => by omega, fun _ _ j hj => ?_, fun h => by omega⟩, mOk_of p8 p10 p11 p12 p13 (by omega) (by omega) (by omega) (by omega) (by omega), fun ks tt th ft fl hans => ?_⟩
  · rw [hv j (by omega)]
    exact zab_in (hdg j (by omega))
  · rcases hans with ⟨ht, -⟩ | ⟨ht, -⟩ | ⟨ht, -⟩ | ⟨ht, -⟩ | ⟨-, ds', hds', hk, htt, hth, hft, hfl⟩ | ⟨ht, -⟩
    · omega
    · omega
    · omega
    · omega
    rotate_left
    · omega
    obtain rfl : ds' = ds := hds'.trans hds.symm
    refine ⟨by rw [p8, hth], by rw [p9, htt], by rw [p12, hft], by rw [p13, hfl], fun dk fi la hqd => ?_⟩
    rw [h5, p6, p7] at hqd
    rcases hqd with ⟨h, -⟩ | ⟨h, -⟩ | ⟨-, hfi, hla, hdk⟩ | ⟨h, -⟩
    · omega
    · omega
    rotate_left
    · omega
    rw [show ((ds'.length : Int)).toNat = ds'.length by omega] at hla hdk
    have edk : dk = swc (fun j => zab (dg ds' j)) ds'.length := by
      funext v
      rw [hdk]
      exact swc_cg hv _
    rw [sm_cg (g := fun j => zab (dg ds' j)) hv] at hla
    refine ⟨fun k _ => by rw [edk]; exact swc_nn _ _ _, ?_⟩
    rw [hk, tlst_prs _ _ (fun v => swc_nn _ _ _), p10, p11, edk, hfi, hla, Int.sub_zero]
theorem ps_5 {M M' : Mm} {a b : Nat} (hI : SI M) (ha : a < 8) (hb : b < 8) (hab : M 8 a 1 = M 8 b 1) (za : 0 < M 8 a 1) (h5 : M' 5 0 5 = 5) (hp : posed M' (M 8 a 1) 0 (osm M a b (M 8 a 1).toNat) (fac (M 8 a 1).toNat) 2 (-(trn (M 8 a 1))) 1 0) : PSD M M' 5 a b := by
  have ia := (hI a ha).1
  obtain ⟨p6, p7, p8, p9, p10, p11, p12, p13⟩ := hp
  have t20 : trn ((20 : Nat) : Int) = 190 := by decide
  have htn := trn_nn (M 8 a 1).toNat
  have htl := trn_le (a := (M 8 a 1).toNat) (b := 20) (by omega)
  rw [show (((M 8 a 1).toNat : Nat) : Int) = M 8 a 1 by omega] at htn htl
  have h4 := osm_in M a b (M 8 a 1).toNat (by omega)
  refine ⟨h5, ⟨by omega, fun h => by omega, fun _ => by rw [p6]; omega, fun _ => by rw [p6]; omega, fun _ h => by omega, fun h => by omega⟩, mOk_of p8 p10 p11 p12 p13 (by omega) (by omega) (by omega) (by omega) (by omega), fun ks tt th ft fl hans => ?_⟩
  rcases hans with ⟨ht, -⟩ | ⟨ht, -⟩ | ⟨ht, -⟩ | ⟨ht, -⟩ | ⟨ht, -⟩ | ⟨-, hk, htt, hth, hft, hfl⟩
  · omega
  · omega
  · omega
  · omega
  · omega
  refine ⟨by rw [p8, hth], by rw [p9, htt], by rw [p12, hft], by rw [p13, hfl], fun dk fi la hqd => ?_⟩
  rw [h5, p6, p7] at hqd
  rcases hqd with ⟨h, -⟩ | ⟨h, -⟩ | ⟨h, -⟩ | ⟨-, hfi, hla, hdk⟩
  · omega
  · omega
  · omega
  have edk : dk = mh (M 8 a 1).toNat := funext hdk
  have eD : ordD (M 8 a 1) = dk := by
    rw [edk]
    funext v
    unfold ordD
    have := mh_sym (M 8 a 1).toNat v
    rw [show (((M 8 a 1).toNat : Nat) : Int) = M 8 a 1 by omega] at this
    exact this
  refine ⟨fun k _ => by rw [edk]; exact mh_nn _ _, ?_⟩
  rw [hk, eD, tlst_prs _ _ (fun v => by rw [edk]; exact mh_nn _ _), p10, p11, hfi, hla, Int.sub_zero]
/-- what a question leaves as it was in the class -/
def keepQ (M M' : Mm) : Prop := ∀ g' : Nat, ¬ g' = 3 → ¬ g' = 4 → ¬ g' = 5 → ¬ g' = 18 → ¬ g' = 19 → ¬ g' = 20 → ¬ g' = 21 → M' g' = M g'
theorem pose_ok {M : Mm} (hI : SI M) (hC : CI M) {t a b : Int} (hcan : can M t a b) {P : Option AV → Mm → Prop} (hP : ∀ M' : Mm, keepQ M M' → PSD M M' t a.toNat b.toNat → P none M') : T_X5_pose [zr 5 0, zi t, zr 8 a.toNat, zr 8 b.toNat] M P := by
  obtain ⟨ht, htwo, heq, htw⟩ := id hcan
  obtain ⟨wa, wb, wc, wd, we⟩ := id htwo
  have o : ∀ g' : Nat, ¬ g' = 5 → stm M 5 0 5 t g' = M g' := fun g' h => stm_ne _ _ _ _ _ h
  have hI0 : SI (stm M 5 0 5 t) := SI_cg (o 8 (by decide)) (o 27 (by decide)) hI
  have hC0 : CI (stm M 5 0 5 t) := CI_cg (o 12 (by decide)) hC
  have c8 := o 8 (by decide)
  have hans : ANS (stm M 5 0 5 t) = ANS M := ANS_cg c8 (o 20 (by decide)) (o 27 (by decide))
  have hP0 : ∀ M' : Mm, keepQ (stm M 5 0 5 t) M' → PSD (stm M 5 0 5 t) M' t a.toNat b.toNat → P none M' := by
    intro M' h1 h2
    unfold PSD at h2
    rw [hans] at h2
    exact hP M' (fun g' a1 a2 a3 a4 a5 a6 a7 => (h1 g' a1 a2 a3 a4 a5 a6 a7).trans (o g' a3)) h2
  have e5 : stm M 5 0 5 t 5 0 5 = t := rfl
  have za : 0 < (stm M 5 0 5 t) 8 a.toNat 1 := by rw [c8]; exact wd
  have zb : 0 < (stm M 5 0 5 t) 8 b.toNat 1 := by rw [c8]; exact we
  have heq0 : 3 ≤ t → (stm M 5 0 5 t) 8 a.toNat 1 = (stm M 5 0 5 t) 8 b.toNat 1 := by rw [c8]; exact heq
  generalize hM0 : stm M 5 0 5 t = M0 at *
  show (5 = 5 ∧ 0 = 0 ∧ (0 ≤ t ∧ t ≤ 5) ∧ (t = 0 → T_X5_poseSums [zr 5 0, zr 8 a.toNat, zr 8 b.toNat] (stm M 5 0 5 t) P) ∧ (t = 1 → T_X5_poseRanks [zr 5 0, zr 8 a.toNat, zr 8 b.toNat] (stm M 5 0 5 t) P) ∧ (t = 2 → T_X5_poseMost [zr 5 0, zr 8 a.toNat, zr 8 b.toNat] (stm M 5 0 5 t) P) ∧ (t = 3 → T_X5_poseSigns [zr 5 0, zr 8 a.toNat, zr 8 b.toNat] (stm M 5 0 5 t) P) ∧ (t = 4 → T_X5_poseTurns [zr 5 0, zr 8 a.toNat, zr 8 b.toNat] (stm M 5 0 5 t) P) ∧ (t = 5 → T_X5_poseOrder [zr 5 0, zr 8 a.toNat, zr 8 b.toNat] (stm M 5 0 5 t) P))
  rw [hM0]
  refine ⟨rfl, rfl, ht, fun e => ?_, fun e => ?_, fun e => ?_, fun e => ?_, fun e => ?_, fun e => ?_⟩
  · subst e
    exact ⟨rfl, rfl, rfl, rfl, by omega, by omega, hI0, hC0, fun M' k1 k2 k3 => hP0 M' (fun g' a1 a2 a3 a4 a5 a6 a7 => k1.1 g' a2 a3 a6 a7) (ps_0 hI0 (by omega) (by omega) za zb (k1.2.trans e5) k2 k3)⟩
  · subst e
    exact ⟨rfl, rfl, rfl, rfl, by omega, by omega, hI0, hC0, fun M' f k0 k1 k2 k3 => hP0 M' (fun g' a1 a2 a3 a4 a5 a6 a7 => k1.1 g' a2 a3 a6 a7) (ps_1 hI0 (by omega) (by omega) za zb (k1.2.trans e5) k0 k2 k3)⟩
  · subst e
    exact ⟨rfl, rfl, rfl, rfl, by omega, by omega, hI0, hC0, fun M' k1 k2 k3 => hP0 M' (fun g' a1 a2 a3 a4 a5 a6 a7 => k1.1 g' a2 a3 a6 a7) (ps_2 hI0 (by omega) (by omega) za zb (k1.2.trans e5) k2 k3)⟩
  · subst e
    exact ⟨rfl, rfl, rfl, rfl, by omega, by omega, hI0, heq0 (by omega), fun M' ds k0 k1 k2 k3 => hP0 M' (fun g' a1 a2 a3 a4 a5 a6 a7 => k1.1 g' a1 a3 a4 a5 a7) (ps_3 hI0 (by omega) (by omega) (heq0 (by omega)) (k1.2.trans e5) k0 k2 k3)⟩
  · subst e
    exact ⟨rfl, rfl, rfl, rfl, by omega, by omega, hI0, heq0 (by omega), fun M' ds k0 k1 k2 k3 => hP0 M' (fun g' a1 a2 a3 a4 a5 a6 a7 => k1.1 g' a1 a3 a4 a5 a7) (ps_4 hI0 (by omega) (by omega) (heq0 (by omega)) (k1.2.trans e5) k0 k2 k3)⟩
  · subst e
    exact ⟨rfl, rfl, rfl, rfl, by omega, by omega, hI0, heq0 (by omega), by omega, fun M' k1 k2 k3 => hP0 M' (fun g' a1 a2 a3 a4 a5 a6 a7 => k1 g' a3) (ps_5 hI0 (by omega) (by omega) (heq0 (by omega)) za (k2.trans e5) k3)⟩
