/-! switches, a shift, what is left -/
def tswP (z : Int) (lo : Lo) (r : List AV) (M : Mm) : Int → List Kt → Prop
  | _, [] => True
  | low, k :: ks => (z = low → k lo r M) ∧ tswP z lo r M (low + 1) ks
def c_tsw (low : Int) (ks : List Kt) (kd : Kt) : Kt := fun lo st M => match st with
  | .inl (.inl z) :: r => iR z ∧ tswP z lo r M low ks ∧ ((z < low ∨ low + ks.length ≤ z) → kd lo r M)
  | _ => False
def okL (x : Xc) : List Nat → List Kt → Prop
  | [], [] => True
  | t :: ts, k :: ks => Ok x t k ∧ okL x ts ks
  | _, _ => False
theorem okL_len {x : Xc} : ∀ {ts : List Nat} {ks : List Kt}, okL x ts ks → ts.length = ks.length
  | [], [], _ => rfl
  | _ :: _, _ :: _, h => by simp [okL_len h.2]
  | [], _ :: _, h => h.elim
  | _ :: _, [], h => h.elim
theorem okL_at {x : Xc} {z : Int} {lo : Lo} {r : List AV} {M : Mm} : ∀ {ts : List Nat} {ks : List Kt} {low : Int}, okL x ts ks → tswP z lo r M low ks → low ≤ z → z < low + ks.length → ∃ t : Nat, ts[(z - low).toNat]? = some t ∧ J x t lo r M
  | [], [], low, _, _, h1, h2 => by simp at h2; omega
  | t :: ts, k :: ks, low, h, q, h1, h2 => by
    by_cases e : z = low
    · refine ⟨t, ?_, h.1 lo r M (q.1 e)⟩
      rw [e, Int.sub_self]
      rfl
    · have hl : ((k :: ks).length : Int) = ks.length + 1 := by simp
      obtain ⟨t', h3, h4⟩ := okL_at (low := low + 1) h.2 q.2 (by omega) (by omega)
      refine ⟨t', ?_, h4⟩
      rw [show (z - low).toNat = (z - (low + 1)).toNat + 1 by omega]
      exact h3
  | [], _ :: _, _, h, _, _, _ => h.elim
  | _ :: _, [], _, h, _, _, _ => h.elim
theorem r_tsw {x : Xc} {l0 : Launch} {b : ByteArray} {own : String} {nl dd pc : Nat} {ks : List Kt} {kd : Kt} {dflt low high : Int} {offs : Array Int} {len : Nat} {ts : List Nat} {td : Nat} (C : Cx x l0 b own nl dd) (hd : decode b pc = .ok (.tableswitch dflt low high offs, len)) (ho : offs.toList = ts.map (fun t : Nat => (t : Int) - (pc : Int))) (hh : high = low + ts.length - 1) (htd : (pc : Int) + dflt = (td : Int)) (h1 : okL x ts ks) (h2 : Ok x td kd) : Ok x pc (c_tsw low ks kd) := by
  intro lo st M hk
  have hlen := okL_len h1
  match st, hk with
  | .inl (.inl z) :: r, ⟨hz, hq, hdf⟩ =>
  by_cases hin : low ≤ z ∧ z < low + ks.length
  · obtain ⟨t, ht, hJ⟩ := okL_at h1 hq hin.1 hin.2
    obtain ⟨p, l, e, R, s, m, args, below, meth, c, ⟨cells, slots⟩, Q, D, ad, cA, A, nL⟩ := x
    obtain ⟨hx, hb, hml, hown, hts, hK, hD, hA, hc1, hc2, hlk, hnl, hll, hrm, hN⟩ := C
    intro H locs ls hP hS hl
    refine lv_tableIn (off := (t : Int) - pc) hx hb hd (by rw [iR_to hz]; omega) (by rw [iR_to hz]; omega) ?_ (by omega) (hJ H locs ls hP hS hl)
    rw [iR_to hz, ← Array.getElem?_toList, ho, List.getElem?_map, ht]
    rfl
  · have hJ := h2 lo r M (hdf (by omega))
    obtain ⟨p, l, e, R, s, m, args, below, meth, c, ⟨cells, slots⟩, Q, D, ad, cA, A, nL⟩ := x
    obtain ⟨hx, hb, hml, hown, hts, hK, hD, hA, hc1, hc2, hlk, hnl, hll, hrm, hN⟩ := C
    intro H locs ls hP hS hl
    exact lv_tableOut hx hb hd (by rw [iR_to hz]; omega) htd (hJ H locs ls hP hS hl)
/-- a lookupswitch of the two keys 0 and 1 -/
def c_lsw (k0 k1 kd : Kt) : Kt := fun lo st M => match st with
  | .inl (.inl z) :: r => iR z ∧ (z = 0 → k0 lo r M) ∧ (z = 1 → k1 lo r M) ∧ (¬ z = 0 → ¬ z = 1 → kd lo r M)
  | _ => False
theorem r_lsw {x : Xc} {l0 : Launch} {b : ByteArray} {own : String} {nl dd pc : Nat} {k0 k1 kd : Kt} {dflt o0 o1 : Int} {ps : Array (Int × Int)} {len : Nat} {t0 t1 td : Nat} (C : Cx x l0 b own nl dd) (hd : decode b pc = .ok (.lookupswitch dflt ps, len)) (hps : ps.toList = [(0, o0), (1, o1)]) (h0 : (pc : Int) + o0 = (t0 : Int)) (h1 : (pc : Int) + o1 = (t1 : Int)) (htd : (pc : Int) + dflt = (td : Int)) (g0 : Ok x t0 k0) (g1 : Ok x t1 k1) (gd : Ok x td kd) : Ok x pc (c_lsw k0 k1 kd) := by
  intro lo st M hk
  match st, hk with
  | .inl (.inl z) :: r, ⟨hz, q0, q1, qd⟩ =>
  have hord : (ps.toList.zip (ps.toList.drop 1)).all (fun (a, next) => a.1 < next.1) = true := by rw [hps]; rfl
  by_cases e0 : z = 0
  · have hJ := g0 lo r M (q0 e0)
    obtain ⟨p, l, e, R, s, m, args, below, meth, c, ⟨cells, slots⟩, Q, D, ad, cA, A, nL⟩ := x
    obtain ⟨hx, hb, hml, hown, hts, hK, hD, hA, hc1, hc2, hlk, hnl, hll, hrm, hN⟩ := C
    intro H locs ls hP hS hl
    exact lv_lookup (off := o0) hx hb hd hord (by rw [iR_to hz, e0, hps]; simp [Op.lookupswitch.offset]) h0 (hJ H locs ls hP hS hl)
  · by_cases e1 : z = 1
    · have hJ := g1 lo r M (q1 e1)
      obtain ⟨p, l, e, R, s, m, args, below, meth, c, ⟨cells, slots⟩, Q, D, ad, cA, A, nL⟩ := x
      obtain ⟨hx, hb, hml, hown, hts, hK, hD, hA, hc1, hc2, hlk, hnl, hll, hrm, hN⟩ := C
      intro H locs ls hP hS hl
      exact lv_lookup (off := o1) hx hb hd hord (by rw [iR_to hz, e1, hps]; simp [Op.lookupswitch.offset]) h1 (hJ H locs ls hP hS hl)
    · have hJ := gd lo r M (qd e0 e1)
      obtain ⟨p, l, e, R, s, m, args, below, meth, c, ⟨cells, slots⟩, Q, D, ad, cA, A, nL⟩ := x
      obtain ⟨hx, hb, hml, hown, hts, hK, hD, hA, hc1, hc2, hlk, hnl, hll, hrm, hN⟩ := C
      intro H locs ls hP hS hl
      exact lv_lookup (off := dflt) hx hb hd hord (by rw [iR_to hz, hps]; simp [Op.lookupswitch.offset, Ne.symm e0, Ne.symm e1]) htd (hJ H locs ls hP hS hl)
theorem shl_pow (a : Int) : ∀ k : Nat, k < 64 → Int64.ofInt a <<< ((Int32.ofInt k).toInt64 &&& 63) = Int64.ofInt (a * 2 ^ k) := by
  intro k hk
  have e1 : ((Int32.ofInt k).toInt64 &&& 63) = Int64.ofNat k := by
    have : ∀ k : Fin 64, ((Int32.ofInt ((k : Nat) : Int)).toInt64 &&& 63) = Int64.ofNat (k : Nat) := by decide +kernel
    exact this ⟨k, hk⟩
  rw [e1]
  refine Int64.toBitVec_inj.mp ?_
  rw [Int64.toBitVec_shiftLeft]
  have e2 : (Int64.ofNat k).toBitVec.smod 64 = BitVec.ofNat 64 k := by
    have : ∀ k : Fin 64, (Int64.ofNat (k : Nat)).toBitVec.smod 64 = BitVec.ofNat 64 (k : Nat) := by decide +kernel
    exact this ⟨k, hk⟩
  rw [e2]
  have e3 : (Int64.ofInt a).toBitVec = BitVec.ofInt 64 a := rfl
  have e4 : (Int64.ofInt (a * 2 ^ k)).toBitVec = BitVec.ofInt 64 (a * 2 ^ k) := rfl
  rw [e3, e4, BitVec.shiftLeft_eq', BitVec.toNat_ofNat, Nat.mod_eq_of_lt (by omega), BitVec.shiftLeft_eq_mul_twoPow, BitVec.ofInt_mul]
  congr 1
  apply BitVec.eq_of_toNat_eq
  rw [BitVec.toNat_twoPow, BitVec.toNat_ofInt]
  have : (2 : Int) ^ k = ((2 ^ k : Nat) : Int) := by simp
  rw [this]
  omega
/-- a shift to the left by 0 .. 63 -/
def c_lshl (kt : Kt) : Kt := fun lo st M => match st with
  | .inl (.inl y) :: .inl (.inr z) :: r => (0 ≤ y ∧ y < 64) ∧ kt lo (zl (z * 2 ^ y.toNat) :: r) M
  | _ => False
theorem r_lshl {x : Xc} {l0 : Launch} {b : ByteArray} {own : String} {nl dd pc : Nat} {kt : Kt} (C : Cx x l0 b own nl dd) (hd : decode b pc = .ok (.lshl, 1)) (h : Ok x (pc + 1) kt) : Ok x pc (c_lshl kt) := by
  intro lo st M hk
  obtain ⟨p, l, e, R, s, m, args, below, meth, c, ⟨cells, slots⟩, Q, D, ad, cA, A, nL⟩ := x
  obtain ⟨hx, hb, hml, hown, hts, hK, hD, hA, hc1, hc2, hlk, hnl, hll, hrm, hN⟩ := C
  match st, hk with
  | .inl (.inl y) :: .inl (.inr z) :: r, ⟨hy, hk⟩ =>
    intro H locs ls hP hS hl
    refine lv_lshl (v := Int64.ofInt (z * 2 ^ y.toNat)) hx hb hd ?_ (h lo _ M hk H locs ls hP hS hl)
    have := shl_pow z y.toNat (by omega)
    rwa [Int.toNat_of_nonneg hy.1] at this
/-! tables of instructions -/
def decs (b : ByteArray) (l : List (Nat × Instr × Nat)) : Prop := ∀ q ∈ l, decode b q.1 = .ok q.2
theorem decs_at {b : ByteArray} {l : List (Nat × Instr × Nat)} (h : decs b l) (k : Nat) {pc n : Nat} {i : Instr} (hk : l[k]? = some (pc, i, n)) : decode b pc = .ok (i, n) := h (pc, i, n) (List.mem_of_getElem? hk)
theorem lays_of {ws : List Cond} (is : List Nat) (h : is.filterMap (fun i => tables_1[i]?) = ws) (hg : ws.all goodWord = true) : ∀ w ∈ ws, w ∈ gT := by
  intro w hw
  have h2 := List.all_eq_true.mp hg w hw
  rw [← h] at hw
  obtain ⟨i, -, hi⟩ := List.mem_filterMap.mp hw
  exact gT_of i hi h2
/-! the calls of Math, as the kit's rows have them -/
theorem wm_init : Cond.initialized "java/lang/Math" ∈ gT := gT_of 17 (by decide +kernel) rfl
theorem wm_mmax_s : Cond.static Lib.Math.max.name ∈ gT := gT_of 441 (by decide +kernel) rfl
theorem wm_mmax_c : Cond.code Lib.Math.max.name Lib.Math.max.code 2 (some .int) ∈ gT := gT_of 442 (by decide +kernel) rfl
def c_mmax (kt : Kt) : Kt := fun lo st M => match st with
  | .inl (.inl y) :: .inl (.inl z) :: r => (iR z ∧ iR y) ∧ r.length ≤ 40 ∧ kt lo (zi (max z y) :: r) M
  | _ => False
theorem r_mmax {x : Xc} {l0 : Launch} {b : ByteArray} {own : String} {nl dd pc : Nat} {kt : Kt} {i : Nat} (C : Cx x l0 b own nl dd) (hd : decode b pc = .ok (.invokestatic i, 3)) (hlw : Cond.methodLink own i Lib.Math.max.name ∈ gT) (hdd : 1 ≤ dd) (h : Ok x (pc + 3) kt) : Ok x pc (c_mmax kt) := by
  intro lo st M hk
  obtain ⟨p, l, e, R, s, m, args, below, meth, c, ⟨cells, slots⟩, Q, D, ad, cA, A, nL⟩ := x
  obtain ⟨hx, hb, hml, hown, hts, hK, hD, hA, hc1, hc2, hlk, hnl, hll, hrm, hN⟩ := C
  match st, hk with
  | .inl (.inl y) :: .inl (.inl z) :: r, ⟨⟨hz, hy⟩, h4, hk⟩ =>
    intro H locs ls hP hS hl
    have q := h lo _ M hk H locs ls hP hS hl
    have hcat := cat_le ad r
    refine va_mmax hx hb (hml.trans hl.1.symm) hown (hts _ hlw) (hts _ wm_mmax_s) (hts _ wm_init) (hts _ wm_mmax_c) (by omega) (by omega) hc1 hc2 hd ?_
    have e1 : (if Int32.ofInt z < Int32.ofInt y then Int32.ofInt y else Int32.ofInt z) = Int32.ofInt (max z y) := by
      by_cases c : z < y
      · rw [if_pos ((iR_lt hz hy).mpr c), show max z y = y by omega]
      · rw [if_neg (fun q => c ((iR_lt hz hy).mp q)), show max z y = z by omega]
    rw [e1]
    exact q
theorem wm_mmin_s : Cond.static Lib.Math.min.name ∈ gT := gT_of 392 (by decide +kernel) rfl
theorem wm_mmin_c : Cond.code Lib.Math.min.name Lib.Math.min.code 2 (some .int) ∈ gT := gT_of 393 (by decide +kernel) rfl
def c_mmin (kt : Kt) : Kt := fun lo st M => match st with
  | .inl (.inl y) :: .inl (.inl z) :: r => (iR z ∧ iR y) ∧ r.length ≤ 40 ∧ kt lo (zi (min z y) :: r) M
  | _ => False
theorem r_mmin {x : Xc} {l0 : Launch} {b : ByteArray} {own : String} {nl dd pc : Nat} {kt : Kt} {i : Nat} (C : Cx x l0 b own nl dd) (hd : decode b pc = .ok (.invokestatic i, 3)) (hlw : Cond.methodLink own i Lib.Math.min.name ∈ gT) (hdd : 1 ≤ dd) (h : Ok x (pc + 3) kt) : Ok x pc (c_mmin kt) := by
  intro lo st M hk
  obtain ⟨p, l, e, R, s, m, args, below, meth, c, ⟨cells, slots⟩, Q, D, ad, cA, A, nL⟩ := x
  obtain ⟨hx, hb, hml, hown, hts, hK, hD, hA, hc1, hc2, hlk, hnl, hll, hrm, hN⟩ := C
  match st, hk with
  | .inl (.inl y) :: .inl (.inl z) :: r, ⟨⟨hz, hy⟩, h4, hk⟩ =>
    intro H locs ls hP hS hl
    have q := h lo _ M hk H locs ls hP hS hl
    have hcat := cat_le ad r
    refine va_mmin hx hb (hml.trans hl.1.symm) hown (hts _ hlw) (hts _ wm_mmin_s) (hts _ wm_init) (hts _ wm_mmin_c) (by omega) (by omega) hc1 hc2 hd ?_
    have e1 : (if Int32.ofInt y < Int32.ofInt z then Int32.ofInt y else Int32.ofInt z) = Int32.ofInt (min z y) := by
      by_cases c : y < z
      · rw [if_pos ((iR_lt hy hz).mpr c), show min z y = y by omega]
      · rw [if_neg (fun q => c ((iR_lt hy hz).mp q)), show min z y = z by omega]
    rw [e1]
    exact q
theorem wm_mabs_s : Cond.static Lib.Math.abs.name ∈ gT := gT_of 395 (by decide +kernel) rfl
theorem wm_mabs_c : Cond.code Lib.Math.abs.name Lib.Math.abs.code 1 (some .int) ∈ gT := gT_of 396 (by decide +kernel) rfl
def c_mabs (kt : Kt) : Kt := fun lo st M => match st with
  | .inl (.inl z) :: r => (-2147483648 < z ∧ z < 2147483648) ∧ r.length ≤ 40 ∧ kt lo (zi (if z < 0 then -z else z) :: r) M
  | _ => False
theorem r_mabs {x : Xc} {l0 : Launch} {b : ByteArray} {own : String} {nl dd pc : Nat} {kt : Kt} {i : Nat} (C : Cx x l0 b own nl dd) (hd : decode b pc = .ok (.invokestatic i, 3)) (hlw : Cond.methodLink own i Lib.Math.abs.name ∈ gT) (hdd : 1 ≤ dd) (h : Ok x (pc + 3) kt) : Ok x pc (c_mabs kt) := by
  intro lo st M hk
  obtain ⟨p, l, e, R, s, m, args, below, meth, c, ⟨cells, slots⟩, Q, D, ad, cA, A, nL⟩ := x
  obtain ⟨hx, hb, hml, hown, hts, hK, hD, hA, hc1, hc2, hlk, hnl, hll, hrm, hN⟩ := C
  match st, hk with
  | .inl (.inl z) :: r, ⟨hz, h4, hk⟩ =>
    intro H locs ls hP hS hl
    have q := h lo _ M hk H locs ls hP hS hl
    have hcat := cat_le ad r
    refine va_mabs hx hb (hml.trans hl.1.symm) hown (hts _ hlw) (hts _ wm_mabs_s) (hts _ wm_init) (hts _ wm_mabs_c) (by omega) (by omega) hc1 hc2 hd ?_
    have e1 : (if 0 ≤ Int32.ofInt z then Int32.ofInt z else 0 - Int32.ofInt z) = Int32.ofInt (if z < 0 then -z else z) := by
      have hz' : iR z := ⟨by omega, by omega⟩
      have l0 : (0 : Int32) ≤ Int32.ofInt z ↔ 0 ≤ z := iR_le iR0 hz'
      by_cases c : z < 0
      · rw [if_neg (fun q => by have := l0.mp q; omega), if_pos c, Int32.ofInt_neg, Int32.zero_sub]
      · rw [if_pos (l0.mpr (by omega)), if_neg c]
    rw [e1]
    exact q
theorem wm_mmaxl_s : Cond.static Lib.MathLoose.max_long.x ∈ gT := gT_of 584 (by decide +kernel) rfl
theorem wm_mmaxl_c : Cond.code Lib.MathLoose.max_long.x Lib.MathLoose.max_long.code 4 (some .long) ∈ gT := gT_of 585 (by decide +kernel) rfl
def c_mmaxl (kt : Kt) : Kt := fun lo st M => match st with
  | .inl (.inr y) :: .inl (.inr z) :: r => (lR z ∧ lR y) ∧ r.length ≤ 40 ∧ kt lo (zl (max z y) :: r) M
  | _ => False
theorem r_mmaxl {x : Xc} {l0 : Launch} {b : ByteArray} {own : String} {nl dd pc : Nat} {kt : Kt} {i : Nat} (C : Cx x l0 b own nl dd) (hd : decode b pc = .ok (.invokestatic i, 3)) (hlw : Cond.methodLink own i Lib.MathLoose.max_long.x ∈ gT) (hdd : 1 ≤ dd) (h : Ok x (pc + 3) kt) : Ok x pc (c_mmaxl kt) := by
  intro lo st M hk
  obtain ⟨p, l, e, R, s, m, args, below, meth, c, ⟨cells, slots⟩, Q, D, ad, cA, A, nL⟩ := x
  obtain ⟨hx, hb, hml, hown, hts, hK, hD, hA, hc1, hc2, hlk, hnl, hll, hrm, hN⟩ := C
  match st, hk with
  | .inl (.inr y) :: .inl (.inr z) :: r, ⟨⟨hz, hy⟩, h4, hk⟩ =>
    intro H locs ls hP hS hl
    have q := h lo _ M hk H locs ls hP hS hl
    have hcat := cat_le ad r
    refine va_mmax_long hx hb (hml.trans hl.1.symm) hown (hts _ hlw) (hts _ wm_mmaxl_s) (hts _ wm_init) (hts _ wm_mmaxl_c) (by omega) (by omega) hc1 hc2 hd ?_
    have e1 : (if Int64.ofInt y < Int64.ofInt z then Int64.ofInt z else Int64.ofInt y) = Int64.ofInt (max z y) := by
      by_cases c : y < z
      · rw [if_pos ((lR_lt hy hz).mpr c), show max z y = z by omega]
      · rw [if_neg (fun q => c ((lR_lt hy hz).mp q)), show max z y = y by omega]
    rw [e1]
    exact q
theorem wm_mabsl_s : Cond.static Lib.MathLoose.abs_long.x ∈ gT := gT_of 646 (by decide +kernel) rfl
theorem wm_mabsl_c : Cond.code Lib.MathLoose.abs_long.x Lib.MathLoose.abs_long.code 2 (some .long) ∈ gT := gT_of 647 (by decide +kernel) rfl
def c_mabsl (kt : Kt) : Kt := fun lo st M => match st with
  | .inl (.inr z) :: r => (-9223372036854775808 < z ∧ z < 9223372036854775808) ∧ r.length ≤ 40 ∧ kt lo (zl (if z < 0 then -z else z) :: r) M
  | _ => False
theorem r_mabsl {x : Xc} {l0 : Launch} {b : ByteArray} {own : String} {nl dd pc : Nat} {kt : Kt} {i : Nat} (C : Cx x l0 b own nl dd) (hd : decode b pc = .ok (.invokestatic i, 3)) (hlw : Cond.methodLink own i Lib.MathLoose.abs_long.x ∈ gT) (hdd : 1 ≤ dd) (h : Ok x (pc + 3) kt) : Ok x pc (c_mabsl kt) := by
  intro lo st M hk
  obtain ⟨p, l, e, R, s, m, args, below, meth, c, ⟨cells, slots⟩, Q, D, ad, cA, A, nL⟩ := x
  obtain ⟨hx, hb, hml, hown, hts, hK, hD, hA, hc1, hc2, hlk, hnl, hll, hrm, hN⟩ := C
  match st, hk with
  | .inl (.inr z) :: r, ⟨hz, h4, hk⟩ =>
    intro H locs ls hP hS hl
    have q := h lo _ M hk H locs ls hP hS hl
    have hcat := cat_le ad r
    refine va_mabs_long hx hb (hml.trans hl.1.symm) hown (hts _ hlw) (hts _ wm_mabsl_s) (hts _ wm_init) (hts _ wm_mabsl_c) (by omega) (by omega) hc1 hc2 hd ?_
    have e1 : (if 0 < Int64.ofInt z then Int64.ofInt z else -Int64.ofInt z) = Int64.ofInt (if z < 0 then -z else z) := by
      have hz' : lR z := ⟨by omega, by omega⟩
      have l0 : (0 : Int64) < Int64.ofInt z ↔ 0 < z := lR_lt lR0 hz'
      by_cases c : 0 < z
      · rw [if_pos (l0.mpr c), if_neg (by omega)]
      · rw [if_neg (fun q => c (l0.mp q)), ← Int64.ofInt_neg]
        by_cases d : z < 0
        · rw [if_pos d]
        · rw [if_neg d, show z = 0 by omega]
          rfl
    rw [e1]
    exact q
