/-! the law: its context, the script, its end -/
/-- the law's context: the script's numbers, the room that is left (cap cells of exceptions), what the end wants -/
def LX (x : Xc) (L : Nat) (sv : Nat → Int) (cap : Nat) : Prop := match x with
  | (_, _, _, R, s, _, args, below, meth, _, (cells, slots), Q, _, ad, _, A, _) => (∃ xs : Nat → Int32, (∀ j, sv j = (xs j).toInt) ∧ va_X (ad 56 0) L xs s s.heap) ∧ ad 56 0 < s.heap.size ∧ A = (fun q => s.heap.size ≤ q) ∧ L ≤ 2560 ∧ R = room_1 ∧ args = #[Value.ref (ad 56 0)] ∧ Q = lw_Z below args s ∧ meth.sig.returnType = ret ∧ (cells + cap ≤ 601024 ∧ slots + 6 * cap ≤ 7293034) ∧ Sx A s
theorem LX.up {x : Xc} {L cap k : Nat} {sv : Nat → Int} (h : LX x L sv (cap + k)) : LX (xk x k) L sv cap := by
  obtain ⟨p, l, e, R, s, m, args, below, meth, c, ⟨cells, slots⟩, Q, D, ad, cA, A, nL⟩ := x
  obtain ⟨h1, h2, h3, h4, h5, h6, h7, h8, ⟨h9, h10⟩, h11⟩ := h
  exact ⟨h1, h2, h3, h4, h5, h6, h7, h8, ⟨by omega, by omega⟩, h11⟩
theorem LX.le {x : Xc} {L cap cap' : Nat} {sv : Nat → Int} (h : LX x L sv cap) (hc : cap' ≤ cap) : LX x L sv cap' := by
  obtain ⟨p, l, e, R, s, m, args, below, meth, c, ⟨cells, slots⟩, Q, D, ad, cA, A, nL⟩ := x
  obtain ⟨h1, h2, h3, h4, h5, h6, h7, h8, ⟨h9, h10⟩, h11⟩ := h
  exact ⟨h1, h2, h3, h4, h5, h6, h7, h8, ⟨by omega, by omega⟩, h11⟩
theorem LX.sx {x : Xc} {L cap : Nat} {sv : Nat → Int} (h : LX x L sv cap) : SxO x := by
  obtain ⟨p, l, e, R, s, m, args, below, meth, c, ⟨cells, slots⟩, Q, D, ad, cA, A, nL⟩ := x
  exact h.2.2.2.2.2.2.2.2.2
theorem LX.rk {x : Xc} {L cap : Nat} {sv : Nat → Int} (h : LX x L sv cap) {k : Nat} (hk : k ≤ cap) : Rk x k := by
  obtain ⟨p, l, e, R, s, m, args, below, meth, c, ⟨cells, slots⟩, Q, D, ad, cA, A, nL⟩ := x
  obtain ⟨h1, h2, h3, h4, rfl, h6, h7, h8, ⟨h9, h10⟩, h11⟩ := h
  exact ⟨by show _ ≤ 601024; omega, by show _ ≤ 7293034; omega⟩
theorem LX.sR {x : Xc} {L cap : Nat} {sv : Nat → Int} (h : LX x L sv cap) (j : Nat) : iR (sv j) := by
  obtain ⟨p, l, e, R, s, m, args, below, meth, c, ⟨cells, slots⟩, Q, D, ad, cA, A, nL⟩ := x
  obtain ⟨⟨xs, hx, -⟩, -⟩ := h
  rw [hx j]
  exact ⟨Int32.le_toInt _, Int32.toInt_lt _⟩
theorem LX.le2 {x : Xc} {L cap : Nat} {sv : Nat → Int} (h : LX x L sv cap) : L ≤ 2560 := by
  obtain ⟨p, l, e, R, s, m, args, below, meth, c, ⟨cells, slots⟩, Q, D, ad, cA, A, nL⟩ := x
  exact h.2.2.2.1
def c_sld (L : Nat) (sv : Nat → Int) (kt : Kt) : Kt := fun lo st M => match st with
  | .inl (.inl i) :: .inr (some (g, s)) :: r => g = 56 ∧ s = 0 ∧ (0 ≤ i ∧ i < L) ∧ kt lo (zi (sv i.toNat) :: r) M
  | _ => False
def c_slen (L : Nat) (kt : Kt) : Kt := fun lo st M => match st with
  | .inr (some (g, s)) :: r => g = 56 ∧ s = 0 ∧ kt lo (zi L :: r) M
  | _ => False
theorem r_sld {x : Xc} {l0 : Launch} {b : ByteArray} {own : String} {nl dd : Nat} {pc : Nat} {kt : Kt} {L cap : Nat} {sv : Nat → Int} (C : Cx x l0 b own nl dd) (Lx : LX x L sv cap) (hd : decode b pc = .ok (.iaload, 1)) (h0 : Ok x (pc + 1) kt) : Ok x pc (c_sld L sv kt) := by
  intro lo st M hk
  obtain ⟨p, l, e, R, s, m, args, below, meth, c, ⟨cells, slots⟩, Q, D, ad, cA, A, nL⟩ := x
  obtain ⟨hx, hb, hml, hown, hts, hK, hD, hA, hc1, hc2, hlk, hnl, hll, hrm, hN⟩ := C
  obtain ⟨⟨xs, hsv, hX⟩, hbl, rfl, hL, -⟩ := Lx
  match st, hk with
  | .inl (.inl i) :: .inr (some (g, s')) :: r, ⟨hg, hs, hi, hk⟩ =>
    subst hg; subst hs
    intro H locs ls hP hS hl
    have hR : iR i := ⟨by omega, by omega⟩
    have q := h0 lo _ M hk H locs ls hP hS hl
    simp only [List.map, cv] at q
    rw [hsv, Int32.ofInt_toInt, ← iR_cl hR hi.1] at q
    exact va_sld hx hb hX hbl (fun z => by have z : s.heap.size ≤ ad 56 0 := z; omega) hS (iR_in hR hi.1 hi.2) hd q
theorem r_slen {x : Xc} {l0 : Launch} {b : ByteArray} {own : String} {nl dd : Nat} {pc : Nat} {kt : Kt} {L cap : Nat} {sv : Nat → Int} (C : Cx x l0 b own nl dd) (Lx : LX x L sv cap) (hd : decode b pc = .ok (.arraylength, 1)) (h0 : Ok x (pc + 1) kt) : Ok x pc (c_slen L kt) := by
  intro lo st M hk
  obtain ⟨p, l, e, R, s, m, args, below, meth, c, ⟨cells, slots⟩, Q, D, ad, cA, A, nL⟩ := x
  obtain ⟨hx, hb, hml, hown, hts, hK, hD, hA, hc1, hc2, hlk, hnl, hll, hrm, hN⟩ := C
  obtain ⟨⟨xs, hsv, hX⟩, hbl, rfl, hL, -⟩ := Lx
  match st, hk with
  | .inr (some (g, s')) :: r, ⟨hg, hs, hk⟩ =>
    subst hg; subst hs
    intro H locs ls hP hS hl
    have q := h0 lo _ M hk H locs ls hP hS hl
    simp only [List.map, cv] at q
    rw [show Int32.ofInt (L : Int) = Int32.ofNat L from Int32.ofInt_eq_ofNat] at q
    exact va_slen hx hb hX hbl (fun z => by have z : s.heap.size ≤ ad 56 0 := z; omega) hS hd q
/-- the low five bits -/
def and31 (z : Int) : Int := (Int32.ofInt z &&& 31).toInt
theorem and31_R (z : Int) : iR (and31 z) := ⟨Int32.le_toInt _, Int32.toInt_lt _⟩
def c_and31 (kt : Kt) : Kt := fun lo st M => match st with
  | .inl (.inl y) :: .inl (.inl z) :: r => y = 31 ∧ kt lo (zi (and31 z) :: r) M
  | _ => False
theorem r_and31 {x : Xc} {l0 : Launch} {b : ByteArray} {own : String} {nl dd : Nat} {pc : Nat} {kt : Kt} (C : Cx x l0 b own nl dd) (hd : decode b pc = .ok (.iand, 1)) (h0 : Ok x (pc + 1) kt) : Ok x pc (c_and31 kt) := by
  intro lo st M hk
  obtain ⟨p, l, e, R, s, m, args, below, meth, c, ⟨cells, slots⟩, Q, D, ad, cA, A, nL⟩ := x
  obtain ⟨hx, hb, hml, hown, hts, hK, hD, hA, hc1, hc2, hlk, hnl, hll, hrm, hN⟩ := C
  match st, hk with
  | .inl (.inl y) :: .inl (.inl z) :: r, ⟨hy, hk⟩ =>
    subst hy
    intro H locs ls hP hS hl
    have q := h0 lo _ M hk H locs ls hP hS hl
    simp only [List.map, cv, and31, Int32.ofInt_toInt] at q
    exact lv_iand hx hb hd q
/-- two that are the same -/
def c_icmpS (kt : Kt) : Kt := fun lo st M => match st with
  | .inl (.inl y) :: .inl (.inl z) :: r => z = y ∧ kt lo r M
  | _ => False
theorem r_icmpS {x : Xc} {l0 : Launch} {b : ByteArray} {own : String} {nl dd : Nat} {pc : Nat} {kt : Kt} {off : Int} {tgt : Nat} (C : Cx x l0 b own nl dd) (hd : decode b pc = .ok (.if_icmp .eq off, 3)) (ht : (pc : Int) + off = (tgt : Int)) (h1 : Ok x tgt kt) : Ok x pc (c_icmpS kt) := by
  intro lo st M hk
  obtain ⟨p, l, e, R, s, m, args, below, meth, c, ⟨cells, slots⟩, Q, D, ad, cA, A, nL⟩ := x
  obtain ⟨hx, hb, hml, hown, hts, hK, hD, hA, hc1, hc2, hlk, hnl, hll, hrm, hN⟩ := C
  match st, hk with
  | .inl (.inl y) :: .inl (.inl z) :: r, ⟨hz, hk⟩ =>
    subst hz
    intro H locs ls hP hS hl
    exact lv_icmp_eq hx hb hd ht (fun _ => h1 lo _ M hk H locs ls hP hS hl) (fun q => absurd rfl q)
def c_lcmpS (kt : Kt) : Kt := fun lo st M => match st with
  | .inl (.inr y) :: .inl (.inr z) :: r => z = y ∧ kt lo r M
  | _ => False
theorem r_lcmpS {x : Xc} {l0 : Launch} {b : ByteArray} {own : String} {nl dd : Nat} {pc : Nat} {kt : Kt} {off : Int} {tgt : Nat} (C : Cx x l0 b own nl dd) (hd0 : decode b pc = .ok (.lcmp, 1)) (hd : decode b (pc + 1) = .ok (.ifCond .eq off, 3)) (ht : ((pc + 1 : Nat) : Int) + off = (tgt : Int)) (h1 : Ok x tgt kt) : Ok x pc (c_lcmpS kt) := by
  intro lo st M hk
  obtain ⟨p, l, e, R, s, m, args, below, meth, c, ⟨cells, slots⟩, Q, D, ad, cA, A, nL⟩ := x
  obtain ⟨hx, hb, hml, hown, hts, hK, hD, hA, hc1, hc2, hlk, hnl, hll, hrm, hN⟩ := C
  match st, hk with
  | .inl (.inr y) :: .inl (.inr z) :: r, ⟨hz, hk⟩ =>
    subst hz
    intro H locs ls hP hS hl
    refine W.lcmp hx hb hd0 ?_
    exact lv_if_eq hx hb hd ht (fun _ => h1 lo _ M hk H locs ls hP hS hl) (fun q => absurd ((lg_cmp_eq _ _).mpr rfl) q)
/-- the law's end -/
def c_law1 : Kt := fun _ st _ => match st with
  | [.inl (.inl z)] => z = 1
  | _ => False
theorem r_law1 {x : Xc} {l0 : Launch} {own : String} {nl dd : Nat} {pc : Nat} {L cap : Nat} {sv : Nat → Int} (C : Cx x l0 cL_law own nl dd) (Lx : LX x L sv cap) (hd : decode cL_law pc = .ok (.ireturn, 1)) : Ok x pc c_law1 := by
  intro lo st M hk
  obtain ⟨p, l, e, R, s, m, args, below, meth, c, ⟨cells, slots⟩, Q, D, ad, cA, A, nL⟩ := x
  obtain ⟨hx, hb, hml, hown, hts, hK, hD, hA, hc1, hc2, hlk, hnl, hll, hrm, hN⟩ := C
  obtain ⟨-, -, rfl, -, rfl, rfl, rfl, hr, ⟨h9, h10⟩, -⟩ := Lx
  match st, hk with
  | [.inl (.inl z)], hk =>
    have hz : z = 1 := hk
    subst hz
    intro H locs ls hP hS hl
    refine va_forget hS.2.2 ?_
    refine W.widen (k := 601024) (n := 7293034) (by omega) (by omega) ?_
    exact lw_ret hx hb hr hlk hd
