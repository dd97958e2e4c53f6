/-! plain instructions in a world that grows: by program out of the rows for J (own work) -/
theorem p_iadd {x : Xc} {l0 : Launch} {b : ByteArray} {own : String} {nl dd nm : Nat} {pc : Nat} {kt : Kt} (C : CxP x l0 b own nl dd nm) (hd : decode b pc = .ok (.iadd, 1)) (h : OkP x (pc + 1) kt) : OkP x pc (c_iadd kt) := by
  intro lo st M hk
  obtain ⟨p, l, e, R, s, m, args, below, meth, c, ⟨cells, slots⟩, Q, D, ad, cA, A, nL⟩ := x
  obtain ⟨hx, hb, hml, hown, hts, hK, hD, hA, hc1, hc2, hlk, hnl, hll, hrm, hN⟩ := C
  match st, hk with
  | .inl (.inl y) :: .inl (.inl z) :: r, hk =>
    intro H locs ls hP hS hl
    have q := h lo _ M hk H locs ls hP hS hl
    simp only [List.map, cv, Int32.ofInt_add] at q
    exact lv_iadd hx hb hd q
theorem p_isub {x : Xc} {l0 : Launch} {b : ByteArray} {own : String} {nl dd nm : Nat} {pc : Nat} {kt : Kt} (C : CxP x l0 b own nl dd nm) (hd : decode b pc = .ok (.isub, 1)) (h : OkP x (pc + 1) kt) : OkP x pc (c_isub kt) := by
  intro lo st M hk
  obtain ⟨p, l, e, R, s, m, args, below, meth, c, ⟨cells, slots⟩, Q, D, ad, cA, A, nL⟩ := x
  obtain ⟨hx, hb, hml, hown, hts, hK, hD, hA, hc1, hc2, hlk, hnl, hll, hrm, hN⟩ := C
  match st, hk with
  | .inl (.inl y) :: .inl (.inl z) :: r, hk =>
    intro H locs ls hP hS hl
    have q := h lo _ M hk H locs ls hP hS hl
    simp only [List.map, cv, Int32.ofInt_sub] at q
    exact lv_isub hx hb hd q
theorem p_imul {x : Xc} {l0 : Launch} {b : ByteArray} {own : String} {nl dd nm : Nat} {pc : Nat} {kt : Kt} (C : CxP x l0 b own nl dd nm) (hd : decode b pc = .ok (.imul, 1)) (h : OkP x (pc + 1) kt) : OkP x pc (c_imul kt) := by
  intro lo st M hk
  obtain ⟨p, l, e, R, s, m, args, below, meth, c, ⟨cells, slots⟩, Q, D, ad, cA, A, nL⟩ := x
  obtain ⟨hx, hb, hml, hown, hts, hK, hD, hA, hc1, hc2, hlk, hnl, hll, hrm, hN⟩ := C
  match st, hk with
  | .inl (.inl y) :: .inl (.inl z) :: r, hk =>
    intro H locs ls hP hS hl
    have q := h lo _ M hk H locs ls hP hS hl
    simp only [List.map, cv, Int32.ofInt_mul] at q
    exact lv_imul hx hb hd q
theorem p_ladd {x : Xc} {l0 : Launch} {b : ByteArray} {own : String} {nl dd nm : Nat} {pc : Nat} {kt : Kt} (C : CxP x l0 b own nl dd nm) (hd : decode b pc = .ok (.ladd, 1)) (h : OkP x (pc + 1) kt) : OkP x pc (c_ladd kt) := by
  intro lo st M hk
  obtain ⟨p, l, e, R, s, m, args, below, meth, c, ⟨cells, slots⟩, Q, D, ad, cA, A, nL⟩ := x
  obtain ⟨hx, hb, hml, hown, hts, hK, hD, hA, hc1, hc2, hlk, hnl, hll, hrm, hN⟩ := C
  match st, hk with
  | .inl (.inr y) :: .inl (.inr z) :: r, hk =>
    intro H locs ls hP hS hl
    have q := h lo _ M hk H locs ls hP hS hl
    simp only [List.map, cv, Int64.ofInt_add] at q
    exact lv_ladd hx hb hd q
theorem p_iconst {x : Xc} {l0 : Launch} {b : ByteArray} {own : String} {nl dd nm : Nat} {pc : Nat} {kt : Kt} {n : Int} (C : CxP x l0 b own nl dd nm) (hd : decode b pc = .ok (.iconst n, 1)) (h : OkP x (pc + 1) kt) : OkP x pc (c_ic n kt) := by
  intro lo st M hk
  obtain ⟨p, l, e, R, s, m, args, below, meth, c, ⟨cells, slots⟩, Q, D, ad, cA, A, nL⟩ := x
  obtain ⟨hx, hb, hml, hown, hts, hK, hD, hA, hc1, hc2, hlk, hnl, hll, hrm, hN⟩ := C
  intro H locs ls hP hS hl
  exact lv_iconst hx hb hd rfl (h lo _ M hk H locs ls hP hS hl)
theorem p_bipush {x : Xc} {l0 : Launch} {b : ByteArray} {own : String} {nl dd nm : Nat} {pc : Nat} {kt : Kt} {n : Int} (C : CxP x l0 b own nl dd nm) (hd : decode b pc = .ok (.bipush n, 2)) (hn : (Int8.ofInt n).toInt32 = Int32.ofInt n) (h : OkP x (pc + 2) kt) : OkP x pc (c_ic n kt) := by
  intro lo st M hk
  obtain ⟨p, l, e, R, s, m, args, below, meth, c, ⟨cells, slots⟩, Q, D, ad, cA, A, nL⟩ := x
  obtain ⟨hx, hb, hml, hown, hts, hK, hD, hA, hc1, hc2, hlk, hnl, hll, hrm, hN⟩ := C
  intro H locs ls hP hS hl
  exact lv_bipush hx hb hd hn (h lo _ M hk H locs ls hP hS hl)
theorem p_sipush {x : Xc} {l0 : Launch} {b : ByteArray} {own : String} {nl dd nm : Nat} {pc : Nat} {kt : Kt} {n : Int} (C : CxP x l0 b own nl dd nm) (hd : decode b pc = .ok (.sipush n, 3)) (hn : (Int16.ofInt n).toInt32 = Int32.ofInt n) (h : OkP x (pc + 3) kt) : OkP x pc (c_ic n kt) := by
  intro lo st M hk
  obtain ⟨p, l, e, R, s, m, args, below, meth, c, ⟨cells, slots⟩, Q, D, ad, cA, A, nL⟩ := x
  obtain ⟨hx, hb, hml, hown, hts, hK, hD, hA, hc1, hc2, hlk, hnl, hll, hrm, hN⟩ := C
  intro H locs ls hP hS hl
  exact lv_sipush hx hb hd hn (h lo _ M hk H locs ls hP hS hl)
theorem p_lconst {x : Xc} {l0 : Launch} {b : ByteArray} {own : String} {nl dd nm : Nat} {pc : Nat} {kt : Kt} {n : Fin 2} {z : Int} (C : CxP x l0 b own nl dd nm) (hd : decode b pc = .ok (.lconst n, 1)) (hn : Int64.ofNat (n : Nat) = Int64.ofInt z) (h : OkP x (pc + 1) kt) : OkP x pc (c_lc z kt) := by
  intro lo st M hk
  obtain ⟨p, l, e, R, s, m, args, below, meth, c, ⟨cells, slots⟩, Q, D, ad, cA, A, nL⟩ := x
  obtain ⟨hx, hb, hml, hown, hts, hK, hD, hA, hc1, hc2, hlk, hnl, hll, hrm, hN⟩ := C
  intro H locs ls hP hS hl
  exact lv_lconst hx hb hd hn (h lo _ M hk H locs ls hP hS hl)
theorem p_iload {x : Xc} {l0 : Launch} {b : ByteArray} {own : String} {nl dd nm : Nat} {pc : Nat} {kt : Kt} {i : Nat} (C : CxP x l0 b own nl dd nm) (hd : decode b pc = .ok (.iload i, 2)) (h : OkP x (pc + 2) kt) : OkP x pc (c_iload i kt) := by
  intro lo st M hk
  obtain ⟨p, l, e, R, s, m, args, below, meth, c, ⟨cells, slots⟩, Q, D, ad, cA, A, nL⟩ := x
  obtain ⟨hx, hb, hml, hown, hts, hK, hD, hA, hc1, hc2, hlk, hnl, hll, hrm, hN⟩ := C
  unfold c_iload at hk
  split at hk
  · rename_i z hz
    intro H locs ls hP hS hl
    exact lv_iload hx hb hd (hl.2.2 i _ hz) (h lo _ M hk H locs ls hP hS hl)
  · exact hk.elim
theorem p_iload_n {x : Xc} {l0 : Launch} {b : ByteArray} {own : String} {nl dd nm : Nat} {pc : Nat} {kt : Kt} {j : Fin 4} {i : Nat} (C : CxP x l0 b own nl dd nm) (hd : decode b pc = .ok (.iload_n j, 1)) (hi : (j : Nat) = i) (h : OkP x (pc + 1) kt) : OkP x pc (c_iload i kt) := by
  intro lo st M hk
  obtain ⟨p, l, e, R, s, m, args, below, meth, c, ⟨cells, slots⟩, Q, D, ad, cA, A, nL⟩ := x
  obtain ⟨hx, hb, hml, hown, hts, hK, hD, hA, hc1, hc2, hlk, hnl, hll, hrm, hN⟩ := C
  unfold c_iload at hk
  split at hk
  · rename_i z hz
    intro H locs ls hP hS hl
    exact lv_iload_n hx hb hd hi (hl.2.2 i _ hz) (h lo _ M hk H locs ls hP hS hl)
  · exact hk.elim
theorem p_aload {x : Xc} {l0 : Launch} {b : ByteArray} {own : String} {nl dd nm : Nat} {pc : Nat} {kt : Kt} {i : Nat} (C : CxP x l0 b own nl dd nm) (hd : decode b pc = .ok (.aload i, 2)) (h : OkP x (pc + 2) kt) : OkP x pc (c_aload i kt) := by
  intro lo st M hk
  obtain ⟨p, l, e, R, s, m, args, below, meth, c, ⟨cells, slots⟩, Q, D, ad, cA, A, nL⟩ := x
  obtain ⟨hx, hb, hml, hown, hts, hK, hD, hA, hc1, hc2, hlk, hnl, hll, hrm, hN⟩ := C
  unfold c_aload at hk
  split at hk
  · rename_i z hz
    intro H locs ls hP hS hl
    exact lv_aload hx hb hd (hl.2.2 i _ hz) (h lo _ M hk H locs ls hP hS hl)
  · exact hk.elim
theorem p_aload_n {x : Xc} {l0 : Launch} {b : ByteArray} {own : String} {nl dd nm : Nat} {pc : Nat} {kt : Kt} {j : Fin 4} {i : Nat} (C : CxP x l0 b own nl dd nm) (hd : decode b pc = .ok (.aload_n j, 1)) (hi : (j : Nat) = i) (h : OkP x (pc + 1) kt) : OkP x pc (c_aload i kt) := by
  intro lo st M hk
  obtain ⟨p, l, e, R, s, m, args, below, meth, c, ⟨cells, slots⟩, Q, D, ad, cA, A, nL⟩ := x
  obtain ⟨hx, hb, hml, hown, hts, hK, hD, hA, hc1, hc2, hlk, hnl, hll, hrm, hN⟩ := C
  unfold c_aload at hk
  split at hk
  · rename_i z hz
    intro H locs ls hP hS hl
    exact lv_aload_n hx hb hd hi (hl.2.2 i _ hz) (h lo _ M hk H locs ls hP hS hl)
  · exact hk.elim
theorem p_istore {x : Xc} {l0 : Launch} {b : ByteArray} {own : String} {nl dd nm : Nat} {pc : Nat} {kt : Kt} {i : Nat} (C : CxP x l0 b own nl dd nm) (hd : decode b pc = .ok (.istore i, 2)) (hn : i < nl) (h : OkP x (pc + 2) kt) : OkP x pc (c_istore i kt) := by
  intro lo st M hk
  obtain ⟨p, l, e, R, s, m, args, below, meth, c, ⟨cells, slots⟩, Q, D, ad, cA, A, nL⟩ := x
  obtain ⟨hx, hb, hml, hown, hts, hK, hD, hA, hc1, hc2, hlk, hnl, hll, hrm, hN⟩ := C
  match st, hk with
  | .inl (.inl z) :: r, hk =>
    intro H locs ls hP hS hl
    exact lv_istore hx hb hd (lvF_has hl) (by omega) rfl (fun ls' hl' => h _ _ M hk H locs ls' hP hS (lvF_st1 hl'))
theorem p_istore_n {x : Xc} {l0 : Launch} {b : ByteArray} {own : String} {nl dd nm : Nat} {pc : Nat} {kt : Kt} {j : Fin 4} {i : Nat} (C : CxP x l0 b own nl dd nm) (hd : decode b pc = .ok (.istore_n j, 1)) (hi : (j : Nat) = i) (hn : i < nl) (h : OkP x (pc + 1) kt) : OkP x pc (c_istore i kt) := by
  intro lo st M hk
  obtain ⟨p, l, e, R, s, m, args, below, meth, c, ⟨cells, slots⟩, Q, D, ad, cA, A, nL⟩ := x
  obtain ⟨hx, hb, hml, hown, hts, hK, hD, hA, hc1, hc2, hlk, hnl, hll, hrm, hN⟩ := C
  match st, hk with
  | .inl (.inl z) :: r, hk =>
    intro H locs ls hP hS hl
    exact lv_istore_n hx hb hd hi (lvF_has hl) (by omega) rfl (fun ls' hl' => h _ _ M hk H locs ls' hP hS (lvF_st1 hl'))
theorem p_astore {x : Xc} {l0 : Launch} {b : ByteArray} {own : String} {nl dd nm : Nat} {pc : Nat} {kt : Kt} {i : Nat} (C : CxP x l0 b own nl dd nm) (hd : decode b pc = .ok (.astore i, 2)) (hn : i < nl) (h : OkP x (pc + 2) kt) : OkP x pc (c_astore i kt) := by
  intro lo st M hk
  obtain ⟨p, l, e, R, s, m, args, below, meth, c, ⟨cells, slots⟩, Q, D, ad, cA, A, nL⟩ := x
  obtain ⟨hx, hb, hml, hown, hts, hK, hD, hA, hc1, hc2, hlk, hnl, hll, hrm, hN⟩ := C
  match st, hk with
  | .inr (some z) :: r, hk =>
    intro H locs ls hP hS hl
    exact lv_astore hx hb hd (lvF_has hl) (by omega) rfl (fun ls' hl' => h _ _ M hk H locs ls' hP hS (lvF_st1 hl'))
theorem p_astore_n {x : Xc} {l0 : Launch} {b : ByteArray} {own : String} {nl dd nm : Nat} {pc : Nat} {kt : Kt} {j : Fin 4} {i : Nat} (C : CxP x l0 b own nl dd nm) (hd : decode b pc = .ok (.astore_n j, 1)) (hi : (j : Nat) = i) (hn : i < nl) (h : OkP x (pc + 1) kt) : OkP x pc (c_astore i kt) := by
  intro lo st M hk
  obtain ⟨p, l, e, R, s, m, args, below, meth, c, ⟨cells, slots⟩, Q, D, ad, cA, A, nL⟩ := x
  obtain ⟨hx, hb, hml, hown, hts, hK, hD, hA, hc1, hc2, hlk, hnl, hll, hrm, hN⟩ := C
  match st, hk with
  | .inr (some z) :: r, hk =>
    intro H locs ls hP hS hl
    exact lv_astore_n hx hb hd hi (lvF_has hl) (by omega) rfl (fun ls' hl' => h _ _ M hk H locs ls' hP hS (lvF_st1 hl'))
theorem p_iinc {x : Xc} {l0 : Launch} {b : ByteArray} {own : String} {nl dd nm : Nat} {pc : Nat} {kt : Kt} {i : Nat} {n : Int} (C : CxP x l0 b own nl dd nm) (hd : decode b pc = .ok (.iinc i n, 3)) (hn : i < nl) (h : OkP x (pc + 3) kt) : OkP x pc (c_iinc i n kt) := by
  intro lo st M hk
  obtain ⟨p, l, e, R, s, m, args, below, meth, c, ⟨cells, slots⟩, Q, D, ad, cA, A, nL⟩ := x
  obtain ⟨hx, hb, hml, hown, hts, hK, hD, hA, hc1, hc2, hlk, hnl, hll, hrm, hN⟩ := C
  unfold c_iinc at hk
  split at hk
  · rename_i z hz
    intro H locs ls hP hS hl
    obtain ⟨k, hk2⟩ := List.getElem?_of_mem (lsl_mem (ad := ad) hz)
    exact lv_iinc (v := Int32.ofInt (z + n)) hx hb hd (lvF_has hl) hk2 (by rw [Int32.ofInt_add]) (by omega) rfl (fun ls' hl' => h _ _ M hk H locs ls' hP hS (lvF_st1 (v := zi (z + n)) hl'))
  · exact hk.elim
theorem p_dup {x : Xc} {l0 : Launch} {b : ByteArray} {own : String} {nl dd nm : Nat} {pc : Nat} {kt : Kt} (C : CxP x l0 b own nl dd nm) (hd : decode b pc = .ok (.dup, 1)) (h : OkP x (pc + 1) kt) : OkP x pc (c_dup kt) := by
  intro lo st M hk
  obtain ⟨p, l, e, R, s, m, args, below, meth, c, ⟨cells, slots⟩, Q, D, ad, cA, A, nL⟩ := x
  obtain ⟨hx, hb, hml, hown, hts, hK, hD, hA, hc1, hc2, hlk, hnl, hll, hrm, hN⟩ := C
  match st, hk with
  | .inl (.inl z) :: r, hk =>
    intro H locs ls hP hS hl
    exact lv_dup hx hb hd rfl (h lo _ M hk H locs ls hP hS hl)
  | .inr (some v) :: r, hk =>
    intro H locs ls hP hS hl
    exact lv_dup hx hb hd rfl (h lo _ M hk H locs ls hP hS hl)
  | .inr none :: r, hk =>
    intro H locs ls hP hS hl
    exact lv_dup hx hb hd rfl (h lo _ M hk H locs ls hP hS hl)
/-- dup2 over an array and a place -/
theorem p_goto {x : Xc} {l0 : Launch} {b : ByteArray} {own : String} {nl dd nm : Nat} {pc : Nat} {kt : Kt} {off : Int} {tgt : Nat} (C : CxP x l0 b own nl dd nm) (hd : decode b pc = .ok (.goto off, 3)) (ht : (pc : Int) + off = (tgt : Int)) (h : OkP x tgt kt) : OkP x pc (c_goto kt) := by
  intro lo st M hk
  obtain ⟨p, l, e, R, s, m, args, below, meth, c, ⟨cells, slots⟩, Q, D, ad, cA, A, nL⟩ := x
  obtain ⟨hx, hb, hml, hown, hts, hK, hD, hA, hc1, hc2, hlk, hnl, hll, hrm, hN⟩ := C
  intro H locs ls hP hS hl
  exact lv_goto hx hb hd ht (h lo _ M hk H locs ls hP hS hl)
/-- the block's end: what follows has rows of its own -/
theorem p_idiv {x : Xc} {l0 : Launch} {b : ByteArray} {own : String} {nl dd nm : Nat} {pc : Nat} {kt : Kt} (C : CxP x l0 b own nl dd nm) (hd : decode b pc = .ok (.idiv, 1)) (h : OkP x (pc + 1) kt) : OkP x pc (c_idiv kt) := by
  intro lo st M hk
  obtain ⟨p, l, e, R, s, m, args, below, meth, c, ⟨cells, slots⟩, Q, D, ad, cA, A, nL⟩ := x
  obtain ⟨hx, hb, hml, hown, hts, hK, hD, hA, hc1, hc2, hlk, hnl, hll, hrm, hN⟩ := C
  match st, hk with
  | .inl (.inl y) :: .inl (.inl z) :: r, ⟨hz, hy, hk⟩ =>
    intro H locs ls hP hS hl
    have q := h lo _ M hk H locs ls hP hS hl
    have e1 : Int32.ofInt (z / y) = Int32.ofInt z / Int32.ofInt y := by
      rw [← Int.tdiv_eq_ediv_of_nonneg hz.1]
      exact Int32.ofInt_tdiv (by have : Int32.minValue.toInt = -2147483648 := rfl; omega) (by have : Int32.maxValue.toInt = 2147483647 := rfl; omega) (by have : Int32.minValue.toInt = -2147483648 := rfl; omega) (by have : Int32.maxValue.toInt = 2147483647 := rfl; omega)
    simp only [List.map, cv, e1] at q
    refine lv_idiv hx hb hd (fun e => ?_) q
    have := (iR_eq (a := y) (b := 0) ⟨by omega, by omega⟩ ⟨by decide, by decide⟩).mp e
    omega
theorem p_icmp_eq {x : Xc} {l0 : Launch} {b : ByteArray} {own : String} {nl dd nm : Nat} {pc : Nat} {k1 k2 : Kt} {off : Int} {tgt : Nat} (C : CxP x l0 b own nl dd nm) (hd : decode b pc = .ok (.if_icmp .eq off, 3)) (ht : (pc : Int) + off = (tgt : Int)) (h1 : OkP x tgt k1) (h2 : OkP x (pc + 3) k2) : OkP x pc (c_icmp_eq k1 k2) := by
  intro lo st M hk
  obtain ⟨p, l, e, R, s, m, args, below, meth, c, ⟨cells, slots⟩, Q, D, ad, cA, A, nL⟩ := x
  obtain ⟨hx, hb, hml, hown, hts, hK, hD, hA, hc1, hc2, hlk, hnl, hll, hrm, hN⟩ := C
  match st, hk with
  | .inl (.inl y) :: .inl (.inl z) :: r, ⟨hz, hy, g1, g2⟩ =>
    intro H locs ls hP hS hl
    exact lv_icmp_eq hx hb hd ht (fun q => h1 lo _ M (g1 ((iR_eq hz hy).mp q)) H locs ls hP hS hl) (fun q => h2 lo _ M (g2 (fun z => q ((iR_eq hz hy).mpr z))) H locs ls hP hS hl)
theorem p_if_eq {x : Xc} {l0 : Launch} {b : ByteArray} {own : String} {nl dd nm : Nat} {pc : Nat} {k1 k2 : Kt} {off : Int} {tgt : Nat} (C : CxP x l0 b own nl dd nm) (hd : decode b pc = .ok (.ifCond .eq off, 3)) (ht : (pc : Int) + off = (tgt : Int)) (h1 : OkP x tgt k1) (h2 : OkP x (pc + 3) k2) : OkP x pc (c_if_eq k1 k2) := by
  intro lo st M hk
  obtain ⟨p, l, e, R, s, m, args, below, meth, c, ⟨cells, slots⟩, Q, D, ad, cA, A, nL⟩ := x
  obtain ⟨hx, hb, hml, hown, hts, hK, hD, hA, hc1, hc2, hlk, hnl, hll, hrm, hN⟩ := C
  match st, hk with
  | .inl (.inl z) :: r, ⟨hz, g1, g2⟩ =>
    intro H locs ls hP hS hl
    exact lv_if_eq hx hb hd ht (fun q => h1 lo _ M (g1 ((iR_eq hz iR0).mp q)) H locs ls hP hS hl) (fun q => h2 lo _ M (g2 (fun z => q ((iR_eq hz iR0).mpr z))) H locs ls hP hS hl)
theorem p_icmp_lt {x : Xc} {l0 : Launch} {b : ByteArray} {own : String} {nl dd nm : Nat} {pc : Nat} {k1 k2 : Kt} {off : Int} {tgt : Nat} (C : CxP x l0 b own nl dd nm) (hd : decode b pc = .ok (.if_icmp .lt off, 3)) (ht : (pc : Int) + off = (tgt : Int)) (h1 : OkP x tgt k1) (h2 : OkP x (pc + 3) k2) : OkP x pc (c_icmp_lt k1 k2) := by
  intro lo st M hk
  obtain ⟨p, l, e, R, s, m, args, below, meth, c, ⟨cells, slots⟩, Q, D, ad, cA, A, nL⟩ := x
  obtain ⟨hx, hb, hml, hown, hts, hK, hD, hA, hc1, hc2, hlk, hnl, hll, hrm, hN⟩ := C
  match st, hk with
  | .inl (.inl y) :: .inl (.inl z) :: r, ⟨hz, hy, g1, g2⟩ =>
    intro H locs ls hP hS hl
    exact lv_icmp_lt hx hb hd ht (fun q => h1 lo _ M (g1 ((iR_lt hz hy).mp q)) H locs ls hP hS hl) (fun q => h2 lo _ M (g2 (fun z => q ((iR_lt hz hy).mpr z))) H locs ls hP hS hl)
theorem p_icmp_ge {x : Xc} {l0 : Launch} {b : ByteArray} {own : String} {nl dd nm : Nat} {pc : Nat} {k1 k2 : Kt} {off : Int} {tgt : Nat} (C : CxP x l0 b own nl dd nm) (hd : decode b pc = .ok (.if_icmp .ge off, 3)) (ht : (pc : Int) + off = (tgt : Int)) (h1 : OkP x tgt k1) (h2 : OkP x (pc + 3) k2) : OkP x pc (c_icmp_ge k1 k2) := by
  intro lo st M hk
  obtain ⟨p, l, e, R, s, m, args, below, meth, c, ⟨cells, slots⟩, Q, D, ad, cA, A, nL⟩ := x
  obtain ⟨hx, hb, hml, hown, hts, hK, hD, hA, hc1, hc2, hlk, hnl, hll, hrm, hN⟩ := C
  match st, hk with
  | .inl (.inl y) :: .inl (.inl z) :: r, ⟨hz, hy, g1, g2⟩ =>
    intro H locs ls hP hS hl
    exact lv_icmp_ge hx hb hd ht (fun q => h1 lo _ M (g1 ((iR_le hy hz).mp q)) H locs ls hP hS hl) (fun q => h2 lo _ M (g2 (fun z => q ((iR_le hy hz).mpr z))) H locs ls hP hS hl)
theorem p_icmp_gt {x : Xc} {l0 : Launch} {b : ByteArray} {own : String} {nl dd nm : Nat} {pc : Nat} {k1 k2 : Kt} {off : Int} {tgt : Nat} (C : CxP x l0 b own nl dd nm) (hd : decode b pc = .ok (.if_icmp .gt off, 3)) (ht : (pc : Int) + off = (tgt : Int)) (h1 : OkP x tgt k1) (h2 : OkP x (pc + 3) k2) : OkP x pc (c_icmp_gt k1 k2) := by
  intro lo st M hk
  obtain ⟨p, l, e, R, s, m, args, below, meth, c, ⟨cells, slots⟩, Q, D, ad, cA, A, nL⟩ := x
  obtain ⟨hx, hb, hml, hown, hts, hK, hD, hA, hc1, hc2, hlk, hnl, hll, hrm, hN⟩ := C
  match st, hk with
  | .inl (.inl y) :: .inl (.inl z) :: r, ⟨hz, hy, g1, g2⟩ =>
    intro H locs ls hP hS hl
    exact lv_icmp_gt hx hb hd ht (fun q => h1 lo _ M (g1 ((iR_lt hy hz).mp q)) H locs ls hP hS hl) (fun q => h2 lo _ M (g2 (fun z => q ((iR_lt hy hz).mpr z))) H locs ls hP hS hl)
theorem p_icmp_le {x : Xc} {l0 : Launch} {b : ByteArray} {own : String} {nl dd nm : Nat} {pc : Nat} {k1 k2 : Kt} {off : Int} {tgt : Nat} (C : CxP x l0 b own nl dd nm) (hd : decode b pc = .ok (.if_icmp .le off, 3)) (ht : (pc : Int) + off = (tgt : Int)) (h1 : OkP x tgt k1) (h2 : OkP x (pc + 3) k2) : OkP x pc (c_icmp_le k1 k2) := by
  intro lo st M hk
  obtain ⟨p, l, e, R, s, m, args, below, meth, c, ⟨cells, slots⟩, Q, D, ad, cA, A, nL⟩ := x
  obtain ⟨hx, hb, hml, hown, hts, hK, hD, hA, hc1, hc2, hlk, hnl, hll, hrm, hN⟩ := C
  match st, hk with
  | .inl (.inl y) :: .inl (.inl z) :: r, ⟨hz, hy, g1, g2⟩ =>
    intro H locs ls hP hS hl
    exact lv_icmp_le hx hb hd ht (fun q => h1 lo _ M (g1 ((iR_le hz hy).mp q)) H locs ls hP hS hl) (fun q => h2 lo _ M (g2 (fun z => q ((iR_le hz hy).mpr z))) H locs ls hP hS hl)
theorem p_icmp_ne {x : Xc} {l0 : Launch} {b : ByteArray} {own : String} {nl dd nm : Nat} {pc : Nat} {k1 k2 : Kt} {off : Int} {tgt : Nat} (C : CxP x l0 b own nl dd nm) (hd : decode b pc = .ok (.if_icmp .ne off, 3)) (ht : (pc : Int) + off = (tgt : Int)) (h1 : OkP x tgt k1) (h2 : OkP x (pc + 3) k2) : OkP x pc (c_icmp_ne k1 k2) := by
  intro lo st M hk
  obtain ⟨p, l, e, R, s, m, args, below, meth, c, ⟨cells, slots⟩, Q, D, ad, cA, A, nL⟩ := x
  obtain ⟨hx, hb, hml, hown, hts, hK, hD, hA, hc1, hc2, hlk, hnl, hll, hrm, hN⟩ := C
  match st, hk with
  | .inl (.inl y) :: .inl (.inl z) :: r, ⟨hz, hy, g1, g2⟩ =>
    intro H locs ls hP hS hl
    exact lv_icmp_ne hx hb hd ht (fun q => h1 lo _ M (g1 (fun z => q ((iR_eq hz hy).mpr z))) H locs ls hP hS hl) (fun q => h2 lo _ M (g2 ((iR_eq hz hy).mp q)) H locs ls hP hS hl)
theorem p_if_ne {x : Xc} {l0 : Launch} {b : ByteArray} {own : String} {nl dd nm : Nat} {pc : Nat} {k1 k2 : Kt} {off : Int} {tgt : Nat} (C : CxP x l0 b own nl dd nm) (hd : decode b pc = .ok (.ifCond .ne off, 3)) (ht : (pc : Int) + off = (tgt : Int)) (h1 : OkP x tgt k1) (h2 : OkP x (pc + 3) k2) : OkP x pc (c_if_ne k1 k2) := by
  intro lo st M hk
  obtain ⟨p, l, e, R, s, m, args, below, meth, c, ⟨cells, slots⟩, Q, D, ad, cA, A, nL⟩ := x
  obtain ⟨hx, hb, hml, hown, hts, hK, hD, hA, hc1, hc2, hlk, hnl, hll, hrm, hN⟩ := C
  match st, hk with
  | .inl (.inl z) :: r, ⟨hz, g1, g2⟩ =>
    intro H locs ls hP hS hl
    exact lv_if_ne hx hb hd ht (fun q => h1 lo _ M (g1 (fun z => q ((iR_eq hz iR0).mpr z))) H locs ls hP hS hl) (fun q => h2 lo _ M (g2 ((iR_eq hz iR0).mp q)) H locs ls hP hS hl)
