/-! constructors: a world that grows. The cells come in the order of al; how many there are stands in the memory at (99, 0, 0); a field that refers holds 1 once it is set, else 0 (null) -/
def al : List (Nat × Nat) := [(10, 0), (30, 0), (8, 0), (27, 0), (8, 1), (27, 1), (8, 2), (27, 2), (8, 3), (27, 3), (8, 4), (27, 4), (8, 5), (27, 5), (8, 6), (27, 6), (8, 7), (27, 7), (4, 0), (20, 0), (3, 0), (18, 0), (19, 0), (0, 0), (12, 0), (9, 0), (28, 0), (29, 0), (5, 0), (21, 0), (2, 0), (16, 0), (17, 0), (6, 0), (22, 0), (23, 0), (1, 0), (13, 0), (14, 0), (15, 0), (7, 0), (24, 0), (25, 0), (26, 0), (11, 0), (31, 0), (32, 0), (33, 0), (34, 0), (35, 0), (36, 0), (37, 0), (38, 0), (39, 0), (40, 0), (41, 0), (42, 0), (43, 0), (44, 0), (45, 0), (46, 0), (47, 0), (48, 0), (49, 0), (50, 0), (51, 0), (52, 0), (53, 0), (54, 0), (55, 0)]
def ix (g s : Nat) : Nat := match g with
  | 8 => 2 + 2 * s
  | 27 => 3 + 2 * s
  | 10 => 0
  | 30 => 1
  | 4 => 18
  | 20 => 19
  | 3 => 20
  | 18 => 21
  | 19 => 22
  | 0 => 23
  | 12 => 24
  | 9 => 25
  | 28 => 26
  | 29 => 27
  | 5 => 28
  | 21 => 29
  | 2 => 30
  | 16 => 31
  | 17 => 32
  | 6 => 33
  | 22 => 34
  | 23 => 35
  | 1 => 36
  | 13 => 37
  | 14 => 38
  | 15 => 39
  | 7 => 40
  | 24 => 41
  | 25 => 42
  | 26 => 43
  | 11 => 44
  | 31 => 45
  | 32 => 46
  | 33 => 47
  | 34 => 48
  | 35 => 49
  | 36 => 50
  | 37 => 51
  | 38 => 52
  | 39 => 53
  | 40 => 54
  | 41 => 55
  | 42 => 56
  | 43 => 57
  | 44 => 58
  | 45 => 59
  | 46 => 60
  | 47 => 61
  | 48 => 62
  | 49 => 63
  | 50 => 64
  | 51 => 65
  | 52 => 66
  | 53 => 67
  | 54 => 68
  | 55 => 69
  | _ => 1000
theorem ix_10 : ix 10 0 = 0 := rfl
theorem ix_30 : ix 30 0 = 1 := rfl
theorem ix_4 : ix 4 0 = 18 := rfl
theorem ix_20 : ix 20 0 = 19 := rfl
theorem ix_3 : ix 3 0 = 20 := rfl
theorem ix_18 : ix 18 0 = 21 := rfl
theorem ix_19 : ix 19 0 = 22 := rfl
theorem ix_0 : ix 0 0 = 23 := rfl
theorem ix_12 : ix 12 0 = 24 := rfl
theorem ix_9 : ix 9 0 = 25 := rfl
theorem ix_28 : ix 28 0 = 26 := rfl
theorem ix_29 : ix 29 0 = 27 := rfl
theorem ix_5 : ix 5 0 = 28 := rfl
theorem ix_21 : ix 21 0 = 29 := rfl
theorem ix_2 : ix 2 0 = 30 := rfl
theorem ix_16 : ix 16 0 = 31 := rfl
theorem ix_17 : ix 17 0 = 32 := rfl
theorem ix_6 : ix 6 0 = 33 := rfl
theorem ix_22 : ix 22 0 = 34 := rfl
theorem ix_23 : ix 23 0 = 35 := rfl
theorem ix_1 : ix 1 0 = 36 := rfl
theorem ix_13 : ix 13 0 = 37 := rfl
theorem ix_14 : ix 14 0 = 38 := rfl
theorem ix_15 : ix 15 0 = 39 := rfl
theorem ix_7 : ix 7 0 = 40 := rfl
theorem ix_24 : ix 24 0 = 41 := rfl
theorem ix_25 : ix 25 0 = 42 := rfl
theorem ix_26 : ix 26 0 = 43 := rfl
theorem ix_11 : ix 11 0 = 44 := rfl
theorem ix_31 : ix 31 0 = 45 := rfl
theorem ix_32 : ix 32 0 = 46 := rfl
theorem ix_33 : ix 33 0 = 47 := rfl
theorem ix_34 : ix 34 0 = 48 := rfl
theorem ix_35 : ix 35 0 = 49 := rfl
theorem ix_36 : ix 36 0 = 50 := rfl
theorem ix_37 : ix 37 0 = 51 := rfl
theorem ix_38 : ix 38 0 = 52 := rfl
theorem ix_39 : ix 39 0 = 53 := rfl
theorem ix_40 : ix 40 0 = 54 := rfl
theorem ix_41 : ix 41 0 = 55 := rfl
theorem ix_42 : ix 42 0 = 56 := rfl
theorem ix_43 : ix 43 0 = 57 := rfl
theorem ix_44 : ix 44 0 = 58 := rfl
theorem ix_45 : ix 45 0 = 59 := rfl
theorem ix_46 : ix 46 0 = 60 := rfl
theorem ix_47 : ix 47 0 = 61 := rfl
theorem ix_48 : ix 48 0 = 62 := rfl
theorem ix_49 : ix 49 0 = 63 := rfl
theorem ix_50 : ix 50 0 = 64 := rfl
theorem ix_51 : ix 51 0 = 65 := rfl
theorem ix_52 : ix 52 0 = 66 := rfl
theorem ix_53 : ix 53 0 = 67 := rfl
theorem ix_54 : ix 54 0 = 68 := rfl
theorem ix_55 : ix 55 0 = 69 := rfl
theorem ix_8 (s : Nat) : ix 8 s = 2 + 2 * s := rfl
theorem ix_27 (s : Nat) : ix 27 s = 3 + 2 * s := rfl
theorem ix_al {g s : Nat} (h : s < cnt g) : al[ix g s]? = some (g, s) := by
  have hg : g < 56 := by
    refine Nat.lt_of_not_le fun q => ?_
    unfold cnt at h
    rw [if_neg (by omega), if_neg (by omega), if_neg (by omega)] at h
    omega
  have key : ∀ g : Nat, g < 56 → ∀ s : Nat, s < cnt g → al[ix g s]? = some (g, s) := by decide +kernel
  exact key g hg s h
theorem al_ix {k : Nat} {q : Nat × Nat} (h : al[k]? = some q) : q.2 < cnt q.1 ∧ ix q.1 q.2 = k := by
  have key : ∀ k : Nat, k < 70 → (al.getD k (0, 0)).2 < cnt (al.getD k (0, 0)).1 ∧ ix (al.getD k (0, 0)).1 (al.getD k (0, 0)).2 = k := by decide +kernel
  have hk : k < 70 := (List.getElem?_eq_some_iff.mp h).1
  have := key k hk
  rw [List.getD_eq_getElem?_getD, h] at this
  exact this
theorem cnt_lt {g s : Nat} (h : s < cnt g) : g < 56 := by
  refine Nat.lt_of_not_le fun q => ?_
  unfold cnt at h
  rw [if_neg (by omega), if_neg (by omega), if_neg (by omega)] at h
  omega
def osl (g : Nat) : Nat := if g < 12 then (fkl g).length else alen g
def sls (n : Nat) : Nat := ((al.take n).map (fun q => osl q.1)).sum
theorem sls_succ {n g s : Nat} (h : al[n]? = some (g, s)) : sls (n + 1) = sls n + osl g := by
  unfold sls
  rw [List.take_add_one, h]
  simp
theorem sls_mono {n k : Nat} (h : n ≤ k) : sls n ≤ sls k := by
  induction k with
  | zero => rw [Nat.le_zero.mp h]; exact Nat.le_refl _
  | succ k ih =>
    by_cases e : n = k + 1
    · rw [e]; exact Nat.le_refl _
    · refine Nat.le_trans (ih (by omega)) ?_
      unfold sls
      rw [List.take_add_one]
      simp
def fvP (ad : Nat → Nat → Nat) (k s : Nat) (z : Int) : Value := match k with
  | 0 => .int (Int32.ofInt z)
  | 1 => .long (Int64.ofInt z)
  | 2 => .int (Int32.ofInt z)
  | g + 3 => if z = 0 then .null else .ref (ad g s)
def obP (ad : Nat → Nat → Nat) (g s : Nat) (f : Nat → Int) : List Value := (List.range (fkl g).length).map (fun k => fvP ad ((fkl g).getD k 0) s (f k))
def arP (ad : Nat → Nat → Nat) (cA : Nat → ClassId) (t n : Nat) (f : Nat → Int) : ClassId × vp_A := match t with
  | 0 => (cA 0, n, .inl (fun j => Int32.ofInt (f j)))
  | 1 => (cA 1, n, .inr (.inl (fun j => Int64.ofInt (f j))))
  | 2 => (cA 2, n, .inl (fun j => Int32.ofInt (f j)))
  | h + 3 => (cA 3, n, .inr (.inr (.inr (.inr (fun j => if f j = 0 then none else some (ad h j))))))
def ceP (ad : Nat → Nat → Nat) (cA : Nat → ClassId) (g s : Nat) (f : Nat → Int) : va_E := if g < 12 then .inr (g, obP ad g s f) else .inl (arP ad cA (aty g) (alen g) f)
theorem ceP_ob (ad : Nat → Nat → Nat) (cA : Nat → ClassId) {g : Nat} (s : Nat) (f : Nat → Int) (h : g < 12) : ceP ad cA g s f = .inr (g, obP ad g s f) := if_pos h
theorem ceP_ar (ad : Nat → Nat → Nat) (cA : Nat → ClassId) {g : Nat} (s : Nat) (f : Nat → Int) (h : 12 ≤ g) : ceP ad cA g s f = .inl (arP ad cA (aty g) (alen g) f) := if_neg (by omega)
def nof (M : Mm) : Nat := (M 99 0 0).toNat
def wq (ad : Nat → Nat → Nat) (cA : Nat → ClassId) (M : Mm) : va_W := (al.take (nof M)).map (fun q => (ad q.1 q.2, ceP ad cA q.1 q.2 (M q.1 q.2)))
theorem wq_at (ad : Nat → Nat → Nat) (cA : Nat → ClassId) (M : Mm) {g s : Nat} (h : s < cnt g) (hi : (ix g s : Int) < M 99 0 0) : (wq ad cA M)[ix g s]? = some (ad g s, ceP ad cA g s (M g s)) := by
  have : ix g s < nof M := by unfold nof; omega
  unfold wq
  rw [List.getElem?_map, List.getElem?_take, if_pos this, ix_al h]
  rfl
theorem wq_of {ad : Nat → Nat → Nat} {cA : Nat → ClassId} {M : Mm} {k : Nat} {e : Nat × va_E} (h : (wq ad cA M)[k]? = some e) : ∃ q : Nat × Nat, al[k]? = some q ∧ k < nof M ∧ e = (ad q.1 q.2, ceP ad cA q.1 q.2 (M q.1 q.2)) := by
  unfold wq at h
  rw [List.getElem?_map, List.getElem?_take] at h
  split at h
  · rename_i hk
    cases hq : al[k]? with
    | none => rw [hq] at h; cases h
    | some q =>
      rw [hq] at h
      cases h
      exact ⟨q, rfl, hk, rfl⟩
  · cases h
theorem nof_stc (M : Mm) {g s : Nat} (h : s < cnt g) (f : Nat → Int) : nof (stc M g s f) = nof M := by
  have hg := cnt_lt h
  unfold nof stc
  rw [if_neg (by omega)]
theorem nof_stm (M : Mm) {g s : Nat} (h : s < cnt g) (k : Nat) (v : Int) : nof (stm M g s k v) = nof M := by rw [stm_stc]; exact nof_stc M h _
theorem wq_set (ad : Nat → Nat → Nat) (cA : Nat → ClassId) (M : Mm) {g s : Nat} (h : s < cnt g) (hi : (ix g s : Int) < M 99 0 0) (f : Nat → Int) : (wq ad cA M).set (ix g s) (ad g s, ceP ad cA g s f) = wq ad cA (stc M g s f) := by
  refine List.ext_getElem? fun i => ?_
  rw [List.getElem?_set]
  have hl : ix g s < (wq ad cA M).length := (List.getElem?_eq_some_iff.mp (wq_at ad cA M h hi)).1
  by_cases hx : ix g s = i
  · subst hx
    have hg := cnt_lt h
    rw [if_pos rfl, if_pos hl, wq_at ad cA _ h (by unfold stc; rw [if_neg (by omega)]; exact hi)]
    simp [stc]
  · rw [if_neg hx]
    unfold wq
    rw [nof_stc M h, List.getElem?_map, List.getElem?_map]
    cases hq : (al.take (nof M))[i]? with
    | none => rfl
    | some q =>
      have ha : al[i]? = some q := by
        rw [List.getElem?_take] at hq
        split at hq
        · exact hq
        · cases hq
      have hne : ¬ (q.1 = g ∧ q.2 = s) := fun z => hx (by rw [← (al_ix ha).2, z.1, z.2])
      simp [stc, hne]
/-- a new cell -/
def nw (M : Mm) (g s : Nat) : Mm := stm (stc M g s (fun _ => 0)) 99 0 0 (ix g s + 1)
theorem nof_nw (M : Mm) (g s : Nat) : nof (nw M g s) = ix g s + 1 := by
  unfold nof nw stm
  simp
theorem wq_nw (ad : Nat → Nat → Nat) (cA : Nat → ClassId) (M : Mm) {g s : Nat} (h : s < cnt g) (hi : M 99 0 0 = (ix g s : Int)) : wq ad cA (nw M g s) = wq ad cA M ++ [(ad g s, ceP ad cA g s (fun _ => 0))] := by
  have hg := cnt_lt h
  have hn : nof M = ix g s := by unfold nof; omega
  have ea : ∀ q : Nat × Nat, q ∈ al → nw M g s q.1 q.2 = if q = (g, s) then (fun _ => 0) else M q.1 q.2 := fun q hq => by
    obtain ⟨k, hk⟩ := List.getElem?_of_mem hq
    have h1 := cnt_lt (al_ix hk).1
    funext j
    unfold nw stm stc
    rw [if_neg (by omega)]
    by_cases e : q = (g, s)
    · rw [if_pos e]; subst e; simp
    · rw [if_neg e, if_neg (fun z => e (Prod.ext z.1 z.2))]
  unfold wq
  rw [nof_nw, hn, List.take_add_one, ix_al h, List.map_append]
  congr 1
  · refine List.map_congr_left fun q hq => ?_
    rw [ea q (List.mem_of_mem_take hq), if_neg (fun e => ?_)]
    subst e
    obtain ⟨k, hk⟩ := List.getElem?_of_mem hq
    rw [List.getElem?_take] at hk
    split at hk
    · have := (al_ix hk).2
      dsimp only at this
      omega
    · cases hk
  · show [(ad g s, ceP ad cA g s (nw M g s g s))] = _
    rw [ea (g, s) (List.mem_of_getElem? (ix_al h)), if_pos rfl]
def AdP (base : Nat) (ad : Nat → Nat → Nat) : Prop := ∀ g s : Nat, s < cnt g → ad g s = base + ix g s
theorem wq_D {ad : Nat → Nat → Nat} {cA : Nat → ClassId} {A : Nat → Prop} {base : Nat} (hA : AdP base ad) (h : ∀ q, base ≤ q → A q) (M : Mm) : va_D A (wq ad cA M) := by
  refine ⟨fun i j p q hi hj e => ?_, fun k q hk => ?_⟩
  · obtain ⟨a, ha, -, rfl⟩ := wq_of hi
    obtain ⟨b, hb, -, rfl⟩ := wq_of hj
    have h1 := hA _ _ (al_ix ha).1
    have h2 := hA _ _ (al_ix hb).1
    rw [(al_ix ha).2] at h1
    rw [(al_ix hb).2] at h2
    dsimp only at e
    omega
  · obtain ⟨a, ha, -, rfl⟩ := wq_of hk
    exact h _ (by rw [hA _ _ (al_ix ha).1]; omega)
def VQ (D : va_G) (ad : Nat → Nat → Nat) (cA : Nat → ClassId) (base n0 : Nat) (M : Mm) (H : Heap) : Prop := base + nof M ≤ H.size ∧ n0 ≤ nof M ∧ va_P D cls12 (wq ad cA M) H
/-- as J, in a world that grows: of the context's two numbers the first is where the cells begin, the second how many there were at the method's entry -/
def JP (x : Xc) (pc : Nat) (lo : Lo) (st : List AV) (M : Mm) : Prop := match x with
  | (p, l, e, R, s, m, args, below, meth, c, (base, n0), Q, D, ad, cA, A, nL) => ∀ (H : Heap) (locs : List Loc) (ls : Array Slot), VQ D ad cA base n0 M H → va_S A s.heap H locs → lvF ad ls nL lo → W p l e R s m args below meth c H locs (nof M - n0) (sls (nof M) - sls n0) Q (F0 m pc ls (st.map (cv ad)))
def CxP (x : Xc) (l0 : Launch) (b : ByteArray) (own : String) (n dd nm : Nat) : Prop := match x with
  | (p, l, _, R, s, m, args, _, meth, c, (base, n0), _, D, ad, cA, A, nL) => p.tables.exec = Jvm.exec ∧ c.code = b ∧ c.maxLocals = nL ∧ s.vm.findClass own = some m.cls ∧ (∀ w ∈ gT, w.before args s = true) ∧ va_K D cls12 (tysA cA) s ∧ AdP base ad ∧ (∀ q, base ≤ q → A q) ∧ s.heap.size = base + n0 ∧ (nm - n0 ≤ R.cells ∧ sls nm - sls n0 ≤ R.slots) ∧ meth.locks = false ∧ nL = n ∧ l = l0 ∧ (dd ≤ R.frames ∧ 100 * dd ≤ R.locals) ∧ (∀ w ∈ gN, va_Nw w s) ∧ va_AO RX8 s
def OkP (x : Xc) (pc : Nat) (kt : Kt) : Prop := ∀ (lo : Lo) (st : List AV) (M : Mm), kt lo st M → JP x pc lo st M
theorem okJP (x : Xc) (pc : Nat) : OkP x pc (JP x pc) := fun _ _ _ h => h
theorem W_sz {p : Program} {l : Launch} {e : Env} {R : Room} {s : State} {m : MethodId} {args : Array Value} {below : List Frame} {meth : Method} {c : Code} {H : Heap} {locs : List Loc} {cells slots : Nat} {Q : State → Prop} {g : JFrame} (h : H.size ≤ s.heap.size + cells → W p l e R s m args below meth c H locs cells slots Q g) : W p l e R s m args below meth c H locs cells slots Q g := fun T hT X => h (by rw [← hT]; exact X.same.2.2.1) T hT X
theorem S_rf {A : Nat → Prop} {H0 H : Heap} {locs : List Loc} (h : va_S A H0 H locs) : va_S A H H locs := ⟨Nat.le_refl _, fun _ _ _ => rfl, h.2.2⟩
theorem S_tr {A : Nat → Prop} {H0 H H1 : Heap} {locs locs1 : List Loc} (h : va_S A H0 H locs) (h1 : va_S A H H1 locs1) : va_S A H0 H1 locs1 := ⟨Nat.le_trans h.1 h1.1, fun q a b => by rw [h1.2.1 q (Nat.lt_of_lt_of_le a h.1) b]; exact h.2.1 q a b, h1.2.2⟩
/-! new -/
def dv (k : Nat) : Value := match k with
  | 0 => .int 0
  | 1 => .long 0
  | 2 => .int 0
  | _ => .null
theorem obP_nil (ad : Nat → Nat → Nat) {g s j : Nat} (h : j < (fkl g).length) : vp_V (obP ad g s (fun _ => 0)) j = dv ((fkl g).getD j 0) := by
  unfold vp_V obP
  rw [List.getD_eq_getElem?_getD, List.getElem?_map, List.getElem?_range h]
  show fvP ad ((fkl g).getD j 0) s 0 = _
  generalize (fkl g).getD j 0 = t
  match t with
  | 0 => rfl
  | 1 => rfl
  | 2 => rfl
  | k + 3 => rfl
def nwL (own : String) (i g : Nat) : Prop := ∃ (C : String) (T : u_T) (ty : Nat → FieldType), cls12[g]? = some (C, T, (fkl g).length) ∧ g < 12 ∧ Cond.classLink own i C ∈ gT ∧ Cond.instantiable C (fkl g).length ∈ gT ∧ Cond.initialized C ∈ gT ∧ (∀ w ∈ u_ws C T (fkl g).length, w ∈ gT) ∧ (∀ k, k < (fkl g).length → parseFieldDescriptor (T k).2.2.1 = some (ty k)) ∧ ∀ j, j < (fkl g).length → defaultValue (ty j) = dv ((fkl g).getD j 0)
def c_new (g s nm : Nat) (kt : Kt) : Kt := fun lo st M => s < cnt g ∧ M 99 0 0 = (ix g s : Int) ∧ ix g s < nm ∧ kt lo (zr g s :: st) (nw M g s)
def c_newE (g nm : Nat) (kt : Kt) : Kt := fun lo st M => ∃ s : Nat, c_new g s nm kt lo st M
theorem VQ_nw {D : va_G} {ad : Nat → Nat → Nat} {cA : Nat → ClassId} {base n0 : Nat} {M : Mm} {H H1 : Heap} {g s : Nat} (h : VQ D ad cA base n0 M H) (hs : s < cnt g) (hi : M 99 0 0 = (ix g s : Int)) (z1 : H1.size = H.size + 1) (o1 : ∀ q, q < H.size → H1[q]? = H[q]?) (hn : va_at D cls12 (ad g s, ceP ad cA g s (fun _ => 0)) H1) : VQ D ad cA base n0 (nw M g s) H1 := by
  obtain ⟨h1, h2, h3⟩ := h
  have hn' : nof M = ix g s := by unfold nof; omega
  refine ⟨by rw [z1, nof_nw]; omega, by rw [nof_nw]; omega, ?_⟩
  rw [wq_nw ad cA M hs hi]
  refine (h3.kept fun k x hx => o1 x.1 ((h3 k x hx).lt)).app fun k x hx => ?_
  have hz : k < 1 := (List.getElem?_eq_some_iff.mp hx).1
  rw [show k = 0 by omega] at hx
  cases hx
  exact hn
theorem S_nw {A : Nat → Prop} {H0 H H1 : Heap} {locs : List Loc} (hS : va_S A H0 H locs) (z1 : H1.size = H.size + 1) (o1 : ∀ q, q < H.size → H1[q]? = H[q]?) : va_S A H0 H1 locs := ⟨Nat.le_trans hS.1 (by omega), fun x h1 h2 => (o1 x (Nat.lt_of_lt_of_le h1 hS.1)).trans (hS.2.1 x h1 h2), hS.2.2⟩
theorem cn_nw {M : Mm} {g s n0 nm : Nat} (h0 : n0 ≤ nof M) (hs : s < cnt g) (hi : M 99 0 0 = (ix g s : Int)) (hm : ix g s < nm) : (nof (nw M g s) - n0 = nof M - n0 + 1 ∧ sls (nof (nw M g s)) - sls n0 = sls (nof M) - sls n0 + osl g) ∧ (nof M - n0 + 1 ≤ nm - n0 ∧ sls (nof M) - sls n0 + osl g ≤ sls nm - sls n0) := by
  have hn' : nof M = ix g s := by unfold nof; omega
  have e1 := sls_succ (ix_al hs)
  rw [hn'] at h0
  have e2 := sls_mono h0
  have e3 := sls_mono (show ix g s + 1 ≤ nm from hm)
  rw [nof_nw, hn']
  omega
theorem ad_sz {D : va_G} {ad : Nat → Nat → Nat} {cA : Nat → ClassId} {base n0 : Nat} {M : Mm} {H : Heap} {s : State} {g s0 : Nat} (hD : AdP base ad) (hs : s0 < cnt g) (hi : M 99 0 0 = (ix g s0 : Int)) (hc : s.heap.size = base + n0) (hz : H.size ≤ s.heap.size + (nof M - n0)) (hP : VQ D ad cA base n0 M H) : ad g s0 = H.size := by
  have h1 := hP.1
  have h2 := hP.2.1
  have h3 : nof M = ix g s0 := by unfold nof; omega
  rw [hD g s0 hs]
  omega
theorem p_new {x : Xc} {l0 : Launch} {b : ByteArray} {own : String} {nl dd nm : Nat} {pc : Nat} {kt : Kt} {i g s0 : Nat} (C : CxP x l0 b own nl dd nm) (hd : decode b pc = .ok (.new i, 3)) (hw : nwL own i g) (h0 : OkP x (pc + 3) kt) : OkP x pc (c_new g s0 nm kt) := by
  intro lo st M hk
  obtain ⟨hs, hi, hm, hk⟩ := hk
  obtain ⟨p, l, e, R, s, m, args, below, meth, c, ⟨base, n0⟩, Q, D, ad, cA, A, nL⟩ := x
  obtain ⟨hx, hb, hml, hown, hts, hK, hD, hA, hc1, hc2, hlk, hnl, hll, hrm, hN⟩ := C
  obtain ⟨Cn, T, ty, hc, hg, hcl, hin, hini, hws, hty, hdf⟩ := hw
  intro H locs ls hP hS hl
  have hKn := hK.1 g _ hc
  refine W_sz fun hsz => ?_
  obtain ⟨⟨q1, q2⟩, q3, q4⟩ := cn_nw hP.2.1 hs hi hm
  refine W.newcK hx hb hown (hts _ hcl) (hts _ hin) (hts _ hini) rfl hd (by omega) (by rw [show (fkl g).length = osl g from (if_pos hg).symm]; omega) hKn.2.1 rfl fun H1 kC hkC e1 z1 o1 => ?_
  have had : ad g s0 = H.size := ad_sz hD hs hi hc1 hsz hP
  have q := h0 lo _ _ hk H1 locs ls (VQ_nw hP hs hi z1 o1 ?_) (S_nw hS z1 o1) hl
  · rw [q1, q2] at q
    simp only [List.map, cv, had] at q
    rw [show osl g = (fkl g).length from if_pos hg] at q
    exact q
  · rw [ceP_ob ad cA s0 _ hg, had]
    exact ⟨_, hc, (u_born ty hts hws hKn hkC e1 hty).to fun j hj => by rw [obP_nil ad hj]; exact hdf j hj⟩
theorem p_newE {x : Xc} {l0 : Launch} {b : ByteArray} {own : String} {nl dd nm : Nat} {pc : Nat} {kt : Kt} {i g : Nat} (C : CxP x l0 b own nl dd nm) (hd : decode b pc = .ok (.new i, 3)) (hw : nwL own i g) (h0 : OkP x (pc + 3) kt) : OkP x pc (c_newE g nm kt) := fun lo st M ⟨s0, hk⟩ => p_new C hd hw h0 lo st M hk
def c_newa (g s nm : Nat) (kt : Kt) : Kt := fun lo st M => match st with
  | .inl (.inl z) :: r => z = alen g ∧ s < cnt g ∧ M 99 0 0 = (ix g s : Int) ∧ ix g s < nm ∧ kt lo (zr g s :: r) (nw M g s)
  | _ => False
def c_newaE (g nm : Nat) (kt : Kt) : Kt := fun lo st M => ∃ s : Nat, c_newa g s nm kt lo st M
theorem p_newa_int {x : Xc} {l0 : Launch} {b : ByteArray} {own : String} {nl dd nm : Nat} {pc : Nat} {kt : Kt} {g s0 : Nat} (C : CxP x l0 b own nl dd nm) (hd : decode b pc = .ok (.newarray .int, 2)) (hw : Cond.arrayClass .int ∈ gT) (hg : 12 ≤ g) (ht : aty g = 0) (h0 : OkP x (pc + 2) kt) : OkP x pc (c_newa g s0 nm kt) := by
  intro lo st M hk
  match st, hk with
  | .inl (.inl z) :: r, ⟨hz, hs, hi, hm, hk⟩ =>
    subst hz
    obtain ⟨p, l, e, R, s, m, args, below, meth, c, ⟨base, n0⟩, Q, D, ad, cA, A, nL⟩ := x
    obtain ⟨hx, hb, hml, hown, hts, hK, hD, hA, hc1, hc2, hlk, hnl, hll, hrm, hN⟩ := C
    intro H locs ls hP hS hl
    refine W_sz fun hsz => ?_
    have hR := alen_lt g
    have hi2 : iR (alen g : Int) := ⟨by omega, by omega⟩
    obtain ⟨⟨q1, q2⟩, q3, q4⟩ := cn_nw hP.2.1 hs hi hm
    have ho : osl g = alen g := if_neg (by omega)
    refine va_newaK (atype := .int) hx hb (hts _ hw) rfl hd (n := Int32.ofInt (alen g)) (N := alen g) rfl (by rw [← iR_zero, iR_lt hi2 iR0]; omega) (by rw [iR_cl hi2 (by omega)]; omega) (by show alen g * 4 ≤ _; omega) (by omega) (by omega) rfl fun H1 cA' e1 z1 o1 hAr hNm => ?_
    have hcA : cA' = cA 0 := Option.some.inj (hNm.symm.trans (hK.2 0 (cA 0, .int) rfl).2)
    subst hcA
    have had : ad g s0 = H.size := ad_sz hD hs hi hc1 hsz hP
    have q := h0 lo _ _ hk H1 locs ls (VQ_nw hP hs hi z1 o1 ?_) (S_nw hS z1 o1) hl
    · rw [q1, q2, ho] at q
      simp only [List.map, cv, had] at q
      exact q
    · rw [ceP_ar ad cA s0 _ hg, had, ht]
      exact e1
theorem p_newaE_int {x : Xc} {l0 : Launch} {b : ByteArray} {own : String} {nl dd nm : Nat} {pc : Nat} {kt : Kt} {g : Nat} (C : CxP x l0 b own nl dd nm) (hd : decode b pc = .ok (.newarray .int, 2)) (hw : Cond.arrayClass .int ∈ gT) (hg : 12 ≤ g) (ht : aty g = 0) (h0 : OkP x (pc + 2) kt) : OkP x pc (c_newaE g nm kt) := fun lo st M ⟨s0, hk⟩ => p_newa_int C hd hw hg ht h0 lo st M hk
theorem p_newa_long {x : Xc} {l0 : Launch} {b : ByteArray} {own : String} {nl dd nm : Nat} {pc : Nat} {kt : Kt} {g s0 : Nat} (C : CxP x l0 b own nl dd nm) (hd : decode b pc = .ok (.newarray .long, 2)) (hw : Cond.arrayClass .long ∈ gT) (hg : 12 ≤ g) (ht : aty g = 1) (h0 : OkP x (pc + 2) kt) : OkP x pc (c_newa g s0 nm kt) := by
  intro lo st M hk
  match st, hk with
  | .inl (.inl z) :: r, ⟨hz, hs, hi, hm, hk⟩ =>
    subst hz
    obtain ⟨p, l, e, R, s, m, args, below, meth, c, ⟨base, n0⟩, Q, D, ad, cA, A, nL⟩ := x
    obtain ⟨hx, hb, hml, hown, hts, hK, hD, hA, hc1, hc2, hlk, hnl, hll, hrm, hN⟩ := C
    intro H locs ls hP hS hl
    refine W_sz fun hsz => ?_
    have hR := alen_lt g
    have hi2 : iR (alen g : Int) := ⟨by omega, by omega⟩
    obtain ⟨⟨q1, q2⟩, q3, q4⟩ := cn_nw hP.2.1 hs hi hm
    have ho : osl g = alen g := if_neg (by omega)
    refine va_newaK (atype := .long) hx hb (hts _ hw) rfl hd (n := Int32.ofInt (alen g)) (N := alen g) rfl (by rw [← iR_zero, iR_lt hi2 iR0]; omega) (by rw [iR_cl hi2 (by omega)]; omega) (by show alen g * 8 ≤ _; omega) (by omega) (by omega) rfl fun H1 cA' e1 z1 o1 hAr hNm => ?_
    have hcA : cA' = cA 1 := Option.some.inj (hNm.symm.trans (hK.2 1 (cA 1, .long) rfl).2)
    subst hcA
    have had : ad g s0 = H.size := ad_sz hD hs hi hc1 hsz hP
    have q := h0 lo _ _ hk H1 locs ls (VQ_nw hP hs hi z1 o1 ?_) (S_nw hS z1 o1) hl
    · rw [q1, q2, ho] at q
      simp only [List.map, cv, had] at q
      exact q
    · rw [ceP_ar ad cA s0 _ hg, had, ht]
      exact e1
theorem p_newaE_long {x : Xc} {l0 : Launch} {b : ByteArray} {own : String} {nl dd nm : Nat} {pc : Nat} {kt : Kt} {g : Nat} (C : CxP x l0 b own nl dd nm) (hd : decode b pc = .ok (.newarray .long, 2)) (hw : Cond.arrayClass .long ∈ gT) (hg : 12 ≤ g) (ht : aty g = 1) (h0 : OkP x (pc + 2) kt) : OkP x pc (c_newaE g nm kt) := fun lo st M ⟨s0, hk⟩ => p_newa_long C hd hw hg ht h0 lo st M hk
theorem p_newa_boolean {x : Xc} {l0 : Launch} {b : ByteArray} {own : String} {nl dd nm : Nat} {pc : Nat} {kt : Kt} {g s0 : Nat} (C : CxP x l0 b own nl dd nm) (hd : decode b pc = .ok (.newarray .boolean, 2)) (hw : Cond.arrayClass .boolean ∈ gT) (hg : 12 ≤ g) (ht : aty g = 2) (h0 : OkP x (pc + 2) kt) : OkP x pc (c_newa g s0 nm kt) := by
  intro lo st M hk
  match st, hk with
  | .inl (.inl z) :: r, ⟨hz, hs, hi, hm, hk⟩ =>
    subst hz
    obtain ⟨p, l, e, R, s, m, args, below, meth, c, ⟨base, n0⟩, Q, D, ad, cA, A, nL⟩ := x
    obtain ⟨hx, hb, hml, hown, hts, hK, hD, hA, hc1, hc2, hlk, hnl, hll, hrm, hN⟩ := C
    intro H locs ls hP hS hl
    refine W_sz fun hsz => ?_
    have hR := alen_lt g
    have hi2 : iR (alen g : Int) := ⟨by omega, by omega⟩
    obtain ⟨⟨q1, q2⟩, q3, q4⟩ := cn_nw hP.2.1 hs hi hm
    have ho : osl g = alen g := if_neg (by omega)
    refine va_newaK (atype := .boolean) hx hb (hts _ hw) rfl hd (n := Int32.ofInt (alen g)) (N := alen g) rfl (by rw [← iR_zero, iR_lt hi2 iR0]; omega) (by rw [iR_cl hi2 (by omega)]; omega) (by show alen g * 1 ≤ _; omega) (by omega) (by omega) rfl fun H1 cA' e1 z1 o1 hAr hNm => ?_
    have hcA : cA' = cA 2 := Option.some.inj (hNm.symm.trans (hK.2 2 (cA 2, .boolean) rfl).2)
    subst hcA
    have had : ad g s0 = H.size := ad_sz hD hs hi hc1 hsz hP
    have q := h0 lo _ _ hk H1 locs ls (VQ_nw hP hs hi z1 o1 ?_) (S_nw hS z1 o1) hl
    · rw [q1, q2, ho] at q
      simp only [List.map, cv, had] at q
      exact q
    · rw [ceP_ar ad cA s0 _ hg, had, ht]
      exact e1
theorem p_newaE_boolean {x : Xc} {l0 : Launch} {b : ByteArray} {own : String} {nl dd nm : Nat} {pc : Nat} {kt : Kt} {g : Nat} (C : CxP x l0 b own nl dd nm) (hd : decode b pc = .ok (.newarray .boolean, 2)) (hw : Cond.arrayClass .boolean ∈ gT) (hg : 12 ≤ g) (ht : aty g = 2) (h0 : OkP x (pc + 2) kt) : OkP x pc (c_newaE g nm kt) := fun lo st M ⟨s0, hk⟩ => p_newa_boolean C hd hw hg ht h0 lo st M hk
/-! the array of references -/
theorem p_newq {x : Xc} {l0 : Launch} {b : ByteArray} {own : String} {nl dd nm : Nat} {pc : Nat} {kt : Kt} {i : Nat} (C : CxP x l0 b own nl dd nm) (hd : decode b pc = .ok (.anewarray i, 3)) (hw : Cond.classLink own i RX8 ∈ gT) (h0 : OkP x (pc + 3) kt) : OkP x pc (c_newa 30 0 nm kt) := by
  intro lo st M hk
  match st, hk with
  | .inl (.inl z) :: r, ⟨hz, hs, hi, hm, hk⟩ =>
    subst hz
    obtain ⟨p, l, e, R, s, m, args, below, meth, c, ⟨base, n0⟩, Q, D, ad, cA, A, nL⟩ := x
    obtain ⟨hx, hb, hml, hown, hts, hK, hD, hA, hc1, hc2, hlk, hnl, hll, hrm, hN, hO⟩ := C
    intro H locs ls hP hS hl
    refine W_sz fun hsz => ?_
    obtain ⟨⟨q1, q2⟩, q3, q4⟩ := cn_nw hP.2.1 hs hi hm
    have ho : osl 30 = 8 := rfl
    have hcl : (Int32.ofInt (alen 30 : Int)).toNatClampNeg = 8 := by decide
    refine W.anew hx hb hown (hts _ hw) (va_AO.use hO) rfl hd (n := Int32.ofInt (alen 30 : Int)) rfl (by decide) (by rw [hcl]; decide) (by omega) (by rw [hcl]; omega) fun cA' kA comp f1 f2 f3 f4 => ?_
    rw [hcl]
    generalize hH1 : H.push ({ cls := cA', slots := Array.replicate 8 .null, vm := .none } : Cell) = H1
    have z1 : H1.size = H.size + 1 := by rw [← hH1, Array.size_push]
    have e1 : H1[H.size]? = some (arrV cA' 8 (fun _ => .null)) := by rw [← hH1, Array.getElem?_push_size, ← arrV_new]
    have o1 : ∀ q : Nat, q < H.size → H1[q]? = H[q]? := fun q hq => by rw [← hH1, Array.getElem?_push, if_neg (Nat.ne_of_lt hq)]
    have hcA : cA' = cA 3 := by
      obtain ⟨kA2, comp2, g1, g2, g3, g4⟩ := (hK.2 3 (cA 3, .object "CloudBench$Sample") rfl).2
      exact Option.some.inj (f1.symm.trans g4)
    subst hcA
    have had : ad 30 0 = H.size := ad_sz hD hs hi hc1 hsz hP
    have q := h0 lo _ _ hk H1 locs ls (VQ_nw hP hs hi z1 o1 ?_) (S_nw hS z1 o1) hl
    · rw [q1, q2, ho] at q
      simp only [List.map, cv, had] at q
      exact q
    · rw [ceP_ar ad cA 0 _ (by decide), had]
      exact e1
/-! Object's constructor, constants -/
def c_oinit (kt : Kt) : Kt := fun lo st M => match st with
  | .inr (some _) :: r => scat r ≤ 8 ∧ kt lo r M
  | _ => False
theorem p_oinit {x : Xc} {l0 : Launch} {b : ByteArray} {own : String} {nl dd nm : Nat} {pc : Nat} {kt : Kt} {i : Nat} (C : CxP x l0 b own nl dd nm) (hd : decode b pc = .ok (.invokespecial i, 3)) (hw : Cond.methodLink own i Lib.objectInit ∈ gT) (hw2 : Cond.instanceMethod Lib.objectInit ∈ gT) (hw3 : Cond.code Lib.objectInit ⟨#[0xb1]⟩ 1 none ∈ gT) (hdd : 1 ≤ dd) (h0 : OkP x (pc + 3) kt) : OkP x pc (c_oinit kt) := by
  intro lo st M hk
  match st, hk with
  | .inr (some q) :: r, ⟨h8, hk⟩ =>
    obtain ⟨p, l, e, R, s, m, args, below, meth, c, ⟨base, n0⟩, Q, D, ad, cA, A, nL⟩ := x
    obtain ⟨hx, hb, hml, hown, hts, hK, hD, hA, hc1, hc2, hlk, hnl, hll, hrm, hN⟩ := C
    intro H locs ls hP hS hl
    have e8 := scat_eq ad r
    exact W.objInit hx hb hown (hts _ hw) (hts _ hw2) (hts _ hw3) rfl (by rw [hml]; exact hl.1) (a := ad q.1 q.2) (rest := r.map (cv ad)) rfl hd (by omega) (by show 2 * 0 + _ + 12 ≤ _; omega) (h0 lo r M hk H locs ls hP hS hl)
theorem p_ldc {x : Xc} {l0 : Launch} {b : ByteArray} {own : String} {nl dd nm : Nat} {pc : Nat} {kt : Kt} {i : Nat} {z : Int} {v : Int32} (C : CxP x l0 b own nl dd nm) (hd : decode b pc = .ok (.ldc i, 2)) (hw : Cond.constant own i v ∈ gT) (hv : v = Int32.ofInt z) (h : OkP x (pc + 2) kt) : OkP x pc (c_ic z kt) := by
  intro lo st M hk
  obtain ⟨p, l, e, R, s, m, args, below, meth, c, ⟨base, n0⟩, Q, D, ad, cA, A, nL⟩ := x
  obtain ⟨hx, hb, hml, hown, hts, hK, hD, hA, hc1, hc2, hlk, hnl, hll, hrm, hN⟩ := C
  subst hv
  intro H locs ls hP hS hl
  exact lv_ldc hx hb hown (hts _ hw) hd (h lo _ M hk H locs ls hP hS hl)
/-! fields -/
theorem obP_len (ad : Nat → Nat → Nat) (g s : Nat) (f : Nat → Int) : (obP ad g s f).length = (fkl g).length := by simp [obP]
theorem obP_at (ad : Nat → Nat → Nat) {g s k t : Nat} (f : Nat → Int) (h : (fkl g)[k]? = some t) : (obP ad g s f)[k]? = some (fvP ad t s (f k)) := by
  have hk : k < (fkl g).length := (List.getElem?_eq_some_iff.mp h).1
  unfold obP
  rw [List.getElem?_map, List.getElem?_range hk]
  simp [List.getD_eq_getElem?_getD, h]
theorem obP_set (ad : Nat → Nat → Nat) {g s k t : Nat} (f : Nat → Int) (z : Int) (h : (fkl g)[k]? = some t) : (obP ad g s f).set k (fvP ad t s z) = obP ad g s (fun j => if j = k then z else f j) := by
  have hk : k < (fkl g).length := (List.getElem?_eq_some_iff.mp h).1
  refine List.ext_getElem? fun i => ?_
  rw [List.getElem?_set]
  by_cases hi : k = i
  · subst hi
    rw [if_pos rfl, if_pos (by rw [obP_len]; exact hk), obP_at ad _ h]
    simp
  · rw [if_neg hi]
    unfold obP
    rw [List.getElem?_map, List.getElem?_map]
    cases hq : (List.range (fkl g).length)[i]? with
    | none => rfl
    | some j =>
      have : j = i := by
        obtain ⟨_, e⟩ := List.getElem?_eq_some_iff.mp hq
        rw [List.getElem_range] at e
        exact e.symm
      subst this
      simp only [Option.map_some, if_neg (fun q : j = k => hi q.symm)]
def c_grP (ci k h : Nat) (kt : Kt) : Kt := fun lo st M => match st with
  | .inr (some (g, s)) :: r => g = ci ∧ s < cnt ci ∧ (ix ci s : Int) < M 99 0 0 ∧ M ci s k = 1 ∧ kt lo (zr h s :: r) M
  | _ => False
theorem p_gr {x : Xc} {l0 : Launch} {b : ByteArray} {own : String} {nl dd nm : Nat} {pc : Nat} {kt : Kt} {i ci k h : Nat} (C : CxP x l0 b own nl dd nm) (hd : decode b pc = .ok (.getfield i, 3)) (hf : fLk own i ci k) (hty : (fkl ci)[k]? = some (h + 3)) (h0 : OkP x (pc + 3) kt) : OkP x pc (c_grP ci k h kt) := by
  intro lo st M hk
  obtain ⟨p, l, e, R, s, m, args, below, meth, c, ⟨base, n0⟩, Q, D, ad, cA, A, nL⟩ := x
  obtain ⟨hx, hb, hml, hown, hts, hK, hD, hA, hc1, hc2, hlk, hnl, hll, hrm, hN, hO⟩ := C
  obtain ⟨hci, Cn, T, N, hc, hkN, hin, hlink⟩ := hf
  match st, hk with
  | .inr (some (g, s')) :: r, ⟨hg, hs, hix, h1, hk2⟩ =>
    subst hg
    intro H locs ls hP hS hl
    have hw := wq_at ad cA M hs hix
    rw [ceP_ob ad cA _ _ hci] at hw
    have hv := obP_at ad (s := s') (M g s') hty
    rw [h1] at hv
    rcases hlink with hlink | ⟨host, hlink⟩
    · exact va_get (D := D) (tys := tysA cA) (T := T) hx hb hts hin hown hK hP.2.2 (ix g s') hw hc k hkN (hts _ hlink) (fun _ z => z) hv hd (h0 lo _ M hk2 H locs ls hP hS hl)
    · exact va_getN (D := D) (tys := tysA cA) (T := T) hx hb hts hin hown hK hP.2.2 (ix g s') hw hc k hkN (va_Nw.use rfl (hN _ hlink)) (fun _ z => z) hv hd (h0 lo _ M hk2 H locs ls hP hS hl)
/-- the method is a constructor -/
def iNx (x : Xc) : Prop := match x with
  | (_, _, _, _, _, _, _, _, meth, _) => meth.name = "<init>"
/-- what a put into a final field needs more -/
def fPr (own : String) (i ci k : Nat) : Prop := ∃ (C : String) (T : u_T) (N : Nat), cls12[ci]? = some (C, T, N) ∧ k < N ∧ (∀ w ∈ u_ws C T N, w ∈ gT) ∧ Cond.fieldLink own i (T k).1 (T k).2.1 (T k).2.2.1 ∈ gT ∧ ci < 12 ∧ (T k).2.2.2 = true ∧ (T k).1 = own ∧ ∃ (ty : FieldType) (ty0 : Nat → FieldType), parseFieldDescriptor (T k).2.2.1 = some ty ∧ (∀ a : Nat, narrow ty (.ref a) = .ref a ∧ fits ty (.ref a) = true) ∧ (∀ k, k < N → parseFieldDescriptor (T k).2.2.1 = some (ty0 k)) ∧ ∀ a, a < N → ∀ b, b < N → a ≠ b → (T a).2.1 ≠ (T b).2.1
def c_pr (ci k h : Nat) (kt : Kt) : Kt := fun lo st M => match st with
  | .inr (some (g2, s2)) :: .inr (some (g, s)) :: r => (g = ci ∧ g2 = h ∧ s2 = s) ∧ s < cnt ci ∧ (ix ci s : Int) < M 99 0 0 ∧ kt lo r (stm M ci s k 1)
  | _ => False
theorem VQ_st {D : va_G} {ad : Nat → Nat → Nat} {cA : Nat → ClassId} {base n0 : Nat} {M : Mm} {H H1 : Heap} {g s k : Nat} {v : Int} (h : VQ D ad cA base n0 M H) (hs : s < cnt g) (hi : (ix g s : Int) < M 99 0 0) (hz : H.size ≤ H1.size) (hP : va_P D cls12 ((wq ad cA M).set (ix g s) (ad g s, ceP ad cA g s (fun j => if j = k then v else M g s j))) H1) : VQ D ad cA base n0 (stm M g s k v) H1 := by
  rw [wq_set ad cA M hs hi, ← stm_stc] at hP
  exact ⟨by rw [nof_stm M hs]; exact Nat.le_trans h.1 hz, by rw [nof_stm M hs]; exact h.2.1, hP⟩
theorem p_pr {x : Xc} {l0 : Launch} {b : ByteArray} {own : String} {nl dd nm : Nat} {pc : Nat} {kt : Kt} {i ci k h : Nat} (C : CxP x l0 b own nl dd nm) (I : iNx x) (hd : decode b pc = .ok (.putfield i, 3)) (hf : fPr own i ci k) (hty : (fkl ci)[k]? = some (h + 3)) (h0 : OkP x (pc + 3) kt) : OkP x pc (c_pr ci k h kt) := by
  intro lo st M hk
  obtain ⟨p, l, e, R, s, m, args, below, meth, c, ⟨base, n0⟩, Q, D, ad, cA, A, nL⟩ := x
  obtain ⟨hx, hb, hml, hown, hts, hK, hD, hA, hc1, hc2, hlk, hnl, hll, hrm, hN, hO⟩ := C
  obtain ⟨Cn, T, N, hc, hkN, hin, hlink, hci, hfin, hdecl, ty, ty0, hpd, hnf, hty0, hnm⟩ := hf
  match st, hk with
  | .inr (some (g2, s2)) :: .inr (some (g, s')) :: r, ⟨⟨e1, e2, e3⟩, hs, hix, hk2⟩ =>
    subst e1; subst e2; subst e3
    intro H locs ls hP hS hl
    have hw := wq_at ad cA M hs hix
    rw [ceP_ob ad cA _ _ hci] at hw
    have hlen : k < (obP ad g s2 (M g s2)).length := by rw [obP_len]; exact (List.getElem?_eq_some_iff.mp hty).1
    refine va_putF (D := D) (tys := tysA cA) (T := T) (v := .ref (ad g2 s2)) (ty := ty) hx hb hts hin ty0 hty0 hnm hown hK hP.2.2 (wq_D hD hA M) (S_rf hS) (ix g s2) hw hc k hkN (hts _ hlink) (fun _ z => z) hfin I hdecl hpd (hnf _).1 (hnf _).2 hlen hd (fun H1 locs1 hP1 _ hS1 => ?_)
    have e1 : (obP ad g s2 (M g s2)).set k (.ref (ad g2 s2)) = obP ad g s2 (fun j => if j = k then 1 else M g s2 j) := obP_set ad (t := g2 + 3) _ 1 hty
    rw [e1, ← ceP_ob ad cA s2 _ hci] at hP1
    have q := h0 lo _ _ hk2 H1 locs1 ls (VQ_st hP hs hix hS1.1 hP1) (S_tr hS hS1) hl
    rw [nof_stm M hs] at q
    exact q
def c_piP (ci k : Nat) (kt : Kt) : Kt := fun lo st M => match st with
  | .inl (.inl z) :: .inr (some (g, s)) :: r => g = ci ∧ s < cnt ci ∧ (ix ci s : Int) < M 99 0 0 ∧ kt lo r (stm M ci s k z)
  | _ => False
theorem p_pi {x : Xc} {l0 : Launch} {b : ByteArray} {own : String} {nl dd nm : Nat} {pc : Nat} {kt : Kt} {i ci k : Nat} (C : CxP x l0 b own nl dd nm) (hd : decode b pc = .ok (.putfield i, 3)) (hf : fLk own i ci k) (hfp : fPk ci k .int) (hty : (fkl ci)[k]? = some 0) (h0 : OkP x (pc + 3) kt) : OkP x pc (c_piP ci k kt) := by
  intro lo st M hk
  obtain ⟨p, l, e, R, s, m, args, below, meth, c, ⟨base, n0⟩, Q, D, ad, cA, A, nL⟩ := x
  obtain ⟨hx, hb, hml, hown, hts, hK, hD, hA, hc1, hc2, hlk, hnl, hll, hrm, hN, hO⟩ := C
  obtain ⟨hci, Cn, T, N, hc, hkN, hin, hlink⟩ := hf
  obtain ⟨hfin, hpd, ty0, hty0, hnm⟩ := hfp Cn T N hc
  match st, hk with
  | .inl (.inl z) :: .inr (some (g, s')) :: r, ⟨hg, hs, hix, hk2⟩ =>
    subst hg
    intro H locs ls hP hS hl
    have hw := wq_at ad cA M hs hix
    rw [ceP_ob ad cA _ _ hci] at hw
    have hlen : k < (obP ad g s' (M g s')).length := by rw [obP_len]; exact (List.getElem?_eq_some_iff.mp hty).1
    have fin : ∀ (H1 : Heap) (locs1 : List Loc), va_P D cls12 ((wq ad cA M).set (ix g s') (ad g s', .inr (g, (obP ad g s' (M g s')).set k (.int (Int32.ofInt z))))) H1 → va_S A H H1 locs1 → W p l e R s m args below meth c H1 locs1 (nof M - n0) (sls (nof M) - sls n0) Q (F0 m (pc + 3) ls (r.map (cv ad))) := fun H1 locs1 hP1 hS1 => by
      have e1 : (obP ad g s' (M g s')).set k (.int (Int32.ofInt z)) = obP ad g s' (fun j => if j = k then z else M g s' j) := obP_set ad (t := 0) _ z hty
      rw [e1, ← ceP_ob ad cA s' _ hci] at hP1
      have q := h0 lo _ _ hk2 H1 locs1 ls (VQ_st hP hs hix hS1.1 hP1) (S_tr hS hS1) hl
      rw [nof_stm M hs] at q
      exact q
    rcases hlink with hlink | ⟨host, hlink⟩
    · exact va_put (D := D) (tys := tysA cA) (T := T) (v := .int (Int32.ofInt z)) hx hb hts hin ty0 hty0 hnm hown hK hP.2.2 (wq_D hD hA M) (S_rf hS) (ix g s') hw hc k hkN (hts _ hlink) (fun _ z => z) hfin hpd rfl rfl hlen hd (fun H1 locs1 hP1 _ hS1 => fin H1 locs1 hP1 hS1)
    · exact va_putN (D := D) (tys := tysA cA) (T := T) (v := .int (Int32.ofInt z)) hx hb hts hin ty0 hty0 hnm hown hK hP.2.2 (wq_D hD hA M) (S_rf hS) (ix g s') hw hc k hkN (va_Nw.use rfl (hN _ hlink)) (fun _ z => z) hfin hpd rfl rfl hlen hd (fun H1 locs1 hP1 _ hS1 => fin H1 locs1 hP1 hS1)
/-! arrays -/
def c_laldP (kt : Kt) : Kt := fun lo st M => match st with
  | .inl (.inl i) :: .inr (some (g, s)) :: r => aty g = 1 ∧ 12 ≤ g ∧ s < cnt g ∧ (ix g s : Int) < M 99 0 0 ∧ (0 ≤ i ∧ i < alen g) ∧ kt lo (zl (M g s i.toNat) :: r) M
  | _ => False
theorem p_lald {x : Xc} {l0 : Launch} {b : ByteArray} {own : String} {nl dd nm : Nat} {pc : Nat} {kt : Kt} (C : CxP x l0 b own nl dd nm) (hd : decode b pc = .ok (.laload, 1)) (h0 : OkP x (pc + 1) kt) : OkP x pc (c_laldP kt) := by
  intro lo st M hk
  obtain ⟨p, l, e, R, s, m, args, below, meth, c, ⟨base, n0⟩, Q, D, ad, cA, A, nL⟩ := x
  obtain ⟨hx, hb, hml, hown, hts, hK, hD, hA, hc1, hc2, hlk, hnl, hll, hrm, hN, hO⟩ := C
  match st, hk with
  | .inl (.inl i) :: .inr (some (g, s')) :: r, ⟨ht, hg, hs, hix, hi, hk⟩ =>
    intro H locs ls hP hS hl
    have hw := wq_at ad cA M hs hix
    obtain ⟨hin, hcl⟩ := ix_in hi
    rw [ceP_ar ad cA _ _ hg, ht] at hw
    have q := h0 lo _ M hk H locs ls hP hS hl
    rw [← hcl] at q
    exact va_lald (D := D) (tys := tysA cA) hx hb hK hP.2.2 (ix g s') 1 hw rfl hin hd q
def c_lastP (kt : Kt) : Kt := fun lo st M => match st with
  | .inl (.inr z) :: .inl (.inl i) :: .inr (some (g, s)) :: r => aty g = 1 ∧ 12 ≤ g ∧ s < cnt g ∧ (ix g s : Int) < M 99 0 0 ∧ (0 ≤ i ∧ i < alen g) ∧ kt lo r (stm M g s i.toNat z)
  | _ => False
theorem p_last {x : Xc} {l0 : Launch} {b : ByteArray} {own : String} {nl dd nm : Nat} {pc : Nat} {kt : Kt} (C : CxP x l0 b own nl dd nm) (hd : decode b pc = .ok (.lastore, 1)) (h0 : OkP x (pc + 1) kt) : OkP x pc (c_lastP kt) := by
  intro lo st M hk
  obtain ⟨p, l, e, R, s, m, args, below, meth, c, ⟨base, n0⟩, Q, D, ad, cA, A, nL⟩ := x
  obtain ⟨hx, hb, hml, hown, hts, hK, hD, hA, hc1, hc2, hlk, hnl, hll, hrm, hN, hO⟩ := C
  match st, hk with
  | .inl (.inr z) :: .inl (.inl i) :: .inr (some (g, s')) :: r, ⟨ht, hg, hs, hix, hi, hk⟩ =>
    intro H locs ls hP hS hl
    have hw := wq_at ad cA M hs hix
    obtain ⟨hin, hcl⟩ := ix_in hi
    rw [ceP_ar ad cA _ _ hg, ht] at hw
    refine va_last (D := D) (tys := tysA cA) hx hb hK hP.2.2 (wq_D hD hA M) (S_rf hS) (ix g s') 1 hw rfl hin hd (fun H1 locs1 hP1 _ hS1 => ?_)
    rw [updL_st, hcl] at hP1
    have e1 : (Sum.inl (arP ad cA 1 (alen g) (fun j => if j = i.toNat then z else M g s' j)) : va_E) = ceP ad cA g s' (fun j => if j = i.toNat then z else M g s' j) := by rw [ceP_ar ad cA _ _ hg, ht]
    have hP2 : va_P D cls12 ((wq ad cA M).set (ix g s') (ad g s', ceP ad cA g s' (fun j => if j = i.toNat then z else M g s' j))) H1 := by rw [← e1]; exact hP1
    have q := h0 lo _ _ hk H1 locs1 ls (VQ_st hP hs hix hS1.1 hP2) (S_tr hS hS1) hl
    rw [nof_stm M hs] at q
    exact q
def c_iastP (kt : Kt) : Kt := fun lo st M => match st with
  | .inl (.inl z) :: .inl (.inl i) :: .inr (some (g, s)) :: r => aty g = 0 ∧ 12 ≤ g ∧ s < cnt g ∧ (ix g s : Int) < M 99 0 0 ∧ (0 ≤ i ∧ i < alen g) ∧ kt lo r (stm M g s i.toNat z)
  | _ => False
theorem p_iast {x : Xc} {l0 : Launch} {b : ByteArray} {own : String} {nl dd nm : Nat} {pc : Nat} {kt : Kt} (C : CxP x l0 b own nl dd nm) (hd : decode b pc = .ok (.iastore, 1)) (h0 : OkP x (pc + 1) kt) : OkP x pc (c_iastP kt) := by
  intro lo st M hk
  obtain ⟨p, l, e, R, s, m, args, below, meth, c, ⟨base, n0⟩, Q, D, ad, cA, A, nL⟩ := x
  obtain ⟨hx, hb, hml, hown, hts, hK, hD, hA, hc1, hc2, hlk, hnl, hll, hrm, hN, hO⟩ := C
  match st, hk with
  | .inl (.inl z) :: .inl (.inl i) :: .inr (some (g, s')) :: r, ⟨ht, hg, hs, hix, hi, hk⟩ =>
    intro H locs ls hP hS hl
    have hw := wq_at ad cA M hs hix
    obtain ⟨hin, hcl⟩ := ix_in hi
    rw [ceP_ar ad cA _ _ hg, ht] at hw
    refine va_iast (D := D) (tys := tysA cA) hx hb hK hP.2.2 (wq_D hD hA M) (S_rf hS) (ix g s') 0 hw rfl hin hd (fun H1 locs1 hP1 _ hS1 => ?_)
    rw [upd_st, hcl] at hP1
    have e1 : (Sum.inl (arP ad cA 0 (alen g) (fun j => if j = i.toNat then z else M g s' j)) : va_E) = ceP ad cA g s' (fun j => if j = i.toNat then z else M g s' j) := by rw [ceP_ar ad cA _ _ hg, ht]
    have hP2 : va_P D cls12 ((wq ad cA M).set (ix g s') (ad g s', ceP ad cA g s' (fun j => if j = i.toNat then z else M g s' j))) H1 := by rw [← e1]; exact hP1
    have q := h0 lo _ _ hk H1 locs1 ls (VQ_st hP hs hix hS1.1 hP2) (S_tr hS hS1) hl
    rw [nof_stm M hs] at q
    exact q
/-- the samples' array -/
def c_aastP (kt : Kt) : Kt := fun lo st M => match st with
  | .inr (some (g2, s2)) :: .inl (.inl i) :: .inr (some (g, s)) :: r => (g2 = 8 ∧ g = 30 ∧ s = 0 ∧ i = s2) ∧ s2 < 8 ∧ (ix 30 0 : Int) < M 99 0 0 ∧ (ix 8 s2 : Int) < M 99 0 0 ∧ kt lo r (stm M 30 0 s2 1)
  | _ => False
theorem p_aast {x : Xc} {l0 : Launch} {b : ByteArray} {own : String} {nl dd nm : Nat} {pc : Nat} {kt : Kt} (C : CxP x l0 b own nl dd nm) (hd : decode b pc = .ok (.aastore, 1)) (h0 : OkP x (pc + 1) kt) : OkP x pc (c_aastP kt) := by
  intro lo st M hk
  obtain ⟨p, l, e, R, s, m, args, below, meth, c, ⟨base, n0⟩, Q, D, ad, cA, A, nL⟩ := x
  obtain ⟨hx, hb, hml, hown, hts, hK, hD, hA, hc1, hc2, hlk, hnl, hll, hrm, hN, hO⟩ := C
  match st, hk with
  | .inr (some (g2, s2)) :: .inl (.inl i) :: .inr (some (g, s')) :: r, ⟨⟨z1, z2, z3, z4⟩, h8, hix, hix2, hk⟩ =>
    subst z1; subst z2; subst z3; subst z4
    intro H locs ls hP hS hl
    have hw := wq_at ad cA M (g := 30) (s := 0) (by decide) hix
    have hw2 := wq_at ad cA M (g := 8) (s := s2) h8 hix2
    obtain ⟨hin, hcl⟩ := ix_in (g := 30) (i := (s2 : Int)) ⟨by omega, by show (s2 : Int) < 8; omega⟩
    rw [ceP_ar ad cA _ _ (by decide)] at hw
    rw [ceP_ob ad cA _ _ (by decide)] at hw2
    refine va_astq (D := D) (tys := tysA cA) hx hb hK hP.2.2 (wq_D hD hA M) (S_rf hS) (ix 30 0) 3 (ix 8 s2) 8 hw (r := (RX8, TX8, 2)) rfl hw2 rfl hin hd (fun H1 locs1 hP1 _ hS1 => ?_)
    rw [hcl] at hP1
    have e1 : (Sum.inl ((cA 3, alen 30, .inr (.inr (.inr (.inr (va_up (fun j => if M 30 0 j = 0 then none else some (ad 8 j)) (s2 : Int).toNat (some (ad 8 s2))))))) : ClassId × vp_A) : va_E) = ceP ad cA 30 0 (fun j => if j = s2 then 1 else M 30 0 j) := by
      rw [ceP_ar ad cA _ _ (by decide)]
      show _ = (Sum.inl ((cA 3, alen 30, .inr (.inr (.inr (.inr (fun j => if (if j = s2 then (1 : Int) else M 30 0 j) = 0 then none else some (ad 8 j)))))) : ClassId × vp_A) : va_E)
      congr 7
      funext j
      unfold va_up
      rw [Int.toNat_natCast]
      by_cases e : j = s2
      · subst e; simp
      · rw [if_neg e, if_neg e]
    have hP2 : va_P D cls12 ((wq ad cA M).set (ix 30 0) (ad 30 0, ceP ad cA 30 0 (fun j => if j = s2 then 1 else M 30 0 j))) H1 := by rw [← e1]; exact hP1
    have q := h0 lo _ _ hk H1 locs1 ls (VQ_st hP (by decide) hix hS1.1 hP2) (S_tr hS hS1) hl
    rw [nof_stm M (by decide)] at q
    exact q
/-! contracts, calls, returns -/
def rmP (k ms d : Nat) : Room := { frames := d, cells := k, slots := ms, locals := 100 * d }
def PcP (D : va_G) (ad : Nat → Nat → Nat) (cA : Nat → ClassId) (base : Nat) (M : Mm) (U : State) : Prop := U.heap.size = base + nof M ∧ VQ D ad cA base (nof M) M U.heap ∧ va_K D cls12 (tysA cA) U ∧ (∀ w ∈ gN, va_Nw w U) ∧ va_AO RX8 U
def QcP (D : va_G) (ad : Nat → Nat → Nat) (cA : Nat → ClassId) (base n0 n1 : Nat) (P : Option AV → Mm → Prop) (_ : Array Value) (st : State) (oc : Outcome) (t : State) : Prop := (∃ (r : Option AV) (M' : Mm), oc = .returned (r.map (cv ad)) ∧ P r M' ∧ nof M' = n1 ∧ VQ D ad cA base n0 M' t.heap) ∧ va_F (fun q => base ≤ q) st t
/-- the contract of a constructor: k cells of ms slots come -/
def MetP (l : Launch) (y : MethodName) (b : ByteArray) (nl : Nat) (ret : Option FieldType) (d k ms : Nat) (T : Ct) : Prop := ∀ (D : va_G) (ad : Nat → Nat → Nat) (cA : Nat → ClassId) (base : Nat) (as : List AV) (M : Mm) (P : Option AV → Mm → Prop), AdP base ad → T as M P → sls (nof M + k) = sls (nof M) + ms → Met l y (.code y b nl ret :: gT) (rmP k ms d) (va_Pc (as.map (cv ad)) (PcP D ad cA base M)) (QcP D ad cA base (nof M) (nof M + k) P) k ms (fun q => base ≤ q)
theorem PcP_blind {D : va_G} {ad : Nat → Nat → Nat} {cA : Nat → ClassId} {base : Nat} {M : Mm} {av : List Value} : FrameBlind (va_Pc av (PcP D ad cA base M)) := fun a U g mk q => by
  obtain ⟨q0, q1, qP, qK, qN, qO⟩ := q
  exact ⟨q0, q1, qP, va_K.moved (u := U) (U := U.calling g mk a) (Vm.Alike.refl U.vm) qK, fun w hw => va_Nw.same (gN_tab hw) (u := U) (U := U.calling g mk a) rfl (qN w hw), va_AO.moved (u := U) (U := U.calling g mk a) (Vm.Alike.refl U.vm) qO⟩
theorem JP_run {x : Xc} {l0 : Launch} {b : ByteArray} {own : String} {nl dd nm pc k ms : Nat} {lo : Lo} {st rest : List AV} {M : Mm} {P : Option AV → Mm → Prop} {a : Array Value} (C : CxP x l0 b own nl dd nm) (hsl : sls (nof M + k) = sls (nof M) + ms) (kk : ∀ (r : Option AV) (M' : Mm), P r M' → nof M' = nof M + k → JP x (pc + 3) lo (r.toList ++ rest) M')
    (run : match x with
      | (p, l, e, R, s, m, args, below, meth, c, (base, n0), _, D, ad, cA, A, nL) => ∀ (H : Heap) (locs : List Loc) (ls : Array Slot), VQ D ad cA base n0 M H → H.size = base + nof M → va_S A s.heap H locs → lvF ad ls nL lo → va_Run p l e R s m args below meth c H locs (nof M - n0) (sls (nof M) - sls n0) k ms (F0 m pc ls (st.map (cv ad))) (rest.map (cv ad)) (QcP D ad cA base (nof M) (nof M + k) P a) (fun q => base ≤ q)) : JP x pc lo st M := by
  obtain ⟨p, l, e, R, s, m, args, below, meth, c, ⟨base, n0⟩, Q, D, ad, cA, A, nL⟩ := x
  obtain ⟨hx, hb, hml, hown, hts, hK, hD, hA, hc1, hc2, hlk, hnl, hll, hrm, hN, hO⟩ := C
  intro H locs ls hP hS hl
  refine W_sz fun hsz => ?_
  intro T hT X
  have h1 := hP.1
  have h2 := hP.2.1
  obtain ⟨v, st₀, t, T', L, h0, X', hL, e1, e2, ⟨⟨r, M', hv, hp, hn, hP'⟩, hz, hk⟩, stp⟩ := run H locs ls hP (by omega) hS hl T hT X
  cases hv
  rw [h0] at hz hk
  have hS1 : va_S A s.heap T'.heap (locs ++ L) := ⟨Nat.le_trans hS.1 (by rw [e1]; exact hz), fun q h1 h2 => by rw [e1, hk q (Nat.lt_of_lt_of_le h1 hS.1) (fun z => h2 (hA q z))]; exact hS.2.1 q h1 h2, fun q hq => by
    rcases List.mem_append.mp hq with h | h
    · exact hS.2.2 q h
    · exact hA _ (hL q h)⟩
  have m1 := sls_mono h2
  rw [show nof M - n0 + k = nof M' - n0 by omega, show sls (nof M) - sls n0 + ms = sls (nof M') - sls n0 by rw [hn, hsl]; omega] at X'
  obtain ⟨t2, a1, b1⟩ := kk r M' hp hn T'.heap (locs ++ L) ls (by rw [e1]; exact ⟨hP'.1, by omega, hP'.2.2⟩) hS1 hl T' rfl X'
  refine ⟨t2, stp t2 ?_, b1⟩
  have e3 : (r.map (cv ad)).toList ++ rest.map (cv ad) = (r.toList ++ rest).map (cv ad) := by cases r <;> simp
  show Steps p.tables e below (T'.setTop { F0 m pc ls (st.map (cv ad)) with pc := pc + 3, stack := (r.map (cv ad)).toList ++ rest.map (cv ad) }) t2
  rw [e3]
  exact a1
/-- a call of a constructor -/
def c_callI (g n k ms nm : Nat) (T : Ct) (kt : Kt) : Kt := fun lo st M => pops n [] st (fun as r => match r with
  | .inr (some (g', s)) :: r' => g' = g ∧ scat r' ≤ 8 ∧ (0 ≤ M 99 0 0 ∧ M 99 0 0 + k ≤ nm) ∧ sls (nof M + k) = sls (nof M) + ms ∧ T (zr g s :: as) M (fun v M' => kt lo (v.toList ++ r') M')
  | _ => False)
theorem p_callI {x : Xc} {l0 : Launch} {b : ByteArray} {own : String} {nl dd nm pc : Nat} {kt : Kt} {i g n k ms d nl' : Nat} {y : MethodName} {b' : ByteArray} {T : Ct} (C : CxP x l0 b own nl dd nm) (hd : decode b pc = .ok (.invokespecial i, 3)) (hM : MetP l0 y b' nl' none d k ms T) (hc : Cle y b' nl' none n) (hl : lnk own i y) (hin : Cond.instanceMethod y ∈ gT) (hy : y.name = "<init>") (hdd : d + 1 ≤ dd) (h : OkP x (pc + 3) kt) : OkP x pc (c_callI g n k ms nm T kt) := by
  intro lo st M hk
  obtain ⟨as, r, rfl, hlen, hk⟩ := pops_spec hk
  rw [List.append_nil] at hk
  match r, hk with
  | .inr (some (g', s')) :: r', ⟨hg, h4, hnm, hsl, hT⟩ =>
  subst hg
  obtain ⟨hcode, hini, hds, hnl'⟩ := hc
  refine JP_run (rest := r') (k := k) (ms := ms) (P := fun v M' => kt lo (v.toList ++ r') M') (a := ((zr g' s' :: as).map (cv x.2.2.2.2.2.2.2.2.2.2.2.2.2.1)).toArray) C hsl (fun v M' hv _ => h lo _ M' hv) ?_
  obtain ⟨p, l, e, R, s, m, args, below, meth, c, ⟨base, n0⟩, Q, D, ad, cA, A, nL⟩ := x
  obtain ⟨hx, hb, hml, hown, hts, hK, hD, hA, hc1, hc2, hlk, hnl, rfl, hrm, hN, hO⟩ := C
  intro H locs ls hP hsz hS hlv
  have hMt := hM D ad cA base (zr g' s' :: as) M _ hD hT hsl
  have hW2 := scat_eq ad r'
  have hpre : PreS s H (va_Pc ((zr g' s' :: as).map (cv ad)) (PcP D ad cA base M)) (Value.ref (ad g' s') :: as.map (cv ad)) := ⟨PcP_blind, fun U hU hW => ⟨rfl, by rw [hU]; exact hsz, by rw [hU]; exact ⟨hP.1, Nat.le_refl _, hP.2.2⟩, va_K.moved hW.alike hK, fun w hw => gN_warm hw hW (hN w hw), va_AO.moved hW.alike hO⟩⟩
  have hstk : ((as.reverse ++ .inr (some (g', s')) :: r').map (cv ad)) = (as.map (cv ad)).reverse ++ Value.ref (ad g' s') :: r'.map (cv ad) := by simp [cv]
  rw [hstk]
  have hn' : (as.map (cv ad)).length = n := by rw [List.length_map]; exact hlen
  have hroom : (rmP k ms d).frames + 1 ≤ R.frames ∧ 8 + (nl' + 11) + (rmP k ms d).locals ≤ R.locals := ⟨by show d + 1 ≤ _; omega, by show 8 + (nl' + 11) + 100 * d ≤ _; omega⟩
  have h2 := hP.2.1
  have hf : nof M - n0 + k ≤ R.cells ∧ sls (nof M) - sls n0 + ms ≤ R.slots := by
    have h3 : nof M + k ≤ nm := by unfold nof; omega
    have m1 := sls_mono h2
    have m2 := sls_mono h3
    omega
  rcases hl with hl | ⟨host, hl⟩
  · exact va_runI ⟨hx, hb, hml, hown, hts⟩ hMt ⟨callB_of n hts (GoodIn.code hcode) rfl rfl rfl (hts _ hini) (hts _ hl) hds hroom, hy, hts _ hin⟩ hpre rfl hn' hlv.1 rfl (by show 0 + _ ≤ 8; omega) hd hf
  · exact va_runIN ⟨hx, hb, hml, hown, hts⟩ hMt ⟨va_cnB n hts (GoodIn.code hcode) rfl rfl rfl (hN _ hl) (hts _ hini) hds hroom, hy, hts _ hin⟩ hpre rfl hn' hlv.1 rfl (by show 0 + _ ≤ 8; omega) hd hf
def c_callSP (n : Nat) (T : Ct) (kt : Kt) : Kt := fun lo st M => pops n [] st (fun as r => scat r ≤ 8 ∧ T as M (fun v M' => kt lo (v.toList ++ r) M'))
theorem p_callS {x : Xc} {l0 : Launch} {b : ByteArray} {own : String} {nl dd nm pc : Nat} {kt : Kt} {i n d nl' : Nat} {y : MethodName} {b' : ByteArray} {ret : Option FieldType} {T : Ct} (C : CxP x l0 b own nl dd nm) (hd : decode b pc = .ok (.invokestatic i, 3)) (hM : MetP l0 y b' nl' ret d 0 0 T) (hc : Cle y b' nl' ret n) (hl : Cond.methodLink own i y ∈ gT) (hst : Cond.static y ∈ gT) (hdd : d + 1 ≤ dd) (hnm : ∀ as M P, T as M P → M 99 0 0 ≤ nm) (h : OkP x (pc + 3) kt) : OkP x pc (c_callSP n T kt) := by
  intro lo st M hk
  obtain ⟨as, r', rfl, hlen, hk⟩ := pops_spec hk
  rw [List.append_nil] at hk
  obtain ⟨h4, hT⟩ := hk
  obtain ⟨hcode, hini, hds, hnl'⟩ := hc
  refine JP_run (rest := r') (k := 0) (ms := 0) (P := fun v M' => kt lo (v.toList ++ r') M') (a := (as.map (cv x.2.2.2.2.2.2.2.2.2.2.2.2.2.1)).toArray) C rfl (fun v M' hv _ => h lo _ M' hv) ?_
  obtain ⟨p, l, e, R, s, m, args, below, meth, c, ⟨base, n0⟩, Q, D, ad, cA, A, nL⟩ := x
  obtain ⟨hx, hb, hml, hown, hts, hK, hD, hA, hc1, hc2, hlk, hnl, rfl, hrm, hN, hO⟩ := C
  intro H locs ls hP hsz hS hlv
  have hMt := hM D ad cA base as M _ hD hT rfl
  have hW2 := scat_eq ad r'
  have hpre : PreS s H (va_Pc (as.map (cv ad)) (PcP D ad cA base M)) (as.map (cv ad)) := ⟨PcP_blind, fun U hU hW => ⟨rfl, by rw [hU]; exact hsz, by rw [hU]; exact ⟨hP.1, Nat.le_refl _, hP.2.2⟩, va_K.moved hW.alike hK, fun w hw => gN_warm hw hW (hN w hw), va_AO.moved hW.alike hO⟩⟩
  have hstk : ((as.reverse ++ r').map (cv ad)) = (as.map (cv ad)).reverse ++ r'.map (cv ad) := by simp
  rw [hstk]
  have hn' : (as.map (cv ad)).length = n := by rw [List.length_map]; exact hlen
  have hroom : (rmP 0 0 d).frames + 1 ≤ R.frames ∧ 8 + (nl' + 11) + (rmP 0 0 d).locals ≤ R.locals := ⟨by show d + 1 ≤ _; omega, by show 8 + (nl' + 11) + 100 * d ≤ _; omega⟩
  have hm2 : nof M ≤ nm := by have := hnm _ _ _ hT; unfold nof; omega
  have m3 := sls_mono hm2
  exact va_runS ⟨hx, hb, hml, hown, hts⟩ hMt ⟨callB_of n hts (GoodIn.code hcode) rfl rfl rfl (hts _ hini) (hts _ hl) hds hroom, hts _ hst⟩ hpre rfl hn' hlv.1 rfl (by show 0 + _ ≤ 8; omega) hd ⟨by omega, by omega⟩
def RxP (x : Xc) (ret : Option FieldType) (k ms : Nat) (P : Option AV → Mm → Prop) : Prop := match x with
  | (_, _, _, _, s, _, args, below, meth, _, (base, n0), Q, D, ad, cA, A, _) => meth.sig.returnType = ret ∧ sls (n0 + k) = sls n0 + ms ∧ A = (fun q => base ≤ q) ∧ Q = MQ below (QcP D ad cA base n0 (n0 + k) P) args s k ms A
def n0x (x : Xc) : Nat := match x with
  | (_, _, _, _, _, _, _, _, _, _, (_, n0), _) => n0
def c_vretP (n1 : Nat) (P : Option AV → Mm → Prop) : Kt := fun _ st M => match st with
  | [] => M 99 0 0 = n1 ∧ P none M
  | _ => False
theorem p_vret {x : Xc} {l0 : Launch} {b : ByteArray} {own : String} {nl dd nm pc k ms : Nat} {P : Option AV → Mm → Prop} (C : CxP x l0 b own nl dd nm) (hR : RxP x none k ms P) (hd : decode b pc = .ok (.return_, 1)) : OkP x pc (c_vretP (n0x x + k) P) := by
  intro lo st M hk
  obtain ⟨p, l, e, R, s, m, args, below, meth, c, ⟨base, n0⟩, Q, D, ad, cA, A, nL⟩ := x
  obtain ⟨hx, hb, hml, hown, hts, hK, hD, hA, hc1, hc2, hlk, hnl, hll, hrm, hN, hO⟩ := C
  obtain ⟨hr, hsl, rfl, rfl⟩ := hR
  match st, hk with
  | [], ⟨hn, hk⟩ =>
    intro H locs ls hP hS hl
    have hn2 : nof M = n0 + k := by
      have hn3 : M 99 0 0 = ((n0 + k : Nat) : Int) := hn
      unfold nof
      omega
    rw [show nof M - n0 = k by omega, show sls (nof M) - sls n0 = ms by rw [hn2, hsl]; omega]
    exact W.vret hx hb hr (fun t ht hW => ⟨⟨none, M, rfl, hk, hn2, by rw [ht]; exact hP⟩, hS.F ht⟩) hS.2.2 hd hlk
def c_iretP (n1 : Nat) (P : Option AV → Mm → Prop) : Kt := fun _ st M => match st with
  | [.inl (.inl z)] => M 99 0 0 = n1 ∧ P (some (zi z)) M
  | _ => False
theorem p_iret {x : Xc} {l0 : Launch} {b : ByteArray} {own : String} {nl dd nm pc k ms : Nat} {P : Option AV → Mm → Prop} (C : CxP x l0 b own nl dd nm) (hR : RxP x (some .int) k ms P) (hd : decode b pc = .ok (.ireturn, 1)) : OkP x pc (c_iretP (n0x x + k) P) := by
  intro lo st M hk
  obtain ⟨p, l, e, R, s, m, args, below, meth, c, ⟨base, n0⟩, Q, D, ad, cA, A, nL⟩ := x
  obtain ⟨hx, hb, hml, hown, hts, hK, hD, hA, hc1, hc2, hlk, hnl, hll, hrm, hN, hO⟩ := C
  obtain ⟨hr, hsl, rfl, rfl⟩ := hR
  match st, hk with
  | [.inl (.inl z)], ⟨hn, hk⟩ =>
    intro H locs ls hP hS hl
    have hn2 : nof M = n0 + k := by
      have hn3 : M 99 0 0 = ((n0 + k : Nat) : Int) := hn
      unfold nof
      omega
    rw [show nof M - n0 = k by omega, show sls (nof M) - sls n0 = ms by rw [hn2, hsl]; omega]
    exact W.iret hx hb hr (fun t ht hW => ⟨⟨some (zi z), M, rfl, hk, hn2, by rw [ht]; exact hP⟩, hS.F ht⟩) hS.2.2 hd hlk
theorem MetP.of {l : Launch} {y : MethodName} {b : ByteArray} {nl : Nat} {ret : Option FieldType} {d k ms : Nat} {T : Ct} (hy : plainName y.cls = true) (hlen : ∀ as M P, T as M P → (elo as).length ≤ nl)
    (body : ∀ (x : Xc) (as : List AV) (M : Mm) (P : Option AV → Mm → Prop), T as M P → n0x x = nof M → CxP x l b y.cls nl d (nof M + k) → RxP x ret k ms P → (y.name = "<init>" → iNx x) → JP x 0 (pad nl (elo as)) [] M) : MetP l y b nl ret d k ms T := by
  intro D ad cA base as M P hAd hT hsl
  refine Met.ofW (cc := b) (maxL := nl) (ret := ret) hy rfl ?_
  intro p e s m args below meth c s₁ B hml hv
  obtain ⟨rfl, hsz, hP, hK, hN, hO⟩ := hv
  have hts := atoms_spec (ws := Cond.code y b nl ret :: gT) B.pre
  have hbody := body (p, l, e, (headSpec (Cond.code y b nl ret :: gT) (rmP k ms d)).room, s, m, _, below, meth, c, (base, nof M), MQ below (QcP D ad cA base (nof M) (nof M + k) P) _ s k ms (fun q => base ≤ q), D, ad, cA, fun q => base ≤ q, nl) as M P hT rfl ⟨B.exec, B.bytes, hml, findClass_of_methodNamed B.named, fun w hw => hts w (List.mem_cons_of_mem _ hw), hK, hAd, fun q h => h, hsz, ⟨by show _ ≤ k; omega, by show _ ≤ ms; omega⟩, B.notSynchronized, rfl, rfl, ⟨Nat.le_refl _, Nat.le_refl _⟩, hN, hO⟩ ⟨B.returns, hsl, rfl, rfl⟩ (fun hyn => by
    have := (name_of_methodNamed B.named B.method).1
    rw [hyn] at this
    exact this)
  rw [lg_entry_eq]
  have hl := lv_entry (as.map (cv ad)) (n := nl) (by rw [elo_len]; exact hlen as M P hT)
  have q := hbody s.heap [] _ ⟨Nat.le_of_eq hsz.symm, Nat.le_refl _, hP.2.2⟩ va_S.rf ⟨hl.1, hl.2.1, fun i v h => hl.2.2 (i, cv ad v) (by have := elo_args ad as 0 i v (pad_at h); rwa [Nat.zero_add] at this)⟩
  rw [Nat.sub_self, Nat.sub_self] at q
  exact q
theorem JP_fgt {x : Xc} {pc : Nat} {lo : Lo} {st : List AV} {M : Mm} (bs : List Bool) (h : JP x pc (fgt bs lo) st M) : JP x pc lo st M := by
  obtain ⟨p, l, e, R, s, m, args, below, meth, c, ⟨base, n0⟩, Q, D, ad, cA, A, nL⟩ := x
  intro H locs ls hP hS hl
  exact h H locs ls hP hS ⟨hl.1, hl.2.1, fun i v q => hl.2.2 i v (fgt_sub bs lo i v q)⟩
