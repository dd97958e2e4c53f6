/-! own work: values, the world of a run, the judgement J and a row an instruction -/
abbrev AV : Type := (Int ⊕ Int) ⊕ Option (Nat × Nat)
abbrev zi (z : Int) : AV := Sum.inl (Sum.inl z)
abbrev zl (z : Int) : AV := Sum.inl (Sum.inr z)
abbrev zr (g s : Nat) : AV := Sum.inr (some (g, s))
abbrev Mm : Type := Nat → Nat → Nat → Int
abbrev Lo : Type := List (Option AV)
abbrev Kt : Type := Lo → List AV → Mm → Prop
abbrev Ct : Type := List AV → Mm → (Option AV → Mm → Prop) → Prop
abbrev cls12 : List vw_C := [(RX0, TX0, 1), (RX1, TX1, 13), (RX2, TX2, 3), (RX3, TX3, 4), (RX4, TX4, 2), (RX5, TX5, 14), (RX6, TX6, 9), (RX7, TX7, 4), (RX8, TX8, 2), (RX9, TX9, 5), (RX10, TX10, 8), (RX11, TX11, 38)]
/-- of each made thing's fields: 0 int, 1 long, 2 boolean, 3 + g a reference to group g -/
def fkl : Nat → List Nat
  | 0 => [15]
  | 1 => [3, 16, 17, 18, 0, 0, 0, 0, 1, 1, 1, 1, 1]
  | 2 => [19, 20, 0]
  | 3 => [21, 22, 0, 0]
  | 4 => [23, 0]
  | 5 => [7, 6, 3, 12, 24, 0, 0, 0, 1, 1, 1, 1, 1, 1]
  | 6 => [3, 12, 25, 26, 2, 0, 0, 0, 0]
  | 7 => [27, 28, 29, 0]
  | 8 => [30, 0]
  | 9 => [31, 32, 0, 0, 0]
  | 10 => [33, 7, 6, 8, 5, 9, 4, 10]
  | 11 => [34, 35, 0, 36, 37, 38, 39, 0, 1, 1, 1, 1, 40, 0, 41, 0, 42, 43, 0, 44, 0, 45, 46, 47, 48, 2, 0, 0, 49, 50, 51, 52, 53, 0, 54, 55, 56, 57]
  | _ => []
/-- of each array group: what its elements are (as above), how many -/
def aty : Nat → Nat
  | 12 => 1
  | 13 => 0
  | 14 => 0
  | 15 => 0
  | 16 => 1
  | 17 => 1
  | 18 => 0
  | 19 => 0
  | 20 => 0
  | 21 => 0
  | 22 => 0
  | 23 => 0
  | 24 => 1
  | 25 => 1
  | 26 => 2
  | 27 => 0
  | 28 => 1
  | 29 => 0
  | 30 => 11
  | 31 => 0
  | 32 => 0
  | 33 => 1
  | 34 => 1
  | 35 => 1
  | 36 => 1
  | 37 => 1
  | 38 => 0
  | 39 => 0
  | 40 => 2
  | 41 => 0
  | 42 => 1
  | 43 => 1
  | 44 => 0
  | 45 => 0
  | 46 => 0
  | 47 => 0
  | 48 => 0
  | 49 => 0
  | 50 => 1
  | 51 => 1
  | 52 => 1
  | 53 => 2
  | 54 => 0
  | 55 => 1
  | _ => 0
def alen : Nat → Nat
  | 12 => 1681
  | 13 => 12
  | 14 => 3
  | 15 => 4
  | 16 => 2000
  | 17 => 2000
  | 18 => 20
  | 19 => 20
  | 20 => 40
  | 21 => 40
  | 22 => 40
  | 23 => 400
  | 24 => 20
  | 25 => 20
  | 26 => 20
  | 27 => 20
  | 28 => 210021
  | 29 => 41
  | 30 => 8
  | 31 => 160
  | 32 => 8
  | 33 => 1681
  | 34 => 420021
  | 35 => 20002
  | 36 => 20002
  | 37 => 4000
  | 38 => 40
  | 39 => 40
  | 40 => 40
  | 41 => 40
  | 42 => 21
  | 43 => 21
  | 44 => 400
  | 45 => 4
  | 46 => 12
  | 47 => 5
  | 48 => 5
  | 49 => 15
  | 50 => 5
  | 51 => 20
  | 52 => 20
  | 53 => 20
  | 54 => 20
  | 55 => 1
  | _ => 0
/-- how many of a group there are -/
def cnt (g : Nat) : Nat := if g = 8 then 8 else if g = 27 then 8 else if g < 56 then 1 else 0
def en : List (Nat × Nat) := (List.range 56).flatMap (fun g => (List.range (cnt g)).map (fun s => (g, s)))
def cv (ad : Nat → Nat → Nat) (v : AV) : Value := match v with
  | .inl (.inl z) => .int (Int32.ofInt z)
  | .inl (.inr z) => .long (Int64.ofInt z)
  | .inr (some q) => .ref (ad q.1 q.2)
  | .inr none => .null
def fval (ad : Nat → Nat → Nat) (k s : Nat) (z : Int) : Value := match k with
  | 0 => .int (Int32.ofInt z)
  | 1 => .long (Int64.ofInt z)
  | 2 => .int (Int32.ofInt z)
  | g + 3 => .ref (ad g s)
def obf (ad : Nat → Nat → Nat) (g s : Nat) (f : Nat → Int) : List Value := (List.range (fkl g).length).map (fun k => fval ad ((fkl g).getD k 0) s (f k))
def arf (ad : Nat → Nat → Nat) (cA : Nat → ClassId) (t n : Nat) (f : Nat → Int) : ClassId × vp_A := match t with
  | 0 => (cA 0, n, .inl (fun j => Int32.ofInt (f j)))
  | 1 => (cA 1, n, .inr (.inl (fun j => Int64.ofInt (f j))))
  | 2 => (cA 2, n, .inl (fun j => Int32.ofInt (f j)))
  | h + 3 => (cA 3, n, .inr (.inr (.inr (.inr (fun j => some (ad h j))))))
def cel (ad : Nat → Nat → Nat) (cA : Nat → ClassId) (g s : Nat) (f : Nat → Int) : va_E := if g < 12 then .inr (g, obf ad g s f) else .inl (arf ad cA (aty g) (alen g) f)
def wl (ad : Nat → Nat → Nat) (cA : Nat → ClassId) (M : Mm) : va_W := en.map (fun q => (ad q.1 q.2, cel ad cA q.1 q.2 (M q.1 q.2)))
def tysA (cA : Nat → ClassId) : List (ClassId × FieldType) := [(cA 0, .int), (cA 1, .long), (cA 2, .boolean), (cA 3, .object "CloudBench$Sample")]
/-- one group's one member anew -/
def stc (M : Mm) (g s : Nat) (f : Nat → Int) : Mm := fun g' s' => if g' = g ∧ s' = s then f else M g' s'
/-- one place anew -/
def stm (M : Mm) (g s k : Nat) (v : Int) : Mm := fun g' s' k' => if g' = g ∧ s' = s ∧ k' = k then v else M g' s' k'
theorem stm_stc (M : Mm) (g s k : Nat) (v : Int) : stm M g s k v = stc M g s (fun j => if j = k then v else M g s j) := by
  funext g' s' k'
  unfold stm stc
  by_cases h : g' = g ∧ s' = s
  · obtain ⟨rfl, rfl⟩ := h
    simp
  · rw [if_neg h, if_neg (fun q => h ⟨q.1, q.2.1⟩)]
theorem en_nd : en.Nodup := by decide +kernel
theorem en_mem {g s : Nat} (h : s < cnt g) : (g, s) ∈ en := by
  have hg : g < 56 := by
    unfold cnt at h
    split at h
    · omega
    · split at h
      · omega
      · split at h
        · assumption
        · omega
  exact List.mem_flatMap.mpr ⟨g, List.mem_range.mpr hg, List.mem_map.mpr ⟨s, List.mem_range.mpr h, rfl⟩⟩
theorem wl_at (ad : Nat → Nat → Nat) (cA : Nat → ClassId) (M : Mm) {g s : Nat} (h : s < cnt g) : ∃ k : Nat, en[k]? = some (g, s) ∧ (wl ad cA M)[k]? = some (ad g s, cel ad cA g s (M g s)) := by
  obtain ⟨k, hk⟩ := List.getElem?_of_mem (en_mem h)
  exact ⟨k, hk, by simp [wl, hk]⟩
theorem wl_set (ad : Nat → Nat → Nat) (cA : Nat → ClassId) (M : Mm) {g s k : Nat} (hk : en[k]? = some (g, s)) (f : Nat → Int) : (wl ad cA M).set k (ad g s, cel ad cA g s f) = wl ad cA (stc M g s f) := by
  refine List.ext_getElem? fun i => ?_
  rw [List.getElem?_set]
  have hlt : k < en.length := (List.getElem?_eq_some_iff.mp hk).1
  by_cases hi : k = i
  · subst hi
    rw [if_pos rfl, if_pos (by simpa [wl] using hlt)]
    simp [wl, hk, stc]
  · rw [if_neg hi]
    cases hq : en[i]? with
    | none => simp [wl, hq]
    | some q =>
      have hne : ¬ (q.1 = g ∧ q.2 = s) := fun h => by
        have : q = (g, s) := Prod.ext h.1 h.2
        subst this
        exact hi ((List.getElem?_inj hlt en_nd).mp (hk.trans hq.symm))
      simp [wl, hq, stc, hne]
theorem wl_D {ad : Nat → Nat → Nat} {cA : Nat → ClassId} {A : Nat → Prop} {M : Mm} (h : va_D A (wl ad cA M)) (M' : Mm) : va_D A (wl ad cA M') := by
  have key : ∀ (N N' : Mm) (k : Nat) (q : Nat × va_E), (wl ad cA N)[k]? = some q → ∃ q' : Nat × va_E, (wl ad cA N')[k]? = some q' ∧ q'.1 = q.1 := by
    intro N N' k q hq
    simp only [wl, List.getElem?_map, Option.map_eq_some_iff] at hq ⊢
    obtain ⟨a, ha, rfl⟩ := hq
    exact ⟨_, ⟨a, ha, rfl⟩, rfl⟩
  refine ⟨fun i j p q hi hj hpq => ?_, fun k q hk => ?_⟩
  · obtain ⟨p', hp', e1⟩ := key M' M i p hi
    obtain ⟨q', hq', e2⟩ := key M' M j q hj
    exact h.1 i j p' q' hp' hq' (by rw [e1, e2]; exact hpq)
  · obtain ⟨q', hq', e2⟩ := key M' M k q hk
    rw [← e2]
    exact h.2 k q' hq'
def lvF (ad : Nat → Nat → Nat) (ls : Array Slot) (nL : Nat) (lo : Lo) : Prop := ls.size = nL ∧ lv_wf ls ∧ ∀ (i : Nat) (v : AV), lo[i]? = some (some v) → ls[i]? = some (.val (cv ad v))
abbrev Xc : Type := Program × Launch × Env × Room × State × MethodId × Array Value × List Frame × Method × Code × (Nat × Nat) × (State → Prop) × va_G × (Nat → Nat → Nat) × (Nat → ClassId) × (Nat → Prop) × Nat
/-- the words of every method: those of the tables that hold wherever the tables do -/
def gT : List Cond := lw_tbl.filter goodWord
theorem gT_good : GoodIn gT gT := fun w h => ⟨h, good_of_word (List.mem_filter.mp h).2⟩
theorem gT_of {w : Cond} (i : Nat) (h : tables_1[i]? = some w) (hg : goodWord w = true) : w ∈ gT := List.mem_filter.mpr ⟨List.mem_append_right _ (List.mem_of_getElem? h), hg⟩
theorem gT_ofP {w : Cond} (i : Nat) (h : (k2_sels lw_privs)[i]? = some w) (hg : goodWord w = true) : w ∈ gT := List.mem_filter.mpr ⟨List.mem_append_left _ (List.mem_of_getElem? h), hg⟩
def isNest : Cond → Bool
  | .fieldLinkNest .. => true
  | .methodLinkNest .. => true
  | _ => false
/-- the words on members of nest mates -/
def gN : List Cond := tables_1.filter isNest
theorem gN_of {w : Cond} (i : Nat) (h : tables_1[i]? = some w) (hg : isNest w = true) : w ∈ gN := List.mem_filter.mpr ⟨List.mem_of_getElem? h, hg⟩
theorem gN_warm {w : Cond} (h : w ∈ gN) {s U : State} (hW : s.WarmedH U.vm) (hZ : va_Nw w s) : va_Nw w U := by
  have hn := (List.mem_filter.mp h).2
  cases w <;> first | exact va_Nw.warmF hW hZ | exact va_Nw.warmM hW hZ | cases hn
theorem gN_tab {w : Cond} (h : w ∈ gN) : w.onTables = true := by
  have hn := (List.mem_filter.mp h).2
  cases w <;> first | rfl | cases hn
def J (x : Xc) (pc : Nat) (lo : Lo) (st : List AV) (M : Mm) : Prop := match x with
  | (p, l, e, R, s, m, args, below, meth, c, (cells, slots), Q, D, ad, cA, A, nL) => ∀ (H : Heap) (locs : List Loc) (ls : Array Slot), va_P D cls12 (wl ad cA M) H → va_S A s.heap H locs → lvF ad ls nL lo → W p l e R s m args below meth c H locs cells slots Q (F0 m pc ls (st.map (cv ad)))
def Cx (x : Xc) (l0 : Launch) (b : ByteArray) (own : String) (n dd : Nat) : Prop := match x with
  | (p, l, _, R, s, m, args, _, meth, c, (cells, slots), _, D, ad, cA, A, nL) => p.tables.exec = Jvm.exec ∧ c.code = b ∧ c.maxLocals = nL ∧ s.vm.findClass own = some m.cls ∧ (∀ w ∈ gT, w.before args s = true) ∧ va_K D cls12 (tysA cA) s ∧ (∀ M, va_D A (wl ad cA M)) ∧ (∀ q, s.heap.size ≤ q → A q) ∧ cells ≤ R.cells ∧ slots ≤ R.slots ∧ meth.locks = false ∧ nL = n ∧ l = l0 ∧ (dd ≤ R.frames ∧ 100 * dd ≤ R.locals) ∧ ∀ w ∈ gN, va_Nw w s
def Ok (x : Xc) (pc : Nat) (kt : Kt) : Prop := ∀ (lo : Lo) (st : List AV) (M : Mm), kt lo st M → J x pc lo st M
theorem okJ (x : Xc) (pc : Nat) : Ok x pc (J x pc) := fun _ _ _ h => h
abbrev iR (z : Int) : Prop := -2147483648 ≤ z ∧ z < 2147483648
abbrev lR (z : Int) : Prop := -9223372036854775808 ≤ z ∧ z < 9223372036854775808
theorem iR_to {z : Int} (h : iR z) : (Int32.ofInt z).toInt = z := Int32.toInt_ofInt_of_le (by have := h.1; omega) (by have := h.2; omega)
theorem lR_to {z : Int} (h : lR z) : (Int64.ofInt z).toInt = z := Int64.toInt_ofInt_of_le (by have := h.1; omega) (by have := h.2; omega)
theorem iR_lt {a b : Int} (ha : iR a) (hb : iR b) : Int32.ofInt a < Int32.ofInt b ↔ a < b := by rw [Int32.lt_iff_toInt_lt, iR_to ha, iR_to hb]
theorem iR_le {a b : Int} (ha : iR a) (hb : iR b) : Int32.ofInt a ≤ Int32.ofInt b ↔ a ≤ b := by rw [Int32.le_iff_toInt_le, iR_to ha, iR_to hb]
theorem iR_eq {a b : Int} (ha : iR a) (hb : iR b) : Int32.ofInt a = Int32.ofInt b ↔ a = b := ⟨fun h => by rw [← iR_to ha, ← iR_to hb, h], fun h => by rw [h]⟩
theorem lR_lt {a b : Int} (ha : lR a) (hb : lR b) : Int64.ofInt a < Int64.ofInt b ↔ a < b := by rw [Int64.lt_iff_toInt_lt, lR_to ha, lR_to hb]
theorem lR_le {a b : Int} (ha : lR a) (hb : lR b) : Int64.ofInt a ≤ Int64.ofInt b ↔ a ≤ b := by rw [Int64.le_iff_toInt_le, lR_to ha, lR_to hb]
theorem lR_eq {a b : Int} (ha : lR a) (hb : lR b) : Int64.ofInt a = Int64.ofInt b ↔ a = b := ⟨fun h => by rw [← lR_to ha, ← lR_to hb, h], fun h => by rw [h]⟩
theorem iR_zero : Int32.ofInt 0 = 0 := rfl
theorem iR_in {z : Int} {n : Nat} (hz : iR z) (h0 : 0 ≤ z) (h1 : z < n) : vp_in (Int32.ofInt z) n := vp_in_iff.mpr (by rw [iR_to hz]; exact ⟨h0, h1⟩)
theorem iR_cl {z : Int} (hz : iR z) (h0 : 0 ≤ z) : (Int32.ofInt z).toNatClampNeg = z.toNat := by
  rw [Int32.toNatClampNeg, iR_to hz]
/-- what comes behind a step of the machine -/
theorem J_go {x : Xc} {pc pc' : Nat} {lo : Lo} {st st' : List AV} {M : Mm}
    (h : J x pc' lo st' M) (step : ∀ (H : Heap) (locs : List Loc) (ls : Array Slot), (match x with
      | (p, l, e, R, s, m, args, below, meth, c, (cells, slots), Q, D, ad, cA, A, nL) => va_P D cls12 (wl ad cA M) H → va_S A s.heap H locs → lvF ad ls nL lo → W p l e R s m args below meth c H locs cells slots Q (F0 m pc' ls (st'.map (cv ad))) → W p l e R s m args below meth c H locs cells slots Q (F0 m pc ls (st.map (cv ad))))) : J x pc lo st M := by
  obtain ⟨p, l, e, R, s, m, args, below, meth, c, ⟨cells, slots⟩, Q, D, ad, cA, A, nL⟩ := x
  intro H locs ls hP hS hl
  exact step H locs ls hP hS hl (h H locs ls hP hS hl)

/-! stores -/
def klo (lo : Lo) (i : Nat) : Lo := match i with
  | 0 => lo
  | j + 1 => match lo[j]? with
    | some (some (.inl (.inr _))) => lo.set j none
    | _ => lo
def st1 (lo : Lo) (i : Nat) (v : AV) : Lo := (klo lo i).set i (some v)
def st2 (lo : Lo) (i : Nat) (v : AV) : Lo := ((klo lo i).set i (some v)).set (i + 1) none
def lsl (ad : Nat → Nat → Nat) (lo : Lo) : List (Nat × Value) := (List.range lo.length).filterMap (fun i => match lo[i]? with
  | some (some v) => some (i, cv ad v)
  | _ => none)
theorem lsl_mem {ad : Nat → Nat → Nat} {lo : Lo} {i : Nat} {v : AV} (h : lo[i]? = some (some v)) : (i, cv ad v) ∈ lsl ad lo := by
  refine List.mem_filterMap.mpr ⟨i, List.mem_range.mpr (List.getElem?_eq_some_iff.mp h).1, ?_⟩
  simp [h]
theorem lvF_has {ad : Nat → Nat → Nat} {ls : Array Slot} {nL : Nat} {lo : Lo} (h : lvF ad ls nL lo) : lv_has ls nL (lsl ad lo) := by
  refine ⟨h.1, h.2.1, fun q hq => ?_⟩
  obtain ⟨i, -, hi⟩ := List.mem_filterMap.mp hq
  split at hi
  · rename_i v hv
    cases hi
    exact h.2.2 i v hv
  · cases hi
theorem klo_at {lo : Lo} {i j : Nat} {w : AV} (h : (klo lo i)[j]? = some (some w)) : lo[j]? = some (some w) ∧ (j + 1 = i → ∀ z : Int, w ≠ .inl (.inr z)) := by
  unfold klo at h
  split at h
  · exact ⟨h, fun e => by omega⟩
  · rename_i k
    split at h
    · rename_i z hz
      rw [List.getElem?_set] at h
      split at h
      · split at h <;> cases h
      · rename_i hn
        exact ⟨h, fun e => by omega⟩
    · rename_i hz
      refine ⟨h, fun e z q => ?_⟩
      have : j = k := by omega
      subst this
      subst q
      exact hz z h
theorem cv_cat2 {ad : Nat → Nat → Nat} {v : AV} (h : (cv ad v).category = 2) : ∃ z : Int, v = .inl (.inr z) := by
  match v, h with
  | .inl (.inl z), h => simp [cv, Value.category] at h
  | .inl (.inr z), _ => exact ⟨z, rfl⟩
  | .inr (some q), h => simp [cv, Value.category] at h
  | .inr none, h => simp [cv, Value.category] at h
theorem lvF_st1 {ad : Nat → Nat → Nat} {ls : Array Slot} {nL i : Nat} {lo : Lo} {v : AV} (h : lv_has ls nL ((i, cv ad v) :: (lsl ad lo).filter (fun q => !(q.1 == i) && !(q.1 + 1 == i && q.2.category == 2)))) : lvF ad ls nL (st1 lo i v) := by
  refine ⟨h.1, h.2.1, fun j w hj => ?_⟩
  unfold st1 at hj
  rw [List.getElem?_set] at hj
  split at hj
  · rename_i e
    split at hj
    · cases hj
      rw [← e]
      exact h.2.2 (i, cv ad v) List.mem_cons_self
    · cases hj
  · rename_i e
    obtain ⟨h1, h2⟩ := klo_at hj
    refine h.2.2 (j, cv ad w) (List.mem_cons_of_mem _ (List.mem_filter.mpr ⟨lsl_mem h1, ?_⟩))
    simp only [Bool.and_eq_true, Bool.not_eq_true', beq_eq_false_iff_ne, ne_eq, Bool.and_eq_false_iff]
    refine ⟨fun q => e q.symm, ?_⟩
    by_cases q : j + 1 = i
    · refine Or.inr fun c => ?_
      obtain ⟨z, hz⟩ := cv_cat2 c
      exact h2 q z hz
    · exact Or.inl q
theorem lvF_st2 {ad : Nat → Nat → Nat} {ls : Array Slot} {nL i : Nat} {lo : Lo} {v : AV} (h : lv_has ls nL ((i, cv ad v) :: (lsl ad lo).filter (fun q => !(q.1 == i) && (!(q.1 == i + 1) && !(q.1 + 1 == i && q.2.category == 2))))) : lvF ad ls nL (st2 lo i v) := by
  refine ⟨h.1, h.2.1, fun j w hj => ?_⟩
  unfold st2 at hj
  rw [List.getElem?_set] at hj
  split at hj
  · split at hj <;> cases hj
  · rename_i e1
    rw [List.getElem?_set] at hj
    split at hj
    · rename_i e
      split at hj
      · cases hj
        rw [← e]
        exact h.2.2 (i, cv ad v) List.mem_cons_self
      · cases hj
    · rename_i e
      obtain ⟨h1, h2⟩ := klo_at hj
      refine h.2.2 (j, cv ad w) (List.mem_cons_of_mem _ (List.mem_filter.mpr ⟨lsl_mem h1, ?_⟩))
      simp only [Bool.and_eq_true, Bool.not_eq_true', beq_eq_false_iff_ne, ne_eq, Bool.and_eq_false_iff]
      refine ⟨fun q => e q.symm, fun q => e1 q.symm, ?_⟩
      by_cases q : j + 1 = i
      · refine Or.inr fun c => ?_
        obtain ⟨z, hz⟩ := cv_cat2 c
        exact h2 q z hz
      · exact Or.inl q
/-- fewer known locals -/
theorem J_sub {x : Xc} {pc : Nat} {lo : Lo} {st : List AV} {M : Mm} (lo' : Lo) (hs : ∀ (i : Nat) (v : AV), lo'[i]? = some (some v) → lo[i]? = some (some v)) (h : J x pc lo' st M) : J x pc lo st M := by
  obtain ⟨p, l, e, R, s, m, args, below, meth, c, ⟨cells, slots⟩, Q, D, ad, cA, A, nL⟩ := x
  intro H locs ls hP hS hl
  exact h H locs ls hP hS ⟨hl.1, hl.2.1, fun i v q => hl.2.2 i v (hs i v q)⟩
/-- the same, by a list that says which stay -/
def fgt : List Bool → Lo → Lo
  | true :: bs, v :: lo => v :: fgt bs lo
  | false :: bs, _ :: lo => none :: fgt bs lo
  | _, _ => []
theorem fgt_sub (bs : List Bool) (lo : Lo) (i : Nat) (v : AV) (h : (fgt bs lo)[i]? = some (some v)) : lo[i]? = some (some v) := by
  induction bs generalizing lo i with
  | nil => simp [fgt] at h
  | cons b bs ih =>
    cases lo with
    | nil => cases b <;> simp [fgt] at h
    | cons w lo =>
      cases b <;> cases i <;> simp [fgt] at h ⊢
      · exact ih _ _ h
      · exact h
      · exact ih _ _ h
theorem J_fgt {x : Xc} {pc : Nat} {lo : Lo} {st : List AV} {M : Mm} (bs : List Bool) (h : J x pc (fgt bs lo) st M) : J x pc lo st M := J_sub _ (fgt_sub bs lo) h

theorem iR0 : iR 0 := ⟨by decide, by decide⟩
theorem lR0 : lR 0 := ⟨by decide, by decide⟩
def c_iadd (kt : Kt) : Kt := fun lo st M => match st with
  | .inl (.inl y) :: .inl (.inl z) :: r => kt lo (zi (z + y) :: r) M
  | _ => False
theorem r_iadd {x : Xc} {l0 : Launch} {b : ByteArray} {own : String} {nl dd : Nat} {pc : Nat} {kt : Kt} (C : Cx x l0 b own nl dd) (hd : decode b pc = .ok (.iadd, 1)) (h : Ok x (pc + 1) kt) : Ok x pc (c_iadd kt) := by
  intro lo st M hk
  obtain ⟨p, l, e, R, s, m, args, below, meth, c, ⟨cells, slots⟩, Q, D, ad, cA, A, nL⟩ := x
  obtain ⟨hx, hb, hml, hown, hts, hK, hD, hA, hc1, hc2, hlk, hnl, hll, hrm, hN⟩ := C
  match st, hk with
  | .inl (.inl y) :: .inl (.inl z) :: r, hk =>
    intro H locs ls hP hS hl
    have q := h lo _ M hk H locs ls hP hS hl
    simp only [List.map, cv, Int32.ofInt_add] at q
    exact lv_iadd hx hb hd q
def c_isub (kt : Kt) : Kt := fun lo st M => match st with
  | .inl (.inl y) :: .inl (.inl z) :: r => kt lo (zi (z - y) :: r) M
  | _ => False
theorem r_isub {x : Xc} {l0 : Launch} {b : ByteArray} {own : String} {nl dd : Nat} {pc : Nat} {kt : Kt} (C : Cx x l0 b own nl dd) (hd : decode b pc = .ok (.isub, 1)) (h : Ok x (pc + 1) kt) : Ok x pc (c_isub kt) := by
  intro lo st M hk
  obtain ⟨p, l, e, R, s, m, args, below, meth, c, ⟨cells, slots⟩, Q, D, ad, cA, A, nL⟩ := x
  obtain ⟨hx, hb, hml, hown, hts, hK, hD, hA, hc1, hc2, hlk, hnl, hll, hrm, hN⟩ := C
  match st, hk with
  | .inl (.inl y) :: .inl (.inl z) :: r, hk =>
    intro H locs ls hP hS hl
    have q := h lo _ M hk H locs ls hP hS hl
    simp only [List.map, cv, Int32.ofInt_sub] at q
    exact lv_isub hx hb hd q
def c_imul (kt : Kt) : Kt := fun lo st M => match st with
  | .inl (.inl y) :: .inl (.inl z) :: r => kt lo (zi (z * y) :: r) M
  | _ => False
theorem r_imul {x : Xc} {l0 : Launch} {b : ByteArray} {own : String} {nl dd : Nat} {pc : Nat} {kt : Kt} (C : Cx x l0 b own nl dd) (hd : decode b pc = .ok (.imul, 1)) (h : Ok x (pc + 1) kt) : Ok x pc (c_imul kt) := by
  intro lo st M hk
  obtain ⟨p, l, e, R, s, m, args, below, meth, c, ⟨cells, slots⟩, Q, D, ad, cA, A, nL⟩ := x
  obtain ⟨hx, hb, hml, hown, hts, hK, hD, hA, hc1, hc2, hlk, hnl, hll, hrm, hN⟩ := C
  match st, hk with
  | .inl (.inl y) :: .inl (.inl z) :: r, hk =>
    intro H locs ls hP hS hl
    have q := h lo _ M hk H locs ls hP hS hl
    simp only [List.map, cv, Int32.ofInt_mul] at q
    exact lv_imul hx hb hd q
def c_ladd (kt : Kt) : Kt := fun lo st M => match st with
  | .inl (.inr y) :: .inl (.inr z) :: r => kt lo (zl (z + y) :: r) M
  | _ => False
theorem r_ladd {x : Xc} {l0 : Launch} {b : ByteArray} {own : String} {nl dd : Nat} {pc : Nat} {kt : Kt} (C : Cx x l0 b own nl dd) (hd : decode b pc = .ok (.ladd, 1)) (h : Ok x (pc + 1) kt) : Ok x pc (c_ladd kt) := by
  intro lo st M hk
  obtain ⟨p, l, e, R, s, m, args, below, meth, c, ⟨cells, slots⟩, Q, D, ad, cA, A, nL⟩ := x
  obtain ⟨hx, hb, hml, hown, hts, hK, hD, hA, hc1, hc2, hlk, hnl, hll, hrm, hN⟩ := C
  match st, hk with
  | .inl (.inr y) :: .inl (.inr z) :: r, hk =>
    intro H locs ls hP hS hl
    have q := h lo _ M hk H locs ls hP hS hl
    simp only [List.map, cv, Int64.ofInt_add] at q
    exact lv_ladd hx hb hd q
def c_lsub (kt : Kt) : Kt := fun lo st M => match st with
  | .inl (.inr y) :: .inl (.inr z) :: r => kt lo (zl (z - y) :: r) M
  | _ => False
theorem r_lsub {x : Xc} {l0 : Launch} {b : ByteArray} {own : String} {nl dd : Nat} {pc : Nat} {kt : Kt} (C : Cx x l0 b own nl dd) (hd : decode b pc = .ok (.lsub, 1)) (h : Ok x (pc + 1) kt) : Ok x pc (c_lsub kt) := by
  intro lo st M hk
  obtain ⟨p, l, e, R, s, m, args, below, meth, c, ⟨cells, slots⟩, Q, D, ad, cA, A, nL⟩ := x
  obtain ⟨hx, hb, hml, hown, hts, hK, hD, hA, hc1, hc2, hlk, hnl, hll, hrm, hN⟩ := C
  match st, hk with
  | .inl (.inr y) :: .inl (.inr z) :: r, hk =>
    intro H locs ls hP hS hl
    have q := h lo _ M hk H locs ls hP hS hl
    simp only [List.map, cv, Int64.ofInt_sub] at q
    exact lv_lsub hx hb hd q
def c_lmul (kt : Kt) : Kt := fun lo st M => match st with
  | .inl (.inr y) :: .inl (.inr z) :: r => kt lo (zl (z * y) :: r) M
  | _ => False
theorem r_lmul {x : Xc} {l0 : Launch} {b : ByteArray} {own : String} {nl dd : Nat} {pc : Nat} {kt : Kt} (C : Cx x l0 b own nl dd) (hd : decode b pc = .ok (.lmul, 1)) (h : Ok x (pc + 1) kt) : Ok x pc (c_lmul kt) := by
  intro lo st M hk
  obtain ⟨p, l, e, R, s, m, args, below, meth, c, ⟨cells, slots⟩, Q, D, ad, cA, A, nL⟩ := x
  obtain ⟨hx, hb, hml, hown, hts, hK, hD, hA, hc1, hc2, hlk, hnl, hll, hrm, hN⟩ := C
  match st, hk with
  | .inl (.inr y) :: .inl (.inr z) :: r, hk =>
    intro H locs ls hP hS hl
    have q := h lo _ M hk H locs ls hP hS hl
    simp only [List.map, cv, Int64.ofInt_mul] at q
    exact lv_lmul hx hb hd q
def c_ineg (kt : Kt) : Kt := fun lo st M => match st with
  | .inl (.inl z) :: r => kt lo (zi (-z) :: r) M
  | _ => False
theorem r_ineg {x : Xc} {l0 : Launch} {b : ByteArray} {own : String} {nl dd : Nat} {pc : Nat} {kt : Kt} (C : Cx x l0 b own nl dd) (hd : decode b pc = .ok (.ineg, 1)) (h : Ok x (pc + 1) kt) : Ok x pc (c_ineg kt) := by
  intro lo st M hk
  obtain ⟨p, l, e, R, s, m, args, below, meth, c, ⟨cells, slots⟩, Q, D, ad, cA, A, nL⟩ := x
  obtain ⟨hx, hb, hml, hown, hts, hK, hD, hA, hc1, hc2, hlk, hnl, hll, hrm, hN⟩ := C
  match st, hk with
  | .inl (.inl z) :: r, hk =>
    intro H locs ls hP hS hl
    have q := h lo _ M hk H locs ls hP hS hl
    simp only [List.map, cv, Int32.ofInt_neg] at q
    exact lv_ineg hx hb hd q
def c_lneg (kt : Kt) : Kt := fun lo st M => match st with
  | .inl (.inr z) :: r => kt lo (zl (-z) :: r) M
  | _ => False
theorem r_lneg {x : Xc} {l0 : Launch} {b : ByteArray} {own : String} {nl dd : Nat} {pc : Nat} {kt : Kt} (C : Cx x l0 b own nl dd) (hd : decode b pc = .ok (.lneg, 1)) (h : Ok x (pc + 1) kt) : Ok x pc (c_lneg kt) := by
  intro lo st M hk
  obtain ⟨p, l, e, R, s, m, args, below, meth, c, ⟨cells, slots⟩, Q, D, ad, cA, A, nL⟩ := x
  obtain ⟨hx, hb, hml, hown, hts, hK, hD, hA, hc1, hc2, hlk, hnl, hll, hrm, hN⟩ := C
  match st, hk with
  | .inl (.inr z) :: r, hk =>
    intro H locs ls hP hS hl
    have q := h lo _ M hk H locs ls hP hS hl
    simp only [List.map, cv, Int64.ofInt_neg] at q
    exact lv_lneg hx hb hd q
/-- an int constant: iconst, bipush, sipush -/
def c_ic (n : Int) (kt : Kt) : Kt := fun lo st M => kt lo (zi n :: st) M
theorem r_iconst {x : Xc} {l0 : Launch} {b : ByteArray} {own : String} {nl dd : Nat} {pc : Nat} {kt : Kt} {n : Int} (C : Cx x l0 b own nl dd) (hd : decode b pc = .ok (.iconst n, 1)) (h : Ok x (pc + 1) kt) : Ok x pc (c_ic n kt) := by
  intro lo st M hk
  obtain ⟨p, l, e, R, s, m, args, below, meth, c, ⟨cells, slots⟩, Q, D, ad, cA, A, nL⟩ := x
  obtain ⟨hx, hb, hml, hown, hts, hK, hD, hA, hc1, hc2, hlk, hnl, hll, hrm, hN⟩ := C
  intro H locs ls hP hS hl
  exact lv_iconst hx hb hd rfl (h lo _ M hk H locs ls hP hS hl)
theorem r_bipush {x : Xc} {l0 : Launch} {b : ByteArray} {own : String} {nl dd : Nat} {pc : Nat} {kt : Kt} {n : Int} (C : Cx x l0 b own nl dd) (hd : decode b pc = .ok (.bipush n, 2)) (hn : (Int8.ofInt n).toInt32 = Int32.ofInt n) (h : Ok x (pc + 2) kt) : Ok x pc (c_ic n kt) := by
  intro lo st M hk
  obtain ⟨p, l, e, R, s, m, args, below, meth, c, ⟨cells, slots⟩, Q, D, ad, cA, A, nL⟩ := x
  obtain ⟨hx, hb, hml, hown, hts, hK, hD, hA, hc1, hc2, hlk, hnl, hll, hrm, hN⟩ := C
  intro H locs ls hP hS hl
  exact lv_bipush hx hb hd hn (h lo _ M hk H locs ls hP hS hl)
theorem r_sipush {x : Xc} {l0 : Launch} {b : ByteArray} {own : String} {nl dd : Nat} {pc : Nat} {kt : Kt} {n : Int} (C : Cx x l0 b own nl dd) (hd : decode b pc = .ok (.sipush n, 3)) (hn : (Int16.ofInt n).toInt32 = Int32.ofInt n) (h : Ok x (pc + 3) kt) : Ok x pc (c_ic n kt) := by
  intro lo st M hk
  obtain ⟨p, l, e, R, s, m, args, below, meth, c, ⟨cells, slots⟩, Q, D, ad, cA, A, nL⟩ := x
  obtain ⟨hx, hb, hml, hown, hts, hK, hD, hA, hc1, hc2, hlk, hnl, hll, hrm, hN⟩ := C
  intro H locs ls hP hS hl
  exact lv_sipush hx hb hd hn (h lo _ M hk H locs ls hP hS hl)
def c_lc (n : Int) (kt : Kt) : Kt := fun lo st M => kt lo (zl n :: st) M
theorem r_lconst {x : Xc} {l0 : Launch} {b : ByteArray} {own : String} {nl dd : Nat} {pc : Nat} {kt : Kt} {n : Fin 2} {z : Int} (C : Cx x l0 b own nl dd) (hd : decode b pc = .ok (.lconst n, 1)) (hn : Int64.ofNat (n : Nat) = Int64.ofInt z) (h : Ok x (pc + 1) kt) : Ok x pc (c_lc z kt) := by
  intro lo st M hk
  obtain ⟨p, l, e, R, s, m, args, below, meth, c, ⟨cells, slots⟩, Q, D, ad, cA, A, nL⟩ := x
  obtain ⟨hx, hb, hml, hown, hts, hK, hD, hA, hc1, hc2, hlk, hnl, hll, hrm, hN⟩ := C
  intro H locs ls hP hS hl
  exact lv_lconst hx hb hd hn (h lo _ M hk H locs ls hP hS hl)
theorem r_ldc2 {x : Xc} {l0 : Launch} {b : ByteArray} {own : String} {nl dd : Nat} {pc : Nat} {kt : Kt} {i : Nat} {z : Int} {v : Int64} (C : Cx x l0 b own nl dd) (hd : decode b pc = .ok (.ldc2_w i, 3)) (hw : Cond.constantLong own i v ∈ gT) (hn : v = Int64.ofInt z) (h : Ok x (pc + 3) kt) : Ok x pc (c_lc z kt) := by
  intro lo st M hk
  obtain ⟨p, l, e, R, s, m, args, below, meth, c, ⟨cells, slots⟩, Q, D, ad, cA, A, nL⟩ := x
  obtain ⟨hx, hb, hml, hown, hts, hK, hD, hA, hc1, hc2, hlk, hnl, hll, hrm, hN⟩ := C
  intro H locs ls hP hS hl
  subst hn
  exact lv_ldc2 hx hb hown (hts _ hw) hd (h lo _ M hk H locs ls hP hS hl)
def c_iload (i : Nat) (kt : Kt) : Kt := fun lo st M => match lo[i]? with
  | some (some (.inl (.inl z))) => kt lo ((.inl (.inl z)) :: st) M
  | _ => False
theorem r_iload {x : Xc} {l0 : Launch} {b : ByteArray} {own : String} {nl dd : Nat} {pc : Nat} {kt : Kt} {i : Nat} (C : Cx x l0 b own nl dd) (hd : decode b pc = .ok (.iload i, 2)) (h : Ok x (pc + 2) kt) : Ok x pc (c_iload i kt) := by
  intro lo st M hk
  obtain ⟨p, l, e, R, s, m, args, below, meth, c, ⟨cells, slots⟩, Q, D, ad, cA, A, nL⟩ := x
  obtain ⟨hx, hb, hml, hown, hts, hK, hD, hA, hc1, hc2, hlk, hnl, hll, hrm, hN⟩ := C
  unfold c_iload at hk
  split at hk
  · rename_i z hz
    intro H locs ls hP hS hl
    exact lv_iload hx hb hd (hl.2.2 i _ hz) (h lo _ M hk H locs ls hP hS hl)
  · exact hk.elim
theorem r_iload_n {x : Xc} {l0 : Launch} {b : ByteArray} {own : String} {nl dd : Nat} {pc : Nat} {kt : Kt} {j : Fin 4} {i : Nat} (C : Cx x l0 b own nl dd) (hd : decode b pc = .ok (.iload_n j, 1)) (hi : (j : Nat) = i) (h : Ok x (pc + 1) kt) : Ok x pc (c_iload i kt) := by
  intro lo st M hk
  obtain ⟨p, l, e, R, s, m, args, below, meth, c, ⟨cells, slots⟩, Q, D, ad, cA, A, nL⟩ := x
  obtain ⟨hx, hb, hml, hown, hts, hK, hD, hA, hc1, hc2, hlk, hnl, hll, hrm, hN⟩ := C
  unfold c_iload at hk
  split at hk
  · rename_i z hz
    intro H locs ls hP hS hl
    exact lv_iload_n hx hb hd hi (hl.2.2 i _ hz) (h lo _ M hk H locs ls hP hS hl)
  · exact hk.elim
def c_lload (i : Nat) (kt : Kt) : Kt := fun lo st M => match lo[i]? with
  | some (some (.inl (.inr z))) => kt lo ((.inl (.inr z)) :: st) M
  | _ => False
theorem r_lload {x : Xc} {l0 : Launch} {b : ByteArray} {own : String} {nl dd : Nat} {pc : Nat} {kt : Kt} {i : Nat} (C : Cx x l0 b own nl dd) (hd : decode b pc = .ok (.lload i, 2)) (h : Ok x (pc + 2) kt) : Ok x pc (c_lload i kt) := by
  intro lo st M hk
  obtain ⟨p, l, e, R, s, m, args, below, meth, c, ⟨cells, slots⟩, Q, D, ad, cA, A, nL⟩ := x
  obtain ⟨hx, hb, hml, hown, hts, hK, hD, hA, hc1, hc2, hlk, hnl, hll, hrm, hN⟩ := C
  unfold c_lload at hk
  split at hk
  · rename_i z hz
    intro H locs ls hP hS hl
    exact lv_lload hx hb hd (hl.2.2 i _ hz) (h lo _ M hk H locs ls hP hS hl)
  · exact hk.elim
theorem r_lload_n {x : Xc} {l0 : Launch} {b : ByteArray} {own : String} {nl dd : Nat} {pc : Nat} {kt : Kt} {j : Fin 4} {i : Nat} (C : Cx x l0 b own nl dd) (hd : decode b pc = .ok (.lload_n j, 1)) (hi : (j : Nat) = i) (h : Ok x (pc + 1) kt) : Ok x pc (c_lload i kt) := by
  intro lo st M hk
  obtain ⟨p, l, e, R, s, m, args, below, meth, c, ⟨cells, slots⟩, Q, D, ad, cA, A, nL⟩ := x
  obtain ⟨hx, hb, hml, hown, hts, hK, hD, hA, hc1, hc2, hlk, hnl, hll, hrm, hN⟩ := C
  unfold c_lload at hk
  split at hk
  · rename_i z hz
    intro H locs ls hP hS hl
    exact lv_lload_n hx hb hd hi (hl.2.2 i _ hz) (h lo _ M hk H locs ls hP hS hl)
  · exact hk.elim
def c_aload (i : Nat) (kt : Kt) : Kt := fun lo st M => match lo[i]? with
  | some (some (.inr (some z))) => kt lo ((.inr (some z)) :: st) M
  | _ => False
theorem r_aload {x : Xc} {l0 : Launch} {b : ByteArray} {own : String} {nl dd : Nat} {pc : Nat} {kt : Kt} {i : Nat} (C : Cx x l0 b own nl dd) (hd : decode b pc = .ok (.aload i, 2)) (h : Ok x (pc + 2) kt) : Ok x pc (c_aload i kt) := by
  intro lo st M hk
  obtain ⟨p, l, e, R, s, m, args, below, meth, c, ⟨cells, slots⟩, Q, D, ad, cA, A, nL⟩ := x
  obtain ⟨hx, hb, hml, hown, hts, hK, hD, hA, hc1, hc2, hlk, hnl, hll, hrm, hN⟩ := C
  unfold c_aload at hk
  split at hk
  · rename_i z hz
    intro H locs ls hP hS hl
    exact lv_aload hx hb hd (hl.2.2 i _ hz) (h lo _ M hk H locs ls hP hS hl)
  · exact hk.elim
theorem r_aload_n {x : Xc} {l0 : Launch} {b : ByteArray} {own : String} {nl dd : Nat} {pc : Nat} {kt : Kt} {j : Fin 4} {i : Nat} (C : Cx x l0 b own nl dd) (hd : decode b pc = .ok (.aload_n j, 1)) (hi : (j : Nat) = i) (h : Ok x (pc + 1) kt) : Ok x pc (c_aload i kt) := by
  intro lo st M hk
  obtain ⟨p, l, e, R, s, m, args, below, meth, c, ⟨cells, slots⟩, Q, D, ad, cA, A, nL⟩ := x
  obtain ⟨hx, hb, hml, hown, hts, hK, hD, hA, hc1, hc2, hlk, hnl, hll, hrm, hN⟩ := C
  unfold c_aload at hk
  split at hk
  · rename_i z hz
    intro H locs ls hP hS hl
    exact lv_aload_n hx hb hd hi (hl.2.2 i _ hz) (h lo _ M hk H locs ls hP hS hl)
  · exact hk.elim
def c_istore (i : Nat) (kt : Kt) : Kt := fun lo st M => match st with
  | .inl (.inl z) :: r => kt (st1 lo i (.inl (.inl z))) r M
  | _ => False
theorem r_istore {x : Xc} {l0 : Launch} {b : ByteArray} {own : String} {nl dd : Nat} {pc : Nat} {kt : Kt} {i : Nat} (C : Cx x l0 b own nl dd) (hd : decode b pc = .ok (.istore i, 2)) (hn : i < nl) (h : Ok x (pc + 2) kt) : Ok x pc (c_istore i kt) := by
  intro lo st M hk
  obtain ⟨p, l, e, R, s, m, args, below, meth, c, ⟨cells, slots⟩, Q, D, ad, cA, A, nL⟩ := x
  obtain ⟨hx, hb, hml, hown, hts, hK, hD, hA, hc1, hc2, hlk, hnl, hll, hrm, hN⟩ := C
  match st, hk with
  | .inl (.inl z) :: r, hk =>
    intro H locs ls hP hS hl
    exact lv_istore hx hb hd (lvF_has hl) (by omega) rfl (fun ls' hl' => h _ _ M hk H locs ls' hP hS (lvF_st1 hl'))
theorem r_istore_n {x : Xc} {l0 : Launch} {b : ByteArray} {own : String} {nl dd : Nat} {pc : Nat} {kt : Kt} {j : Fin 4} {i : Nat} (C : Cx x l0 b own nl dd) (hd : decode b pc = .ok (.istore_n j, 1)) (hi : (j : Nat) = i) (hn : i < nl) (h : Ok x (pc + 1) kt) : Ok x pc (c_istore i kt) := by
  intro lo st M hk
  obtain ⟨p, l, e, R, s, m, args, below, meth, c, ⟨cells, slots⟩, Q, D, ad, cA, A, nL⟩ := x
  obtain ⟨hx, hb, hml, hown, hts, hK, hD, hA, hc1, hc2, hlk, hnl, hll, hrm, hN⟩ := C
  match st, hk with
  | .inl (.inl z) :: r, hk =>
    intro H locs ls hP hS hl
    exact lv_istore_n hx hb hd hi (lvF_has hl) (by omega) rfl (fun ls' hl' => h _ _ M hk H locs ls' hP hS (lvF_st1 hl'))
def c_astore (i : Nat) (kt : Kt) : Kt := fun lo st M => match st with
  | .inr (some z) :: r => kt (st1 lo i (.inr (some z))) r M
  | _ => False
theorem r_astore {x : Xc} {l0 : Launch} {b : ByteArray} {own : String} {nl dd : Nat} {pc : Nat} {kt : Kt} {i : Nat} (C : Cx x l0 b own nl dd) (hd : decode b pc = .ok (.astore i, 2)) (hn : i < nl) (h : Ok x (pc + 2) kt) : Ok x pc (c_astore i kt) := by
  intro lo st M hk
  obtain ⟨p, l, e, R, s, m, args, below, meth, c, ⟨cells, slots⟩, Q, D, ad, cA, A, nL⟩ := x
  obtain ⟨hx, hb, hml, hown, hts, hK, hD, hA, hc1, hc2, hlk, hnl, hll, hrm, hN⟩ := C
  match st, hk with
  | .inr (some z) :: r, hk =>
    intro H locs ls hP hS hl
    exact lv_astore hx hb hd (lvF_has hl) (by omega) rfl (fun ls' hl' => h _ _ M hk H locs ls' hP hS (lvF_st1 hl'))
theorem r_astore_n {x : Xc} {l0 : Launch} {b : ByteArray} {own : String} {nl dd : Nat} {pc : Nat} {kt : Kt} {j : Fin 4} {i : Nat} (C : Cx x l0 b own nl dd) (hd : decode b pc = .ok (.astore_n j, 1)) (hi : (j : Nat) = i) (hn : i < nl) (h : Ok x (pc + 1) kt) : Ok x pc (c_astore i kt) := by
  intro lo st M hk
  obtain ⟨p, l, e, R, s, m, args, below, meth, c, ⟨cells, slots⟩, Q, D, ad, cA, A, nL⟩ := x
  obtain ⟨hx, hb, hml, hown, hts, hK, hD, hA, hc1, hc2, hlk, hnl, hll, hrm, hN⟩ := C
  match st, hk with
  | .inr (some z) :: r, hk =>
    intro H locs ls hP hS hl
    exact lv_astore_n hx hb hd hi (lvF_has hl) (by omega) rfl (fun ls' hl' => h _ _ M hk H locs ls' hP hS (lvF_st1 hl'))
def c_lstore (i : Nat) (kt : Kt) : Kt := fun lo st M => match st with
  | .inl (.inr z) :: r => kt (st2 lo i (.inl (.inr z))) r M
  | _ => False
theorem r_lstore {x : Xc} {l0 : Launch} {b : ByteArray} {own : String} {nl dd : Nat} {pc : Nat} {kt : Kt} {i : Nat} (C : Cx x l0 b own nl dd) (hd : decode b pc = .ok (.lstore i, 2)) (hn : i + 1 < nl) (h : Ok x (pc + 2) kt) : Ok x pc (c_lstore i kt) := by
  intro lo st M hk
  obtain ⟨p, l, e, R, s, m, args, below, meth, c, ⟨cells, slots⟩, Q, D, ad, cA, A, nL⟩ := x
  obtain ⟨hx, hb, hml, hown, hts, hK, hD, hA, hc1, hc2, hlk, hnl, hll, hrm, hN⟩ := C
  match st, hk with
  | .inl (.inr z) :: r, hk =>
    intro H locs ls hP hS hl
    exact lv_lstore hx hb hd (lvF_has hl) (by omega) rfl (fun ls' hl' => h _ _ M hk H locs ls' hP hS (lvF_st2 hl'))
theorem r_lstore_n {x : Xc} {l0 : Launch} {b : ByteArray} {own : String} {nl dd : Nat} {pc : Nat} {kt : Kt} {j : Fin 4} {i : Nat} (C : Cx x l0 b own nl dd) (hd : decode b pc = .ok (.lstore_n j, 1)) (hi : (j : Nat) = i) (hn : i + 1 < nl) (h : Ok x (pc + 1) kt) : Ok x pc (c_lstore i kt) := by
  intro lo st M hk
  obtain ⟨p, l, e, R, s, m, args, below, meth, c, ⟨cells, slots⟩, Q, D, ad, cA, A, nL⟩ := x
  obtain ⟨hx, hb, hml, hown, hts, hK, hD, hA, hc1, hc2, hlk, hnl, hll, hrm, hN⟩ := C
  match st, hk with
  | .inl (.inr z) :: r, hk =>
    intro H locs ls hP hS hl
    exact lv_lstore_n hx hb hd hi (lvF_has hl) (by omega) rfl (fun ls' hl' => h _ _ M hk H locs ls' hP hS (lvF_st2 hl'))
def c_iinc (i : Nat) (n : Int) (kt : Kt) : Kt := fun lo st M => match lo[i]? with
  | some (some (.inl (.inl z))) => kt (st1 lo i (zi (z + n))) st M
  | _ => False
theorem r_iinc {x : Xc} {l0 : Launch} {b : ByteArray} {own : String} {nl dd : Nat} {pc : Nat} {kt : Kt} {i : Nat} {n : Int} (C : Cx x l0 b own nl dd) (hd : decode b pc = .ok (.iinc i n, 3)) (hn : i < nl) (h : Ok x (pc + 3) kt) : Ok x pc (c_iinc i n kt) := by
  intro lo st M hk
  obtain ⟨p, l, e, R, s, m, args, below, meth, c, ⟨cells, slots⟩, Q, D, ad, cA, A, nL⟩ := x
  obtain ⟨hx, hb, hml, hown, hts, hK, hD, hA, hc1, hc2, hlk, hnl, hll, hrm, hN⟩ := C
  unfold c_iinc at hk
  split at hk
  · rename_i z hz
    intro H locs ls hP hS hl
    obtain ⟨k, hk2⟩ := List.getElem?_of_mem (lsl_mem (ad := ad) hz)
    exact lv_iinc (v := Int32.ofInt (z + n)) hx hb hd (lvF_has hl) hk2 (by rw [Int32.ofInt_add]) (by omega) rfl (fun ls' hl' => h _ _ M hk H locs ls' hP hS (lvF_st1 (v := zi (z + n)) hl'))
  · exact hk.elim
def c_dup (kt : Kt) : Kt := fun lo st M => match st with
  | .inl (.inl z) :: r => kt lo (zi z :: zi z :: r) M
  | .inr v :: r => kt lo (.inr v :: .inr v :: r) M
  | _ => False
theorem r_dup {x : Xc} {l0 : Launch} {b : ByteArray} {own : String} {nl dd : Nat} {pc : Nat} {kt : Kt} (C : Cx x l0 b own nl dd) (hd : decode b pc = .ok (.dup, 1)) (h : Ok x (pc + 1) kt) : Ok x pc (c_dup kt) := by
  intro lo st M hk
  obtain ⟨p, l, e, R, s, m, args, below, meth, c, ⟨cells, slots⟩, Q, D, ad, cA, A, nL⟩ := x
  obtain ⟨hx, hb, hml, hown, hts, hK, hD, hA, hc1, hc2, hlk, hnl, hll, hrm, hN⟩ := C
  match st, hk with
  | .inl (.inl z) :: r, hk =>
    intro H locs ls hP hS hl
    exact lv_dup hx hb hd rfl (h lo _ M hk H locs ls hP hS hl)
  | .inr (some v) :: r, hk =>
    intro H locs ls hP hS hl
    exact lv_dup hx hb hd rfl (h lo _ M hk H locs ls hP hS hl)
  | .inr none :: r, hk =>
    intro H locs ls hP hS hl
    exact lv_dup hx hb hd rfl (h lo _ M hk H locs ls hP hS hl)
/-- dup2 over an array and a place -/
def c_dup2 (kt : Kt) : Kt := fun lo st M => match st with
  | .inl (.inl z) :: .inr (some v) :: r => kt lo (zi z :: .inr (some v) :: zi z :: .inr (some v) :: r) M
  | _ => False
theorem r_dup2 {x : Xc} {l0 : Launch} {b : ByteArray} {own : String} {nl dd : Nat} {pc : Nat} {kt : Kt} (C : Cx x l0 b own nl dd) (hd : decode b pc = .ok (.dup2, 1)) (h : Ok x (pc + 1) kt) : Ok x pc (c_dup2 kt) := by
  intro lo st M hk
  obtain ⟨p, l, e, R, s, m, args, below, meth, c, ⟨cells, slots⟩, Q, D, ad, cA, A, nL⟩ := x
  obtain ⟨hx, hb, hml, hown, hts, hK, hD, hA, hc1, hc2, hlk, hnl, hll, hrm, hN⟩ := C
  match st, hk with
  | .inl (.inl z) :: .inr (some v) :: r, hk =>
    intro H locs ls hP hS hl
    exact lv_dup2_11 hx hb hd rfl rfl (h lo _ M hk H locs ls hP hS hl)
def c_goto (kt : Kt) : Kt := kt
theorem r_goto {x : Xc} {l0 : Launch} {b : ByteArray} {own : String} {nl dd : Nat} {pc : Nat} {kt : Kt} {off : Int} {tgt : Nat} (C : Cx x l0 b own nl dd) (hd : decode b pc = .ok (.goto off, 3)) (ht : (pc : Int) + off = (tgt : Int)) (h : Ok x tgt kt) : Ok x pc (c_goto kt) := by
  intro lo st M hk
  obtain ⟨p, l, e, R, s, m, args, below, meth, c, ⟨cells, slots⟩, Q, D, ad, cA, A, nL⟩ := x
  obtain ⟨hx, hb, hml, hown, hts, hK, hD, hA, hc1, hc2, hlk, hnl, hll, hrm, hN⟩ := C
  intro H locs ls hP hS hl
  exact lv_goto hx hb hd ht (h lo _ M hk H locs ls hP hS hl)
/-- the block's end: what follows has rows of its own -/
def c_i2l (kt : Kt) : Kt := fun lo st M => match st with
  | .inl (.inl z) :: r => iR z ∧ kt lo (zl z :: r) M
  | _ => False
theorem r_i2l {x : Xc} {l0 : Launch} {b : ByteArray} {own : String} {nl dd : Nat} {pc : Nat} {kt : Kt} (C : Cx x l0 b own nl dd) (hd : decode b pc = .ok (.i2l, 1)) (h : Ok x (pc + 1) kt) : Ok x pc (c_i2l kt) := by
  intro lo st M hk
  obtain ⟨p, l, e, R, s, m, args, below, meth, c, ⟨cells, slots⟩, Q, D, ad, cA, A, nL⟩ := x
  obtain ⟨hx, hb, hml, hown, hts, hK, hD, hA, hc1, hc2, hlk, hnl, hll, hrm, hN⟩ := C
  match st, hk with
  | .inl (.inl z) :: r, ⟨hz, hk⟩ =>
    intro H locs ls hP hS hl
    exact lv_i2l hx hb hd (Int64.toInt_inj.mp (by rw [Int32.toInt_toInt64, iR_to hz, lR_to ⟨by omega, by omega⟩])) (h lo _ M hk H locs ls hP hS hl)
def c_l2i (kt : Kt) : Kt := fun lo st M => match st with
  | .inl (.inr z) :: r => lR z ∧ iR z ∧ kt lo (zi z :: r) M
  | _ => False
theorem r_l2i {x : Xc} {l0 : Launch} {b : ByteArray} {own : String} {nl dd : Nat} {pc : Nat} {kt : Kt} (C : Cx x l0 b own nl dd) (hd : decode b pc = .ok (.l2i, 1)) (h : Ok x (pc + 1) kt) : Ok x pc (c_l2i kt) := by
  intro lo st M hk
  obtain ⟨p, l, e, R, s, m, args, below, meth, c, ⟨cells, slots⟩, Q, D, ad, cA, A, nL⟩ := x
  obtain ⟨hx, hb, hml, hown, hts, hK, hD, hA, hc1, hc2, hlk, hnl, hll, hrm, hN⟩ := C
  match st, hk with
  | .inl (.inr z) :: r, ⟨hz, hz2, hk⟩ =>
    intro H locs ls hP hS hl
    exact lv_l2i hx hb hd Int64.toInt32_ofInt (h lo _ M hk H locs ls hP hS hl)
/-- a quotient of what is not below 0 -/
def c_idiv (kt : Kt) : Kt := fun lo st M => match st with
  | .inl (.inl y) :: .inl (.inl z) :: r => (0 ≤ z ∧ z < 2147483648) ∧ (0 < y ∧ y < 2147483648) ∧ kt lo (zi (z / y) :: r) M
  | _ => False
theorem r_idiv {x : Xc} {l0 : Launch} {b : ByteArray} {own : String} {nl dd : Nat} {pc : Nat} {kt : Kt} (C : Cx x l0 b own nl dd) (hd : decode b pc = .ok (.idiv, 1)) (h : Ok x (pc + 1) kt) : Ok x pc (c_idiv kt) := by
  intro lo st M hk
  obtain ⟨p, l, e, R, s, m, args, below, meth, c, ⟨cells, slots⟩, Q, D, ad, cA, A, nL⟩ := x
  obtain ⟨hx, hb, hml, hown, hts, hK, hD, hA, hc1, hc2, hlk, hnl, hll, hrm, hN⟩ := C
  match st, hk with
  | .inl (.inl y) :: .inl (.inl z) :: r, ⟨hz, hy, hk⟩ =>
    intro H locs ls hP hS hl
    have q := h lo _ M hk H locs ls hP hS hl
    have e1 : Int32.ofInt (z / y) = Int32.ofInt z / Int32.ofInt y := by
      rw [← Int.tdiv_eq_ediv_of_nonneg hz.1]
      exact Int32.ofInt_tdiv (by have : Int32.minValue.toInt = -2147483648 := rfl; omega) (by have : Int32.maxValue.toInt = 2147483647 := rfl; omega) (by have : Int32.minValue.toInt = -2147483648 := rfl; omega) (by have : Int32.maxValue.toInt = 2147483647 := rfl; omega)
    simp only [List.map, cv, e1] at q
    refine lv_idiv hx hb hd (fun e => ?_) q
    have := (iR_eq (a := y) (b := 0) ⟨by omega, by omega⟩ ⟨by decide, by decide⟩).mp e
    omega
def c_ldiv (kt : Kt) : Kt := fun lo st M => match st with
  | .inl (.inr y) :: .inl (.inr z) :: r => (0 ≤ z ∧ z < 9223372036854775808) ∧ (0 < y ∧ y < 9223372036854775808) ∧ kt lo (zl (z / y) :: r) M
  | _ => False
theorem ldiv_eq {y z : Int} (hz : 0 ≤ z ∧ z < 9223372036854775808) (hy : 0 < y ∧ y < 9223372036854775808) : Int64.ofInt (z / y) = Int64.ofInt z / Int64.ofInt y := by
  rw [← Int.tdiv_eq_ediv_of_nonneg hz.1]
  exact Int64.ofInt_tdiv (by have : Int64.minValue.toInt = -9223372036854775808 := rfl; omega) (by have : Int64.maxValue.toInt = 9223372036854775807 := rfl; omega) (by have : Int64.minValue.toInt = -9223372036854775808 := rfl; omega) (by have : Int64.maxValue.toInt = 9223372036854775807 := rfl; omega)
theorem r_ldiv {x : Xc} {l0 : Launch} {b : ByteArray} {own : String} {nl dd : Nat} {pc : Nat} {kt : Kt} (C : Cx x l0 b own nl dd) (hd : decode b pc = .ok (.ldiv, 1)) (h : Ok x (pc + 1) kt) : Ok x pc (c_ldiv kt) := by
  intro lo st M hk
  obtain ⟨p, l, e, R, s, m, args, below, meth, c, ⟨cells, slots⟩, Q, D, ad, cA, A, nL⟩ := x
  obtain ⟨hx, hb, hml, hown, hts, hK, hD, hA, hc1, hc2, hlk, hnl, hll, hrm, hN⟩ := C
  match st, hk with
  | .inl (.inr y) :: .inl (.inr z) :: r, ⟨hz, hy, hk⟩ =>
    intro H locs ls hP hS hl
    have q := h lo _ M hk H locs ls hP hS hl
    simp only [List.map, cv, ldiv_eq hz hy] at q
    refine lv_ldiv hx hb hd (fun e => ?_) q
    have := (lR_eq (a := y) (b := 0) ⟨by omega, by omega⟩ ⟨by decide, by decide⟩).mp e
    omega
def c_lrem (kt : Kt) : Kt := fun lo st M => match st with
  | .inl (.inr y) :: .inl (.inr z) :: r => (0 ≤ z ∧ z < 9223372036854775808) ∧ (0 < y ∧ y < 9223372036854775808) ∧ kt lo (zl (z % y) :: r) M
  | _ => False
theorem r_lrem {x : Xc} {l0 : Launch} {b : ByteArray} {own : String} {nl dd : Nat} {pc : Nat} {kt : Kt} (C : Cx x l0 b own nl dd) (hd : decode b pc = .ok (.lrem, 1)) (h : Ok x (pc + 1) kt) : Ok x pc (c_lrem kt) := by
  intro lo st M hk
  obtain ⟨p, l, e, R, s, m, args, below, meth, c, ⟨cells, slots⟩, Q, D, ad, cA, A, nL⟩ := x
  obtain ⟨hx, hb, hml, hown, hts, hK, hD, hA, hc1, hc2, hlk, hnl, hll, hrm, hN⟩ := C
  match st, hk with
  | .inl (.inr y) :: .inl (.inr z) :: r, ⟨hz, hy, hk⟩ =>
    intro H locs ls hP hS hl
    have q := h lo _ M hk H locs ls hP hS hl
    have e1 : Int64.ofInt (z % y) = Int64.ofInt z - Int64.ofInt z / Int64.ofInt y * Int64.ofInt y := by
      rw [← ldiv_eq hz hy, ← Int64.ofInt_mul, ← Int64.ofInt_sub]
      congr 1
      rw [Int.emod_def, Int.mul_comm]
    simp only [List.map, cv, e1] at q
    refine lv_lrem hx hb hd (fun e => ?_) q
    have := (lR_eq (a := y) (b := 0) ⟨by omega, by omega⟩ ⟨by decide, by decide⟩).mp e
    omega
def c_icmp_eq (k1 k2 : Kt) : Kt := fun lo st M => match st with
  | .inl (.inl y) :: .inl (.inl z) :: r => iR z ∧ iR y ∧ (z = y → k1 lo r M) ∧ (¬ (z = y) → k2 lo r M)
  | _ => False
theorem r_icmp_eq {x : Xc} {l0 : Launch} {b : ByteArray} {own : String} {nl dd : Nat} {pc : Nat} {k1 k2 : Kt} {off : Int} {tgt : Nat} (C : Cx x l0 b own nl dd) (hd : decode b pc = .ok (.if_icmp .eq off, 3)) (ht : (pc : Int) + off = (tgt : Int)) (h1 : Ok x tgt k1) (h2 : Ok x (pc + 3) k2) : Ok x pc (c_icmp_eq k1 k2) := by
  intro lo st M hk
  obtain ⟨p, l, e, R, s, m, args, below, meth, c, ⟨cells, slots⟩, Q, D, ad, cA, A, nL⟩ := x
  obtain ⟨hx, hb, hml, hown, hts, hK, hD, hA, hc1, hc2, hlk, hnl, hll, hrm, hN⟩ := C
  match st, hk with
  | .inl (.inl y) :: .inl (.inl z) :: r, ⟨hz, hy, g1, g2⟩ =>
    intro H locs ls hP hS hl
    exact lv_icmp_eq hx hb hd ht (fun q => h1 lo _ M (g1 ((iR_eq hz hy).mp q)) H locs ls hP hS hl) (fun q => h2 lo _ M (g2 (fun z => q ((iR_eq hz hy).mpr z))) H locs ls hP hS hl)
def c_if_eq (k1 k2 : Kt) : Kt := fun lo st M => match st with
  | .inl (.inl z) :: r => iR z ∧ (z = 0 → k1 lo r M) ∧ (¬ (z = 0) → k2 lo r M)
  | _ => False
theorem r_if_eq {x : Xc} {l0 : Launch} {b : ByteArray} {own : String} {nl dd : Nat} {pc : Nat} {k1 k2 : Kt} {off : Int} {tgt : Nat} (C : Cx x l0 b own nl dd) (hd : decode b pc = .ok (.ifCond .eq off, 3)) (ht : (pc : Int) + off = (tgt : Int)) (h1 : Ok x tgt k1) (h2 : Ok x (pc + 3) k2) : Ok x pc (c_if_eq k1 k2) := by
  intro lo st M hk
  obtain ⟨p, l, e, R, s, m, args, below, meth, c, ⟨cells, slots⟩, Q, D, ad, cA, A, nL⟩ := x
  obtain ⟨hx, hb, hml, hown, hts, hK, hD, hA, hc1, hc2, hlk, hnl, hll, hrm, hN⟩ := C
  match st, hk with
  | .inl (.inl z) :: r, ⟨hz, g1, g2⟩ =>
    intro H locs ls hP hS hl
    exact lv_if_eq hx hb hd ht (fun q => h1 lo _ M (g1 ((iR_eq hz iR0).mp q)) H locs ls hP hS hl) (fun q => h2 lo _ M (g2 (fun z => q ((iR_eq hz iR0).mpr z))) H locs ls hP hS hl)
def c_icmp_lt (k1 k2 : Kt) : Kt := fun lo st M => match st with
  | .inl (.inl y) :: .inl (.inl z) :: r => iR z ∧ iR y ∧ (z < y → k1 lo r M) ∧ (¬ (z < y) → k2 lo r M)
  | _ => False
theorem r_icmp_lt {x : Xc} {l0 : Launch} {b : ByteArray} {own : String} {nl dd : Nat} {pc : Nat} {k1 k2 : Kt} {off : Int} {tgt : Nat} (C : Cx x l0 b own nl dd) (hd : decode b pc = .ok (.if_icmp .lt off, 3)) (ht : (pc : Int) + off = (tgt : Int)) (h1 : Ok x tgt k1) (h2 : Ok x (pc + 3) k2) : Ok x pc (c_icmp_lt k1 k2) := by
  intro lo st M hk
  obtain ⟨p, l, e, R, s, m, args, below, meth, c, ⟨cells, slots⟩, Q, D, ad, cA, A, nL⟩ := x
  obtain ⟨hx, hb, hml, hown, hts, hK, hD, hA, hc1, hc2, hlk, hnl, hll, hrm, hN⟩ := C
  match st, hk with
  | .inl (.inl y) :: .inl (.inl z) :: r, ⟨hz, hy, g1, g2⟩ =>
    intro H locs ls hP hS hl
    exact lv_icmp_lt hx hb hd ht (fun q => h1 lo _ M (g1 ((iR_lt hz hy).mp q)) H locs ls hP hS hl) (fun q => h2 lo _ M (g2 (fun z => q ((iR_lt hz hy).mpr z))) H locs ls hP hS hl)
def c_if_lt (k1 k2 : Kt) : Kt := fun lo st M => match st with
  | .inl (.inl z) :: r => iR z ∧ (z < 0 → k1 lo r M) ∧ (¬ (z < 0) → k2 lo r M)
  | _ => False
theorem r_if_lt {x : Xc} {l0 : Launch} {b : ByteArray} {own : String} {nl dd : Nat} {pc : Nat} {k1 k2 : Kt} {off : Int} {tgt : Nat} (C : Cx x l0 b own nl dd) (hd : decode b pc = .ok (.ifCond .lt off, 3)) (ht : (pc : Int) + off = (tgt : Int)) (h1 : Ok x tgt k1) (h2 : Ok x (pc + 3) k2) : Ok x pc (c_if_lt k1 k2) := by
  intro lo st M hk
  obtain ⟨p, l, e, R, s, m, args, below, meth, c, ⟨cells, slots⟩, Q, D, ad, cA, A, nL⟩ := x
  obtain ⟨hx, hb, hml, hown, hts, hK, hD, hA, hc1, hc2, hlk, hnl, hll, hrm, hN⟩ := C
  match st, hk with
  | .inl (.inl z) :: r, ⟨hz, g1, g2⟩ =>
    intro H locs ls hP hS hl
    exact lv_if_lt hx hb hd ht (fun q => h1 lo _ M (g1 ((iR_lt hz iR0).mp q)) H locs ls hP hS hl) (fun q => h2 lo _ M (g2 (fun z => q ((iR_lt hz iR0).mpr z))) H locs ls hP hS hl)
def c_icmp_ge (k1 k2 : Kt) : Kt := fun lo st M => match st with
  | .inl (.inl y) :: .inl (.inl z) :: r => iR z ∧ iR y ∧ (y ≤ z → k1 lo r M) ∧ (¬ (y ≤ z) → k2 lo r M)
  | _ => False
theorem r_icmp_ge {x : Xc} {l0 : Launch} {b : ByteArray} {own : String} {nl dd : Nat} {pc : Nat} {k1 k2 : Kt} {off : Int} {tgt : Nat} (C : Cx x l0 b own nl dd) (hd : decode b pc = .ok (.if_icmp .ge off, 3)) (ht : (pc : Int) + off = (tgt : Int)) (h1 : Ok x tgt k1) (h2 : Ok x (pc + 3) k2) : Ok x pc (c_icmp_ge k1 k2) := by
  intro lo st M hk
  obtain ⟨p, l, e, R, s, m, args, below, meth, c, ⟨cells, slots⟩, Q, D, ad, cA, A, nL⟩ := x
  obtain ⟨hx, hb, hml, hown, hts, hK, hD, hA, hc1, hc2, hlk, hnl, hll, hrm, hN⟩ := C
  match st, hk with
  | .inl (.inl y) :: .inl (.inl z) :: r, ⟨hz, hy, g1, g2⟩ =>
    intro H locs ls hP hS hl
    exact lv_icmp_ge hx hb hd ht (fun q => h1 lo _ M (g1 ((iR_le hy hz).mp q)) H locs ls hP hS hl) (fun q => h2 lo _ M (g2 (fun z => q ((iR_le hy hz).mpr z))) H locs ls hP hS hl)
def c_if_ge (k1 k2 : Kt) : Kt := fun lo st M => match st with
  | .inl (.inl z) :: r => iR z ∧ (0 ≤ z → k1 lo r M) ∧ (¬ (0 ≤ z) → k2 lo r M)
  | _ => False
theorem r_if_ge {x : Xc} {l0 : Launch} {b : ByteArray} {own : String} {nl dd : Nat} {pc : Nat} {k1 k2 : Kt} {off : Int} {tgt : Nat} (C : Cx x l0 b own nl dd) (hd : decode b pc = .ok (.ifCond .ge off, 3)) (ht : (pc : Int) + off = (tgt : Int)) (h1 : Ok x tgt k1) (h2 : Ok x (pc + 3) k2) : Ok x pc (c_if_ge k1 k2) := by
  intro lo st M hk
  obtain ⟨p, l, e, R, s, m, args, below, meth, c, ⟨cells, slots⟩, Q, D, ad, cA, A, nL⟩ := x
  obtain ⟨hx, hb, hml, hown, hts, hK, hD, hA, hc1, hc2, hlk, hnl, hll, hrm, hN⟩ := C
  match st, hk with
  | .inl (.inl z) :: r, ⟨hz, g1, g2⟩ =>
    intro H locs ls hP hS hl
    exact lv_if_ge hx hb hd ht (fun q => h1 lo _ M (g1 ((iR_le iR0 hz).mp q)) H locs ls hP hS hl) (fun q => h2 lo _ M (g2 (fun z => q ((iR_le iR0 hz).mpr z))) H locs ls hP hS hl)
def c_icmp_gt (k1 k2 : Kt) : Kt := fun lo st M => match st with
  | .inl (.inl y) :: .inl (.inl z) :: r => iR z ∧ iR y ∧ (y < z → k1 lo r M) ∧ (¬ (y < z) → k2 lo r M)
  | _ => False
theorem r_icmp_gt {x : Xc} {l0 : Launch} {b : ByteArray} {own : String} {nl dd : Nat} {pc : Nat} {k1 k2 : Kt} {off : Int} {tgt : Nat} (C : Cx x l0 b own nl dd) (hd : decode b pc = .ok (.if_icmp .gt off, 3)) (ht : (pc : Int) + off = (tgt : Int)) (h1 : Ok x tgt k1) (h2 : Ok x (pc + 3) k2) : Ok x pc (c_icmp_gt k1 k2) := by
  intro lo st M hk
  obtain ⟨p, l, e, R, s, m, args, below, meth, c, ⟨cells, slots⟩, Q, D, ad, cA, A, nL⟩ := x
  obtain ⟨hx, hb, hml, hown, hts, hK, hD, hA, hc1, hc2, hlk, hnl, hll, hrm, hN⟩ := C
  match st, hk with
  | .inl (.inl y) :: .inl (.inl z) :: r, ⟨hz, hy, g1, g2⟩ =>
    intro H locs ls hP hS hl
    exact lv_icmp_gt hx hb hd ht (fun q => h1 lo _ M (g1 ((iR_lt hy hz).mp q)) H locs ls hP hS hl) (fun q => h2 lo _ M (g2 (fun z => q ((iR_lt hy hz).mpr z))) H locs ls hP hS hl)
def c_if_gt (k1 k2 : Kt) : Kt := fun lo st M => match st with
  | .inl (.inl z) :: r => iR z ∧ (0 < z → k1 lo r M) ∧ (¬ (0 < z) → k2 lo r M)
  | _ => False
theorem r_if_gt {x : Xc} {l0 : Launch} {b : ByteArray} {own : String} {nl dd : Nat} {pc : Nat} {k1 k2 : Kt} {off : Int} {tgt : Nat} (C : Cx x l0 b own nl dd) (hd : decode b pc = .ok (.ifCond .gt off, 3)) (ht : (pc : Int) + off = (tgt : Int)) (h1 : Ok x tgt k1) (h2 : Ok x (pc + 3) k2) : Ok x pc (c_if_gt k1 k2) := by
  intro lo st M hk
  obtain ⟨p, l, e, R, s, m, args, below, meth, c, ⟨cells, slots⟩, Q, D, ad, cA, A, nL⟩ := x
  obtain ⟨hx, hb, hml, hown, hts, hK, hD, hA, hc1, hc2, hlk, hnl, hll, hrm, hN⟩ := C
  match st, hk with
  | .inl (.inl z) :: r, ⟨hz, g1, g2⟩ =>
    intro H locs ls hP hS hl
    exact lv_if_gt hx hb hd ht (fun q => h1 lo _ M (g1 ((iR_lt iR0 hz).mp q)) H locs ls hP hS hl) (fun q => h2 lo _ M (g2 (fun z => q ((iR_lt iR0 hz).mpr z))) H locs ls hP hS hl)
def c_icmp_le (k1 k2 : Kt) : Kt := fun lo st M => match st with
  | .inl (.inl y) :: .inl (.inl z) :: r => iR z ∧ iR y ∧ (z ≤ y → k1 lo r M) ∧ (¬ (z ≤ y) → k2 lo r M)
  | _ => False
theorem r_icmp_le {x : Xc} {l0 : Launch} {b : ByteArray} {own : String} {nl dd : Nat} {pc : Nat} {k1 k2 : Kt} {off : Int} {tgt : Nat} (C : Cx x l0 b own nl dd) (hd : decode b pc = .ok (.if_icmp .le off, 3)) (ht : (pc : Int) + off = (tgt : Int)) (h1 : Ok x tgt k1) (h2 : Ok x (pc + 3) k2) : Ok x pc (c_icmp_le k1 k2) := by
  intro lo st M hk
  obtain ⟨p, l, e, R, s, m, args, below, meth, c, ⟨cells, slots⟩, Q, D, ad, cA, A, nL⟩ := x
  obtain ⟨hx, hb, hml, hown, hts, hK, hD, hA, hc1, hc2, hlk, hnl, hll, hrm, hN⟩ := C
  match st, hk with
  | .inl (.inl y) :: .inl (.inl z) :: r, ⟨hz, hy, g1, g2⟩ =>
    intro H locs ls hP hS hl
    exact lv_icmp_le hx hb hd ht (fun q => h1 lo _ M (g1 ((iR_le hz hy).mp q)) H locs ls hP hS hl) (fun q => h2 lo _ M (g2 (fun z => q ((iR_le hz hy).mpr z))) H locs ls hP hS hl)
def c_if_le (k1 k2 : Kt) : Kt := fun lo st M => match st with
  | .inl (.inl z) :: r => iR z ∧ (z ≤ 0 → k1 lo r M) ∧ (¬ (z ≤ 0) → k2 lo r M)
  | _ => False
theorem r_if_le {x : Xc} {l0 : Launch} {b : ByteArray} {own : String} {nl dd : Nat} {pc : Nat} {k1 k2 : Kt} {off : Int} {tgt : Nat} (C : Cx x l0 b own nl dd) (hd : decode b pc = .ok (.ifCond .le off, 3)) (ht : (pc : Int) + off = (tgt : Int)) (h1 : Ok x tgt k1) (h2 : Ok x (pc + 3) k2) : Ok x pc (c_if_le k1 k2) := by
  intro lo st M hk
  obtain ⟨p, l, e, R, s, m, args, below, meth, c, ⟨cells, slots⟩, Q, D, ad, cA, A, nL⟩ := x
  obtain ⟨hx, hb, hml, hown, hts, hK, hD, hA, hc1, hc2, hlk, hnl, hll, hrm, hN⟩ := C
  match st, hk with
  | .inl (.inl z) :: r, ⟨hz, g1, g2⟩ =>
    intro H locs ls hP hS hl
    exact lv_if_le hx hb hd ht (fun q => h1 lo _ M (g1 ((iR_le hz iR0).mp q)) H locs ls hP hS hl) (fun q => h2 lo _ M (g2 (fun z => q ((iR_le hz iR0).mpr z))) H locs ls hP hS hl)
def c_icmp_ne (k1 k2 : Kt) : Kt := fun lo st M => match st with
  | .inl (.inl y) :: .inl (.inl z) :: r => iR z ∧ iR y ∧ (¬ z = y → k1 lo r M) ∧ (z = y → k2 lo r M)
  | _ => False
theorem r_icmp_ne {x : Xc} {l0 : Launch} {b : ByteArray} {own : String} {nl dd : Nat} {pc : Nat} {k1 k2 : Kt} {off : Int} {tgt : Nat} (C : Cx x l0 b own nl dd) (hd : decode b pc = .ok (.if_icmp .ne off, 3)) (ht : (pc : Int) + off = (tgt : Int)) (h1 : Ok x tgt k1) (h2 : Ok x (pc + 3) k2) : Ok x pc (c_icmp_ne k1 k2) := by
  intro lo st M hk
  obtain ⟨p, l, e, R, s, m, args, below, meth, c, ⟨cells, slots⟩, Q, D, ad, cA, A, nL⟩ := x
  obtain ⟨hx, hb, hml, hown, hts, hK, hD, hA, hc1, hc2, hlk, hnl, hll, hrm, hN⟩ := C
  match st, hk with
  | .inl (.inl y) :: .inl (.inl z) :: r, ⟨hz, hy, g1, g2⟩ =>
    intro H locs ls hP hS hl
    exact lv_icmp_ne hx hb hd ht (fun q => h1 lo _ M (g1 (fun z => q ((iR_eq hz hy).mpr z))) H locs ls hP hS hl) (fun q => h2 lo _ M (g2 ((iR_eq hz hy).mp q)) H locs ls hP hS hl)
def c_if_ne (k1 k2 : Kt) : Kt := fun lo st M => match st with
  | .inl (.inl z) :: r => iR z ∧ (¬ z = 0 → k1 lo r M) ∧ (z = 0 → k2 lo r M)
  | _ => False
theorem r_if_ne {x : Xc} {l0 : Launch} {b : ByteArray} {own : String} {nl dd : Nat} {pc : Nat} {k1 k2 : Kt} {off : Int} {tgt : Nat} (C : Cx x l0 b own nl dd) (hd : decode b pc = .ok (.ifCond .ne off, 3)) (ht : (pc : Int) + off = (tgt : Int)) (h1 : Ok x tgt k1) (h2 : Ok x (pc + 3) k2) : Ok x pc (c_if_ne k1 k2) := by
  intro lo st M hk
  obtain ⟨p, l, e, R, s, m, args, below, meth, c, ⟨cells, slots⟩, Q, D, ad, cA, A, nL⟩ := x
  obtain ⟨hx, hb, hml, hown, hts, hK, hD, hA, hc1, hc2, hlk, hnl, hll, hrm, hN⟩ := C
  match st, hk with
  | .inl (.inl z) :: r, ⟨hz, g1, g2⟩ =>
    intro H locs ls hP hS hl
    exact lv_if_ne hx hb hd ht (fun q => h1 lo _ M (g1 (fun z => q ((iR_eq hz iR0).mpr z))) H locs ls hP hS hl) (fun q => h2 lo _ M (g2 ((iR_eq hz iR0).mp q)) H locs ls hP hS hl)
def c_lcmp_eq (k1 k2 : Kt) : Kt := fun lo st M => match st with
  | .inl (.inr y) :: .inl (.inr z) :: r => lR z ∧ lR y ∧ (z = y → k1 lo r M) ∧ (¬ (z = y) → k2 lo r M)
  | _ => False
theorem r_lcmp_eq {x : Xc} {l0 : Launch} {b : ByteArray} {own : String} {nl dd : Nat} {pc : Nat} {k1 k2 : Kt} {off : Int} {tgt : Nat} (C : Cx x l0 b own nl dd) (hd0 : decode b pc = .ok (.lcmp, 1)) (hd : decode b (pc + 1) = .ok (.ifCond .eq off, 3)) (ht : ((pc + 1 : Nat) : Int) + off = (tgt : Int)) (h1 : Ok x tgt k1) (h2 : Ok x (pc + 1 + 3) k2) : Ok x pc (c_lcmp_eq k1 k2) := by
  intro lo st M hk
  obtain ⟨p, l, e, R, s, m, args, below, meth, c, ⟨cells, slots⟩, Q, D, ad, cA, A, nL⟩ := x
  obtain ⟨hx, hb, hml, hown, hts, hK, hD, hA, hc1, hc2, hlk, hnl, hll, hrm, hN⟩ := C
  match st, hk with
  | .inl (.inr y) :: .inl (.inr z) :: r, ⟨hz, hy, g1, g2⟩ =>
    intro H locs ls hP hS hl
    refine W.lcmp hx hb hd0 ?_
    exact lv_if_eq hx hb hd ht (fun q => h1 lo _ M (g1 ((lR_eq hz hy).mp ((lg_cmp_eq _ _).mp q))) H locs ls hP hS hl) (fun q => h2 lo _ M (g2 (fun z => q ((lg_cmp_eq _ _).mpr ((lR_eq hz hy).mpr z)))) H locs ls hP hS hl)
def c_lraw_eq (k1 k2 : Kt) : Kt := fun lo st M => match st with
  | .inl (.inr y) :: .inl (.inr z) :: r => (Int64.ofInt z = Int64.ofInt y → k1 lo r M) ∧ (¬ (Int64.ofInt z = Int64.ofInt y) → k2 lo r M)
  | _ => False
theorem r_lraw_eq {x : Xc} {l0 : Launch} {b : ByteArray} {own : String} {nl dd : Nat} {pc : Nat} {k1 k2 : Kt} {off : Int} {tgt : Nat} (C : Cx x l0 b own nl dd) (hd0 : decode b pc = .ok (.lcmp, 1)) (hd : decode b (pc + 1) = .ok (.ifCond .eq off, 3)) (ht : ((pc + 1 : Nat) : Int) + off = (tgt : Int)) (h1 : Ok x tgt k1) (h2 : Ok x (pc + 1 + 3) k2) : Ok x pc (c_lraw_eq k1 k2) := by
  intro lo st M hk
  obtain ⟨p, l, e, R, s, m, args, below, meth, c, ⟨cells, slots⟩, Q, D, ad, cA, A, nL⟩ := x
  obtain ⟨hx, hb, hml, hown, hts, hK, hD, hA, hc1, hc2, hlk, hnl, hll, hrm, hN⟩ := C
  match st, hk with
  | .inl (.inr y) :: .inl (.inr z) :: r, ⟨g1, g2⟩ =>
    intro H locs ls hP hS hl
    refine W.lcmp hx hb hd0 ?_
    exact lv_if_eq hx hb hd ht (fun q => h1 lo _ M (g1 ((lg_cmp_eq _ _).mp q)) H locs ls hP hS hl) (fun q => h2 lo _ M (g2 (fun z => q ((lg_cmp_eq _ _).mpr z))) H locs ls hP hS hl)
def c_lcmp_lt (k1 k2 : Kt) : Kt := fun lo st M => match st with
  | .inl (.inr y) :: .inl (.inr z) :: r => lR z ∧ lR y ∧ (z < y → k1 lo r M) ∧ (¬ (z < y) → k2 lo r M)
  | _ => False
theorem r_lcmp_lt {x : Xc} {l0 : Launch} {b : ByteArray} {own : String} {nl dd : Nat} {pc : Nat} {k1 k2 : Kt} {off : Int} {tgt : Nat} (C : Cx x l0 b own nl dd) (hd0 : decode b pc = .ok (.lcmp, 1)) (hd : decode b (pc + 1) = .ok (.ifCond .lt off, 3)) (ht : ((pc + 1 : Nat) : Int) + off = (tgt : Int)) (h1 : Ok x tgt k1) (h2 : Ok x (pc + 1 + 3) k2) : Ok x pc (c_lcmp_lt k1 k2) := by
  intro lo st M hk
  obtain ⟨p, l, e, R, s, m, args, below, meth, c, ⟨cells, slots⟩, Q, D, ad, cA, A, nL⟩ := x
  obtain ⟨hx, hb, hml, hown, hts, hK, hD, hA, hc1, hc2, hlk, hnl, hll, hrm, hN⟩ := C
  match st, hk with
  | .inl (.inr y) :: .inl (.inr z) :: r, ⟨hz, hy, g1, g2⟩ =>
    intro H locs ls hP hS hl
    refine W.lcmp hx hb hd0 ?_
    exact lv_if_lt hx hb hd ht (fun q => h1 lo _ M (g1 ((lR_lt hz hy).mp ((lg_cmp_lt _ _).mp q))) H locs ls hP hS hl) (fun q => h2 lo _ M (g2 (fun z => q ((lg_cmp_lt _ _).mpr ((lR_lt hz hy).mpr z)))) H locs ls hP hS hl)
def c_lraw_lt (k1 k2 : Kt) : Kt := fun lo st M => match st with
  | .inl (.inr y) :: .inl (.inr z) :: r => (Int64.ofInt z < Int64.ofInt y → k1 lo r M) ∧ (¬ (Int64.ofInt z < Int64.ofInt y) → k2 lo r M)
  | _ => False
theorem r_lraw_lt {x : Xc} {l0 : Launch} {b : ByteArray} {own : String} {nl dd : Nat} {pc : Nat} {k1 k2 : Kt} {off : Int} {tgt : Nat} (C : Cx x l0 b own nl dd) (hd0 : decode b pc = .ok (.lcmp, 1)) (hd : decode b (pc + 1) = .ok (.ifCond .lt off, 3)) (ht : ((pc + 1 : Nat) : Int) + off = (tgt : Int)) (h1 : Ok x tgt k1) (h2 : Ok x (pc + 1 + 3) k2) : Ok x pc (c_lraw_lt k1 k2) := by
  intro lo st M hk
  obtain ⟨p, l, e, R, s, m, args, below, meth, c, ⟨cells, slots⟩, Q, D, ad, cA, A, nL⟩ := x
  obtain ⟨hx, hb, hml, hown, hts, hK, hD, hA, hc1, hc2, hlk, hnl, hll, hrm, hN⟩ := C
  match st, hk with
  | .inl (.inr y) :: .inl (.inr z) :: r, ⟨g1, g2⟩ =>
    intro H locs ls hP hS hl
    refine W.lcmp hx hb hd0 ?_
    exact lv_if_lt hx hb hd ht (fun q => h1 lo _ M (g1 ((lg_cmp_lt _ _).mp q)) H locs ls hP hS hl) (fun q => h2 lo _ M (g2 (fun z => q ((lg_cmp_lt _ _).mpr z))) H locs ls hP hS hl)
def c_lcmp_ge (k1 k2 : Kt) : Kt := fun lo st M => match st with
  | .inl (.inr y) :: .inl (.inr z) :: r => lR z ∧ lR y ∧ (y ≤ z → k1 lo r M) ∧ (¬ (y ≤ z) → k2 lo r M)
  | _ => False
theorem r_lcmp_ge {x : Xc} {l0 : Launch} {b : ByteArray} {own : String} {nl dd : Nat} {pc : Nat} {k1 k2 : Kt} {off : Int} {tgt : Nat} (C : Cx x l0 b own nl dd) (hd0 : decode b pc = .ok (.lcmp, 1)) (hd : decode b (pc + 1) = .ok (.ifCond .ge off, 3)) (ht : ((pc + 1 : Nat) : Int) + off = (tgt : Int)) (h1 : Ok x tgt k1) (h2 : Ok x (pc + 1 + 3) k2) : Ok x pc (c_lcmp_ge k1 k2) := by
  intro lo st M hk
  obtain ⟨p, l, e, R, s, m, args, below, meth, c, ⟨cells, slots⟩, Q, D, ad, cA, A, nL⟩ := x
  obtain ⟨hx, hb, hml, hown, hts, hK, hD, hA, hc1, hc2, hlk, hnl, hll, hrm, hN⟩ := C
  match st, hk with
  | .inl (.inr y) :: .inl (.inr z) :: r, ⟨hz, hy, g1, g2⟩ =>
    intro H locs ls hP hS hl
    refine W.lcmp hx hb hd0 ?_
    exact lv_if_ge hx hb hd ht (fun q => h1 lo _ M (g1 ((lR_le hy hz).mp ((lg_cmp_ge _ _).mp q))) H locs ls hP hS hl) (fun q => h2 lo _ M (g2 (fun z => q ((lg_cmp_ge _ _).mpr ((lR_le hy hz).mpr z)))) H locs ls hP hS hl)
def c_lraw_ge (k1 k2 : Kt) : Kt := fun lo st M => match st with
  | .inl (.inr y) :: .inl (.inr z) :: r => (Int64.ofInt y ≤ Int64.ofInt z → k1 lo r M) ∧ (¬ (Int64.ofInt y ≤ Int64.ofInt z) → k2 lo r M)
  | _ => False
theorem r_lraw_ge {x : Xc} {l0 : Launch} {b : ByteArray} {own : String} {nl dd : Nat} {pc : Nat} {k1 k2 : Kt} {off : Int} {tgt : Nat} (C : Cx x l0 b own nl dd) (hd0 : decode b pc = .ok (.lcmp, 1)) (hd : decode b (pc + 1) = .ok (.ifCond .ge off, 3)) (ht : ((pc + 1 : Nat) : Int) + off = (tgt : Int)) (h1 : Ok x tgt k1) (h2 : Ok x (pc + 1 + 3) k2) : Ok x pc (c_lraw_ge k1 k2) := by
  intro lo st M hk
  obtain ⟨p, l, e, R, s, m, args, below, meth, c, ⟨cells, slots⟩, Q, D, ad, cA, A, nL⟩ := x
  obtain ⟨hx, hb, hml, hown, hts, hK, hD, hA, hc1, hc2, hlk, hnl, hll, hrm, hN⟩ := C
  match st, hk with
  | .inl (.inr y) :: .inl (.inr z) :: r, ⟨g1, g2⟩ =>
    intro H locs ls hP hS hl
    refine W.lcmp hx hb hd0 ?_
    exact lv_if_ge hx hb hd ht (fun q => h1 lo _ M (g1 ((lg_cmp_ge _ _).mp q)) H locs ls hP hS hl) (fun q => h2 lo _ M (g2 (fun z => q ((lg_cmp_ge _ _).mpr z))) H locs ls hP hS hl)
def c_lcmp_gt (k1 k2 : Kt) : Kt := fun lo st M => match st with
  | .inl (.inr y) :: .inl (.inr z) :: r => lR z ∧ lR y ∧ (y < z → k1 lo r M) ∧ (¬ (y < z) → k2 lo r M)
  | _ => False
theorem r_lcmp_gt {x : Xc} {l0 : Launch} {b : ByteArray} {own : String} {nl dd : Nat} {pc : Nat} {k1 k2 : Kt} {off : Int} {tgt : Nat} (C : Cx x l0 b own nl dd) (hd0 : decode b pc = .ok (.lcmp, 1)) (hd : decode b (pc + 1) = .ok (.ifCond .gt off, 3)) (ht : ((pc + 1 : Nat) : Int) + off = (tgt : Int)) (h1 : Ok x tgt k1) (h2 : Ok x (pc + 1 + 3) k2) : Ok x pc (c_lcmp_gt k1 k2) := by
  intro lo st M hk
  obtain ⟨p, l, e, R, s, m, args, below, meth, c, ⟨cells, slots⟩, Q, D, ad, cA, A, nL⟩ := x
  obtain ⟨hx, hb, hml, hown, hts, hK, hD, hA, hc1, hc2, hlk, hnl, hll, hrm, hN⟩ := C
  match st, hk with
  | .inl (.inr y) :: .inl (.inr z) :: r, ⟨hz, hy, g1, g2⟩ =>
    intro H locs ls hP hS hl
    refine W.lcmp hx hb hd0 ?_
    exact lv_if_gt hx hb hd ht (fun q => h1 lo _ M (g1 ((lR_lt hy hz).mp ((lg_cmp_gt _ _).mp q))) H locs ls hP hS hl) (fun q => h2 lo _ M (g2 (fun z => q ((lg_cmp_gt _ _).mpr ((lR_lt hy hz).mpr z)))) H locs ls hP hS hl)
def c_lraw_gt (k1 k2 : Kt) : Kt := fun lo st M => match st with
  | .inl (.inr y) :: .inl (.inr z) :: r => (Int64.ofInt y < Int64.ofInt z → k1 lo r M) ∧ (¬ (Int64.ofInt y < Int64.ofInt z) → k2 lo r M)
  | _ => False
theorem r_lraw_gt {x : Xc} {l0 : Launch} {b : ByteArray} {own : String} {nl dd : Nat} {pc : Nat} {k1 k2 : Kt} {off : Int} {tgt : Nat} (C : Cx x l0 b own nl dd) (hd0 : decode b pc = .ok (.lcmp, 1)) (hd : decode b (pc + 1) = .ok (.ifCond .gt off, 3)) (ht : ((pc + 1 : Nat) : Int) + off = (tgt : Int)) (h1 : Ok x tgt k1) (h2 : Ok x (pc + 1 + 3) k2) : Ok x pc (c_lraw_gt k1 k2) := by
  intro lo st M hk
  obtain ⟨p, l, e, R, s, m, args, below, meth, c, ⟨cells, slots⟩, Q, D, ad, cA, A, nL⟩ := x
  obtain ⟨hx, hb, hml, hown, hts, hK, hD, hA, hc1, hc2, hlk, hnl, hll, hrm, hN⟩ := C
  match st, hk with
  | .inl (.inr y) :: .inl (.inr z) :: r, ⟨g1, g2⟩ =>
    intro H locs ls hP hS hl
    refine W.lcmp hx hb hd0 ?_
    exact lv_if_gt hx hb hd ht (fun q => h1 lo _ M (g1 ((lg_cmp_gt _ _).mp q)) H locs ls hP hS hl) (fun q => h2 lo _ M (g2 (fun z => q ((lg_cmp_gt _ _).mpr z))) H locs ls hP hS hl)
def c_lcmp_le (k1 k2 : Kt) : Kt := fun lo st M => match st with
  | .inl (.inr y) :: .inl (.inr z) :: r => lR z ∧ lR y ∧ (z ≤ y → k1 lo r M) ∧ (¬ (z ≤ y) → k2 lo r M)
  | _ => False
theorem r_lcmp_le {x : Xc} {l0 : Launch} {b : ByteArray} {own : String} {nl dd : Nat} {pc : Nat} {k1 k2 : Kt} {off : Int} {tgt : Nat} (C : Cx x l0 b own nl dd) (hd0 : decode b pc = .ok (.lcmp, 1)) (hd : decode b (pc + 1) = .ok (.ifCond .le off, 3)) (ht : ((pc + 1 : Nat) : Int) + off = (tgt : Int)) (h1 : Ok x tgt k1) (h2 : Ok x (pc + 1 + 3) k2) : Ok x pc (c_lcmp_le k1 k2) := by
  intro lo st M hk
  obtain ⟨p, l, e, R, s, m, args, below, meth, c, ⟨cells, slots⟩, Q, D, ad, cA, A, nL⟩ := x
  obtain ⟨hx, hb, hml, hown, hts, hK, hD, hA, hc1, hc2, hlk, hnl, hll, hrm, hN⟩ := C
  match st, hk with
  | .inl (.inr y) :: .inl (.inr z) :: r, ⟨hz, hy, g1, g2⟩ =>
    intro H locs ls hP hS hl
    refine W.lcmp hx hb hd0 ?_
    exact lv_if_le hx hb hd ht (fun q => h1 lo _ M (g1 ((lR_le hz hy).mp ((lg_cmp_le _ _).mp q))) H locs ls hP hS hl) (fun q => h2 lo _ M (g2 (fun z => q ((lg_cmp_le _ _).mpr ((lR_le hz hy).mpr z)))) H locs ls hP hS hl)
def c_lraw_le (k1 k2 : Kt) : Kt := fun lo st M => match st with
  | .inl (.inr y) :: .inl (.inr z) :: r => (Int64.ofInt z ≤ Int64.ofInt y → k1 lo r M) ∧ (¬ (Int64.ofInt z ≤ Int64.ofInt y) → k2 lo r M)
  | _ => False
theorem r_lraw_le {x : Xc} {l0 : Launch} {b : ByteArray} {own : String} {nl dd : Nat} {pc : Nat} {k1 k2 : Kt} {off : Int} {tgt : Nat} (C : Cx x l0 b own nl dd) (hd0 : decode b pc = .ok (.lcmp, 1)) (hd : decode b (pc + 1) = .ok (.ifCond .le off, 3)) (ht : ((pc + 1 : Nat) : Int) + off = (tgt : Int)) (h1 : Ok x tgt k1) (h2 : Ok x (pc + 1 + 3) k2) : Ok x pc (c_lraw_le k1 k2) := by
  intro lo st M hk
  obtain ⟨p, l, e, R, s, m, args, below, meth, c, ⟨cells, slots⟩, Q, D, ad, cA, A, nL⟩ := x
  obtain ⟨hx, hb, hml, hown, hts, hK, hD, hA, hc1, hc2, hlk, hnl, hll, hrm, hN⟩ := C
  match st, hk with
  | .inl (.inr y) :: .inl (.inr z) :: r, ⟨g1, g2⟩ =>
    intro H locs ls hP hS hl
    refine W.lcmp hx hb hd0 ?_
    exact lv_if_le hx hb hd ht (fun q => h1 lo _ M (g1 ((lg_cmp_le _ _).mp q)) H locs ls hP hS hl) (fun q => h2 lo _ M (g2 (fun z => q ((lg_cmp_le _ _).mpr z))) H locs ls hP hS hl)
def c_lcmp_ne (k1 k2 : Kt) : Kt := fun lo st M => match st with
  | .inl (.inr y) :: .inl (.inr z) :: r => lR z ∧ lR y ∧ (¬ z = y → k1 lo r M) ∧ (z = y → k2 lo r M)
  | _ => False
theorem r_lcmp_ne {x : Xc} {l0 : Launch} {b : ByteArray} {own : String} {nl dd : Nat} {pc : Nat} {k1 k2 : Kt} {off : Int} {tgt : Nat} (C : Cx x l0 b own nl dd) (hd0 : decode b pc = .ok (.lcmp, 1)) (hd : decode b (pc + 1) = .ok (.ifCond .ne off, 3)) (ht : ((pc + 1 : Nat) : Int) + off = (tgt : Int)) (h1 : Ok x tgt k1) (h2 : Ok x (pc + 1 + 3) k2) : Ok x pc (c_lcmp_ne k1 k2) := by
  intro lo st M hk
  obtain ⟨p, l, e, R, s, m, args, below, meth, c, ⟨cells, slots⟩, Q, D, ad, cA, A, nL⟩ := x
  obtain ⟨hx, hb, hml, hown, hts, hK, hD, hA, hc1, hc2, hlk, hnl, hll, hrm, hN⟩ := C
  match st, hk with
  | .inl (.inr y) :: .inl (.inr z) :: r, ⟨hz, hy, g1, g2⟩ =>
    intro H locs ls hP hS hl
    refine W.lcmp hx hb hd0 ?_
    exact lv_if_ne hx hb hd ht (fun q => h1 lo _ M (g1 (fun z => q ((lg_cmp_eq _ _).mpr ((lR_eq hz hy).mpr z)))) H locs ls hP hS hl) (fun q => h2 lo _ M (g2 ((lR_eq hz hy).mp ((lg_cmp_eq _ _).mp q))) H locs ls hP hS hl)

/-! fields and arrays -/
theorem obf_len (ad : Nat → Nat → Nat) (g s : Nat) (f : Nat → Int) : (obf ad g s f).length = (fkl g).length := by simp [obf]
theorem obf_at (ad : Nat → Nat → Nat) {g s k t : Nat} (f : Nat → Int) (h : (fkl g)[k]? = some t) : (obf ad g s f)[k]? = some (fval ad t s (f k)) := by
  have hk : k < (fkl g).length := (List.getElem?_eq_some_iff.mp h).1
  unfold obf
  rw [List.getElem?_map, List.getElem?_range hk]
  simp [List.getD_eq_getElem?_getD, h]
theorem obf_set (ad : Nat → Nat → Nat) {g s k t : Nat} (f : Nat → Int) (z : Int) (h : (fkl g)[k]? = some t) : (obf ad g s f).set k (fval ad t s z) = obf ad g s (fun j => if j = k then z else f j) := by
  have hk : k < (fkl g).length := (List.getElem?_eq_some_iff.mp h).1
  refine List.ext_getElem? fun i => ?_
  rw [List.getElem?_set]
  by_cases hi : k = i
  · subst hi
    rw [if_pos rfl, if_pos (by rw [obf_len]; exact hk), obf_at ad _ h]
    simp
  · rw [if_neg hi]
    unfold obf
    rw [List.getElem?_map, List.getElem?_map]
    cases hq : (List.range (fkl g).length)[i]? with
    | none => rfl
    | some j =>
      have : j = i := by
        obtain ⟨_, e⟩ := List.getElem?_eq_some_iff.mp hq
        rw [List.getElem_range] at e
        exact e.symm
      subst this
      simp only [Option.map_some, if_neg (fun q : j = k => hi q.symm)]
theorem cel_ob (ad : Nat → Nat → Nat) (cA : Nat → ClassId) {g : Nat} (s : Nat) (f : Nat → Int) (h : g < 12) : cel ad cA g s f = .inr (g, obf ad g s f) := if_pos h
theorem cel_ar (ad : Nat → Nat → Nat) (cA : Nat → ClassId) {g : Nat} (s : Nat) (f : Nat → Int) (h : 12 ≤ g) : cel ad cA g s f = .inl (arf ad cA (aty g) (alen g) f) := if_neg (by omega)
theorem alen_lt (g : Nat) : alen g < 1000000 := by
  unfold alen
  split <;> decide
/-- a field's link: the thing's class, its fields, the word -/
def fLk (own : String) (i ci k : Nat) : Prop := ci < 12 ∧ ∃ (C : String) (T : u_T) (N : Nat), cls12[ci]? = some (C, T, N) ∧ k < N ∧ (∀ w ∈ u_ws C T N, w ∈ gT) ∧ (Cond.fieldLink own i (T k).1 (T k).2.1 (T k).2.2.1 ∈ gT ∨ ∃ host : String, Cond.fieldLinkNest own i (T k).1 (T k).2.1 (T k).2.2.1 host ∈ gN)
/-- what a put needs more -/
def fPk (ci k : Nat) (ty : FieldType) : Prop := ∀ (C : String) (T : u_T) (N : Nat), cls12[ci]? = some (C, T, N) → (T k).2.2.2 = false ∧ parseFieldDescriptor (T k).2.2.1 = some ty ∧ ∃ ty0 : Nat → FieldType, (∀ k, k < N → parseFieldDescriptor (T k).2.2.1 = some (ty0 k)) ∧ (∀ a, a < N → ∀ b, b < N → a ≠ b → (T a).2.1 ≠ (T b).2.1)
def c_gi (ci k : Nat) (kt : Kt) : Kt := fun lo st M => match st with
  | .inr (some (g, s)) :: r => g = ci ∧ s < cnt ci ∧ kt lo (zi (M ci s k) :: r) M
  | _ => False
def c_gl (ci k : Nat) (kt : Kt) : Kt := fun lo st M => match st with
  | .inr (some (g, s)) :: r => g = ci ∧ s < cnt ci ∧ kt lo (zl (M ci s k) :: r) M
  | _ => False
def c_gr (ci k h : Nat) (kt : Kt) : Kt := fun lo st M => match st with
  | .inr (some (g, s)) :: r => g = ci ∧ s < cnt ci ∧ kt lo (zr h s :: r) M
  | _ => False
def c_pi (ci k : Nat) (kt : Kt) : Kt := fun lo st M => match st with
  | .inl (.inl z) :: .inr (some (g, s)) :: r => g = ci ∧ s < cnt ci ∧ kt lo r (stm M ci s k z)
  | _ => False
def c_pz (ci k : Nat) (kt : Kt) : Kt := fun lo st M => match st with
  | .inl (.inl z) :: .inr (some (g, s)) :: r => g = ci ∧ s < cnt ci ∧ (z = 0 ∨ z = 1) ∧ kt lo r (stm M ci s k z)
  | _ => False
def c_pl (ci k : Nat) (kt : Kt) : Kt := fun lo st M => match st with
  | .inl (.inr z) :: .inr (some (g, s)) :: r => g = ci ∧ s < cnt ci ∧ kt lo r (stm M ci s k z)
  | _ => False
def c_iald (kt : Kt) : Kt := fun lo st M => match st with
  | .inl (.inl i) :: .inr (some (g, s)) :: r => aty g = 0 ∧ 12 ≤ g ∧ s < cnt g ∧ (0 ≤ i ∧ i < alen g) ∧ kt lo (zi (M g s i.toNat) :: r) M
  | _ => False
def c_lald (kt : Kt) : Kt := fun lo st M => match st with
  | .inl (.inl i) :: .inr (some (g, s)) :: r => aty g = 1 ∧ 12 ≤ g ∧ s < cnt g ∧ (0 ≤ i ∧ i < alen g) ∧ kt lo (zl (M g s i.toNat) :: r) M
  | _ => False
def c_bald (kt : Kt) : Kt := fun lo st M => match st with
  | .inl (.inl i) :: .inr (some (g, s)) :: r => aty g = 2 ∧ 12 ≤ g ∧ s < cnt g ∧ (0 ≤ i ∧ i < alen g) ∧ kt lo (zi (M g s i.toNat) :: r) M
  | _ => False
def c_aald (h : Nat) (kt : Kt) : Kt := fun lo st M => match st with
  | .inl (.inl i) :: .inr (some (g, s)) :: r => aty g = h + 3 ∧ 12 ≤ g ∧ s < cnt g ∧ (0 ≤ i ∧ i < alen g) ∧ kt lo (zr h i.toNat :: r) M
  | _ => False
def c_iast (kt : Kt) : Kt := fun lo st M => match st with
  | .inl (.inl z) :: .inl (.inl i) :: .inr (some (g, s)) :: r => aty g = 0 ∧ 12 ≤ g ∧ s < cnt g ∧ (0 ≤ i ∧ i < alen g) ∧ kt lo r (stm M g s i.toNat z)
  | _ => False
def c_last (kt : Kt) : Kt := fun lo st M => match st with
  | .inl (.inr z) :: .inl (.inl i) :: .inr (some (g, s)) :: r => aty g = 1 ∧ 12 ≤ g ∧ s < cnt g ∧ (0 ≤ i ∧ i < alen g) ∧ kt lo r (stm M g s i.toNat z)
  | _ => False
def c_bast (kt : Kt) : Kt := fun lo st M => match st with
  | .inl (.inl z) :: .inl (.inl i) :: .inr (some (g, s)) :: r => aty g = 2 ∧ 12 ≤ g ∧ s < cnt g ∧ (0 ≤ i ∧ i < alen g) ∧ (z = 0 ∨ z = 1) ∧ kt lo r (stm M g s i.toNat z)
  | _ => False
theorem ix_in {g : Nat} {i : Int} (h : 0 ≤ i ∧ i < alen g) : vp_in (Int32.ofInt i) (alen g) ∧ (Int32.ofInt i).toNatClampNeg = i.toNat := by
  have h2 := alen_lt g
  have hi : iR i := ⟨by omega, by omega⟩
  exact ⟨iR_in hi h.1 h.2, iR_cl hi h.1⟩
theorem nar_b {z : Int} (h : z = 0 ∨ z = 1) : narrow .boolean (.int (Int32.ofInt z)) = .int (Int32.ofInt z) ∧ fits .boolean (.int (Int32.ofInt z)) = true ∧ vp_nar .boolean (Int32.ofInt z) = Int32.ofInt z := by
  rcases h with rfl | rfl <;> exact ⟨by decide, by decide, by decide⟩
theorem upd_st (f : Nat → Int) (k : Nat) (z : Int) : upd (fun j => Int32.ofInt (f j)) k (Int32.ofInt z) = fun j => Int32.ofInt (if j = k then z else f j) := by
  funext j
  unfold upd
  split <;> rfl
theorem updL_st (f : Nat → Int) (k : Nat) (z : Int) : vp_updL (fun j => Int64.ofInt (f j)) k (Int64.ofInt z) = fun j => Int64.ofInt (if j = k then z else f j) := by
  funext j
  unfold vp_updL
  split <;> rfl

theorem r_gi {x : Xc} {l0 : Launch} {b : ByteArray} {own : String} {nl dd : Nat} {pc : Nat} {kt : Kt} {i ci k : Nat} (C : Cx x l0 b own nl dd) (hd : decode b pc = .ok (.getfield i, 3)) (hf : fLk own i ci k) (hty : (fkl ci)[k]? = some 0 ∨ (fkl ci)[k]? = some 2) (h0 : Ok x (pc + 3) kt) : Ok x pc (c_gi ci k kt) := by
  intro lo st M hk
  obtain ⟨p, l, e, R, s, m, args, below, meth, c, ⟨cells, slots⟩, Q, D, ad, cA, A, nL⟩ := x
  obtain ⟨hx, hb, hml, hown, hts, hK, hD, hA, hc1, hc2, hlk, hnl, hll, hrm, hN⟩ := C
  obtain ⟨hci, Cn, T, N, hc, hkN, hin, hlink⟩ := hf
  match st, hk with
  | .inr (some (g, s')) :: r, ⟨hg, hs, hk2⟩ =>
    subst hg
    intro H locs ls hP hS hl
    rcases hty with hty | hty
    · obtain ⟨k0, hk0, hw⟩ := wl_at ad cA M hs
      rw [cel_ob ad cA _ _ hci] at hw
      rcases hlink with hlink | ⟨host, hlink⟩
      · exact va_get (D := D) (tys := tysA cA) (T := T) hx hb hts hin hown hK hP k0 hw hc k hkN (hts _ hlink) (fun _ z => z) (obf_at ad _ hty) hd (h0 lo _ M hk2 H locs ls hP hS hl)
      · exact va_getN (D := D) (tys := tysA cA) (T := T) hx hb hts hin hown hK hP k0 hw hc k hkN (va_Nw.use rfl (hN _ hlink)) (fun _ z => z) (obf_at ad _ hty) hd (h0 lo _ M hk2 H locs ls hP hS hl)
    · obtain ⟨k0, hk0, hw⟩ := wl_at ad cA M hs
      rw [cel_ob ad cA _ _ hci] at hw
      rcases hlink with hlink | ⟨host, hlink⟩
      · exact va_get (D := D) (tys := tysA cA) (T := T) hx hb hts hin hown hK hP k0 hw hc k hkN (hts _ hlink) (fun _ z => z) (obf_at ad _ hty) hd (h0 lo _ M hk2 H locs ls hP hS hl)
      · exact va_getN (D := D) (tys := tysA cA) (T := T) hx hb hts hin hown hK hP k0 hw hc k hkN (va_Nw.use rfl (hN _ hlink)) (fun _ z => z) (obf_at ad _ hty) hd (h0 lo _ M hk2 H locs ls hP hS hl)
theorem r_gl {x : Xc} {l0 : Launch} {b : ByteArray} {own : String} {nl dd : Nat} {pc : Nat} {kt : Kt} {i ci k : Nat} (C : Cx x l0 b own nl dd) (hd : decode b pc = .ok (.getfield i, 3)) (hf : fLk own i ci k) (hty : (fkl ci)[k]? = some 1) (h0 : Ok x (pc + 3) kt) : Ok x pc (c_gl ci k kt) := by
  intro lo st M hk
  obtain ⟨p, l, e, R, s, m, args, below, meth, c, ⟨cells, slots⟩, Q, D, ad, cA, A, nL⟩ := x
  obtain ⟨hx, hb, hml, hown, hts, hK, hD, hA, hc1, hc2, hlk, hnl, hll, hrm, hN⟩ := C
  obtain ⟨hci, Cn, T, N, hc, hkN, hin, hlink⟩ := hf
  match st, hk with
  | .inr (some (g, s')) :: r, ⟨hg, hs, hk2⟩ =>
    subst hg
    intro H locs ls hP hS hl
    obtain ⟨k0, hk0, hw⟩ := wl_at ad cA M hs
    rw [cel_ob ad cA _ _ hci] at hw
    rcases hlink with hlink | ⟨host, hlink⟩
    · exact va_get (D := D) (tys := tysA cA) (T := T) hx hb hts hin hown hK hP k0 hw hc k hkN (hts _ hlink) (fun _ z => z) (obf_at ad _ hty) hd (h0 lo _ M hk2 H locs ls hP hS hl)
    · exact va_getN (D := D) (tys := tysA cA) (T := T) hx hb hts hin hown hK hP k0 hw hc k hkN (va_Nw.use rfl (hN _ hlink)) (fun _ z => z) (obf_at ad _ hty) hd (h0 lo _ M hk2 H locs ls hP hS hl)
theorem r_gr {x : Xc} {l0 : Launch} {b : ByteArray} {own : String} {nl dd : Nat} {pc : Nat} {kt : Kt} {i ci k h : Nat} (C : Cx x l0 b own nl dd) (hd : decode b pc = .ok (.getfield i, 3)) (hf : fLk own i ci k) (hty : (fkl ci)[k]? = some (h + 3)) (h0 : Ok x (pc + 3) kt) : Ok x pc (c_gr ci k h kt) := by
  intro lo st M hk
  obtain ⟨p, l, e, R, s, m, args, below, meth, c, ⟨cells, slots⟩, Q, D, ad, cA, A, nL⟩ := x
  obtain ⟨hx, hb, hml, hown, hts, hK, hD, hA, hc1, hc2, hlk, hnl, hll, hrm, hN⟩ := C
  obtain ⟨hci, Cn, T, N, hc, hkN, hin, hlink⟩ := hf
  match st, hk with
  | .inr (some (g, s')) :: r, ⟨hg, hs, hk2⟩ =>
    subst hg
    intro H locs ls hP hS hl
    obtain ⟨k0, hk0, hw⟩ := wl_at ad cA M hs
    rw [cel_ob ad cA _ _ hci] at hw
    rcases hlink with hlink | ⟨host, hlink⟩
    · exact va_get (D := D) (tys := tysA cA) (T := T) hx hb hts hin hown hK hP k0 hw hc k hkN (hts _ hlink) (fun _ z => z) (obf_at ad _ hty) hd (h0 lo _ M hk2 H locs ls hP hS hl)
    · exact va_getN (D := D) (tys := tysA cA) (T := T) hx hb hts hin hown hK hP k0 hw hc k hkN (va_Nw.use rfl (hN _ hlink)) (fun _ z => z) (obf_at ad _ hty) hd (h0 lo _ M hk2 H locs ls hP hS hl)
theorem r_pi {x : Xc} {l0 : Launch} {b : ByteArray} {own : String} {nl dd : Nat} {pc : Nat} {kt : Kt} {i ci k : Nat} (C : Cx x l0 b own nl dd) (hd : decode b pc = .ok (.putfield i, 3)) (hf : fLk own i ci k) (hfp : fPk ci k .int) (hty : (fkl ci)[k]? = some 0) (h0 : Ok x (pc + 3) kt) : Ok x pc (c_pi ci k kt) := by
  intro lo st M hk
  obtain ⟨p, l, e, R, s, m, args, below, meth, c, ⟨cells, slots⟩, Q, D, ad, cA, A, nL⟩ := x
  obtain ⟨hx, hb, hml, hown, hts, hK, hD, hA, hc1, hc2, hlk, hnl, hll, hrm, hN⟩ := C
  obtain ⟨hci, Cn, T, N, hc, hkN, hin, hlink⟩ := hf
  obtain ⟨hfin, hpd, ty0, hty0, hnm⟩ := hfp Cn T N hc
  match st, hk with
  | .inl (.inl z) :: .inr (some (g, s')) :: r, ⟨hg, hs, hk⟩ =>
    subst hg
    intro H locs ls hP hS hl
    obtain ⟨k0, hk0, hw⟩ := wl_at ad cA M hs
    rw [cel_ob ad cA _ _ hci] at hw
    have hlen : k < (obf ad g s' (M g s')).length := by rw [obf_len]; exact (List.getElem?_eq_some_iff.mp hty).1
    rcases hlink with hlink | ⟨host, hlink⟩
    · refine va_put (D := D) (tys := tysA cA) (T := T) (v := .int (Int32.ofInt z)) hx hb hts hin ty0 hty0 hnm hown hK hP (hD M) hS k0 hw hc k hkN (hts _ hlink) (fun _ z => z) hfin hpd rfl rfl hlen hd (fun H1 locs1 hP1 _ hS1 => ?_)
      have e1 : (obf ad g s' (M g s')).set k (.int (Int32.ofInt z)) = obf ad g s' (fun j => if j = k then z else M g s' j) := obf_set ad _ z hty
      rw [e1, ← cel_ob ad cA s' _ hci, wl_set ad cA M hk0, ← stm_stc] at hP1
      exact h0 lo _ _ hk H1 locs1 ls hP1 hS1 hl
    · refine va_putN (D := D) (tys := tysA cA) (T := T) (v := .int (Int32.ofInt z)) hx hb hts hin ty0 hty0 hnm hown hK hP (hD M) hS k0 hw hc k hkN (va_Nw.use rfl (hN _ hlink)) (fun _ z => z) hfin hpd rfl rfl hlen hd (fun H1 locs1 hP1 _ hS1 => ?_)
      have e1 : (obf ad g s' (M g s')).set k (.int (Int32.ofInt z)) = obf ad g s' (fun j => if j = k then z else M g s' j) := obf_set ad _ z hty
      rw [e1, ← cel_ob ad cA s' _ hci, wl_set ad cA M hk0, ← stm_stc] at hP1
      exact h0 lo _ _ hk H1 locs1 ls hP1 hS1 hl
theorem r_pz {x : Xc} {l0 : Launch} {b : ByteArray} {own : String} {nl dd : Nat} {pc : Nat} {kt : Kt} {i ci k : Nat} (C : Cx x l0 b own nl dd) (hd : decode b pc = .ok (.putfield i, 3)) (hf : fLk own i ci k) (hfp : fPk ci k .boolean) (hty : (fkl ci)[k]? = some 2) (h0 : Ok x (pc + 3) kt) : Ok x pc (c_pz ci k kt) := by
  intro lo st M hk
  obtain ⟨p, l, e, R, s, m, args, below, meth, c, ⟨cells, slots⟩, Q, D, ad, cA, A, nL⟩ := x
  obtain ⟨hx, hb, hml, hown, hts, hK, hD, hA, hc1, hc2, hlk, hnl, hll, hrm, hN⟩ := C
  obtain ⟨hci, Cn, T, N, hc, hkN, hin, hlink⟩ := hf
  obtain ⟨hfin, hpd, ty0, hty0, hnm⟩ := hfp Cn T N hc
  match st, hk with
  | .inl (.inl z) :: .inr (some (g, s')) :: r, ⟨hg, hs, hz, hk⟩ =>
    subst hg
    intro H locs ls hP hS hl
    obtain ⟨k0, hk0, hw⟩ := wl_at ad cA M hs
    rw [cel_ob ad cA _ _ hci] at hw
    have hlen : k < (obf ad g s' (M g s')).length := by rw [obf_len]; exact (List.getElem?_eq_some_iff.mp hty).1
    rcases hlink with hlink | ⟨host, hlink⟩
    · refine va_put (D := D) (tys := tysA cA) (T := T) (v := .int (Int32.ofInt z)) hx hb hts hin ty0 hty0 hnm hown hK hP (hD M) hS k0 hw hc k hkN (hts _ hlink) (fun _ z => z) hfin hpd (nar_b hz).1 (nar_b hz).2.1 hlen hd (fun H1 locs1 hP1 _ hS1 => ?_)
      have e1 : (obf ad g s' (M g s')).set k (.int (Int32.ofInt z)) = obf ad g s' (fun j => if j = k then z else M g s' j) := obf_set ad _ z hty
      rw [e1, ← cel_ob ad cA s' _ hci, wl_set ad cA M hk0, ← stm_stc] at hP1
      exact h0 lo _ _ hk H1 locs1 ls hP1 hS1 hl
    · refine va_putN (D := D) (tys := tysA cA) (T := T) (v := .int (Int32.ofInt z)) hx hb hts hin ty0 hty0 hnm hown hK hP (hD M) hS k0 hw hc k hkN (va_Nw.use rfl (hN _ hlink)) (fun _ z => z) hfin hpd (nar_b hz).1 (nar_b hz).2.1 hlen hd (fun H1 locs1 hP1 _ hS1 => ?_)
      have e1 : (obf ad g s' (M g s')).set k (.int (Int32.ofInt z)) = obf ad g s' (fun j => if j = k then z else M g s' j) := obf_set ad _ z hty
      rw [e1, ← cel_ob ad cA s' _ hci, wl_set ad cA M hk0, ← stm_stc] at hP1
      exact h0 lo _ _ hk H1 locs1 ls hP1 hS1 hl
theorem r_pl {x : Xc} {l0 : Launch} {b : ByteArray} {own : String} {nl dd : Nat} {pc : Nat} {kt : Kt} {i ci k : Nat} (C : Cx x l0 b own nl dd) (hd : decode b pc = .ok (.putfield i, 3)) (hf : fLk own i ci k) (hfp : fPk ci k .long) (hty : (fkl ci)[k]? = some 1) (h0 : Ok x (pc + 3) kt) : Ok x pc (c_pl ci k kt) := by
  intro lo st M hk
  obtain ⟨p, l, e, R, s, m, args, below, meth, c, ⟨cells, slots⟩, Q, D, ad, cA, A, nL⟩ := x
  obtain ⟨hx, hb, hml, hown, hts, hK, hD, hA, hc1, hc2, hlk, hnl, hll, hrm, hN⟩ := C
  obtain ⟨hci, Cn, T, N, hc, hkN, hin, hlink⟩ := hf
  obtain ⟨hfin, hpd, ty0, hty0, hnm⟩ := hfp Cn T N hc
  match st, hk with
  | .inl (.inr z) :: .inr (some (g, s')) :: r, ⟨hg, hs, hk⟩ =>
    subst hg
    intro H locs ls hP hS hl
    obtain ⟨k0, hk0, hw⟩ := wl_at ad cA M hs
    rw [cel_ob ad cA _ _ hci] at hw
    have hlen : k < (obf ad g s' (M g s')).length := by rw [obf_len]; exact (List.getElem?_eq_some_iff.mp hty).1
    rcases hlink with hlink | ⟨host, hlink⟩
    · refine va_put (D := D) (tys := tysA cA) (T := T) (v := .long (Int64.ofInt z)) hx hb hts hin ty0 hty0 hnm hown hK hP (hD M) hS k0 hw hc k hkN (hts _ hlink) (fun _ z => z) hfin hpd rfl rfl hlen hd (fun H1 locs1 hP1 _ hS1 => ?_)
      have e1 : (obf ad g s' (M g s')).set k (.long (Int64.ofInt z)) = obf ad g s' (fun j => if j = k then z else M g s' j) := obf_set ad _ z hty
      rw [e1, ← cel_ob ad cA s' _ hci, wl_set ad cA M hk0, ← stm_stc] at hP1
      exact h0 lo _ _ hk H1 locs1 ls hP1 hS1 hl
    · refine va_putN (D := D) (tys := tysA cA) (T := T) (v := .long (Int64.ofInt z)) hx hb hts hin ty0 hty0 hnm hown hK hP (hD M) hS k0 hw hc k hkN (va_Nw.use rfl (hN _ hlink)) (fun _ z => z) hfin hpd rfl rfl hlen hd (fun H1 locs1 hP1 _ hS1 => ?_)
      have e1 : (obf ad g s' (M g s')).set k (.long (Int64.ofInt z)) = obf ad g s' (fun j => if j = k then z else M g s' j) := obf_set ad _ z hty
      rw [e1, ← cel_ob ad cA s' _ hci, wl_set ad cA M hk0, ← stm_stc] at hP1
      exact h0 lo _ _ hk H1 locs1 ls hP1 hS1 hl
theorem r_iald {x : Xc} {l0 : Launch} {b : ByteArray} {own : String} {nl dd : Nat} {pc : Nat} {kt : Kt} (C : Cx x l0 b own nl dd) (hd : decode b pc = .ok (.iaload, 1)) (h0 : Ok x (pc + 1) kt) : Ok x pc (c_iald kt) := by
  intro lo st M hk
  obtain ⟨p, l, e, R, s, m, args, below, meth, c, ⟨cells, slots⟩, Q, D, ad, cA, A, nL⟩ := x
  obtain ⟨hx, hb, hml, hown, hts, hK, hD, hA, hc1, hc2, hlk, hnl, hll, hrm, hN⟩ := C
  match st, hk with
  | .inl (.inl i) :: .inr (some (g, s')) :: r, ⟨ht, hg, hs, hi, hk⟩ =>
    intro H locs ls hP hS hl
    obtain ⟨k0, hk0, hw⟩ := wl_at ad cA M hs
    obtain ⟨hin, hcl⟩ := ix_in hi
    rw [cel_ar ad cA _ _ hg, ht] at hw
    have q := h0 lo _ M hk H locs ls hP hS hl
    rw [← hcl] at q
    exact va_iald (D := D) (tys := tysA cA) hx hb hK hP k0 0 hw rfl hin hd q
theorem r_lald {x : Xc} {l0 : Launch} {b : ByteArray} {own : String} {nl dd : Nat} {pc : Nat} {kt : Kt} (C : Cx x l0 b own nl dd) (hd : decode b pc = .ok (.laload, 1)) (h0 : Ok x (pc + 1) kt) : Ok x pc (c_lald kt) := by
  intro lo st M hk
  obtain ⟨p, l, e, R, s, m, args, below, meth, c, ⟨cells, slots⟩, Q, D, ad, cA, A, nL⟩ := x
  obtain ⟨hx, hb, hml, hown, hts, hK, hD, hA, hc1, hc2, hlk, hnl, hll, hrm, hN⟩ := C
  match st, hk with
  | .inl (.inl i) :: .inr (some (g, s')) :: r, ⟨ht, hg, hs, hi, hk⟩ =>
    intro H locs ls hP hS hl
    obtain ⟨k0, hk0, hw⟩ := wl_at ad cA M hs
    obtain ⟨hin, hcl⟩ := ix_in hi
    rw [cel_ar ad cA _ _ hg, ht] at hw
    have q := h0 lo _ M hk H locs ls hP hS hl
    rw [← hcl] at q
    exact va_lald (D := D) (tys := tysA cA) hx hb hK hP k0 1 hw rfl hin hd q
theorem r_bald {x : Xc} {l0 : Launch} {b : ByteArray} {own : String} {nl dd : Nat} {pc : Nat} {kt : Kt} (C : Cx x l0 b own nl dd) (hd : decode b pc = .ok (.baload, 1)) (h0 : Ok x (pc + 1) kt) : Ok x pc (c_bald kt) := by
  intro lo st M hk
  obtain ⟨p, l, e, R, s, m, args, below, meth, c, ⟨cells, slots⟩, Q, D, ad, cA, A, nL⟩ := x
  obtain ⟨hx, hb, hml, hown, hts, hK, hD, hA, hc1, hc2, hlk, hnl, hll, hrm, hN⟩ := C
  match st, hk with
  | .inl (.inl i) :: .inr (some (g, s')) :: r, ⟨ht, hg, hs, hi, hk⟩ =>
    intro H locs ls hP hS hl
    obtain ⟨k0, hk0, hw⟩ := wl_at ad cA M hs
    obtain ⟨hin, hcl⟩ := ix_in hi
    rw [cel_ar ad cA _ _ hg, ht] at hw
    have q := h0 lo _ M hk H locs ls hP hS hl
    rw [← hcl] at q
    exact va_zald (D := D) (tys := tysA cA) hx hb hK hP k0 2 hw rfl hin hd q
theorem r_aald {x : Xc} {l0 : Launch} {b : ByteArray} {own : String} {nl dd : Nat} {pc : Nat} {kt : Kt} {h : Nat} (C : Cx x l0 b own nl dd) (hd : decode b pc = .ok (.aaload, 1)) (h0 : Ok x (pc + 1) kt) : Ok x pc (c_aald h kt) := by
  intro lo st M hk
  obtain ⟨p, l, e, R, s, m, args, below, meth, c, ⟨cells, slots⟩, Q, D, ad, cA, A, nL⟩ := x
  obtain ⟨hx, hb, hml, hown, hts, hK, hD, hA, hc1, hc2, hlk, hnl, hll, hrm, hN⟩ := C
  match st, hk with
  | .inl (.inl i) :: .inr (some (g, s')) :: r, ⟨ht, hg, hs, hi, hk⟩ =>
    intro H locs ls hP hS hl
    obtain ⟨k0, hk0, hw⟩ := wl_at ad cA M hs
    obtain ⟨hin, hcl⟩ := ix_in hi
    rw [cel_ar ad cA _ _ hg, ht] at hw
    have q := h0 lo _ M hk H locs ls hP hS hl
    rw [← hcl] at q
    exact va_aldq (D := D) (tys := tysA cA) hx hb hK hP k0 3 hw rfl hin hd q
theorem r_iast {x : Xc} {l0 : Launch} {b : ByteArray} {own : String} {nl dd : Nat} {pc : Nat} {kt : Kt} (C : Cx x l0 b own nl dd) (hd : decode b pc = .ok (.iastore, 1)) (h0 : Ok x (pc + 1) kt) : Ok x pc (c_iast kt) := by
  intro lo st M hk
  obtain ⟨p, l, e, R, s, m, args, below, meth, c, ⟨cells, slots⟩, Q, D, ad, cA, A, nL⟩ := x
  obtain ⟨hx, hb, hml, hown, hts, hK, hD, hA, hc1, hc2, hlk, hnl, hll, hrm, hN⟩ := C
  match st, hk with
  | .inl (.inl z) :: .inl (.inl i) :: .inr (some (g, s')) :: r, ⟨ht, hg, hs, hi, hk⟩ =>
    intro H locs ls hP hS hl
    obtain ⟨k0, hk0, hw⟩ := wl_at ad cA M hs
    obtain ⟨hin, hcl⟩ := ix_in hi
    rw [cel_ar ad cA _ _ hg, ht] at hw
    refine va_iast (D := D) (tys := tysA cA) hx hb hK hP (hD M) hS k0 0 hw rfl hin hd (fun H1 locs1 hP1 _ hS1 => ?_)
    rw [upd_st, hcl] at hP1
    have e1 : (Sum.inl (arf ad cA 0 (alen g) (fun j => if j = i.toNat then z else M g s' j)) : va_E) = cel ad cA g s' (fun j => if j = i.toNat then z else M g s' j) := by rw [cel_ar ad cA _ _ hg, ht]
    have hP2 : va_P D cls12 ((wl ad cA M).set k0 (ad g s', cel ad cA g s' (fun j => if j = i.toNat then z else M g s' j))) H1 := by rw [← e1]; exact hP1
    rw [wl_set ad cA M hk0, ← stm_stc] at hP2
    exact h0 lo _ _ hk H1 locs1 ls hP2 hS1 hl
theorem r_last {x : Xc} {l0 : Launch} {b : ByteArray} {own : String} {nl dd : Nat} {pc : Nat} {kt : Kt} (C : Cx x l0 b own nl dd) (hd : decode b pc = .ok (.lastore, 1)) (h0 : Ok x (pc + 1) kt) : Ok x pc (c_last kt) := by
  intro lo st M hk
  obtain ⟨p, l, e, R, s, m, args, below, meth, c, ⟨cells, slots⟩, Q, D, ad, cA, A, nL⟩ := x
  obtain ⟨hx, hb, hml, hown, hts, hK, hD, hA, hc1, hc2, hlk, hnl, hll, hrm, hN⟩ := C
  match st, hk with
  | .inl (.inr z) :: .inl (.inl i) :: .inr (some (g, s')) :: r, ⟨ht, hg, hs, hi, hk⟩ =>
    intro H locs ls hP hS hl
    obtain ⟨k0, hk0, hw⟩ := wl_at ad cA M hs
    obtain ⟨hin, hcl⟩ := ix_in hi
    rw [cel_ar ad cA _ _ hg, ht] at hw
    refine va_last (D := D) (tys := tysA cA) hx hb hK hP (hD M) hS k0 1 hw rfl hin hd (fun H1 locs1 hP1 _ hS1 => ?_)
    rw [updL_st, hcl] at hP1
    have e1 : (Sum.inl (arf ad cA 1 (alen g) (fun j => if j = i.toNat then z else M g s' j)) : va_E) = cel ad cA g s' (fun j => if j = i.toNat then z else M g s' j) := by rw [cel_ar ad cA _ _ hg, ht]
    have hP2 : va_P D cls12 ((wl ad cA M).set k0 (ad g s', cel ad cA g s' (fun j => if j = i.toNat then z else M g s' j))) H1 := by rw [← e1]; exact hP1
    rw [wl_set ad cA M hk0, ← stm_stc] at hP2
    exact h0 lo _ _ hk H1 locs1 ls hP2 hS1 hl
theorem r_bast {x : Xc} {l0 : Launch} {b : ByteArray} {own : String} {nl dd : Nat} {pc : Nat} {kt : Kt} (C : Cx x l0 b own nl dd) (hd : decode b pc = .ok (.bastore, 1)) (h0 : Ok x (pc + 1) kt) : Ok x pc (c_bast kt) := by
  intro lo st M hk
  obtain ⟨p, l, e, R, s, m, args, below, meth, c, ⟨cells, slots⟩, Q, D, ad, cA, A, nL⟩ := x
  obtain ⟨hx, hb, hml, hown, hts, hK, hD, hA, hc1, hc2, hlk, hnl, hll, hrm, hN⟩ := C
  match st, hk with
  | .inl (.inl z) :: .inl (.inl i) :: .inr (some (g, s')) :: r, ⟨ht, hg, hs, hi, hz, hk⟩ =>
    intro H locs ls hP hS hl
    obtain ⟨k0, hk0, hw⟩ := wl_at ad cA M hs
    obtain ⟨hin, hcl⟩ := ix_in hi
    rw [cel_ar ad cA _ _ hg, ht] at hw
    refine va_zast (D := D) (tys := tysA cA) hx hb hK hP (hD M) hS k0 2 hw rfl hin hd (fun H1 locs1 hP1 _ hS1 => ?_)
    rw [(nar_b hz).2.2] at hP1
    rw [upd_st, hcl] at hP1
    have e1 : (Sum.inl (arf ad cA 2 (alen g) (fun j => if j = i.toNat then z else M g s' j)) : va_E) = cel ad cA g s' (fun j => if j = i.toNat then z else M g s' j) := by rw [cel_ar ad cA _ _ hg, ht]
    have hP2 : va_P D cls12 ((wl ad cA M).set k0 (ad g s', cel ad cA g s' (fun j => if j = i.toNat then z else M g s' j))) H1 := by rw [← e1]; exact hP1
    rw [wl_set ad cA M hk0, ← stm_stc] at hP2
    exact h0 lo _ _ hk H1 locs1 ls hP2 hS1 hl

