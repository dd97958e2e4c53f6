/-! calls, returns, a method's contract -/
def rmd (d : Nat) : Room := { frames := d, cells := 0, slots := 0, locals := 100 * d }
def Pcx (D : va_G) (ad : Nat → Nat → Nat) (cA : Nat → ClassId) (sz : Nat) (M : Mm) (U : State) : Prop := U.heap.size = sz ∧ va_P D cls12 (wl ad cA M) U.heap ∧ va_K D cls12 (tysA cA) U ∧ va_D (fun _ => True) (wl ad cA M) ∧ ∀ w ∈ gN, va_Nw w U
def Qcx (D : va_G) (ad : Nat → Nat → Nat) (cA : Nat → ClassId) (A : Nat → Prop) (P : Option AV → Mm → Prop) (_ : Array Value) (st : State) (oc : Outcome) (t : State) : Prop := (∃ (r : Option AV) (M' : Mm), oc = .returned (r.map (cv ad)) ∧ P r M' ∧ va_P D cls12 (wl ad cA M') t.heap) ∧ va_F A st t
/-- a method's contract: what must hold of what is given and of the memory so that it comes back with an answer and a memory as wanted -/
def MetT (l : Launch) (y : MethodName) (b : ByteArray) (nl : Nat) (ret : Option FieldType) (d : Nat) (T : Ct) : Prop := ∀ (D : va_G) (ad : Nat → Nat → Nat) (cA : Nat → ClassId) (sz : Nat) (as : List AV) (M : Mm) (P : Option AV → Mm → Prop), T as M P → Met l y (.code y b nl ret :: gT) (rmd d) (va_Pc (as.map (cv ad)) (Pcx D ad cA sz M)) (Qcx D ad cA (va_A (wl ad cA M) sz) P) 0 0 (va_A (wl ad cA M) sz)
/-- the same for a smaller want -/
theorem MetT.imp {l : Launch} {y : MethodName} {b : ByteArray} {nl : Nat} {ret : Option FieldType} {d : Nat} {T T' : Ct} (h : MetT l y b nl ret d T) (hT : ∀ as M P, T' as M P → T as M P) : MetT l y b nl ret d T' := fun D ad cA sz as M P q => h D ad cA sz as M P (hT as M P q)
theorem J_run {x : Xc} {l0 : Launch} {b : ByteArray} {own : String} {nl dd pc : Nat} {lo : Lo} {st rest : List AV} {M : Mm} {P : Option AV → Mm → Prop} {a : Array Value} (C : Cx x l0 b own nl dd) (k : ∀ (r : Option AV) (M' : Mm), P r M' → J x (pc + 3) lo (r.toList ++ rest) M')
    (run : match x with
      | (p, l, e, R, s, m, args, below, meth, c, (cells, slots), _, D, ad, cA, A, nL) => ∀ (H : Heap) (locs : List Loc) (ls : Array Slot), va_P D cls12 (wl ad cA M) H → va_S A s.heap H locs → lvF ad ls nL lo → va_Run p l e R s m args below meth c H locs cells slots 0 0 (F0 m pc ls (st.map (cv ad))) (rest.map (cv ad)) (Qcx D ad cA (va_A (wl ad cA M) H.size) P a) (va_A (wl ad cA M) H.size)) : J x pc lo st M := by
  obtain ⟨p, l, e, R, s, m, args, below, meth, c, ⟨cells, slots⟩, Q, D, ad, cA, A, nL⟩ := x
  obtain ⟨hx, hb, hml, hown, hts, hK, hD, hA, hc1, hc2, hlk, hnl, hll, hrm, hN⟩ := C
  intro H locs ls hP hS hl T hT X
  obtain ⟨v, st₀, t, T', L, h0, X', hL, e1, e2, ⟨⟨r, M', hv, hp, hP'⟩, hz, hk⟩, stp⟩ := run H locs ls hP hS hl T hT X
  cases hv
  rw [h0] at hz hk
  have hAA : ∀ q : Nat, va_A (wl ad cA M) H.size q → A q := by
    rintro q (⟨i, e, hi⟩ | hq)
    · exact (hD M).2 i (q, e) hi
    · exact hA q (Nat.le_trans hS.1 hq)
  have hS1 : va_S A s.heap T'.heap (locs ++ L) := ⟨Nat.le_trans hS.1 (by rw [e1]; exact hz), fun q h1 h2 => by rw [e1, hk q (Nat.lt_of_lt_of_le h1 hS.1) (fun z => h2 (hAA q z))]; exact hS.2.1 q h1 h2, fun q hq => by
    rcases List.mem_append.mp hq with h | h
    · exact hS.2.2 q h
    · exact hAA _ (hL q h)⟩
  obtain ⟨t2, a1, b1⟩ := k r M' hp T'.heap (locs ++ L) ls (by rw [e1]; exact hP') hS1 hl T' rfl X'
  refine ⟨t2, stp t2 ?_, b1⟩
  have e3 : (r.map (cv ad)).toList ++ rest.map (cv ad) = (r.toList ++ rest).map (cv ad) := by cases r <;> simp
  show Steps p.tables e below (T'.setTop { F0 m pc ls (st.map (cv ad)) with pc := pc + 3, stack := (r.map (cv ad)).toList ++ rest.map (cv ad) }) t2
  rw [e3]
  exact a1
def pops : Nat → List AV → List AV → (List AV → List AV → Prop) → Prop
  | 0, acc, st, k => k acc st
  | n + 1, acc, v :: st, k => pops n (v :: acc) st k
  | _ + 1, _, [], _ => False
theorem pops_spec {n : Nat} : ∀ {acc st : List AV} {k : List AV → List AV → Prop}, pops n acc st k → ∃ as r : List AV, st = as.reverse ++ r ∧ as.length = n ∧ k (as ++ acc) r := by
  induction n with
  | zero => intro acc st k h; exact ⟨[], st, rfl, rfl, h⟩
  | succ n ih =>
    intro acc st k h
    cases st with
    | nil => exact h.elim
    | cons v st =>
      obtain ⟨as, r, h1, h2, h3⟩ := ih (acc := v :: acc) h
      exact ⟨as ++ [v], r, by simp [h1], by simp [h2], by simpa using h3⟩
/-- what the tables say of a callee -/
def Cle (y : MethodName) (b : ByteArray) (nl : Nat) (ret : Option FieldType) (n : Nat) : Prop := Cond.code y b nl ret ∈ gT ∧ Cond.initialized y.cls ∈ gT ∧ (y.cls ≠ "java/lang/invoke/MethodHandle" ∧ y.cls ≠ "java/lang/invoke/VarHandle" ∧ (parseMethodDescriptor y.desc).map (fun d => d.parameters.length) = some n) ∧ nl ≤ 80
def lnk (own : String) (i : Nat) (y : MethodName) : Prop := Cond.methodLink own i y ∈ gT ∨ ∃ host : String, Cond.methodLinkNest own i y host ∈ gN
theorem GoodIn.code {y : MethodName} {b : ByteArray} {nl : Nat} {ret : Option FieldType} (h : Cond.code y b nl ret ∈ gT) : GoodIn gT (Cond.code y b nl ret :: gT) := fun w hw => by
  rcases List.mem_cons.mp hw with rfl | hw
  · exact gT_good _ h
  · exact gT_good _ hw
theorem cat_le (ad : Nat → Nat → Nat) (r : List AV) : ((r.map (cv ad)).map fun v => v.category).sum ≤ 2 * r.length := by
  induction r with
  | nil => simp
  | cons v r ih =>
    simp only [List.map_cons, List.sum_cons, List.length_cons]
    have : (cv ad v).category ≤ 2 := by rcases lv_cat (cv ad v) with h | h <;> omega
    omega
def acat (v : AV) : Nat := match v with
  | .inl (.inr _) => 2
  | _ => 1
def scat : List AV → Nat
  | [] => 0
  | v :: r => acat v + scat r
theorem scat_eq (ad : Nat → Nat → Nat) (r : List AV) : ((r.map (cv ad)).map fun v => v.category).sum = scat r := by
  induction r with
  | nil => rfl
  | cons v r ih =>
    simp only [List.map_cons, List.sum_cons, ih, scat]
    congr 1
    match v with
    | .inl (.inl z) => rfl
    | .inl (.inr z) => rfl
    | .inr (some q) => rfl
    | .inr none => rfl
def c_callV (ci n : Nat) (T : Ct) (kt : Kt) : Kt := fun lo st M => pops n [] st (fun as r => match r with
  | .inr (some (g, s)) :: r' => g = ci ∧ s < cnt ci ∧ scat r' ≤ 8 ∧ T (zr ci s :: as) M (fun v M' => kt lo (v.toList ++ r') M')
  | _ => False)
def c_callS (n : Nat) (T : Ct) (kt : Kt) : Kt := fun lo st M => pops n [] st (fun as r => scat r ≤ 8 ∧ T as M (fun v M' => kt lo (v.toList ++ r) M'))
theorem Pcx_blind {D : va_G} {ad : Nat → Nat → Nat} {cA : Nat → ClassId} {sz : Nat} {M : Mm} {av : List Value} : FrameBlind (va_Pc av (Pcx D ad cA sz M)) := fun a U g mk q => by
  obtain ⟨q0, q1, qP, qK, qD, qN⟩ := q
  exact ⟨q0, q1, qP, va_K.moved (u := U) (U := U.calling g mk a) (Vm.Alike.refl U.vm) qK, qD, fun w hw => va_Nw.same (gN_tab hw) (u := U) (U := U.calling g mk a) rfl (qN w hw)⟩
theorem r_callV {x : Xc} {l0 : Launch} {b : ByteArray} {own : String} {nl dd pc : Nat} {kt : Kt} {i ci n d nl' : Nat} {y : MethodName} {b' : ByteArray} {ret : Option FieldType} {T : Ct} (C : Cx x l0 b own nl dd) (hd : decode b pc = .ok (.invokevirtual i, 3)) (hM : MetT l0 y b' nl' ret d T) (hci : ci < 12) (hcl : ∃ (F : u_T) (N : Nat), cls12[ci]? = some (y.cls, F, N)) (hc : Cle y b' nl' ret n) (hl : lnk own i y) (hin : Cond.instanceMethod y ∈ gT) (hse : Cond.selects y.cls y y ∈ gT) (hdd : d + 1 ≤ dd) (h : Ok x (pc + 3) kt) : Ok x pc (c_callV ci n T kt) := by
  intro lo st M hk
  obtain ⟨as, r, rfl, hlen, hk⟩ := pops_spec hk
  rw [List.append_nil] at hk
  match r, hk with
  | .inr (some (g, s')) :: r', ⟨hg, hs, h4, hT⟩ =>
  subst hg
  obtain ⟨hcode, hini, hds, hnl'⟩ := hc
  obtain ⟨F, N, hcl⟩ := hcl
  refine J_run (rest := r') (P := fun v M' => kt lo (v.toList ++ r') M') (a := ((zr g s' :: as).map (cv x.2.2.2.2.2.2.2.2.2.2.2.2.2.1)).toArray) C (fun v M' hv => h lo _ M' hv) ?_
  obtain ⟨p, l, e, R, s, m, args, below, meth, c, ⟨cells, slots⟩, Q, D, ad, cA, A, nL⟩ := x
  obtain ⟨hx, hb, hml, hown, hts, hK, hD, hA, hc1, hc2, hlk, hnl, rfl, hrm, hN⟩ := C
  intro H locs ls hP hS hlv
  obtain ⟨k0, hk0, hw⟩ := wl_at ad cA M hs
  rw [cel_ob ad cA _ _ hci] at hw
  have hMt := hM D ad cA H.size (zr g s' :: as) M _ hT
  have hW2 := scat_eq ad r'
  have hpre : PreV s H y.cls (ad g s') (va_Pc ((zr g s' :: as).map (cv ad)) (Pcx D ad cA H.size M)) (as.map (cv ad)) := ⟨Pcx_blind, va_recv hK hP hcl hw, fun U hU hW => ⟨rfl, by rw [hU], by rw [hU]; exact hP, va_K.moved hW.alike hK, (hD M).weaken (fun _ _ _ _ => trivial), fun w hw => gN_warm hw hW (hN w hw)⟩⟩
  have hstk : ((as.reverse ++ .inr (some (g, s')) :: r').map (cv ad)) = (as.map (cv ad)).reverse ++ Value.ref (ad g s') :: r'.map (cv ad) := by simp [cv]
  rw [hstk]
  have hn' : (as.map (cv ad)).length = n := by rw [List.length_map]; exact hlen
  have hroom : (rmd d).frames + 1 ≤ R.frames ∧ 8 + (nl' + 11) + (rmd d).locals ≤ R.locals := ⟨by show d + 1 ≤ _; omega, by show 8 + (nl' + 11) + 100 * d ≤ _; omega⟩
  rcases hl with hl | ⟨host, hl⟩
  · exact va_runV ⟨hx, hb, hml, hown, hts⟩ hMt ⟨callB_of n hts (GoodIn.code hcode) rfl rfl rfl (hts _ hini) (hts _ hl) hds hroom, hts _ hin, hts _ hse⟩ hpre rfl hn' hlv.1 rfl (by show 0 + _ ≤ 8; omega) hd ⟨by omega, by omega⟩
  · exact va_runVN ⟨hx, hb, hml, hown, hts⟩ hMt ⟨va_cnB n hts (GoodIn.code hcode) rfl rfl rfl (hN _ hl) (hts _ hini) hds hroom, hts _ hin, hts _ hse⟩ hpre rfl hn' hlv.1 rfl (by show 0 + _ ≤ 8; omega) hd ⟨by omega, by omega⟩
theorem r_callS {x : Xc} {l0 : Launch} {b : ByteArray} {own : String} {nl dd pc : Nat} {kt : Kt} {i n d nl' : Nat} {y : MethodName} {b' : ByteArray} {ret : Option FieldType} {T : Ct} (C : Cx x l0 b own nl dd) (hd : decode b pc = .ok (.invokestatic i, 3)) (hM : MetT l0 y b' nl' ret d T) (hc : Cle y b' nl' ret n) (hl : lnk own i y) (hst : Cond.static y ∈ gT) (hdd : d + 1 ≤ dd) (h : Ok x (pc + 3) kt) : Ok x pc (c_callS n T kt) := by
  intro lo st M hk
  obtain ⟨as, r', rfl, hlen, hk⟩ := pops_spec hk
  rw [List.append_nil] at hk
  obtain ⟨h4, hT⟩ := hk
  obtain ⟨hcode, hini, hds, hnl'⟩ := hc
  refine J_run (rest := r') (P := fun v M' => kt lo (v.toList ++ r') M') (a := (as.map (cv x.2.2.2.2.2.2.2.2.2.2.2.2.2.1)).toArray) C (fun v M' hv => h lo _ M' hv) ?_
  obtain ⟨p, l, e, R, s, m, args, below, meth, c, ⟨cells, slots⟩, Q, D, ad, cA, A, nL⟩ := x
  obtain ⟨hx, hb, hml, hown, hts, hK, hD, hA, hc1, hc2, hlk, hnl, rfl, hrm, hN⟩ := C
  intro H locs ls hP hS hlv
  have hMt := hM D ad cA H.size as M _ hT
  have hW2 := scat_eq ad r'
  have hpre : PreS s H (va_Pc (as.map (cv ad)) (Pcx D ad cA H.size M)) (as.map (cv ad)) := ⟨Pcx_blind, fun U hU hW => ⟨rfl, by rw [hU], by rw [hU]; exact hP, va_K.moved hW.alike hK, (hD M).weaken (fun _ _ _ _ => trivial), fun w hw => gN_warm hw hW (hN w hw)⟩⟩
  have hstk : ((as.reverse ++ r').map (cv ad)) = (as.map (cv ad)).reverse ++ r'.map (cv ad) := by simp
  rw [hstk]
  have hn' : (as.map (cv ad)).length = n := by rw [List.length_map]; exact hlen
  have hroom : (rmd d).frames + 1 ≤ R.frames ∧ 8 + (nl' + 11) + (rmd d).locals ≤ R.locals := ⟨by show d + 1 ≤ _; omega, by show 8 + (nl' + 11) + 100 * d ≤ _; omega⟩
  rcases hl with hl | ⟨host, hl⟩
  · exact va_runS ⟨hx, hb, hml, hown, hts⟩ hMt ⟨callB_of n hts (GoodIn.code hcode) rfl rfl rfl (hts _ hini) (hts _ hl) hds hroom, hts _ hst⟩ hpre rfl hn' hlv.1 rfl (by show 0 + _ ≤ 8; omega) hd ⟨by omega, by omega⟩
  · exact va_runSN ⟨hx, hb, hml, hown, hts⟩ hMt ⟨va_cnB n hts (GoodIn.code hcode) rfl rfl rfl (hN _ hl) (hts _ hini) hds hroom, hts _ hst, trivial⟩ hpre rfl hn' hlv.1 rfl (by show 0 + _ ≤ 8; omega) hd ⟨by omega, by omega⟩
/-! returns -/
def Rx (x : Xc) (ret : Option FieldType) (P : Option AV → Mm → Prop) : Prop := match x with
  | (_, _, _, _, s, _, args, below, meth, _, (cells, slots), Q, D, ad, cA, A, _) => meth.sig.returnType = ret ∧ Q = MQ below (Qcx D ad cA A P) args s cells slots A
def c_iret (P : Option AV → Mm → Prop) : Kt := fun _ st M => match st with
  | [.inl (.inl z)] => P (some (zi z)) M
  | _ => False
def c_zret (P : Option AV → Mm → Prop) : Kt := fun _ st M => match st with
  | [.inl (.inl z)] => (z = 0 ∨ z = 1) ∧ P (some (zi z)) M
  | _ => False
def c_lret (P : Option AV → Mm → Prop) : Kt := fun _ st M => match st with
  | [.inl (.inr z)] => P (some (zl z)) M
  | _ => False
def c_vret (P : Option AV → Mm → Prop) : Kt := fun _ st M => match st with
  | [] => P none M
  | _ => False
theorem r_iret {x : Xc} {l0 : Launch} {b : ByteArray} {own : String} {nl dd pc : Nat} {P : Option AV → Mm → Prop} (C : Cx x l0 b own nl dd) (hR : Rx x (some .int) P) (hd : decode b pc = .ok (.ireturn, 1)) : Ok x pc (c_iret P) := by
  intro lo st M hk
  obtain ⟨p, l, e, R, s, m, args, below, meth, c, ⟨cells, slots⟩, Q, D, ad, cA, A, nL⟩ := x
  obtain ⟨hx, hb, hml, hown, hts, hK, hD, hA, hc1, hc2, hlk, hnl, hll, hrm, hN⟩ := C
  obtain ⟨hr, rfl⟩ := hR
  match st, hk with
  | [.inl (.inl z)], hk =>
    intro H locs ls hP hS hl
    exact W.iret hx hb hr (fun t ht hW => ⟨⟨some (zi z), M, rfl, hk, by rw [ht]; exact hP⟩, hS.F ht⟩) hS.2.2 hd hlk
theorem r_zret {x : Xc} {l0 : Launch} {b : ByteArray} {own : String} {nl dd pc : Nat} {P : Option AV → Mm → Prop} (C : Cx x l0 b own nl dd) (hR : Rx x (some .boolean) P) (hd : decode b pc = .ok (.ireturn, 1)) : Ok x pc (c_zret P) := by
  intro lo st M hk
  obtain ⟨p, l, e, R, s, m, args, below, meth, c, ⟨cells, slots⟩, Q, D, ad, cA, A, nL⟩ := x
  obtain ⟨hx, hb, hml, hown, hts, hK, hD, hA, hc1, hc2, hlk, hnl, hll, hrm, hN⟩ := C
  obtain ⟨hr, rfl⟩ := hR
  match st, hk with
  | [.inl (.inl z)], ⟨hz, hk⟩ =>
    intro H locs ls hP hS hl
    exact W.zret hx hb hr (nar_b hz).1 (fun t ht hW => ⟨⟨some (zi z), M, rfl, hk, by rw [ht]; exact hP⟩, hS.F ht⟩) hS.2.2 hd hlk
theorem r_lret {x : Xc} {l0 : Launch} {b : ByteArray} {own : String} {nl dd pc : Nat} {P : Option AV → Mm → Prop} (C : Cx x l0 b own nl dd) (hR : Rx x (some .long) P) (hd : decode b pc = .ok (.lreturn, 1)) : Ok x pc (c_lret P) := by
  intro lo st M hk
  obtain ⟨p, l, e, R, s, m, args, below, meth, c, ⟨cells, slots⟩, Q, D, ad, cA, A, nL⟩ := x
  obtain ⟨hx, hb, hml, hown, hts, hK, hD, hA, hc1, hc2, hlk, hnl, hll, hrm, hN⟩ := C
  obtain ⟨hr, rfl⟩ := hR
  match st, hk with
  | [.inl (.inr z)], hk =>
    intro H locs ls hP hS hl
    exact W.lret hx hb hr (fun t ht hW => ⟨⟨some (zl z), M, rfl, hk, by rw [ht]; exact hP⟩, hS.F ht⟩) hS.2.2 hd hlk
theorem r_vret {x : Xc} {l0 : Launch} {b : ByteArray} {own : String} {nl dd pc : Nat} {P : Option AV → Mm → Prop} (C : Cx x l0 b own nl dd) (hR : Rx x none P) (hd : decode b pc = .ok (.return_, 1)) : Ok x pc (c_vret P) := by
  intro lo st M hk
  obtain ⟨p, l, e, R, s, m, args, below, meth, c, ⟨cells, slots⟩, Q, D, ad, cA, A, nL⟩ := x
  obtain ⟨hx, hb, hml, hown, hts, hK, hD, hA, hc1, hc2, hlk, hnl, hll, hrm, hN⟩ := C
  obtain ⟨hr, rfl⟩ := hR
  match st, hk with
  | [], hk =>
    intro H locs ls hP hS hl
    exact W.vret hx hb hr (fun t ht hW => ⟨⟨none, M, rfl, hk, by rw [ht]; exact hP⟩, hS.F ht⟩) hS.2.2 hd hlk
/-! a method's entry -/
def elo : List AV → Lo
  | [] => []
  | .inl (.inr z) :: r => some (.inl (.inr z)) :: none :: elo r
  | .inl (.inl z) :: r => some (.inl (.inl z)) :: elo r
  | .inr v :: r => some (.inr v) :: elo r
def pad : Nat → Lo → Lo
  | 0, _ => []
  | n + 1, [] => none :: pad n []
  | n + 1, v :: r => v :: pad n r
theorem pad_at {n : Nat} : ∀ {lo : Lo} {i : Nat} {v : AV}, (pad n lo)[i]? = some (some v) → lo[i]? = some (some v) := by
  induction n with
  | zero => intro lo i v h; simp [pad] at h
  | succ n ih =>
    intro lo i v h
    cases lo with
    | nil =>
      cases i with
      | zero => simp [pad] at h
      | succ i =>
        have := ih (lo := []) (by simpa [pad] using h)
        simp at this
    | cons w lo =>
      cases i with
      | zero => simpa [pad] using h
      | succ i => simpa [pad] using ih (by simpa [pad] using h)
theorem elo_args (ad : Nat → Nat → Nat) (as : List AV) : ∀ (k i : Nat) (v : AV), (elo as)[i]? = some (some v) → (k + i, cv ad v) ∈ lv_args k (as.map (cv ad)) := by
  induction as with
  | nil => intro k i v h; simp [elo] at h
  | cons w as ih =>
    intro k i v h
    match w, h with
    | .inl (.inl z), h =>
      cases i with
      | zero =>
        simp only [elo, List.getElem?_cons_zero, Option.some.injEq] at h
        subst h
        exact List.mem_cons_self
      | succ i =>
        have := ih (k + 1) i v (by simpa [elo] using h)
        refine List.mem_cons_of_mem _ ?_
        rw [show k + (i + 1) = k + 1 + i by omega]
        exact this
    | .inl (.inr z), h =>
      cases i with
      | zero =>
        simp only [elo, List.getElem?_cons_zero, Option.some.injEq] at h
        subst h
        exact List.mem_cons_self
      | succ i =>
        cases i with
        | zero => simp [elo] at h
        | succ i =>
          have := ih (k + 2) i v (by simpa [elo] using h)
          refine List.mem_cons_of_mem _ ?_
          rw [show k + (i + 1 + 1) = k + 2 + i by omega]
          exact this
    | .inr (some q), h =>
      cases i with
      | zero =>
        simp only [elo, List.getElem?_cons_zero, Option.some.injEq] at h
        subst h
        exact List.mem_cons_self
      | succ i =>
        have := ih (k + 1) i v (by simpa [elo] using h)
        refine List.mem_cons_of_mem _ ?_
        rw [show k + (i + 1) = k + 1 + i by omega]
        exact this
    | .inr none, h =>
      cases i with
      | zero =>
        simp only [elo, List.getElem?_cons_zero, Option.some.injEq] at h
        subst h
        exact List.mem_cons_self
      | succ i =>
        have := ih (k + 1) i v (by simpa [elo] using h)
        refine List.mem_cons_of_mem _ ?_
        rw [show k + (i + 1) = k + 1 + i by omega]
        exact this
theorem elo_len (ad : Nat → Nat → Nat) (as : List AV) : (lg_sl (as.map (cv ad))).length = (elo as).length := by
  induction as with
  | nil => rfl
  | cons w as ih =>
    match w with
    | .inl (.inl z) => simpa [lg_sl, elo, cv, Value.category] using ih
    | .inl (.inr z) => simpa [lg_sl, elo, cv, Value.category] using ih
    | .inr (some q) => simpa [lg_sl, elo, cv, Value.category] using ih
    | .inr none => simpa [lg_sl, elo, cv, Value.category] using ih
theorem MetT.of {l : Launch} {y : MethodName} {b : ByteArray} {nl : Nat} {ret : Option FieldType} {d : Nat} {T : Ct} (hy : plainName y.cls = true) (hlen : ∀ as M P, T as M P → (elo as).length ≤ nl)
    (body : ∀ (x : Xc) (as : List AV) (M : Mm) (P : Option AV → Mm → Prop), T as M P → Cx x l b y.cls nl d → Rx x ret P → J x 0 (pad nl (elo as)) [] M) : MetT l y b nl ret d T := by
  intro D ad cA sz as M P hT
  refine Met.ofW (cc := b) (maxL := nl) (ret := ret) hy rfl ?_
  intro p e s m args below meth c s₁ B hml hv
  obtain ⟨rfl, hsz, hP, hK, hD0, hN⟩ := hv
  have hts := atoms_spec (ws := Cond.code y b nl ret :: gT) B.pre
  subst hsz
  have hbody := body (p, l, e, (headSpec (Cond.code y b nl ret :: gT) (rmd d)).room, s, m, _, below, meth, c, (0, 0), MQ below (Qcx D ad cA (va_A (wl ad cA M) s.heap.size) P) _ s 0 0 (va_A (wl ad cA M) s.heap.size), D, ad, cA, va_A (wl ad cA M) s.heap.size, nl) as M P hT ⟨B.exec, B.bytes, hml, findClass_of_methodNamed B.named, fun w hw => hts w (List.mem_cons_of_mem _ hw), hK, fun M' => wl_D (hD0.self (sz := s.heap.size)) M', fun q h => Or.inr h, Nat.zero_le _, Nat.zero_le _, B.notSynchronized, rfl, rfl, ⟨Nat.le_refl _, Nat.le_refl _⟩, hN⟩ ⟨B.returns, rfl⟩
  rw [lg_entry_eq]
  have hl := lv_entry (as.map (cv ad)) (n := nl) (by rw [elo_len]; exact hlen as M P hT)
  exact hbody s.heap [] _ hP va_S.rf ⟨hl.1, hl.2.1, fun i v h => hl.2.2 (i, cv ad v) (by have := elo_args ad as 0 i v (pad_at h); rwa [Nat.zero_add] at this)⟩
