/-! methods that throw: their contracts, the throw, what goes out, the call -/
abbrev CtX : Type := List AV → Mm → (Option AV → Mm → Prop) → (Mm → Prop) → Prop
def rmx (k d : Nat) : Room := { frames := d, cells := k, slots := 6 * k, locals := 100 * d }
def txt3 : List (Nat × String) := [(101, "there is no such number"), (230, "the question can't be asked"), (147, "there is no such side")]
/-- the words of a throw that aren't among the good ones: of the class tables alone -/
def fW : List Cond := [.castable "java/lang/IndexOutOfBoundsException" "java/lang/IndexOutOfBoundsException", .castable "java/util/NoSuchElementException" "java/util/NoSuchElementException", .declares ⟨"java/lang/RuntimeException", "<init>", "(Ljava/lang/String;)V"⟩, .declares ⟨"java/lang/Exception", "<init>", "(Ljava/lang/String;)V"⟩, .declares ⟨"java/lang/Throwable", "<init>", "(Ljava/lang/String;)V"⟩]
theorem fW_ok : ∀ w ∈ fW, w.faceAtom = true ∧ w.onTables = true := by decide +kernel
theorem face_go {w : Cond} (hw : w ∈ fW) {s U : State} {A A' : Array Value} (h : w.before A s = true) (hv : s.vm.Alike U.vm) : w.before A' U = true := by
  have e := Cond.onTables_vm (A := A') (A' := A) (U := U) (U' := s) U.vm w (fW_ok w hw).2
  have e2 : U.setVm U.vm = U := rfl
  rw [e2] at e
  rw [e]
  exact Cond.faceAtom_setVm hv w (fW_ok w hw).1 h
/-- the texts are there, and Throwable's two cells aren't ours -/
def Sx (A : Nat → Prop) (U : State) : Prop := (∀ z ∈ txt3, ∃ a, vk_R RX10 z.1 z.2 a U) ∧ vx_Zq Bundle.tN "UNASSIGNED_STACK" Bundle.steD A U U.heap ∧ vx_Zq Bundle.tN "SUPPRESSED_SENTINEL" Bundle.listD A U U.heap ∧ ∀ w ∈ fW, w.before #[] U = true
theorem Sx.go {A B : Nat → Prop} {s U : State} {H : Heap} {locs : List Loc} (h : Sx A s) (hW : s.WarmedH U.vm) (hU : U.heap = H) (hS : va_S A s.heap H locs) (hB : ∀ q, B q → A q) : Sx B U := by
  refine ⟨fun z hz => ?_, ?_, ?_, fun w hw => face_go hw (h.2.2.2 w hw) hW.alike⟩
  · obtain ⟨a, ha⟩ := h.1 z hz
    exact ⟨a, vk_R.warm hW ha⟩
  · rw [hU]; exact ((vx_Zq.moved hW.alike h.2.1).kept hS.2.1).narrow hB
  · rw [hU]; exact ((vx_Zq.moved hW.alike h.2.2.1).kept hS.2.1).narrow hB
def XCx (D : va_G) (ad : Nat → Nat → Nat) (cA : Nat → ClassId) (A : Nat → Prop) (E0 : String) (X : Mm → Prop) : String → State → State → Prop := fun E st t => E = E0 ∧ (∃ M' : Mm, X M' ∧ va_P D cls12 (wl ad cA M') t.heap) ∧ va_F A st t
def PcX (D : va_G) (ad : Nat → Nat → Nat) (cA : Nat → ClassId) (sz : Nat) (M : Mm) (U : State) : Prop := Pcx D ad cA sz M U ∧ Sx (va_A (wl ad cA M) sz) U
/-- the contract of a method that may throw E0: k cells at most come -/
def MetX (l : Launch) (y : MethodName) (b : ByteArray) (nl : Nat) (ret : Option FieldType) (k d : Nat) (E0 : String) (T : CtX) : Prop := ∀ (D : va_G) (ad : Nat → Nat → Nat) (cA : Nat → ClassId) (sz : Nat) (as : List AV) (M : Mm) (P : Option AV → Mm → Prop) (X : Mm → Prop), T as M P X → vx_Met l y (.code y b nl ret :: gT) (rmx k d) (va_Pc (as.map (cv ad)) (PcX D ad cA sz M)) (Qcx D ad cA (va_A (wl ad cA M) sz) P) (XCx D ad cA (va_A (wl ad cA M) sz) E0 X) k (6 * k) (va_A (wl ad cA M) sz)
theorem PcX_blind {D : va_G} {ad : Nat → Nat → Nat} {cA : Nat → ClassId} {sz : Nat} {M : Mm} {av : List Value} : FrameBlind (va_Pc av (PcX D ad cA sz M)) := fun a U g mk q => by
  obtain ⟨q0, qP, qS⟩ := q
  have h1 : va_Pc av (Pcx D ad cA sz M) a (U.calling g mk a) := Pcx_blind a U g mk ⟨q0, qP⟩
  refine ⟨h1.1, h1.2, fun z hz => ?_, ?_, ?_, fun w hw => face_go hw (s := U) (U := U.calling g mk a) (qS.2.2.2 w hw) (Vm.Alike.refl U.vm)⟩
  · obtain ⟨a', ha⟩ := qS.1 z hz
    exact ⟨a', vk_R.same rfl ha⟩
  · exact vx_Zq.moved (u := U) (U := U.calling g mk a) (Vm.Alike.refl U.vm) qS.2.1
  · exact vx_Zq.moved (u := U) (U := U.calling g mk a) (Vm.Alike.refl U.vm) qS.2.2.1
def xk (x : Xc) (k : Nat) : Xc := match x with
  | (p, l, e, R, s, m, args, below, meth, c, (cells, slots), Q, D, ad, cA, A, nL) => (p, l, e, R, s, m, args, below, meth, c, (cells + k, slots + 6 * k), Q, D, ad, cA, A, nL)
/-- there is room for k throws more -/
def Rk (x : Xc) (k : Nat) : Prop := match x with
  | (_, _, _, R, _, _, _, _, _, _, (cells, slots), _) => cells + k ≤ R.cells ∧ slots + 6 * k ≤ R.slots
def SxO (x : Xc) : Prop := match x with
  | (_, _, _, _, s, _, _, _, _, _, _, _, _, _, _, A, _) => Sx A s
theorem Cx.up {x : Xc} {l0 : Launch} {b : ByteArray} {own : String} {nl dd k : Nat} (C : Cx x l0 b own nl dd) (h : Rk x k) : Cx (xk x k) l0 b own nl dd := by
  obtain ⟨p, l, e, R, s, m, args, below, meth, c, ⟨cells, slots⟩, Q, D, ad, cA, A, nL⟩ := x
  obtain ⟨hx, hb, hml, hown, hts, hK, hD, hA, hc1, hc2, hlk, hnl, hll, hrm, hN⟩ := C
  exact ⟨hx, hb, hml, hown, hts, hK, hD, hA, h.1, h.2, hlk, hnl, hll, hrm, hN⟩
/-- what a body that may throw E0 owes: j cells came already, k may come -/
def Yx (x : Xc) (ret : Option FieldType) (E0 : String) (P : Option AV → Mm → Prop) (X : Mm → Prop) (j k : Nat) : Prop := match x with
  | (_, _, _, R, s, _, args, below, meth, c, (cells, slots), Q, D, ad, cA, A, _) => meth.sig.returnType = ret ∧ Q = vx_MQ below (Qcx D ad cA A P) (XCx D ad cA A E0 X) args s k (6 * k) A ∧ (cells = j ∧ slots = 6 * j) ∧ (k ≤ R.cells ∧ 6 * k ≤ R.slots) ∧ (∀ z ∈ c.exceptionTable.toList, False) ∧ Sx A s
theorem Yx.up {x : Xc} {ret : Option FieldType} {E0 : String} {P : Option AV → Mm → Prop} {X : Mm → Prop} {j k i : Nat} (Y : Yx x ret E0 P X j k) : Yx (xk x i) ret E0 P X (j + i) k := by
  obtain ⟨p, l, e, R, s, m, args, below, meth, c, ⟨cells, slots⟩, Q, D, ad, cA, A, nL⟩ := x
  obtain ⟨hr, hq, ⟨h1, h2⟩, hk, hET, hSx⟩ := Y
  exact ⟨hr, hq, ⟨by rw [h1], by rw [h2]; omega⟩, hk, hET, hSx⟩
theorem Yx.rk {x : Xc} {ret : Option FieldType} {E0 : String} {P : Option AV → Mm → Prop} {X : Mm → Prop} {j k i : Nat} (Y : Yx x ret E0 P X j k) (h : j + i ≤ k) : Rk x i := by
  obtain ⟨p, l, e, R, s, m, args, below, meth, c, ⟨cells, slots⟩, Q, D, ad, cA, A, nL⟩ := x
  obtain ⟨hr, hq, ⟨h1, h2⟩, hk, hET, hSx⟩ := Y
  exact ⟨by omega, by omega⟩
theorem Yx.sx {x : Xc} {ret : Option FieldType} {E0 : String} {P : Option AV → Mm → Prop} {X : Mm → Prop} {j k : Nat} (Y : Yx x ret E0 P X j k) : SxO x := by
  obtain ⟨p, l, e, R, s, m, args, below, meth, c, ⟨cells, slots⟩, Q, D, ad, cA, A, nL⟩ := x
  exact Y.2.2.2.2.2
/-- past the last throw: as a method that doesn't throw -/
theorem J_plain {x : Xc} {l0 : Launch} {b : ByteArray} {own : String} {nl dd : Nat} {ret : Option FieldType} {E0 : String} {P : Option AV → Mm → Prop} {X : Mm → Prop} {j k : Nat} {pc : Nat} {lo : Lo} {st : List AV} {M : Mm} (C : Cx x l0 b own nl dd) (Y : Yx x ret E0 P X j k) (hjk : j ≤ k) (h : ∀ x' : Xc, Cx x' l0 b own nl dd → Rx x' ret P → J x' pc lo st M) : J x pc lo st M := by
  obtain ⟨p, l, e, R, s, m, args, below, meth, c, ⟨cells, slots⟩, Q, D, ad, cA, A, nL⟩ := x
  obtain ⟨hx, hb, hml, hown, hts, hK, hD, hA, hc1, hc2, hlk, hnl, hll, hrm, hN⟩ := C
  obtain ⟨hr, rfl, ⟨h1, h2⟩, ⟨hk1, hk2⟩, hET, hSx⟩ := Y
  intro H locs ls hP hS hl
  have := h (p, l, e, R, s, m, args, below, meth, c, (k, 6 * k), MQ below (Qcx D ad cA A P) args s k (6 * k) A, D, ad, cA, A, nL) ⟨hx, hb, hml, hown, hts, hK, hD, hA, hk1, hk2, hlk, hnl, hll, hrm, hN⟩ ⟨hr, rfl⟩ H locs ls hP hS hl
  exact vx_ret fun T hT X => this T hT (stand_widen X (by omega) (by omega))
/-- E has been thrown over the frame at pc -/
def JX (x : Xc) (E : String) (pc : Nat) (lo : Lo) (st : List AV) (M : Mm) : Prop := match x with
  | (p, l, e, R, s, m, args, below, meth, c, (cells, slots), Q, D, ad, cA, A, nL) => ∀ (H : Heap) (locs : List Loc) (ls : Array Slot) (q : Addr) (ce : Cell), va_P D cls12 (wl ad cA M) H → va_S A s.heap H locs → lvF ad ls nL lo → H[q]? = some ce → ce.vm = .none → s.vm.findClass E = some ce.cls → vx_W p l e R s m args below meth c H locs cells slots Q (F0 m pc ls (st.map (cv ad))) q
theorem JX_out {x : Xc} {l0 : Launch} {b : ByteArray} {own : String} {nl dd : Nat} {ret : Option FieldType} {E0 : String} {P : Option AV → Mm → Prop} {X : Mm → Prop} {j k : Nat} {pc : Nat} {lo : Lo} {st : List AV} {M : Mm} (C : Cx x l0 b own nl dd) (Y : Yx x ret E0 P X j k) (hjk : j ≤ k) (hX : X M) : JX x E0 pc lo st M := by
  obtain ⟨p, l, e, R, s, m, args, below, meth, c, ⟨cells, slots⟩, Q, D, ad, cA, A, nL⟩ := x
  obtain ⟨hx, hb, hml, hown, hts, hK, hD, hA, hc1, hc2, hlk, hnl, hll, hrm, hN⟩ := C
  obtain ⟨hr, rfl, ⟨h1, h2⟩, ⟨hk1, hk2⟩, hET, hSx⟩ := Y
  intro H locs ls q ce hP hS hl hce hcv hcl
  exact vx_out (fun z hz => (hET z hz).elim) hlk hce hcv hcl (fun t ht _ => ⟨rfl, ⟨M, hX, by rw [ht]; exact hP⟩, by rw [ht]; exact hS.1, fun q h1 h2 => by rw [ht]; exact hS.2.1 q h1 h2⟩) hS.2.2 (by omega) (by omega)
/-- 'throw new E0("text")' in CloudBench -/
theorem J_throw {x : Xc} {l0 : Launch} {b : ByteArray} {nl dd : Nat} {ret : Option FieldType} {E0 text : String} {names : List String} {P : Option AV → Mm → Prop} {X : Mm → Prop} {j k : Nat} {pc ik is ic : Nat} {lo : Lo} {M : Mm} (C : Cx x l0 b RX10 nl dd) (Y : Yx x ret E0 P X j k) (hjk : j + 1 ≤ k) (hl : l0.stackTraces = false) (hcls : Bundle.fit E0 = true) (hnames : ∀ n ∈ names, Bundle.fit n = true)
    (hk : Cond.classLink RX10 ik E0 ∈ gT) (hini : Cond.initialized E0 ∈ gT) (hstr : (is, text) ∈ txt3) (hat : ∀ w ∈ vx_atS RX10 ic E0 names, w ∈ gT ∨ w ∈ fW) (d0 : decode b pc = .ok (.new ik, 3)) (d3 : decode b (pc + 3) = .ok (.dup, 1)) (d4 : decode b (pc + 4) = .ok (.ldc is, 2)) (d6 : decode b (pc + 6) = .ok (.invokespecial ic, 3)) (d9 : decode b (pc + 9) = .ok (.athrow, 1)) (hdd : names.length + 3 < dd ∧ 13 * (names.length + 1) + 43 ≤ 100 * dd) (hX : X M) : J x pc lo [] M := by
  obtain ⟨p, l, e, R, s, m, args, below, meth, c, ⟨cells, slots⟩, Q, D, ad, cA, A, nL⟩ := x
  obtain ⟨hx, hb, hml, hown, hts, hK, hD, hA, hc1, hc2, hlk, hnl, hll, hrm, hN⟩ := C
  obtain ⟨hr, rfl, ⟨h1, h2⟩, ⟨hk1, hk2⟩, hET, hSx⟩ := Y
  subst hll
  intro H locs ls hP hS hlv
  obtain ⟨sa, hsa⟩ := hSx.1 _ hstr
  have hot : ∀ w ∈ gT, vx_ot w = true := fun w hw => by
    have := (List.mem_filter.mp hw).2
    unfold vx_ot
    rw [this, Bool.or_true]
  refine vx_throwS hx hb hl (names := names) hown hcls hnames (hts _ hk) (hts _ hini) hsa (fun w hw => (hat w hw).elim (hts _) (fun e => face_go e (hSx.2.2.2 w e) (Vm.Alike.refl s.vm))) (fun w hw => ?_) hSx.2.1 hSx.2.2.1 hS (hlv.1.trans hml.symm) d0 d3 d4 d6 d9 (fun z hz => (hET z hz).elim) (by omega) (by show 0 + _ ≤ _; omega) (by omega) (by omega) hlk (fun t hv hsz hq => ?_) hS.2.2 (by omega) (by omega)
  · rcases List.mem_cons.mp hw with rfl | hw
    · exact hot _ hk
    · rcases List.mem_cons.mp hw with rfl | hw
      · exact hot _ hini
      · rcases hat w hw with h | h
        · exact hot _ h
        · unfold vx_ot
          rw [(fW_ok w h).2, Bool.true_or]
  · refine ⟨rfl, ⟨M, hX, ?_⟩, Nat.le_trans hS.1 hsz, fun q h1 h2 => ?_⟩
    · exact hP.kept fun k q hk => hq q.1 (vx_lt hP hk)
    · rw [hq q (Nat.lt_of_lt_of_le h1 hS.1)]; exact hS.2.1 q h1 h2
theorem MetX.of {l : Launch} {y : MethodName} {b : ByteArray} {nl : Nat} {ret : Option FieldType} {k d : Nat} {E0 : String} {T : CtX} (hy : plainName y.cls = true) (hlen : ∀ as M P X, T as M P X → (elo as).length ≤ nl)
    (body : ∀ (x : Xc) (as : List AV) (M : Mm) (P : Option AV → Mm → Prop) (X : Mm → Prop), T as M P X → Cx x l b y.cls nl d → Yx x ret E0 P X 0 k → J x 0 (pad nl (elo as)) [] M) : MetX l y b nl ret k d E0 T := by
  intro D ad cA sz as M P X hT
  refine vx_ofW (cc := b) (maxL := nl) (ret := ret) hy rfl ?_
  intro p e s m args below meth c s₁ B hml hET hv
  obtain ⟨rfl, ⟨hsz, hP, hK, hD0, hN⟩, hSx⟩ := hv
  have hts := atoms_spec (ws := Cond.code y b nl ret :: gT) B.pre
  subst hsz
  have hbody := body (p, l, e, (headSpec (Cond.code y b nl ret :: gT) (rmx k d)).room, s, m, _, below, meth, c, (0, 0), vx_MQ below (Qcx D ad cA (va_A (wl ad cA M) s.heap.size) P) (XCx D ad cA (va_A (wl ad cA M) s.heap.size) E0 X) _ s k (6 * k) (va_A (wl ad cA M) s.heap.size), D, ad, cA, va_A (wl ad cA M) s.heap.size, nl) as M P X hT ⟨B.exec, B.bytes, hml, findClass_of_methodNamed B.named, fun w hw => hts w (List.mem_cons_of_mem _ hw), hK, fun M' => wl_D (hD0.self (sz := s.heap.size)) M', fun q h => Or.inr h, Nat.zero_le _, Nat.zero_le _, B.notSynchronized, rfl, rfl, ⟨Nat.le_refl _, Nat.le_refl _⟩, hN⟩ ⟨B.returns, rfl, ⟨rfl, rfl⟩, ⟨Nat.le_refl _, Nat.le_refl _⟩, hET, hSx⟩
  rw [lg_entry_eq]
  have hl := lv_entry (as.map (cv ad)) (n := nl) (by rw [elo_len]; exact hlen as M P X hT)
  exact hbody s.heap [] _ hP va_S.rf ⟨hl.1, hl.2.1, fun i v h => hl.2.2 (i, cv ad v) (by have := elo_args ad as 0 i v (pad_at h); rwa [Nat.zero_add] at this)⟩
/-- a call of a method that may throw -/
theorem J_callX {x : Xc} {l0 : Launch} {b : ByteArray} {own : String} {nl dd pc : Nat} {i ci n k d nl' s' : Nat} {y : MethodName} {b' : ByteArray} {ret : Option FieldType} {E0 : String} {T : CtX} {lo : Lo} {as r' : List AV} {M : Mm} (C : Cx x l0 b own nl dd) (hSx : SxO x) (hRk : Rk x k) (hd : decode b pc = .ok (.invokevirtual i, 3)) (hM : MetX l0 y b' nl' ret k d E0 T) (hci : ci < 12) (hcl : ∃ (F : u_T) (N : Nat), cls12[ci]? = some (y.cls, F, N)) (hc : Cle y b' nl' ret n) (hl : Cond.methodLink own i y ∈ gT) (hin : Cond.instanceMethod y ∈ gT) (hse : Cond.selects y.cls y y ∈ gT) (hdd : d + 1 ≤ dd) (hlen : as.length = n) (hs : s' < cnt ci) (h4 : scat r' ≤ 8)
    (hT : T (zr ci s' :: as) M (fun v M' => J (xk x k) (pc + 3) lo (v.toList ++ r') M') (fun M' => JX (xk x k) E0 pc lo r' M')) : J x pc lo (as.reverse ++ zr ci s' :: r') M := by
  obtain ⟨p, l, e, R, s, m, args, below, meth, c, ⟨cells, slots⟩, Q, D, ad, cA, A, nL⟩ := x
  obtain ⟨hx, hb, hml, hown, hts, hK, hD, hA, hc1, hc2, hlk, hnl, rfl, hrm, hN⟩ := C
  obtain ⟨hcode, hini, hds, hnl'⟩ := hc
  obtain ⟨F, N, hcl⟩ := hcl
  have hSx : Sx A s := hSx
  intro H locs ls hP hS hlv
  obtain ⟨k0, hk0, hw⟩ := wl_at ad cA M hs
  rw [cel_ob ad cA _ _ hci] at hw
  have hAA : ∀ q : Nat, va_A (wl ad cA M) H.size q → A q := by
    rintro q (⟨i, e, hi⟩ | hq)
    · exact (hD M).2 i (q, e) hi
    · exact hA q (Nat.le_trans hS.1 hq)
  have hMt := hM D ad cA H.size (zr ci s' :: as) M _ _ hT
  have hW2 := scat_eq ad r'
  have hpre : PreV s H y.cls (ad ci s') (va_Pc ((zr ci s' :: as).map (cv ad)) (PcX D ad cA H.size M)) (as.map (cv ad)) := ⟨PcX_blind, va_recv hK hP hcl hw, fun U hU hW => ⟨rfl, ⟨by rw [hU], by rw [hU]; exact hP, va_K.moved hW.alike hK, (hD M).weaken (fun _ _ _ _ => trivial), fun w hw => gN_warm hw hW (hN w hw)⟩, Sx.go hSx hW hU hS hAA⟩⟩
  have hstk : ((as.reverse ++ zr ci s' :: r').map (cv ad)) = (as.map (cv ad)).reverse ++ Value.ref (ad ci s') :: r'.map (cv ad) := by simp [cv]
  rw [hstk]
  have hn' : (as.map (cv ad)).length = n := by rw [List.length_map]; exact hlen
  have hroom : (rmx k d).frames + 1 ≤ R.frames ∧ 8 + (nl' + 11) + (rmx k d).locals ≤ R.locals := ⟨by show d + 1 ≤ _; omega, by show 8 + (nl' + 11) + 100 * d ≤ _; omega⟩
  have run := vx_runV (g := F0 m pc ls ((as.map (cv ad)).reverse ++ Value.ref (ad ci s') :: r'.map (cv ad))) (rest := r'.map (cv ad)) (locs := locs) (e := e) (below := below) (meth := meth) ⟨hx, hb, hml, hown, hts⟩ hMt ⟨callB_of n hts (GoodIn.code hcode) rfl rfl rfl (hts _ hini) (hts _ hl) hds hroom, hts _ hin, hts _ hse⟩ hpre rfl hn' hlv.1 rfl (by show 0 + _ ≤ 8; omega) hd hRk
  intro T0 hT0 X0
  have hS1 : ∀ (st₀ t T' : State) (L : List Loc), st₀.heap = H → T'.heap = t.heap → (∀ q ∈ L, va_A (wl ad cA M) H.size q.base) → va_F (va_A (wl ad cA M) H.size) st₀ t → va_S A s.heap T'.heap (locs ++ L) := fun st₀ t T' L h0 e1 hL hF => by
    obtain ⟨hz, hkp⟩ := hF
    rw [h0] at hz hkp
    exact ⟨Nat.le_trans hS.1 (by rw [e1]; exact hz), fun q h1 h2 => by rw [e1, hkp q (Nat.lt_of_lt_of_le h1 hS.1) (fun z => h2 (hAA q z))]; exact hS.2.1 q h1 h2, fun q hq => by
      rcases List.mem_append.mp hq with h | h
      · exact hS.2.2 q h
      · exact hAA _ (hL q h)⟩
  rcases run T0 hT0 X0 with ⟨v, st₀, t, T', L, h0, X', hL, e1, e2, ⟨⟨r, M', hv, hp, hP'⟩, hF⟩, stp⟩ | ⟨q, st₀, t, T', L, E, ce, h0, X', hL, e1, e2, ⟨hE, ⟨M', hX, hP'⟩, hF⟩, hce, hcv, hcl', stp⟩
  · cases hv
    obtain ⟨t2, a1, b1⟩ := hp T'.heap (locs ++ L) ls (by rw [e1]; exact hP') (hS1 st₀ t T' L h0 e1 hL hF) hlv T' rfl X'
    refine ⟨t2, stp t2 ?_, b1⟩
    have e3 : (r.map (cv ad)).toList ++ r'.map (cv ad) = (r.toList ++ r').map (cv ad) := by cases r <;> simp
    show Steps p.tables e below (T'.setTop { F0 m pc ls ((as.map (cv ad)).reverse ++ Value.ref (ad ci s') :: r'.map (cv ad)) with pc := pc + 3, stack := (r.map (cv ad)).toList ++ r'.map (cv ad) }) t2
    rw [e3]
    exact a1
  · subst hE
    obtain ⟨t2, a1, b1⟩ := hX T'.heap (locs ++ L) ls q ce (by rw [e1]; exact hP') (hS1 st₀ t T' L h0 e1 hL hF) hlv (by rw [e1]; exact hce) hcv hcl' T' rfl X'
    exact ⟨t2, stp.trans a1, b1⟩
