/-- a static call of a helper with a table -/
theorem J_callH {x : Xc} {l0 : Launch} {b : ByteArray} {own : String} {nl dd pc : Nat} {i n k d nl' : Nat} {y : MethodName} {b' : ByteArray} {ret : Option FieldType} {hh : List (Nat × Nat × Nat × Nat)} {T : Ct} {lo : Lo} {as r' : List AV} {M : Mm} (C : Cx x l0 b own nl dd) (hSx : SxO x) (hRk : Rk x k) (hd : decode b pc = .ok (.invokestatic i, 3)) (hM : MetH l0 y b' nl' ret hh k d T) (hcode : Cond.codeWith y b' nl' ret hh ∈ gT) (hini : Cond.initialized y.cls ∈ gT) (hy : y.cls ≠ "java/lang/invoke/MethodHandle" ∧ y.cls ≠ "java/lang/invoke/VarHandle") (hpar : (parseMethodDescriptor y.desc).map (fun d => d.parameters.length) = some n) (hnl' : nl' ≤ 80) (hl : Cond.methodLink own i y ∈ gT) (hst : Cond.static y ∈ gT) (hdd : d + 1 ≤ dd) (hlen : as.length = n) (h4 : scat r' ≤ 8)
    (hT : T as M (fun v M' => J (xk x k) (pc + 3) lo (v.toList ++ r') M')) : J x pc lo (as.reverse ++ r') M := by
  obtain ⟨p, l, e, R, s, m, args, below, meth, c, ⟨cells, slots⟩, Q, D, ad, cA, A, nL⟩ := x
  obtain ⟨hx, hb, hml, hown, hts, hK, hD, hA, hc1, hc2, hlk, hnl, rfl, hrm, hN⟩ := C
  have hSx : Sx A s := hSx
  intro H locs ls hP hS hlv
  have hAA : ∀ q : Nat, va_A (wl ad cA M) H.size q → A q := by
    rintro q (⟨i, e, hi⟩ | hq)
    · exact (hD M).2 i (q, e) hi
    · exact hA q (Nat.le_trans hS.1 hq)
  have hMt := hM D ad cA H.size as M _ hT
  have hW2 := scat_eq ad r'
  have hpre : PreS s H (va_Pc (as.map (cv ad)) (PcX D ad cA H.size M)) (as.map (cv ad)) := ⟨PcX_blind, fun U hU hW => ⟨rfl, ⟨by rw [hU], by rw [hU]; exact hP, va_K.moved hW.alike hK, (hD M).weaken (fun _ _ _ _ => trivial), fun w hw => gN_warm hw hW (hN w hw)⟩, Sx.go hSx hW hU hS hAA⟩⟩
  have hstk : ((as.reverse ++ r').map (cv ad)) = (as.map (cv ad)).reverse ++ r'.map (cv ad) := by simp
  rw [hstk]
  have hn' : (as.map (cv ad)).length = n := by rw [List.length_map]; exact hlen
  have hG : GoodIn gT (Cond.codeWith y b' nl' ret hh :: gT) := fun w hw => by
    rcases List.mem_cons.mp hw with rfl | hw
    · exact gT_good _ hcode
    · exact gT_good _ hw
  have cw : vx_CSW R s args own i y b' nl' ret hh (Cond.codeWith y b' nl' ret hh :: gT) (rmx k d) k (6 * k) n := ⟨⟨rfl, rfl, by show d + 1 ≤ _; omega, by show 8 + (nl' + 11) + 100 * d ≤ _; omega, pay_in hts hG, List.mem_cons_self⟩, hts _ hcode, hts _ hini, hy, fun sig h => by rw [h] at hpar; exact (Option.some.inj hpar).symm, hts _ hl, hts _ hst⟩
  have run := vx_runSW (g := F0 m pc ls ((as.map (cv ad)).reverse ++ r'.map (cv ad))) (rest := r'.map (cv ad)) (locs := locs) (e := e) (below := below) (meth := meth) ⟨hx, hb, hml, hown, hts⟩ hMt cw hpre rfl hn' hlv.1 rfl (by show 0 + _ ≤ 8; omega) hd hRk
  intro T0 hT0 X0
  obtain ⟨v, st₀, t, T', L, h0, X', hL, e1, e2, ⟨⟨r, M', hv, hp, hP'⟩, hz, hkp⟩, stp⟩ := run T0 hT0 X0
  cases hv
  rw [h0] at hz hkp
  have hS1 : va_S A s.heap T'.heap (locs ++ L) := ⟨Nat.le_trans hS.1 (by rw [e1]; exact hz), fun q h1 h2 => by rw [e1, hkp q (Nat.lt_of_lt_of_le h1 hS.1) (fun z => h2 (hAA q z))]; exact hS.2.1 q h1 h2, fun q hq => by
    rcases List.mem_append.mp hq with h | h
    · exact hS.2.2 q h
    · exact hAA _ (hL q h)⟩
  obtain ⟨t2, a1, b1⟩ := hp T'.heap (locs ++ L) ls (by rw [e1]; exact hP') hS1 hlv T' rfl X'
  refine ⟨t2, stp t2 ?_, b1⟩
  have e3 : (r.map (cv ad)).toList ++ r'.map (cv ad) = (r.toList ++ r').map (cv ad) := by cases r <;> simp
  show Steps p.tables e below (T'.setTop { F0 m pc ls ((as.map (cv ad)).reverse ++ r'.map (cv ad)) with pc := pc + 3, stack := (r.map (cv ad)).toList ++ r'.map (cv ad) }) t2
  rw [e3]
  exact a1
