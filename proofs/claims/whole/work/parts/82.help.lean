/-! the law's helpers: a call, caught -/
def MetH (l : Launch) (y : MethodName) (b : ByteArray) (nl : Nat) (ret : Option FieldType) (hh : List (Nat × Nat × Nat × Nat)) (k d : Nat) (T : Ct) : Prop := ∀ (D : va_G) (ad : Nat → Nat → Nat) (cA : Nat → ClassId) (sz : Nat) (as : List AV) (M : Mm) (P : Option AV → Mm → Prop), T as M P → Met l y (.codeWith y b nl ret hh :: gT) (rmx k d) (va_Pc (as.map (cv ad)) (PcX D ad cA sz M)) (Qcx D ad cA (va_A (wl ad cA M) sz) P) k (6 * k) (va_A (wl ad cA M) sz)
def Hx (x : Xc) (ret : Option FieldType) (P : Option AV → Mm → Prop) (hh : List (Nat × Nat × Nat × Nat)) (k : Nat) : Prop := match x with
  | (_, _, _, R, s, _, args, below, meth, c, (cells, slots), Q, D, ad, cA, A, _) => meth.sig.returnType = ret ∧ Q = vx_MQ below (Qcx D ad cA A P) (fun _ _ _ => False) args s k (6 * k) A ∧ (cells = 0 ∧ slots = 0) ∧ (k ≤ R.cells ∧ 6 * k ≤ R.slots) ∧ c.exceptionTable.toList = tableOf hh ∧ Sx A s
theorem MetH.of {l : Launch} {y : MethodName} {b : ByteArray} {nl : Nat} {ret : Option FieldType} {hh : List (Nat × Nat × Nat × Nat)} {k d : Nat} {T : Ct} (hy : plainName y.cls = true) (hlen : ∀ as M P, T as M P → (elo as).length ≤ nl)
    (body : ∀ (x : Xc) (as : List AV) (M : Mm) (P : Option AV → Mm → Prop), T as M P → Cx x l b y.cls nl d → Hx x ret P hh k → J x 0 (pad nl (elo as)) [] M) : MetH l y b nl ret hh k d T := by
  intro D ad cA sz as M P hT
  have key : vx_Met l y (.codeWith y b nl ret hh :: gT) (rmx k d) (va_Pc (as.map (cv ad)) (PcX D ad cA sz M)) (Qcx D ad cA (va_A (wl ad cA M) sz) P) (fun _ _ _ => False) k (6 * k) (va_A (wl ad cA M) sz) := by
    refine vx_ofWH (cc := b) (maxL := nl) (ret := ret) (hh := hh) hy rfl ?_
    intro p e s m args below meth c s₁ B hml hv
    obtain ⟨rfl, ⟨hsz, hP, hK, hD0, hN⟩, hSx⟩ := hv
    have hts := atoms_spec (ws := Cond.codeWith y b nl ret hh :: gT) B.pre
    have hET := vx_table (x := y) B (hts _ List.mem_cons_self)
    subst hsz
    have hbody := body (p, l, e, (headSpec (Cond.codeWith y b nl ret hh :: gT) (rmx k d)).room, s, m, _, below, meth, c, (0, 0), vx_MQ below (Qcx D ad cA (va_A (wl ad cA M) s.heap.size) P) (fun _ _ _ => False) _ s k (6 * k) (va_A (wl ad cA M) s.heap.size), D, ad, cA, va_A (wl ad cA M) s.heap.size, nl) as M P hT ⟨B.exec, B.bytes, hml, findClass_of_methodNamed B.named, fun w hw => hts w (List.mem_cons_of_mem _ hw), hK, fun M' => wl_D (hD0.self (sz := s.heap.size)) M', fun q h => Or.inr h, Nat.zero_le _, Nat.zero_le _, B.notSynchronized, rfl, rfl, ⟨Nat.le_refl _, Nat.le_refl _⟩, hN⟩ ⟨B.returns, rfl, ⟨rfl, rfl⟩, ⟨Nat.le_refl _, Nat.le_refl _⟩, hET, hSx⟩
    rw [lg_entry_eq]
    have hl := lv_entry (as.map (cv ad)) (n := nl) (by rw [elo_len]; exact hlen as M P hT)
    exact hbody s.heap [] _ hP va_S.rf ⟨hl.1, hl.2.1, fun i v h => hl.2.2 (i, cv ad v) (by have := elo_args ad as 0 i v (pad_at h); rwa [Nat.zero_add] at this)⟩
  intro p e h1 h2 h3 s m args below h4 h5 h6 h7
  obtain ⟨n, o, a1, a2, a3, a4⟩ := key p e h1 h2 h3 s m args below h4 h5 h6 h7
  rcases a4 with a4 | ⟨q, -, E, ce, L, hF, -⟩
  · exact ⟨n, o, a1, a2, a3, a4⟩
  · exact hF.elim
theorem Hx.rk {x : Xc} {ret : Option FieldType} {P : Option AV → Mm → Prop} {hh : List (Nat × Nat × Nat × Nat)} {k : Nat} (h : Hx x ret P hh k) : Rk x k := by
  obtain ⟨p, l, e, R, s, m, args, below, meth, c, ⟨cells, slots⟩, Q, D, ad, cA, A, nL⟩ := x
  obtain ⟨hr, hq, ⟨h1, h2⟩, hk, hET, hSx⟩ := h
  exact ⟨by omega, by omega⟩
theorem Hx.sx {x : Xc} {ret : Option FieldType} {P : Option AV → Mm → Prop} {hh : List (Nat × Nat × Nat × Nat)} {k : Nat} (h : Hx x ret P hh k) : SxO x := by
  obtain ⟨p, l, e, R, s, m, args, below, meth, c, ⟨cells, slots⟩, Q, D, ad, cA, A, nL⟩ := x
  exact h.2.2.2.2.2
theorem J_plainH {x : Xc} {l0 : Launch} {b : ByteArray} {own : String} {nl dd : Nat} {ret : Option FieldType} {P : Option AV → Mm → Prop} {hh : List (Nat × Nat × Nat × Nat)} {k : Nat} {pc : Nat} {lo : Lo} {st : List AV} {M : Mm} (C : Cx x l0 b own nl dd) (Y : Hx x ret P hh k) (h : ∀ x' : Xc, Cx x' l0 b own nl dd → Rx x' ret P → J x' pc lo st M) : J (xk x k) pc lo st M := by
  obtain ⟨p, l, e, R, s, m, args, below, meth, c, ⟨cells, slots⟩, Q, D, ad, cA, A, nL⟩ := x
  obtain ⟨hx, hb, hml, hown, hts, hK, hD, hA, hc1, hc2, hlk, hnl, hll, hrm, hN⟩ := C
  obtain ⟨hr, rfl, ⟨h1, h2⟩, ⟨hk1, hk2⟩, hET, hSx⟩ := Y
  intro H locs ls hP hS hl
  have := h (p, l, e, R, s, m, args, below, meth, c, (k, 6 * k), MQ below (Qcx D ad cA A P) args s k (6 * k) A, D, ad, cA, A, nL) ⟨hx, hb, hml, hown, hts, hK, hD, hA, hk1, hk2, hlk, hnl, hll, hrm, hN⟩ ⟨hr, rfl⟩ H locs ls hP hS hl
  exact vx_ret fun T hT X => this T hT (stand_widen X (by omega) (by omega))
/-- the search in a table of one row, whose class may not be linked yet: the row takes the object, and the link is noted -/
theorem hk_find {e : Env} {S : State} {f : JFrame} {q : Addr} {meth : Method} {cd : Code} {r : ExceptionTableEntry} {k : ClassId} {ce : Cell} (hm : S.vm.method? f.method = some meth) (hc : meth.code = some cd) (hT : cd.exceptionTable.toList = [r]) (hr : covers r f.pc = true) (h0 : r.catchType ≠ 0)
    (hk : S.vm.ClassLinks e.platform f.method.cls r.catchType k) (hq : S.heap[q]? = some ce) (hn : ∀ i, ce.vm ≠ .statics i) (h1 : ∃ z, S.vm.classes[ce.cls]? = some z) (h2 : ∃ z, S.vm.classes[k]? = some z) (hf : S.vm.assignable ce.cls k = true) (Q : Handler → Pre) (E : CtlPost) (d : Bool) (acts : List Action) :
    wp (findHandler f q) Q E e d acts S ↔ Q (.found r.handlerPc) d acts (S.setVm (S.vm.noted f.method.cls r.catchType (.cls k))) := by
  have same : S.vm.Alike (S.vm.noted f.method.cls r.catchType (.cls k)) := (Vm.Alike.refl S.vm).noted _ _ _
  obtain ⟨z1, h1⟩ := h1
  obtain ⟨z2, h2⟩ := h2
  obtain ⟨y1, g1, -⟩ := same.2.2 _ _ h1
  obtain ⟨y2, g2, -⟩ := same.2.2 _ _ h2
  have hf' := hf
  rw [← same.assignable] at hf'
  obtain ⟨r1, r2⟩ := (resolveClass_links e.toSetting hk).op (op := VmOp.resolveClass f.method.cls r.catchType) rfl
  unfold covers at hr
  rw [Jvm.W.findHandler_eq hm hc, hT]
  simp [findHandler.go, hr, h0, r1, r2, hq, hn, g1, g2, hf', VmOp.dirties, VmOp.acts]
/-- caught by the one row of the table, its class linked by now or not -/
theorem hk_catch {p : Program} {l : Launch} {e : Env} {R : Room} {s : State} {m : MethodId} {args : Array Value} {below : List Frame} {meth : Method} {c : Code} {H : Heap} {locs : List Loc} {cells slots : Nat} {Q : State → Prop} {ls : Array Slot} {rest : List Value} {pc : Nat} {own nm E : String} {ce : Cell} {q : Addr} {r : ExceptionTableEntry}
    (hown : s.vm.findClass own = some m.cls) (hT : c.exceptionTable.toList = [r]) (hr : covers r pc = true) (h0 : r.catchType ≠ 0) (hlink : (Cond.classLink own r.catchType nm).before args s = true) (hcast : (Cond.castable E nm).before args s = true) (hq : H[q]? = some ce) (hv : ce.vm = .none) (hcl : s.vm.findClass E = some ce.cls)
    (k : W p l e R s m args below meth c H locs cells slots Q (F0 m r.handlerPc ls [.ref q])) : vx_W p l e R s m args below meth c H locs cells slots Q (F0 m pc ls rest) q := by
  intro T hH X
  obtain ⟨i1, i2, f1, f2, hfit⟩ := Cond.castable_spec hcast
  obtain ⟨i3, f3, lk⟩ := Cond.classLink_spec hown hlink e.platform (by rw [X.admits.platform])
  cases Option.some.inj (f1.symm.trans hcl)
  cases Option.some.inj (f2.symm.trans f3)
  obtain ⟨dk, _, _, kt, hd, _, _, _, _, hkt, _, hopen⟩ := lk.here
  have hW : s.WarmedH (T.vm.noted m.cls r.catchType (.cls i2)) := X.warmed.noted hd hopen (State.rightAt_cls lk)
  obtain ⟨t, s1, s2⟩ := k (T.setVm (T.vm.noted m.cls r.catchType (.cls i2))) hH (X.noted hW)
  refine ⟨t, ?_, s2⟩
  have hat : At T (F0 m pc ls rest).method c below := X.here
  obtain ⟨go1, go2⟩ := hat.throwing q
  refine Steps.head go1 go2 ?_
  obtain ⟨z1, e1⟩ := Vm.classAt_of_findClass hcl
  obtain ⟨y1, g1, -⟩ := X.warmed.alike.2.2 _ _ e1
  obtain ⟨y2, g2, -⟩ := X.warmed.alike.2.2 _ _ hkt
  have fnd := hk_find (e := e) (S := (T.setTop (F0 m pc ls rest)).pushFrame (.throwing q)) (f := F0 m pc ls rest) (q := q) (meth := meth) (cd := c) (r := r) (k := i2) (ce := ce) X.method' X.code hT hr h0 (X.warmed.classLinks lk) (by rw [← hH] at hq; exact hq) (fun i h => by rw [hv] at h; cases h) ⟨y1, g1⟩ ⟨y2, g2⟩ (by show T.vm.assignable ce.cls i2 = true; rw [X.warmed.alike.assignable]; exact hfit)
  rw [stepThread_throwing (frames_entered hat.top _)]
  have hstep : (stepThrowing e ((T.setTop (F0 m pc ls rest)).pushFrame (.throwing q)) q (.java (F0 m pc ls rest) :: T.frames.tail)).1 = (T.setVm (T.vm.noted m.cls r.catchType (.cls i2))).setTop (F0 m r.handlerPc ls [.ref q]) := by
    obtain ⟨g0, hg0⟩ := Option.isSome_iff_exists.mp hat.top
    obtain ⟨fs, hfs⟩ := State.topJava?_eq_some.mp hg0
    have hfs' : (T.setVm (T.vm.noted m.cls r.catchType (.cls i2))).frames = .java g0 :: fs := hfs
    rw [State.setTop_of_frames _ hfs', hfs, List.tail_cons]
    simp only [stepThrowing, searchFrame, vmDo]
    generalize hres : Sem.go _ e false [] _ = res
    obtain ⟨as, rfl, -⟩ := Sem.eq_ok_of hres (a := Handler.found r.handlerPc) (s' := ((T.setTop (F0 m pc ls rest)).pushFrame (.throwing q)).setVm (T.vm.noted m.cls r.catchType (.cls i2))) (acts' := []) (by simp [fnd _ _ _ _]; rfl)
    rw [State.setTop_of_frames _ hfs, State.pushFrame]
    show (((T.setVm (T.vm.noted m.cls r.catchType (.cls i2))).setFrames _).setFrames _).setFrames _ = _
    rw [State.setFrames_setFrames, State.setFrames_setFrames]
  rw [hstep]
  exact s1
/-- caught by the one row of the table, put away, all locals forgotten -/
theorem JX_catch {x : Xc} {l0 : Launch} {b : ByteArray} {own E : String} {nl dd : Nat} {ret : Option FieldType} {P : Option AV → Mm → Prop} {a0 e0 h0 ct k i : Nat} {pc : Nat} {lo : Lo} {st : List AV} {M : Mm} (C : Cx x l0 b own nl dd) (Y : Hx x ret P [(a0, e0, h0, ct)] k) (hcov : covers ⟨a0, e0, h0, ct⟩ pc = true) (hct : ct ≠ 0) (hlink : Cond.classLink own ct E ∈ gT) (hE : Cond.castable E E ∈ fW) (hd : decode b h0 = .ok (.astore i, 2)) (hi : i < nl) (h : ∀ x' : Xc, Cx x' l0 b own nl dd → Rx x' ret P → J x' (h0 + 2) [] [] M) : JX (xk x k) E pc lo st M := by
  obtain ⟨p, l, e, R, s, m, args, below, meth, c, ⟨cells, slots⟩, Q, D, ad, cA, A, nL⟩ := x
  obtain ⟨hx, hb, hml, hown, hts, hK, hD, hA, hc1, hc2, hlk, hnl, hll, hrm, hN⟩ := C
  obtain ⟨hr, rfl, ⟨h1, h2⟩, ⟨hk1, hk2⟩, hET, hSx⟩ := Y
  intro H locs ls q ce hP hS hl hce hcv hcl
  refine hk_catch (r := ⟨a0, e0, h0, ct⟩) hown hET hcov hct (hts _ hlink) (face_go hE (hSx.2.2.2 _ hE) (Vm.Alike.refl s.vm)) hce hcv hcl ?_
  refine lv_astore hx hb hd (lvF_has hl) (by omega) rfl (fun ls' hl' => ?_)
  have := h (p, l, e, R, s, m, args, below, meth, c, (k, 6 * k), MQ below (Qcx D ad cA A P) args s k (6 * k) A, D, ad, cA, A, nL) ⟨hx, hb, hml, hown, hts, hK, hD, hA, hk1, hk2, hlk, hnl, hll, hrm, hN⟩ ⟨hr, rfl⟩ H locs ls' hP hS ⟨hl'.1, hl'.2.1, fun i v h => by simp at h⟩
  exact vx_ret fun T hT X => this T hT (stand_widen X (by omega) (by omega))
theorem lx_13 : Cond.classLink RL 13 "java/lang/IndexOutOfBoundsException" ∈ gT := gT_of 683 (by decide +kernel) rfl
theorem lx_19 : Cond.classLink RL 19 "java/util/NoSuchElementException" ∈ gT := gT_of 758 (by decide +kernel) rfl
def T_L_number : Ct := fun as M P => match as with
  | [.inr (some (g, s)), .inl (.inl a), .inl (.inl i), .inr (some (g2, s2))] => g = 10 ∧ s = 0 ∧ g2 = 55 ∧ s2 = 0 ∧ iR a ∧ iR i ∧ SI M ∧ (((0 ≤ a ∧ a < 8) ∧ 0 ≤ i ∧ i < M 8 a.toNat 1) → P (some (zi 0)) (stm M 55 0 0 (M 27 a.toNat i.toNat))) ∧ (¬ ((0 ≤ a ∧ a < 8) ∧ 0 ≤ i ∧ i < M 8 a.toNat 1) → P (some (zi 1)) M)
  | _ => False
theorem k_L_number (l : Launch) (hl : l.stackTraces = false) : MetH l yL_number cL_number 5 (some .int) [(0, 10, 13, 13)] 1 8 T_L_number := by
  refine MetH.of (by decide +kernel) (fun as M P h => by unfold T_L_number at h; split at h <;> first | (simp [elo]; done) | exact h.elim) (fun x as M P h C Y => ?_)
  unfold T_L_number at h
  split at h
  rotate_left
  · exact h.elim
  rename_i g s a i g2 s2
  obtain ⟨rfl, rfl, rfl, rfl, ha, hi, hI, h1, h2⟩ := h
  refine B_L_number_0 C _ _ _ ?_
  simp only [c_iadd, c_isub, c_imul, c_ladd, c_lsub, c_lmul, c_ineg, c_lneg, c_ic, c_lc, c_iload, c_lload, c_aload, c_istore, c_astore, c_lstore, c_iinc, c_dup, c_dup2, c_goto, c_i2l, c_l2i, c_idiv, c_ldiv, c_lrem, c_lshl, c_gi, c_gl, c_gr, c_pi, c_pz, c_pl, c_iald, c_lald, c_bald, c_aald, c_iast, c_last, c_bast, c_callV, c_callS, c_mmax, c_mmin, c_mabs, c_mmaxl, c_mabsl, c_iret, c_zret, c_lret, c_vret, c_tsw, c_lsw, c_icmp_eq, c_icmp_ne, c_icmp_lt, c_icmp_ge, c_icmp_gt, c_icmp_le, c_if_eq, c_if_ne, c_if_lt, c_if_ge, c_if_gt, c_if_le, c_lcmp_eq, c_lcmp_ne, c_lcmp_lt, c_lcmp_ge, c_lcmp_gt, c_lcmp_le, c_lraw_eq, c_lraw_lt, c_lraw_ge, c_lraw_gt, c_lraw_le, acat, scat, tswP, pops, st1, st2, klo, pad, elo, List.getElem?_cons_zero, List.getElem?_cons_succ, List.getElem?_nil, List.set_cons_zero, List.set_cons_succ, List.set_nil, Option.toList_some, Option.toList_none, List.cons_append, List.nil_append, List.length_cons, List.length_nil, stc_ap, stm_ap, false_and, and_false, and_self, true_and, and_true, Nat.reduceEqDiff, reduceIte, al_12, al_13, al_14, al_15, al_16, al_17, al_18, al_19, al_20, al_21, al_22, al_23, al_24, al_25, al_26, al_27, al_28, al_29, al_30, al_31, al_32, al_33, al_34, al_35, al_36, al_37, al_38, al_39, al_40, al_41, al_42, al_43, al_44, al_45, al_46, al_47, al_48, al_49, al_50, al_51, al_52, al_53, al_54, al_55, at_12, at_13, at_14, at_15, at_16, at_17, at_18, at_19, at_20, at_21, at_22, at_23, at_24, at_25, at_26, at_27, at_28, at_29, at_30, at_31, at_32, at_33, at_34, at_35, at_36, at_37, at_38, at_39, at_40, at_41, at_42, at_43, at_44, at_45, at_46, at_47, at_48, at_49, at_50, at_51, at_52, at_53, at_54, at_55, cn_0, cn_1, cn_2, cn_3, cn_4, cn_5, cn_6, cn_7, cn_8, cn_9, cn_10, cn_11, cn_12, cn_13, cn_14, cn_15, cn_16, cn_17, cn_18, cn_19, cn_20, cn_21, cn_22, cn_23, cn_24, cn_25, cn_26, cn_27, cn_28, cn_29, cn_30, cn_31, cn_32, cn_33, cn_34, cn_35, cn_36, cn_37, cn_38, cn_39, cn_40, cn_41, cn_42, cn_43, cn_44, cn_45, cn_46, cn_47, cn_48, cn_49, cn_50, cn_51, cn_52, cn_53, cn_54, cn_55, Nat.reduceAdd, Nat.reduceLT, Nat.reduceLeDiff, Nat.lt_add_one, Nat.zero_lt_succ, Nat.reduceSub, ite_true, ite_false, reduceCtorEq, forall_const, Nat.reduceSucc, Nat.zero_add, Nat.add_zero, Nat.le_refl, Nat.zero_le, Nat.reducePow, Int.reduceNeg, Nat.reduceMul, eq_self, Int.cast_ofNat_Int, Int.toNat_natCast, iR, lR, Int.reduceEq, Int.reduceLT, Int.reduceLE, Int.reduceNe, not_false_eq_true, not_true_eq_false, false_implies, true_implies, Int.reduceAdd, Int.reduceSub, Int.reduceMul, Int.reduceToNat, implies_true, or_true, true_or, or_false, false_or]
  refine J_callX (as := [zi a, zi i]) (r' := [zi 0, zr 55 0]) C Y.sx Y.rk (decs_at tb_L_number 5 rfl) (k_X10_number l hl) (by decide) ⟨_, _, rfl⟩ cle_X10_number ml_X10_number_7 im_X10_number sel_X10_number (by decide) rfl (by decide) (by decide) ⟨rfl, rfl, ha, hi, hI, fun q => ?_, fun q => JX_catch C Y (by decide) (by decide) lx_13 (by decide) (decs_at tb_L_number 9 rfl) (by decide) (fun x' C' hR => B_L_number_15 C' hR _ _ _ ?_)⟩
  · refine J_plainH C Y (fun x' C' hR => B_L_number_8 C' hR _ _ _ ?_)
    simp only [c_iadd, c_isub, c_imul, c_ladd, c_lsub, c_lmul, c_ineg, c_lneg, c_ic, c_lc, c_iload, c_lload, c_aload, c_istore, c_astore, c_lstore, c_iinc, c_dup, c_dup2, c_goto, c_i2l, c_l2i, c_idiv, c_ldiv, c_lrem, c_lshl, c_gi, c_gl, c_gr, c_pi, c_pz, c_pl, c_iald, c_lald, c_bald, c_aald, c_iast, c_last, c_bast, c_callV, c_callS, c_mmax, c_mmin, c_mabs, c_mmaxl, c_mabsl, c_iret, c_zret, c_lret, c_vret, c_tsw, c_lsw, c_icmp_eq, c_icmp_ne, c_icmp_lt, c_icmp_ge, c_icmp_gt, c_icmp_le, c_if_eq, c_if_ne, c_if_lt, c_if_ge, c_if_gt, c_if_le, c_lcmp_eq, c_lcmp_ne, c_lcmp_lt, c_lcmp_ge, c_lcmp_gt, c_lcmp_le, c_lraw_eq, c_lraw_lt, c_lraw_ge, c_lraw_gt, c_lraw_le, acat, scat, tswP, pops, st1, st2, klo, pad, elo, List.getElem?_cons_zero, List.getElem?_cons_succ, List.getElem?_nil, List.set_cons_zero, List.set_cons_succ, List.set_nil, Option.toList_some, Option.toList_none, List.cons_append, List.nil_append, List.length_cons, List.length_nil, stc_ap, stm_ap, false_and, and_false, and_self, true_and, and_true, Nat.reduceEqDiff, reduceIte, al_12, al_13, al_14, al_15, al_16, al_17, al_18, al_19, al_20, al_21, al_22, al_23, al_24, al_25, al_26, al_27, al_28, al_29, al_30, al_31, al_32, al_33, al_34, al_35, al_36, al_37, al_38, al_39, al_40, al_41, al_42, al_43, al_44, al_45, al_46, al_47, al_48, al_49, al_50, al_51, al_52, al_53, al_54, al_55, at_12, at_13, at_14, at_15, at_16, at_17, at_18, at_19, at_20, at_21, at_22, at_23, at_24, at_25, at_26, at_27, at_28, at_29, at_30, at_31, at_32, at_33, at_34, at_35, at_36, at_37, at_38, at_39, at_40, at_41, at_42, at_43, at_44, at_45, at_46, at_47, at_48, at_49, at_50, at_51, at_52, at_53, at_54, at_55, cn_0, cn_1, cn_2, cn_3, cn_4, cn_5, cn_6, cn_7, cn_8, cn_9, cn_10, cn_11, cn_12, cn_13, cn_14, cn_15, cn_16, cn_17, cn_18, cn_19, cn_20, cn_21, cn_22, cn_23, cn_24, cn_25, cn_26, cn_27, cn_28, cn_29, cn_30, cn_31, cn_32, cn_33, cn_34, cn_35, cn_36, cn_37, cn_38, cn_39, cn_40, cn_41, cn_42, cn_43, cn_44, cn_45, cn_46, cn_47, cn_48, cn_49, cn_50, cn_51, cn_52, cn_53, cn_54, cn_55, Nat.reduceAdd, Nat.reduceLT, Nat.reduceLeDiff, Nat.lt_add_one, Nat.zero_lt_succ, Nat.reduceSub, ite_true, ite_false, reduceCtorEq, forall_const, Nat.reduceSucc, Nat.zero_add, Nat.add_zero, Nat.le_refl, Nat.zero_le, Nat.reducePow, Int.reduceNeg, Nat.reduceMul, eq_self, Int.cast_ofNat_Int, Int.toNat_natCast, iR, lR, Int.reduceEq, Int.reduceLT, Int.reduceLE, Int.reduceNe, not_false_eq_true, not_true_eq_false, false_implies, true_implies, Int.reduceAdd, Int.reduceSub, Int.reduceMul, Int.reduceToNat, implies_true, or_true, true_or, or_false, false_or]
    have := (hI a.toNat (by omega)).2 i.toNat (by omega)
    exact ⟨by omega, h1 q⟩
  · simp only [c_iadd, c_isub, c_imul, c_ladd, c_lsub, c_lmul, c_ineg, c_lneg, c_ic, c_lc, c_iload, c_lload, c_aload, c_istore, c_astore, c_lstore, c_iinc, c_dup, c_dup2, c_goto, c_i2l, c_l2i, c_idiv, c_ldiv, c_lrem, c_lshl, c_gi, c_gl, c_gr, c_pi, c_pz, c_pl, c_iald, c_lald, c_bald, c_aald, c_iast, c_last, c_bast, c_callV, c_callS, c_mmax, c_mmin, c_mabs, c_mmaxl, c_mabsl, c_iret, c_zret, c_lret, c_vret, c_tsw, c_lsw, c_icmp_eq, c_icmp_ne, c_icmp_lt, c_icmp_ge, c_icmp_gt, c_icmp_le, c_if_eq, c_if_ne, c_if_lt, c_if_ge, c_if_gt, c_if_le, c_lcmp_eq, c_lcmp_ne, c_lcmp_lt, c_lcmp_ge, c_lcmp_gt, c_lcmp_le, c_lraw_eq, c_lraw_lt, c_lraw_ge, c_lraw_gt, c_lraw_le, acat, scat, tswP, pops, st1, st2, klo, pad, elo, List.getElem?_cons_zero, List.getElem?_cons_succ, List.getElem?_nil, List.set_cons_zero, List.set_cons_succ, List.set_nil, Option.toList_some, Option.toList_none, List.cons_append, List.nil_append, List.length_cons, List.length_nil, stc_ap, stm_ap, false_and, and_false, and_self, true_and, and_true, Nat.reduceEqDiff, reduceIte, al_12, al_13, al_14, al_15, al_16, al_17, al_18, al_19, al_20, al_21, al_22, al_23, al_24, al_25, al_26, al_27, al_28, al_29, al_30, al_31, al_32, al_33, al_34, al_35, al_36, al_37, al_38, al_39, al_40, al_41, al_42, al_43, al_44, al_45, al_46, al_47, al_48, al_49, al_50, al_51, al_52, al_53, al_54, al_55, at_12, at_13, at_14, at_15, at_16, at_17, at_18, at_19, at_20, at_21, at_22, at_23, at_24, at_25, at_26, at_27, at_28, at_29, at_30, at_31, at_32, at_33, at_34, at_35, at_36, at_37, at_38, at_39, at_40, at_41, at_42, at_43, at_44, at_45, at_46, at_47, at_48, at_49, at_50, at_51, at_52, at_53, at_54, at_55, cn_0, cn_1, cn_2, cn_3, cn_4, cn_5, cn_6, cn_7, cn_8, cn_9, cn_10, cn_11, cn_12, cn_13, cn_14, cn_15, cn_16, cn_17, cn_18, cn_19, cn_20, cn_21, cn_22, cn_23, cn_24, cn_25, cn_26, cn_27, cn_28, cn_29, cn_30, cn_31, cn_32, cn_33, cn_34, cn_35, cn_36, cn_37, cn_38, cn_39, cn_40, cn_41, cn_42, cn_43, cn_44, cn_45, cn_46, cn_47, cn_48, cn_49, cn_50, cn_51, cn_52, cn_53, cn_54, cn_55, Nat.reduceAdd, Nat.reduceLT, Nat.reduceLeDiff, Nat.lt_add_one, Nat.zero_lt_succ, Nat.reduceSub, ite_true, ite_false, reduceCtorEq, forall_const, Nat.reduceSucc, Nat.zero_add, Nat.add_zero, Nat.le_refl, Nat.zero_le, Nat.reducePow, Int.reduceNeg, Nat.reduceMul, eq_self, Int.cast_ofNat_Int, Int.toNat_natCast, iR, lR, Int.reduceEq, Int.reduceLT, Int.reduceLE, Int.reduceNe, not_false_eq_true, not_true_eq_false, false_implies, true_implies, Int.reduceAdd, Int.reduceSub, Int.reduceMul, Int.reduceToNat, implies_true, or_true, true_or, or_false, false_or]
    exact h2 q
