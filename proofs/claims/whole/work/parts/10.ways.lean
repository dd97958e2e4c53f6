/-! the contracts of CloudBench$Ways -/
def T_X9_startOfSums : Ct := fun as M P => match as with
  | [.inl (.inl k)] => (0 ≤ k ∧ k ≤ 21) ∧ P (some (zi (1000 * (k * (k - 1) / 2) + k))) M
  | _ => False
theorem k_X9_startOfSums (l : Launch) : MetT l yX9_startOfSums cX9_startOfSums 1 (some .int) 0 T_X9_startOfSums := by
  refine MetT.of (by decide +kernel) (fun as M P h => ?_) (fun x as M P h C hR => ?_)
  · unfold T_X9_startOfSums at h
    split at h
    · simp [elo]
    · exact h.elim
  · unfold T_X9_startOfSums at h
    split at h
    · rename_i k
      refine B_X9_startOfSums_0 C hR _ _ _ ?_
      simp only [c_iadd, c_isub, c_imul, c_ladd, c_lsub, c_lmul, c_ineg, c_lneg, c_ic, c_lc, c_iload, c_lload, c_aload, c_istore, c_astore, c_lstore, c_iinc, c_dup, c_dup2, c_goto, c_i2l, c_l2i, c_idiv, c_ldiv, c_lrem, c_lshl, c_gi, c_gl, c_gr, c_pi, c_pz, c_pl, c_iald, c_lald, c_bald, c_aald, c_iast, c_last, c_bast, c_callV, c_callS, c_iret, c_zret, c_lret, c_vret, c_tsw, c_lsw, c_icmp_eq, c_icmp_ne, c_icmp_lt, c_icmp_ge, c_icmp_gt, c_icmp_le, c_if_eq, c_if_ne, c_if_lt, c_if_ge, c_if_gt, c_if_le, c_lcmp_eq, c_lcmp_ne, c_lcmp_lt, c_lcmp_ge, c_lcmp_gt, c_lcmp_le, c_lraw_eq, c_lraw_lt, c_lraw_ge, c_lraw_gt, c_lraw_le, tswP, pops, st1, st2, klo, pad, elo, List.getElem?_cons_zero, List.getElem?_cons_succ, List.getElem?_nil, List.set_cons_zero, List.set_cons_succ, List.set_nil, Option.toList_some, Option.toList_none, List.cons_append, List.nil_append, List.length_cons, List.length_nil, aty, alen, cnt, true_and, and_true, Nat.reduceAdd, Nat.reduceEqDiff, Nat.reduceLT, Nat.reduceLeDiff, reduceIte, OfNat.ofNat_ne_zero, Nat.lt_add_one, Nat.zero_lt_succ, Nat.reduceSub, ite_true, ite_false, reduceCtorEq, forall_const, Nat.reduceSucc, Nat.zero_add, Nat.add_zero, Nat.le_refl, Nat.zero_le, Nat.reducePow, Int.reduceNeg, Nat.reduceMul, eq_self]
      sorry
    · exact h.elim
def T_X9_of : Ct := fun as M P => match as with
  | [.inr (some (g, s)), .inl (.inl k)] => g = 9 ∧ s = 0 ∧ iR k ∧ iR (M 9 0 3) ∧ iR (M 9 0 4) ∧ (M 9 0 3 ≤ k → k ≤ M 9 0 4 → 0 ≤ M 9 0 2 + k ∧ M 9 0 2 + k < 210021) ∧ P (some (zl (if M 9 0 3 ≤ k ∧ k ≤ M 9 0 4 then M 28 0 (M 9 0 2 + k).toNat else 0))) M
  | _ => False
theorem k_X9_of (l : Launch) : MetT l yX9_of cX9_of 2 (some .long) 0 T_X9_of := by
  refine MetT.of (by decide +kernel) (fun as M P h => ?_) (fun x as M P h C hR => ?_)
  · unfold T_X9_of at h
    split at h
    · simp [elo]
    · exact h.elim
  · unfold T_X9_of at h
    split at h
    · rename_i g s k
      obtain ⟨rfl, rfl, hk, h3, h4, hi, hP⟩ := h
      refine B_X9_of_0 C hR _ _ _ ?_
      simp only [c_iadd, c_isub, c_imul, c_ladd, c_lsub, c_lmul, c_ineg, c_lneg, c_ic, c_lc, c_iload, c_lload, c_aload, c_istore, c_astore, c_lstore, c_iinc, c_dup, c_dup2, c_goto, c_i2l, c_l2i, c_idiv, c_ldiv, c_lrem, c_lshl, c_gi, c_gl, c_gr, c_pi, c_pz, c_pl, c_iald, c_lald, c_bald, c_aald, c_iast, c_last, c_bast, c_callV, c_callS, c_iret, c_zret, c_lret, c_vret, c_tsw, c_lsw, c_icmp_eq, c_icmp_ne, c_icmp_lt, c_icmp_ge, c_icmp_gt, c_icmp_le, c_if_eq, c_if_ne, c_if_lt, c_if_ge, c_if_gt, c_if_le, c_lcmp_eq, c_lcmp_ne, c_lcmp_lt, c_lcmp_ge, c_lcmp_gt, c_lcmp_le, c_lraw_eq, c_lraw_lt, c_lraw_ge, c_lraw_gt, c_lraw_le, tswP, pops, st1, st2, klo, pad, elo, List.getElem?_cons_zero, List.getElem?_cons_succ, List.getElem?_nil, List.set_cons_zero, List.set_cons_succ, List.set_nil, Option.toList_some, Option.toList_none, List.cons_append, List.nil_append, List.length_cons, List.length_nil, aty, alen, cnt, true_and, and_true, Nat.reduceAdd, Nat.reduceEqDiff, Nat.reduceLT, Nat.reduceLeDiff, reduceIte, OfNat.ofNat_ne_zero, Nat.lt_add_one, Nat.zero_lt_succ, Nat.reduceSub, ite_true, ite_false, reduceCtorEq, forall_const, Nat.reduceSucc, Nat.zero_add, Nat.add_zero, Nat.le_refl, Nat.zero_le, Nat.reducePow, Int.reduceNeg, Nat.reduceMul, eq_self]
      sorry
    · exact h.elim
