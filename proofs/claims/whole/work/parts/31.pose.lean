/-! CloudBench$Question.pose -/
def T_X5_pose : Ct := fun as M P => match as with
  | [.inr (some (g, s)), .inl (.inl t), .inr (some (ga, a)), .inr (some (gb, b))] => g = 5 ∧ s = 0 ∧ (0 ≤ t ∧ t ≤ 5) ∧ (t = 0 → T_X5_poseSums [zr 5 0, zr ga a, zr gb b] (stm M 5 0 5 t) P) ∧ (t = 1 → T_X5_poseRanks [zr 5 0, zr ga a, zr gb b] (stm M 5 0 5 t) P) ∧ (t = 2 → T_X5_poseMost [zr 5 0, zr ga a, zr gb b] (stm M 5 0 5 t) P) ∧ (t = 3 → T_X5_poseSigns [zr 5 0, zr ga a, zr gb b] (stm M 5 0 5 t) P) ∧ (t = 4 → T_X5_poseTurns [zr 5 0, zr ga a, zr gb b] (stm M 5 0 5 t) P) ∧ (t = 5 → T_X5_poseOrder [zr 5 0, zr ga a, zr gb b] (stm M 5 0 5 t) P)
  | _ => False
theorem k_X5_pose (l : Launch) : MetT l yX5_pose cX5_pose 4 none 4 T_X5_pose := by
  refine MetT.of (by decide +kernel) (fun as M P h => by unfold T_X5_pose at h; split at h <;> first | (simp [elo]; done) | exact h.elim) (fun x as M P h C hR => ?_)
  unfold T_X5_pose at h
  split at h
  rotate_left
  · exact h.elim
  rename_i g s t ga a gb b
  obtain ⟨rfl, rfl, ht, h0, h1, h2, h3, h4, h5⟩ := h
  refine B_X5_pose_0 C hR (k_X5_poseSums l) (by decide) (k_X5_poseRanks l) (by decide) (k_X5_poseMost l) (by decide) (k_X5_poseSigns l) (by decide) (k_X5_poseTurns l) (by decide) (k_X5_poseOrder l) (by decide) _ _ _ ?_
  simp only [T_X5_poseSums, T_X5_poseRanks, T_X5_poseMost, T_X5_poseSigns, T_X5_poseTurns, T_X5_poseOrder, true_and] at h0 h1 h2 h3 h4 h5
  simp only [c_aload, c_iload, c_pi, c_tsw, tswP, c_callV, c_goto, c_vret, pops, scat, acat, pad, elo, List.getElem?_cons_zero, List.getElem?_cons_succ, List.length_cons, List.length_nil, Option.toList_none, List.nil_append, T_X5_poseSums, T_X5_poseRanks, T_X5_poseMost, T_X5_poseSigns, T_X5_poseTurns, T_X5_poseOrder, true_and, and_true, cn_5, Nat.lt_add_one, Int.reduceAdd, Nat.zero_le, Nat.zero_add, Nat.reduceAdd, Int.cast_ofNat_Int, Nat.reduceLeDiff]
  exact ⟨⟨by omega, by omega⟩, ⟨h0, h1, h2, h3, h4⟩, fun e => h5 (by omega)⟩
