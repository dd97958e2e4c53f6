/-! the start: what the tables say, the world once both are made -/
theorem ins_0 : Cond.instantiable RX0 1 ∈ gT := gT_of 94 (by decide +kernel) rfl
theorem ins_1 : Cond.instantiable RX1 13 ∈ gT := gT_of 243 (by decide +kernel) rfl
theorem ins_2 : Cond.instantiable RX2 3 ∈ gT := gT_of 184 (by decide +kernel) rfl
theorem ins_3 : Cond.instantiable RX3 4 ∈ gT := gT_of 71 (by decide +kernel) rfl
theorem ins_4 : Cond.instantiable RX4 2 ∈ gT := gT_of 54 (by decide +kernel) rfl
theorem ins_5 : Cond.instantiable RX5 14 ∈ gT := gT_of 133 (by decide +kernel) rfl
theorem ins_6 : Cond.instantiable RX6 9 ∈ gT := gT_of 204 (by decide +kernel) rfl
theorem ins_7 : Cond.instantiable RX7 4 ∈ gT := gT_of 289 (by decide +kernel) rfl
theorem ins_8 : Cond.instantiable RX8 2 ∈ gT := gT_of 30 (by decide +kernel) rfl
theorem ins_9 : Cond.instantiable RX9 5 ∈ gT := gT_of 105 (by decide +kernel) rfl
theorem ins_10 : Cond.instantiable RX10 8 ∈ gT := gT_of 21 (by decide +kernel) rfl
theorem ins_11 : Cond.instantiable RX11 38 ∈ gT := gT_of 814 (by decide +kernel) rfl
theorem K_start {s : State} {args : Array Value} (hts : ∀ w ∈ gT, w.before args s = true) (hO : va_AO RX8 s) : ∃ (D : va_G) (cA : Nat → ClassId), va_K D cls12 (tysA cA) s := by
  have key : ∀ k : Nat, ∃ p : ClassId × (Nat → Nat), ∀ q : vw_C, cls12[k]? = some q → u_Kn s q.1 q.2.1 q.2.2 p.1 p.2 := by
    intro k
    match k with
    | 0 =>
      obtain ⟨c, i, h⟩ := u_known (C := RX0) (T := TX0) (N := 1) (n := 1) hts lays_0 (hts _ ins_0)
      exact ⟨(c, i), fun q hq => by cases hq; exact h⟩
    | 1 =>
      obtain ⟨c, i, h⟩ := u_known (C := RX1) (T := TX1) (N := 13) (n := 13) hts lays_1 (hts _ ins_1)
      exact ⟨(c, i), fun q hq => by cases hq; exact h⟩
    | 2 =>
      obtain ⟨c, i, h⟩ := u_known (C := RX2) (T := TX2) (N := 3) (n := 3) hts lays_2 (hts _ ins_2)
      exact ⟨(c, i), fun q hq => by cases hq; exact h⟩
    | 3 =>
      obtain ⟨c, i, h⟩ := u_known (C := RX3) (T := TX3) (N := 4) (n := 4) hts lays_3 (hts _ ins_3)
      exact ⟨(c, i), fun q hq => by cases hq; exact h⟩
    | 4 =>
      obtain ⟨c, i, h⟩ := u_known (C := RX4) (T := TX4) (N := 2) (n := 2) hts lays_4 (hts _ ins_4)
      exact ⟨(c, i), fun q hq => by cases hq; exact h⟩
    | 5 =>
      obtain ⟨c, i, h⟩ := u_known (C := RX5) (T := TX5) (N := 14) (n := 14) hts lays_5 (hts _ ins_5)
      exact ⟨(c, i), fun q hq => by cases hq; exact h⟩
    | 6 =>
      obtain ⟨c, i, h⟩ := u_known (C := RX6) (T := TX6) (N := 9) (n := 9) hts lays_6 (hts _ ins_6)
      exact ⟨(c, i), fun q hq => by cases hq; exact h⟩
    | 7 =>
      obtain ⟨c, i, h⟩ := u_known (C := RX7) (T := TX7) (N := 4) (n := 4) hts lays_7 (hts _ ins_7)
      exact ⟨(c, i), fun q hq => by cases hq; exact h⟩
    | 8 =>
      obtain ⟨c, i, h⟩ := u_known (C := RX8) (T := TX8) (N := 2) (n := 2) hts lays_8 (hts _ ins_8)
      exact ⟨(c, i), fun q hq => by cases hq; exact h⟩
    | 9 =>
      obtain ⟨c, i, h⟩ := u_known (C := RX9) (T := TX9) (N := 5) (n := 5) hts lays_9 (hts _ ins_9)
      exact ⟨(c, i), fun q hq => by cases hq; exact h⟩
    | 10 =>
      obtain ⟨c, i, h⟩ := u_known (C := RX10) (T := TX10) (N := 8) (n := 8) hts lays_10 (hts _ ins_10)
      exact ⟨(c, i), fun q hq => by cases hq; exact h⟩
    | 11 =>
      obtain ⟨c, i, h⟩ := u_known (C := RX11) (T := TX11) (N := 38) (n := 38) hts lays_11 (hts _ ins_11)
      exact ⟨(c, i), fun q hq => by cases hq; exact h⟩
    | k + 12 => exact ⟨(0, fun _ => 0), fun q hq => by simp [cls12] at hq⟩
  obtain ⟨f, hf⟩ := Classical.axiomOfChoice key
  obtain ⟨a0, k0, m0, p1, p2, p3⟩ := Cond.arrayClass_spec (hts _ arc_int)
  obtain ⟨a1, k1, m1, q1, q2, q3⟩ := Cond.arrayClass_spec (hts _ arc_long)
  obtain ⟨a2, k2, m2, r1, r2, r3⟩ := Cond.arrayClass_spec (hts _ arc_boolean)
  obtain ⟨m3, a3, k3, t1, -, t2, t3, t4⟩ := Cond.arrayOver_spec hO
  refine ⟨(fun k => (f k).1, fun k => (f k).2), fun t => match t with
    | 0 => a0
    | 1 => a1
    | 2 => a2
    | _ => a3, fun k q hq => hf k q hq, fun k q hq => ?_⟩
  match k, hq with
  | 0, hq => cases hq; exact ⟨fun n z => ⟨fun k h => (by cases h), k0, p2, m0, p3⟩, p1⟩
  | 1, hq => cases hq; exact ⟨fun n z => ⟨fun k h => (by cases h), k1, q2, m1, q3⟩, q1⟩
  | 2, hq => cases hq; exact ⟨fun n z => ⟨fun k h => (by cases h), k2, r2, m2, r3⟩, r1⟩
  | 3, hq => cases hq; exact ⟨fun n z => ⟨fun k h => (by cases h), k3, t2, m3, t3⟩, k3, m3, t2, t3, t1, t4⟩
  | k + 4, hq => simp [tysA] at hq
theorem tb_of {w : Cond} (i : Nat) (h : tables_1[i]? = some w) : w ∈ lw_tbl := List.mem_append_right _ (List.mem_of_getElem? h)
theorem Sx_start {s : State} {args : Array Value} {A : Nat → Prop} (hts : ∀ w ∈ lw_tbl, w.before args s = true) (hg : (Jvm.Cond.and given_1 narrow_1).before args s = true) (hA : ∀ a : Nat, a < s.heap.size → ¬ A a) : Sx A s := by
  have hs := flat_of_before _ hg
  refine ⟨fun z hz => ?_, ?_, ?_, fun w hw => ?_⟩
  · have e : ∀ (i : Nat) (t : String) (k : Nat), tables_1[k]? = some (Cond.stringRef RX10 i t) → (Cond.exactly (Term.string RX10 i) "java/lang/String").before args s = true → ∃ a, vk_R RX10 i t a s := fun i t k h1 h2 => by
      obtain ⟨a, c, cell, k, q1, -⟩ := Cond.exactly_spec h2
      exact ⟨a, vk_R.of (hts _ (tb_of _ h1)) q1⟩
    simp only [txt3, List.mem_cons, List.not_mem_nil, or_false] at hz
    rcases hz with rfl | rfl | rfl
    · exact e _ _ 728 (by decide +kernel) (hs _ (by decide +kernel))
    · exact e _ _ 776 (by decide +kernel) (hs _ (by decide +kernel))
    · exact e _ _ 797 (by decide +kernel) (hs _ (by decide +kernel))
  · exact vx_Zqof (hts _ (tb_of 715 (by decide +kernel))) (hts _ (tb_of 13 (by decide +kernel))) (hs _ (by decide +kernel)) hA
  · exact vx_Zqof (hts _ (tb_of 717 (by decide +kernel))) (hts _ (tb_of 13 (by decide +kernel))) (hs _ (by decide +kernel)) hA
  · refine va_Nw.of (fW_ok w hw).2 (hts w ?_)
    simp only [fW, List.mem_cons, List.not_mem_nil, or_false] at hw
    rcases hw with rfl | rfl | rfl | rfl | rfl
    · exact tb_of 690 (by decide +kernel)
    · exact tb_of 769 (by decide +kernel)
    · exact tb_of 692 (by decide +kernel)
    · exact tb_of 694 (by decide +kernel)
    · exact tb_of 696 (by decide +kernel)
/-! both are made: the growing world is the whole one -/
def Rf (M : Mm) : Prop := (∀ g : Nat, g < 12 → ∀ s : Nat, s < cnt g → ∀ k : Nat, k < (fkl g).length → 3 ≤ (fkl g).getD k 0 → M g s k = 1) ∧ ∀ s : Nat, s < 8 → M 30 0 s = 1
theorem obP_eq {M : Mm} (h : Rf M) (ad : Nat → Nat → Nat) {g s : Nat} (hg : g < 12) (hs : s < cnt g) : obP ad g s (M g s) = obf ad g s (M g s) := by
  unfold obP obf
  refine List.map_congr_left fun k hk => ?_
  have hk := List.mem_range.mp hk
  have h1 := h.1 g hg s hs k hk
  generalize (fkl g).getD k 0 = t at h1 ⊢
  match t, h1 with
  | 0, _ => rfl
  | 1, _ => rfl
  | 2, _ => rfl
  | t + 3, h1 =>
    rw [h1 (by omega)]
    rfl
theorem aty_le : ∀ g : Nat, g < 56 → (g = 30 ∨ aty g < 3) := by decide +kernel
theorem at_eq {M : Mm} (h : Rf M) (D : va_G) (ad : Nat → Nat → Nat) (cA : Nat → ClassId) {g s : Nat} {H : Heap} (hs : s < cnt g) (hv : va_at D cls12 (ad g s, ceP ad cA g s (M g s)) H) : va_at D cls12 (ad g s, cel ad cA g s (M g s)) H := by
  have hg := cnt_lt hs
  by_cases h12 : g < 12
  · rw [ceP_ob ad cA _ _ h12, obP_eq h ad h12 hs] at hv
    rw [cel_ob ad cA _ _ h12]
    exact hv
  · rw [ceP_ar ad cA _ _ (by omega)] at hv
    rw [cel_ar ad cA _ _ (by omega)]
    by_cases h30 : g = 30
    · subst h30
      have e : H[ad 30 s]? = some (arrV (cA 3) 8 (fun j => va_rf (if M 30 s j = 0 then none else some (ad 8 j)))) := hv
      show H[ad 30 s]? = some (arrV (cA 3) 8 (fun j => va_rf (some (ad 8 j))))
      have hs0 : s = 0 := by
        have : s < 1 := hs
        omega
      subst hs0
      rw [e]
      unfold arrV
      congr 3
      funext j
      (try dsimp only)
      rw [h.2 j.1 j.2]
      rfl
    · have ht := (aty_le g hg).resolve_left h30
      have : arP ad cA (aty g) (alen g) (M g s) = arf ad cA (aty g) (alen g) (M g s) := by
        generalize aty g = t at ht ⊢
        match t, ht with
        | 0, _ => rfl
        | 1, _ => rfl
        | 2, _ => rfl
        | t + 3, ht => exact absurd ht (by omega)
      rw [this] at hv
      exact hv
theorem wq_wl {M : Mm} (h : Rf M) (h70 : M 99 0 0 = 70) {D : va_G} {ad : Nat → Nat → Nat} {cA : Nat → ClassId} {H : Heap} (hP : va_P D cls12 (wq ad cA M) H) : va_P D cls12 (wl ad cA M) H := by
  intro k q hk
  unfold wl at hk
  rw [List.getElem?_map] at hk
  cases hq : en[k]? with
  | none => rw [hq] at hk; cases hk
  | some a =>
    rw [hq] at hk
    cases hk
    obtain ⟨g, hg, ha⟩ := List.mem_flatMap.mp (List.mem_of_getElem? hq)
    obtain ⟨s, hs, rfl⟩ := List.mem_map.mp ha
    have hs := List.mem_range.mp hs
    have hi : (ix g s : Int) < M 99 0 0 := by
      have := (List.getElem?_eq_some_iff.mp (ix_al hs)).1
      have e : al.length = 70 := rfl
      omega
    exact at_eq h D ad cA hs (hP _ _ (wq_at ad cA M hs hi))
theorem rf_all : ∀ g : Nat, g < 12 → (g = 8 ∨ ∀ k : Nat, k < (fkl g).length → ((fkl g).getD k 0 < 3 ∨ ((g = 11 ∧ k ∈ rf11) ∨ (g, k) ∈ rf10))) := by
  intro g hg
  have : ∀ g : Fin 12, (g.1 = 8 ∨ ∀ k : Fin (fkl g.1).length, ((fkl g.1).getD k.1 0 < 3 ∨ ((g.1 = 11 ∧ k.1 ∈ rf11) ∨ (g.1, k.1) ∈ rf10))) := by decide +kernel
  exact (this ⟨g, hg⟩).imp id fun h k hk => h ⟨k, hk⟩
/-- what both constructors leave -/
theorem Rf_start {M : Mm} (h : F10 M) (h2 : F11 M) : Rf M := by
  refine ⟨fun g hg s hs k hk h3 => ?_, fun s hs => (h.2.1 s hs).2.2⟩
  by_cases h8 : g = 8
  · subst h8
    have hk : k < 2 := hk
    have hk0 : k = 0 := by
      rcases Nat.lt_or_ge k 1 with z | z
      · omega
      · have : k = 1 := by omega
        subst this
        revert h3
        decide
    subst hk0
    exact (h.2.1 s hs).1
  · have hs0 : s = 0 := by
      have : ∀ g : Nat, g < 12 → (g = 8 ∨ cnt g = 1) := by decide
      rw [(this g hg).resolve_left h8] at hs
      omega
    subst hs0
    rcases (((rf_all g hg).resolve_left h8) k hk).resolve_left (by omega) with ⟨rfl, z⟩ | z
    · exact h2.1 k z
    · exact h.1 (g, k) z
theorem INV_start {M : Mm} (h : F10 M) (h2 : F11 M) : INV M := by
  obtain ⟨-, hs, hC, hR, ⟨g1, g2, g3⟩, h13, l1, e1, e2, o1⟩ := h
  obtain ⟨-, hE, h32, h46, m1, m2, m3, m4, m5⟩ := h2
  refine ⟨⟨fun s h8 => ?_, fun s h8 => ?_⟩, ⟨hC, hE, hR⟩, ⟨?_, ?_⟩, ?_, ?_, ?_⟩
  · rw [(hs s h8).2.1]
    exact ⟨by omega, fun j hj => by omega⟩
  · rw [(hs s h8).2.1, h32]
    exact ⟨rfl, fun j hj => by omega⟩
  · unfold GI
    rw [g1, g2, g3]
    refine ⟨by unfold tabOk; omega, fun j _ => by rw [h13]; omega, ?_, by omega, fun r c _ _ _ => h13 _⟩
    exact (sm_z fun j _ => h13 j).symm
  · unfold GE
    rw [g1, g2, m3, m4]
    exact ⟨rfl, rfl, fun j _ => by rw [h46, h13]⟩
  · unfold LDI
    rw [l1, m1]
    exact ⟨by omega, by omega, fun q _ hq => by omega⟩
  · unfold REI
    rw [e1, e2, m2]
    exact ⟨Or.inl rfl, rfl, by omega, fun hq => by omega⟩
  · unfold ROI LI
    rw [o1, m5]
    exact ⟨⟨by omega, fun j hj => by omega⟩, rfl, fun j hj => by omega⟩
