/-! blocks of methods: by program (own work) out of the printed decode rows -/
def tl_L_number : List (Nat × Instr × Nat) := [(0, .aload_n 3, 1), (1, .iconst 0, 1), (2, .aload_n 0, 1), (3, .iload_n 1, 1), (4, .iload_n 2, 1), (5, .invokevirtual 7, 3), (8, .i2l, 1), (9, .lastore, 1), (10, .goto 7, 3), (13, .astore 4, 2), (15, .iconst 1, 1), (16, .ireturn, 1), (17, .iconst 0, 1), (18, .ireturn, 1)]
theorem tb_L_number : decs cL_number tl_L_number := by unfold decs; decide +kernel
theorem B_L_number_0 {x : Xc} {l0 : Launch} {dd : Nat} (C : Cx x l0 cL_number RL 5 dd) : Ok x 0 (c_aload 3 <| c_ic 0 <| c_aload 0 <| c_iload 1 <| c_iload 2 <| J x 5) :=
  r_aload_n C (decs_at tb_L_number 0 rfl) rfl <| r_iconst C (decs_at tb_L_number 1 rfl) <| r_aload_n C (decs_at tb_L_number 2 rfl) rfl <| r_iload_n C (decs_at tb_L_number 3 rfl) rfl <| r_iload_n C (decs_at tb_L_number 4 rfl) rfl <| okJ x 5
theorem B_L_number_8 {x : Xc} {l0 : Launch} {dd : Nat} (C : Cx x l0 cL_number RL 5 dd) {P : Option AV → Mm → Prop} (hR : Rx x (some .int) P) : Ok x 8 (c_i2l <| c_last <| c_goto <| c_ic 0 <| c_iret P) :=
  r_i2l C (decs_at tb_L_number 6 rfl) <| r_last C (decs_at tb_L_number 7 rfl) <| r_goto (tgt := 17) C (decs_at tb_L_number 8 rfl) (by decide) <| r_iconst C (decs_at tb_L_number 12 rfl) <| r_iret C hR (decs_at tb_L_number 13 rfl)
theorem B_L_number_15 {x : Xc} {l0 : Launch} {dd : Nat} (C : Cx x l0 cL_number RL 5 dd) {P : Option AV → Mm → Prop} (hR : Rx x (some .int) P) : Ok x 15 (c_ic 1 <| c_iret P) :=
  r_iconst C (decs_at tb_L_number 10 rfl) <| r_iret C hR (decs_at tb_L_number 11 rfl)
def tl_L_score : List (Nat × Instr × Nat) := [(0, .aload 4, 2), (2, .iconst 0, 1), (3, .aload_n 0, 1), (4, .iload_n 1, 1), (5, .iload_n 2, 1), (6, .iload_n 3, 1), (7, .invokevirtual 15, 3), (10, .lastore, 1), (11, .goto 7, 3), (14, .astore 5, 2), (16, .iconst 1, 1), (17, .ireturn, 1), (18, .iconst 0, 1), (19, .ireturn, 1)]
theorem tb_L_score : decs cL_score tl_L_score := by unfold decs; decide +kernel
theorem B_L_score_0 {x : Xc} {l0 : Launch} {dd : Nat} (C : Cx x l0 cL_score RL 6 dd) : Ok x 0 (c_aload 4 <| c_ic 0 <| c_aload 0 <| c_iload 1 <| c_iload 2 <| c_iload 3 <| J x 7) :=
  r_aload C (decs_at tb_L_score 0 rfl) <| r_iconst C (decs_at tb_L_score 1 rfl) <| r_aload_n C (decs_at tb_L_score 2 rfl) rfl <| r_iload_n C (decs_at tb_L_score 3 rfl) rfl <| r_iload_n C (decs_at tb_L_score 4 rfl) rfl <| r_iload_n C (decs_at tb_L_score 5 rfl) rfl <| okJ x 7
theorem B_L_score_10 {x : Xc} {l0 : Launch} {dd : Nat} (C : Cx x l0 cL_score RL 6 dd) {P : Option AV → Mm → Prop} (hR : Rx x (some .int) P) : Ok x 10 (c_last <| c_goto <| c_ic 0 <| c_iret P) :=
  r_last C (decs_at tb_L_score 7 rfl) <| r_goto (tgt := 18) C (decs_at tb_L_score 8 rfl) (by decide) <| r_iconst C (decs_at tb_L_score 12 rfl) <| r_iret C hR (decs_at tb_L_score 13 rfl)
theorem B_L_score_16 {x : Xc} {l0 : Launch} {dd : Nat} (C : Cx x l0 cL_score RL 6 dd) {P : Option AV → Mm → Prop} (hR : Rx x (some .int) P) : Ok x 16 (c_ic 1 <| c_iret P) :=
  r_iconst C (decs_at tb_L_score 10 rfl) <| r_iret C hR (decs_at tb_L_score 11 rfl)
def tl_L_total : List (Nat × Instr × Nat) := [(0, .aload 4, 2), (2, .iconst 0, 1), (3, .aload_n 0, 1), (4, .iload_n 1, 1), (5, .iload_n 2, 1), (6, .iload_n 3, 1), (7, .invokevirtual 21, 3), (10, .lastore, 1), (11, .goto 7, 3), (14, .astore 5, 2), (16, .iconst 1, 1), (17, .ireturn, 1), (18, .iconst 0, 1), (19, .ireturn, 1)]
theorem tb_L_total : decs cL_total tl_L_total := by unfold decs; decide +kernel
theorem B_L_total_0 {x : Xc} {l0 : Launch} {dd : Nat} (C : Cx x l0 cL_total RL 6 dd) : Ok x 0 (c_aload 4 <| c_ic 0 <| c_aload 0 <| c_iload 1 <| c_iload 2 <| c_iload 3 <| J x 7) :=
  r_aload C (decs_at tb_L_total 0 rfl) <| r_iconst C (decs_at tb_L_total 1 rfl) <| r_aload_n C (decs_at tb_L_total 2 rfl) rfl <| r_iload_n C (decs_at tb_L_total 3 rfl) rfl <| r_iload_n C (decs_at tb_L_total 4 rfl) rfl <| r_iload_n C (decs_at tb_L_total 5 rfl) rfl <| okJ x 7
theorem B_L_total_10 {x : Xc} {l0 : Launch} {dd : Nat} (C : Cx x l0 cL_total RL 6 dd) {P : Option AV → Mm → Prop} (hR : Rx x (some .int) P) : Ok x 10 (c_last <| c_goto <| c_ic 0 <| c_iret P) :=
  r_last C (decs_at tb_L_total 7 rfl) <| r_goto (tgt := 18) C (decs_at tb_L_total 8 rfl) (by decide) <| r_iconst C (decs_at tb_L_total 12 rfl) <| r_iret C hR (decs_at tb_L_total 13 rfl)
theorem B_L_total_16 {x : Xc} {l0 : Launch} {dd : Nat} (C : Cx x l0 cL_total RL 6 dd) {P : Option AV → Mm → Prop} (hR : Rx x (some .int) P) : Ok x 16 (c_ic 1 <| c_iret P) :=
  r_iconst C (decs_at tb_L_total 10 rfl) <| r_iret C hR (decs_at tb_L_total 11 rfl)
def tl_L_count : List (Nat × Instr × Nat) := [(0, .aload 5, 2), (2, .iconst 0, 1), (3, .aload_n 0, 1), (4, .iload_n 1, 1), (5, .iload_n 2, 1), (6, .iload_n 3, 1), (7, .iload 4, 2), (9, .invokevirtual 24, 3), (12, .lastore, 1), (13, .goto 7, 3), (16, .astore 6, 2), (18, .iconst 1, 1), (19, .ireturn, 1), (20, .iconst 0, 1), (21, .ireturn, 1)]
theorem tb_L_count : decs cL_count tl_L_count := by unfold decs; decide +kernel
theorem B_L_count_0 {x : Xc} {l0 : Launch} {dd : Nat} (C : Cx x l0 cL_count RL 7 dd) : Ok x 0 (c_aload 5 <| c_ic 0 <| c_aload 0 <| c_iload 1 <| c_iload 2 <| c_iload 3 <| c_iload 4 <| J x 9) :=
  r_aload C (decs_at tb_L_count 0 rfl) <| r_iconst C (decs_at tb_L_count 1 rfl) <| r_aload_n C (decs_at tb_L_count 2 rfl) rfl <| r_iload_n C (decs_at tb_L_count 3 rfl) rfl <| r_iload_n C (decs_at tb_L_count 4 rfl) rfl <| r_iload_n C (decs_at tb_L_count 5 rfl) rfl <| r_iload C (decs_at tb_L_count 6 rfl) <| okJ x 9
theorem B_L_count_12 {x : Xc} {l0 : Launch} {dd : Nat} (C : Cx x l0 cL_count RL 7 dd) {P : Option AV → Mm → Prop} (hR : Rx x (some .int) P) : Ok x 12 (c_last <| c_goto <| c_ic 0 <| c_iret P) :=
  r_last C (decs_at tb_L_count 8 rfl) <| r_goto (tgt := 20) C (decs_at tb_L_count 9 rfl) (by decide) <| r_iconst C (decs_at tb_L_count 13 rfl) <| r_iret C hR (decs_at tb_L_count 14 rfl)
theorem B_L_count_18 {x : Xc} {l0 : Launch} {dd : Nat} (C : Cx x l0 cL_count RL 7 dd) {P : Option AV → Mm → Prop} (hR : Rx x (some .int) P) : Ok x 18 (c_ic 1 <| c_iret P) :=
  r_iconst C (decs_at tb_L_count 11 rfl) <| r_iret C hR (decs_at tb_L_count 12 rfl)
def tl_L_spread : List (Nat × Instr × Nat) := [(0, .aload 4, 2), (2, .iconst 0, 1), (3, .aload_n 0, 1), (4, .iload_n 1, 1), (5, .iload_n 2, 1), (6, .iload_n 3, 1), (7, .invokevirtual 28, 3), (10, .i2l, 1), (11, .lastore, 1), (12, .goto 7, 3), (15, .astore 5, 2), (17, .iconst 1, 1), (18, .ireturn, 1), (19, .iconst 0, 1), (20, .ireturn, 1)]
theorem tb_L_spread : decs cL_spread tl_L_spread := by unfold decs; decide +kernel
theorem B_L_spread_0 {x : Xc} {l0 : Launch} {dd : Nat} (C : Cx x l0 cL_spread RL 6 dd) : Ok x 0 (c_aload 4 <| c_ic 0 <| c_aload 0 <| c_iload 1 <| c_iload 2 <| c_iload 3 <| J x 7) :=
  r_aload C (decs_at tb_L_spread 0 rfl) <| r_iconst C (decs_at tb_L_spread 1 rfl) <| r_aload_n C (decs_at tb_L_spread 2 rfl) rfl <| r_iload_n C (decs_at tb_L_spread 3 rfl) rfl <| r_iload_n C (decs_at tb_L_spread 4 rfl) rfl <| r_iload_n C (decs_at tb_L_spread 5 rfl) rfl <| okJ x 7
theorem B_L_spread_10 {x : Xc} {l0 : Launch} {dd : Nat} (C : Cx x l0 cL_spread RL 6 dd) {P : Option AV → Mm → Prop} (hR : Rx x (some .int) P) : Ok x 10 (c_i2l <| c_last <| c_goto <| c_ic 0 <| c_iret P) :=
  r_i2l C (decs_at tb_L_spread 7 rfl) <| r_last C (decs_at tb_L_spread 8 rfl) <| r_goto (tgt := 19) C (decs_at tb_L_spread 9 rfl) (by decide) <| r_iconst C (decs_at tb_L_spread 13 rfl) <| r_iret C hR (decs_at tb_L_spread 14 rfl)
theorem B_L_spread_17 {x : Xc} {l0 : Launch} {dd : Nat} (C : Cx x l0 cL_spread RL 6 dd) {P : Option AV → Mm → Prop} (hR : Rx x (some .int) P) : Ok x 17 (c_ic 1 <| c_iret P) :=
  r_iconst C (decs_at tb_L_spread 11 rfl) <| r_iret C hR (decs_at tb_L_spread 12 rfl)
