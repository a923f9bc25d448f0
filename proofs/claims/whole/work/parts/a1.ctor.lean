/-! the constructors, cell by cell (by program: ctor.py) -/
theorem oi_X11 : Cond.methodLink "BitRecogniser" 3 Lib.objectInit ∈ go_tbl := go_mem_1 22 rfl rfl
theorem oi_X0 : Cond.methodLink "BitRecogniser$Binary" 3 Lib.objectInit ∈ go_tbl := go_mem_1 104 rfl rfl
theorem oi_X1 : Cond.methodLink "BitRecogniser$Chart" 3 Lib.objectInit ∈ go_tbl := go_mem_1 173 rfl rfl
theorem oi_X3 : Cond.methodLink "BitRecogniser$Listing" 3 Lib.objectInit ∈ go_tbl := go_mem_2 28 rfl rfl
theorem oi_X5 : Cond.methodLink "BitRecogniser$Past" 3 Lib.objectInit ∈ go_tbl := go_mem_1 77 rfl rfl
theorem oi_X7 : Cond.methodLink "BitRecogniser$Table" 3 Lib.objectInit ∈ go_tbl := go_mem_1 206 rfl rfl
theorem oi_X8 : Cond.methodLink "BitRecogniser$Tape" 3 Lib.objectInit ∈ go_tbl := go_mem_1 30 rfl rfl
theorem oi_X9 : Cond.methodLink "BitRecogniser$Told" 3 Lib.objectInit ∈ go_tbl := go_mem_1 53 rfl rfl
theorem oi_X10 : Cond.methodLink "BitRecogniser$Vocabulary" 3 Lib.objectInit ∈ go_tbl := go_mem_2 113 rfl rfl
theorem oi_X12 : Cond.methodLink "BitRecogniserModel" 1 Lib.objectInit ∈ go_tbl := go_mem_5 239 rfl rfl
theorem oi_i : Cond.instanceMethod Lib.objectInit ∈ go_tbl := go_mem_1 23 rfl rfl
theorem oi_c : Cond.code Lib.objectInit ⟨#[0xb1]⟩ 1 none ∈ go_tbl := go_mem_1 24 rfl rfl
theorem ct_X8_init_1 {E : go_E} {d : Nat} {ρ : Nat → Nat → Nat} {δ : Nat → Nat → Int} {Q : List go_V → go_F → (Nat → Nat → Int) → Prop} (hr : fz 0 2 ρ) (hd : fz 0 2 δ) (hQ : fz 0 3 (wr ρ 1 0 3) → fz 0 3 (wr δ 1 3 (-1)) → Q [] (3, (wr ρ 1 0 3), 1, 40) (wr δ 1 3 (-1))) : Go E (d + 1) (1, 40) mx_X8_init (2, ρ, 0, 0) 0 [(0, vv_A 1)] [] δ Q := by
  refine go_aload_n (i := 0) dx_X8_init_0 rfl rfl ?_
  refine go_objI oi_X8 oi_i oi_c dx_X8_init_1 (by decide) ?_
  refine go_aload_n (i := 0) dx_X8_init_4 rfl rfl ?_
  refine go_bipush dx_X8_init_5 rfl ?_
  refine go_newI (N := 40) (n' := 3) (c' := 1) (sl' := 40) hr hd dx_X8_init_7 rfl rfl rfl rfl rfl rfl (Nat.le_of_ble_eq_true rfl) (Nat.le_of_ble_eq_true rfl) (fun hr hd => ?_)
  refine go_pA hr fp_X8_9 rfl (Or.inr ⟨_, rfl⟩) rfl ⟨rfl, by decide⟩ dx_X8_init_9 (fun hr => ?_)
  refine go_aload_n (i := 0) dx_X8_init_12 rfl rfl ?_
  refine go_iconst dx_X8_init_13 ?_
  refine go_pI hd fp_X8_15 rfl rfl ⟨rfl, by decide⟩ dx_X8_init_14 (fun hd => ?_)
  refine go_vreturn dx_X8_init_17 rfl (Nat.le_refl _) (Nat.le_refl _) ?_
  exact hQ hr hd
theorem ct_X9_init_3 {E : go_E} {d : Nat} {ρ : Nat → Nat → Nat} {δ : Nat → Nat → Int} {Q : List go_V → go_F → (Nat → Nat → Int) → Prop} (hr : fz 0 4 ρ) (hd : fz 0 4 δ) (hQ : fz 0 5 (wr ρ 3 0 5) → fz 0 5 δ → Q [] (5, (wr ρ 3 0 5), 1, 16) δ) : Go E (d + 1) (1, 16) mx_X9_init (4, ρ, 0, 0) 0 [(0, vv_A 3)] [] δ Q := by
  refine go_aload_n (i := 0) dx_X9_init_0 rfl rfl ?_
  refine go_objI oi_X9 oi_i oi_c dx_X9_init_1 (by decide) ?_
  refine go_aload_n (i := 0) dx_X9_init_4 rfl rfl ?_
  refine go_bipush dx_X9_init_5 rfl ?_
  refine go_newI (N := 16) (n' := 5) (c' := 1) (sl' := 16) hr hd dx_X9_init_7 rfl rfl rfl rfl rfl rfl (Nat.le_of_ble_eq_true rfl) (Nat.le_of_ble_eq_true rfl) (fun hr hd => ?_)
  refine go_pA hr fp_X9_9 rfl (Or.inr ⟨_, rfl⟩) rfl ⟨rfl, by decide⟩ dx_X9_init_9 (fun hr => ?_)
  refine go_vreturn dx_X9_init_12 rfl (Nat.le_refl _) (Nat.le_refl _) ?_
  exact hQ hr hd
theorem ct_X9_init_7 {E : go_E} {d : Nat} {ρ : Nat → Nat → Nat} {δ : Nat → Nat → Int} {Q : List go_V → go_F → (Nat → Nat → Int) → Prop} (hr : fz 0 8 ρ) (hd : fz 0 8 δ) (hQ : fz 0 9 (wr ρ 7 0 9) → fz 0 9 δ → Q [] (9, (wr ρ 7 0 9), 1, 16) δ) : Go E (d + 1) (1, 16) mx_X9_init (8, ρ, 0, 0) 0 [(0, vv_A 7)] [] δ Q := by
  refine go_aload_n (i := 0) dx_X9_init_0 rfl rfl ?_
  refine go_objI oi_X9 oi_i oi_c dx_X9_init_1 (by decide) ?_
  refine go_aload_n (i := 0) dx_X9_init_4 rfl rfl ?_
  refine go_bipush dx_X9_init_5 rfl ?_
  refine go_newI (N := 16) (n' := 9) (c' := 1) (sl' := 16) hr hd dx_X9_init_7 rfl rfl rfl rfl rfl rfl (Nat.le_of_ble_eq_true rfl) (Nat.le_of_ble_eq_true rfl) (fun hr hd => ?_)
  refine go_pA hr fp_X9_9 rfl (Or.inr ⟨_, rfl⟩) rfl ⟨rfl, by decide⟩ dx_X9_init_9 (fun hr => ?_)
  refine go_vreturn dx_X9_init_12 rfl (Nat.le_refl _) (Nat.le_refl _) ?_
  exact hQ hr hd
theorem ct_X9_init_9 {E : go_E} {d : Nat} {ρ : Nat → Nat → Nat} {δ : Nat → Nat → Int} {Q : List go_V → go_F → (Nat → Nat → Int) → Prop} (hr : fz 0 10 ρ) (hd : fz 0 10 δ) (hQ : fz 0 11 (wr ρ 9 0 11) → fz 0 11 δ → Q [] (11, (wr ρ 9 0 11), 1, 16) δ) : Go E (d + 1) (1, 16) mx_X9_init (10, ρ, 0, 0) 0 [(0, vv_A 9)] [] δ Q := by
  refine go_aload_n (i := 0) dx_X9_init_0 rfl rfl ?_
  refine go_objI oi_X9 oi_i oi_c dx_X9_init_1 (by decide) ?_
  refine go_aload_n (i := 0) dx_X9_init_4 rfl rfl ?_
  refine go_bipush dx_X9_init_5 rfl ?_
  refine go_newI (N := 16) (n' := 11) (c' := 1) (sl' := 16) hr hd dx_X9_init_7 rfl rfl rfl rfl rfl rfl (Nat.le_of_ble_eq_true rfl) (Nat.le_of_ble_eq_true rfl) (fun hr hd => ?_)
  refine go_pA hr fp_X9_9 rfl (Or.inr ⟨_, rfl⟩) rfl ⟨rfl, by decide⟩ dx_X9_init_9 (fun hr => ?_)
  refine go_vreturn dx_X9_init_12 rfl (Nat.le_refl _) (Nat.le_refl _) ?_
  exact hQ hr hd
theorem ct_X9_init_11 {E : go_E} {d : Nat} {ρ : Nat → Nat → Nat} {δ : Nat → Nat → Int} {Q : List go_V → go_F → (Nat → Nat → Int) → Prop} (hr : fz 0 12 ρ) (hd : fz 0 12 δ) (hQ : fz 0 13 (wr ρ 11 0 13) → fz 0 13 δ → Q [] (13, (wr ρ 11 0 13), 1, 16) δ) : Go E (d + 1) (1, 16) mx_X9_init (12, ρ, 0, 0) 0 [(0, vv_A 11)] [] δ Q := by
  refine go_aload_n (i := 0) dx_X9_init_0 rfl rfl ?_
  refine go_objI oi_X9 oi_i oi_c dx_X9_init_1 (by decide) ?_
  refine go_aload_n (i := 0) dx_X9_init_4 rfl rfl ?_
  refine go_bipush dx_X9_init_5 rfl ?_
  refine go_newI (N := 16) (n' := 13) (c' := 1) (sl' := 16) hr hd dx_X9_init_7 rfl rfl rfl rfl rfl rfl (Nat.le_of_ble_eq_true rfl) (Nat.le_of_ble_eq_true rfl) (fun hr hd => ?_)
  refine go_pA hr fp_X9_9 rfl (Or.inr ⟨_, rfl⟩) rfl ⟨rfl, by decide⟩ dx_X9_init_9 (fun hr => ?_)
  refine go_vreturn dx_X9_init_12 rfl (Nat.le_refl _) (Nat.le_refl _) ?_
  exact hQ hr hd
theorem ct_X9_init_13 {E : go_E} {d : Nat} {ρ : Nat → Nat → Nat} {δ : Nat → Nat → Int} {Q : List go_V → go_F → (Nat → Nat → Int) → Prop} (hr : fz 0 14 ρ) (hd : fz 0 14 δ) (hQ : fz 0 15 (wr ρ 13 0 15) → fz 0 15 δ → Q [] (15, (wr ρ 13 0 15), 1, 16) δ) : Go E (d + 1) (1, 16) mx_X9_init (14, ρ, 0, 0) 0 [(0, vv_A 13)] [] δ Q := by
  refine go_aload_n (i := 0) dx_X9_init_0 rfl rfl ?_
  refine go_objI oi_X9 oi_i oi_c dx_X9_init_1 (by decide) ?_
  refine go_aload_n (i := 0) dx_X9_init_4 rfl rfl ?_
  refine go_bipush dx_X9_init_5 rfl ?_
  refine go_newI (N := 16) (n' := 15) (c' := 1) (sl' := 16) hr hd dx_X9_init_7 rfl rfl rfl rfl rfl rfl (Nat.le_of_ble_eq_true rfl) (Nat.le_of_ble_eq_true rfl) (fun hr hd => ?_)
  refine go_pA hr fp_X9_9 rfl (Or.inr ⟨_, rfl⟩) rfl ⟨rfl, by decide⟩ dx_X9_init_9 (fun hr => ?_)
  refine go_vreturn dx_X9_init_12 rfl (Nat.le_refl _) (Nat.le_refl _) ?_
  exact hQ hr hd
theorem ct_X9_init_15 {E : go_E} {d : Nat} {ρ : Nat → Nat → Nat} {δ : Nat → Nat → Int} {Q : List go_V → go_F → (Nat → Nat → Int) → Prop} (hr : fz 0 16 ρ) (hd : fz 0 16 δ) (hQ : fz 0 17 (wr ρ 15 0 17) → fz 0 17 δ → Q [] (17, (wr ρ 15 0 17), 1, 16) δ) : Go E (d + 1) (1, 16) mx_X9_init (16, ρ, 0, 0) 0 [(0, vv_A 15)] [] δ Q := by
  refine go_aload_n (i := 0) dx_X9_init_0 rfl rfl ?_
  refine go_objI oi_X9 oi_i oi_c dx_X9_init_1 (by decide) ?_
  refine go_aload_n (i := 0) dx_X9_init_4 rfl rfl ?_
  refine go_bipush dx_X9_init_5 rfl ?_
  refine go_newI (N := 16) (n' := 17) (c' := 1) (sl' := 16) hr hd dx_X9_init_7 rfl rfl rfl rfl rfl rfl (Nat.le_of_ble_eq_true rfl) (Nat.le_of_ble_eq_true rfl) (fun hr hd => ?_)
  refine go_pA hr fp_X9_9 rfl (Or.inr ⟨_, rfl⟩) rfl ⟨rfl, by decide⟩ dx_X9_init_9 (fun hr => ?_)
  refine go_vreturn dx_X9_init_12 rfl (Nat.le_refl _) (Nat.le_refl _) ?_
  exact hQ hr hd
theorem ct_X9_init_17 {E : go_E} {d : Nat} {ρ : Nat → Nat → Nat} {δ : Nat → Nat → Int} {Q : List go_V → go_F → (Nat → Nat → Int) → Prop} (hr : fz 0 18 ρ) (hd : fz 0 18 δ) (hQ : fz 0 19 (wr ρ 17 0 19) → fz 0 19 δ → Q [] (19, (wr ρ 17 0 19), 1, 16) δ) : Go E (d + 1) (1, 16) mx_X9_init (18, ρ, 0, 0) 0 [(0, vv_A 17)] [] δ Q := by
  refine go_aload_n (i := 0) dx_X9_init_0 rfl rfl ?_
  refine go_objI oi_X9 oi_i oi_c dx_X9_init_1 (by decide) ?_
  refine go_aload_n (i := 0) dx_X9_init_4 rfl rfl ?_
  refine go_bipush dx_X9_init_5 rfl ?_
  refine go_newI (N := 16) (n' := 19) (c' := 1) (sl' := 16) hr hd dx_X9_init_7 rfl rfl rfl rfl rfl rfl (Nat.le_of_ble_eq_true rfl) (Nat.le_of_ble_eq_true rfl) (fun hr hd => ?_)
  refine go_pA hr fp_X9_9 rfl (Or.inr ⟨_, rfl⟩) rfl ⟨rfl, by decide⟩ dx_X9_init_9 (fun hr => ?_)
  refine go_vreturn dx_X9_init_12 rfl (Nat.le_refl _) (Nat.le_refl _) ?_
  exact hQ hr hd
theorem ct_X9_init_19 {E : go_E} {d : Nat} {ρ : Nat → Nat → Nat} {δ : Nat → Nat → Int} {Q : List go_V → go_F → (Nat → Nat → Int) → Prop} (hr : fz 0 20 ρ) (hd : fz 0 20 δ) (hQ : fz 0 21 (wr ρ 19 0 21) → fz 0 21 δ → Q [] (21, (wr ρ 19 0 21), 1, 16) δ) : Go E (d + 1) (1, 16) mx_X9_init (20, ρ, 0, 0) 0 [(0, vv_A 19)] [] δ Q := by
  refine go_aload_n (i := 0) dx_X9_init_0 rfl rfl ?_
  refine go_objI oi_X9 oi_i oi_c dx_X9_init_1 (by decide) ?_
  refine go_aload_n (i := 0) dx_X9_init_4 rfl rfl ?_
  refine go_bipush dx_X9_init_5 rfl ?_
  refine go_newI (N := 16) (n' := 21) (c' := 1) (sl' := 16) hr hd dx_X9_init_7 rfl rfl rfl rfl rfl rfl (Nat.le_of_ble_eq_true rfl) (Nat.le_of_ble_eq_true rfl) (fun hr hd => ?_)
  refine go_pA hr fp_X9_9 rfl (Or.inr ⟨_, rfl⟩) rfl ⟨rfl, by decide⟩ dx_X9_init_9 (fun hr => ?_)
  refine go_vreturn dx_X9_init_12 rfl (Nat.le_refl _) (Nat.le_refl _) ?_
  exact hQ hr hd
theorem ct_X9_init_21 {E : go_E} {d : Nat} {ρ : Nat → Nat → Nat} {δ : Nat → Nat → Int} {Q : List go_V → go_F → (Nat → Nat → Int) → Prop} (hr : fz 0 22 ρ) (hd : fz 0 22 δ) (hQ : fz 0 23 (wr ρ 21 0 23) → fz 0 23 δ → Q [] (23, (wr ρ 21 0 23), 1, 16) δ) : Go E (d + 1) (1, 16) mx_X9_init (22, ρ, 0, 0) 0 [(0, vv_A 21)] [] δ Q := by
  refine go_aload_n (i := 0) dx_X9_init_0 rfl rfl ?_
  refine go_objI oi_X9 oi_i oi_c dx_X9_init_1 (by decide) ?_
  refine go_aload_n (i := 0) dx_X9_init_4 rfl rfl ?_
  refine go_bipush dx_X9_init_5 rfl ?_
  refine go_newI (N := 16) (n' := 23) (c' := 1) (sl' := 16) hr hd dx_X9_init_7 rfl rfl rfl rfl rfl rfl (Nat.le_of_ble_eq_true rfl) (Nat.le_of_ble_eq_true rfl) (fun hr hd => ?_)
  refine go_pA hr fp_X9_9 rfl (Or.inr ⟨_, rfl⟩) rfl ⟨rfl, by decide⟩ dx_X9_init_9 (fun hr => ?_)
  refine go_vreturn dx_X9_init_12 rfl (Nat.le_refl _) (Nat.le_refl _) ?_
  exact hQ hr hd
theorem ct_X9_init_23 {E : go_E} {d : Nat} {ρ : Nat → Nat → Nat} {δ : Nat → Nat → Int} {Q : List go_V → go_F → (Nat → Nat → Int) → Prop} (hr : fz 0 24 ρ) (hd : fz 0 24 δ) (hQ : fz 0 25 (wr ρ 23 0 25) → fz 0 25 δ → Q [] (25, (wr ρ 23 0 25), 1, 16) δ) : Go E (d + 1) (1, 16) mx_X9_init (24, ρ, 0, 0) 0 [(0, vv_A 23)] [] δ Q := by
  refine go_aload_n (i := 0) dx_X9_init_0 rfl rfl ?_
  refine go_objI oi_X9 oi_i oi_c dx_X9_init_1 (by decide) ?_
  refine go_aload_n (i := 0) dx_X9_init_4 rfl rfl ?_
  refine go_bipush dx_X9_init_5 rfl ?_
  refine go_newI (N := 16) (n' := 25) (c' := 1) (sl' := 16) hr hd dx_X9_init_7 rfl rfl rfl rfl rfl rfl (Nat.le_of_ble_eq_true rfl) (Nat.le_of_ble_eq_true rfl) (fun hr hd => ?_)
  refine go_pA hr fp_X9_9 rfl (Or.inr ⟨_, rfl⟩) rfl ⟨rfl, by decide⟩ dx_X9_init_9 (fun hr => ?_)
  refine go_vreturn dx_X9_init_12 rfl (Nat.le_refl _) (Nat.le_refl _) ?_
  exact hQ hr hd
theorem ct_X9_init_25 {E : go_E} {d : Nat} {ρ : Nat → Nat → Nat} {δ : Nat → Nat → Int} {Q : List go_V → go_F → (Nat → Nat → Int) → Prop} (hr : fz 0 26 ρ) (hd : fz 0 26 δ) (hQ : fz 0 27 (wr ρ 25 0 27) → fz 0 27 δ → Q [] (27, (wr ρ 25 0 27), 1, 16) δ) : Go E (d + 1) (1, 16) mx_X9_init (26, ρ, 0, 0) 0 [(0, vv_A 25)] [] δ Q := by
  refine go_aload_n (i := 0) dx_X9_init_0 rfl rfl ?_
  refine go_objI oi_X9 oi_i oi_c dx_X9_init_1 (by decide) ?_
  refine go_aload_n (i := 0) dx_X9_init_4 rfl rfl ?_
  refine go_bipush dx_X9_init_5 rfl ?_
  refine go_newI (N := 16) (n' := 27) (c' := 1) (sl' := 16) hr hd dx_X9_init_7 rfl rfl rfl rfl rfl rfl (Nat.le_of_ble_eq_true rfl) (Nat.le_of_ble_eq_true rfl) (fun hr hd => ?_)
  refine go_pA hr fp_X9_9 rfl (Or.inr ⟨_, rfl⟩) rfl ⟨rfl, by decide⟩ dx_X9_init_9 (fun hr => ?_)
  refine go_vreturn dx_X9_init_12 rfl (Nat.le_refl _) (Nat.le_refl _) ?_
  exact hQ hr hd
theorem ct_X9_init_28 {E : go_E} {d : Nat} {ρ : Nat → Nat → Nat} {δ : Nat → Nat → Int} {Q : List go_V → go_F → (Nat → Nat → Int) → Prop} (hr : fz 0 29 ρ) (hd : fz 0 29 δ) (hQ : fz 0 30 (wr ρ 28 0 30) → fz 0 30 δ → Q [] (30, (wr ρ 28 0 30), 1, 16) δ) : Go E (d + 1) (1, 16) mx_X9_init (29, ρ, 0, 0) 0 [(0, vv_A 28)] [] δ Q := by
  refine go_aload_n (i := 0) dx_X9_init_0 rfl rfl ?_
  refine go_objI oi_X9 oi_i oi_c dx_X9_init_1 (by decide) ?_
  refine go_aload_n (i := 0) dx_X9_init_4 rfl rfl ?_
  refine go_bipush dx_X9_init_5 rfl ?_
  refine go_newI (N := 16) (n' := 30) (c' := 1) (sl' := 16) hr hd dx_X9_init_7 rfl rfl rfl rfl rfl rfl (Nat.le_of_ble_eq_true rfl) (Nat.le_of_ble_eq_true rfl) (fun hr hd => ?_)
  refine go_pA hr fp_X9_9 rfl (Or.inr ⟨_, rfl⟩) rfl ⟨rfl, by decide⟩ dx_X9_init_9 (fun hr => ?_)
  refine go_vreturn dx_X9_init_12 rfl (Nat.le_refl _) (Nat.le_refl _) ?_
  exact hQ hr hd
theorem ct_X9_init_30 {E : go_E} {d : Nat} {ρ : Nat → Nat → Nat} {δ : Nat → Nat → Int} {Q : List go_V → go_F → (Nat → Nat → Int) → Prop} (hr : fz 0 31 ρ) (hd : fz 0 31 δ) (hQ : fz 0 32 (wr ρ 30 0 32) → fz 0 32 δ → Q [] (32, (wr ρ 30 0 32), 1, 16) δ) : Go E (d + 1) (1, 16) mx_X9_init (31, ρ, 0, 0) 0 [(0, vv_A 30)] [] δ Q := by
  refine go_aload_n (i := 0) dx_X9_init_0 rfl rfl ?_
  refine go_objI oi_X9 oi_i oi_c dx_X9_init_1 (by decide) ?_
  refine go_aload_n (i := 0) dx_X9_init_4 rfl rfl ?_
  refine go_bipush dx_X9_init_5 rfl ?_
  refine go_newI (N := 16) (n' := 32) (c' := 1) (sl' := 16) hr hd dx_X9_init_7 rfl rfl rfl rfl rfl rfl (Nat.le_of_ble_eq_true rfl) (Nat.le_of_ble_eq_true rfl) (fun hr hd => ?_)
  refine go_pA hr fp_X9_9 rfl (Or.inr ⟨_, rfl⟩) rfl ⟨rfl, by decide⟩ dx_X9_init_9 (fun hr => ?_)
  refine go_vreturn dx_X9_init_12 rfl (Nat.le_refl _) (Nat.le_refl _) ?_
  exact hQ hr hd
theorem ct_X5_init_5 {E : go_E} {d : Nat} {ρ : Nat → Nat → Nat} {δ : Nat → Nat → Int} {Q : List go_V → go_F → (Nat → Nat → Int) → Prop} (hr : fz 0 6 ρ) (hd : fz 0 6 δ) (hQ : fz 0 33 (wr (wr (wr (wr (wr (wr (wr (wr (wr (wr (wr (wr (wr (wr (wr (wr (wr (wr (wr (wr (wr (wr (wr (wr (wr (wr (wr ρ 5 0 7) 7 0 9) 6 0 8) 9 0 11) 6 1 10) 11 0 13) 6 2 12) 13 0 15) 6 3 14) 15 0 17) 6 4 16) 17 0 19) 6 5 18) 19 0 21) 6 6 20) 21 0 23) 6 7 22) 23 0 25) 6 8 24) 25 0 27) 6 9 26) 5 1 28) 28 0 30) 27 0 29) 30 0 32) 27 1 31) 5 2 33) → fz 0 33 δ → Q [] (33, (wr (wr (wr (wr (wr (wr (wr (wr (wr (wr (wr (wr (wr (wr (wr (wr (wr (wr (wr (wr (wr (wr (wr (wr (wr (wr (wr ρ 5 0 7) 7 0 9) 6 0 8) 9 0 11) 6 1 10) 11 0 13) 6 2 12) 13 0 15) 6 3 14) 15 0 17) 6 4 16) 17 0 19) 6 5 18) 19 0 21) 6 6 20) 21 0 23) 6 7 22) 23 0 25) 6 8 24) 25 0 27) 6 9 26) 5 1 28) 28 0 30) 27 0 29) 30 0 32) 27 1 31) 5 2 33), 27, 254) δ) : Go E (d + 2) (27, 254) mx_X5_init (6, ρ, 0, 0) 0 [(0, vv_A 5)] [] δ Q := by
  refine go_aload_n (i := 0) dx_X5_init_0 rfl rfl ?_
  refine go_objI oi_X5 oi_i oi_c dx_X5_init_1 (by decide) ?_
  refine go_aload_n (i := 0) dx_X5_init_4 rfl rfl ?_
  refine go_bipush dx_X5_init_5 rfl ?_
  refine go_anew (N := 10) (n' := 7) (c' := 1) (sl' := 10) hr hd lx_X5_9 dx_X5_init_7 rfl rfl rfl rfl rfl rfl (Nat.le_of_ble_eq_true rfl) (Nat.le_of_ble_eq_true rfl) (fun hr hd => ?_)
  refine go_pA hr fp_X5_11 rfl (Or.inr ⟨_, rfl⟩) rfl ⟨rfl, by decide⟩ dx_X5_init_10 (fun hr => ?_)
  refine go_iconst dx_X5_init_13 ?_
  refine go_istore_n (i := 1) (lv' := [(0, vv_A 5), (1, vv_I 0)]) dx_X5_init_14 rfl (by decide) rfl ?_
  refine go_iload_n (i := 1) dx_X5_init_15 rfl rfl ?_
  refine go_aload_n (i := 0) dx_X5_init_16 rfl rfl ?_
  refine go_getA (b := 6) fs_X5_11 rfl ⟨rfl, (Nat.le_of_ble_eq_true rfl)⟩ rfl dx_X5_init_17 ?_
  refine go_arraylength dx_X5_init_20 ⟨(Or.inr (Or.inr (Or.inr rfl))), (Nat.le_of_ble_eq_true rfl)⟩ ?_
  refine go_asI (y := 10) (by rfl) ?_
  refine go_icmp_ge (tgt := 43) dx_X5_init_21 rfl (by decide) (by decide) (fun c => absurd c (by decide)) (fun c => ?_)
  refine go_aload_n (i := 0) dx_X5_init_24 rfl rfl ?_
  refine go_getA (b := 6) fs_X5_11 rfl ⟨rfl, (Nat.le_of_ble_eq_true rfl)⟩ rfl dx_X5_init_25 ?_
  refine go_iload_n (i := 1) dx_X5_init_28 rfl rfl ?_
  refine go_new (ci := 8) (N := 4) (n' := 8) (c' := 2) (sl' := 14) rfl hr hd rfl lx_X5_9 nx_X9 zx_X9 dx_X5_init_29 rfl rfl rfl (Nat.le_of_ble_eq_true rfl) (Nat.le_of_ble_eq_true rfl) (fun hr hd => ?_)
  refine go_dup dx_X5_init_32 rfl ?_
  refine go_ctor (As := []) (rest := [vv_A 7, vv_I 0, vv_A 6]) (cm := 1) (sm := 16) (c' := 3) (sl' := 30) si_X5_17 dx_X5_init_33 rfl (Nat.le_of_ble_eq_true rfl) (by decide) rfl rfl (Nat.le_of_ble_eq_true rfl) (Nat.le_of_ble_eq_true rfl) (fun Q' hQ' => ct_X9_init_7 hr hd hQ') (fun hr hd => ?_)
  refine go_aast (i := 0) hr dx_X5_init_36 ⟨rfl, by decide⟩ (by decide) ⟨rfl, by decide⟩ (fun hr => ?_)
  refine go_iinc (lv' := [(0, vv_A 5), (1, vv_I 1)]) dx_X5_init_37 rfl (by decide) rfl ?_
  refine go_goto (tgt := 15) dx_X5_init_40 rfl ?_
  refine go_iload_n (i := 1) dx_X5_init_15 rfl rfl ?_
  refine go_aload_n (i := 0) dx_X5_init_16 rfl rfl ?_
  refine go_getA (b := 6) fs_X5_11 rfl ⟨rfl, (Nat.le_of_ble_eq_true rfl)⟩ rfl dx_X5_init_17 ?_
  refine go_arraylength dx_X5_init_20 ⟨(Or.inr (Or.inr (Or.inr rfl))), (Nat.le_of_ble_eq_true rfl)⟩ ?_
  refine go_asI (y := 10) (by rfl) ?_
  refine go_icmp_ge (tgt := 43) dx_X5_init_21 rfl (by decide) (by decide) (fun c => absurd c (by decide)) (fun c => ?_)
  refine go_aload_n (i := 0) dx_X5_init_24 rfl rfl ?_
  refine go_getA (b := 6) fs_X5_11 rfl ⟨rfl, (Nat.le_of_ble_eq_true rfl)⟩ rfl dx_X5_init_25 ?_
  refine go_iload_n (i := 1) dx_X5_init_28 rfl rfl ?_
  refine go_new (ci := 8) (N := 4) (n' := 10) (c' := 4) (sl' := 34) rfl hr hd rfl lx_X5_9 nx_X9 zx_X9 dx_X5_init_29 rfl rfl rfl (Nat.le_of_ble_eq_true rfl) (Nat.le_of_ble_eq_true rfl) (fun hr hd => ?_)
  refine go_dup dx_X5_init_32 rfl ?_
  refine go_ctor (As := []) (rest := [vv_A 9, vv_I 1, vv_A 6]) (cm := 1) (sm := 16) (c' := 5) (sl' := 50) si_X5_17 dx_X5_init_33 rfl (Nat.le_of_ble_eq_true rfl) (by decide) rfl rfl (Nat.le_of_ble_eq_true rfl) (Nat.le_of_ble_eq_true rfl) (fun Q' hQ' => ct_X9_init_9 hr hd hQ') (fun hr hd => ?_)
  refine go_aast (i := 1) hr dx_X5_init_36 ⟨rfl, by decide⟩ (by decide) ⟨rfl, by decide⟩ (fun hr => ?_)
  refine go_iinc (lv' := [(0, vv_A 5), (1, vv_I 2)]) dx_X5_init_37 rfl (by decide) rfl ?_
  refine go_goto (tgt := 15) dx_X5_init_40 rfl ?_
  refine go_iload_n (i := 1) dx_X5_init_15 rfl rfl ?_
  refine go_aload_n (i := 0) dx_X5_init_16 rfl rfl ?_
  refine go_getA (b := 6) fs_X5_11 rfl ⟨rfl, (Nat.le_of_ble_eq_true rfl)⟩ rfl dx_X5_init_17 ?_
  refine go_arraylength dx_X5_init_20 ⟨(Or.inr (Or.inr (Or.inr rfl))), (Nat.le_of_ble_eq_true rfl)⟩ ?_
  refine go_asI (y := 10) (by rfl) ?_
  refine go_icmp_ge (tgt := 43) dx_X5_init_21 rfl (by decide) (by decide) (fun c => absurd c (by decide)) (fun c => ?_)
  refine go_aload_n (i := 0) dx_X5_init_24 rfl rfl ?_
  refine go_getA (b := 6) fs_X5_11 rfl ⟨rfl, (Nat.le_of_ble_eq_true rfl)⟩ rfl dx_X5_init_25 ?_
  refine go_iload_n (i := 1) dx_X5_init_28 rfl rfl ?_
  refine go_new (ci := 8) (N := 4) (n' := 12) (c' := 6) (sl' := 54) rfl hr hd rfl lx_X5_9 nx_X9 zx_X9 dx_X5_init_29 rfl rfl rfl (Nat.le_of_ble_eq_true rfl) (Nat.le_of_ble_eq_true rfl) (fun hr hd => ?_)
  refine go_dup dx_X5_init_32 rfl ?_
  refine go_ctor (As := []) (rest := [vv_A 11, vv_I 2, vv_A 6]) (cm := 1) (sm := 16) (c' := 7) (sl' := 70) si_X5_17 dx_X5_init_33 rfl (Nat.le_of_ble_eq_true rfl) (by decide) rfl rfl (Nat.le_of_ble_eq_true rfl) (Nat.le_of_ble_eq_true rfl) (fun Q' hQ' => ct_X9_init_11 hr hd hQ') (fun hr hd => ?_)
  refine go_aast (i := 2) hr dx_X5_init_36 ⟨rfl, by decide⟩ (by decide) ⟨rfl, by decide⟩ (fun hr => ?_)
  refine go_iinc (lv' := [(0, vv_A 5), (1, vv_I 3)]) dx_X5_init_37 rfl (by decide) rfl ?_
  refine go_goto (tgt := 15) dx_X5_init_40 rfl ?_
  refine go_iload_n (i := 1) dx_X5_init_15 rfl rfl ?_
  refine go_aload_n (i := 0) dx_X5_init_16 rfl rfl ?_
  refine go_getA (b := 6) fs_X5_11 rfl ⟨rfl, (Nat.le_of_ble_eq_true rfl)⟩ rfl dx_X5_init_17 ?_
  refine go_arraylength dx_X5_init_20 ⟨(Or.inr (Or.inr (Or.inr rfl))), (Nat.le_of_ble_eq_true rfl)⟩ ?_
  refine go_asI (y := 10) (by rfl) ?_
  refine go_icmp_ge (tgt := 43) dx_X5_init_21 rfl (by decide) (by decide) (fun c => absurd c (by decide)) (fun c => ?_)
  refine go_aload_n (i := 0) dx_X5_init_24 rfl rfl ?_
  refine go_getA (b := 6) fs_X5_11 rfl ⟨rfl, (Nat.le_of_ble_eq_true rfl)⟩ rfl dx_X5_init_25 ?_
  refine go_iload_n (i := 1) dx_X5_init_28 rfl rfl ?_
  refine go_new (ci := 8) (N := 4) (n' := 14) (c' := 8) (sl' := 74) rfl hr hd rfl lx_X5_9 nx_X9 zx_X9 dx_X5_init_29 rfl rfl rfl (Nat.le_of_ble_eq_true rfl) (Nat.le_of_ble_eq_true rfl) (fun hr hd => ?_)
  refine go_dup dx_X5_init_32 rfl ?_
  refine go_ctor (As := []) (rest := [vv_A 13, vv_I 3, vv_A 6]) (cm := 1) (sm := 16) (c' := 9) (sl' := 90) si_X5_17 dx_X5_init_33 rfl (Nat.le_of_ble_eq_true rfl) (by decide) rfl rfl (Nat.le_of_ble_eq_true rfl) (Nat.le_of_ble_eq_true rfl) (fun Q' hQ' => ct_X9_init_13 hr hd hQ') (fun hr hd => ?_)
  refine go_aast (i := 3) hr dx_X5_init_36 ⟨rfl, by decide⟩ (by decide) ⟨rfl, by decide⟩ (fun hr => ?_)
  refine go_iinc (lv' := [(0, vv_A 5), (1, vv_I 4)]) dx_X5_init_37 rfl (by decide) rfl ?_
  refine go_goto (tgt := 15) dx_X5_init_40 rfl ?_
  refine go_iload_n (i := 1) dx_X5_init_15 rfl rfl ?_
  refine go_aload_n (i := 0) dx_X5_init_16 rfl rfl ?_
  refine go_getA (b := 6) fs_X5_11 rfl ⟨rfl, (Nat.le_of_ble_eq_true rfl)⟩ rfl dx_X5_init_17 ?_
  refine go_arraylength dx_X5_init_20 ⟨(Or.inr (Or.inr (Or.inr rfl))), (Nat.le_of_ble_eq_true rfl)⟩ ?_
  refine go_asI (y := 10) (by rfl) ?_
  refine go_icmp_ge (tgt := 43) dx_X5_init_21 rfl (by decide) (by decide) (fun c => absurd c (by decide)) (fun c => ?_)
  refine go_aload_n (i := 0) dx_X5_init_24 rfl rfl ?_
  refine go_getA (b := 6) fs_X5_11 rfl ⟨rfl, (Nat.le_of_ble_eq_true rfl)⟩ rfl dx_X5_init_25 ?_
  refine go_iload_n (i := 1) dx_X5_init_28 rfl rfl ?_
  refine go_new (ci := 8) (N := 4) (n' := 16) (c' := 10) (sl' := 94) rfl hr hd rfl lx_X5_9 nx_X9 zx_X9 dx_X5_init_29 rfl rfl rfl (Nat.le_of_ble_eq_true rfl) (Nat.le_of_ble_eq_true rfl) (fun hr hd => ?_)
  refine go_dup dx_X5_init_32 rfl ?_
  refine go_ctor (As := []) (rest := [vv_A 15, vv_I 4, vv_A 6]) (cm := 1) (sm := 16) (c' := 11) (sl' := 110) si_X5_17 dx_X5_init_33 rfl (Nat.le_of_ble_eq_true rfl) (by decide) rfl rfl (Nat.le_of_ble_eq_true rfl) (Nat.le_of_ble_eq_true rfl) (fun Q' hQ' => ct_X9_init_15 hr hd hQ') (fun hr hd => ?_)
  refine go_aast (i := 4) hr dx_X5_init_36 ⟨rfl, by decide⟩ (by decide) ⟨rfl, by decide⟩ (fun hr => ?_)
  refine go_iinc (lv' := [(0, vv_A 5), (1, vv_I 5)]) dx_X5_init_37 rfl (by decide) rfl ?_
  refine go_goto (tgt := 15) dx_X5_init_40 rfl ?_
  refine go_iload_n (i := 1) dx_X5_init_15 rfl rfl ?_
  refine go_aload_n (i := 0) dx_X5_init_16 rfl rfl ?_
  refine go_getA (b := 6) fs_X5_11 rfl ⟨rfl, (Nat.le_of_ble_eq_true rfl)⟩ rfl dx_X5_init_17 ?_
  refine go_arraylength dx_X5_init_20 ⟨(Or.inr (Or.inr (Or.inr rfl))), (Nat.le_of_ble_eq_true rfl)⟩ ?_
  refine go_asI (y := 10) (by rfl) ?_
  refine go_icmp_ge (tgt := 43) dx_X5_init_21 rfl (by decide) (by decide) (fun c => absurd c (by decide)) (fun c => ?_)
  refine go_aload_n (i := 0) dx_X5_init_24 rfl rfl ?_
  refine go_getA (b := 6) fs_X5_11 rfl ⟨rfl, (Nat.le_of_ble_eq_true rfl)⟩ rfl dx_X5_init_25 ?_
  refine go_iload_n (i := 1) dx_X5_init_28 rfl rfl ?_
  refine go_new (ci := 8) (N := 4) (n' := 18) (c' := 12) (sl' := 114) rfl hr hd rfl lx_X5_9 nx_X9 zx_X9 dx_X5_init_29 rfl rfl rfl (Nat.le_of_ble_eq_true rfl) (Nat.le_of_ble_eq_true rfl) (fun hr hd => ?_)
  refine go_dup dx_X5_init_32 rfl ?_
  refine go_ctor (As := []) (rest := [vv_A 17, vv_I 5, vv_A 6]) (cm := 1) (sm := 16) (c' := 13) (sl' := 130) si_X5_17 dx_X5_init_33 rfl (Nat.le_of_ble_eq_true rfl) (by decide) rfl rfl (Nat.le_of_ble_eq_true rfl) (Nat.le_of_ble_eq_true rfl) (fun Q' hQ' => ct_X9_init_17 hr hd hQ') (fun hr hd => ?_)
  refine go_aast (i := 5) hr dx_X5_init_36 ⟨rfl, by decide⟩ (by decide) ⟨rfl, by decide⟩ (fun hr => ?_)
  refine go_iinc (lv' := [(0, vv_A 5), (1, vv_I 6)]) dx_X5_init_37 rfl (by decide) rfl ?_
  refine go_goto (tgt := 15) dx_X5_init_40 rfl ?_
  refine go_iload_n (i := 1) dx_X5_init_15 rfl rfl ?_
  refine go_aload_n (i := 0) dx_X5_init_16 rfl rfl ?_
  refine go_getA (b := 6) fs_X5_11 rfl ⟨rfl, (Nat.le_of_ble_eq_true rfl)⟩ rfl dx_X5_init_17 ?_
  refine go_arraylength dx_X5_init_20 ⟨(Or.inr (Or.inr (Or.inr rfl))), (Nat.le_of_ble_eq_true rfl)⟩ ?_
  refine go_asI (y := 10) (by rfl) ?_
  refine go_icmp_ge (tgt := 43) dx_X5_init_21 rfl (by decide) (by decide) (fun c => absurd c (by decide)) (fun c => ?_)
  refine go_aload_n (i := 0) dx_X5_init_24 rfl rfl ?_
  refine go_getA (b := 6) fs_X5_11 rfl ⟨rfl, (Nat.le_of_ble_eq_true rfl)⟩ rfl dx_X5_init_25 ?_
  refine go_iload_n (i := 1) dx_X5_init_28 rfl rfl ?_
  refine go_new (ci := 8) (N := 4) (n' := 20) (c' := 14) (sl' := 134) rfl hr hd rfl lx_X5_9 nx_X9 zx_X9 dx_X5_init_29 rfl rfl rfl (Nat.le_of_ble_eq_true rfl) (Nat.le_of_ble_eq_true rfl) (fun hr hd => ?_)
  refine go_dup dx_X5_init_32 rfl ?_
  refine go_ctor (As := []) (rest := [vv_A 19, vv_I 6, vv_A 6]) (cm := 1) (sm := 16) (c' := 15) (sl' := 150) si_X5_17 dx_X5_init_33 rfl (Nat.le_of_ble_eq_true rfl) (by decide) rfl rfl (Nat.le_of_ble_eq_true rfl) (Nat.le_of_ble_eq_true rfl) (fun Q' hQ' => ct_X9_init_19 hr hd hQ') (fun hr hd => ?_)
  refine go_aast (i := 6) hr dx_X5_init_36 ⟨rfl, by decide⟩ (by decide) ⟨rfl, by decide⟩ (fun hr => ?_)
  refine go_iinc (lv' := [(0, vv_A 5), (1, vv_I 7)]) dx_X5_init_37 rfl (by decide) rfl ?_
  refine go_goto (tgt := 15) dx_X5_init_40 rfl ?_
  refine go_iload_n (i := 1) dx_X5_init_15 rfl rfl ?_
  refine go_aload_n (i := 0) dx_X5_init_16 rfl rfl ?_
  refine go_getA (b := 6) fs_X5_11 rfl ⟨rfl, (Nat.le_of_ble_eq_true rfl)⟩ rfl dx_X5_init_17 ?_
  refine go_arraylength dx_X5_init_20 ⟨(Or.inr (Or.inr (Or.inr rfl))), (Nat.le_of_ble_eq_true rfl)⟩ ?_
  refine go_asI (y := 10) (by rfl) ?_
  refine go_icmp_ge (tgt := 43) dx_X5_init_21 rfl (by decide) (by decide) (fun c => absurd c (by decide)) (fun c => ?_)
  refine go_aload_n (i := 0) dx_X5_init_24 rfl rfl ?_
  refine go_getA (b := 6) fs_X5_11 rfl ⟨rfl, (Nat.le_of_ble_eq_true rfl)⟩ rfl dx_X5_init_25 ?_
  refine go_iload_n (i := 1) dx_X5_init_28 rfl rfl ?_
  refine go_new (ci := 8) (N := 4) (n' := 22) (c' := 16) (sl' := 154) rfl hr hd rfl lx_X5_9 nx_X9 zx_X9 dx_X5_init_29 rfl rfl rfl (Nat.le_of_ble_eq_true rfl) (Nat.le_of_ble_eq_true rfl) (fun hr hd => ?_)
  refine go_dup dx_X5_init_32 rfl ?_
  refine go_ctor (As := []) (rest := [vv_A 21, vv_I 7, vv_A 6]) (cm := 1) (sm := 16) (c' := 17) (sl' := 170) si_X5_17 dx_X5_init_33 rfl (Nat.le_of_ble_eq_true rfl) (by decide) rfl rfl (Nat.le_of_ble_eq_true rfl) (Nat.le_of_ble_eq_true rfl) (fun Q' hQ' => ct_X9_init_21 hr hd hQ') (fun hr hd => ?_)
  refine go_aast (i := 7) hr dx_X5_init_36 ⟨rfl, by decide⟩ (by decide) ⟨rfl, by decide⟩ (fun hr => ?_)
  refine go_iinc (lv' := [(0, vv_A 5), (1, vv_I 8)]) dx_X5_init_37 rfl (by decide) rfl ?_
  refine go_goto (tgt := 15) dx_X5_init_40 rfl ?_
  refine go_iload_n (i := 1) dx_X5_init_15 rfl rfl ?_
  refine go_aload_n (i := 0) dx_X5_init_16 rfl rfl ?_
  refine go_getA (b := 6) fs_X5_11 rfl ⟨rfl, (Nat.le_of_ble_eq_true rfl)⟩ rfl dx_X5_init_17 ?_
  refine go_arraylength dx_X5_init_20 ⟨(Or.inr (Or.inr (Or.inr rfl))), (Nat.le_of_ble_eq_true rfl)⟩ ?_
  refine go_asI (y := 10) (by rfl) ?_
  refine go_icmp_ge (tgt := 43) dx_X5_init_21 rfl (by decide) (by decide) (fun c => absurd c (by decide)) (fun c => ?_)
  refine go_aload_n (i := 0) dx_X5_init_24 rfl rfl ?_
  refine go_getA (b := 6) fs_X5_11 rfl ⟨rfl, (Nat.le_of_ble_eq_true rfl)⟩ rfl dx_X5_init_25 ?_
  refine go_iload_n (i := 1) dx_X5_init_28 rfl rfl ?_
  refine go_new (ci := 8) (N := 4) (n' := 24) (c' := 18) (sl' := 174) rfl hr hd rfl lx_X5_9 nx_X9 zx_X9 dx_X5_init_29 rfl rfl rfl (Nat.le_of_ble_eq_true rfl) (Nat.le_of_ble_eq_true rfl) (fun hr hd => ?_)
  refine go_dup dx_X5_init_32 rfl ?_
  refine go_ctor (As := []) (rest := [vv_A 23, vv_I 8, vv_A 6]) (cm := 1) (sm := 16) (c' := 19) (sl' := 190) si_X5_17 dx_X5_init_33 rfl (Nat.le_of_ble_eq_true rfl) (by decide) rfl rfl (Nat.le_of_ble_eq_true rfl) (Nat.le_of_ble_eq_true rfl) (fun Q' hQ' => ct_X9_init_23 hr hd hQ') (fun hr hd => ?_)
  refine go_aast (i := 8) hr dx_X5_init_36 ⟨rfl, by decide⟩ (by decide) ⟨rfl, by decide⟩ (fun hr => ?_)
  refine go_iinc (lv' := [(0, vv_A 5), (1, vv_I 9)]) dx_X5_init_37 rfl (by decide) rfl ?_
  refine go_goto (tgt := 15) dx_X5_init_40 rfl ?_
  refine go_iload_n (i := 1) dx_X5_init_15 rfl rfl ?_
  refine go_aload_n (i := 0) dx_X5_init_16 rfl rfl ?_
  refine go_getA (b := 6) fs_X5_11 rfl ⟨rfl, (Nat.le_of_ble_eq_true rfl)⟩ rfl dx_X5_init_17 ?_
  refine go_arraylength dx_X5_init_20 ⟨(Or.inr (Or.inr (Or.inr rfl))), (Nat.le_of_ble_eq_true rfl)⟩ ?_
  refine go_asI (y := 10) (by rfl) ?_
  refine go_icmp_ge (tgt := 43) dx_X5_init_21 rfl (by decide) (by decide) (fun c => absurd c (by decide)) (fun c => ?_)
  refine go_aload_n (i := 0) dx_X5_init_24 rfl rfl ?_
  refine go_getA (b := 6) fs_X5_11 rfl ⟨rfl, (Nat.le_of_ble_eq_true rfl)⟩ rfl dx_X5_init_25 ?_
  refine go_iload_n (i := 1) dx_X5_init_28 rfl rfl ?_
  refine go_new (ci := 8) (N := 4) (n' := 26) (c' := 20) (sl' := 194) rfl hr hd rfl lx_X5_9 nx_X9 zx_X9 dx_X5_init_29 rfl rfl rfl (Nat.le_of_ble_eq_true rfl) (Nat.le_of_ble_eq_true rfl) (fun hr hd => ?_)
  refine go_dup dx_X5_init_32 rfl ?_
  refine go_ctor (As := []) (rest := [vv_A 25, vv_I 9, vv_A 6]) (cm := 1) (sm := 16) (c' := 21) (sl' := 210) si_X5_17 dx_X5_init_33 rfl (Nat.le_of_ble_eq_true rfl) (by decide) rfl rfl (Nat.le_of_ble_eq_true rfl) (Nat.le_of_ble_eq_true rfl) (fun Q' hQ' => ct_X9_init_25 hr hd hQ') (fun hr hd => ?_)
  refine go_aast (i := 9) hr dx_X5_init_36 ⟨rfl, by decide⟩ (by decide) ⟨rfl, by decide⟩ (fun hr => ?_)
  refine go_iinc (lv' := [(0, vv_A 5), (1, vv_I 10)]) dx_X5_init_37 rfl (by decide) rfl ?_
  refine go_goto (tgt := 15) dx_X5_init_40 rfl ?_
  refine go_iload_n (i := 1) dx_X5_init_15 rfl rfl ?_
  refine go_aload_n (i := 0) dx_X5_init_16 rfl rfl ?_
  refine go_getA (b := 6) fs_X5_11 rfl ⟨rfl, (Nat.le_of_ble_eq_true rfl)⟩ rfl dx_X5_init_17 ?_
  refine go_arraylength dx_X5_init_20 ⟨(Or.inr (Or.inr (Or.inr rfl))), (Nat.le_of_ble_eq_true rfl)⟩ ?_
  refine go_asI (y := 10) (by rfl) ?_
  refine go_icmp_ge (tgt := 43) dx_X5_init_21 rfl (by decide) (by decide) (fun c => ?_) (fun c => absurd c (by decide))
  refine go_aload_n (i := 0) dx_X5_init_43 rfl rfl ?_
  refine go_iconst dx_X5_init_44 ?_
  refine go_anew (N := 2) (n' := 28) (c' := 22) (sl' := 212) hr hd lx_X5_9 dx_X5_init_45 rfl rfl rfl rfl rfl rfl (Nat.le_of_ble_eq_true rfl) (Nat.le_of_ble_eq_true rfl) (fun hr hd => ?_)
  refine go_pA hr fp_X5_18 rfl (Or.inr ⟨_, rfl⟩) rfl ⟨rfl, by decide⟩ dx_X5_init_48 (fun hr => ?_)
  refine go_iconst dx_X5_init_51 ?_
  refine go_istore_n (i := 1) (lv' := [(0, vv_A 5), (1, vv_I 0)]) dx_X5_init_52 rfl (by decide) rfl ?_
  refine go_iload_n (i := 1) dx_X5_init_53 rfl rfl ?_
  refine go_aload_n (i := 0) dx_X5_init_54 rfl rfl ?_
  refine go_getA (b := 27) fs_X5_18 rfl ⟨rfl, (Nat.le_of_ble_eq_true rfl)⟩ rfl dx_X5_init_55 ?_
  refine go_arraylength dx_X5_init_58 ⟨(Or.inr (Or.inr (Or.inr rfl))), (Nat.le_of_ble_eq_true rfl)⟩ ?_
  refine go_asI (y := 2) (by rfl) ?_
  refine go_icmp_ge (tgt := 81) dx_X5_init_59 rfl (by decide) (by decide) (fun c => absurd c (by decide)) (fun c => ?_)
  refine go_aload_n (i := 0) dx_X5_init_62 rfl rfl ?_
  refine go_getA (b := 27) fs_X5_18 rfl ⟨rfl, (Nat.le_of_ble_eq_true rfl)⟩ rfl dx_X5_init_63 ?_
  refine go_iload_n (i := 1) dx_X5_init_66 rfl rfl ?_
  refine go_new (ci := 8) (N := 4) (n' := 29) (c' := 23) (sl' := 216) rfl hr hd rfl lx_X5_9 nx_X9 zx_X9 dx_X5_init_67 rfl rfl rfl (Nat.le_of_ble_eq_true rfl) (Nat.le_of_ble_eq_true rfl) (fun hr hd => ?_)
  refine go_dup dx_X5_init_70 rfl ?_
  refine go_ctor (As := []) (rest := [vv_A 28, vv_I 0, vv_A 27]) (cm := 1) (sm := 16) (c' := 24) (sl' := 232) si_X5_17 dx_X5_init_71 rfl (Nat.le_of_ble_eq_true rfl) (by decide) rfl rfl (Nat.le_of_ble_eq_true rfl) (Nat.le_of_ble_eq_true rfl) (fun Q' hQ' => ct_X9_init_28 hr hd hQ') (fun hr hd => ?_)
  refine go_aast (i := 0) hr dx_X5_init_74 ⟨rfl, by decide⟩ (by decide) ⟨rfl, by decide⟩ (fun hr => ?_)
  refine go_iinc (lv' := [(0, vv_A 5), (1, vv_I 1)]) dx_X5_init_75 rfl (by decide) rfl ?_
  refine go_goto (tgt := 53) dx_X5_init_78 rfl ?_
  refine go_iload_n (i := 1) dx_X5_init_53 rfl rfl ?_
  refine go_aload_n (i := 0) dx_X5_init_54 rfl rfl ?_
  refine go_getA (b := 27) fs_X5_18 rfl ⟨rfl, (Nat.le_of_ble_eq_true rfl)⟩ rfl dx_X5_init_55 ?_
  refine go_arraylength dx_X5_init_58 ⟨(Or.inr (Or.inr (Or.inr rfl))), (Nat.le_of_ble_eq_true rfl)⟩ ?_
  refine go_asI (y := 2) (by rfl) ?_
  refine go_icmp_ge (tgt := 81) dx_X5_init_59 rfl (by decide) (by decide) (fun c => absurd c (by decide)) (fun c => ?_)
  refine go_aload_n (i := 0) dx_X5_init_62 rfl rfl ?_
  refine go_getA (b := 27) fs_X5_18 rfl ⟨rfl, (Nat.le_of_ble_eq_true rfl)⟩ rfl dx_X5_init_63 ?_
  refine go_iload_n (i := 1) dx_X5_init_66 rfl rfl ?_
  refine go_new (ci := 8) (N := 4) (n' := 31) (c' := 25) (sl' := 236) rfl hr hd rfl lx_X5_9 nx_X9 zx_X9 dx_X5_init_67 rfl rfl rfl (Nat.le_of_ble_eq_true rfl) (Nat.le_of_ble_eq_true rfl) (fun hr hd => ?_)
  refine go_dup dx_X5_init_70 rfl ?_
  refine go_ctor (As := []) (rest := [vv_A 30, vv_I 1, vv_A 27]) (cm := 1) (sm := 16) (c' := 26) (sl' := 252) si_X5_17 dx_X5_init_71 rfl (Nat.le_of_ble_eq_true rfl) (by decide) rfl rfl (Nat.le_of_ble_eq_true rfl) (Nat.le_of_ble_eq_true rfl) (fun Q' hQ' => ct_X9_init_30 hr hd hQ') (fun hr hd => ?_)
  refine go_aast (i := 1) hr dx_X5_init_74 ⟨rfl, by decide⟩ (by decide) ⟨rfl, by decide⟩ (fun hr => ?_)
  refine go_iinc (lv' := [(0, vv_A 5), (1, vv_I 2)]) dx_X5_init_75 rfl (by decide) rfl ?_
  refine go_goto (tgt := 53) dx_X5_init_78 rfl ?_
  refine go_iload_n (i := 1) dx_X5_init_53 rfl rfl ?_
  refine go_aload_n (i := 0) dx_X5_init_54 rfl rfl ?_
  refine go_getA (b := 27) fs_X5_18 rfl ⟨rfl, (Nat.le_of_ble_eq_true rfl)⟩ rfl dx_X5_init_55 ?_
  refine go_arraylength dx_X5_init_58 ⟨(Or.inr (Or.inr (Or.inr rfl))), (Nat.le_of_ble_eq_true rfl)⟩ ?_
  refine go_asI (y := 2) (by rfl) ?_
  refine go_icmp_ge (tgt := 81) dx_X5_init_59 rfl (by decide) (by decide) (fun c => ?_) (fun c => absurd c (by decide))
  refine go_aload_n (i := 0) dx_X5_init_81 rfl rfl ?_
  refine go_iconst dx_X5_init_82 ?_
  refine go_newZ (N := 2) (n' := 33) (c' := 27) (sl' := 254) hr hd dx_X5_init_83 rfl rfl rfl rfl rfl rfl (Nat.le_of_ble_eq_true rfl) (Nat.le_of_ble_eq_true rfl) (fun hr hd => ?_)
  refine go_pA hr fp_X5_21 rfl (Or.inr ⟨_, rfl⟩) rfl ⟨rfl, by decide⟩ dx_X5_init_85 (fun hr => ?_)
  refine go_vreturn dx_X5_init_88 rfl (Nat.le_refl _) (Nat.le_refl _) ?_
  exact hQ hr hd
theorem ct_X0_init_33 {E : go_E} {d : Nat} {ρ : Nat → Nat → Nat} {δ : Nat → Nat → Int} {Q : List go_V → go_F → (Nat → Nat → Int) → Prop} (hr : fz 0 34 ρ) (hd : fz 0 34 δ) (hQ : fz 0 44 (wr (wr (wr (wr (wr (wr (wr (wr (wr (wr ρ 33 0 35) 33 2 36) 33 3 37) 33 4 38) 33 6 39) 33 7 40) 33 9 41) 33 10 42) 33 12 43) 33 13 44) → fz 0 44 δ → Q [] (44, (wr (wr (wr (wr (wr (wr (wr (wr (wr (wr ρ 33 0 35) 33 2 36) 33 3 37) 33 4 38) 33 6 39) 33 7 40) 33 9 41) 33 10 42) 33 12 43) 33 13 44), 10, 334) δ) : Go E (d + 1) (10, 334) mx_X0_init (34, ρ, 0, 0) 0 [(0, vv_A 33)] [] δ Q := by
  refine go_aload_n (i := 0) dx_X0_init_0 rfl rfl ?_
  refine go_objI oi_X0 oi_i oi_c dx_X0_init_1 (by decide) ?_
  refine go_aload_n (i := 0) dx_X0_init_4 rfl rfl ?_
  refine go_bipush dx_X0_init_5 rfl ?_
  refine go_newI (N := 64) (n' := 35) (c' := 1) (sl' := 64) hr hd dx_X0_init_7 rfl rfl rfl rfl rfl rfl (Nat.le_of_ble_eq_true rfl) (Nat.le_of_ble_eq_true rfl) (fun hr hd => ?_)
  refine go_pA hr fp_X0_9 rfl (Or.inr ⟨_, rfl⟩) rfl ⟨rfl, by decide⟩ dx_X0_init_9 (fun hr => ?_)
  refine go_aload_n (i := 0) dx_X0_init_12 rfl rfl ?_
  refine go_bipush dx_X0_init_13 rfl ?_
  refine go_newI (N := 16) (n' := 36) (c' := 2) (sl' := 80) hr hd dx_X0_init_15 rfl rfl rfl rfl rfl rfl (Nat.le_of_ble_eq_true rfl) (Nat.le_of_ble_eq_true rfl) (fun hr hd => ?_)
  refine go_pA hr fp_X0_15 rfl (Or.inr ⟨_, rfl⟩) rfl ⟨rfl, by decide⟩ dx_X0_init_17 (fun hr => ?_)
  refine go_aload_n (i := 0) dx_X0_init_20 rfl rfl ?_
  refine go_bipush dx_X0_init_21 rfl ?_
  refine go_newI (N := 48) (n' := 37) (c' := 3) (sl' := 128) hr hd dx_X0_init_23 rfl rfl rfl rfl rfl rfl (Nat.le_of_ble_eq_true rfl) (Nat.le_of_ble_eq_true rfl) (fun hr hd => ?_)
  refine go_pA hr fp_X0_18 rfl (Or.inr ⟨_, rfl⟩) rfl ⟨rfl, by decide⟩ dx_X0_init_25 (fun hr => ?_)
  refine go_aload_n (i := 0) dx_X0_init_28 rfl rfl ?_
  refine go_bipush dx_X0_init_29 rfl ?_
  refine go_newI (N := 48) (n' := 38) (c' := 4) (sl' := 176) hr hd dx_X0_init_31 rfl rfl rfl rfl rfl rfl (Nat.le_of_ble_eq_true rfl) (Nat.le_of_ble_eq_true rfl) (fun hr hd => ?_)
  refine go_pA hr fp_X0_21 rfl (Or.inr ⟨_, rfl⟩) rfl ⟨rfl, by decide⟩ dx_X0_init_33 (fun hr => ?_)
  refine go_aload_n (i := 0) dx_X0_init_36 rfl rfl ?_
  refine go_bipush dx_X0_init_37 rfl ?_
  refine go_newI (N := 8) (n' := 39) (c' := 5) (sl' := 184) hr hd dx_X0_init_39 rfl rfl rfl rfl rfl rfl (Nat.le_of_ble_eq_true rfl) (Nat.le_of_ble_eq_true rfl) (fun hr hd => ?_)
  refine go_pA hr fp_X0_24 rfl (Or.inr ⟨_, rfl⟩) rfl ⟨rfl, by decide⟩ dx_X0_init_41 (fun hr => ?_)
  refine go_aload_n (i := 0) dx_X0_init_44 rfl rfl ?_
  refine go_bipush dx_X0_init_45 rfl ?_
  refine go_newI (N := 8) (n' := 40) (c' := 6) (sl' := 192) hr hd dx_X0_init_47 rfl rfl rfl rfl rfl rfl (Nat.le_of_ble_eq_true rfl) (Nat.le_of_ble_eq_true rfl) (fun hr hd => ?_)
  refine go_pA hr fp_X0_27 rfl (Or.inr ⟨_, rfl⟩) rfl ⟨rfl, by decide⟩ dx_X0_init_49 (fun hr => ?_)
  refine go_aload_n (i := 0) dx_X0_init_52 rfl rfl ?_
  refine go_bipush dx_X0_init_53 rfl ?_
  refine go_newI (N := 8) (n' := 41) (c' := 7) (sl' := 200) hr hd dx_X0_init_55 rfl rfl rfl rfl rfl rfl (Nat.le_of_ble_eq_true rfl) (Nat.le_of_ble_eq_true rfl) (fun hr hd => ?_)
  refine go_pA hr fp_X0_30 rfl (Or.inr ⟨_, rfl⟩) rfl ⟨rfl, by decide⟩ dx_X0_init_57 (fun hr => ?_)
  refine go_aload_n (i := 0) dx_X0_init_60 rfl rfl ?_
  refine go_bipush dx_X0_init_61 rfl ?_
  refine go_newI (N := 62) (n' := 42) (c' := 8) (sl' := 262) hr hd dx_X0_init_63 rfl rfl rfl rfl rfl rfl (Nat.le_of_ble_eq_true rfl) (Nat.le_of_ble_eq_true rfl) (fun hr hd => ?_)
  refine go_pA hr fp_X0_33 rfl (Or.inr ⟨_, rfl⟩) rfl ⟨rfl, by decide⟩ dx_X0_init_65 (fun hr => ?_)
  refine go_aload_n (i := 0) dx_X0_init_68 rfl rfl ?_
  refine go_bipush dx_X0_init_69 rfl ?_
  refine go_newI (N := 64) (n' := 43) (c' := 9) (sl' := 326) hr hd dx_X0_init_71 rfl rfl rfl rfl rfl rfl (Nat.le_of_ble_eq_true rfl) (Nat.le_of_ble_eq_true rfl) (fun hr hd => ?_)
  refine go_pA hr fp_X0_36 rfl (Or.inr ⟨_, rfl⟩) rfl ⟨rfl, by decide⟩ dx_X0_init_73 (fun hr => ?_)
  refine go_aload_n (i := 0) dx_X0_init_76 rfl rfl ?_
  refine go_bipush dx_X0_init_77 rfl ?_
  refine go_newI (N := 8) (n' := 44) (c' := 10) (sl' := 334) hr hd dx_X0_init_79 rfl rfl rfl rfl rfl rfl (Nat.le_of_ble_eq_true rfl) (Nat.le_of_ble_eq_true rfl) (fun hr hd => ?_)
  refine go_pA hr fp_X0_39 rfl (Or.inr ⟨_, rfl⟩) rfl ⟨rfl, by decide⟩ dx_X0_init_81 (fun hr => ?_)
  refine go_vreturn dx_X0_init_84 rfl (Nat.le_refl _) (Nat.le_refl _) ?_
  exact hQ hr hd
theorem ct_X1_init_44 {E : go_E} {d : Nat} {ρ : Nat → Nat → Nat} {δ : Nat → Nat → Int} {Q : List go_V → go_F → (Nat → Nat → Int) → Prop} (hr : fz 0 45 ρ) (hd : fz 0 45 δ) (hQ : fz 0 49 (wr (wr (wr (wr ρ 44 1 46) 44 2 47) 44 3 48) 44 4 49) → fz 0 49 (wr δ 44 0 0) → Q [] (49, (wr (wr (wr (wr ρ 44 1 46) 44 2 47) 44 3 48) 44 4 49), 4, 149) (wr δ 44 0 0)) : Go E (d + 1) (4, 149) mx_X1_init (45, ρ, 0, 0) 0 [(0, vv_A 44), (1, vv_I 0)] [] δ Q := by
  refine go_aload_n (i := 0) dx_X1_init_0 rfl rfl ?_
  refine go_objI oi_X1 oi_i oi_c dx_X1_init_1 (by decide) ?_
  refine go_aload_n (i := 0) dx_X1_init_4 rfl rfl ?_
  refine go_iload_n (i := 1) dx_X1_init_5 rfl rfl ?_
  refine go_pZ hd fp_X1_9 rfl rfl ⟨rfl, by decide⟩ (by decide) dx_X1_init_6 (fun hd => ?_)
  refine go_aload_n (i := 0) dx_X1_init_9 rfl rfl ?_
  refine go_bipush dx_X1_init_10 rfl ?_
  refine go_newI (N := 14) (n' := 46) (c' := 1) (sl' := 14) hr hd dx_X1_init_12 rfl rfl rfl rfl rfl rfl (Nat.le_of_ble_eq_true rfl) (Nat.le_of_ble_eq_true rfl) (fun hr hd => ?_)
  refine go_pA hr fp_X1_15 rfl (Or.inr ⟨_, rfl⟩) rfl ⟨rfl, by decide⟩ dx_X1_init_14 (fun hr => ?_)
  refine go_aload_n (i := 0) dx_X1_init_17 rfl rfl ?_
  refine go_iload_n (i := 1) dx_X1_init_18 rfl rfl ?_
  refine go_if_eq (tgt := 27) dx_X1_init_19 rfl (by decide) (fun c => ?_) (fun c => absurd c (by decide))
  refine go_bipush dx_X1_init_27 rfl ?_
  refine go_newL (N := 105) (n' := 47) (c' := 2) (sl' := 119) hr hd dx_X1_init_29 rfl rfl rfl rfl rfl rfl (Nat.le_of_ble_eq_true rfl) (Nat.le_of_ble_eq_true rfl) (fun hr hd => ?_)
  refine go_pA hr fp_X1_19 rfl (Or.inr ⟨_, rfl⟩) rfl ⟨rfl, by decide⟩ dx_X1_init_31 (fun hr => ?_)
  refine go_aload_n (i := 0) dx_X1_init_34 rfl rfl ?_
  refine go_bipush dx_X1_init_35 rfl ?_
  refine go_newI (N := 15) (n' := 48) (c' := 3) (sl' := 134) hr hd dx_X1_init_37 rfl rfl rfl rfl rfl rfl (Nat.le_of_ble_eq_true rfl) (Nat.le_of_ble_eq_true rfl) (fun hr hd => ?_)
  refine go_pA hr fp_X1_23 rfl (Or.inr ⟨_, rfl⟩) rfl ⟨rfl, by decide⟩ dx_X1_init_39 (fun hr => ?_)
  refine go_aload_n (i := 0) dx_X1_init_42 rfl rfl ?_
  refine go_bipush dx_X1_init_43 rfl ?_
  refine go_newL (N := 15) (n' := 49) (c' := 4) (sl' := 149) hr hd dx_X1_init_45 rfl rfl rfl rfl rfl rfl (Nat.le_of_ble_eq_true rfl) (Nat.le_of_ble_eq_true rfl) (fun hr hd => ?_)
  refine go_pA hr fp_X1_26 rfl (Or.inr ⟨_, rfl⟩) rfl ⟨rfl, by decide⟩ dx_X1_init_47 (fun hr => ?_)
  refine go_vreturn dx_X1_init_50 rfl (Nat.le_refl _) (Nat.le_refl _) ?_
  exact hQ hr hd
theorem ct_X7_init_49 {E : go_E} {d : Nat} {ρ : Nat → Nat → Nat} {δ : Nat → Nat → Int} {Q : List go_V → go_F → (Nat → Nat → Int) → Prop} (hr : fz 0 50 ρ) (hd : fz 0 50 δ) (hQ : fz 0 52 (wr (wr (wr (wr ρ 49 0 34) 49 1 45) 49 4 51) 49 5 52) → fz 0 52 (wr (wr δ 49 2 0) 49 3 (-1)) → Q [] (52, (wr (wr (wr (wr ρ 49 0 34) 49 1 45) 49 4 51) 49 5 52), 2, 6572) (wr (wr δ 49 2 0) 49 3 (-1))) : Go E (d + 1) (2, 6572) mx_X7_init (50, ρ, 0, 0) 0 [(0, vv_A 49), (1, vv_A 33), (2, vv_A 44), (3, vv_I 0), (4, vv_L (-1))] [] δ Q := by
  refine go_aload_n (i := 0) dx_X7_init_0 rfl rfl ?_
  refine go_objI oi_X7 oi_i oi_c dx_X7_init_1 (by decide) ?_
  refine go_aload_n (i := 0) dx_X7_init_4 rfl rfl ?_
  refine go_aload_n (i := 1) dx_X7_init_5 rfl rfl ?_
  refine go_pA hr fp_X7_9_6 rfl (Or.inl ⟨_, rfl⟩) rfl ⟨rfl, by decide⟩ dx_X7_init_6 (fun hr => ?_)
  refine go_aload_n (i := 0) dx_X7_init_9 rfl rfl ?_
  refine go_aload_n (i := 2) dx_X7_init_10 rfl rfl ?_
  refine go_pA hr fp_X7_15_6 rfl (Or.inl ⟨_, rfl⟩) rfl ⟨rfl, by decide⟩ dx_X7_init_11 (fun hr => ?_)
  refine go_aload_n (i := 0) dx_X7_init_14 rfl rfl ?_
  refine go_iload_n (i := 3) dx_X7_init_15 rfl rfl ?_
  refine go_pZ hd fp_X7_19_6 rfl rfl ⟨rfl, by decide⟩ (by decide) dx_X7_init_16 (fun hd => ?_)
  refine go_aload_n (i := 0) dx_X7_init_19 rfl rfl ?_
  refine go_lload dx_X7_init_20 rfl ?_
  refine go_pL hd fp_X7_23_6 rfl rfl ⟨rfl, by decide⟩ dx_X7_init_22 (fun hd => ?_)
  refine go_aload_n (i := 0) dx_X7_init_25 rfl rfl ?_
  refine go_iload_n (i := 3) dx_X7_init_26 rfl rfl ?_
  refine go_if_eq (tgt := 35) dx_X7_init_27 rfl (by decide) (fun c => ?_) (fun c => absurd c (by decide))
  refine go_bipush dx_X7_init_35 rfl ?_
  refine go_bipush dx_X7_init_37 rfl ?_
  refine go_imul dx_X7_init_39 ?_
  refine go_asI (y := 6510) (by decide) ?_
  refine go_newL (N := 6510) (n' := 51) (c' := 1) (sl' := 6510) hr hd dx_X7_init_40 rfl rfl rfl rfl rfl rfl (Nat.le_of_ble_eq_true rfl) (Nat.le_of_ble_eq_true rfl) (fun hr hd => ?_)
  refine go_pA hr fp_X7_27_6 rfl (Or.inr ⟨_, rfl⟩) rfl ⟨rfl, by decide⟩ dx_X7_init_42 (fun hr => ?_)
  refine go_aload_n (i := 0) dx_X7_init_45 rfl rfl ?_
  refine go_bipush dx_X7_init_46 rfl ?_
  refine go_newL (N := 62) (n' := 52) (c' := 2) (sl' := 6572) hr hd dx_X7_init_48 rfl rfl rfl rfl rfl rfl (Nat.le_of_ble_eq_true rfl) (Nat.le_of_ble_eq_true rfl) (fun hr hd => ?_)
  refine go_pA hr fp_X7_31_6 rfl (Or.inr ⟨_, rfl⟩) rfl ⟨rfl, by decide⟩ dx_X7_init_50 (fun hr => ?_)
  refine go_vreturn dx_X7_init_53 rfl (Nat.le_refl _) (Nat.le_refl _) ?_
  exact hQ hr hd
theorem ct_X6_init_49 {E : go_E} {d : Nat} {ρ : Nat → Nat → Nat} {δ : Nat → Nat → Int} {Q : List go_V → go_F → (Nat → Nat → Int) → Prop} (hr : fz 0 50 ρ) (hd : fz 0 50 δ) (hQ : fz 0 52 (wr (wr (wr (wr ρ 49 0 34) 49 1 45) 49 4 51) 49 5 52) → fz 0 52 (wr (wr δ 49 2 0) 49 3 (-1)) → Q [] (52, (wr (wr (wr (wr ρ 49 0 34) 49 1 45) 49 4 51) 49 5 52), 2, 6572) (wr (wr δ 49 2 0) 49 3 (-1))) : Go E (d + 2) (2, 6572) mx_X6_init (50, ρ, 0, 0) 0 [(0, vv_A 49), (1, vv_A 33), (2, vv_A 44)] [] δ Q := by
  refine go_aload_n (i := 0) dx_X6_init_0 rfl rfl ?_
  refine go_aload_n (i := 1) dx_X6_init_1 rfl rfl ?_
  refine go_aload_n (i := 2) dx_X6_init_2 rfl rfl ?_
  refine go_iconst dx_X6_init_3 ?_
  refine go_ldc2 (x := (-1)) kx_X6_3 dx_X6_init_4 ?_
  refine go_ctor (As := [vv_A 33, vv_A 44, vv_I 0, vv_L (-1)]) (rest := []) (cm := 2) (sm := 6572) (c' := 2) (sl' := 6572) si_X6_5 dx_X6_init_7 rfl (Nat.le_of_ble_eq_true rfl) (by decide) rfl rfl (Nat.le_of_ble_eq_true rfl) (Nat.le_of_ble_eq_true rfl) (fun Q' hQ' => ct_X7_init_49 hr hd hQ') (fun hr hd => ?_)
  refine go_vreturn dx_X6_init_10 rfl (Nat.le_refl _) (Nat.le_refl _) ?_
  exact hQ hr hd
theorem ct_X7_init_52 {E : go_E} {d : Nat} {ρ : Nat → Nat → Nat} {δ : Nat → Nat → Int} {Q : List go_V → go_F → (Nat → Nat → Int) → Prop} (hr : fz 0 53 ρ) (hd : fz 0 53 δ) (hQ : fz 0 55 (wr (wr (wr (wr ρ 52 0 34) 52 1 45) 52 4 54) 52 5 55) → fz 0 55 (wr (wr δ 52 2 0) 52 3 0) → Q [] (55, (wr (wr (wr (wr ρ 52 0 34) 52 1 45) 52 4 54) 52 5 55), 2, 6572) (wr (wr δ 52 2 0) 52 3 0)) : Go E (d + 1) (2, 6572) mx_X7_init (53, ρ, 0, 0) 0 [(0, vv_A 52), (1, vv_A 33), (2, vv_A 44), (3, vv_I 0), (4, vv_L 0)] [] δ Q := by
  refine go_aload_n (i := 0) dx_X7_init_0 rfl rfl ?_
  refine go_objI oi_X7 oi_i oi_c dx_X7_init_1 (by decide) ?_
  refine go_aload_n (i := 0) dx_X7_init_4 rfl rfl ?_
  refine go_aload_n (i := 1) dx_X7_init_5 rfl rfl ?_
  refine go_pA hr fp_X7_9_2 rfl (Or.inl ⟨_, rfl⟩) rfl ⟨rfl, by decide⟩ dx_X7_init_6 (fun hr => ?_)
  refine go_aload_n (i := 0) dx_X7_init_9 rfl rfl ?_
  refine go_aload_n (i := 2) dx_X7_init_10 rfl rfl ?_
  refine go_pA hr fp_X7_15_2 rfl (Or.inl ⟨_, rfl⟩) rfl ⟨rfl, by decide⟩ dx_X7_init_11 (fun hr => ?_)
  refine go_aload_n (i := 0) dx_X7_init_14 rfl rfl ?_
  refine go_iload_n (i := 3) dx_X7_init_15 rfl rfl ?_
  refine go_pZ hd fp_X7_19_2 rfl rfl ⟨rfl, by decide⟩ (by decide) dx_X7_init_16 (fun hd => ?_)
  refine go_aload_n (i := 0) dx_X7_init_19 rfl rfl ?_
  refine go_lload dx_X7_init_20 rfl ?_
  refine go_pL hd fp_X7_23_2 rfl rfl ⟨rfl, by decide⟩ dx_X7_init_22 (fun hd => ?_)
  refine go_aload_n (i := 0) dx_X7_init_25 rfl rfl ?_
  refine go_iload_n (i := 3) dx_X7_init_26 rfl rfl ?_
  refine go_if_eq (tgt := 35) dx_X7_init_27 rfl (by decide) (fun c => ?_) (fun c => absurd c (by decide))
  refine go_bipush dx_X7_init_35 rfl ?_
  refine go_bipush dx_X7_init_37 rfl ?_
  refine go_imul dx_X7_init_39 ?_
  refine go_asI (y := 6510) (by decide) ?_
  refine go_newL (N := 6510) (n' := 54) (c' := 1) (sl' := 6510) hr hd dx_X7_init_40 rfl rfl rfl rfl rfl rfl (Nat.le_of_ble_eq_true rfl) (Nat.le_of_ble_eq_true rfl) (fun hr hd => ?_)
  refine go_pA hr fp_X7_27_2 rfl (Or.inr ⟨_, rfl⟩) rfl ⟨rfl, by decide⟩ dx_X7_init_42 (fun hr => ?_)
  refine go_aload_n (i := 0) dx_X7_init_45 rfl rfl ?_
  refine go_bipush dx_X7_init_46 rfl ?_
  refine go_newL (N := 62) (n' := 55) (c' := 2) (sl' := 6572) hr hd dx_X7_init_48 rfl rfl rfl rfl rfl rfl (Nat.le_of_ble_eq_true rfl) (Nat.le_of_ble_eq_true rfl) (fun hr hd => ?_)
  refine go_pA hr fp_X7_31_2 rfl (Or.inr ⟨_, rfl⟩) rfl ⟨rfl, by decide⟩ dx_X7_init_50 (fun hr => ?_)
  refine go_vreturn dx_X7_init_53 rfl (Nat.le_refl _) (Nat.le_refl _) ?_
  exact hQ hr hd
theorem ct_X2_init_52 {E : go_E} {d : Nat} {ρ : Nat → Nat → Nat} {δ : Nat → Nat → Int} {Q : List go_V → go_F → (Nat → Nat → Int) → Prop} (hr : fz 0 53 ρ) (hd : fz 0 53 δ) (hQ : fz 0 56 (wr (wr (wr (wr (wr ρ 52 0 34) 52 1 45) 52 4 54) 52 5 55) 52 7 56) → fz 0 56 (wr (wr δ 52 2 0) 52 3 0) → Q [] (56, (wr (wr (wr (wr (wr ρ 52 0 34) 52 1 45) 52 4 54) 52 5 55) 52 7 56), 3, 7412) (wr (wr δ 52 2 0) 52 3 0)) : Go E (d + 2) (3, 7412) mx_X2_init (53, ρ, 0, 0) 0 [(0, vv_A 52), (1, vv_A 33), (2, vv_A 44), (3, vv_I 0)] [] δ Q := by
  refine go_aload_n (i := 0) dx_X2_init_0 rfl rfl ?_
  refine go_aload_n (i := 1) dx_X2_init_1 rfl rfl ?_
  refine go_aload_n (i := 2) dx_X2_init_2 rfl rfl ?_
  refine go_iload_n (i := 3) dx_X2_init_3 rfl rfl ?_
  refine go_lconst (x := 0) dx_X2_init_4 rfl ?_
  refine go_ctor (As := [vv_A 33, vv_A 44, vv_I 0, vv_L 0]) (rest := []) (cm := 2) (sm := 6572) (c' := 2) (sl' := 6572) si_X2_3 dx_X2_init_5 rfl (Nat.le_of_ble_eq_true rfl) (by decide) rfl rfl (Nat.le_of_ble_eq_true rfl) (Nat.le_of_ble_eq_true rfl) (fun Q' hQ' => ct_X7_init_52 hr hd hQ') (fun hr hd => ?_)
  refine go_aload_n (i := 0) dx_X2_init_8 rfl rfl ?_
  refine go_iload_n (i := 3) dx_X2_init_9 rfl rfl ?_
  refine go_if_eq (tgt := 18) dx_X2_init_10 rfl (by decide) (fun c => ?_) (fun c => absurd c (by decide))
  refine go_bipush dx_X2_init_18 rfl ?_
  refine go_bipush dx_X2_init_20 rfl ?_
  refine go_imul dx_X2_init_22 ?_
  refine go_asI (y := 840) (by decide) ?_
  refine go_newL (N := 840) (n' := 56) (c' := 3) (sl' := 7412) hr hd dx_X2_init_23 rfl rfl rfl rfl rfl rfl (Nat.le_of_ble_eq_true rfl) (Nat.le_of_ble_eq_true rfl) (fun hr hd => ?_)
  refine go_pA hr fp_X2_9 rfl (Or.inr ⟨_, rfl⟩) rfl ⟨rfl, by decide⟩ dx_X2_init_25 (fun hr => ?_)
  refine go_vreturn dx_X2_init_28 rfl (Nat.le_refl _) (Nat.le_refl _) ?_
  exact hQ hr hd
theorem ct_X3_init_56 {E : go_E} {d : Nat} {ρ : Nat → Nat → Nat} {δ : Nat → Nat → Int} {Q : List go_V → go_F → (Nat → Nat → Int) → Prop} (hr : fz 0 57 ρ) (hd : fz 0 57 δ) (hQ : fz 0 62 (wr (wr (wr (wr (wr (wr (wr (wr ρ 56 0 4) 56 1 34) 56 2 53) 56 3 58) 56 5 59) 56 6 60) 56 14 61) 56 15 62) → fz 0 62 δ → Q [] (62, (wr (wr (wr (wr (wr (wr (wr (wr ρ 56 0 4) 56 1 34) 56 2 53) 56 3 58) 56 5 59) 56 6 60) 56 14 61) 56 15 62), 5, 1219) δ) : Go E (d + 1) (5, 1219) mx_X3_init (57, ρ, 0, 0) 0 [(0, vv_A 56), (1, vv_A 3), (2, vv_A 33), (3, vv_A 52)] [] δ Q := by
  refine go_aload_n (i := 0) dx_X3_init_0 rfl rfl ?_
  refine go_objI oi_X3 oi_i oi_c dx_X3_init_1 (by decide) ?_
  refine go_aload_n (i := 0) dx_X3_init_4 rfl rfl ?_
  refine go_aload_n (i := 1) dx_X3_init_5 rfl rfl ?_
  refine go_pA hr fp_X3_9 rfl (Or.inl ⟨_, rfl⟩) rfl ⟨rfl, by decide⟩ dx_X3_init_6 (fun hr => ?_)
  refine go_aload_n (i := 0) dx_X3_init_9 rfl rfl ?_
  refine go_aload_n (i := 2) dx_X3_init_10 rfl rfl ?_
  refine go_pA hr fp_X3_15 rfl (Or.inl ⟨_, rfl⟩) rfl ⟨rfl, by decide⟩ dx_X3_init_11 (fun hr => ?_)
  refine go_aload_n (i := 0) dx_X3_init_14 rfl rfl ?_
  refine go_aload_n (i := 3) dx_X3_init_15 rfl rfl ?_
  refine go_pA hr fp_X3_19 rfl (Or.inl ⟨_, rfl⟩) rfl ⟨rfl, by decide⟩ dx_X3_init_16 (fun hr => ?_)
  refine go_aload_n (i := 0) dx_X3_init_19 rfl rfl ?_
  refine go_sipush dx_X3_init_20 rfl ?_
  refine go_newI (N := 1080) (n' := 58) (c' := 1) (sl' := 1080) hr hd dx_X3_init_23 rfl rfl rfl rfl rfl rfl (Nat.le_of_ble_eq_true rfl) (Nat.le_of_ble_eq_true rfl) (fun hr hd => ?_)
  refine go_pA hr fp_X3_23 rfl (Or.inr ⟨_, rfl⟩) rfl ⟨rfl, by decide⟩ dx_X3_init_25 (fun hr => ?_)
  refine go_aload_n (i := 0) dx_X3_init_28 rfl rfl ?_
  refine go_bipush dx_X3_init_29 rfl ?_
  refine go_newI (N := 95) (n' := 59) (c' := 2) (sl' := 1175) hr hd dx_X3_init_31 rfl rfl rfl rfl rfl rfl (Nat.le_of_ble_eq_true rfl) (Nat.le_of_ble_eq_true rfl) (fun hr hd => ?_)
  refine go_pA hr fp_X3_27 rfl (Or.inr ⟨_, rfl⟩) rfl ⟨rfl, by decide⟩ dx_X3_init_33 (fun hr => ?_)
  refine go_aload_n (i := 0) dx_X3_init_36 rfl rfl ?_
  refine go_bipush dx_X3_init_37 rfl ?_
  refine go_newL (N := 19) (n' := 60) (c' := 3) (sl' := 1194) hr hd dx_X3_init_39 rfl rfl rfl rfl rfl rfl (Nat.le_of_ble_eq_true rfl) (Nat.le_of_ble_eq_true rfl) (fun hr hd => ?_)
  refine go_pA hr fp_X3_30 rfl (Or.inr ⟨_, rfl⟩) rfl ⟨rfl, by decide⟩ dx_X3_init_41 (fun hr => ?_)
  refine go_aload_n (i := 0) dx_X3_init_44 rfl rfl ?_
  refine go_bipush dx_X3_init_45 rfl ?_
  refine go_newI (N := 6) (n' := 61) (c' := 4) (sl' := 1200) hr hd dx_X3_init_47 rfl rfl rfl rfl rfl rfl (Nat.le_of_ble_eq_true rfl) (Nat.le_of_ble_eq_true rfl) (fun hr hd => ?_)
  refine go_pA hr fp_X3_34 rfl (Or.inr ⟨_, rfl⟩) rfl ⟨rfl, by decide⟩ dx_X3_init_49 (fun hr => ?_)
  refine go_aload_n (i := 0) dx_X3_init_52 rfl rfl ?_
  refine go_bipush dx_X3_init_53 rfl ?_
  refine go_newI (N := 19) (n' := 62) (c' := 5) (sl' := 1219) hr hd dx_X3_init_55 rfl rfl rfl rfl rfl rfl (Nat.le_of_ble_eq_true rfl) (Nat.le_of_ble_eq_true rfl) (fun hr hd => ?_)
  refine go_pA hr fp_X3_37 rfl (Or.inr ⟨_, rfl⟩) rfl ⟨rfl, by decide⟩ dx_X3_init_57 (fun hr => ?_)
  refine go_vreturn dx_X3_init_60 rfl (Nat.le_refl _) (Nat.le_refl _) ?_
  exact hQ hr hd
theorem ct_X1_init_62 {E : go_E} {d : Nat} {ρ : Nat → Nat → Nat} {δ : Nat → Nat → Int} {Q : List go_V → go_F → (Nat → Nat → Int) → Prop} (hr : fz 0 63 ρ) (hd : fz 0 63 δ) (hQ : fz 0 67 (wr (wr (wr (wr ρ 62 1 64) 62 2 65) 62 3 66) 62 4 67) → fz 0 67 (wr δ 62 0 1) → Q [] (67, (wr (wr (wr (wr ρ 62 1 64) 62 2 65) 62 3 66) 62 4 67), 4, 58) (wr δ 62 0 1)) : Go E (d + 1) (4, 58) mx_X1_init (63, ρ, 0, 0) 0 [(0, vv_A 62), (1, vv_I 1)] [] δ Q := by
  refine go_aload_n (i := 0) dx_X1_init_0 rfl rfl ?_
  refine go_objI oi_X1 oi_i oi_c dx_X1_init_1 (by decide) ?_
  refine go_aload_n (i := 0) dx_X1_init_4 rfl rfl ?_
  refine go_iload_n (i := 1) dx_X1_init_5 rfl rfl ?_
  refine go_pZ hd fp_X1_9 rfl rfl ⟨rfl, by decide⟩ (by decide) dx_X1_init_6 (fun hd => ?_)
  refine go_aload_n (i := 0) dx_X1_init_9 rfl rfl ?_
  refine go_bipush dx_X1_init_10 rfl ?_
  refine go_newI (N := 14) (n' := 64) (c' := 1) (sl' := 14) hr hd dx_X1_init_12 rfl rfl rfl rfl rfl rfl (Nat.le_of_ble_eq_true rfl) (Nat.le_of_ble_eq_true rfl) (fun hr hd => ?_)
  refine go_pA hr fp_X1_15 rfl (Or.inr ⟨_, rfl⟩) rfl ⟨rfl, by decide⟩ dx_X1_init_14 (fun hr => ?_)
  refine go_aload_n (i := 0) dx_X1_init_17 rfl rfl ?_
  refine go_iload_n (i := 1) dx_X1_init_18 rfl rfl ?_
  refine go_if_eq (tgt := 27) dx_X1_init_19 rfl (by decide) (fun c => absurd c (by decide)) (fun c => ?_)
  refine go_bipush dx_X1_init_22 rfl ?_
  refine go_goto (tgt := 29) dx_X1_init_24 rfl ?_
  refine go_newL (N := 14) (n' := 65) (c' := 2) (sl' := 28) hr hd dx_X1_init_29 rfl rfl rfl rfl rfl rfl (Nat.le_of_ble_eq_true rfl) (Nat.le_of_ble_eq_true rfl) (fun hr hd => ?_)
  refine go_pA hr fp_X1_19 rfl (Or.inr ⟨_, rfl⟩) rfl ⟨rfl, by decide⟩ dx_X1_init_31 (fun hr => ?_)
  refine go_aload_n (i := 0) dx_X1_init_34 rfl rfl ?_
  refine go_bipush dx_X1_init_35 rfl ?_
  refine go_newI (N := 15) (n' := 66) (c' := 3) (sl' := 43) hr hd dx_X1_init_37 rfl rfl rfl rfl rfl rfl (Nat.le_of_ble_eq_true rfl) (Nat.le_of_ble_eq_true rfl) (fun hr hd => ?_)
  refine go_pA hr fp_X1_23 rfl (Or.inr ⟨_, rfl⟩) rfl ⟨rfl, by decide⟩ dx_X1_init_39 (fun hr => ?_)
  refine go_aload_n (i := 0) dx_X1_init_42 rfl rfl ?_
  refine go_bipush dx_X1_init_43 rfl ?_
  refine go_newL (N := 15) (n' := 67) (c' := 4) (sl' := 58) hr hd dx_X1_init_45 rfl rfl rfl rfl rfl rfl (Nat.le_of_ble_eq_true rfl) (Nat.le_of_ble_eq_true rfl) (fun hr hd => ?_)
  refine go_pA hr fp_X1_26 rfl (Or.inr ⟨_, rfl⟩) rfl ⟨rfl, by decide⟩ dx_X1_init_47 (fun hr => ?_)
  refine go_vreturn dx_X1_init_50 rfl (Nat.le_refl _) (Nat.le_refl _) ?_
  exact hQ hr hd
theorem ct_X7_init_67 {E : go_E} {d : Nat} {ρ : Nat → Nat → Nat} {δ : Nat → Nat → Int} {Q : List go_V → go_F → (Nat → Nat → Int) → Prop} (hr : fz 0 68 ρ) (hd : fz 0 68 δ) (hQ : fz 0 70 (wr (wr (wr (wr ρ 67 0 34) 67 1 63) 67 4 69) 67 5 70) → fz 0 70 (wr (wr δ 67 2 1) 67 3 0) → Q [] (70, (wr (wr (wr (wr ρ 67 0 34) 67 1 63) 67 4 69) 67 5 70), 2, 930) (wr (wr δ 67 2 1) 67 3 0)) : Go E (d + 1) (2, 930) mx_X7_init (68, ρ, 0, 0) 0 [(0, vv_A 67), (1, vv_A 33), (2, vv_A 62), (3, vv_I 1), (4, vv_L 0)] [] δ Q := by
  refine go_aload_n (i := 0) dx_X7_init_0 rfl rfl ?_
  refine go_objI oi_X7 oi_i oi_c dx_X7_init_1 (by decide) ?_
  refine go_aload_n (i := 0) dx_X7_init_4 rfl rfl ?_
  refine go_aload_n (i := 1) dx_X7_init_5 rfl rfl ?_
  refine go_pA hr fp_X7_9_2 rfl (Or.inl ⟨_, rfl⟩) rfl ⟨rfl, by decide⟩ dx_X7_init_6 (fun hr => ?_)
  refine go_aload_n (i := 0) dx_X7_init_9 rfl rfl ?_
  refine go_aload_n (i := 2) dx_X7_init_10 rfl rfl ?_
  refine go_pA hr fp_X7_15_2 rfl (Or.inl ⟨_, rfl⟩) rfl ⟨rfl, by decide⟩ dx_X7_init_11 (fun hr => ?_)
  refine go_aload_n (i := 0) dx_X7_init_14 rfl rfl ?_
  refine go_iload_n (i := 3) dx_X7_init_15 rfl rfl ?_
  refine go_pZ hd fp_X7_19_2 rfl rfl ⟨rfl, by decide⟩ (by decide) dx_X7_init_16 (fun hd => ?_)
  refine go_aload_n (i := 0) dx_X7_init_19 rfl rfl ?_
  refine go_lload dx_X7_init_20 rfl ?_
  refine go_pL hd fp_X7_23_2 rfl rfl ⟨rfl, by decide⟩ dx_X7_init_22 (fun hd => ?_)
  refine go_aload_n (i := 0) dx_X7_init_25 rfl rfl ?_
  refine go_iload_n (i := 3) dx_X7_init_26 rfl rfl ?_
  refine go_if_eq (tgt := 35) dx_X7_init_27 rfl (by decide) (fun c => absurd c (by decide)) (fun c => ?_)
  refine go_bipush dx_X7_init_30 rfl ?_
  refine go_goto (tgt := 37) dx_X7_init_32 rfl ?_
  refine go_bipush dx_X7_init_37 rfl ?_
  refine go_imul dx_X7_init_39 ?_
  refine go_asI (y := 868) (by decide) ?_
  refine go_newL (N := 868) (n' := 69) (c' := 1) (sl' := 868) hr hd dx_X7_init_40 rfl rfl rfl rfl rfl rfl (Nat.le_of_ble_eq_true rfl) (Nat.le_of_ble_eq_true rfl) (fun hr hd => ?_)
  refine go_pA hr fp_X7_27_2 rfl (Or.inr ⟨_, rfl⟩) rfl ⟨rfl, by decide⟩ dx_X7_init_42 (fun hr => ?_)
  refine go_aload_n (i := 0) dx_X7_init_45 rfl rfl ?_
  refine go_bipush dx_X7_init_46 rfl ?_
  refine go_newL (N := 62) (n' := 70) (c' := 2) (sl' := 930) hr hd dx_X7_init_48 rfl rfl rfl rfl rfl rfl (Nat.le_of_ble_eq_true rfl) (Nat.le_of_ble_eq_true rfl) (fun hr hd => ?_)
  refine go_pA hr fp_X7_31_2 rfl (Or.inr ⟨_, rfl⟩) rfl ⟨rfl, by decide⟩ dx_X7_init_50 (fun hr => ?_)
  refine go_vreturn dx_X7_init_53 rfl (Nat.le_refl _) (Nat.le_refl _) ?_
  exact hQ hr hd
theorem ct_X2_init_67 {E : go_E} {d : Nat} {ρ : Nat → Nat → Nat} {δ : Nat → Nat → Int} {Q : List go_V → go_F → (Nat → Nat → Int) → Prop} (hr : fz 0 68 ρ) (hd : fz 0 68 δ) (hQ : fz 0 71 (wr (wr (wr (wr (wr ρ 67 0 34) 67 1 63) 67 4 69) 67 5 70) 67 7 71) → fz 0 71 (wr (wr δ 67 2 1) 67 3 0) → Q [] (71, (wr (wr (wr (wr (wr ρ 67 0 34) 67 1 63) 67 4 69) 67 5 70) 67 7 71), 3, 1042) (wr (wr δ 67 2 1) 67 3 0)) : Go E (d + 2) (3, 1042) mx_X2_init (68, ρ, 0, 0) 0 [(0, vv_A 67), (1, vv_A 33), (2, vv_A 62), (3, vv_I 1)] [] δ Q := by
  refine go_aload_n (i := 0) dx_X2_init_0 rfl rfl ?_
  refine go_aload_n (i := 1) dx_X2_init_1 rfl rfl ?_
  refine go_aload_n (i := 2) dx_X2_init_2 rfl rfl ?_
  refine go_iload_n (i := 3) dx_X2_init_3 rfl rfl ?_
  refine go_lconst (x := 0) dx_X2_init_4 rfl ?_
  refine go_ctor (As := [vv_A 33, vv_A 62, vv_I 1, vv_L 0]) (rest := []) (cm := 2) (sm := 930) (c' := 2) (sl' := 930) si_X2_3 dx_X2_init_5 rfl (Nat.le_of_ble_eq_true rfl) (by decide) rfl rfl (Nat.le_of_ble_eq_true rfl) (Nat.le_of_ble_eq_true rfl) (fun Q' hQ' => ct_X7_init_67 hr hd hQ') (fun hr hd => ?_)
  refine go_aload_n (i := 0) dx_X2_init_8 rfl rfl ?_
  refine go_iload_n (i := 3) dx_X2_init_9 rfl rfl ?_
  refine go_if_eq (tgt := 18) dx_X2_init_10 rfl (by decide) (fun c => absurd c (by decide)) (fun c => ?_)
  refine go_bipush dx_X2_init_13 rfl ?_
  refine go_goto (tgt := 20) dx_X2_init_15 rfl ?_
  refine go_bipush dx_X2_init_20 rfl ?_
  refine go_imul dx_X2_init_22 ?_
  refine go_asI (y := 112) (by decide) ?_
  refine go_newL (N := 112) (n' := 71) (c' := 3) (sl' := 1042) hr hd dx_X2_init_23 rfl rfl rfl rfl rfl rfl (Nat.le_of_ble_eq_true rfl) (Nat.le_of_ble_eq_true rfl) (fun hr hd => ?_)
  refine go_pA hr fp_X2_9 rfl (Or.inr ⟨_, rfl⟩) rfl ⟨rfl, by decide⟩ dx_X2_init_25 (fun hr => ?_)
  refine go_vreturn dx_X2_init_28 rfl (Nat.le_refl _) (Nat.le_refl _) ?_
  exact hQ hr hd
theorem ct_X7_init_71 {E : go_E} {d : Nat} {ρ : Nat → Nat → Nat} {δ : Nat → Nat → Int} {Q : List go_V → go_F → (Nat → Nat → Int) → Prop} (hr : fz 0 72 ρ) (hd : fz 0 72 δ) (hQ : fz 0 74 (wr (wr (wr (wr ρ 71 0 34) 71 1 63) 71 4 73) 71 5 74) → fz 0 74 (wr (wr δ 71 2 0) 71 3 (-1)) → Q [] (74, (wr (wr (wr (wr ρ 71 0 34) 71 1 63) 71 4 73) 71 5 74), 2, 6572) (wr (wr δ 71 2 0) 71 3 (-1))) : Go E (d + 1) (2, 6572) mx_X7_init (72, ρ, 0, 0) 0 [(0, vv_A 71), (1, vv_A 33), (2, vv_A 62), (3, vv_I 0), (4, vv_L (-1))] [] δ Q := by
  refine go_aload_n (i := 0) dx_X7_init_0 rfl rfl ?_
  refine go_objI oi_X7 oi_i oi_c dx_X7_init_1 (by decide) ?_
  refine go_aload_n (i := 0) dx_X7_init_4 rfl rfl ?_
  refine go_aload_n (i := 1) dx_X7_init_5 rfl rfl ?_
  refine go_pA hr fp_X7_9_4 rfl (Or.inl ⟨_, rfl⟩) rfl ⟨rfl, by decide⟩ dx_X7_init_6 (fun hr => ?_)
  refine go_aload_n (i := 0) dx_X7_init_9 rfl rfl ?_
  refine go_aload_n (i := 2) dx_X7_init_10 rfl rfl ?_
  refine go_pA hr fp_X7_15_4 rfl (Or.inl ⟨_, rfl⟩) rfl ⟨rfl, by decide⟩ dx_X7_init_11 (fun hr => ?_)
  refine go_aload_n (i := 0) dx_X7_init_14 rfl rfl ?_
  refine go_iload_n (i := 3) dx_X7_init_15 rfl rfl ?_
  refine go_pZ hd fp_X7_19_4 rfl rfl ⟨rfl, by decide⟩ (by decide) dx_X7_init_16 (fun hd => ?_)
  refine go_aload_n (i := 0) dx_X7_init_19 rfl rfl ?_
  refine go_lload dx_X7_init_20 rfl ?_
  refine go_pL hd fp_X7_23_4 rfl rfl ⟨rfl, by decide⟩ dx_X7_init_22 (fun hd => ?_)
  refine go_aload_n (i := 0) dx_X7_init_25 rfl rfl ?_
  refine go_iload_n (i := 3) dx_X7_init_26 rfl rfl ?_
  refine go_if_eq (tgt := 35) dx_X7_init_27 rfl (by decide) (fun c => ?_) (fun c => absurd c (by decide))
  refine go_bipush dx_X7_init_35 rfl ?_
  refine go_bipush dx_X7_init_37 rfl ?_
  refine go_imul dx_X7_init_39 ?_
  refine go_asI (y := 6510) (by decide) ?_
  refine go_newL (N := 6510) (n' := 73) (c' := 1) (sl' := 6510) hr hd dx_X7_init_40 rfl rfl rfl rfl rfl rfl (Nat.le_of_ble_eq_true rfl) (Nat.le_of_ble_eq_true rfl) (fun hr hd => ?_)
  refine go_pA hr fp_X7_27_4 rfl (Or.inr ⟨_, rfl⟩) rfl ⟨rfl, by decide⟩ dx_X7_init_42 (fun hr => ?_)
  refine go_aload_n (i := 0) dx_X7_init_45 rfl rfl ?_
  refine go_bipush dx_X7_init_46 rfl ?_
  refine go_newL (N := 62) (n' := 74) (c' := 2) (sl' := 6572) hr hd dx_X7_init_48 rfl rfl rfl rfl rfl rfl (Nat.le_of_ble_eq_true rfl) (Nat.le_of_ble_eq_true rfl) (fun hr hd => ?_)
  refine go_pA hr fp_X7_31_4 rfl (Or.inr ⟨_, rfl⟩) rfl ⟨rfl, by decide⟩ dx_X7_init_50 (fun hr => ?_)
  refine go_vreturn dx_X7_init_53 rfl (Nat.le_refl _) (Nat.le_refl _) ?_
  exact hQ hr hd
theorem ct_X4_init_71 {E : go_E} {d : Nat} {ρ : Nat → Nat → Nat} {δ : Nat → Nat → Int} {Q : List go_V → go_F → (Nat → Nat → Int) → Prop} (hr : fz 0 72 ρ) (hd : fz 0 72 δ) (hQ : fz 0 74 (wr (wr (wr (wr (wr ρ 71 0 34) 71 1 63) 71 4 73) 71 5 74) 71 7 4) → fz 0 74 (wr (wr δ 71 2 0) 71 3 (-1)) → Q [] (74, (wr (wr (wr (wr (wr ρ 71 0 34) 71 1 63) 71 4 73) 71 5 74) 71 7 4), 2, 6572) (wr (wr δ 71 2 0) 71 3 (-1))) : Go E (d + 2) (2, 6572) mx_X4_init (72, ρ, 0, 0) 0 [(0, vv_A 71), (1, vv_A 33), (2, vv_A 62), (3, vv_A 3)] [] δ Q := by
  refine go_aload_n (i := 0) dx_X4_init_0 rfl rfl ?_
  refine go_aload_n (i := 1) dx_X4_init_1 rfl rfl ?_
  refine go_aload_n (i := 2) dx_X4_init_2 rfl rfl ?_
  refine go_iconst dx_X4_init_3 ?_
  refine go_ldc2 (x := (-1)) kx_X4_5 dx_X4_init_4 ?_
  refine go_ctor (As := [vv_A 33, vv_A 62, vv_I 0, vv_L (-1)]) (rest := []) (cm := 2) (sm := 6572) (c' := 2) (sl' := 6572) si_X4_7 dx_X4_init_7 rfl (Nat.le_of_ble_eq_true rfl) (by decide) rfl rfl (Nat.le_of_ble_eq_true rfl) (Nat.le_of_ble_eq_true rfl) (fun Q' hQ' => ct_X7_init_71 hr hd hQ') (fun hr hd => ?_)
  refine go_aload_n (i := 0) dx_X4_init_10 rfl rfl ?_
  refine go_aload_n (i := 3) dx_X4_init_11 rfl rfl ?_
  refine go_pA hr fp_X4_13 rfl (Or.inl ⟨_, rfl⟩) rfl ⟨rfl, by decide⟩ dx_X4_init_12 (fun hr => ?_)
  refine go_vreturn dx_X4_init_15 rfl (Nat.le_refl _) (Nat.le_refl _) ?_
  exact hQ hr hd
theorem ct_X10_init_74 {E : go_E} {d : Nat} {ρ : Nat → Nat → Nat} {δ : Nat → Nat → Int} {Q : List go_V → go_F → (Nat → Nat → Int) → Prop} (hr : fz 0 75 ρ) (hd : fz 0 75 δ) (hQ : fz 0 76 (wr ρ 74 0 76) → fz 0 76 δ → Q [] (76, (wr ρ 74 0 76), 1, 1674) δ) : Go E (d + 1) (1, 1674) mx_X10_init (75, ρ, 0, 0) 0 [(0, vv_A 74)] [] δ Q := by
  refine go_aload_n (i := 0) dx_X10_init_0 rfl rfl ?_
  refine go_objI oi_X10 oi_i oi_c dx_X10_init_1 (by decide) ?_
  refine go_aload_n (i := 0) dx_X10_init_4 rfl rfl ?_
  refine go_sipush dx_X10_init_5 rfl ?_
  refine go_newL (N := 1674) (n' := 76) (c' := 1) (sl' := 1674) hr hd dx_X10_init_8 rfl rfl rfl rfl rfl rfl (Nat.le_of_ble_eq_true rfl) (Nat.le_of_ble_eq_true rfl) (fun hr hd => ?_)
  refine go_pA hr fp_X10_11 rfl (Or.inr ⟨_, rfl⟩) rfl ⟨rfl, by decide⟩ dx_X10_init_10 (fun hr => ?_)
  refine go_vreturn dx_X10_init_13 rfl (Nat.le_refl _) (Nat.le_refl _) ?_
  exact hQ hr hd
theorem ct_X0_init_76 {E : go_E} {d : Nat} {ρ : Nat → Nat → Nat} {δ : Nat → Nat → Int} {Q : List go_V → go_F → (Nat → Nat → Int) → Prop} (hr : fz 0 77 ρ) (hd : fz 0 77 δ) (hQ : fz 0 87 (wr (wr (wr (wr (wr (wr (wr (wr (wr (wr ρ 76 0 78) 76 2 79) 76 3 80) 76 4 81) 76 6 82) 76 7 83) 76 9 84) 76 10 85) 76 12 86) 76 13 87) → fz 0 87 δ → Q [] (87, (wr (wr (wr (wr (wr (wr (wr (wr (wr (wr ρ 76 0 78) 76 2 79) 76 3 80) 76 4 81) 76 6 82) 76 7 83) 76 9 84) 76 10 85) 76 12 86) 76 13 87), 10, 334) δ) : Go E (d + 1) (10, 334) mx_X0_init (77, ρ, 0, 0) 0 [(0, vv_A 76)] [] δ Q := by
  refine go_aload_n (i := 0) dx_X0_init_0 rfl rfl ?_
  refine go_objI oi_X0 oi_i oi_c dx_X0_init_1 (by decide) ?_
  refine go_aload_n (i := 0) dx_X0_init_4 rfl rfl ?_
  refine go_bipush dx_X0_init_5 rfl ?_
  refine go_newI (N := 64) (n' := 78) (c' := 1) (sl' := 64) hr hd dx_X0_init_7 rfl rfl rfl rfl rfl rfl (Nat.le_of_ble_eq_true rfl) (Nat.le_of_ble_eq_true rfl) (fun hr hd => ?_)
  refine go_pA hr fp_X0_9 rfl (Or.inr ⟨_, rfl⟩) rfl ⟨rfl, by decide⟩ dx_X0_init_9 (fun hr => ?_)
  refine go_aload_n (i := 0) dx_X0_init_12 rfl rfl ?_
  refine go_bipush dx_X0_init_13 rfl ?_
  refine go_newI (N := 16) (n' := 79) (c' := 2) (sl' := 80) hr hd dx_X0_init_15 rfl rfl rfl rfl rfl rfl (Nat.le_of_ble_eq_true rfl) (Nat.le_of_ble_eq_true rfl) (fun hr hd => ?_)
  refine go_pA hr fp_X0_15 rfl (Or.inr ⟨_, rfl⟩) rfl ⟨rfl, by decide⟩ dx_X0_init_17 (fun hr => ?_)
  refine go_aload_n (i := 0) dx_X0_init_20 rfl rfl ?_
  refine go_bipush dx_X0_init_21 rfl ?_
  refine go_newI (N := 48) (n' := 80) (c' := 3) (sl' := 128) hr hd dx_X0_init_23 rfl rfl rfl rfl rfl rfl (Nat.le_of_ble_eq_true rfl) (Nat.le_of_ble_eq_true rfl) (fun hr hd => ?_)
  refine go_pA hr fp_X0_18 rfl (Or.inr ⟨_, rfl⟩) rfl ⟨rfl, by decide⟩ dx_X0_init_25 (fun hr => ?_)
  refine go_aload_n (i := 0) dx_X0_init_28 rfl rfl ?_
  refine go_bipush dx_X0_init_29 rfl ?_
  refine go_newI (N := 48) (n' := 81) (c' := 4) (sl' := 176) hr hd dx_X0_init_31 rfl rfl rfl rfl rfl rfl (Nat.le_of_ble_eq_true rfl) (Nat.le_of_ble_eq_true rfl) (fun hr hd => ?_)
  refine go_pA hr fp_X0_21 rfl (Or.inr ⟨_, rfl⟩) rfl ⟨rfl, by decide⟩ dx_X0_init_33 (fun hr => ?_)
  refine go_aload_n (i := 0) dx_X0_init_36 rfl rfl ?_
  refine go_bipush dx_X0_init_37 rfl ?_
  refine go_newI (N := 8) (n' := 82) (c' := 5) (sl' := 184) hr hd dx_X0_init_39 rfl rfl rfl rfl rfl rfl (Nat.le_of_ble_eq_true rfl) (Nat.le_of_ble_eq_true rfl) (fun hr hd => ?_)
  refine go_pA hr fp_X0_24 rfl (Or.inr ⟨_, rfl⟩) rfl ⟨rfl, by decide⟩ dx_X0_init_41 (fun hr => ?_)
  refine go_aload_n (i := 0) dx_X0_init_44 rfl rfl ?_
  refine go_bipush dx_X0_init_45 rfl ?_
  refine go_newI (N := 8) (n' := 83) (c' := 6) (sl' := 192) hr hd dx_X0_init_47 rfl rfl rfl rfl rfl rfl (Nat.le_of_ble_eq_true rfl) (Nat.le_of_ble_eq_true rfl) (fun hr hd => ?_)
  refine go_pA hr fp_X0_27 rfl (Or.inr ⟨_, rfl⟩) rfl ⟨rfl, by decide⟩ dx_X0_init_49 (fun hr => ?_)
  refine go_aload_n (i := 0) dx_X0_init_52 rfl rfl ?_
  refine go_bipush dx_X0_init_53 rfl ?_
  refine go_newI (N := 8) (n' := 84) (c' := 7) (sl' := 200) hr hd dx_X0_init_55 rfl rfl rfl rfl rfl rfl (Nat.le_of_ble_eq_true rfl) (Nat.le_of_ble_eq_true rfl) (fun hr hd => ?_)
  refine go_pA hr fp_X0_30 rfl (Or.inr ⟨_, rfl⟩) rfl ⟨rfl, by decide⟩ dx_X0_init_57 (fun hr => ?_)
  refine go_aload_n (i := 0) dx_X0_init_60 rfl rfl ?_
  refine go_bipush dx_X0_init_61 rfl ?_
  refine go_newI (N := 62) (n' := 85) (c' := 8) (sl' := 262) hr hd dx_X0_init_63 rfl rfl rfl rfl rfl rfl (Nat.le_of_ble_eq_true rfl) (Nat.le_of_ble_eq_true rfl) (fun hr hd => ?_)
  refine go_pA hr fp_X0_33 rfl (Or.inr ⟨_, rfl⟩) rfl ⟨rfl, by decide⟩ dx_X0_init_65 (fun hr => ?_)
  refine go_aload_n (i := 0) dx_X0_init_68 rfl rfl ?_
  refine go_bipush dx_X0_init_69 rfl ?_
  refine go_newI (N := 64) (n' := 86) (c' := 9) (sl' := 326) hr hd dx_X0_init_71 rfl rfl rfl rfl rfl rfl (Nat.le_of_ble_eq_true rfl) (Nat.le_of_ble_eq_true rfl) (fun hr hd => ?_)
  refine go_pA hr fp_X0_36 rfl (Or.inr ⟨_, rfl⟩) rfl ⟨rfl, by decide⟩ dx_X0_init_73 (fun hr => ?_)
  refine go_aload_n (i := 0) dx_X0_init_76 rfl rfl ?_
  refine go_bipush dx_X0_init_77 rfl ?_
  refine go_newI (N := 8) (n' := 87) (c' := 10) (sl' := 334) hr hd dx_X0_init_79 rfl rfl rfl rfl rfl rfl (Nat.le_of_ble_eq_true rfl) (Nat.le_of_ble_eq_true rfl) (fun hr hd => ?_)
  refine go_pA hr fp_X0_39 rfl (Or.inr ⟨_, rfl⟩) rfl ⟨rfl, by decide⟩ dx_X0_init_81 (fun hr => ?_)
  refine go_vreturn dx_X0_init_84 rfl (Nat.le_refl _) (Nat.le_refl _) ?_
  exact hQ hr hd
theorem ct_X1_init_87 {E : go_E} {d : Nat} {ρ : Nat → Nat → Nat} {δ : Nat → Nat → Int} {Q : List go_V → go_F → (Nat → Nat → Int) → Prop} (hr : fz 0 88 ρ) (hd : fz 0 88 δ) (hQ : fz 0 92 (wr (wr (wr (wr ρ 87 1 89) 87 2 90) 87 3 91) 87 4 92) → fz 0 92 (wr δ 87 0 0) → Q [] (92, (wr (wr (wr (wr ρ 87 1 89) 87 2 90) 87 3 91) 87 4 92), 4, 149) (wr δ 87 0 0)) : Go E (d + 1) (4, 149) mx_X1_init (88, ρ, 0, 0) 0 [(0, vv_A 87), (1, vv_I 0)] [] δ Q := by
  refine go_aload_n (i := 0) dx_X1_init_0 rfl rfl ?_
  refine go_objI oi_X1 oi_i oi_c dx_X1_init_1 (by decide) ?_
  refine go_aload_n (i := 0) dx_X1_init_4 rfl rfl ?_
  refine go_iload_n (i := 1) dx_X1_init_5 rfl rfl ?_
  refine go_pZ hd fp_X1_9 rfl rfl ⟨rfl, by decide⟩ (by decide) dx_X1_init_6 (fun hd => ?_)
  refine go_aload_n (i := 0) dx_X1_init_9 rfl rfl ?_
  refine go_bipush dx_X1_init_10 rfl ?_
  refine go_newI (N := 14) (n' := 89) (c' := 1) (sl' := 14) hr hd dx_X1_init_12 rfl rfl rfl rfl rfl rfl (Nat.le_of_ble_eq_true rfl) (Nat.le_of_ble_eq_true rfl) (fun hr hd => ?_)
  refine go_pA hr fp_X1_15 rfl (Or.inr ⟨_, rfl⟩) rfl ⟨rfl, by decide⟩ dx_X1_init_14 (fun hr => ?_)
  refine go_aload_n (i := 0) dx_X1_init_17 rfl rfl ?_
  refine go_iload_n (i := 1) dx_X1_init_18 rfl rfl ?_
  refine go_if_eq (tgt := 27) dx_X1_init_19 rfl (by decide) (fun c => ?_) (fun c => absurd c (by decide))
  refine go_bipush dx_X1_init_27 rfl ?_
  refine go_newL (N := 105) (n' := 90) (c' := 2) (sl' := 119) hr hd dx_X1_init_29 rfl rfl rfl rfl rfl rfl (Nat.le_of_ble_eq_true rfl) (Nat.le_of_ble_eq_true rfl) (fun hr hd => ?_)
  refine go_pA hr fp_X1_19 rfl (Or.inr ⟨_, rfl⟩) rfl ⟨rfl, by decide⟩ dx_X1_init_31 (fun hr => ?_)
  refine go_aload_n (i := 0) dx_X1_init_34 rfl rfl ?_
  refine go_bipush dx_X1_init_35 rfl ?_
  refine go_newI (N := 15) (n' := 91) (c' := 3) (sl' := 134) hr hd dx_X1_init_37 rfl rfl rfl rfl rfl rfl (Nat.le_of_ble_eq_true rfl) (Nat.le_of_ble_eq_true rfl) (fun hr hd => ?_)
  refine go_pA hr fp_X1_23 rfl (Or.inr ⟨_, rfl⟩) rfl ⟨rfl, by decide⟩ dx_X1_init_39 (fun hr => ?_)
  refine go_aload_n (i := 0) dx_X1_init_42 rfl rfl ?_
  refine go_bipush dx_X1_init_43 rfl ?_
  refine go_newL (N := 15) (n' := 92) (c' := 4) (sl' := 149) hr hd dx_X1_init_45 rfl rfl rfl rfl rfl rfl (Nat.le_of_ble_eq_true rfl) (Nat.le_of_ble_eq_true rfl) (fun hr hd => ?_)
  refine go_pA hr fp_X1_26 rfl (Or.inr ⟨_, rfl⟩) rfl ⟨rfl, by decide⟩ dx_X1_init_47 (fun hr => ?_)
  refine go_vreturn dx_X1_init_50 rfl (Nat.le_refl _) (Nat.le_refl _) ?_
  exact hQ hr hd
theorem ct_X11_init_0 {E : go_E} {d : Nat} {ρ : Nat → Nat → Nat} {δ : Nat → Nat → Int} {Q : List go_V → go_F → (Nat → Nat → Int) → Prop} (hr : fz 0 1 ρ) (hd : fz 0 1 δ) (hQ : fz 0 94 (wr (wr (wr (wr (wr (wr (wr (wr (wr (wr (wr (wr (wr (wr (wr (wr (wr (wr (wr (wr (wr (wr (wr (wr (wr (wr (wr (wr (wr (wr (wr (wr (wr (wr (wr (wr (wr (wr (wr (wr (wr (wr (wr (wr (wr (wr (wr (wr (wr (wr (wr (wr (wr (wr (wr (wr (wr (wr (wr (wr (wr (wr (wr (wr (wr (wr (wr (wr (wr (wr (wr (wr (wr (wr (wr (wr (wr (wr (wr (wr (wr (wr (wr (wr (wr (wr (wr (wr (wr (wr (wr (wr (wr (wr (wr (wr (wr (wr (wr (wr (wr (wr (wr (wr (wr ρ 1 0 3) 0 0 2) 3 0 5) 0 1 4) 5 0 7) 7 0 9) 6 0 8) 9 0 11) 6 1 10) 11 0 13) 6 2 12) 13 0 15) 6 3 14) 15 0 17) 6 4 16) 17 0 19) 6 5 18) 19 0 21) 6 6 20) 21 0 23) 6 7 22) 23 0 25) 6 8 24) 25 0 27) 6 9 26) 5 1 28) 28 0 30) 27 0 29) 30 0 32) 27 1 31) 5 2 33) 0 2 6) 33 0 35) 33 2 36) 33 3 37) 33 4 38) 33 6 39) 33 7 40) 33 9 41) 33 10 42) 33 12 43) 33 13 44) 0 3 34) 44 1 46) 44 2 47) 44 3 48) 44 4 49) 0 4 45) 49 0 34) 49 1 45) 49 4 51) 49 5 52) 0 5 50) 52 0 34) 52 1 45) 52 4 54) 52 5 55) 52 7 56) 0 6 53) 56 0 4) 56 1 34) 56 2 53) 56 3 58) 56 5 59) 56 6 60) 56 14 61) 56 15 62) 0 7 57) 62 1 64) 62 2 65) 62 3 66) 62 4 67) 0 8 63) 67 0 34) 67 1 63) 67 4 69) 67 5 70) 67 7 71) 0 9 68) 71 0 34) 71 1 63) 71 4 73) 71 5 74) 71 7 4) 0 10 72) 74 0 76) 0 11 75) 76 0 78) 76 2 79) 76 3 80) 76 4 81) 76 6 82) 76 7 83) 76 9 84) 76 10 85) 76 12 86) 76 13 87) 0 12 77) 87 1 89) 87 2 90) 87 3 91) 87 4 92) 0 13 88) 0 14 93) 0 15 94) → fz 0 94 (wr (wr (wr (wr (wr (wr (wr (wr (wr (wr (wr (wr (wr (wr (wr (wr (wr δ 1 3 (-1)) 44 0 0) 49 2 0) 49 3 (-1)) 52 2 0) 52 3 0) 62 0 1) 67 2 1) 67 3 0) 71 2 0) 71 3 (-1)) 87 0 0) 93 0 (-1)) 93 1 (-1)) 93 2 (-1)) 0 16 1) 0 17 0) → Q [] (94, (wr (wr (wr (wr (wr (wr (wr (wr (wr (wr (wr (wr (wr (wr (wr (wr (wr (wr (wr (wr (wr (wr (wr (wr (wr (wr (wr (wr (wr (wr (wr (wr (wr (wr (wr (wr (wr (wr (wr (wr (wr (wr (wr (wr (wr (wr (wr (wr (wr (wr (wr (wr (wr (wr (wr (wr (wr (wr (wr (wr (wr (wr (wr (wr (wr (wr (wr (wr (wr (wr (wr (wr (wr (wr (wr (wr (wr (wr (wr (wr (wr (wr (wr (wr (wr (wr (wr (wr (wr (wr (wr (wr (wr (wr (wr (wr (wr (wr (wr (wr (wr (wr (wr (wr (wr ρ 1 0 3) 0 0 2) 3 0 5) 0 1 4) 5 0 7) 7 0 9) 6 0 8) 9 0 11) 6 1 10) 11 0 13) 6 2 12) 13 0 15) 6 3 14) 15 0 17) 6 4 16) 17 0 19) 6 5 18) 19 0 21) 6 6 20) 21 0 23) 6 7 22) 23 0 25) 6 8 24) 25 0 27) 6 9 26) 5 1 28) 28 0 30) 27 0 29) 30 0 32) 27 1 31) 5 2 33) 0 2 6) 33 0 35) 33 2 36) 33 3 37) 33 4 38) 33 6 39) 33 7 40) 33 9 41) 33 10 42) 33 12 43) 33 13 44) 0 3 34) 44 1 46) 44 2 47) 44 3 48) 44 4 49) 0 4 45) 49 0 34) 49 1 45) 49 4 51) 49 5 52) 0 5 50) 52 0 34) 52 1 45) 52 4 54) 52 5 55) 52 7 56) 0 6 53) 56 0 4) 56 1 34) 56 2 53) 56 3 58) 56 5 59) 56 6 60) 56 14 61) 56 15 62) 0 7 57) 62 1 64) 62 2 65) 62 3 66) 62 4 67) 0 8 63) 67 0 34) 67 1 63) 67 4 69) 67 5 70) 67 7 71) 0 9 68) 71 0 34) 71 1 63) 71 4 73) 71 5 74) 71 7 4) 0 10 72) 74 0 76) 0 11 75) 76 0 78) 76 2 79) 76 3 80) 76 4 81) 76 6 82) 76 7 83) 76 9 84) 76 10 85) 76 12 86) 76 13 87) 0 12 77) 87 1 89) 87 2 90) 87 3 91) 87 4 92) 0 13 88) 0 14 93) 0 15 94), 93, 26002) (wr (wr (wr (wr (wr (wr (wr (wr (wr (wr (wr (wr (wr (wr (wr (wr (wr δ 1 3 (-1)) 44 0 0) 49 2 0) 49 3 (-1)) 52 2 0) 52 3 0) 62 0 1) 67 2 1) 67 3 0) 71 2 0) 71 3 (-1)) 87 0 0) 93 0 (-1)) 93 1 (-1)) 93 2 (-1)) 0 16 1) 0 17 0)) : Go E (d + 3) (93, 26002) mx_X11_init (1, ρ, 0, 0) 0 [(0, vv_A 0)] [] δ Q := by
  refine go_aload_n (i := 0) dx_X11_init_0 rfl rfl ?_
  refine go_objI oi_X11 oi_i oi_c dx_X11_init_1 (by decide) ?_
  refine go_aload_n (i := 0) dx_X11_init_4 rfl rfl ?_
  refine go_new (ci := 7) (N := 4) (n' := 2) (c' := 1) (sl' := 4) rfl hr hd rfl lx_X11_9 nx_X8 zx_X8 dx_X11_init_5 rfl rfl rfl (Nat.le_of_ble_eq_true rfl) (Nat.le_of_ble_eq_true rfl) (fun hr hd => ?_)
  refine go_dup dx_X11_init_8 rfl ?_
  refine go_ctor (As := []) (rest := [vv_A 1, vv_A 0]) (cm := 1) (sm := 40) (c' := 2) (sl' := 44) si_X11_11 dx_X11_init_9 rfl (Nat.le_of_ble_eq_true rfl) (by decide) rfl rfl (Nat.le_of_ble_eq_true rfl) (Nat.le_of_ble_eq_true rfl) (fun Q' hQ' => ct_X8_init_1 hr hd hQ') (fun hr hd => ?_)
  refine go_pA hr fp_X11_12 rfl (Or.inl ⟨_, rfl⟩) rfl ⟨rfl, by decide⟩ dx_X11_init_12 (fun hr => ?_)
  refine go_aload_n (i := 0) dx_X11_init_15 rfl rfl ?_
  refine go_new (ci := 8) (N := 4) (n' := 4) (c' := 3) (sl' := 48) rfl hr hd rfl lx_X11_16 nx_X9 zx_X9 dx_X11_init_16 rfl rfl rfl (Nat.le_of_ble_eq_true rfl) (Nat.le_of_ble_eq_true rfl) (fun hr hd => ?_)
  refine go_dup dx_X11_init_19 rfl ?_
  refine go_ctor (As := []) (rest := [vv_A 3, vv_A 0]) (cm := 1) (sm := 16) (c' := 4) (sl' := 64) si_X11_18 dx_X11_init_20 rfl (Nat.le_of_ble_eq_true rfl) (by decide) rfl rfl (Nat.le_of_ble_eq_true rfl) (Nat.le_of_ble_eq_true rfl) (fun Q' hQ' => ct_X9_init_3 hr hd hQ') (fun hr hd => ?_)
  refine go_pA hr fp_X11_19 rfl (Or.inl ⟨_, rfl⟩) rfl ⟨rfl, by decide⟩ dx_X11_init_23 (fun hr => ?_)
  refine go_aload_n (i := 0) dx_X11_init_26 rfl rfl ?_
  refine go_new (ci := 5) (N := 5) (n' := 6) (c' := 5) (sl' := 69) rfl hr hd rfl lx_X11_23 nx_X5 zx_X5 dx_X11_init_27 rfl rfl rfl (Nat.le_of_ble_eq_true rfl) (Nat.le_of_ble_eq_true rfl) (fun hr hd => ?_)
  refine go_dup dx_X11_init_30 rfl ?_
  refine go_ctor (As := []) (rest := [vv_A 5, vv_A 0]) (cm := 27) (sm := 254) (c' := 32) (sl' := 323) si_X11_25 dx_X11_init_31 rfl (Nat.le_of_ble_eq_true rfl) (by decide) rfl rfl (Nat.le_of_ble_eq_true rfl) (Nat.le_of_ble_eq_true rfl) (fun Q' hQ' => ct_X5_init_5 hr hd hQ') (fun hr hd => ?_)
  refine go_pA hr fp_X11_26 rfl (Or.inl ⟨_, rfl⟩) rfl ⟨rfl, by decide⟩ dx_X11_init_34 (fun hr => ?_)
  refine go_aload_n (i := 0) dx_X11_init_37 rfl rfl ?_
  refine go_new (ci := 0) (N := 14) (n' := 34) (c' := 33) (sl' := 337) rfl hr hd rfl lx_X11_30 nx_X0 zx_X0 dx_X11_init_38 rfl rfl rfl (Nat.le_of_ble_eq_true rfl) (Nat.le_of_ble_eq_true rfl) (fun hr hd => ?_)
  refine go_dup dx_X11_init_41 rfl ?_
  refine go_ctor (As := []) (rest := [vv_A 33, vv_A 0]) (cm := 10) (sm := 334) (c' := 43) (sl' := 671) si_X11_32 dx_X11_init_42 rfl (Nat.le_of_ble_eq_true rfl) (by decide) rfl rfl (Nat.le_of_ble_eq_true rfl) (Nat.le_of_ble_eq_true rfl) (fun Q' hQ' => ct_X0_init_33 hr hd hQ') (fun hr hd => ?_)
  refine go_pA hr fp_X11_33 rfl (Or.inl ⟨_, rfl⟩) rfl ⟨rfl, by decide⟩ dx_X11_init_45 (fun hr => ?_)
  refine go_aload_n (i := 0) dx_X11_init_48 rfl rfl ?_
  refine go_new (ci := 1) (N := 7) (n' := 45) (c' := 44) (sl' := 678) rfl hr hd rfl lx_X11_37 nx_X1 zx_X1 dx_X11_init_49 rfl rfl rfl (Nat.le_of_ble_eq_true rfl) (Nat.le_of_ble_eq_true rfl) (fun hr hd => ?_)
  refine go_dup dx_X11_init_52 rfl ?_
  refine go_iconst dx_X11_init_53 ?_
  refine go_ctor (As := [vv_I 0]) (rest := [vv_A 44, vv_A 0]) (cm := 4) (sm := 149) (c' := 48) (sl' := 827) si_X11_39 dx_X11_init_54 rfl (Nat.le_of_ble_eq_true rfl) (by decide) rfl rfl (Nat.le_of_ble_eq_true rfl) (Nat.le_of_ble_eq_true rfl) (fun Q' hQ' => ct_X1_init_44 hr hd hQ') (fun hr hd => ?_)
  refine go_pA hr fp_X11_42 rfl (Or.inl ⟨_, rfl⟩) rfl ⟨rfl, by decide⟩ dx_X11_init_57 (fun hr => ?_)
  refine go_aload_n (i := 0) dx_X11_init_60 rfl rfl ?_
  refine go_new (ci := 6) (N := 7) (n' := 50) (c' := 49) (sl' := 834) rfl hr hd rfl lx_X11_46 nx_X6 zx_X6 dx_X11_init_61 rfl rfl rfl (Nat.le_of_ble_eq_true rfl) (Nat.le_of_ble_eq_true rfl) (fun hr hd => ?_)
  refine go_dup dx_X11_init_64 rfl ?_
  refine go_aload_n (i := 0) dx_X11_init_65 rfl rfl ?_
  refine go_getA (b := 33) fs_X11_33 rfl ⟨rfl, (Nat.le_of_ble_eq_true rfl)⟩ rfl dx_X11_init_66 ?_
  refine go_aload_n (i := 0) dx_X11_init_69 rfl rfl ?_
  refine go_getA (b := 44) fs_X11_42 rfl ⟨rfl, (Nat.le_of_ble_eq_true rfl)⟩ rfl dx_X11_init_70 ?_
  refine go_ctor (As := [vv_A 33, vv_A 44]) (rest := [vv_A 49, vv_A 0]) (cm := 2) (sm := 6572) (c' := 51) (sl' := 7406) si_X11_48 dx_X11_init_73 rfl (Nat.le_of_ble_eq_true rfl) (by decide) rfl rfl (Nat.le_of_ble_eq_true rfl) (Nat.le_of_ble_eq_true rfl) (fun Q' hQ' => ct_X6_init_49 hr hd hQ') (fun hr hd => ?_)
  refine go_pA hr fp_X11_51 rfl (Or.inl ⟨_, rfl⟩) rfl ⟨rfl, by decide⟩ dx_X11_init_76 (fun hr => ?_)
  refine go_aload_n (i := 0) dx_X11_init_79 rfl rfl ?_
  refine go_new (ci := 2) (N := 8) (n' := 53) (c' := 52) (sl' := 7414) rfl hr hd rfl lx_X11_55 nx_X2 zx_X2 dx_X11_init_80 rfl rfl rfl (Nat.le_of_ble_eq_true rfl) (Nat.le_of_ble_eq_true rfl) (fun hr hd => ?_)
  refine go_dup dx_X11_init_83 rfl ?_
  refine go_aload_n (i := 0) dx_X11_init_84 rfl rfl ?_
  refine go_getA (b := 33) fs_X11_33 rfl ⟨rfl, (Nat.le_of_ble_eq_true rfl)⟩ rfl dx_X11_init_85 ?_
  refine go_aload_n (i := 0) dx_X11_init_88 rfl rfl ?_
  refine go_getA (b := 44) fs_X11_42 rfl ⟨rfl, (Nat.le_of_ble_eq_true rfl)⟩ rfl dx_X11_init_89 ?_
  refine go_iconst dx_X11_init_92 ?_
  refine go_ctor (As := [vv_A 33, vv_A 44, vv_I 0]) (rest := [vv_A 52, vv_A 0]) (cm := 3) (sm := 7412) (c' := 55) (sl' := 14826) si_X11_57 dx_X11_init_93 rfl (Nat.le_of_ble_eq_true rfl) (by decide) rfl rfl (Nat.le_of_ble_eq_true rfl) (Nat.le_of_ble_eq_true rfl) (fun Q' hQ' => ct_X2_init_52 hr hd hQ') (fun hr hd => ?_)
  refine go_pA hr fp_X11_60 rfl (Or.inl ⟨_, rfl⟩) rfl ⟨rfl, by decide⟩ dx_X11_init_96 (fun hr => ?_)
  refine go_aload_n (i := 0) dx_X11_init_99 rfl rfl ?_
  refine go_new (ci := 3) (N := 19) (n' := 57) (c' := 56) (sl' := 14845) rfl hr hd rfl lx_X11_64 nx_X3 zx_X3 dx_X11_init_100 rfl rfl rfl (Nat.le_of_ble_eq_true rfl) (Nat.le_of_ble_eq_true rfl) (fun hr hd => ?_)
  refine go_dup dx_X11_init_103 rfl ?_
  refine go_aload_n (i := 0) dx_X11_init_104 rfl rfl ?_
  refine go_getA (b := 3) fs_X11_19 rfl ⟨rfl, (Nat.le_of_ble_eq_true rfl)⟩ rfl dx_X11_init_105 ?_
  refine go_aload_n (i := 0) dx_X11_init_108 rfl rfl ?_
  refine go_getA (b := 33) fs_X11_33 rfl ⟨rfl, (Nat.le_of_ble_eq_true rfl)⟩ rfl dx_X11_init_109 ?_
  refine go_aload_n (i := 0) dx_X11_init_112 rfl rfl ?_
  refine go_getA (b := 52) fs_X11_60 rfl ⟨rfl, (Nat.le_of_ble_eq_true rfl)⟩ rfl dx_X11_init_113 ?_
  refine go_ctor (As := [vv_A 3, vv_A 33, vv_A 52]) (rest := [vv_A 56, vv_A 0]) (cm := 5) (sm := 1219) (c' := 61) (sl' := 16064) si_X11_66 dx_X11_init_116 rfl (Nat.le_of_ble_eq_true rfl) (by decide) rfl rfl (Nat.le_of_ble_eq_true rfl) (Nat.le_of_ble_eq_true rfl) (fun Q' hQ' => ct_X3_init_56 hr hd hQ') (fun hr hd => ?_)
  refine go_pA hr fp_X11_69 rfl (Or.inl ⟨_, rfl⟩) rfl ⟨rfl, by decide⟩ dx_X11_init_119 (fun hr => ?_)
  refine go_aload_n (i := 0) dx_X11_init_122 rfl rfl ?_
  refine go_new (ci := 1) (N := 7) (n' := 63) (c' := 62) (sl' := 16071) rfl hr hd rfl lx_X11_37 nx_X1 zx_X1 dx_X11_init_123 rfl rfl rfl (Nat.le_of_ble_eq_true rfl) (Nat.le_of_ble_eq_true rfl) (fun hr hd => ?_)
  refine go_dup dx_X11_init_126 rfl ?_
  refine go_iconst dx_X11_init_127 ?_
  refine go_ctor (As := [vv_I 1]) (rest := [vv_A 62, vv_A 0]) (cm := 4) (sm := 58) (c' := 66) (sl' := 16129) si_X11_39 dx_X11_init_128 rfl (Nat.le_of_ble_eq_true rfl) (by decide) rfl rfl (Nat.le_of_ble_eq_true rfl) (Nat.le_of_ble_eq_true rfl) (fun Q' hQ' => ct_X1_init_62 hr hd hQ') (fun hr hd => ?_)
  refine go_pA hr fp_X11_73 rfl (Or.inl ⟨_, rfl⟩) rfl ⟨rfl, by decide⟩ dx_X11_init_131 (fun hr => ?_)
  refine go_aload_n (i := 0) dx_X11_init_134 rfl rfl ?_
  refine go_new (ci := 2) (N := 8) (n' := 68) (c' := 67) (sl' := 16137) rfl hr hd rfl lx_X11_55 nx_X2 zx_X2 dx_X11_init_135 rfl rfl rfl (Nat.le_of_ble_eq_true rfl) (Nat.le_of_ble_eq_true rfl) (fun hr hd => ?_)
  refine go_dup dx_X11_init_138 rfl ?_
  refine go_aload_n (i := 0) dx_X11_init_139 rfl rfl ?_
  refine go_getA (b := 33) fs_X11_33 rfl ⟨rfl, (Nat.le_of_ble_eq_true rfl)⟩ rfl dx_X11_init_140 ?_
  refine go_aload_n (i := 0) dx_X11_init_143 rfl rfl ?_
  refine go_getA (b := 62) fs_X11_73 rfl ⟨rfl, (Nat.le_of_ble_eq_true rfl)⟩ rfl dx_X11_init_144 ?_
  refine go_iconst dx_X11_init_147 ?_
  refine go_ctor (As := [vv_A 33, vv_A 62, vv_I 1]) (rest := [vv_A 67, vv_A 0]) (cm := 3) (sm := 1042) (c' := 70) (sl' := 17179) si_X11_57 dx_X11_init_148 rfl (Nat.le_of_ble_eq_true rfl) (by decide) rfl rfl (Nat.le_of_ble_eq_true rfl) (Nat.le_of_ble_eq_true rfl) (fun Q' hQ' => ct_X2_init_67 hr hd hQ') (fun hr hd => ?_)
  refine go_pA hr fp_X11_76 rfl (Or.inl ⟨_, rfl⟩) rfl ⟨rfl, by decide⟩ dx_X11_init_151 (fun hr => ?_)
  refine go_aload_n (i := 0) dx_X11_init_154 rfl rfl ?_
  refine go_new (ci := 4) (N := 8) (n' := 72) (c' := 71) (sl' := 17187) rfl hr hd rfl lx_X11_79 nx_X4 zx_X4 dx_X11_init_155 rfl rfl rfl (Nat.le_of_ble_eq_true rfl) (Nat.le_of_ble_eq_true rfl) (fun hr hd => ?_)
  refine go_dup dx_X11_init_158 rfl ?_
  refine go_aload_n (i := 0) dx_X11_init_159 rfl rfl ?_
  refine go_getA (b := 33) fs_X11_33 rfl ⟨rfl, (Nat.le_of_ble_eq_true rfl)⟩ rfl dx_X11_init_160 ?_
  refine go_aload_n (i := 0) dx_X11_init_163 rfl rfl ?_
  refine go_getA (b := 62) fs_X11_73 rfl ⟨rfl, (Nat.le_of_ble_eq_true rfl)⟩ rfl dx_X11_init_164 ?_
  refine go_aload_n (i := 0) dx_X11_init_167 rfl rfl ?_
  refine go_getA (b := 3) fs_X11_19 rfl ⟨rfl, (Nat.le_of_ble_eq_true rfl)⟩ rfl dx_X11_init_168 ?_
  refine go_ctor (As := [vv_A 33, vv_A 62, vv_A 3]) (rest := [vv_A 71, vv_A 0]) (cm := 2) (sm := 6572) (c' := 73) (sl' := 23759) si_X11_81 dx_X11_init_171 rfl (Nat.le_of_ble_eq_true rfl) (by decide) rfl rfl (Nat.le_of_ble_eq_true rfl) (Nat.le_of_ble_eq_true rfl) (fun Q' hQ' => ct_X4_init_71 hr hd hQ') (fun hr hd => ?_)
  refine go_pA hr fp_X11_84 rfl (Or.inl ⟨_, rfl⟩) rfl ⟨rfl, by decide⟩ dx_X11_init_174 (fun hr => ?_)
  refine go_aload_n (i := 0) dx_X11_init_177 rfl rfl ?_
  refine go_new (ci := 9) (N := 2) (n' := 75) (c' := 74) (sl' := 23761) rfl hr hd rfl lx_X11_88 nx_X10 zx_X10 dx_X11_init_178 rfl rfl rfl (Nat.le_of_ble_eq_true rfl) (Nat.le_of_ble_eq_true rfl) (fun hr hd => ?_)
  refine go_dup dx_X11_init_181 rfl ?_
  refine go_ctor (As := []) (rest := [vv_A 74, vv_A 0]) (cm := 1) (sm := 1674) (c' := 75) (sl' := 25435) si_X11_90 dx_X11_init_182 rfl (Nat.le_of_ble_eq_true rfl) (by decide) rfl rfl (Nat.le_of_ble_eq_true rfl) (Nat.le_of_ble_eq_true rfl) (fun Q' hQ' => ct_X10_init_74 hr hd hQ') (fun hr hd => ?_)
  refine go_pA hr fp_X11_91 rfl (Or.inl ⟨_, rfl⟩) rfl ⟨rfl, by decide⟩ dx_X11_init_185 (fun hr => ?_)
  refine go_aload_n (i := 0) dx_X11_init_188 rfl rfl ?_
  refine go_new (ci := 0) (N := 14) (n' := 77) (c' := 76) (sl' := 25449) rfl hr hd rfl lx_X11_30 nx_X0 zx_X0 dx_X11_init_189 rfl rfl rfl (Nat.le_of_ble_eq_true rfl) (Nat.le_of_ble_eq_true rfl) (fun hr hd => ?_)
  refine go_dup dx_X11_init_192 rfl ?_
  refine go_ctor (As := []) (rest := [vv_A 76, vv_A 0]) (cm := 10) (sm := 334) (c' := 86) (sl' := 25783) si_X11_32 dx_X11_init_193 rfl (Nat.le_of_ble_eq_true rfl) (by decide) rfl rfl (Nat.le_of_ble_eq_true rfl) (Nat.le_of_ble_eq_true rfl) (fun Q' hQ' => ct_X0_init_76 hr hd hQ') (fun hr hd => ?_)
  refine go_pA hr fp_X11_95 rfl (Or.inl ⟨_, rfl⟩) rfl ⟨rfl, by decide⟩ dx_X11_init_196 (fun hr => ?_)
  refine go_aload_n (i := 0) dx_X11_init_199 rfl rfl ?_
  refine go_new (ci := 1) (N := 7) (n' := 88) (c' := 87) (sl' := 25790) rfl hr hd rfl lx_X11_37 nx_X1 zx_X1 dx_X11_init_200 rfl rfl rfl (Nat.le_of_ble_eq_true rfl) (Nat.le_of_ble_eq_true rfl) (fun hr hd => ?_)
  refine go_dup dx_X11_init_203 rfl ?_
  refine go_iconst dx_X11_init_204 ?_
  refine go_ctor (As := [vv_I 0]) (rest := [vv_A 87, vv_A 0]) (cm := 4) (sm := 149) (c' := 91) (sl' := 25939) si_X11_39 dx_X11_init_205 rfl (Nat.le_of_ble_eq_true rfl) (by decide) rfl rfl (Nat.le_of_ble_eq_true rfl) (Nat.le_of_ble_eq_true rfl) (fun Q' hQ' => ct_X1_init_87 hr hd hQ') (fun hr hd => ?_)
  refine go_pA hr fp_X11_98 rfl (Or.inl ⟨_, rfl⟩) rfl ⟨rfl, by decide⟩ dx_X11_init_208 (fun hr => ?_)
  refine go_aload_n (i := 0) dx_X11_init_211 rfl rfl ?_
  refine go_bipush dx_X11_init_212 rfl ?_
  refine go_newL (N := 60) (n' := 93) (c' := 92) (sl' := 25999) hr hd dx_X11_init_214 rfl rfl rfl rfl rfl rfl (Nat.le_of_ble_eq_true rfl) (Nat.le_of_ble_eq_true rfl) (fun hr hd => ?_)
  refine go_pA hr fp_X11_101 rfl (Or.inr ⟨_, rfl⟩) rfl ⟨rfl, by decide⟩ dx_X11_init_216 (fun hr => ?_)
  refine go_aload_n (i := 0) dx_X11_init_219 rfl rfl ?_
  refine go_iconst dx_X11_init_220 ?_
  refine go_newI (N := 3) (n' := 94) (c' := 93) (sl' := 26002) hr hd dx_X11_init_221 rfl rfl rfl rfl rfl rfl (Nat.le_of_ble_eq_true rfl) (Nat.le_of_ble_eq_true rfl) (fun hr hd => ?_)
  refine go_pA hr fp_X11_105 rfl (Or.inr ⟨_, rfl⟩) rfl ⟨rfl, by decide⟩ dx_X11_init_223 (fun hr => ?_)
  refine go_iconst dx_X11_init_226 ?_
  refine go_istore_n (i := 1) (lv' := [(0, vv_A 0), (1, vv_I 0)]) dx_X11_init_227 rfl (by decide) rfl ?_
  refine go_iload_n (i := 1) dx_X11_init_228 rfl rfl ?_
  refine go_aload_n (i := 0) dx_X11_init_229 rfl rfl ?_
  refine go_getA (b := 93) fs_X11_105 rfl ⟨rfl, (Nat.le_of_ble_eq_true rfl)⟩ rfl dx_X11_init_230 ?_
  refine go_arraylength dx_X11_init_233 ⟨(Or.inl rfl), (Nat.le_of_ble_eq_true rfl)⟩ ?_
  refine go_asI (y := 3) (by rfl) ?_
  refine go_icmp_ge (tgt := 250) dx_X11_init_234 rfl (by decide) (by decide) (fun c => absurd c (by decide)) (fun c => ?_)
  refine go_aload_n (i := 0) dx_X11_init_237 rfl rfl ?_
  refine go_getA (b := 93) fs_X11_105 rfl ⟨rfl, (Nat.le_of_ble_eq_true rfl)⟩ rfl dx_X11_init_238 ?_
  refine go_iload_n (i := 1) dx_X11_init_241 rfl rfl ?_
  refine go_iconst dx_X11_init_242 ?_
  refine go_aI (i := 0) hd dx_X11_init_243 ⟨rfl, by decide⟩ (by decide) (fun hd => ?_)
  refine go_iinc (lv' := [(0, vv_A 0), (1, vv_I 1)]) dx_X11_init_244 rfl (by decide) rfl ?_
  refine go_goto (tgt := 228) dx_X11_init_247 rfl ?_
  refine go_iload_n (i := 1) dx_X11_init_228 rfl rfl ?_
  refine go_aload_n (i := 0) dx_X11_init_229 rfl rfl ?_
  refine go_getA (b := 93) fs_X11_105 rfl ⟨rfl, (Nat.le_of_ble_eq_true rfl)⟩ rfl dx_X11_init_230 ?_
  refine go_arraylength dx_X11_init_233 ⟨(Or.inl rfl), (Nat.le_of_ble_eq_true rfl)⟩ ?_
  refine go_asI (y := 3) (by rfl) ?_
  refine go_icmp_ge (tgt := 250) dx_X11_init_234 rfl (by decide) (by decide) (fun c => absurd c (by decide)) (fun c => ?_)
  refine go_aload_n (i := 0) dx_X11_init_237 rfl rfl ?_
  refine go_getA (b := 93) fs_X11_105 rfl ⟨rfl, (Nat.le_of_ble_eq_true rfl)⟩ rfl dx_X11_init_238 ?_
  refine go_iload_n (i := 1) dx_X11_init_241 rfl rfl ?_
  refine go_iconst dx_X11_init_242 ?_
  refine go_aI (i := 1) hd dx_X11_init_243 ⟨rfl, by decide⟩ (by decide) (fun hd => ?_)
  refine go_iinc (lv' := [(0, vv_A 0), (1, vv_I 2)]) dx_X11_init_244 rfl (by decide) rfl ?_
  refine go_goto (tgt := 228) dx_X11_init_247 rfl ?_
  refine go_iload_n (i := 1) dx_X11_init_228 rfl rfl ?_
  refine go_aload_n (i := 0) dx_X11_init_229 rfl rfl ?_
  refine go_getA (b := 93) fs_X11_105 rfl ⟨rfl, (Nat.le_of_ble_eq_true rfl)⟩ rfl dx_X11_init_230 ?_
  refine go_arraylength dx_X11_init_233 ⟨(Or.inl rfl), (Nat.le_of_ble_eq_true rfl)⟩ ?_
  refine go_asI (y := 3) (by rfl) ?_
  refine go_icmp_ge (tgt := 250) dx_X11_init_234 rfl (by decide) (by decide) (fun c => absurd c (by decide)) (fun c => ?_)
  refine go_aload_n (i := 0) dx_X11_init_237 rfl rfl ?_
  refine go_getA (b := 93) fs_X11_105 rfl ⟨rfl, (Nat.le_of_ble_eq_true rfl)⟩ rfl dx_X11_init_238 ?_
  refine go_iload_n (i := 1) dx_X11_init_241 rfl rfl ?_
  refine go_iconst dx_X11_init_242 ?_
  refine go_aI (i := 2) hd dx_X11_init_243 ⟨rfl, by decide⟩ (by decide) (fun hd => ?_)
  refine go_iinc (lv' := [(0, vv_A 0), (1, vv_I 3)]) dx_X11_init_244 rfl (by decide) rfl ?_
  refine go_goto (tgt := 228) dx_X11_init_247 rfl ?_
  refine go_iload_n (i := 1) dx_X11_init_228 rfl rfl ?_
  refine go_aload_n (i := 0) dx_X11_init_229 rfl rfl ?_
  refine go_getA (b := 93) fs_X11_105 rfl ⟨rfl, (Nat.le_of_ble_eq_true rfl)⟩ rfl dx_X11_init_230 ?_
  refine go_arraylength dx_X11_init_233 ⟨(Or.inl rfl), (Nat.le_of_ble_eq_true rfl)⟩ ?_
  refine go_asI (y := 3) (by rfl) ?_
  refine go_icmp_ge (tgt := 250) dx_X11_init_234 rfl (by decide) (by decide) (fun c => ?_) (fun c => absurd c (by decide))
  refine go_aload_n (i := 0) dx_X11_init_250 rfl rfl ?_
  refine go_iconst dx_X11_init_251 ?_
  refine go_pI hd fp_X11_109 rfl rfl ⟨rfl, by decide⟩ dx_X11_init_252 (fun hd => ?_)
  refine go_aload_n (i := 0) dx_X11_init_255 rfl rfl ?_
  refine go_iconst dx_X11_init_256 ?_
  refine go_pI hd fp_X11_113 rfl rfl ⟨rfl, by decide⟩ dx_X11_init_257 (fun hd => ?_)
  refine go_vreturn dx_X11_init_260 rfl (Nat.le_refl _) (Nat.le_refl _) ?_
  exact hQ hr hd
theorem ct_X12_init_94 {E : go_E} {d : Nat} {ρ : Nat → Nat → Nat} {δ : Nat → Nat → Int} {Q : List go_V → go_F → (Nat → Nat → Int) → Prop} (hr : fz 0 95 ρ) (hd : fz 0 95 δ) (hQ : fz 0 136 (wr (wr (wr (wr (wr (wr (wr (wr (wr (wr (wr (wr (wr (wr (wr (wr (wr (wr (wr (wr (wr (wr (wr (wr (wr (wr (wr (wr (wr (wr (wr (wr (wr (wr (wr (wr (wr (wr (wr (wr (wr ρ 94 1 96) 94 2 97) 94 4 98) 94 5 99) 94 9 100) 94 10 101) 94 11 102) 94 12 103) 94 13 104) 94 14 105) 94 17 106) 94 18 107) 94 19 108) 94 21 109) 94 22 110) 94 23 111) 94 24 112) 94 25 113) 94 26 114) 94 27 115) 94 28 116) 94 29 117) 94 30 118) 94 31 119) 94 32 120) 94 33 121) 94 34 122) 94 38 123) 94 39 124) 94 40 125) 94 42 126) 94 43 127) 94 44 128) 94 45 129) 94 46 130) 94 47 131) 94 48 132) 94 49 133) 94 50 134) 94 51 135) 94 52 136) → fz 0 136 (wr (wr (wr (wr δ 94 8 (-1)) 135 0 (-1)) 135 1 (-1)) 135 2 (-1)) → Q [] (136, (wr (wr (wr (wr (wr (wr (wr (wr (wr (wr (wr (wr (wr (wr (wr (wr (wr (wr (wr (wr (wr (wr (wr (wr (wr (wr (wr (wr (wr (wr (wr (wr (wr (wr (wr (wr (wr (wr (wr (wr (wr ρ 94 1 96) 94 2 97) 94 4 98) 94 5 99) 94 9 100) 94 10 101) 94 11 102) 94 12 103) 94 13 104) 94 14 105) 94 17 106) 94 18 107) 94 19 108) 94 21 109) 94 22 110) 94 23 111) 94 24 112) 94 25 113) 94 26 114) 94 27 115) 94 28 116) 94 29 117) 94 30 118) 94 31 119) 94 32 120) 94 33 121) 94 34 122) 94 38 123) 94 39 124) 94 40 125) 94 42 126) 94 43 127) 94 44 128) 94 45 129) 94 46 130) 94 47 131) 94 48 132) 94 49 133) 94 50 134) 94 51 135) 94 52 136), 41, 27289) (wr (wr (wr (wr δ 94 8 (-1)) 135 0 (-1)) 135 1 (-1)) 135 2 (-1))) : Go E (d + 1) (41, 27289) mx_X12_init (95, ρ, 0, 0) 0 [(0, vv_A 94)] [] δ Q := by
  refine go_aload_n (i := 0) dx_X12_init_0 rfl rfl ?_
  refine go_objI oi_X12 oi_i oi_c dx_X12_init_1 (by decide) ?_
  refine go_aload_n (i := 0) dx_X12_init_4 rfl rfl ?_
  refine go_sipush dx_X12_init_5 rfl ?_
  refine go_newI (N := 384) (n' := 96) (c' := 1) (sl' := 384) hr hd dx_X12_init_8 rfl rfl rfl rfl rfl rfl (Nat.le_of_ble_eq_true rfl) (Nat.le_of_ble_eq_true rfl) (fun hr hd => ?_)
  refine go_pA hr fp_X12_7 rfl (Or.inr ⟨_, rfl⟩) rfl ⟨rfl, by decide⟩ dx_X12_init_10 (fun hr => ?_)
  refine go_aload_n (i := 0) dx_X12_init_13 rfl rfl ?_
  refine go_sipush dx_X12_init_14 rfl ?_
  refine go_newI (N := 1280) (n' := 97) (c' := 2) (sl' := 1664) hr hd dx_X12_init_17 rfl rfl rfl rfl rfl rfl (Nat.le_of_ble_eq_true rfl) (Nat.le_of_ble_eq_true rfl) (fun hr hd => ?_)
  refine go_pA hr fp_X12_13 rfl (Or.inr ⟨_, rfl⟩) rfl ⟨rfl, by decide⟩ dx_X12_init_19 (fun hr => ?_)
  refine go_aload_n (i := 0) dx_X12_init_22 rfl rfl ?_
  refine go_iconst dx_X12_init_23 ?_
  refine go_newZ (N := 2) (n' := 98) (c' := 3) (sl' := 1666) hr hd dx_X12_init_24 rfl rfl rfl rfl rfl rfl (Nat.le_of_ble_eq_true rfl) (Nat.le_of_ble_eq_true rfl) (fun hr hd => ?_)
  refine go_pA hr fp_X12_16 rfl (Or.inr ⟨_, rfl⟩) rfl ⟨rfl, by decide⟩ dx_X12_init_26 (fun hr => ?_)
  refine go_aload_n (i := 0) dx_X12_init_29 rfl rfl ?_
  refine go_bipush dx_X12_init_30 rfl ?_
  refine go_newI (N := 40) (n' := 99) (c' := 4) (sl' := 1706) hr hd dx_X12_init_32 rfl rfl rfl rfl rfl rfl (Nat.le_of_ble_eq_true rfl) (Nat.le_of_ble_eq_true rfl) (fun hr hd => ?_)
  refine go_pA hr fp_X12_20 rfl (Or.inr ⟨_, rfl⟩) rfl ⟨rfl, by decide⟩ dx_X12_init_34 (fun hr => ?_)
  refine go_aload_n (i := 0) dx_X12_init_37 rfl rfl ?_
  refine go_iconst dx_X12_init_38 ?_
  refine go_pI hd fp_X12_23 rfl rfl ⟨rfl, by decide⟩ dx_X12_init_39 (fun hd => ?_)
  refine go_aload_n (i := 0) dx_X12_init_42 rfl rfl ?_
  refine go_bipush dx_X12_init_43 rfl ?_
  refine go_newI (N := 64) (n' := 100) (c' := 5) (sl' := 1770) hr hd dx_X12_init_45 rfl rfl rfl rfl rfl rfl (Nat.le_of_ble_eq_true rfl) (Nat.le_of_ble_eq_true rfl) (fun hr hd => ?_)
  refine go_pA hr fp_X12_27 rfl (Or.inr ⟨_, rfl⟩) rfl ⟨rfl, by decide⟩ dx_X12_init_47 (fun hr => ?_)
  refine go_aload_n (i := 0) dx_X12_init_50 rfl rfl ?_
  refine go_bipush dx_X12_init_51 rfl ?_
  refine go_newI (N := 64) (n' := 101) (c' := 6) (sl' := 1834) hr hd dx_X12_init_53 rfl rfl rfl rfl rfl rfl (Nat.le_of_ble_eq_true rfl) (Nat.le_of_ble_eq_true rfl) (fun hr hd => ?_)
  refine go_pA hr fp_X12_30 rfl (Or.inr ⟨_, rfl⟩) rfl ⟨rfl, by decide⟩ dx_X12_init_55 (fun hr => ?_)
  refine go_aload_n (i := 0) dx_X12_init_58 rfl rfl ?_
  refine go_bipush dx_X12_init_59 rfl ?_
  refine go_newI (N := 64) (n' := 102) (c' := 7) (sl' := 1898) hr hd dx_X12_init_61 rfl rfl rfl rfl rfl rfl (Nat.le_of_ble_eq_true rfl) (Nat.le_of_ble_eq_true rfl) (fun hr hd => ?_)
  refine go_pA hr fp_X12_33 rfl (Or.inr ⟨_, rfl⟩) rfl ⟨rfl, by decide⟩ dx_X12_init_63 (fun hr => ?_)
  refine go_aload_n (i := 0) dx_X12_init_66 rfl rfl ?_
  refine go_bipush dx_X12_init_67 rfl ?_
  refine go_newI (N := 64) (n' := 103) (c' := 8) (sl' := 1962) hr hd dx_X12_init_69 rfl rfl rfl rfl rfl rfl (Nat.le_of_ble_eq_true rfl) (Nat.le_of_ble_eq_true rfl) (fun hr hd => ?_)
  refine go_pA hr fp_X12_36 rfl (Or.inr ⟨_, rfl⟩) rfl ⟨rfl, by decide⟩ dx_X12_init_71 (fun hr => ?_)
  refine go_aload_n (i := 0) dx_X12_init_74 rfl rfl ?_
  refine go_bipush dx_X12_init_75 rfl ?_
  refine go_newI (N := 48) (n' := 104) (c' := 9) (sl' := 2010) hr hd dx_X12_init_77 rfl rfl rfl rfl rfl rfl (Nat.le_of_ble_eq_true rfl) (Nat.le_of_ble_eq_true rfl) (fun hr hd => ?_)
  refine go_pA hr fp_X12_39 rfl (Or.inr ⟨_, rfl⟩) rfl ⟨rfl, by decide⟩ dx_X12_init_79 (fun hr => ?_)
  refine go_aload_n (i := 0) dx_X12_init_82 rfl rfl ?_
  refine go_bipush dx_X12_init_83 rfl ?_
  refine go_newI (N := 48) (n' := 105) (c' := 10) (sl' := 2058) hr hd dx_X12_init_85 rfl rfl rfl rfl rfl rfl (Nat.le_of_ble_eq_true rfl) (Nat.le_of_ble_eq_true rfl) (fun hr hd => ?_)
  refine go_pA hr fp_X12_42 rfl (Or.inr ⟨_, rfl⟩) rfl ⟨rfl, by decide⟩ dx_X12_init_87 (fun hr => ?_)
  refine go_aload_n (i := 0) dx_X12_init_90 rfl rfl ?_
  refine go_bipush dx_X12_init_91 rfl ?_
  refine go_newI (N := 14) (n' := 106) (c' := 11) (sl' := 2072) hr hd dx_X12_init_93 rfl rfl rfl rfl rfl rfl (Nat.le_of_ble_eq_true rfl) (Nat.le_of_ble_eq_true rfl) (fun hr hd => ?_)
  refine go_pA hr fp_X12_45 rfl (Or.inr ⟨_, rfl⟩) rfl ⟨rfl, by decide⟩ dx_X12_init_95 (fun hr => ?_)
  refine go_aload_n (i := 0) dx_X12_init_98 rfl rfl ?_
  refine go_bipush dx_X12_init_99 rfl ?_
  refine go_newI (N := 15) (n' := 107) (c' := 12) (sl' := 2087) hr hd dx_X12_init_101 rfl rfl rfl rfl rfl rfl (Nat.le_of_ble_eq_true rfl) (Nat.le_of_ble_eq_true rfl) (fun hr hd => ?_)
  refine go_pA hr fp_X12_48 rfl (Or.inr ⟨_, rfl⟩) rfl ⟨rfl, by decide⟩ dx_X12_init_103 (fun hr => ?_)
  refine go_aload_n (i := 0) dx_X12_init_106 rfl rfl ?_
  refine go_sipush dx_X12_init_107 rfl ?_
  refine go_newL (N := 256) (n' := 108) (c' := 13) (sl' := 2343) hr hd dx_X12_init_110 rfl rfl rfl rfl rfl rfl (Nat.le_of_ble_eq_true rfl) (Nat.le_of_ble_eq_true rfl) (fun hr hd => ?_)
  refine go_pA hr fp_X12_51 rfl (Or.inr ⟨_, rfl⟩) rfl ⟨rfl, by decide⟩ dx_X12_init_112 (fun hr => ?_)
  refine go_aload_n (i := 0) dx_X12_init_115 rfl rfl ?_
  refine go_sipush dx_X12_init_116 rfl ?_
  refine go_newL (N := 256) (n' := 109) (c' := 14) (sl' := 2599) hr hd dx_X12_init_119 rfl rfl rfl rfl rfl rfl (Nat.le_of_ble_eq_true rfl) (Nat.le_of_ble_eq_true rfl) (fun hr hd => ?_)
  refine go_pA hr fp_X12_55 rfl (Or.inr ⟨_, rfl⟩) rfl ⟨rfl, by decide⟩ dx_X12_init_121 (fun hr => ?_)
  refine go_aload_n (i := 0) dx_X12_init_124 rfl rfl ?_
  refine go_sipush dx_X12_init_125 rfl ?_
  refine go_newL (N := 256) (n' := 110) (c' := 15) (sl' := 2855) hr hd dx_X12_init_128 rfl rfl rfl rfl rfl rfl (Nat.le_of_ble_eq_true rfl) (Nat.le_of_ble_eq_true rfl) (fun hr hd => ?_)
  refine go_pA hr fp_X12_58 rfl (Or.inr ⟨_, rfl⟩) rfl ⟨rfl, by decide⟩ dx_X12_init_130 (fun hr => ?_)
  refine go_aload_n (i := 0) dx_X12_init_133 rfl rfl ?_
  refine go_sipush dx_X12_init_134 rfl ?_
  refine go_newL (N := 2048) (n' := 111) (c' := 16) (sl' := 4903) hr hd dx_X12_init_137 rfl rfl rfl rfl rfl rfl (Nat.le_of_ble_eq_true rfl) (Nat.le_of_ble_eq_true rfl) (fun hr hd => ?_)
  refine go_pA hr fp_X12_61 rfl (Or.inr ⟨_, rfl⟩) rfl ⟨rfl, by decide⟩ dx_X12_init_139 (fun hr => ?_)
  refine go_aload_n (i := 0) dx_X12_init_142 rfl rfl ?_
  refine go_sipush dx_X12_init_143 rfl ?_
  refine go_newL (N := 2048) (n' := 112) (c' := 17) (sl' := 6951) hr hd dx_X12_init_146 rfl rfl rfl rfl rfl rfl (Nat.le_of_ble_eq_true rfl) (Nat.le_of_ble_eq_true rfl) (fun hr hd => ?_)
  refine go_pA hr fp_X12_64 rfl (Or.inr ⟨_, rfl⟩) rfl ⟨rfl, by decide⟩ dx_X12_init_148 (fun hr => ?_)
  refine go_aload_n (i := 0) dx_X12_init_151 rfl rfl ?_
  refine go_bipush dx_X12_init_152 rfl ?_
  refine go_newL (N := 96) (n' := 113) (c' := 18) (sl' := 7047) hr hd dx_X12_init_154 rfl rfl rfl rfl rfl rfl (Nat.le_of_ble_eq_true rfl) (Nat.le_of_ble_eq_true rfl) (fun hr hd => ?_)
  refine go_pA hr fp_X12_67 rfl (Or.inr ⟨_, rfl⟩) rfl ⟨rfl, by decide⟩ dx_X12_init_156 (fun hr => ?_)
  refine go_aload_n (i := 0) dx_X12_init_159 rfl rfl ?_
  refine go_sipush dx_X12_init_160 rfl ?_
  refine go_newL (N := 2048) (n' := 114) (c' := 19) (sl' := 9095) hr hd dx_X12_init_163 rfl rfl rfl rfl rfl rfl (Nat.le_of_ble_eq_true rfl) (Nat.le_of_ble_eq_true rfl) (fun hr hd => ?_)
  refine go_pA hr fp_X12_70 rfl (Or.inr ⟨_, rfl⟩) rfl ⟨rfl, by decide⟩ dx_X12_init_165 (fun hr => ?_)
  refine go_aload_n (i := 0) dx_X12_init_168 rfl rfl ?_
  refine go_bipush dx_X12_init_169 rfl ?_
  refine go_newL (N := 8) (n' := 115) (c' := 20) (sl' := 9103) hr hd dx_X12_init_171 rfl rfl rfl rfl rfl rfl (Nat.le_of_ble_eq_true rfl) (Nat.le_of_ble_eq_true rfl) (fun hr hd => ?_)
  refine go_pA hr fp_X12_73 rfl (Or.inr ⟨_, rfl⟩) rfl ⟨rfl, by decide⟩ dx_X12_init_173 (fun hr => ?_)
  refine go_aload_n (i := 0) dx_X12_init_176 rfl rfl ?_
  refine go_sipush dx_X12_init_177 rfl ?_
  refine go_newI (N := 240) (n' := 116) (c' := 21) (sl' := 9343) hr hd dx_X12_init_180 rfl rfl rfl rfl rfl rfl (Nat.le_of_ble_eq_true rfl) (Nat.le_of_ble_eq_true rfl) (fun hr hd => ?_)
  refine go_pA hr fp_X12_76 rfl (Or.inr ⟨_, rfl⟩) rfl ⟨rfl, by decide⟩ dx_X12_init_182 (fun hr => ?_)
  refine go_aload_n (i := 0) dx_X12_init_185 rfl rfl ?_
  refine go_sipush dx_X12_init_186 rfl ?_
  refine go_newI (N := 240) (n' := 117) (c' := 22) (sl' := 9583) hr hd dx_X12_init_189 rfl rfl rfl rfl rfl rfl (Nat.le_of_ble_eq_true rfl) (Nat.le_of_ble_eq_true rfl) (fun hr hd => ?_)
  refine go_pA hr fp_X12_79 rfl (Or.inr ⟨_, rfl⟩) rfl ⟨rfl, by decide⟩ dx_X12_init_191 (fun hr => ?_)
  refine go_aload_n (i := 0) dx_X12_init_194 rfl rfl ?_
  refine go_sipush dx_X12_init_195 rfl ?_
  refine go_newI (N := 240) (n' := 118) (c' := 23) (sl' := 9823) hr hd dx_X12_init_198 rfl rfl rfl rfl rfl rfl (Nat.le_of_ble_eq_true rfl) (Nat.le_of_ble_eq_true rfl) (fun hr hd => ?_)
  refine go_pA hr fp_X12_82 rfl (Or.inr ⟨_, rfl⟩) rfl ⟨rfl, by decide⟩ dx_X12_init_200 (fun hr => ?_)
  refine go_aload_n (i := 0) dx_X12_init_203 rfl rfl ?_
  refine go_sipush dx_X12_init_204 rfl ?_
  refine go_newI (N := 240) (n' := 119) (c' := 24) (sl' := 10063) hr hd dx_X12_init_207 rfl rfl rfl rfl rfl rfl (Nat.le_of_ble_eq_true rfl) (Nat.le_of_ble_eq_true rfl) (fun hr hd => ?_)
  refine go_pA hr fp_X12_85 rfl (Or.inr ⟨_, rfl⟩) rfl ⟨rfl, by decide⟩ dx_X12_init_209 (fun hr => ?_)
  refine go_aload_n (i := 0) dx_X12_init_212 rfl rfl ?_
  refine go_sipush dx_X12_init_213 rfl ?_
  refine go_newI (N := 240) (n' := 120) (c' := 25) (sl' := 10303) hr hd dx_X12_init_216 rfl rfl rfl rfl rfl rfl (Nat.le_of_ble_eq_true rfl) (Nat.le_of_ble_eq_true rfl) (fun hr hd => ?_)
  refine go_pA hr fp_X12_88 rfl (Or.inr ⟨_, rfl⟩) rfl ⟨rfl, by decide⟩ dx_X12_init_218 (fun hr => ?_)
  refine go_aload_n (i := 0) dx_X12_init_221 rfl rfl ?_
  refine go_sipush dx_X12_init_222 rfl ?_
  refine go_newI (N := 400) (n' := 121) (c' := 26) (sl' := 10703) hr hd dx_X12_init_225 rfl rfl rfl rfl rfl rfl (Nat.le_of_ble_eq_true rfl) (Nat.le_of_ble_eq_true rfl) (fun hr hd => ?_)
  refine go_pA hr fp_X12_91 rfl (Or.inr ⟨_, rfl⟩) rfl ⟨rfl, by decide⟩ dx_X12_init_227 (fun hr => ?_)
  refine go_aload_n (i := 0) dx_X12_init_230 rfl rfl ?_
  refine go_bipush dx_X12_init_231 rfl ?_
  refine go_newI (N := 6) (n' := 122) (c' := 27) (sl' := 10709) hr hd dx_X12_init_233 rfl rfl rfl rfl rfl rfl (Nat.le_of_ble_eq_true rfl) (Nat.le_of_ble_eq_true rfl) (fun hr hd => ?_)
  refine go_pA hr fp_X12_94 rfl (Or.inr ⟨_, rfl⟩) rfl ⟨rfl, by decide⟩ dx_X12_init_235 (fun hr => ?_)
  refine go_aload_n (i := 0) dx_X12_init_238 rfl rfl ?_
  refine go_iconst dx_X12_init_239 ?_
  refine go_newL (N := 5) (n' := 123) (c' := 28) (sl' := 10714) hr hd dx_X12_init_240 rfl rfl rfl rfl rfl rfl (Nat.le_of_ble_eq_true rfl) (Nat.le_of_ble_eq_true rfl) (fun hr hd => ?_)
  refine go_pA hr fp_X12_97 rfl (Or.inr ⟨_, rfl⟩) rfl ⟨rfl, by decide⟩ dx_X12_init_242 (fun hr => ?_)
  refine go_aload_n (i := 0) dx_X12_init_245 rfl rfl ?_
  refine go_bipush dx_X12_init_246 rfl ?_
  refine go_newL (N := 80) (n' := 124) (c' := 29) (sl' := 10794) hr hd dx_X12_init_248 rfl rfl rfl rfl rfl rfl (Nat.le_of_ble_eq_true rfl) (Nat.le_of_ble_eq_true rfl) (fun hr hd => ?_)
  refine go_pA hr fp_X12_100 rfl (Or.inr ⟨_, rfl⟩) rfl ⟨rfl, by decide⟩ dx_X12_init_250 (fun hr => ?_)
  refine go_aload_n (i := 0) dx_X12_init_253 rfl rfl ?_
  refine go_bipush dx_X12_init_254 rfl ?_
  refine go_newI (N := 20) (n' := 125) (c' := 30) (sl' := 10814) hr hd dx_X12_init_256 rfl rfl rfl rfl rfl rfl (Nat.le_of_ble_eq_true rfl) (Nat.le_of_ble_eq_true rfl) (fun hr hd => ?_)
  refine go_pA hr fp_X12_103 rfl (Or.inr ⟨_, rfl⟩) rfl ⟨rfl, by decide⟩ dx_X12_init_258 (fun hr => ?_)
  refine go_aload_n (i := 0) dx_X12_init_261 rfl rfl ?_
  refine go_bipush dx_X12_init_262 rfl ?_
  refine go_newI (N := 16) (n' := 126) (c' := 31) (sl' := 10830) hr hd dx_X12_init_264 rfl rfl rfl rfl rfl rfl (Nat.le_of_ble_eq_true rfl) (Nat.le_of_ble_eq_true rfl) (fun hr hd => ?_)
  refine go_pA hr fp_X12_106 rfl (Or.inr ⟨_, rfl⟩) rfl ⟨rfl, by decide⟩ dx_X12_init_266 (fun hr => ?_)
  refine go_aload_n (i := 0) dx_X12_init_269 rfl rfl ?_
  refine go_sipush dx_X12_init_270 rfl ?_
  refine go_newI (N := 15872) (n' := 127) (c' := 32) (sl' := 26702) hr hd dx_X12_init_273 rfl rfl rfl rfl rfl rfl (Nat.le_of_ble_eq_true rfl) (Nat.le_of_ble_eq_true rfl) (fun hr hd => ?_)
  refine go_pA hr fp_X12_109 rfl (Or.inr ⟨_, rfl⟩) rfl ⟨rfl, by decide⟩ dx_X12_init_275 (fun hr => ?_)
  refine go_aload_n (i := 0) dx_X12_init_278 rfl rfl ?_
  refine go_bipush dx_X12_init_279 rfl ?_
  refine go_newI (N := 14) (n' := 128) (c' := 33) (sl' := 26716) hr hd dx_X12_init_281 rfl rfl rfl rfl rfl rfl (Nat.le_of_ble_eq_true rfl) (Nat.le_of_ble_eq_true rfl) (fun hr hd => ?_)
  refine go_pA hr fp_X12_112 rfl (Or.inr ⟨_, rfl⟩) rfl ⟨rfl, by decide⟩ dx_X12_init_283 (fun hr => ?_)
  refine go_aload_n (i := 0) dx_X12_init_286 rfl rfl ?_
  refine go_sipush dx_X12_init_287 rfl ?_
  refine go_newZ (N := 128) (n' := 129) (c' := 34) (sl' := 26844) hr hd dx_X12_init_290 rfl rfl rfl rfl rfl rfl (Nat.le_of_ble_eq_true rfl) (Nat.le_of_ble_eq_true rfl) (fun hr hd => ?_)
  refine go_pA hr fp_X12_115 rfl (Or.inr ⟨_, rfl⟩) rfl ⟨rfl, by decide⟩ dx_X12_init_292 (fun hr => ?_)
  refine go_aload_n (i := 0) dx_X12_init_295 rfl rfl ?_
  refine go_bipush dx_X12_init_296 rfl ?_
  refine go_newZ (N := 16) (n' := 130) (c' := 35) (sl' := 26860) hr hd dx_X12_init_298 rfl rfl rfl rfl rfl rfl (Nat.le_of_ble_eq_true rfl) (Nat.le_of_ble_eq_true rfl) (fun hr hd => ?_)
  refine go_pA hr fp_X12_118 rfl (Or.inr ⟨_, rfl⟩) rfl ⟨rfl, by decide⟩ dx_X12_init_300 (fun hr => ?_)
  refine go_aload_n (i := 0) dx_X12_init_303 rfl rfl ?_
  refine go_bipush dx_X12_init_304 rfl ?_
  refine go_newI (N := 14) (n' := 131) (c' := 36) (sl' := 26874) hr hd dx_X12_init_306 rfl rfl rfl rfl rfl rfl (Nat.le_of_ble_eq_true rfl) (Nat.le_of_ble_eq_true rfl) (fun hr hd => ?_)
  refine go_pA hr fp_X12_121 rfl (Or.inr ⟨_, rfl⟩) rfl ⟨rfl, by decide⟩ dx_X12_init_308 (fun hr => ?_)
  refine go_aload_n (i := 0) dx_X12_init_311 rfl rfl ?_
  refine go_sipush dx_X12_init_312 rfl ?_
  refine go_newL (N := 128) (n' := 132) (c' := 37) (sl' := 27002) hr hd dx_X12_init_315 rfl rfl rfl rfl rfl rfl (Nat.le_of_ble_eq_true rfl) (Nat.le_of_ble_eq_true rfl) (fun hr hd => ?_)
  refine go_pA hr fp_X12_124 rfl (Or.inr ⟨_, rfl⟩) rfl ⟨rfl, by decide⟩ dx_X12_init_317 (fun hr => ?_)
  refine go_aload_n (i := 0) dx_X12_init_320 rfl rfl ?_
  refine go_sipush dx_X12_init_321 rfl ?_
  refine go_newL (N := 128) (n' := 133) (c' := 38) (sl' := 27130) hr hd dx_X12_init_324 rfl rfl rfl rfl rfl rfl (Nat.le_of_ble_eq_true rfl) (Nat.le_of_ble_eq_true rfl) (fun hr hd => ?_)
  refine go_pA hr fp_X12_127 rfl (Or.inr ⟨_, rfl⟩) rfl ⟨rfl, by decide⟩ dx_X12_init_326 (fun hr => ?_)
  refine go_aload_n (i := 0) dx_X12_init_329 rfl rfl ?_
  refine go_bipush dx_X12_init_330 rfl ?_
  refine go_newL (N := 96) (n' := 134) (c' := 39) (sl' := 27226) hr hd dx_X12_init_332 rfl rfl rfl rfl rfl rfl (Nat.le_of_ble_eq_true rfl) (Nat.le_of_ble_eq_true rfl) (fun hr hd => ?_)
  refine go_pA hr fp_X12_130 rfl (Or.inr ⟨_, rfl⟩) rfl ⟨rfl, by decide⟩ dx_X12_init_334 (fun hr => ?_)
  refine go_aload_n (i := 0) dx_X12_init_337 rfl rfl ?_
  refine go_bipush dx_X12_init_338 rfl ?_
  refine go_newL (N := 60) (n' := 135) (c' := 40) (sl' := 27286) hr hd dx_X12_init_340 rfl rfl rfl rfl rfl rfl (Nat.le_of_ble_eq_true rfl) (Nat.le_of_ble_eq_true rfl) (fun hr hd => ?_)
  refine go_pA hr fp_X12_133 rfl (Or.inr ⟨_, rfl⟩) rfl ⟨rfl, by decide⟩ dx_X12_init_342 (fun hr => ?_)
  refine go_aload_n (i := 0) dx_X12_init_345 rfl rfl ?_
  refine go_iconst dx_X12_init_346 ?_
  refine go_newI (N := 3) (n' := 136) (c' := 41) (sl' := 27289) hr hd dx_X12_init_347 rfl rfl rfl rfl rfl rfl (Nat.le_of_ble_eq_true rfl) (Nat.le_of_ble_eq_true rfl) (fun hr hd => ?_)
  refine go_dup dx_X12_init_349 rfl ?_
  refine go_iconst dx_X12_init_350 ?_
  refine go_iconst dx_X12_init_351 ?_
  refine go_aI (i := 0) hd dx_X12_init_352 ⟨rfl, by decide⟩ (by decide) (fun hd => ?_)
  refine go_dup dx_X12_init_353 rfl ?_
  refine go_iconst dx_X12_init_354 ?_
  refine go_iconst dx_X12_init_355 ?_
  refine go_aI (i := 1) hd dx_X12_init_356 ⟨rfl, by decide⟩ (by decide) (fun hd => ?_)
  refine go_dup dx_X12_init_357 rfl ?_
  refine go_iconst dx_X12_init_358 ?_
  refine go_iconst dx_X12_init_359 ?_
  refine go_aI (i := 2) hd dx_X12_init_360 ⟨rfl, by decide⟩ (by decide) (fun hd => ?_)
  refine go_pA hr fp_X12_136 rfl (Or.inr ⟨_, rfl⟩) rfl ⟨rfl, by decide⟩ dx_X12_init_361 (fun hr => ?_)
  refine go_vreturn dx_X12_init_364 rfl (Nat.le_refl _) (Nat.le_refl _) ?_
  exact hQ hr hd
