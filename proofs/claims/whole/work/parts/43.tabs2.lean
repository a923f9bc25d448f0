/-! the class's tables: what each kind does of its own -/
def tb_min (a b : Int) : Int := if a = -1 then b else if b < a then b else a
def ro_two (a b : Int) : Int := 1 + (if b < a then a else b)
def fo_add (a b : Int) : Int := if a < 0 ∨ b < 0 then -7 else if 9223372036854775807 - b < a then -7 else a + b
def fo_mul (a b : Int) : Int := if a = 0 ∨ b = 0 then 0 else if a < 0 ∨ b < 0 then -7 else if 9223372036854775807 / b < a then -7 else a * b
noncomputable def M42 : Nat := Classical.choose (Exists.intro (2 ^ 42) rfl : ∃ m, m = 2 ^ 42)
theorem M42_eq : M42 = 2 ^ 42 := Classical.choose_spec (Exists.intro (2 ^ 42) rfl : ∃ m, m = 2 ^ 42)
theorem M42_lit : M42 = 4398046511104 := M42_eq
theorem M42_pos : 0 < M42 := by rw [M42_eq]; exact Nat.two_pow_pos _
noncomputable def ne_key (a1 a2 : Nat) : Nat := a2 + a1 * M42
theorem ne_div {a1 a2 : Nat} (h : a2 < M42) : ne_key a1 a2 / M42 = a1 := by unfold ne_key; rw [Nat.add_mul_div_right _ _ M42_pos, Nat.div_eq_of_lt h, Nat.zero_add]
theorem ne_mod {a1 a2 : Nat} (h : a2 < M42) : ne_key a1 a2 % M42 = a2 := by unfold ne_key; rw [Nat.add_mul_mod_self_right, Nat.mod_eq_of_lt h]
theorem ne_key_lt {a1 a2 : Nat} (h1 : a1 ≤ 30) (h2 : a2 < M42) : ne_key a1 a2 < 9223372036854775808 := by
  have h3 : a1 * M42 ≤ 30 * M42 := Nat.mul_le_mul_right _ h1
  have h4 := M42_lit
  unfold ne_key
  generalize a1 * M42 = p at h3
  generalize M42 = q at h2 h3 h4
  omega
noncomputable def ne_let (w : List Nat) (x i : Nat) : Int := (ne_key (if w[i]? = some x then 0 else 1) (x - 8) : Int)
noncomputable def ne_two (a b : Int) (s : Nat) : Int := (ne_key (a.toNat / M42 + b.toNat / M42) (a.toNat % M42 * 8 ^ s + b.toNat % M42) : Int)
def ne_pre (a b : Int) (s t : Nat) : Prop := ∃ a1 a2 b1 b2 : Nat, a = (ne_key a1 a2 : Int) ∧ b = (ne_key b1 b2 : Int) ∧ a1 ≤ 14 ∧ b1 ≤ 14 ∧ a2 < 8 ^ s ∧ b2 < 8 ^ t
section GSMT
variable {E : go_E} {d : Nat} {δ : Nat → Nat → Int} {Q : List go_V → go_F → (Nat → Nat → Int) → Prop} {o c : Nat} {al : Bool} {K : sK}
theorem g_Rounds_ofLetter {x i : Int} (hQ : Q [vv_L 0] go_φ δ) : Go E d (0, 0) mx_X6_ofLetter go_φ 0 [(0, vv_A o), (1, vv_I x), (2, vv_I i)] [] δ Q := by
  refine go_lconst (x := 0) dx_X6_ofLetter_0 rfl ?_
  refine go_lreturn dx_X6_ofLetter_1 rfl (Nat.le_refl _) (Nat.le_refl _) ?_
  exact hQ
theorem g_Rounds_ofTwo {a b : Int} {s : Int} (h : go_iL a ∧ go_iL b) (hQ : Q [vv_L (ro_two a b)] go_φ δ) : Go E (d + 1) (0, 0) mx_X6_ofTwo go_φ 0 [(0, vv_A o), (1, vv_L a), (3, vv_L b), (5, vv_I s)] [] δ Q := by
  obtain ⟨h1, h2⟩ := h
  refine go_lconst (x := 1) dx_X6_ofTwo_0 rfl ?_
  refine go_lload_n (i := 1) dx_X6_ofTwo_1 rfl rfl ?_
  refine go_lload_n (i := 3) dx_X6_ofTwo_2 rfl rfl ?_
  refine go_mmaxL mm_X6_11 dx_X6_ofTwo_3 (by omega) (by omega) (Nat.le_of_ble_eq_true rfl) (Nat.le_refl _) (Nat.le_refl _) ?_
  refine go_ladd dx_X6_ofTwo_6 ?_
  refine go_lreturn dx_X6_ofTwo_7 rfl (Nat.le_refl _) (Nat.le_refl _) ?_
  exact hQ
theorem g_Rounds_merge {a b : Int} (ho : tb_ok 6 o c al) (h3 : δ o 3 = -1) (ha : go_iL a) (hb : go_iL b) (hQ : Q [vv_L (tb_min a b)] go_φ δ) : Go E (d + 1) (0, 0) mx_X6_merge go_φ 0 [(0, vv_A o), (1, vv_L a), (3, vv_L b)] [] δ Q := by
  refine go_lload_n (i := 1) dx_X6_merge_0 rfl rfl ?_
  refine go_aload_n (i := 0) dx_X6_merge_1 rfl rfl ?_
  refine go_getL fs_X6_17 rfl (tb_k0 ho) dx_X6_merge_2 ?_
  refine go_asL (y := (-1)) (by exact h3) ?_
  refine go_lcmp_ne (tgt := 13) dx_X6_merge_5 dx_X6_merge_6 rfl (by omega) (by omega) (fun c5 => ?_) (fun c5 => ?_)
  · refine go_lload_n (i := 1) dx_X6_merge_13 rfl rfl ?_
    refine go_lload_n (i := 3) dx_X6_merge_14 rfl rfl ?_
    refine go_mminL mm_X6_23 dx_X6_merge_15 (by omega) (by omega) (Nat.le_of_ble_eq_true rfl) (Nat.le_refl _) (Nat.le_refl _) ?_
    refine go_lreturn dx_X6_merge_18 rfl (Nat.le_refl _) (Nat.le_refl _) ?_
    rw [show tb_min a b = (if b < a then b else a) by unfold tb_min; rw [if_neg c5]] at hQ
    exact hQ
  · refine go_lload_n (i := 3) dx_X6_merge_9 rfl rfl ?_
    refine go_goto (tgt := 18) dx_X6_merge_10 rfl ?_
    refine go_lreturn dx_X6_merge_18 rfl (Nat.le_refl _) (Nat.le_refl _) ?_
    rw [show tb_min a b = b by unfold tb_min; rw [if_pos c5]] at hQ
    exact hQ
theorem g_Forest_ofLetter {x i : Int} (hQ : Q [vv_L 1] go_φ δ) : Go E d (0, 0) mx_X2_ofLetter go_φ 0 [(0, vv_A o), (1, vv_I x), (2, vv_I i)] [] δ Q := by
  refine go_lconst (x := 1) dx_X2_ofLetter_0 rfl ?_
  refine go_lreturn dx_X2_ofLetter_1 rfl (Nat.le_refl _) (Nat.le_refl _) ?_
  exact hQ
theorem g_Forest_plus {a b : Int} (ha : go_iL a) (hb : go_iL b) (hQ : Q [vv_L (fo_add a b)] go_φ δ) : Go E d (0, 0) mx_X2_plus go_φ 0 [(0, vv_L a), (2, vv_L b)] [] δ Q := by
  refine go_lload_n (i := 0) dx_X2_plus_0 rfl rfl ?_
  refine go_lconst (x := 0) dx_X2_plus_1 rfl ?_
  refine go_lcmp_lt (tgt := 12) dx_X2_plus_2 dx_X2_plus_3 rfl (by omega) (by omega) (fun c2 => ?_) (fun c2 => ?_)
  · refine go_ldc2 (x := (-7)) kx_X2_73 dx_X2_plus_12 ?_
    refine go_lreturn dx_X2_plus_15 rfl (Nat.le_refl _) (Nat.le_refl _) ?_
    rw [show fo_add a b = -7 by unfold fo_add; rw [if_pos (by omega)]] at hQ
    exact hQ
  · refine go_lload_n (i := 2) dx_X2_plus_6 rfl rfl ?_
    refine go_lconst (x := 0) dx_X2_plus_7 rfl ?_
    refine go_lcmp_ge (tgt := 16) dx_X2_plus_8 dx_X2_plus_9 rfl (by omega) (by omega) (fun c8 => ?_) (fun c8 => ?_)
    · refine go_lload_n (i := 0) dx_X2_plus_16 rfl rfl ?_
      refine go_ldc2 (x := 9223372036854775807) kx_X2_75 dx_X2_plus_17 ?_
      refine go_lload_n (i := 2) dx_X2_plus_20 rfl rfl ?_
      refine go_lsub dx_X2_plus_21 ?_
      refine go_lcmp_le (tgt := 32) dx_X2_plus_22 dx_X2_plus_23 rfl (by omega) (by omega) (fun c22 => ?_) (fun c22 => ?_)
      · refine go_lload_n (i := 0) dx_X2_plus_32 rfl rfl ?_
        refine go_lload_n (i := 2) dx_X2_plus_33 rfl rfl ?_
        refine go_ladd dx_X2_plus_34 ?_
        refine go_lreturn dx_X2_plus_35 rfl (Nat.le_refl _) (Nat.le_refl _) ?_
        first | (rw [show fo_add a b = -7 by unfold fo_add; rw [if_neg (by omega), if_pos (by omega)]] at hQ; exact hQ) | (rw [show fo_add a b = a + b by unfold fo_add; rw [if_neg (by omega), if_neg (by omega)]] at hQ; exact hQ)
      · refine go_ldc2 (x := (-7)) kx_X2_73 dx_X2_plus_26 ?_
        refine go_goto (tgt := 35) dx_X2_plus_29 rfl ?_
        refine go_lreturn dx_X2_plus_35 rfl (Nat.le_refl _) (Nat.le_refl _) ?_
        first | (rw [show fo_add a b = -7 by unfold fo_add; rw [if_neg (by omega), if_pos (by omega)]] at hQ; exact hQ) | (rw [show fo_add a b = a + b by unfold fo_add; rw [if_neg (by omega), if_neg (by omega)]] at hQ; exact hQ)
    · refine go_ldc2 (x := (-7)) kx_X2_73 dx_X2_plus_12 ?_
      refine go_lreturn dx_X2_plus_15 rfl (Nat.le_refl _) (Nat.le_refl _) ?_
      rw [show fo_add a b = -7 by unfold fo_add; rw [if_pos (by omega)]] at hQ
      exact hQ
theorem g_Forest_times {a b : Int} (ha : go_iL a) (hb : go_iL b) (hQ : Q [vv_L (fo_mul a b)] go_φ δ) : Go E d (0, 0) mx_X2_times go_φ 0 [(0, vv_L a), (2, vv_L b)] [] δ Q := by
  have hd : 0 < b → 0 ≤ 9223372036854775807 / b ∧ 9223372036854775807 / b ≤ 9223372036854775807 := fun h => ⟨Int.ediv_nonneg (by decide) (by omega), Int.ediv_le_self _ (by decide)⟩
  refine go_lload_n (i := 0) dx_X2_times_0 rfl rfl ?_
  refine go_lconst (x := 0) dx_X2_times_1 rfl ?_
  refine go_lcmp_eq (tgt := 12) dx_X2_times_2 dx_X2_times_3 rfl (by omega) (by omega) (fun c2 => ?_) (fun c2 => ?_)
  · refine go_lconst (x := 0) dx_X2_times_12 rfl ?_
    refine go_lreturn dx_X2_times_13 rfl (Nat.le_refl _) (Nat.le_refl _) ?_
    rw [show fo_mul a b = 0 by unfold fo_mul; rw [if_pos (by omega)]] at hQ
    exact hQ
  · refine go_lload_n (i := 2) dx_X2_times_6 rfl rfl ?_
    refine go_lconst (x := 0) dx_X2_times_7 rfl ?_
    refine go_lcmp_ne (tgt := 14) dx_X2_times_8 dx_X2_times_9 rfl (by omega) (by omega) (fun c8 => ?_) (fun c8 => ?_)
    · refine go_lload_n (i := 0) dx_X2_times_14 rfl rfl ?_
      refine go_lconst (x := 0) dx_X2_times_15 rfl ?_
      refine go_lcmp_lt (tgt := 26) dx_X2_times_16 dx_X2_times_17 rfl (by omega) (by omega) (fun c16 => ?_) (fun c16 => ?_)
      · refine go_ldc2 (x := (-7)) kx_X2_73 dx_X2_times_26 ?_
        refine go_lreturn dx_X2_times_29 rfl (Nat.le_refl _) (Nat.le_refl _) ?_
        rw [show fo_mul a b = -7 by unfold fo_mul; rw [if_neg (by omega), if_pos (by omega)]] at hQ
        exact hQ
      · refine go_lload_n (i := 2) dx_X2_times_20 rfl rfl ?_
        refine go_lconst (x := 0) dx_X2_times_21 rfl ?_
        refine go_lcmp_ge (tgt := 30) dx_X2_times_22 dx_X2_times_23 rfl (by omega) (by omega) (fun c22 => ?_) (fun c22 => ?_)
        · refine go_lload_n (i := 0) dx_X2_times_30 rfl rfl ?_
          refine go_ldc2 (x := 9223372036854775807) kx_X2_75 dx_X2_times_31 ?_
          refine go_lload_n (i := 2) dx_X2_times_34 rfl rfl ?_
          refine go_ldiv dx_X2_times_35 (by omega) (by omega) (by omega) (by omega) ?_
          refine go_lcmp_le (tgt := 46) dx_X2_times_36 dx_X2_times_37 rfl (by first | omega | (have := hd (by omega); omega)) (by first | omega | (have := hd (by omega); omega)) (fun c36 => ?_) (fun c36 => ?_)
          · refine go_lload_n (i := 0) dx_X2_times_46 rfl rfl ?_
            refine go_lload_n (i := 2) dx_X2_times_47 rfl rfl ?_
            refine go_lmul dx_X2_times_48 ?_
            refine go_lreturn dx_X2_times_49 rfl (Nat.le_refl _) (Nat.le_refl _) ?_
            first | (rw [show fo_mul a b = -7 by unfold fo_mul; rw [if_neg (by omega), if_neg (by omega), if_pos (by omega)]] at hQ; exact hQ) | (rw [show fo_mul a b = a * b by unfold fo_mul; rw [if_neg (by omega), if_neg (by omega), if_neg (by omega)]] at hQ; exact hQ)
          · refine go_ldc2 (x := (-7)) kx_X2_73 dx_X2_times_40 ?_
            refine go_goto (tgt := 49) dx_X2_times_43 rfl ?_
            refine go_lreturn dx_X2_times_49 rfl (Nat.le_refl _) (Nat.le_refl _) ?_
            first | (rw [show fo_mul a b = -7 by unfold fo_mul; rw [if_neg (by omega), if_neg (by omega), if_pos (by omega)]] at hQ; exact hQ) | (rw [show fo_mul a b = a * b by unfold fo_mul; rw [if_neg (by omega), if_neg (by omega), if_neg (by omega)]] at hQ; exact hQ)
        · refine go_ldc2 (x := (-7)) kx_X2_73 dx_X2_times_26 ?_
          refine go_lreturn dx_X2_times_29 rfl (Nat.le_refl _) (Nat.le_refl _) ?_
          rw [show fo_mul a b = -7 by unfold fo_mul; rw [if_neg (by omega), if_pos (by omega)]] at hQ
          exact hQ
    · refine go_lconst (x := 0) dx_X2_times_12 rfl ?_
      refine go_lreturn dx_X2_times_13 rfl (Nat.le_refl _) (Nat.le_refl _) ?_
      rw [show fo_mul a b = 0 by unfold fo_mul; rw [if_pos (by omega)]] at hQ
      exact hQ
theorem g_Forest_ofTwo {a b : Int} {s : Int} (h : go_iL a ∧ go_iL b) (hQ : Q [vv_L (fo_mul a b)] go_φ δ) : Go E (d + 1) (0, 0) mx_X2_ofTwo go_φ 0 [(0, vv_A o), (1, vv_L a), (3, vv_L b), (5, vv_I s)] [] δ Q := by
  refine go_lload_n (i := 1) dx_X2_ofTwo_0 rfl rfl ?_
  refine go_lload_n (i := 3) dx_X2_ofTwo_1 rfl rfl ?_
  refine go_cS2 ss_X2_15 dx_X2_ofTwo_2 (Nat.le_of_ble_eq_true rfl) (Nat.le_of_ble_eq_true rfl) (g_Forest_times h.1 h.2 ?_)
  refine go_lreturn dx_X2_ofTwo_5 rfl (Nat.le_refl _) (Nat.le_refl _) ?_
  exact hQ
theorem g_Forest_merge {a b : Int} (ho : tb_ok 2 o c al) (h3 : δ o 3 = 0) (ha : go_iL a) (hb : go_iL b) (hQ : Q [vv_L (fo_add a b)] go_φ δ) : Go E (d + 1) (0, 0) mx_X2_merge go_φ 0 [(0, vv_A o), (1, vv_L a), (3, vv_L b)] [] δ Q := by
  refine go_lload_n (i := 1) dx_X2_merge_0 rfl rfl ?_
  refine go_lload_n (i := 3) dx_X2_merge_1 rfl rfl ?_
  refine go_cS2 ss_X2_19 dx_X2_merge_2 (Nat.le_of_ble_eq_true rfl) (Nat.le_of_ble_eq_true rfl) (g_Forest_plus ha hb ?_)
  refine go_lreturn dx_X2_merge_5 rfl (Nat.le_refl _) (Nat.le_refl _) ?_
  exact hQ
theorem g_Nearest_merge {a b : Int} (ho : tb_ok 4 o c al) (h3 : δ o 3 = -1) (ha : go_iL a) (hb : go_iL b) (hQ : Q [vv_L (tb_min a b)] go_φ δ) : Go E (d + 1) (0, 0) mx_X4_merge go_φ 0 [(0, vv_A o), (1, vv_L a), (3, vv_L b)] [] δ Q := by
  refine go_lload_n (i := 1) dx_X4_merge_0 rfl rfl ?_
  refine go_aload_n (i := 0) dx_X4_merge_1 rfl rfl ?_
  refine go_getL fs_X4_25 rfl (tb_k0 ho) dx_X4_merge_2 ?_
  refine go_asL (y := (-1)) (by exact h3) ?_
  refine go_lcmp_ne (tgt := 13) dx_X4_merge_5 dx_X4_merge_6 rfl (by omega) (by omega) (fun c5 => ?_) (fun c5 => ?_)
  · refine go_lload_n (i := 1) dx_X4_merge_13 rfl rfl ?_
    refine go_lload_n (i := 3) dx_X4_merge_14 rfl rfl ?_
    refine go_mminL mm_X4_29 dx_X4_merge_15 (by omega) (by omega) (Nat.le_of_ble_eq_true rfl) (Nat.le_refl _) (Nat.le_refl _) ?_
    refine go_lreturn dx_X4_merge_18 rfl (Nat.le_refl _) (Nat.le_refl _) ?_
    rw [show tb_min a b = (if b < a then b else a) by unfold tb_min; rw [if_neg c5]] at hQ
    exact hQ
  · refine go_lload_n (i := 3) dx_X4_merge_9 rfl rfl ?_
    refine go_goto (tgt := 18) dx_X4_merge_10 rfl ?_
    refine go_lreturn dx_X4_merge_18 rfl (Nat.le_refl _) (Nat.le_refl _) ?_
    rw [show tb_min a b = b by unfold tb_min; rw [if_pos c5]] at hQ
    exact hQ
theorem ne_or {a1 a2 : Nat} (h1 : a1 ≤ 30) (h2 : a2 < M42) : bw_or (bw_shl (a1 : Int) 42) (a2 : Int) = (ne_key a1 a2 : Int) := by
  have h3 : a1 * M42 ≤ 30 * M42 := Nat.mul_le_mul_right _ h1
  have h4 := M42_lit
  have h5 : a1 * M42 < 9223372036854775808 := by
    generalize a1 * M42 = p at h3 ⊢
    generalize M42 = q at h2 h3 h4
    omega
  have h6 : a2 < 9223372036854775808 := by
    generalize M42 = q at h2 h4
    omega
  rw [show (42 : Int) = ((42 : Nat) : Int) from rfl, bw_shlN (by decide) (by rw [← M42_eq]; exact h5), ← M42_eq, bw_orN h5 h6, Nat.or_comm]
  unfold ne_key
  rw [M42_eq] at h2 ⊢
  rw [bt_or_add h2]
theorem ne_8 {s : Nat} (h : s ≤ 14) : 8 ^ s ≤ M42 := by
  rw [M42_eq, show (2 : Nat) ^ 42 = 8 ^ 14 from by decide]
  exact Nat.pow_le_pow_right (by decide) h
theorem g_Nearest_ofLetter {x i : Nat} (ho : tb_ok 4 o c al) (hr7 : go_rf o 7 = 3 + 1) (ht : td_at δ 3 K) (hi : i < K.2.2.length) (h8 : 8 ≤ x) (h14 : x < 14) (hQ : Q [vv_L (ne_let K.2.2 x i)] go_φ δ) :
    Go E (d + 1) (0, 0) mx_X4_ofLetter go_φ 0 [(0, vv_A o), (1, vv_I (x : Int)), (2, vv_I (i : Int))] [] δ Q := by
  obtain ⟨y, hy⟩ : ∃ y, K.2.2[i]'hi = y := ⟨_, rfl⟩
  have hy2 : K.2.2[i]? = some y := by rw [List.getElem?_eq_getElem hi, hy]
  have hyl := (ht.2.2.2.2.2.2.2.2.2 _ (List.getElem_mem hi)).2
  rw [hy] at hyl
  have hx : x - 8 < M42 := Nat.lt_of_lt_of_le (by omega) (ne_8 (s := 14) (Nat.le_refl _))
  unfold ne_let at hQ
  rw [hy2] at hQ
  refine go_iload_n (i := 1) dx_X4_ofLetter_0 rfl rfl ?_
  refine go_aload_n (i := 0) dx_X4_ofLetter_1 rfl rfl ?_
  refine go_getA (b := 3) fs_X4_13 rfl (tb_k0 ho) hr7 dx_X4_ofLetter_2 ?_
  refine go_iload_n (i := 2) dx_X4_ofLetter_5 rfl rfl ?_
  refine go_cV1 sv_X4_17 (go_ok rfl rfl) dx_X4_ofLetter_6 (Nat.le_of_ble_eq_true rfl) (Nat.le_of_ble_eq_true rfl) (g_Told_letterAt td_ok3 ht hi ?_)
  refine go_asI (y := (y : Int)) (by rw [hy]) ?_
  refine go_icmp_ne (tgt := 16) dx_X4_ofLetter_9 rfl (by omega) (by omega) (fun c9 => ?_) (fun c9 => ?_)
  · refine go_lconst (x := 1) dx_X4_ofLetter_16 rfl ?_
    refine go_lstore_n (i := 3) (lv' := [(0, vv_A o), (1, vv_I (x : Int)), (2, vv_I (i : Int)), (3, vv_L 1)]) dx_X4_ofLetter_17 rfl (by decide) rfl ?_
    refine go_lload_n (i := 3) dx_X4_ofLetter_18 rfl rfl ?_
    refine go_bipush dx_X4_ofLetter_19 rfl ?_
    refine go_lshl dx_X4_ofLetter_21 ?_
    refine go_iload_n (i := 1) dx_X4_ofLetter_22 rfl rfl ?_
    refine go_bipush dx_X4_ofLetter_23 rfl ?_
    refine go_isub dx_X4_ofLetter_25 ?_
    refine go_asI (y := ((x - 8 : Nat) : Int)) (by omega) ?_
    refine go_i2l dx_X4_ofLetter_26 (by omega) ?_
    refine go_lor dx_X4_ofLetter_27 ?_
    refine go_lreturn dx_X4_ofLetter_28 rfl (Nat.le_refl _) (Nat.le_refl _) ?_
    rw [if_neg (fun q => c9 (by injection q with q; omega))] at hQ
    rw [show (1 : Int) = ((1 : Nat) : Int) from rfl, ne_or (by decide) hx]
    exact hQ
  · refine go_lconst (x := 0) dx_X4_ofLetter_12 rfl ?_
    refine go_goto (tgt := 17) dx_X4_ofLetter_13 rfl ?_
    refine go_lstore_n (i := 3) (lv' := [(0, vv_A o), (1, vv_I (x : Int)), (2, vv_I (i : Int)), (3, vv_L 0)]) dx_X4_ofLetter_17 rfl (by decide) rfl ?_
    refine go_lload_n (i := 3) dx_X4_ofLetter_18 rfl rfl ?_
    refine go_bipush dx_X4_ofLetter_19 rfl ?_
    refine go_lshl dx_X4_ofLetter_21 ?_
    refine go_iload_n (i := 1) dx_X4_ofLetter_22 rfl rfl ?_
    refine go_bipush dx_X4_ofLetter_23 rfl ?_
    refine go_isub dx_X4_ofLetter_25 ?_
    refine go_asI (y := ((x - 8 : Nat) : Int)) (by omega) ?_
    refine go_i2l dx_X4_ofLetter_26 (by omega) ?_
    refine go_lor dx_X4_ofLetter_27 ?_
    refine go_lreturn dx_X4_ofLetter_28 rfl (Nat.le_refl _) (Nat.le_refl _) ?_
    rw [if_pos (by rw [show x = y by omega])] at hQ
    rw [show (0 : Int) = ((0 : Nat) : Int) from rfl, ne_or (by decide) hx]
    exact hQ
theorem ne_cat {a2 b2 s t : Nat} (h3 : a2 < 8 ^ s) (h4 : b2 < 8 ^ t) : a2 * 8 ^ t + b2 < 8 ^ (s + t) := by
  have : (a2 + 1) * 8 ^ t ≤ 8 ^ s * 8 ^ t := Nat.mul_le_mul_right _ h3
  rw [← Nat.pow_add, Nat.add_mul, Nat.one_mul] at this
  omega
theorem g_Nearest_ofTwo {a b : Int} {s t : Nat} (hst : s + t ≤ 14) (h : ne_pre a b s t) (hQ : Q [vv_L (ne_two a b t)] go_φ δ) : Go E d (0, 0) mx_X4_ofTwo go_φ 0 [(0, vv_A o), (1, vv_L a), (3, vv_L b), (5, vv_I (t : Int))] [] δ Q := by
  obtain ⟨a1, a2, b1, b2, rfl, rfl, h1, h2, h3, h4⟩ := h
  have h5 := ne_cat h3 h4
  have h6 := ne_8 hst
  have ha2 : a2 < M42 := Nat.lt_of_lt_of_le h3 (ne_8 (by omega))
  have hb2 : b2 < M42 := Nat.lt_of_lt_of_le h4 (ne_8 (by omega))
  have hc2 : a2 * 8 ^ t + b2 < M42 := Nat.lt_of_lt_of_le h5 h6
  have hm63 : M42 < 9223372036854775808 := by rw [M42_lit]; decide
  have u1 : bw_ushr (ne_key a1 a2 : Int) 42 = (a1 : Int) := by
    rw [show (42 : Int) = ((42 : Nat) : Int) from rfl, bw_ushrN (ne_key_lt (by omega) ha2) (by decide), ← M42_eq, ne_div ha2]
  have u2 : bw_ushr (ne_key b1 b2 : Int) 42 = (b1 : Int) := by
    rw [show (42 : Int) = ((42 : Nat) : Int) from rfl, bw_ushrN (ne_key_lt (by omega) hb2) (by decide), ← M42_eq, ne_div hb2]
  have m42 : ∀ n : Nat, n &&& (2 ^ 42 - 1) = n % M42 := fun n => by rw [M42_eq]; exact Nat.and_two_pow_sub_one_eq_mod n 42
  have e42 : (4398046511103 : Int) = ((2 ^ 42 - 1 : Nat) : Int) := by decide
  have v1 : bw_and (ne_key a1 a2 : Int) 4398046511103 = (a2 : Int) := by
    rw [e42, bw_andN (ne_key_lt (by omega) ha2) (by decide), m42, ne_mod ha2]
  have v2 : bw_and (ne_key b1 b2 : Int) 4398046511103 = (b2 : Int) := by
    rw [e42, bw_andN (ne_key_lt (by omega) hb2) (by decide), m42, ne_mod hb2]
  have e8 : 2 ^ (3 * t) = 8 ^ t := by rw [Nat.pow_mul]
  have hp : a2 * 8 ^ t < 9223372036854775808 := by omega
  have hb63 : b2 < 9223372036854775808 := by omega
  have w1 : bw_shl (a2 : Int) (3 * (t : Int)) = ((a2 * 8 ^ t : Nat) : Int) := by
    rw [show (3 : Int) * (t : Int) = ((3 * t : Nat) : Int) by omega, bw_shlN (by omega) (by rw [e8]; exact hp), e8]
  have w2 : bw_or ((a2 * 8 ^ t : Nat) : Int) (b2 : Int) = ((a2 * 8 ^ t + b2 : Nat) : Int) := by
    rw [bw_orN hp hb63, Nat.or_comm, ← e8, bt_or_add (by rw [e8]; exact h4), Nat.add_comm]
  have fin : ne_two (ne_key a1 a2 : Int) (ne_key b1 b2 : Int) t = (ne_key (a1 + b1) (a2 * 8 ^ t + b2) : Int) := by
    unfold ne_two
    rw [Int.toNat_natCast, Int.toNat_natCast, ne_div ha2, ne_div hb2, ne_mod ha2, ne_mod hb2]
  refine go_lload_n (i := 1) dx_X4_ofTwo_0 rfl rfl ?_
  refine go_bipush dx_X4_ofTwo_1 rfl ?_
  refine go_lushr dx_X4_ofTwo_3 ?_
  refine go_asL (y := (a1 : Int)) (by exact u1) ?_
  refine go_lload_n (i := 3) dx_X4_ofTwo_4 rfl rfl ?_
  refine go_bipush dx_X4_ofTwo_5 rfl ?_
  refine go_lushr dx_X4_ofTwo_7 ?_
  refine go_asL (y := (b1 : Int)) (by exact u2) ?_
  refine go_ladd dx_X4_ofTwo_8 ?_
  refine go_asL (y := ((a1 + b1 : Nat) : Int)) (by omega) ?_
  refine go_lstore (lv' := [(0, vv_A o), (1, vv_L (ne_key a1 a2 : Int)), (3, vv_L (ne_key b1 b2 : Int)), (5, vv_I (t : Int)), (6, vv_L ((a1 + b1 : Nat) : Int))]) dx_X4_ofTwo_9 (by decide) rfl ?_
  refine go_lload_n (i := 1) dx_X4_ofTwo_11 rfl rfl ?_
  refine go_ldc2 (x := 4398046511103) kx_X4_23 dx_X4_ofTwo_12 ?_
  refine go_land dx_X4_ofTwo_15 ?_
  refine go_asL (y := (a2 : Int)) (by exact v1) ?_
  refine go_iconst dx_X4_ofTwo_16 ?_
  refine go_iload dx_X4_ofTwo_17 rfl ?_
  refine go_imul dx_X4_ofTwo_19 ?_
  refine go_lshl dx_X4_ofTwo_20 ?_
  refine go_asL (y := ((a2 * 8 ^ t : Nat) : Int)) (by exact w1) ?_
  refine go_lload_n (i := 3) dx_X4_ofTwo_21 rfl rfl ?_
  refine go_ldc2 (x := 4398046511103) kx_X4_23 dx_X4_ofTwo_22 ?_
  refine go_land dx_X4_ofTwo_25 ?_
  refine go_asL (y := (b2 : Int)) (by exact v2) ?_
  refine go_lor dx_X4_ofTwo_26 ?_
  refine go_asL (y := ((a2 * 8 ^ t + b2 : Nat) : Int)) (by exact w2) ?_
  refine go_lstore (lv' := [(0, vv_A o), (1, vv_L (ne_key a1 a2 : Int)), (3, vv_L (ne_key b1 b2 : Int)), (5, vv_I (t : Int)), (6, vv_L ((a1 + b1 : Nat) : Int)), (8, vv_L ((a2 * 8 ^ t + b2 : Nat) : Int))]) dx_X4_ofTwo_27 (by decide) rfl ?_
  refine go_lload dx_X4_ofTwo_29 rfl ?_
  refine go_bipush dx_X4_ofTwo_31 rfl ?_
  refine go_lshl dx_X4_ofTwo_33 ?_
  refine go_lload dx_X4_ofTwo_34 rfl ?_
  refine go_lor dx_X4_ofTwo_36 ?_
  refine go_lreturn dx_X4_ofTwo_37 rfl (Nat.le_refl _) (Nat.le_refl _) ?_
  rw [ne_or (by omega) hc2, ← fin]
  exact hQ
end GSMT
