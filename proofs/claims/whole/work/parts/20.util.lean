/-! small methods: rows whose index is looked at -/
section GOU
variable {E : go_E} {d : Nat} {δ : Nat → Nat → Int} {Q : List go_V → go_F → (Nat → Nat → Int) → Prop}
theorem g_intAt0 {a : Nat} {i : Int} (ha : go_kd a = 20 ∧ a < go_φ.1) (hi : go_iI i) (h1 : 0 ≤ i → i < go_ln a → Q [vv_I (δ a i.toNat)] go_φ δ) (h2 : ¬ (0 ≤ i ∧ i < go_ln a) → Q [vv_I 0] go_φ δ) :
    Go E d (0, 0) mx_X11_intAt go_φ 0 [(0, vv_A a), (1, vv_I i)] [] δ Q := by
  have hl := go_ln_small a
  have ha' : (go_kd a = 20 ∨ go_kd a = 21 ∨ go_kd a = 22 ∨ go_kd a = 23) ∧ a < go_φ.1 := ⟨Or.inl ha.1, ha.2⟩
  refine go_iload_n (i := 1) dx_X11_intAt_0 rfl rfl ?_
  refine go_if_lt (tgt := 16) dx_X11_intAt_1 rfl (by omega) (fun c1 => ?_) (fun c1 => ?_)
  · refine go_iconst dx_X11_intAt_16 ?_
    refine go_ireturn dx_X11_intAt_17 rfl (Nat.le_refl _) (Nat.le_refl _) ?_
    first | exact h1 (by omega) (by omega) | exact h2 (by omega)
  · refine go_iload_n (i := 1) dx_X11_intAt_4 rfl rfl ?_
    refine go_aload_n (i := 0) dx_X11_intAt_5 rfl rfl ?_
    refine go_arraylength dx_X11_intAt_6 (by assumption) ?_
    refine go_icmp_ge (tgt := 16) dx_X11_intAt_7 rfl (by omega) (by omega) (fun c7 => ?_) (fun c7 => ?_)
    · refine go_iconst dx_X11_intAt_16 ?_
      refine go_ireturn dx_X11_intAt_17 rfl (Nat.le_refl _) (Nat.le_refl _) ?_
      first | exact h1 (by omega) (by omega) | exact h2 (by omega)
    · refine go_aload_n (i := 0) dx_X11_intAt_10 rfl rfl ?_
      refine go_iload_n (i := 1) dx_X11_intAt_11 rfl rfl ?_
      refine go_iaload dx_X11_intAt_12 (by assumption) (by omega) (by omega) ?_
      refine go_goto (tgt := 17) dx_X11_intAt_13 rfl ?_
      refine go_ireturn dx_X11_intAt_17 rfl (Nat.le_refl _) (Nat.le_refl _) ?_
      first | exact h1 (by omega) (by omega) | exact h2 (by omega)
theorem g_intAt {a : Nat} {i : Int} (ha : go_kd a = 20 ∧ a < go_φ.1) (h0 : 0 ≤ i) (hi : i < go_ln a) (h : Q [vv_I (δ a i.toNat)] go_φ δ) :
    Go E d (0, 0) mx_X11_intAt go_φ 0 [(0, vv_A a), (1, vv_I i)] [] δ Q :=
  g_intAt0 ha (by have := go_ln_small a; omega) (fun _ _ => h) (fun q => absurd ⟨h0, hi⟩ q)
theorem g_longAt0 {a : Nat} {i : Int} (ha : go_kd a = 21 ∧ a < go_φ.1) (hi : go_iI i) (h1 : 0 ≤ i → i < go_ln a → Q [vv_L (δ a i.toNat)] go_φ δ) (h2 : ¬ (0 ≤ i ∧ i < go_ln a) → Q [vv_L 0] go_φ δ) :
    Go E d (0, 0) mx_X11_longAt go_φ 0 [(0, vv_A a), (1, vv_I i)] [] δ Q := by
  have hl := go_ln_small a
  have ha' : (go_kd a = 20 ∨ go_kd a = 21 ∨ go_kd a = 22 ∨ go_kd a = 23) ∧ a < go_φ.1 := ⟨Or.inr (Or.inl ha.1), ha.2⟩
  refine go_iload_n (i := 1) dx_X11_longAt_0 rfl rfl ?_
  refine go_if_lt (tgt := 16) dx_X11_longAt_1 rfl (by omega) (fun c1 => ?_) (fun c1 => ?_)
  · refine go_lconst (x := 0) dx_X11_longAt_16 rfl ?_
    refine go_lreturn dx_X11_longAt_17 rfl (Nat.le_refl _) (Nat.le_refl _) ?_
    first | exact h1 (by omega) (by omega) | exact h2 (by omega)
  · refine go_iload_n (i := 1) dx_X11_longAt_4 rfl rfl ?_
    refine go_aload_n (i := 0) dx_X11_longAt_5 rfl rfl ?_
    refine go_arraylength dx_X11_longAt_6 (by assumption) ?_
    refine go_icmp_ge (tgt := 16) dx_X11_longAt_7 rfl (by omega) (by omega) (fun c7 => ?_) (fun c7 => ?_)
    · refine go_lconst (x := 0) dx_X11_longAt_16 rfl ?_
      refine go_lreturn dx_X11_longAt_17 rfl (Nat.le_refl _) (Nat.le_refl _) ?_
      first | exact h1 (by omega) (by omega) | exact h2 (by omega)
    · refine go_aload_n (i := 0) dx_X11_longAt_10 rfl rfl ?_
      refine go_iload_n (i := 1) dx_X11_longAt_11 rfl rfl ?_
      refine go_laload dx_X11_longAt_12 (by assumption) (by omega) (by omega) ?_
      refine go_goto (tgt := 17) dx_X11_longAt_13 rfl ?_
      refine go_lreturn dx_X11_longAt_17 rfl (Nat.le_refl _) (Nat.le_refl _) ?_
      first | exact h1 (by omega) (by omega) | exact h2 (by omega)
theorem g_longAt {a : Nat} {i : Int} (ha : go_kd a = 21 ∧ a < go_φ.1) (h0 : 0 ≤ i) (hi : i < go_ln a) (h : Q [vv_L (δ a i.toNat)] go_φ δ) :
    Go E d (0, 0) mx_X11_longAt go_φ 0 [(0, vv_A a), (1, vv_I i)] [] δ Q :=
  g_longAt0 ha (by have := go_ln_small a; omega) (fun _ _ => h) (fun q => absurd ⟨h0, hi⟩ q)
theorem g_putInt0 {a : Nat} {i x : Int} (ha : go_kd a = 20 ∧ a < go_φ.1) (hi : go_iI i) (h1 : 0 ≤ i → i < go_ln a → Q [] go_φ (wr δ a i.toNat x)) (h2 : ¬ (0 ≤ i ∧ i < go_ln a) → Q [] go_φ δ) :
    Go E d (0, 0) mx_X11_putInt go_φ 0 [(0, vv_A a), (1, vv_I i), (2, vv_I x)] [] δ Q := by
  have hl := go_ln_small a
  have ha' : (go_kd a = 20 ∨ go_kd a = 21 ∨ go_kd a = 22 ∨ go_kd a = 23) ∧ a < go_φ.1 := ⟨Or.inl ha.1, ha.2⟩
  refine go_iload_n (i := 1) dx_X11_putInt_0 rfl rfl ?_
  refine go_if_lt (tgt := 14) dx_X11_putInt_1 rfl (by omega) (fun c1 => ?_) (fun c1 => ?_)
  · refine go_vreturn dx_X11_putInt_14 rfl (Nat.le_refl _) (Nat.le_refl _) ?_
    first | exact h1 (by omega) (by omega) | exact h2 (by omega)
  · refine go_iload_n (i := 1) dx_X11_putInt_4 rfl rfl ?_
    refine go_aload_n (i := 0) dx_X11_putInt_5 rfl rfl ?_
    refine go_arraylength dx_X11_putInt_6 (by assumption) ?_
    refine go_icmp_ge (tgt := 14) dx_X11_putInt_7 rfl (by omega) (by omega) (fun c7 => ?_) (fun c7 => ?_)
    · refine go_vreturn dx_X11_putInt_14 rfl (Nat.le_refl _) (Nat.le_refl _) ?_
      first | exact h1 (by omega) (by omega) | exact h2 (by omega)
    · refine go_aload_n (i := 0) dx_X11_putInt_10 rfl rfl ?_
      refine go_iload_n (i := 1) dx_X11_putInt_11 rfl rfl ?_
      refine go_iload_n (i := 2) dx_X11_putInt_12 rfl rfl ?_
      refine go_iastore dx_X11_putInt_13 (by assumption) (by omega) (by omega) ?_
      refine go_vreturn dx_X11_putInt_14 rfl (Nat.le_refl _) (Nat.le_refl _) ?_
      first | exact h1 (by omega) (by omega) | exact h2 (by omega)
theorem g_putInt {a : Nat} {i x : Int} (ha : go_kd a = 20 ∧ a < go_φ.1) (h0 : 0 ≤ i) (hi : i < go_ln a) (h : Q [] go_φ (wr δ a i.toNat x)) :
    Go E d (0, 0) mx_X11_putInt go_φ 0 [(0, vv_A a), (1, vv_I i), (2, vv_I x)] [] δ Q :=
  g_putInt0 ha (by have := go_ln_small a; omega) (fun _ _ => h) (fun q => absurd ⟨h0, hi⟩ q)
theorem g_putLong0 {a : Nat} {i x : Int} (ha : go_kd a = 21 ∧ a < go_φ.1) (hi : go_iI i) (h1 : 0 ≤ i → i < go_ln a → Q [] go_φ (wr δ a i.toNat x)) (h2 : ¬ (0 ≤ i ∧ i < go_ln a) → Q [] go_φ δ) :
    Go E d (0, 0) mx_X11_putLong go_φ 0 [(0, vv_A a), (1, vv_I i), (2, vv_L x)] [] δ Q := by
  have hl := go_ln_small a
  have ha' : (go_kd a = 20 ∨ go_kd a = 21 ∨ go_kd a = 22 ∨ go_kd a = 23) ∧ a < go_φ.1 := ⟨Or.inr (Or.inl ha.1), ha.2⟩
  refine go_iload_n (i := 1) dx_X11_putLong_0 rfl rfl ?_
  refine go_if_lt (tgt := 14) dx_X11_putLong_1 rfl (by omega) (fun c1 => ?_) (fun c1 => ?_)
  · refine go_vreturn dx_X11_putLong_14 rfl (Nat.le_refl _) (Nat.le_refl _) ?_
    first | exact h1 (by omega) (by omega) | exact h2 (by omega)
  · refine go_iload_n (i := 1) dx_X11_putLong_4 rfl rfl ?_
    refine go_aload_n (i := 0) dx_X11_putLong_5 rfl rfl ?_
    refine go_arraylength dx_X11_putLong_6 (by assumption) ?_
    refine go_icmp_ge (tgt := 14) dx_X11_putLong_7 rfl (by omega) (by omega) (fun c7 => ?_) (fun c7 => ?_)
    · refine go_vreturn dx_X11_putLong_14 rfl (Nat.le_refl _) (Nat.le_refl _) ?_
      first | exact h1 (by omega) (by omega) | exact h2 (by omega)
    · refine go_aload_n (i := 0) dx_X11_putLong_10 rfl rfl ?_
      refine go_iload_n (i := 1) dx_X11_putLong_11 rfl rfl ?_
      refine go_lload_n (i := 2) dx_X11_putLong_12 rfl rfl ?_
      refine go_lastore dx_X11_putLong_13 (by assumption) (by omega) (by omega) ?_
      refine go_vreturn dx_X11_putLong_14 rfl (Nat.le_refl _) (Nat.le_refl _) ?_
      first | exact h1 (by omega) (by omega) | exact h2 (by omega)
theorem g_putLong {a : Nat} {i x : Int} (ha : go_kd a = 21 ∧ a < go_φ.1) (h0 : 0 ≤ i) (hi : i < go_ln a) (h : Q [] go_φ (wr δ a i.toNat x)) :
    Go E d (0, 0) mx_X11_putLong go_φ 0 [(0, vv_A a), (1, vv_I i), (2, vv_L x)] [] δ Q :=
  g_putLong0 ha (by have := go_ln_small a; omega) (fun _ _ => h) (fun q => absurd ⟨h0, hi⟩ q)
theorem g_putIntC {a : Nat} {i : Int} {x : Int} (ha : go_kd a = 20 ∧ a < go_φ.1) (h0 : 0 ≤ i) (hi : i < go_ln a) (h : Q [] go_φ (wr δ a i.toNat x)) :
    Go E d (0, 0) mx_X11_putInt go_φ 0 (go_ar 0 [vv_A a, vv_I i, vv_I x]) [] δ Q := g_putInt ha h0 hi h
end GOU
