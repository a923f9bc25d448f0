/-! the JDK: leading zeros -/
section GNLZ
variable {E : go_E} {d : Nat} {δ : Nat → Nat → Int} {Q : List go_V → go_F → (Nat → Nat → Int) → Prop}
theorem nlz_div {m t k : Nat} : m / 2 ^ t / 2 ^ k = m / 2 ^ (t + k) := by rw [Nat.div_div_eq_div_mul, Nat.pow_add]
theorem g_J6_nlz0 (hQ : Q [vv_I 32] go_φ δ) : Go E d (0, 0) mx_J6_numberOfLeadingZeros_0f7a4 go_φ 0 [(0, vv_I 0)] [] δ Q := by
  refine go_iload_n (i := 0) dx_J6_numberOfLeadingZeros_0f7a4_0 rfl rfl ?_
  refine go_if_gt (tgt := 15) dx_J6_numberOfLeadingZeros_0f7a4_1 rfl (by omega) (fun c1 => absurd c1 (by decide)) (fun c1 => ?_)
  refine go_iload_n (i := 0) dx_J6_numberOfLeadingZeros_0f7a4_4 rfl rfl ?_
  refine go_if_ne (tgt := 13) dx_J6_numberOfLeadingZeros_0f7a4_5 rfl (by omega) (fun c5 => absurd c5 (by decide)) (fun c5 => ?_)
  refine go_bipush dx_J6_numberOfLeadingZeros_0f7a4_8 rfl ?_
  refine go_goto (tgt := 14) dx_J6_numberOfLeadingZeros_0f7a4_10 rfl ?_
  refine go_ireturn dx_J6_numberOfLeadingZeros_0f7a4_14 rfl (Nat.le_refl _) (Nat.le_refl _) ?_
  exact hQ
theorem g_J6_nlz {m : Nat} (h0 : 0 < m) (hm : m < 65536) (hQ : ∀ t : Nat, t < 16 → m / 2 ^ t = 1 → Q [vv_I (31 - (t : Int))] go_φ δ) : Go E d (0, 0) mx_J6_numberOfLeadingZeros_0f7a4 go_φ 0 [(0, vv_I (m : Int))] [] δ Q := by
  have st73 : ∀ x t : Nat, x = m / 2 ^ t → 1 ≤ x → x < 4 → t ≤ 14 → Go E d (0, 0) mx_J6_numberOfLeadingZeros_0f7a4 go_φ 73 [(0, vv_I (x : Int)), (1, vv_I (31 - (t : Int)))] [] δ Q := fun x t hx h1 h4 ht => by
    have e2 : x / 2 = m / 2 ^ (t + 1) := by rw [← nlz_div, ← hx]
    refine go_iload_n (i := 1) dx_J6_numberOfLeadingZeros_0f7a4_73 rfl rfl ?_
    refine go_iload_n (i := 0) dx_J6_numberOfLeadingZeros_0f7a4_74 rfl rfl ?_
    refine go_iconst dx_J6_numberOfLeadingZeros_0f7a4_75 ?_
    refine go_iushr dx_J6_numberOfLeadingZeros_0f7a4_76 ?_
    refine go_asI (y := ((x / 2 : Nat) : Int)) (by rw [show (1 : Int) = ((1 : Nat) : Int) from rfl, bv_ushrN (by omega) (by decide)]) ?_
    refine go_isub dx_J6_numberOfLeadingZeros_0f7a4_77 ?_
    refine go_ireturn dx_J6_numberOfLeadingZeros_0f7a4_78 rfl (Nat.le_refl _) (Nat.le_refl _) ?_
    by_cases z : x = 1
    · have hQ := hQ t (by omega) (by omega)
      rw [show 31 - (t : Int) - ((x / 2 : Nat) : Int) = 31 - (t : Int) by omega]
      exact hQ
    · have hQ := hQ (t + 1) (by omega) (by omega)
      rw [show 31 - (t : Int) - ((x / 2 : Nat) : Int) = 31 - ((t + 1 : Nat) : Int) by omega]
      exact hQ
  have st61 : ∀ x t : Nat, x = m / 2 ^ t → 1 ≤ x → x < 16 → t ≤ 12 → Go E d (0, 0) mx_J6_numberOfLeadingZeros_0f7a4 go_φ 61 [(0, vv_I (x : Int)), (1, vv_I (31 - (t : Int)))] [] δ Q := fun x t hx h1 h4 ht => by
    have e2 : x / 4 = m / 2 ^ (t + 2) := by rw [← nlz_div, ← hx]
    refine go_iload_n (i := 0) dx_J6_numberOfLeadingZeros_0f7a4_61 rfl rfl ?_
    refine go_iconst dx_J6_numberOfLeadingZeros_0f7a4_62 ?_
    refine go_icmp_lt (tgt := 73) dx_J6_numberOfLeadingZeros_0f7a4_63 rfl (by omega) (by omega) (fun c63 => ?_) (fun c63 => ?_)
    · first
      | exact st73 x t hx h1 (by omega) (by omega)
      | (have k := st73 (x / 4) (t + 2) e2 (by omega) (by omega) (by omega)
         rw [show 31 - ((t + 2 : Nat) : Int) = 31 - (t : Int) + (-2) by omega] at k
         exact k)
    · refine go_iinc (lv' := [(0, vv_I (x : Int)), (1, vv_I ((31 - (t : Int)) + (-2)))]) dx_J6_numberOfLeadingZeros_0f7a4_66 rfl (by decide) rfl ?_
      refine go_iload_n (i := 0) dx_J6_numberOfLeadingZeros_0f7a4_69 rfl rfl ?_
      refine go_iconst dx_J6_numberOfLeadingZeros_0f7a4_70 ?_
      refine go_iushr dx_J6_numberOfLeadingZeros_0f7a4_71 ?_
      refine go_asI (y := ((x / 4 : Nat) : Int)) (by rw [show (2 : Int) = ((2 : Nat) : Int) from rfl, bv_ushrN (by omega) (by decide)]) ?_
      refine go_istore_n (i := 0) (lv' := [(0, vv_I ((x / 4 : Nat) : Int)), (1, vv_I ((31 - (t : Int)) + (-2)))]) dx_J6_numberOfLeadingZeros_0f7a4_72 rfl (by decide) rfl ?_
      first
      | exact st73 x t hx h1 (by omega) (by omega)
      | (have k := st73 (x / 4) (t + 2) e2 (by omega) (by omega) (by omega)
         rw [show 31 - ((t + 2 : Nat) : Int) = 31 - (t : Int) + (-2) by omega] at k
         exact k)
  have st48 : ∀ x t : Nat, x = m / 2 ^ t → 1 ≤ x → x < 256 → t ≤ 8 → Go E d (0, 0) mx_J6_numberOfLeadingZeros_0f7a4 go_φ 48 [(0, vv_I (x : Int)), (1, vv_I (31 - (t : Int)))] [] δ Q := fun x t hx h1 h4 ht => by
    have e2 : x / 16 = m / 2 ^ (t + 4) := by rw [← nlz_div, ← hx]
    refine go_iload_n (i := 0) dx_J6_numberOfLeadingZeros_0f7a4_48 rfl rfl ?_
    refine go_bipush dx_J6_numberOfLeadingZeros_0f7a4_49 rfl ?_
    refine go_icmp_lt (tgt := 61) dx_J6_numberOfLeadingZeros_0f7a4_51 rfl (by omega) (by omega) (fun c51 => ?_) (fun c51 => ?_)
    · first
      | exact st61 x t hx h1 (by omega) (by omega)
      | (have k := st61 (x / 16) (t + 4) e2 (by omega) (by omega) (by omega)
         rw [show 31 - ((t + 4 : Nat) : Int) = 31 - (t : Int) + (-4) by omega] at k
         exact k)
    · refine go_iinc (lv' := [(0, vv_I (x : Int)), (1, vv_I ((31 - (t : Int)) + (-4)))]) dx_J6_numberOfLeadingZeros_0f7a4_54 rfl (by decide) rfl ?_
      refine go_iload_n (i := 0) dx_J6_numberOfLeadingZeros_0f7a4_57 rfl rfl ?_
      refine go_iconst dx_J6_numberOfLeadingZeros_0f7a4_58 ?_
      refine go_iushr dx_J6_numberOfLeadingZeros_0f7a4_59 ?_
      refine go_asI (y := ((x / 16 : Nat) : Int)) (by rw [show (4 : Int) = ((4 : Nat) : Int) from rfl, bv_ushrN (by omega) (by decide)]) ?_
      refine go_istore_n (i := 0) (lv' := [(0, vv_I ((x / 16 : Nat) : Int)), (1, vv_I ((31 - (t : Int)) + (-4)))]) dx_J6_numberOfLeadingZeros_0f7a4_60 rfl (by decide) rfl ?_
      first
      | exact st61 x t hx h1 (by omega) (by omega)
      | (have k := st61 (x / 16) (t + 4) e2 (by omega) (by omega) (by omega)
         rw [show 31 - ((t + 4 : Nat) : Int) = 31 - (t : Int) + (-4) by omega] at k
         exact k)
  have e0 : m = m / 2 ^ 0 := by rw [Nat.pow_zero, Nat.div_one]
  have e8 : m / 256 = m / 2 ^ 8 := rfl
  refine go_iload_n (i := 0) dx_J6_numberOfLeadingZeros_0f7a4_0 rfl rfl ?_
  refine go_if_gt (tgt := 15) dx_J6_numberOfLeadingZeros_0f7a4_1 rfl (by omega) (fun c1 => ?_) (fun c1 => by exact absurd (by omega) c1)
  refine go_bipush dx_J6_numberOfLeadingZeros_0f7a4_15 rfl ?_
  refine go_istore_n (i := 1) (lv' := [(0, vv_I (m : Int)), (1, vv_I 31)]) dx_J6_numberOfLeadingZeros_0f7a4_17 rfl (by decide) rfl ?_
  refine go_iload_n (i := 0) dx_J6_numberOfLeadingZeros_0f7a4_18 rfl rfl ?_
  refine go_ldc_w (x := 65536) kx_J6_264 dx_J6_numberOfLeadingZeros_0f7a4_19 ?_
  refine go_icmp_lt (tgt := 33) dx_J6_numberOfLeadingZeros_0f7a4_22 rfl (by omega) (by omega) (fun c22 => ?_) (fun c22 => by exact absurd c22 (by omega))
  refine go_iload_n (i := 0) dx_J6_numberOfLeadingZeros_0f7a4_33 rfl rfl ?_
  refine go_sipush dx_J6_numberOfLeadingZeros_0f7a4_34 rfl ?_
  refine go_icmp_lt (tgt := 48) dx_J6_numberOfLeadingZeros_0f7a4_37 rfl (by omega) (by omega) (fun c37 => ?_) (fun c37 => ?_)
  · first
    | exact st48 m 0 e0 h0 (by omega) (by decide)
    | exact st48 (m / 256) 8 e8 (by omega) (by omega) (Nat.le_refl _)
  · refine go_iinc (lv' := [(0, vv_I (m : Int)), (1, vv_I 23)]) dx_J6_numberOfLeadingZeros_0f7a4_40 rfl (by decide) rfl ?_
    refine go_iload_n (i := 0) dx_J6_numberOfLeadingZeros_0f7a4_43 rfl rfl ?_
    refine go_bipush dx_J6_numberOfLeadingZeros_0f7a4_44 rfl ?_
    refine go_iushr dx_J6_numberOfLeadingZeros_0f7a4_46 ?_
    refine go_asI (y := ((m / 256 : Nat) : Int)) (by rw [show (8 : Int) = ((8 : Nat) : Int) from rfl, bv_ushrN (by omega) (by decide)]) ?_
    refine go_istore_n (i := 0) (lv' := [(0, vv_I ((m / 256 : Nat) : Int)), (1, vv_I 23)]) dx_J6_numberOfLeadingZeros_0f7a4_47 rfl (by decide) rfl ?_
    first
    | exact st48 m 0 e0 h0 (by omega) (by decide)
    | exact st48 (m / 256) 8 e8 (by omega) (by omega) (Nat.le_refl _)
end GNLZ
