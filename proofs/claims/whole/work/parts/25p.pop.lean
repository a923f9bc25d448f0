/-! bits counted -/
section GPOPA
variable {E : go_E} {d : Nat} {mm : Nat × Nat} {M M' : go_M} {φ : go_F} {pc : Nat} {lv : List (Nat × go_V)} {st : List go_V} {δ : Nat → Nat → Int} {Q : List go_V → go_F → (Nat → Nat → Int) → Prop}
theorem go_asI {x y : Int} (e : x = y) (k : Go E d mm M φ pc lv (vv_I y :: st) δ Q) : Go E d mm M φ pc lv (vv_I x :: st) δ Q := by rw [e]; exact k
theorem go_asL {x y : Int} (e : x = y) (k : Go E d mm M φ pc lv (vv_L y :: st) δ Q) : Go E d mm M φ pc lv (vv_L x :: st) δ Q := by rw [e]; exact k
end GPOPA
/-- bits told apart -/
theorem pop_cut : ∀ (k m a b : Nat), a < 2 ^ k → bt_pop (k + m) (a + 2 ^ k * b) = bt_pop k a + bt_pop m b
  | 0, m, a, b, h => by
    have ha : a = 0 := by rw [Nat.pow_zero] at h; omega
    subst ha
    rw [Nat.zero_add, Nat.zero_add, Nat.pow_zero, Nat.one_mul]
    show bt_pop m b = 0 + bt_pop m b
    omega
  | k + 1, m, a, b, h => by
    rw [show k + 1 + m = k + m + 1 by omega]
    show (a + 2 ^ (k + 1) * b) % 2 + bt_pop (k + m) ((a + 2 ^ (k + 1) * b) / 2) = a % 2 + bt_pop k (a / 2) + bt_pop m b
    rw [Nat.pow_succ] at h ⊢
    have e1 : 2 ^ k * 2 * b = 2 * (2 ^ k * b) := by rw [Nat.mul_comm (2 ^ k) 2, Nat.mul_assoc]
    rw [e1, show (a + 2 * (2 ^ k * b)) % 2 = a % 2 by omega, show (a + 2 * (2 ^ k * b)) / 2 = a / 2 + 2 ^ k * b by omega, pop_cut k m (a / 2) b (by omega)]
    omega
theorem pop_0 : ∀ k, bt_pop k 0 = 0
  | 0 => rfl
  | k + 1 => by show 0 % 2 + bt_pop k (0 / 2) = 0; rw [Nat.zero_div, pop_0 k]
theorem pop_up {k m a : Nat} (h : a < 2 ^ k) : bt_pop (k + m) a = bt_pop k a := by
  have := pop_cut k m a 0 h
  rw [Nat.mul_zero, Nat.add_zero, pop_0, Nat.add_zero] at this
  exact this
/-! Integer.bitCount on numbers of 16 bits, byte by byte (to go ahead of 26) -/
def sw1 (m : Nat) : Nat := m - (m / 2 &&& 1431655765)
def sw2 (a : Nat) : Nat := (a &&& 858993459) + (a / 4 &&& 858993459)
def sw3 (b : Nat) : Nat := (b + b / 16) &&& 252645135
def sw4 (c : Nat) : Nat := (c + c / 256 + (c + c / 256) / 65536) &&& 63
theorem sw_all : ∀ a, a < 256 → ∀ b, b < 256 → sw4 (sw3 (sw2 (sw1 (b + 256 * a)))) = bt_pop 8 b + bt_pop 8 a := by decide +kernel
/-! Integer.bitCount on numbers of 16 bits: the machine  -/
section GPOPM
variable {E : go_E} {d : Nat} {δ : Nat → Nat → Int} {Q : List go_V → go_F → (Nat → Nat → Int) → Prop}
theorem g_J6_bitCount {m : Nat} (hm : m < 65536) (hQ : Q [vv_I (bt_pop 32 m : Int)] go_φ δ) : Go E d (0, 0) mx_J6_bitCount_0f7a4 go_φ 0 [(0, vv_I (m : Int))] [] δ Q := by
  have hp : bt_pop 32 m = sw4 (sw3 (sw2 (sw1 m))) := by
    have h1 := sw_all (m / 256) (by omega) (m % 256) (Nat.mod_lt _ (by decide))
    rw [show m % 256 + 256 * (m / 256) = m by omega] at h1
    rw [h1, pop_up (k := 16) (m := 16) (show m < 2 ^ 16 from hm)]
    have h2 := pop_cut 8 8 (m % 256) (m / 256) (Nat.mod_lt _ (by decide))
    rw [show m % 256 + 2 ^ 8 * (m / 256) = m by omega] at h2
    exact h2
  rw [hp] at hQ
  have b1 : m / 2 &&& 1431655765 ≤ m / 2 := Nat.and_le_left
  obtain ⟨a, ha⟩ : ∃ a, a = sw1 m := ⟨_, rfl⟩
  have ha2 : a = m - (m / 2 &&& 1431655765) := ha
  have al : a ≤ m := by omega
  obtain ⟨b, hb⟩ : ∃ b, b = sw2 a := ⟨_, rfl⟩
  have hb2 : b = (a &&& 858993459) + (a / 4 &&& 858993459) := hb
  have b2 : a &&& 858993459 ≤ a := Nat.and_le_left
  have b3 : a / 4 &&& 858993459 ≤ a / 4 := Nat.and_le_left
  have bl : b < 131072 := by omega
  obtain ⟨c, hc⟩ : ∃ c, c = sw3 b := ⟨_, rfl⟩
  have hc2 : c = (b + b / 16) &&& 252645135 := hc
  have cl : c ≤ b + b / 16 := by rw [hc2]; exact Nat.and_le_left
  rw [← ha, ← hb, ← hc] at hQ
  refine go_iload_n (i := 0) dx_J6_bitCount_0f7a4_0 rfl rfl ?_
  refine go_iload_n (i := 0) dx_J6_bitCount_0f7a4_1 rfl rfl ?_
  refine go_iconst dx_J6_bitCount_0f7a4_2 ?_
  refine go_iushr dx_J6_bitCount_0f7a4_3 ?_
  refine go_asI (y := ((m / 2 : Nat) : Int)) (by rw [show (1 : Int) = ((1 : Nat) : Int) from rfl, bv_ushrN (by omega) (by decide)]) ?_
  refine go_ldc_w (x := 1431655765) kx_J6_265 dx_J6_bitCount_0f7a4_4 ?_
  refine go_iand dx_J6_bitCount_0f7a4_7 ?_
  refine go_asI (y := ((m / 2 &&& 1431655765 : Nat) : Int)) (by rw [show (1431655765 : Int) = ((1431655765 : Nat) : Int) from rfl, bv_andN (by omega) (by decide)]) ?_
  refine go_isub dx_J6_bitCount_0f7a4_8 ?_
  refine go_asI (y := (a : Int)) (by omega) ?_
  refine go_istore_n (i := 0) (lv' := [(0, vv_I (a : Int))]) dx_J6_bitCount_0f7a4_9 rfl (by decide) rfl ?_
  refine go_iload_n (i := 0) dx_J6_bitCount_0f7a4_10 rfl rfl ?_
  refine go_ldc_w (x := 858993459) kx_J6_266 dx_J6_bitCount_0f7a4_11 ?_
  refine go_iand dx_J6_bitCount_0f7a4_14 ?_
  refine go_asI (y := ((a &&& 858993459 : Nat) : Int)) (by rw [show (858993459 : Int) = ((858993459 : Nat) : Int) from rfl, bv_andN (by omega) (by decide)]) ?_
  refine go_iload_n (i := 0) dx_J6_bitCount_0f7a4_15 rfl rfl ?_
  refine go_iconst dx_J6_bitCount_0f7a4_16 ?_
  refine go_iushr dx_J6_bitCount_0f7a4_17 ?_
  refine go_asI (y := ((a / 4 : Nat) : Int)) (by rw [show (2 : Int) = ((2 : Nat) : Int) from rfl, bv_ushrN (by omega) (by decide)]) ?_
  refine go_ldc_w (x := 858993459) kx_J6_266 dx_J6_bitCount_0f7a4_18 ?_
  refine go_iand dx_J6_bitCount_0f7a4_21 ?_
  refine go_asI (y := ((a / 4 &&& 858993459 : Nat) : Int)) (by rw [show (858993459 : Int) = ((858993459 : Nat) : Int) from rfl, bv_andN (by omega) (by decide)]) ?_
  refine go_iadd dx_J6_bitCount_0f7a4_22 ?_
  refine go_asI (y := (b : Int)) (by omega) ?_
  refine go_istore_n (i := 0) (lv' := [(0, vv_I (b : Int))]) dx_J6_bitCount_0f7a4_23 rfl (by decide) rfl ?_
  refine go_iload_n (i := 0) dx_J6_bitCount_0f7a4_24 rfl rfl ?_
  refine go_iload_n (i := 0) dx_J6_bitCount_0f7a4_25 rfl rfl ?_
  refine go_iconst dx_J6_bitCount_0f7a4_26 ?_
  refine go_iushr dx_J6_bitCount_0f7a4_27 ?_
  refine go_asI (y := ((b / 16 : Nat) : Int)) (by rw [show (4 : Int) = ((4 : Nat) : Int) from rfl, bv_ushrN (by omega) (by decide)]) ?_
  refine go_iadd dx_J6_bitCount_0f7a4_28 ?_
  refine go_asI (y := ((b + b / 16 : Nat) : Int)) (by rfl) ?_
  refine go_ldc_w (x := 252645135) kx_J6_267 dx_J6_bitCount_0f7a4_29 ?_
  refine go_iand dx_J6_bitCount_0f7a4_32 ?_
  refine go_asI (y := (c : Int)) (by rw [show (252645135 : Int) = ((252645135 : Nat) : Int) from rfl, bv_andN (by omega) (by decide), hc2]) ?_
  refine go_istore_n (i := 0) (lv' := [(0, vv_I (c : Int))]) dx_J6_bitCount_0f7a4_33 rfl (by decide) rfl ?_
  refine go_iload_n (i := 0) dx_J6_bitCount_0f7a4_34 rfl rfl ?_
  refine go_iload_n (i := 0) dx_J6_bitCount_0f7a4_35 rfl rfl ?_
  refine go_bipush dx_J6_bitCount_0f7a4_36 rfl ?_
  refine go_iushr dx_J6_bitCount_0f7a4_38 ?_
  refine go_asI (y := ((c / 256 : Nat) : Int)) (by rw [show (8 : Int) = ((8 : Nat) : Int) from rfl, bv_ushrN (by omega) (by decide)]) ?_
  refine go_iadd dx_J6_bitCount_0f7a4_39 ?_
  refine go_asI (y := ((c + c / 256 : Nat) : Int)) (by rfl) ?_
  refine go_istore_n (i := 0) (lv' := [(0, vv_I ((c + c / 256 : Nat) : Int))]) dx_J6_bitCount_0f7a4_40 rfl (by decide) rfl ?_
  refine go_iload_n (i := 0) dx_J6_bitCount_0f7a4_41 rfl rfl ?_
  refine go_iload_n (i := 0) dx_J6_bitCount_0f7a4_42 rfl rfl ?_
  refine go_bipush dx_J6_bitCount_0f7a4_43 rfl ?_
  refine go_iushr dx_J6_bitCount_0f7a4_45 ?_
  refine go_asI (y := (((c + c / 256) / 65536 : Nat) : Int)) (by rw [show (16 : Int) = ((16 : Nat) : Int) from rfl, bv_ushrN (by omega) (by decide)]) ?_
  refine go_iadd dx_J6_bitCount_0f7a4_46 ?_
  refine go_asI (y := ((c + c / 256 + (c + c / 256) / 65536 : Nat) : Int)) (by rfl) ?_
  refine go_istore_n (i := 0) (lv' := [(0, vv_I ((c + c / 256 + (c + c / 256) / 65536 : Nat) : Int))]) dx_J6_bitCount_0f7a4_47 rfl (by decide) rfl ?_
  refine go_iload_n (i := 0) dx_J6_bitCount_0f7a4_48 rfl rfl ?_
  refine go_bipush dx_J6_bitCount_0f7a4_49 rfl ?_
  refine go_iand dx_J6_bitCount_0f7a4_51 ?_
  refine go_asI (y := ((sw4 c : Nat) : Int)) (by rw [show (63 : Int) = ((63 : Nat) : Int) from rfl, bv_andN (by omega) (by decide)]; rfl) ?_
  refine go_ireturn dx_J6_bitCount_0f7a4_52 rfl (Nat.le_refl _) (Nat.le_refl _) ?_
  exact hQ
end GPOPM
theorem pop_bitsN (R : Nat → List Nat) : ∀ n, bt_pop n (rl_bits R n) = rl_many R n
  | 0 => rfl
  | n + 1 => by
    show bt_pop (n + 1) (rl_bits R n ||| (if R n = [] then 0 else 2 ^ n)) = rl_many R n + (if R n = [] then 0 else 1)
    by_cases h : R n = []
    · rw [if_pos h, if_pos h, Nat.or_zero, pop_up (k := n) (m := 1) (rl_bits_lt R n), pop_bitsN R n]; omega
    · rw [if_neg h, if_neg h]
      have e := bt_or_add (a := 1) (rl_bits_lt R n)
      rw [Nat.one_mul] at e
      rw [e, show rl_bits R n + 2 ^ n = rl_bits R n + 2 ^ n * 1 by omega, pop_cut n 1 _ _ (rl_bits_lt R n), pop_bitsN R n]
      rfl
theorem pop_bits (R : Nat → List Nat) : bt_pop 32 (rl_bits R 16) = rl_many R 16 := by
  rw [pop_up (k := 16) (m := 16) (rl_bits_lt R 16), pop_bitsN]
