/-! the JDK: trailing zeros -/
noncomputable def vi (P : Nat → Prop) : Int := (BitVec.ofNat 32 (mk 32 P)).toInt
theorem vi_i32 (P : Nat → Prop) : Int32.ofInt (vi P) = Int32.ofBitVec (BitVec.ofNat 32 (mk 32 P)) := by
  apply Int32.toBitVec_inj.mp
  show BitVec.ofInt 32 (vi P) = _
  exact BitVec.ofInt_toInt
theorem vi_iI (P : Nat → Prop) : go_iI (vi P) := by
  have h1 := BitVec.le_toInt (BitVec.ofNat 32 (mk 32 P))
  have h2 := BitVec.toInt_lt (x := BitVec.ofNat 32 (mk 32 P))
  unfold vi
  exact ⟨by omega, by omega⟩
theorem mk_232 (P : Nat → Prop) : mk 32 P < 4294967296 := mk_lt 32 P
theorem vi_z {P : Nat → Prop} : vi P = 0 ↔ ∀ k, k < 32 → ¬ P k := by
  constructor
  · intro h k hk hp
    have e : BitVec.ofNat 32 (mk 32 P) = 0 := by
      apply BitVec.eq_of_toInt_eq
      exact h
    have e2 := congrArg BitVec.toNat e
    rw [BitVec.toNat_ofNat, Nat.mod_eq_of_lt (mk_232 P)] at e2
    have := (mk_bit 32 P k).mpr ⟨hk, hp⟩
    rw [e2] at this
    simp at this
  · intro h
    unfold vi
    rw [mk_zero h]
    rfl
/-- the low half of a long word -/
theorem vi_low (P : Nat → Prop) : Int32.ofInt (vb P) = Int32.ofInt (vi P) := by
  rw [vi_i32]
  apply Int32.toBitVec_inj.mp
  show BitVec.ofInt 32 (vb P) = BitVec.ofNat 32 (mk 32 P)
  apply BitVec.eq_of_toNat_eq
  rw [BitVec.toNat_ofInt, BitVec.toNat_ofNat, Nat.mod_eq_of_lt (mk_232 P)]
  have h1 : vb P % 18446744073709551616 = (mk 64 P : Int) := by
    have h := congrArg BitVec.toNat (vb_bv P)
    rw [BitVec.toNat_ofInt, BitVec.toNat_ofNat, Nat.mod_eq_of_lt (mk_264 P)] at h
    have := Int.emod_nonneg (vb P) (show (18446744073709551616 : Int) ≠ 0 by decide)
    omega
  have h2 : mk 64 P % 2 ^ 32 = mk 32 P := mk_eq (Nat.mod_lt _ (Nat.two_pow_pos 32)) (fun x hx => by
    rw [Nat.testBit_mod_two_pow]
    simp only [hx, decide_true, Bool.true_and]
    rw [mk_bit]
    exact ⟨fun q => q.2, fun q => ⟨by omega, q⟩⟩)
  omega
theorem tz_bits {u t : Nat} (ht : u.testBit t = true) (hl : ∀ k, k < t → u.testBit k = false) (hu : u < 4294967296) (h0 : 0 < u) : (4294967295 - u) &&& (u - 1) = 2 ^ t - 1 := by
  have hlow : u % 2 ^ t = 0 := by
    apply Nat.eq_of_testBit_eq
    intro k
    rw [Nat.testBit_mod_two_pow, Nat.zero_testBit]
    by_cases hk : k < t
    · rw [hl k hk]; simp
    · simp [hk]
  have hb : u / 2 ^ t % 2 = 1 := by
    rw [Nat.testBit_eq_decide_div_mod_eq] at ht
    exact of_decide_eq_true ht
  obtain ⟨q, hq⟩ : ∃ q, u / 2 ^ t = 2 * q + 1 := ⟨u / 2 ^ t / 2, by omega⟩
  have hu2 : u = 2 ^ t * (2 * q + 1) := by
    have := Nat.div_add_mod u (2 ^ t)
    rw [hlow, hq] at this
    omega
  have hp := Nat.two_pow_pos t
  have hm1 : u - 1 = 2 ^ t * (2 * q) + (2 ^ t - 1) := by
    rw [Nat.mul_add, Nat.mul_one] at hu2
    omega
  have hu3 : u = 2 ^ t * (2 * q + 1) + 0 := hu2
  refine bt_ext (fun x => ?_)
  rw [bt_andb, Nat.testBit_two_pow_sub_one, decide_eq_true_eq]
  rw [show 4294967295 - u = 2 ^ 32 - (u + 1) by omega, Nat.testBit_two_pow_sub_succ hu, Bool.and_eq_true, decide_eq_true_eq, Bool.not_eq_true']
  have t32 : t < 32 := by
    refine Nat.lt_of_not_le (fun h => ?_)
    rw [mk_hi (n := 32) hu h] at ht
    cases ht
  by_cases hx : x < t
  · rw [hl x hx, hm1, Nat.testBit_two_pow_mul_add _ (by omega), if_pos hx, Nat.testBit_two_pow_sub_one]
    simp [hx]
    omega
  · rw [hm1, Nat.testBit_two_pow_mul_add _ (by omega), if_neg hx]
    refine ⟨fun w => ?_, fun w => absurd w hx⟩
    obtain ⟨⟨w1, w2⟩, w3⟩ := w
    rw [hu3, Nat.testBit_two_pow_mul_add _ hp, if_neg hx] at w2
    exfalso
    obtain ⟨y, hy⟩ : ∃ y, x - t = y := ⟨_, rfl⟩
    rw [hy] at w2 w3
    cases y with
    | zero =>
      rw [Nat.testBit_zero] at w3
      have := of_decide_eq_true w3
      omega
    | succ y =>
      rw [Nat.testBit_succ] at w2 w3
      rw [show (2 * q + 1) / 2 = q by omega] at w2
      rw [show 2 * q / 2 = q by omega] at w3
      rw [w3] at w2
      cases w2
theorem vi_low0 (P : Nat → Prop) {t : Nat} (ht : t < 32) (hp : P t) (hl : ∀ k, k < t → ¬ P k) : bv_and (bv_xor (vi P) (-1)) (vi P - 1) = ((2 ^ t - 1 : Nat) : Int) := by
  have hb : (mk 32 P).testBit t = true := (mk_bit 32 P t).mpr ⟨ht, hp⟩
  have h0 : 0 < mk 32 P := Nat.pos_of_ne_zero (fun q => by rw [q] at hb; simp at hb)
  have hk := tz_bits hb (fun k hk => by rw [bt_fls, mk_bit]; exact fun q => hl k hk q.2) (mk_232 P) h0
  unfold bv_and bv_xor
  rw [Int32.ofInt_toInt, vi_i32]
  have e1 : Int32.ofInt (vi P - 1) = Int32.ofBitVec (BitVec.ofNat 32 (mk 32 P) - 1) := by
    rw [Int32.ofInt_sub, vi_i32]
    rfl
  rw [e1]
  have e2 : (Int32.ofBitVec (BitVec.ofNat 32 (mk 32 P)) ^^^ Int32.ofInt (-1)) &&& Int32.ofBitVec (BitVec.ofNat 32 (mk 32 P) - 1) = Int32.ofBitVec ((BitVec.ofNat 32 (mk 32 P) ^^^ BitVec.allOnes 32) &&& (BitVec.ofNat 32 (mk 32 P) - 1)) := rfl
  rw [e2]
  have e3 : ((BitVec.ofNat 32 (mk 32 P) ^^^ BitVec.allOnes 32) &&& (BitVec.ofNat 32 (mk 32 P) - 1)).toNat = 2 ^ t - 1 := by
    rw [BitVec.xor_allOnes, BitVec.toNat_and, BitVec.toNat_not, BitVec.toNat_sub, BitVec.toNat_ofNat, Nat.mod_eq_of_lt (mk_232 P)]
    have h32 := mk_232 P
    have e4 : (2 ^ 32 - (1 : BitVec 32).toNat + mk 32 P) % 2 ^ 32 = mk 32 P - 1 := by
      show (2 ^ 32 - 1 + mk 32 P) % 2 ^ 32 = _
      omega
    rw [e4]
    exact hk
  have hlt : 2 ^ t ≤ 2 ^ 31 := Nat.pow_le_pow_right (by decide) (by omega)
  rw [bt_i32 _ (by rw [e3]; omega), e3]
theorem tz_s {x s k : Nat} (hx : x + 1 = 2 ^ s) (h : 2 ^ k < x) : k + 1 ≤ s ∧ x / 2 ^ k + 1 = 2 ^ (s - k) := by
  have hs : k < s := by
    refine Nat.lt_of_not_le (fun q => ?_)
    have := Nat.pow_le_pow_right (n := 2) (by decide) q
    omega
  obtain ⟨c, rfl⟩ : ∃ c, s = k + c := ⟨s - k, by omega⟩
  refine ⟨hs, ?_⟩
  rw [show k + c - k = c by omega]
  rw [Nat.pow_add] at hx
  have hk := Nat.two_pow_pos k
  have hc := Nat.two_pow_pos c
  obtain ⟨b, hb⟩ : ∃ b, 2 ^ c = b + 1 := ⟨2 ^ c - 1, by omega⟩
  rw [hb] at hx ⊢
  have e : x = 2 ^ k * b + (2 ^ k - 1) := by
    rw [Nat.mul_add, Nat.mul_one] at hx
    omega
  rw [e, Nat.mul_add_div hk, Nat.div_eq_of_lt (by omega)]
theorem tz_n {x s k : Nat} (h1 : 1 ≤ k) (hx : x + 1 = 2 ^ s) (h : ¬ 2 ^ k < x) : s ≤ k := by
  refine Nat.le_of_not_lt (fun q => ?_)
  have := Nat.pow_le_pow_right (n := 2) (by decide) (show k + 1 ≤ s from q)
  have e : 2 ^ 1 ≤ 2 ^ k := Nat.pow_le_pow_right (by decide) h1
  rw [Nat.pow_succ] at this
  omega
section GCTZ
variable {E : go_E} {d : Nat} {δ : Nat → Nat → Int} {Q : List go_V → go_F → (Nat → Nat → Int) → Prop}
theorem g_J6_ctz {P : Nat → Prop} {t : Nat} (ht : t < 32) (hp : P t) (hl : ∀ k, k < t → ¬ P k) (hQ : Q [vv_I (t : Int)] go_φ δ) : Go E d (0, 0) mx_J6_numberOfTrailingZeros_0f7a4 go_φ 0 [(0, vv_I (vi P))] [] δ Q := by
  have st74 : ∀ x s : Nat, x + 1 = 2 ^ s → 1 ≤ s → s ≤ 2 → s ≤ t → Go E d (0, 0) mx_J6_numberOfTrailingZeros_0f7a4 go_φ 74 [(0, vv_I (x : Int)), (1, vv_I (1 + ((t - s : Nat) : Int)))] [] δ Q := fun x s hx h1 h2 hs => by
    have hx2 : (s = 1 ∧ x = 1) ∨ (s = 2 ∧ x = 3) := by
      rcases (show s = 1 ∨ s = 2 by omega) with q | q <;> subst q
      · exact Or.inl ⟨rfl, by omega⟩
      · exact Or.inr ⟨rfl, by omega⟩
    refine go_iload_n (i := 1) dx_J6_numberOfTrailingZeros_0f7a4_74 rfl rfl ?_
    refine go_iload_n (i := 0) dx_J6_numberOfTrailingZeros_0f7a4_75 rfl rfl ?_
    refine go_iconst dx_J6_numberOfTrailingZeros_0f7a4_76 ?_
    refine go_iushr dx_J6_numberOfTrailingZeros_0f7a4_77 ?_
    refine go_asI (y := ((x / 2 : Nat) : Int)) (by rw [show (1 : Int) = ((1 : Nat) : Int) from rfl, bv_ushrN (by omega) (by decide)]) ?_
    refine go_iadd dx_J6_numberOfTrailingZeros_0f7a4_78 ?_
    refine go_asI (y := (t : Int)) (by rcases hx2 with ⟨q1, q2⟩ | ⟨q1, q2⟩ <;> omega) ?_
    refine go_ireturn dx_J6_numberOfTrailingZeros_0f7a4_79 rfl (Nat.le_refl _) (Nat.le_refl _) ?_
    exact hQ
  have st62 : ∀ x s : Nat, x + 1 = 2 ^ s → 1 ≤ s → s ≤ 4 → s ≤ t → x < 65536 → Go E d (0, 0) mx_J6_numberOfTrailingZeros_0f7a4 go_φ 62 [(0, vv_I (x : Int)), (1, vv_I (1 + ((t - s : Nat) : Int)))] [] δ Q := fun x s hx h1 h2 hs hlt => by
    by_cases c : 2 ^ 2 < x
    · obtain ⟨g1, g2⟩ := tz_s hx c
      refine go_iload_n (i := 0) dx_J6_numberOfTrailingZeros_0f7a4_62 rfl rfl ?_
      refine go_iconst dx_J6_numberOfTrailingZeros_0f7a4_63 ?_
      refine go_icmp_le (tgt := 74) dx_J6_numberOfTrailingZeros_0f7a4_64 rfl (by omega) (by omega) (fun c64 => by exact absurd c64 (by omega)) (fun c64 => ?_)
      refine go_iinc (lv' := [(0, vv_I (x : Int)), (1, vv_I ((1 + ((t - s : Nat) : Int)) + 2))]) dx_J6_numberOfTrailingZeros_0f7a4_67 rfl (by decide) rfl ?_
      refine go_iload_n (i := 0) dx_J6_numberOfTrailingZeros_0f7a4_70 rfl rfl ?_
      refine go_iconst dx_J6_numberOfTrailingZeros_0f7a4_71 ?_
      refine go_iushr dx_J6_numberOfTrailingZeros_0f7a4_72 ?_
      refine go_asI (y := ((x / 4 : Nat) : Int)) (by rw [show (2 : Int) = ((2 : Nat) : Int) from rfl, bv_ushrN (by omega) (by decide)]) ?_
      refine go_istore_n (i := 0) (lv' := [(0, vv_I ((x / 4 : Nat) : Int)), (1, vv_I ((1 + ((t - s : Nat) : Int)) + 2))]) dx_J6_numberOfTrailingZeros_0f7a4_73 rfl (by decide) rfl ?_
      have k := st74 (x / 4) (s - 2) g2 (by omega) (by omega) (by omega)
      rw [show 1 + ((t - (s - 2) : Nat) : Int) = 1 + ((t - s : Nat) : Int) + 2 by omega] at k
      exact k
    · have g1 := tz_n (by decide) hx c
      refine go_iload_n (i := 0) dx_J6_numberOfTrailingZeros_0f7a4_62 rfl rfl ?_
      refine go_iconst dx_J6_numberOfTrailingZeros_0f7a4_63 ?_
      refine go_icmp_le (tgt := 74) dx_J6_numberOfTrailingZeros_0f7a4_64 rfl (by omega) (by omega) (fun c64 => ?_) (fun c64 => by exact absurd c64 (by omega))
      exact st74 x s hx h1 g1 hs
  have st49 : ∀ x s : Nat, x + 1 = 2 ^ s → 1 ≤ s → s ≤ 8 → s ≤ t → x < 65536 → Go E d (0, 0) mx_J6_numberOfTrailingZeros_0f7a4 go_φ 49 [(0, vv_I (x : Int)), (1, vv_I (1 + ((t - s : Nat) : Int)))] [] δ Q := fun x s hx h1 h2 hs hlt => by
    by_cases c : 2 ^ 4 < x
    · obtain ⟨g1, g2⟩ := tz_s hx c
      refine go_iload_n (i := 0) dx_J6_numberOfTrailingZeros_0f7a4_49 rfl rfl ?_
      refine go_bipush dx_J6_numberOfTrailingZeros_0f7a4_50 rfl ?_
      refine go_icmp_le (tgt := 62) dx_J6_numberOfTrailingZeros_0f7a4_52 rfl (by omega) (by omega) (fun c52 => by exact absurd c52 (by omega)) (fun c52 => ?_)
      refine go_iinc (lv' := [(0, vv_I (x : Int)), (1, vv_I ((1 + ((t - s : Nat) : Int)) + 4))]) dx_J6_numberOfTrailingZeros_0f7a4_55 rfl (by decide) rfl ?_
      refine go_iload_n (i := 0) dx_J6_numberOfTrailingZeros_0f7a4_58 rfl rfl ?_
      refine go_iconst dx_J6_numberOfTrailingZeros_0f7a4_59 ?_
      refine go_iushr dx_J6_numberOfTrailingZeros_0f7a4_60 ?_
      refine go_asI (y := ((x / 16 : Nat) : Int)) (by rw [show (4 : Int) = ((4 : Nat) : Int) from rfl, bv_ushrN (by omega) (by decide)]) ?_
      refine go_istore_n (i := 0) (lv' := [(0, vv_I ((x / 16 : Nat) : Int)), (1, vv_I ((1 + ((t - s : Nat) : Int)) + 4))]) dx_J6_numberOfTrailingZeros_0f7a4_61 rfl (by decide) rfl ?_
      have k := st62 (x / 16) (s - 4) g2 (by omega) (by omega) (by omega) (by omega)
      rw [show 1 + ((t - (s - 4) : Nat) : Int) = 1 + ((t - s : Nat) : Int) + 4 by omega] at k
      exact k
    · have g1 := tz_n (by decide) hx c
      refine go_iload_n (i := 0) dx_J6_numberOfTrailingZeros_0f7a4_49 rfl rfl ?_
      refine go_bipush dx_J6_numberOfTrailingZeros_0f7a4_50 rfl ?_
      refine go_icmp_le (tgt := 62) dx_J6_numberOfTrailingZeros_0f7a4_52 rfl (by omega) (by omega) (fun c52 => ?_) (fun c52 => by exact absurd c52 (by omega))
      exact st62 x s hx h1 g1 hs hlt
  have st34 : ∀ x s : Nat, x + 1 = 2 ^ s → 1 ≤ s → s ≤ 16 → s ≤ t → x < 65536 → Go E d (0, 0) mx_J6_numberOfTrailingZeros_0f7a4 go_φ 34 [(0, vv_I (x : Int)), (1, vv_I (1 + ((t - s : Nat) : Int)))] [] δ Q := fun x s hx h1 h2 hs hlt => by
    by_cases c : 2 ^ 8 < x
    · obtain ⟨g1, g2⟩ := tz_s hx c
      refine go_iload_n (i := 0) dx_J6_numberOfTrailingZeros_0f7a4_34 rfl rfl ?_
      refine go_sipush dx_J6_numberOfTrailingZeros_0f7a4_35 rfl ?_
      refine go_icmp_le (tgt := 49) dx_J6_numberOfTrailingZeros_0f7a4_38 rfl (by omega) (by omega) (fun c38 => by exact absurd c38 (by omega)) (fun c38 => ?_)
      refine go_iinc (lv' := [(0, vv_I (x : Int)), (1, vv_I ((1 + ((t - s : Nat) : Int)) + 8))]) dx_J6_numberOfTrailingZeros_0f7a4_41 rfl (by decide) rfl ?_
      refine go_iload_n (i := 0) dx_J6_numberOfTrailingZeros_0f7a4_44 rfl rfl ?_
      refine go_bipush dx_J6_numberOfTrailingZeros_0f7a4_45 rfl ?_
      refine go_iushr dx_J6_numberOfTrailingZeros_0f7a4_47 ?_
      refine go_asI (y := ((x / 256 : Nat) : Int)) (by rw [show (8 : Int) = ((8 : Nat) : Int) from rfl, bv_ushrN (by omega) (by decide)]) ?_
      refine go_istore_n (i := 0) (lv' := [(0, vv_I ((x / 256 : Nat) : Int)), (1, vv_I ((1 + ((t - s : Nat) : Int)) + 8))]) dx_J6_numberOfTrailingZeros_0f7a4_48 rfl (by decide) rfl ?_
      have k := st49 (x / 256) (s - 8) g2 (by omega) (by omega) (by omega) (by omega)
      rw [show 1 + ((t - (s - 8) : Nat) : Int) = 1 + ((t - s : Nat) : Int) + 8 by omega] at k
      exact k
    · have g1 := tz_n (by decide) hx c
      refine go_iload_n (i := 0) dx_J6_numberOfTrailingZeros_0f7a4_34 rfl rfl ?_
      refine go_sipush dx_J6_numberOfTrailingZeros_0f7a4_35 rfl ?_
      refine go_icmp_le (tgt := 49) dx_J6_numberOfTrailingZeros_0f7a4_38 rfl (by omega) (by omega) (fun c38 => ?_) (fun c38 => by exact absurd c38 (by omega))
      exact st49 x s hx h1 g1 hs hlt
  have hz := vi_low0 P ht hp hl
  have hlt : 2 ^ t ≤ 2 ^ 31 := Nat.pow_le_pow_right (by decide) (by omega)
  have hpos := Nat.two_pow_pos t
  obtain ⟨x, hx⟩ : ∃ x, x = 2 ^ t - 1 := ⟨_, rfl⟩
  rw [← hx] at hz
  have hx1 : x + 1 = 2 ^ t := by omega
  have h31 : x < 2147483648 := by omega
  have hvi := vi_iI P
  by_cases t0 : t = 0
  · subst t0
    have x0 : x = 0 := hx
    subst x0
    refine go_iload_n (i := 0) dx_J6_numberOfTrailingZeros_0f7a4_0 rfl rfl ?_
    refine go_iconst dx_J6_numberOfTrailingZeros_0f7a4_1 ?_
    refine go_ixor dx_J6_numberOfTrailingZeros_0f7a4_2 ?_
    refine go_iload_n (i := 0) dx_J6_numberOfTrailingZeros_0f7a4_3 rfl rfl ?_
    refine go_iconst dx_J6_numberOfTrailingZeros_0f7a4_4 ?_
    refine go_isub dx_J6_numberOfTrailingZeros_0f7a4_5 ?_
    refine go_iand dx_J6_numberOfTrailingZeros_0f7a4_6 ?_
    refine go_asI (y := 0) (by exact hz) ?_
    refine go_istore_n (i := 0) (lv' := [(0, vv_I 0)]) dx_J6_numberOfTrailingZeros_0f7a4_7 rfl (by decide) rfl ?_
    refine go_iload_n (i := 0) dx_J6_numberOfTrailingZeros_0f7a4_8 rfl rfl ?_
    refine go_if_gt (tgt := 17) dx_J6_numberOfTrailingZeros_0f7a4_9 rfl (by omega) (fun c9 => absurd c9 (by decide)) (fun c9 => ?_)
    refine go_iload_n (i := 0) dx_J6_numberOfTrailingZeros_0f7a4_12 rfl rfl ?_
    refine go_bipush dx_J6_numberOfTrailingZeros_0f7a4_13 rfl ?_
    refine go_iand dx_J6_numberOfTrailingZeros_0f7a4_15 ?_
    refine go_asI (y := 0) (by decide) ?_
    refine go_ireturn dx_J6_numberOfTrailingZeros_0f7a4_16 rfl (Nat.le_refl _) (Nat.le_refl _) ?_
    exact hQ
  · have x1 : 1 ≤ x := by
      have : 2 ^ 1 ≤ 2 ^ t := Nat.pow_le_pow_right (by decide) (by omega)
      omega
    by_cases c : 2 ^ 16 < x
    · obtain ⟨g1, g2⟩ := tz_s hx1 c
      refine go_iload_n (i := 0) dx_J6_numberOfTrailingZeros_0f7a4_0 rfl rfl ?_
      refine go_iconst dx_J6_numberOfTrailingZeros_0f7a4_1 ?_
      refine go_ixor dx_J6_numberOfTrailingZeros_0f7a4_2 ?_
      refine go_iload_n (i := 0) dx_J6_numberOfTrailingZeros_0f7a4_3 rfl rfl ?_
      refine go_iconst dx_J6_numberOfTrailingZeros_0f7a4_4 ?_
      refine go_isub dx_J6_numberOfTrailingZeros_0f7a4_5 ?_
      refine go_iand dx_J6_numberOfTrailingZeros_0f7a4_6 ?_
      refine go_asI (y := (x : Int)) (by exact hz) ?_
      refine go_istore_n (i := 0) (lv' := [(0, vv_I (x : Int))]) dx_J6_numberOfTrailingZeros_0f7a4_7 rfl (by decide) rfl ?_
      refine go_iload_n (i := 0) dx_J6_numberOfTrailingZeros_0f7a4_8 rfl rfl ?_
      refine go_if_gt (tgt := 17) dx_J6_numberOfTrailingZeros_0f7a4_9 rfl (by omega) (fun c9 => ?_) (fun c9 => by exact absurd (by omega) c9)
      refine go_iconst dx_J6_numberOfTrailingZeros_0f7a4_17 ?_
      refine go_istore_n (i := 1) (lv' := [(0, vv_I (x : Int)), (1, vv_I 1)]) dx_J6_numberOfTrailingZeros_0f7a4_18 rfl (by decide) rfl ?_
      refine go_iload_n (i := 0) dx_J6_numberOfTrailingZeros_0f7a4_19 rfl rfl ?_
      refine go_ldc_w (x := 65536) kx_J6_264 dx_J6_numberOfTrailingZeros_0f7a4_20 ?_
      refine go_icmp_le (tgt := 34) dx_J6_numberOfTrailingZeros_0f7a4_23 rfl (by omega) (by omega) (fun c23 => by exact absurd c23 (by omega)) (fun c23 => ?_)
      refine go_iinc (lv' := [(0, vv_I (x : Int)), (1, vv_I 17)]) dx_J6_numberOfTrailingZeros_0f7a4_26 rfl (by decide) rfl ?_
      refine go_iload_n (i := 0) dx_J6_numberOfTrailingZeros_0f7a4_29 rfl rfl ?_
      refine go_bipush dx_J6_numberOfTrailingZeros_0f7a4_30 rfl ?_
      refine go_iushr dx_J6_numberOfTrailingZeros_0f7a4_32 ?_
      refine go_asI (y := ((x / 65536 : Nat) : Int)) (by rw [show (16 : Int) = ((16 : Nat) : Int) from rfl, bv_ushrN (by omega) (by decide)]) ?_
      refine go_istore_n (i := 0) (lv' := [(0, vv_I ((x / 65536 : Nat) : Int)), (1, vv_I 17)]) dx_J6_numberOfTrailingZeros_0f7a4_33 rfl (by decide) rfl ?_
      have k := st34 (x / 65536) (t - 16) g2 (by omega) (by omega) (by omega) (by omega)
      rw [show 1 + ((t - (t - 16) : Nat) : Int) = 17 by omega] at k
      exact k
    · have g1 := tz_n (by decide) hx1 c
      refine go_iload_n (i := 0) dx_J6_numberOfTrailingZeros_0f7a4_0 rfl rfl ?_
      refine go_iconst dx_J6_numberOfTrailingZeros_0f7a4_1 ?_
      refine go_ixor dx_J6_numberOfTrailingZeros_0f7a4_2 ?_
      refine go_iload_n (i := 0) dx_J6_numberOfTrailingZeros_0f7a4_3 rfl rfl ?_
      refine go_iconst dx_J6_numberOfTrailingZeros_0f7a4_4 ?_
      refine go_isub dx_J6_numberOfTrailingZeros_0f7a4_5 ?_
      refine go_iand dx_J6_numberOfTrailingZeros_0f7a4_6 ?_
      refine go_asI (y := (x : Int)) (by exact hz) ?_
      refine go_istore_n (i := 0) (lv' := [(0, vv_I (x : Int))]) dx_J6_numberOfTrailingZeros_0f7a4_7 rfl (by decide) rfl ?_
      refine go_iload_n (i := 0) dx_J6_numberOfTrailingZeros_0f7a4_8 rfl rfl ?_
      refine go_if_gt (tgt := 17) dx_J6_numberOfTrailingZeros_0f7a4_9 rfl (by omega) (fun c9 => ?_) (fun c9 => by exact absurd (by omega) c9)
      refine go_iconst dx_J6_numberOfTrailingZeros_0f7a4_17 ?_
      refine go_istore_n (i := 1) (lv' := [(0, vv_I (x : Int)), (1, vv_I 1)]) dx_J6_numberOfTrailingZeros_0f7a4_18 rfl (by decide) rfl ?_
      refine go_iload_n (i := 0) dx_J6_numberOfTrailingZeros_0f7a4_19 rfl rfl ?_
      refine go_ldc_w (x := 65536) kx_J6_264 dx_J6_numberOfTrailingZeros_0f7a4_20 ?_
      refine go_icmp_le (tgt := 34) dx_J6_numberOfTrailingZeros_0f7a4_23 rfl (by omega) (by omega) (fun c23 => ?_) (fun c23 => by exact absurd c23 (by omega))
      have p16 : 2 ^ t ≤ 2 ^ 16 := Nat.pow_le_pow_right (by decide) g1
      have k := st34 x t hx1 (by omega) g1 (Nat.le_refl _) (by omega)
      rw [show 1 + ((t - t : Nat) : Int) = 1 by omega] at k
      exact k
end GCTZ
section GCTZ2
variable {E : go_E} {d : Nat} {mm : Nat × Nat} {M : go_M} {φ : go_F} {pc : Nat} {lv : List (Nat × go_V)} {st : List go_V} {δ : Nat → Nat → Int} {Q : List go_V → go_F → (Nat → Nat → Int) → Prop}
theorem go_cgI {x y : Int} (e : Int32.ofInt x = Int32.ofInt y) (k : Go E d mm M φ pc lv (vv_I y :: st) δ Q) : Go E d mm M φ pc lv (vv_I x :: st) δ Q := by
  have e2 : go_cs E (vv_I x :: st) = go_cs E (vv_I y :: st) := by
    show Value.int (Int32.ofInt x) :: _ = Value.int (Int32.ofInt y) :: _
    rw [e]
  intro p l e R s m args below meth c Z H locs ls
  rw [e2]
  exact k p l e R s m args below meth c Z H locs ls
theorem g_ctzV {P : Nat → Prop} {t : Nat} (ht : t < 64) (hp : P t) (hl : ∀ k, k < t → ¬ P k) (hQ : Q [vv_I (t : Int)] go_φ δ) : Go E (d + 1) (0, 0) mx_J13_numberOfTrailingZeros_95d88 go_φ 0 [(0, vv_L (vb P))] [] δ Q := by
  have hvi := vi_iI P
  refine go_lload_n (i := 0) dx_J13_numberOfTrailingZeros_95d88_0 rfl rfl ?_
  refine go_l2i dx_J13_numberOfTrailingZeros_95d88_1 ?_
  refine go_cgI (vi_low P) ?_
  by_cases c : t < 32
  · have hz : vi P ≠ 0 := fun q => vi_z.mp q t c hp
    refine go_istore_n (i := 2) (lv' := [(0, vv_L (vb P)), (2, vv_I (vi P))]) dx_J13_numberOfTrailingZeros_95d88_2 rfl (by decide) rfl ?_
    refine go_iload_n (i := 2) dx_J13_numberOfTrailingZeros_95d88_3 rfl rfl ?_
    refine go_if_ne (tgt := 21) dx_J13_numberOfTrailingZeros_95d88_4 rfl (by omega) (fun c4 => ?_) (fun c4 => by exact absurd c4 hz)
    refine go_iload_n (i := 2) dx_J13_numberOfTrailingZeros_95d88_21 rfl rfl ?_
    refine go_cS1 ss_J13_311 dx_J13_numberOfTrailingZeros_95d88_22 (Nat.le_of_ble_eq_true rfl) (Nat.le_of_ble_eq_true rfl) (g_J6_ctz c hp hl ?_)
    refine go_ireturn dx_J13_numberOfTrailingZeros_95d88_25 rfl (Nat.le_refl _) (Nat.le_refl _) ?_
    exact hQ
  · have hz : vi P = 0 := vi_z.mpr (fun k hk => hl k (by omega))
    refine go_istore_n (i := 2) (lv' := [(0, vv_L (vb P)), (2, vv_I (vi P))]) dx_J13_numberOfTrailingZeros_95d88_2 rfl (by decide) rfl ?_
    refine go_iload_n (i := 2) dx_J13_numberOfTrailingZeros_95d88_3 rfl rfl ?_
    refine go_if_ne (tgt := 21) dx_J13_numberOfTrailingZeros_95d88_4 rfl (by omega) (fun c4 => by exact absurd hz c4) (fun c4 => ?_)
    refine go_bipush dx_J13_numberOfTrailingZeros_95d88_7 rfl ?_
    refine go_lload_n (i := 0) dx_J13_numberOfTrailingZeros_95d88_9 rfl rfl ?_
    refine go_bipush dx_J13_numberOfTrailingZeros_95d88_10 rfl ?_
    refine go_lushr dx_J13_numberOfTrailingZeros_95d88_12 ?_
    refine go_asL (y := (vb (fun k => k + 32 < 64 ∧ P (k + 32)))) (by exact vb_ushr P (s := 32) (by decide)) ?_
    refine go_l2i dx_J13_numberOfTrailingZeros_95d88_13 ?_
    refine go_cgI (vi_low _) ?_
    refine go_cS1 ss_J13_311 dx_J13_numberOfTrailingZeros_95d88_14 (Nat.le_of_ble_eq_true rfl) (Nat.le_of_ble_eq_true rfl) (g_J6_ctz (t := t - 32) (by omega) ⟨by omega, by rw [show t - 32 + 32 = t by omega]; exact hp⟩ (fun k hk q => hl (k + 32) (by omega) q.2) ?_)
    refine go_iadd dx_J13_numberOfTrailingZeros_95d88_17 ?_
    refine go_asI (y := (t : Int)) (by omega) ?_
    refine go_goto (tgt := 25) dx_J13_numberOfTrailingZeros_95d88_18 rfl ?_
    refine go_ireturn dx_J13_numberOfTrailingZeros_95d88_25 rfl (Nat.le_refl _) (Nat.le_refl _) ?_
    exact hQ
end GCTZ2
