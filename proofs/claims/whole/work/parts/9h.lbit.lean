/-! Long.bitCount, byte by byte -/
theorem lby_and {lo h p q : Nat} (h1 : lo < 256) (h2 : p < 256) : (lo + 256 * h) &&& (p + 256 * q) = (lo &&& p) + 256 * (h &&& q) := by
  have e := Nat.mod_add_div ((lo + 256 * h) &&& (p + 256 * q)) (2 ^ 8)
  rw [Nat.and_mod_two_pow, Nat.and_div_two_pow, show (lo + 256 * h) % 2 ^ 8 = lo by omega, show (p + 256 * q) % 2 ^ 8 = p by omega, show (lo + 256 * h) / 2 ^ 8 = h by omega, show (p + 256 * q) / 2 ^ 8 = q by omega] at e
  exact e.symm
def lb1 (M m : Nat) : Nat := m - (m / 2 &&& M)
def lb2 (M a : Nat) : Nat := (a &&& M) + (a / 4 &&& M)
def lb3 (M b : Nat) : Nat := (b + b / 16) &&& M
def lt1 (m : Nat) : Nat := m - (m / 2 &&& 85)
def lt2 (a : Nat) : Nat := (a &&& 51) + (a / 4 &&& 51)
def lt3 (b : Nat) : Nat := (b + b / 16) &&& 15
theorem lby_d1 : ∀ a, a < 256 → ∀ b, b < 2 → (a / 2 + 128 * b) &&& 85 = a / 2 &&& 85 := by decide +kernel
theorem lby_d2 : ∀ a, a < 256 → ∀ b, b < 4 → (a / 4 + 64 * b) &&& 51 = a / 4 &&& 51 := by decide +kernel
theorem lby_d2b : ∀ a, a < 256 → lt2 a < 128 ∧ lt2 a % 16 ≤ 6 ∧ lt2 a / 16 ≤ 6 := by decide +kernel
theorem lby_d3 : ∀ a, a < 128 → ∀ b, b < 8 → (a + a / 16 + 16 * b) &&& 15 = (a + a / 16) &&& 15 := by decide +kernel
theorem lby_d : ∀ a, a < 256 → lt3 (lt2 (lt1 a)) = bt_pop 8 a := by decide +kernel
theorem lby_d1l : ∀ a, a < 256 → lt1 a < 256 := by decide +kernel
theorem lby_p8 : ∀ a, a < 256 → bt_pop 8 a ≤ 8 := by decide +kernel
theorem lby_1 {M lo h : Nat} (hl : lo < 256) : lb1 (85 + 256 * M) (lo + 256 * h) = lt1 lo + 256 * lb1 M h := by
  unfold lb1 lt1
  have e : (lo + 256 * h) / 2 = (lo / 2 + 128 * (h % 2)) + 256 * (h / 2) := by omega
  rw [e, lby_and (by omega) (by decide), lby_d1 lo hl (h % 2) (by omega)]
  have h1 : lo / 2 &&& 85 ≤ lo / 2 := Nat.and_le_left
  have h2 : h / 2 &&& M ≤ h / 2 := Nat.and_le_left
  omega
theorem lby_2 {M lo h : Nat} (hl : lo < 256) : lb2 (51 + 256 * M) (lo + 256 * h) = lt2 lo + 256 * lb2 M h := by
  unfold lb2 lt2
  have e : (lo + 256 * h) / 4 = (lo / 4 + 64 * (h % 4)) + 256 * (h / 4) := by omega
  rw [e, lby_and hl (by decide), lby_and (by omega) (by decide), lby_d2 lo hl (h % 4) (by omega)]
  omega
theorem lby_2m {M a : Nat} (hM : M % 16 ≤ 3) : lb2 M a % 16 ≤ 6 := by
  unfold lb2
  have h1 : (a &&& M) % 2 ^ 4 ≤ 3 := by rw [Nat.and_mod_two_pow]; exact Nat.le_trans Nat.and_le_right hM
  have h2 : (a / 4 &&& M) % 2 ^ 4 ≤ 3 := by rw [Nat.and_mod_two_pow]; exact Nat.le_trans Nat.and_le_right hM
  omega
theorem lby_3 {M lo h : Nat} (hl : lo < 128) (h6 : lo / 16 ≤ 6) (h6' : lo % 16 ≤ 6) (hh : h % 16 ≤ 6) : lb3 (15 + 256 * M) (lo + 256 * h) = lt3 lo + 256 * lb3 M h := by
  unfold lb3 lt3
  have e : lo + 256 * h + (lo + 256 * h) / 16 = (lo + lo / 16 + 16 * (h % 16)) + 256 * (h + h / 16) := by omega
  rw [e, lby_and (by omega) (by decide), lby_d3 lo hl (h % 16) (by omega)]
/-- a byte more -/
theorem lby_up {M1 M2 M3 m : Nat} (hM : M2 % 16 ≤ 3) : lb3 (15 + 256 * M3) (lb2 (51 + 256 * M2) (lb1 (85 + 256 * M1) m)) = bt_pop 8 (m % 256) + 256 * lb3 M3 (lb2 M2 (lb1 M1 (m / 256))) := by
  have hl := Nat.mod_lt m (show 0 < 256 by decide)
  have e : m = m % 256 + 256 * (m / 256) := by omega
  have l1 := lby_d1l _ hl
  obtain ⟨b1, b2, b3⟩ := lby_d2b _ l1
  rw [← lby_d _ hl]
  generalize m % 256 = lo at *
  generalize m / 256 = h at *
  rw [e, lby_1 hl, lby_2 l1, lby_3 b1 b3 b2 (lby_2m hM)]
/-- the counts of the bytes -/
def lbB : Nat → Nat → Nat
  | 0, _ => 0
  | k + 1, m => bt_pop 8 (m % 256) + 256 * lbB k (m / 256)
def lbM (p : Nat) : Nat → Nat
  | 0 => 0
  | k + 1 => p + 256 * lbM p k
theorem lby_m2 : ∀ k, lbM 51 k % 16 ≤ 3
  | 0 => by decide
  | k + 1 => by show (51 + 256 * lbM 51 k) % 16 ≤ 3; omega
theorem lby_all : ∀ k m, m < 256 ^ k → lb3 (lbM 15 k) (lb2 (lbM 51 k) (lb1 (lbM 85 k) m)) = lbB k m
  | 0, m, h => by
    have e : m = 0 := by rw [Nat.pow_zero] at h; omega
    subst e
    rfl
  | k + 1, m, h => by
    show lb3 (15 + 256 * lbM 15 k) (lb2 (51 + 256 * lbM 51 k) (lb1 (85 + 256 * lbM 85 k) m)) = bt_pop 8 (m % 256) + 256 * lbB k (m / 256)
    rw [lby_up (lby_m2 k), lby_all k (m / 256) (by rw [Nat.pow_succ] at h; omega)]
theorem lby_k1 : lbM 85 8 = 6148914691236517205 := by decide +kernel
theorem lby_k2 : lbM 51 8 = 3689348814741910323 := by decide +kernel
theorem lby_k3 : lbM 15 8 = 1085102592571150095 := by decide +kernel
theorem lby_pop (m : Nat) (k : Nat) : bt_pop (8 + k) m = bt_pop 8 (m % 256) + bt_pop k (m / 256) := by
  have h := pop_cut 8 k (m % 256) (m / 256) (Nat.mod_lt _ (by decide))
  rw [show m % 256 + 2 ^ 8 * (m / 256) = m by omega] at h
  exact h
/-- the bytes' counts summed up -/
def lb4 (c : Nat) : Nat := (c + c / 256) + (c + c / 256) / 65536
theorem lby_sum {m : Nat} (h : m < 18446744073709551616) : (lb4 (lbB 8 m) + lb4 (lbB 8 m) / 4294967296) % 128 = bt_pop 64 m ∧ lbB 8 m < 1157442765409226768 := by
  have P : ∀ k, bt_pop 8 (k % 256) ≤ 8 := fun k => lby_p8 _ (Nat.mod_lt _ (by decide))
  have e0 : bt_pop 64 m = bt_pop (8 + 56) m := rfl
  rw [e0, lby_pop, show (56 : Nat) = 8 + 48 from rfl, lby_pop, show (48 : Nat) = 8 + 40 from rfl, lby_pop, show (40 : Nat) = 8 + 32 from rfl, lby_pop, show (32 : Nat) = 8 + 24 from rfl, lby_pop, show (24 : Nat) = 8 + 16 from rfl, lby_pop, show (16 : Nat) = 8 + 8 from rfl, lby_pop]
  have q0 := P m
  have q1 := P (m / 256)
  have q2 := P (m / 256 / 256)
  have q3 := P (m / 256 / 256 / 256)
  have q4 := P (m / 256 / 256 / 256 / 256)
  have q5 := P (m / 256 / 256 / 256 / 256 / 256)
  have q6 := P (m / 256 / 256 / 256 / 256 / 256 / 256)
  have q7 := P (m / 256 / 256 / 256 / 256 / 256 / 256 / 256)
  have e7 : m / 256 / 256 / 256 / 256 / 256 / 256 / 256 % 256 = m / 256 / 256 / 256 / 256 / 256 / 256 / 256 := by omega
  rw [e7] at q7
  have b8 : lbB 8 m = bt_pop 8 (m % 256) + 256 * (bt_pop 8 (m / 256 % 256) + 256 * (bt_pop 8 (m / 256 / 256 % 256) + 256 * (bt_pop 8 (m / 256 / 256 / 256 % 256) + 256 * (bt_pop 8 (m / 256 / 256 / 256 / 256 % 256) + 256 * (bt_pop 8 (m / 256 / 256 / 256 / 256 / 256 % 256) + 256 * (bt_pop 8 (m / 256 / 256 / 256 / 256 / 256 / 256 % 256) + 256 * (bt_pop 8 (m / 256 / 256 / 256 / 256 / 256 / 256 / 256 % 256) + 256 * 0))))))) := rfl
  rw [e7] at b8
  rw [b8]
  clear b8 e0 e7 P h
  generalize bt_pop 8 (m % 256) = p0 at *
  generalize bt_pop 8 (m / 256 % 256) = p1 at *
  generalize bt_pop 8 (m / 256 / 256 % 256) = p2 at *
  generalize bt_pop 8 (m / 256 / 256 / 256 % 256) = p3 at *
  generalize bt_pop 8 (m / 256 / 256 / 256 / 256 % 256) = p4 at *
  generalize bt_pop 8 (m / 256 / 256 / 256 / 256 / 256 % 256) = p5 at *
  generalize bt_pop 8 (m / 256 / 256 / 256 / 256 / 256 / 256 % 256) = p6 at *
  generalize bt_pop 8 (m / 256 / 256 / 256 / 256 / 256 / 256 / 256) = p7 at *
  obtain ⟨c6, h6⟩ : ∃ c, c = p6 + 256 * (p7 + 256 * 0) := ⟨_, rfl⟩
  obtain ⟨c5, h5⟩ : ∃ c, c = p5 + 256 * c6 := ⟨_, rfl⟩
  obtain ⟨c4, h4⟩ : ∃ c, c = p4 + 256 * c5 := ⟨_, rfl⟩
  obtain ⟨c3, h3⟩ : ∃ c, c = p3 + 256 * c4 := ⟨_, rfl⟩
  obtain ⟨c2, h2⟩ : ∃ c, c = p2 + 256 * c3 := ⟨_, rfl⟩
  obtain ⟨c1, h1⟩ : ∃ c, c = p1 + 256 * c2 := ⟨_, rfl⟩
  obtain ⟨c0, h0⟩ : ∃ c, c = p0 + 256 * c1 := ⟨_, rfl⟩
  rw [← h6, ← h5, ← h4, ← h3, ← h2, ← h1, ← h0]
  have d0 : c0 / 256 = c1 := by omega
  have d1 : (c0 + c1) / 65536 = c2 + c3 := by
    clear h6 h5 h4 h3
    omega
  have d2 : (c0 + c1 + (c2 + c3)) / 4294967296 = c4 + (c5 + (c6 + p7)) := by
    have s0 : c0 = (p0 + 256 * p1 + 65536 * p2 + 16777216 * p3) + 4294967296 * c4 := by omega
    have s1 : c1 = (p1 + 256 * p2 + 65536 * p3 + 16777216 * p4) + 4294967296 * c5 := by omega
    have s2 : c2 = (p2 + 256 * p3 + 65536 * p4 + 16777216 * p5) + 4294967296 * c6 := by omega
    have s3 : c3 = (p3 + 256 * p4 + 65536 * p5 + 16777216 * p6) + 4294967296 * p7 := by omega
    clear h6 h5 h4 h3 h2 h1 h0 d0 d1
    omega
  have hb : lb4 c0 = c0 + c1 + (c2 + c3) := by unfold lb4; rw [d0, d1]
  rw [hb, d2]
  clear d0 d1 d2 hb
  constructor
  · have t0 : c0 % 128 = p0 % 128 := by omega
    have t1 : c1 % 128 = p1 % 128 := by omega
    have t2 : c2 % 128 = p2 % 128 := by omega
    have t3 : c3 % 128 = p3 % 128 := by omega
    have t4 : c4 % 128 = p4 % 128 := by omega
    have t5 : c5 % 128 = p5 % 128 := by omega
    have t6 : c6 % 128 = p6 % 128 := by omega
    clear h6 h5 h4 h3 h2 h1 h0
    omega
  · omega
theorem bt_and127 {b : BitVec 32} : (Int32.ofBitVec b &&& Int32.ofInt 127).toInt = ((b.toNat % 128 : Nat) : Int) := by
  have e : Int32.ofBitVec b &&& Int32.ofInt 127 = Int32.ofBitVec (b &&& BitVec.ofNat 32 127) := rfl
  have e2 : (b &&& BitVec.ofNat 32 127).toNat = b.toNat % 128 := by
    rw [BitVec.toNat_and]
    show b.toNat &&& 127 = _
    exact Nat.and_two_pow_sub_one_eq_mod b.toNat 7
  rw [e, bt_i32 _ (by rw [e2]; omega), e2]
theorem bv_and127 (m : Nat) : bv_and m 127 = ((m % 128 : Nat) : Int) := by
  unfold bv_and
  rw [bt_of32, bt_and127, BitVec.toNat_ofNat]
  congr 1
  omega
section GLBIT
variable {E : go_E} {d : Nat} {δ : Nat → Nat → Int} {Q : List go_V → go_F → (Nat → Nat → Int) → Prop}
theorem g_J13_bitCount {m : Nat} (hm : m < 18446744073709551616) (hQ : Q [vv_I (bt_pop 64 m : Int)] go_φ δ) : Go E d (0, 0) mx_J13_bitCount_95d88 go_φ 0 [(0, vv_L (m : Int))] [] δ Q := by
  obtain ⟨hs, hlt⟩ := lby_sum hm
  have ha := lby_all 8 m (by omega)
  rw [lby_k1, lby_k2, lby_k3] at ha
  obtain ⟨a, ea⟩ : ∃ a, a = lb1 6148914691236517205 m := ⟨_, rfl⟩
  have ea2 : a = m - (m / 2 &&& 6148914691236517205) := ea
  obtain ⟨b, eb⟩ : ∃ b, b = lb2 3689348814741910323 a := ⟨_, rfl⟩
  have eb2 : b = (a &&& 3689348814741910323) + (a / 4 &&& 3689348814741910323) := eb
  obtain ⟨c, ec⟩ : ∃ c, c = lb3 1085102592571150095 b := ⟨_, rfl⟩
  have ec2 : c = (b + b / 16) &&& 1085102592571150095 := ec
  rw [← ea, ← eb, ← ec] at ha
  rw [← ha] at hs hlt
  have b1 : m / 2 &&& 6148914691236517205 ≤ m / 2 := Nat.and_le_left
  have al : a < 18446744073709551616 := by omega
  have b2 : a &&& 3689348814741910323 ≤ 3689348814741910323 := Nat.and_le_right
  have b3 : a / 4 &&& 3689348814741910323 ≤ 3689348814741910323 := Nat.and_le_right
  have bl : b < 7378697629483820647 := by omega
  rw [← hs] at hQ
  obtain ⟨e, ee⟩ : ∃ e, e = c + c / 256 := ⟨_, rfl⟩
  obtain ⟨f, ef⟩ : ∃ f, f = e + e / 65536 := ⟨_, rfl⟩
  have e4 : lb4 c = f := by unfold lb4; rw [← ee, ← ef]
  rw [e4] at hQ
  clear hs ha e4
  refine go_lload_n (i := 0) dx_J13_bitCount_95d88_0 rfl rfl ?_
  refine go_lload_n (i := 0) dx_J13_bitCount_95d88_1 rfl rfl ?_
  refine go_iconst dx_J13_bitCount_95d88_2 ?_
  refine go_lushr dx_J13_bitCount_95d88_3 ?_
  refine go_asL (y := ((m / 2 : Nat) : Int)) (by rw [show (1 : Int) = ((1 : Nat) : Int) from rfl, bw_ushrU hm (by decide) (by decide)]) ?_
  refine go_ldc2 (x := 6148914691236517205) kx_J13_314 dx_J13_bitCount_95d88_4 ?_
  refine go_land dx_J13_bitCount_95d88_7 ?_
  refine go_asL (y := ((m / 2 &&& 6148914691236517205 : Nat) : Int)) (by rw [show (6148914691236517205 : Int) = ((6148914691236517205 : Nat) : Int) from rfl, bw_andU (by omega) (by decide)]) ?_
  refine go_lsub dx_J13_bitCount_95d88_8 ?_
  refine go_asL (y := (a : Int)) (by omega) ?_
  refine go_lstore_n (i := 0) (lv' := [(0, vv_L (a : Int))]) dx_J13_bitCount_95d88_9 rfl (by decide) rfl ?_
  refine go_lload_n (i := 0) dx_J13_bitCount_95d88_10 rfl rfl ?_
  refine go_ldc2 (x := 3689348814741910323) kx_J13_316 dx_J13_bitCount_95d88_11 ?_
  refine go_land dx_J13_bitCount_95d88_14 ?_
  refine go_asL (y := ((a &&& 3689348814741910323 : Nat) : Int)) (by rw [show (3689348814741910323 : Int) = ((3689348814741910323 : Nat) : Int) from rfl, bw_andU al (by decide)]) ?_
  refine go_lload_n (i := 0) dx_J13_bitCount_95d88_15 rfl rfl ?_
  refine go_iconst dx_J13_bitCount_95d88_16 ?_
  refine go_lushr dx_J13_bitCount_95d88_17 ?_
  refine go_asL (y := ((a / 4 : Nat) : Int)) (by rw [show (2 : Int) = ((2 : Nat) : Int) from rfl, bw_ushrU al (by decide) (by decide)]) ?_
  refine go_ldc2 (x := 3689348814741910323) kx_J13_316 dx_J13_bitCount_95d88_18 ?_
  refine go_land dx_J13_bitCount_95d88_21 ?_
  refine go_asL (y := ((a / 4 &&& 3689348814741910323 : Nat) : Int)) (by rw [show (3689348814741910323 : Int) = ((3689348814741910323 : Nat) : Int) from rfl, bw_andU (by omega) (by decide)]) ?_
  refine go_ladd dx_J13_bitCount_95d88_22 ?_
  refine go_asL (y := (b : Int)) (by omega) ?_
  refine go_lstore_n (i := 0) (lv' := [(0, vv_L (b : Int))]) dx_J13_bitCount_95d88_23 rfl (by decide) rfl ?_
  refine go_lload_n (i := 0) dx_J13_bitCount_95d88_24 rfl rfl ?_
  refine go_lload_n (i := 0) dx_J13_bitCount_95d88_25 rfl rfl ?_
  refine go_iconst dx_J13_bitCount_95d88_26 ?_
  refine go_lushr dx_J13_bitCount_95d88_27 ?_
  refine go_asL (y := ((b / 16 : Nat) : Int)) (by rw [show (4 : Int) = ((4 : Nat) : Int) from rfl, bw_ushrN (by omega) (by decide)]) ?_
  refine go_ladd dx_J13_bitCount_95d88_28 ?_
  refine go_asL (y := ((b + b / 16 : Nat) : Int)) (by rfl) ?_
  refine go_ldc2 (x := 1085102592571150095) kx_J13_318 dx_J13_bitCount_95d88_29 ?_
  refine go_land dx_J13_bitCount_95d88_32 ?_
  refine go_asL (y := (c : Int)) (by rw [show (1085102592571150095 : Int) = ((1085102592571150095 : Nat) : Int) from rfl, bw_andU (by omega) (by decide), ec2]) ?_
  refine go_lstore_n (i := 0) (lv' := [(0, vv_L (c : Int))]) dx_J13_bitCount_95d88_33 rfl (by decide) rfl ?_
  refine go_lload_n (i := 0) dx_J13_bitCount_95d88_34 rfl rfl ?_
  refine go_lload_n (i := 0) dx_J13_bitCount_95d88_35 rfl rfl ?_
  refine go_bipush dx_J13_bitCount_95d88_36 rfl ?_
  refine go_lushr dx_J13_bitCount_95d88_38 ?_
  refine go_asL (y := ((c / 256 : Nat) : Int)) (by rw [show (8 : Int) = ((8 : Nat) : Int) from rfl, bw_ushrN (by omega) (by decide)]) ?_
  refine go_ladd dx_J13_bitCount_95d88_39 ?_
  refine go_asL (y := (e : Int)) (by omega) ?_
  refine go_lstore_n (i := 0) (lv' := [(0, vv_L (e : Int))]) dx_J13_bitCount_95d88_40 rfl (by decide) rfl ?_
  refine go_lload_n (i := 0) dx_J13_bitCount_95d88_41 rfl rfl ?_
  refine go_lload_n (i := 0) dx_J13_bitCount_95d88_42 rfl rfl ?_
  refine go_bipush dx_J13_bitCount_95d88_43 rfl ?_
  refine go_lushr dx_J13_bitCount_95d88_45 ?_
  refine go_asL (y := ((e / 65536 : Nat) : Int)) (by rw [show (16 : Int) = ((16 : Nat) : Int) from rfl, bw_ushrN (by omega) (by decide)]) ?_
  refine go_ladd dx_J13_bitCount_95d88_46 ?_
  refine go_asL (y := (f : Int)) (by omega) ?_
  refine go_lstore_n (i := 0) (lv' := [(0, vv_L (f : Int))]) dx_J13_bitCount_95d88_47 rfl (by decide) rfl ?_
  refine go_lload_n (i := 0) dx_J13_bitCount_95d88_48 rfl rfl ?_
  refine go_lload_n (i := 0) dx_J13_bitCount_95d88_49 rfl rfl ?_
  refine go_bipush dx_J13_bitCount_95d88_50 rfl ?_
  refine go_lushr dx_J13_bitCount_95d88_52 ?_
  refine go_asL (y := ((f / 4294967296 : Nat) : Int)) (by rw [show (32 : Int) = ((32 : Nat) : Int) from rfl, bw_ushrN (by omega) (by decide)]) ?_
  refine go_ladd dx_J13_bitCount_95d88_53 ?_
  refine go_asL (y := ((f + f / 4294967296 : Nat) : Int)) (by rfl) ?_
  refine go_lstore_n (i := 0) (lv' := [(0, vv_L ((f + f / 4294967296 : Nat) : Int))]) dx_J13_bitCount_95d88_54 rfl (by decide) rfl ?_
  refine go_lload_n (i := 0) dx_J13_bitCount_95d88_55 rfl rfl ?_
  refine go_l2i dx_J13_bitCount_95d88_56 ?_
  refine go_bipush dx_J13_bitCount_95d88_57 rfl ?_
  refine go_iand dx_J13_bitCount_95d88_59 ?_
  refine go_asI (y := (((f + f / 4294967296) % 128 : Nat) : Int)) (by exact bv_and127 _) ?_
  refine go_ireturn dx_J13_bitCount_95d88_60 rfl (Nat.le_refl _) (Nat.le_refl _) ?_
  exact hQ
theorem g_bitCountV {P : Nat → Prop} (hQ : Q [vv_I (cn 64 P : Int)] go_φ δ) : Go E d (0, 0) mx_J13_bitCount_95d88 go_φ 0 [(0, vv_L (vb P))] [] δ Q := by
  have ecl : go_cl2 E [(0, vv_L (vb P))] = go_cl2 E [(0, vv_L ((mk 64 P : Nat) : Int))] := by
    show [(0, Value.long (Int64.ofInt (vb P)))] = [(0, Value.long (Int64.ofInt ((mk 64 P : Nat) : Int)))]
    rw [vb_cg]
  have h := g_J13_bitCount (E := E) (d := d) (δ := δ) (Q := Q) (mk_lt 64 P) (by rw [pop_mk]; exact hQ)
  intro p l e R s m args below meth c Z H locs ls B g1 g2 g3 g4 hZ hW hS hl
  exact h p l e R s m args below meth c Z H locs ls B g1 g2 g3 g4 hZ hW hS (by rw [← ecl]; exact hl)
end GLBIT
