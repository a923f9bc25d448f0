/-! bits counted by bytes -/
theorem pp_split (a0 a' b0 b' : Nat) (ha : a0 < 256) (hb : b0 < 256) : (a0 + 256 * a') &&& (b0 + 256 * b') = (a0 &&& b0) + 256 * (a' &&& b') := by
  have h1 : ((a0 + 256 * a') &&& (b0 + 256 * b')) % 2 ^ 8 = a0 &&& b0 := by
    rw [Nat.and_mod_two_pow]
    congr 1 <;> omega
  have h2 : ((a0 + 256 * a') &&& (b0 + 256 * b')) / 2 ^ 8 = a' &&& b' := by
    rw [Nat.and_div_two_pow]
    congr 1 <;> omega
  omega
def pm5 : Nat → Nat
  | 0 => 0
  | k + 1 => 85 + 256 * pm5 k
def pm3 : Nat → Nat
  | 0 => 0
  | k + 1 => 51 + 256 * pm3 k
def pmf : Nat → Nat
  | 0 => 0
  | k + 1 => 15 + 256 * pmf k
def py8 (x : Nat) : Nat := x - (x / 2 &&& 85)
def pz8 (x : Nat) : Nat := (py8 x &&& 51) + (py8 x / 4 &&& 51)
def pb8 (x : Nat) : Nat := (pz8 x + pz8 x / 16) &&& 15
def pyn : Nat → Nat → Nat
  | 0, _ => 0
  | k + 1, x => py8 (x % 256) + 256 * pyn k (x / 256)
def pzn : Nat → Nat → Nat
  | 0, _ => 0
  | k + 1, x => pz8 (x % 256) + 256 * pzn k (x / 256)
def pbn : Nat → Nat → Nat
  | 0, _ => 0
  | k + 1, x => pb8 (x % 256) + 256 * pbn k (x / 256)
theorem pp1 : ∀ x, x < 256 → ((x / 2 + 128) &&& 85) = (x / 2 &&& 85) ∧ (x / 2 &&& 85) ≤ x ∧ py8 x < 256 := by decide +kernel
theorem pp2 : ∀ x, x < 256 → ∀ y, y < 4 → ((x / 4 + 64 * y) &&& 51) = (x / 4 &&& 51) := by decide +kernel
theorem pp3 : ∀ x, x < 256 → pz8 x % 16 ≤ 4 ∧ pz8 x / 16 ≤ 4 ∧ pb8 x ≤ 8 ∧ pz8 x < 256 ∧ ∀ y, y < 5 → ((pz8 x + pz8 x / 16 + 16 * y) &&& 15) = pb8 x := by decide +kernel
theorem pp4 : ∀ x, x < 256 → pb8 x = bt_pop 8 x := by decide +kernel
theorem pp_y (k : Nat) : ∀ x, x < 256 ^ k → (x / 2 &&& pm5 k) ≤ x ∧ x - (x / 2 &&& pm5 k) = pyn k x ∧ pyn k x ≤ x := by
  induction k with
  | zero =>
    intro x hx
    have : x = 0 := by
      have hx : x < 1 := hx
      omega
    subst this
    exact ⟨Nat.le_refl _, rfl, Nat.le_refl _⟩
  | succ k ih =>
    intro x hx
    have hx' : x / 256 < 256 ^ k := by
      rw [Nat.pow_succ] at hx
      exact Nat.div_lt_of_lt_mul (by rw [Nat.mul_comm]; exact hx)
    obtain ⟨i1, i2, i3⟩ := ih (x / 256) hx'
    obtain ⟨q1, q2, q3⟩ := pp1 (x % 256) (Nat.mod_lt _ (by decide))
    have e : x / 2 = (x % 256 / 2 + 128 * (x / 256 % 2)) + 256 * (x / 256 / 2) := by omega
    have e1 : (x / 2 &&& pm5 (k + 1)) = (x % 256 / 2 &&& 85) + 256 * (x / 256 / 2 &&& pm5 k) := by
      show (x / 2 &&& (85 + 256 * pm5 k)) = _
      rw [e, pp_split _ _ _ _ (by omega) (by decide)]
      congr 1
      rcases Nat.mod_two_eq_zero_or_one (x / 256) with q | q
      · rw [q, Nat.mul_zero, Nat.add_zero]
      · rw [q, Nat.mul_one, q1]
    rw [e1]
    have e2 : pyn (k + 1) x = (x % 256 - (x % 256 / 2 &&& 85)) + 256 * pyn k (x / 256) := rfl
    rw [e2]
    generalize (x % 256 / 2 &&& 85) = u at *
    generalize (x / 256 / 2 &&& pm5 k) = v at *
    exact ⟨by omega, by omega, by omega⟩
theorem pp_z (k : Nat) : ∀ x, (pyn k x &&& pm3 k) + (pyn k x / 4 &&& pm3 k) = pzn k x := by
  induction k with
  | zero => intro x; show (0 &&& 0) + (0 / 4 &&& 0) = 0; rfl
  | succ k ih =>
    intro x
    obtain ⟨q1, q2, q3⟩ := pp1 (x % 256) (Nat.mod_lt _ (by decide))
    have i1 := ih (x / 256)
    show (py8 (x % 256) + 256 * pyn k (x / 256) &&& (51 + 256 * pm3 k)) + ((py8 (x % 256) + 256 * pyn k (x / 256)) / 4 &&& (51 + 256 * pm3 k)) = pz8 (x % 256) + 256 * pzn k (x / 256)
    have e : (py8 (x % 256) + 256 * pyn k (x / 256)) / 4 = (py8 (x % 256) / 4 + 64 * (pyn k (x / 256) % 4)) + 256 * (pyn k (x / 256) / 4) := by omega
    rw [e, pp_split _ _ _ _ q3 (by decide), pp_split _ _ _ _ (by omega) (by decide), pp2 _ q3 _ (Nat.mod_lt _ (by decide)), ← i1]
    show _ = (py8 (x % 256) &&& 51) + (py8 (x % 256) / 4 &&& 51) + _
    omega
theorem pp_b (k : Nat) : ∀ x, (pzn k x + pzn k x / 16 &&& pmf k) = pbn k x ∧ pzn k x % 16 ≤ 4 ∧ pzn k x < 256 ^ k := by
  induction k with
  | zero => intro x; exact ⟨(show (0 + 0 / 16 &&& 0) = 0 from rfl), (show 0 % 16 ≤ 4 from by decide), (show 0 < 1 from by decide)⟩
  | succ k ih =>
    intro x
    obtain ⟨q1, q2, q3, q4, q5⟩ := pp3 (x % 256) (Nat.mod_lt _ (by decide))
    obtain ⟨i1, i2, i3⟩ := ih (x / 256)
    have e0 : pzn (k + 1) x = pz8 (x % 256) + 256 * pzn k (x / 256) := rfl
    refine ⟨?_, by rw [e0]; omega, by rw [e0, Nat.pow_succ]; omega⟩
    rw [e0]
    have e : pz8 (x % 256) + 256 * pzn k (x / 256) + (pz8 (x % 256) + 256 * pzn k (x / 256)) / 16 = (pz8 (x % 256) + pz8 (x % 256) / 16 + 16 * (pzn k (x / 256) % 16)) + 256 * (pzn k (x / 256) + pzn k (x / 256) / 16) := by omega
    show (_ &&& (15 + 256 * pmf k)) = pb8 (x % 256) + 256 * pbn k (x / 256)
    rw [e, pp_split _ _ _ _ (by omega) (by decide), q5 _ (by omega), i1]
theorem pop_app (a : Nat) : ∀ (k x : Nat), bt_pop (k + a) x = bt_pop k x + bt_pop a (x / 2 ^ k) := by
  intro k
  induction k with
  | zero => intro x; rw [Nat.zero_add, Nat.pow_zero, Nat.div_one]; exact (Nat.zero_add _).symm
  | succ k ih =>
    intro x
    rw [Nat.add_right_comm]
    show x % 2 + bt_pop (k + a) (x / 2) = x % 2 + bt_pop k (x / 2) + bt_pop a (x / 2 ^ (k + 1))
    rw [ih, Nat.div_div_eq_div_mul, Nat.pow_succ, Nat.mul_comm 2, Nat.add_assoc]
theorem pop_mod (k : Nat) : ∀ x, bt_pop k (x % 2 ^ k) = bt_pop k x := by
  induction k with
  | zero => intro x; rfl
  | succ k ih =>
    intro x
    show x % 2 ^ (k + 1) % 2 + bt_pop k (x % 2 ^ (k + 1) / 2) = x % 2 + bt_pop k (x / 2)
    have e1 : x % 2 ^ (k + 1) % 2 = x % 2 := Nat.mod_mod_of_dvd _ (Nat.dvd_mul_left 2 (2 ^ k))
    have e2 : x % 2 ^ (k + 1) / 2 = x / 2 % 2 ^ k := by rw [Nat.pow_succ, Nat.mul_comm, Nat.mod_mul_right_div_self]
    rw [e1, e2, ih]
def pbs : Nat → Nat → Nat
  | 0, _ => 0
  | k + 1, x => pb8 (x % 256) + pbs k (x / 256)
theorem pp_pop (k : Nat) : ∀ x, pbs k x = bt_pop (8 * k) x := by
  induction k with
  | zero => intro x; rfl
  | succ k ih =>
    intro x
    rw [show 8 * (k + 1) = 8 + 8 * k by omega, pop_app, ← pop_mod 8 x]
    show pb8 (x % 256) + pbs k (x / 256) = _
    rw [pp4 _ (Nat.mod_lt _ (by decide)), ih]
theorem pp_b8 (x : Nat) : pb8 (x % 256) ≤ 8 := (pp3 (x % 256) (Nat.mod_lt _ (by decide))).2.2.1
theorem pp_dv {a b : Nat} (h : a < 256) : (a + 256 * b) / 256 = b := by omega
theorem pp_dv2 {a b c : Nat} (h : a < 256) (h2 : b < 256) : (a + 256 * (b + 256 * c)) / 65536 = c := by
  rw [show 65536 = 256 * 256 from rfl, ← Nat.div_div_eq_div_mul, pp_dv h, pp_dv h2]
theorem pp_dv4 {a b c e f : Nat} (h : a < 256) (h2 : b < 256) (h3 : c < 256) (h4 : e < 256) : (a + 256 * (b + 256 * (c + 256 * (e + 256 * f)))) / 4294967296 = f := by
  rw [show 4294967296 = 65536 * 65536 from rfl, ← Nat.div_div_eq_div_mul, pp_dv2 h h2, pp_dv2 h3 h4]
theorem pp_ad (a b a' b' : Nat) : (a + 256 * b) + (a' + 256 * b') = (a + a') + 256 * (b + b') := by omega
theorem pp_md {a b m : Nat} (h : a < m) (h2 : m ∣ 256) : (a + 256 * b) % m = a := by
  obtain ⟨k, hk⟩ := h2
  rw [hk, Nat.mul_assoc, Nat.add_mul_mod_self_left, Nat.mod_eq_of_lt h]
theorem pp_lt {a b n : Nat} (h : a < 256) (h2 : b < n) : a + 256 * b < 256 * n := by omega
theorem pp_f4 {a0 a1 a2 a3 : Nat} (h0 : a0 ≤ 8) (h1 : a1 ≤ 8) (h2 : a2 ≤ 8) (h3 : a3 ≤ 8) : ∃ y, a0 + 256 * (a1 + 256 * (a2 + 256 * (a3 + 256 * 0))) < 2147483648 ∧ y = a0 + 256 * (a1 + 256 * (a2 + 256 * (a3 + 256 * 0))) + (a0 + 256 * (a1 + 256 * (a2 + 256 * (a3 + 256 * 0)))) / 256 ∧ y < 2147483648 ∧ y + y / 65536 < 2147483648 ∧ (y + y / 65536) % 64 = a0 + (a1 + (a2 + (a3 + 0))) := by
  refine ⟨_, by omega, rfl, ?_, ?_, ?_⟩
  · rw [pp_dv (by omega)]; omega
  · rw [pp_dv (by omega), pp_ad, pp_ad, pp_ad, pp_dv2 (by omega) (by omega)]; omega
  · rw [pp_dv (by omega), pp_ad, pp_ad, pp_ad, pp_dv2 (by omega) (by omega), pp_ad, pp_md (by omega) ⟨4, rfl⟩]; omega
theorem pp_f8 {a0 a1 a2 a3 a4 a5 a6 a7 : Nat} (h0 : a0 ≤ 8) (h1 : a1 ≤ 8) (h2 : a2 ≤ 8) (h3 : a3 ≤ 8) (h4 : a4 ≤ 8) (h5 : a5 ≤ 8) (h6 : a6 ≤ 8) (h7 : a7 ≤ 8) :
    ∃ y z, a0 + 256 * (a1 + 256 * (a2 + 256 * (a3 + 256 * (a4 + 256 * (a5 + 256 * (a6 + 256 * (a7 + 256 * 0))))))) < 18446744073709551616 ∧ y = a0 + 256 * (a1 + 256 * (a2 + 256 * (a3 + 256 * (a4 + 256 * (a5 + 256 * (a6 + 256 * (a7 + 256 * 0))))))) + (a0 + 256 * (a1 + 256 * (a2 + 256 * (a3 + 256 * (a4 + 256 * (a5 + 256 * (a6 + 256 * (a7 + 256 * 0)))))))) / 256 ∧ y < 18446744073709551616 ∧ z = y + y / 65536 ∧ z < 18446744073709551616 ∧ z + z / 4294967296 < 18446744073709551616 ∧ (z + z / 4294967296) % 128 = a0 + (a1 + (a2 + (a3 + (a4 + (a5 + (a6 + (a7 + 0))))))) := by
  have e1 : (a0 + 256 * (a1 + 256 * (a2 + 256 * (a3 + 256 * (a4 + 256 * (a5 + 256 * (a6 + 256 * (a7 + 256 * 0)))))))) / 256 = a1 + 256 * (a2 + 256 * (a3 + 256 * (a4 + 256 * (a5 + 256 * (a6 + 256 * (a7 + 256 * 0)))))) := pp_dv (by omega)
  have e2 : a0 + 256 * (a1 + 256 * (a2 + 256 * (a3 + 256 * (a4 + 256 * (a5 + 256 * (a6 + 256 * (a7 + 256 * 0))))))) + (a1 + 256 * (a2 + 256 * (a3 + 256 * (a4 + 256 * (a5 + 256 * (a6 + 256 * (a7 + 256 * 0))))))) = (a0 + a1) + 256 * ((a1 + a2) + 256 * ((a2 + a3) + 256 * ((a3 + a4) + 256 * ((a4 + a5) + 256 * ((a5 + a6) + 256 * ((a6 + a7) + 256 * (a7 + 256 * 0))))))) := by
    rw [pp_ad, pp_ad, pp_ad, pp_ad, pp_ad, pp_ad, pp_ad]
    rfl
  have e3 : ((a0 + a1) + 256 * ((a1 + a2) + 256 * ((a2 + a3) + 256 * ((a3 + a4) + 256 * ((a4 + a5) + 256 * ((a5 + a6) + 256 * ((a6 + a7) + 256 * (a7 + 256 * 0)))))))) / 65536 = (a2 + a3) + 256 * ((a3 + a4) + 256 * ((a4 + a5) + 256 * ((a5 + a6) + 256 * ((a6 + a7) + 256 * (a7 + 256 * 0))))) := pp_dv2 (by omega) (by omega)
  have e4 : (a0 + a1) + 256 * ((a1 + a2) + 256 * ((a2 + a3) + 256 * ((a3 + a4) + 256 * ((a4 + a5) + 256 * ((a5 + a6) + 256 * ((a6 + a7) + 256 * (a7 + 256 * 0))))))) + ((a2 + a3) + 256 * ((a3 + a4) + 256 * ((a4 + a5) + 256 * ((a5 + a6) + 256 * ((a6 + a7) + 256 * (a7 + 256 * 0)))))) = ((a0 + a1) + (a2 + a3)) + 256 * (((a1 + a2) + (a3 + a4)) + 256 * (((a2 + a3) + (a4 + a5)) + 256 * (((a3 + a4) + (a5 + a6)) + 256 * (((a4 + a5) + (a6 + a7)) + 256 * (((a5 + a6) + a7) + 256 * ((a6 + a7) + 256 * (a7 + 256 * 0))))))) := by
    rw [pp_ad, pp_ad, pp_ad, pp_ad, pp_ad, pp_ad]
    rfl
  have e5 : (((a0 + a1) + (a2 + a3)) + 256 * (((a1 + a2) + (a3 + a4)) + 256 * (((a2 + a3) + (a4 + a5)) + 256 * (((a3 + a4) + (a5 + a6)) + 256 * (((a4 + a5) + (a6 + a7)) + 256 * (((a5 + a6) + a7) + 256 * ((a6 + a7) + 256 * (a7 + 256 * 0)))))))) / 4294967296 = ((a4 + a5) + (a6 + a7)) + 256 * (((a5 + a6) + a7) + 256 * ((a6 + a7) + 256 * (a7 + 256 * 0))) := pp_dv4 (by omega) (by omega) (by omega) (by omega)
  have l1 : ∀ {a : Nat}, a ≤ 8 → a + 256 * 0 < 64 := fun h => by omega
  have hz : ∀ {b0 b1 b2 b3 b4 b5 b6 b7 : Nat}, b0 < 64 → b1 < 64 → b2 < 64 → b3 < 64 → b4 < 64 → b5 < 64 → b6 < 64 → b7 < 64 → b0 + 256 * (b1 + 256 * (b2 + 256 * (b3 + 256 * (b4 + 256 * (b5 + 256 * (b6 + 256 * (b7 + 256 * 0))))))) < 18446744073709551616 := fun q0 q1 q2 q3 q4 q5 q6 q7 => by omega
  refine ⟨_, _, hz (by omega) (by omega) (by omega) (by omega) (by omega) (by omega) (by omega) (by omega), rfl, ?_, rfl, ?_, ?_, ?_⟩
  · rw [e1, e2]; exact hz (by omega) (by omega) (by omega) (by omega) (by omega) (by omega) (by omega) (by omega)
  · rw [e1, e2, e3, e4]; exact hz (by omega) (by omega) (by omega) (by omega) (by omega) (by omega) (by omega) (by omega)
  · rw [e1, e2, e3, e4, e5, pp_ad, pp_ad, pp_ad, pp_ad]
    refine Nat.lt_of_lt_of_le (pp_lt (n := 72057594037927936) (by omega) (pp_lt (n := 281474976710656) (by omega) (pp_lt (n := 1099511627776) (by omega) (pp_lt (n := 4294967296) (by omega) (pp_lt (n := 16777216) (by omega) (pp_lt (n := 65536) (by omega) (pp_lt (n := 256) (by omega) (by omega)))))))) (by decide)
  · rw [e1, e2, e3, e4, e5, pp_ad, pp_md (by omega) ⟨2, rfl⟩]; omega
theorem pp_fin4 (x : Nat) : ∃ y, pbn 4 x < 2147483648 ∧ y = pbn 4 x + pbn 4 x / 256 ∧ y < 2147483648 ∧ y + y / 65536 < 2147483648 ∧ (y + y / 65536) % 64 = pbs 4 x := by
  sorry
theorem pp_fin8 (x : Nat) : ∃ y z, pbn 8 x < 18446744073709551616 ∧ y = pbn 8 x + pbn 8 x / 256 ∧ y < 18446744073709551616 ∧ z = y + y / 65536 ∧ z < 18446744073709551616 ∧ z + z / 4294967296 < 18446744073709551616 ∧ (z + z / 4294967296) % 128 = pbs 8 x := by
  sorry
theorem pop_cn1 (k x : Nat) : bt_pop (k + 1) x = bt_pop k x + x / 2 ^ k % 2 := by rw [pop_app]; show _ + (x / 2 ^ k % 2 + 0) = _; rw [Nat.add_zero]
theorem pop_0 (k : Nat) : bt_pop k 0 = 0 := by
  induction k with
  | zero => rfl
  | succ k ih => show 0 % 2 + bt_pop k (0 / 2) = 0; rw [Nat.zero_div, ih]
theorem pop_hi {n k m : Nat} (h : m < 2 ^ n) : bt_pop (n + k) m = bt_pop n m := by rw [pop_app, Nat.div_eq_of_lt h, pop_0, Nat.add_zero]
theorem pop_bitsN (R : Nat → List Nat) (n : Nat) : bt_pop n (rl_bits R n) = rl_many R n := by
  induction n with
  | zero => rfl
  | succ n ih =>
    show bt_pop (n + 1) (rl_bits R n ||| (if R n = [] then 0 else 2 ^ n)) = rl_many R n + (if R n = [] then 0 else 1)
    have hlt := rl_bits_lt R n
    by_cases e : R n = []
    · rw [if_pos e, if_pos e, Nat.or_zero, pop_hi hlt, ih, Nat.add_zero]
    · have e2 : rl_bits R n ||| 2 ^ n = rl_bits R n + 2 ^ n := by
        have := Nat.two_pow_add_eq_or_of_lt hlt 1
        rw [Nat.mul_one, Nat.or_comm] at this
        rw [← this, Nat.add_comm]
      rw [if_neg e, if_neg e, e2, pop_cn1, ← pop_mod, Nat.add_mod_right, Nat.mod_eq_of_lt hlt, ih, Nat.add_div_right _ (Nat.two_pow_pos n), Nat.div_eq_of_lt hlt]
