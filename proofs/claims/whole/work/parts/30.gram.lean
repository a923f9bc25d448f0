/-! the language of the rules: masks, what a row of symbols derives, pairs and helpers -/
noncomputable def mk : Nat → (Nat → Prop) → Nat
  | 0, _ => 0
  | n + 1, P => mk n P ||| (@ite _ (P n) (Classical.propDecidable _) (2 ^ n) 0)
theorem mk_bit (n : Nat) (P : Nat → Prop) (x : Nat) : (mk n P).testBit x = true ↔ x < n ∧ P x := by
  induction n with
  | zero => simp [mk]
  | succ n ih =>
    show (mk n P ||| _).testBit x = true ↔ _
    rw [Nat.testBit_or, Bool.or_eq_true, ih]
    by_cases h : P n
    · rw [if_pos h, Nat.testBit_two_pow]
      constructor
      · rintro (⟨a, b⟩ | a)
        · exact ⟨by omega, b⟩
        · have a' := of_decide_eq_true a
          subst a'
          exact ⟨by omega, h⟩
      · rintro ⟨a, b⟩
        by_cases e : n = x
        · exact Or.inr (decide_eq_true e)
        · exact Or.inl ⟨by omega, b⟩
    · rw [if_neg h, Nat.zero_testBit]
      constructor
      · rintro (⟨a, b⟩ | a)
        · exact ⟨by omega, b⟩
        · cases a
      · rintro ⟨a, b⟩
        by_cases e : n = x
        · subst e; exact absurd b h
        · exact Or.inl ⟨by omega, b⟩
theorem mk_lt (n : Nat) (P : Nat → Prop) : mk n P < 2 ^ n := by
  induction n with
  | zero => exact Nat.zero_lt_one
  | succ n ih =>
    refine bt_or_lt (Nat.lt_of_lt_of_le ih (Nat.pow_le_pow_right (by decide) (by omega))) ?_
    by_cases h : P n
    · rw [if_pos h]; exact Nat.pow_lt_pow_right (by decide) (by omega)
    · rw [if_neg h]; exact Nat.two_pow_pos _
theorem mk_hi {m n x : Nat} (h : m < 2 ^ n) (hx : n ≤ x) : m.testBit x = false := Nat.testBit_lt_two_pow (Nat.lt_of_lt_of_le h (Nat.pow_le_pow_right (by decide) hx))
theorem mk_eq {n m : Nat} {P : Nat → Prop} (h : m < 2 ^ n) (e : ∀ x, x < n → (m.testBit x = true ↔ P x)) : m = mk n P := by
  refine Nat.eq_of_testBit_eq (fun x => Bool.eq_iff_iff.mpr ?_)
  rw [mk_bit]
  by_cases hx : x < n
  · rw [e x hx]; exact ⟨fun q => ⟨hx, q⟩, fun q => q.2⟩
  · rw [mk_hi h (by omega)]; exact ⟨fun q => Bool.noConfusion q, fun q => absurd q.1 hx⟩
theorem mk_congr {n : Nat} {P P' : Nat → Prop} (h : ∀ x, x < n → (P x ↔ P' x)) : mk n P = mk n P' :=
  mk_eq (mk_lt n P) (fun x hx => (mk_bit n P x).trans ⟨fun q => (h x hx).mp q.2, fun q => ⟨hx, (h x hx).mpr q⟩⟩)
theorem mk_zero {n : Nat} {P : Nat → Prop} (h : ∀ x, x < n → ¬ P x) : mk n P = 0 :=
  (mk_eq (m := 0) (Nat.two_pow_pos n) (fun x hx => ⟨fun q => absurd q (by rw [Nat.zero_testBit]; exact Bool.noConfusion), fun q => absurd q (h x hx)⟩)).symm
theorem bt_ext {m n : Nat} (e : ∀ x, m.testBit x = true ↔ n.testBit x = true) : m = n := Nat.eq_of_testBit_eq (fun x => Bool.eq_iff_iff.mpr (e x))
theorem bt_orb (m n x : Nat) : (m ||| n).testBit x = true ↔ m.testBit x = true ∨ n.testBit x = true := by rw [Nat.testBit_or, Bool.or_eq_true]
theorem bt_andb (m n x : Nat) : (m &&& n).testBit x = true ↔ m.testBit x = true ∧ n.testBit x = true := by rw [Nat.testBit_and, Bool.and_eq_true]
theorem bt_one (k x : Nat) : (2 ^ k).testBit x = true ↔ k = x := by rw [Nat.testBit_two_pow, decide_eq_true_eq]
theorem bt_fls (m x : Nat) : m.testBit x = false ↔ ¬ m.testBit x = true := by cases m.testBit x <;> simp
theorem bt_tst (m x : Nat) : m / 2 ^ x &&& 1 = if m.testBit x = true then 1 else 0 := by
  rw [Nat.and_one_is_mod, Nat.testBit_eq_decide_div_mod_eq]
  by_cases h : m / 2 ^ x % 2 = 1
  · simp [h]
  · simp [h]; omega
theorem bv_tst {m x : Nat} (hm : m < 2147483648) (hx : x < 32) : bv_and (bv_ushr m x) 1 = if m.testBit x = true then 1 else 0 := by
  have h := Nat.div_le_self m (2 ^ x)
  rw [bv_ushrN hm hx, show (1 : Int) = ((1 : Nat) : Int) from rfl, bv_andN (by omega) (by decide), bt_tst]
  split <;> rfl
theorem bv_tstS {m x : Nat} (hm : m < 2147483648) (hx : x < 32) : bv_and (bv_shr m x) 1 = if m.testBit x = true then 1 else 0 := by
  have h := Nat.div_le_self m (2 ^ x)
  rw [bv_shrN hm hx, show (1 : Int) = ((1 : Nat) : Int) from rfl, bv_andN (by omega) (by decide), bt_tst]
  split <;> rfl
theorem bw_tst {m x : Nat} (hm : m < 9223372036854775808) (hx : x < 64) : bw_and (bw_ushr m x) 1 = if m.testBit x = true then 1 else 0 := by
  have h := Nat.div_le_self m (2 ^ x)
  rw [bw_ushrN hm hx, show (1 : Int) = ((1 : Nat) : Int) from rfl, bw_andN (by omega) (by decide), bt_tst]
  split <;> rfl
theorem bw_tstS {m x : Nat} (hm : m < 9223372036854775808) (hx : x < 64) : bw_and (bw_shr m x) 1 = if m.testBit x = true then 1 else 0 := by
  have h := Nat.div_le_self m (2 ^ x)
  rw [bw_shrN hm hx, show (1 : Int) = ((1 : Nat) : Int) from rfl, bw_andN (by omega) (by decide), bt_tst]
  split <;> rfl
theorem bv_bit {x : Nat} (hx : x < 31) : bv_shl 1 x = ((2 ^ x : Nat) : Int) := by
  have h : 2 ^ x < 2 ^ 31 := Nat.pow_lt_pow_right (by decide) hx
  have := bv_shlN (m := 1) (k := x) (by omega) (by omega)
  rw [Nat.one_mul] at this
  exact this
theorem bw_bit {x : Nat} (hx : x < 63) : bw_shl 1 x = ((2 ^ x : Nat) : Int) := by
  have h : 2 ^ x < 2 ^ 63 := Nat.pow_lt_pow_right (by decide) hx
  have := bw_shlN (m := 1) (k := x) (by omega) (by omega)
  rw [Nat.one_mul] at this
  exact this
theorem bt_p31 {x n : Nat} (h : x < n) (hn : n ≤ 31) : 2 ^ x < 2147483648 := Nat.lt_of_lt_of_le (Nat.pow_lt_pow_right (by decide) h) (Nat.pow_le_pow_right (n := 2) (by decide) hn)
theorem bt_p63 {x n : Nat} (h : x < n) (hn : n ≤ 63) : 2 ^ x < 9223372036854775808 := Nat.lt_of_lt_of_le (Nat.pow_lt_pow_right (by decide) h) (Nat.pow_le_pow_right (n := 2) (by decide) hn)
theorem bt_m31 {m n : Nat} (h : m < 2 ^ n) (hn : n ≤ 31) : m < 2147483648 := Nat.lt_of_lt_of_le h (Nat.pow_le_pow_right (n := 2) (by decide) hn)
theorem bt_m63 {m n : Nat} (h : m < 2 ^ n) (hn : n ≤ 63) : m < 9223372036854775808 := Nat.lt_of_lt_of_le h (Nat.pow_le_pow_right (n := 2) (by decide) hn)
/-- a row of symbols derives a word -/
def ds (R : Nat → List Nat) (l u : List Nat) : Prop := ∀ P : List Nat → List Nat → Prop, P [] [] → (∀ c l u, 8 ≤ c → c < 14 → P l u → P (c :: l) (c :: u)) →
  (∀ r x q l u v, r < 16 → R r = x :: q → q ≠ [] → x < 8 → P q u → P l v → P (x :: l) (u ++ v)) → P l u
section GDS
variable {R : Nat → List Nat} {l m u v : List Nat}
theorem ds_nil : ds R [] [] := fun _ h0 _ _ => h0
theorem ds_let {c : Nat} (h8 : 8 ≤ c) (h14 : c < 14) (h : ds R l u) : ds R (c :: l) (c :: u) := fun P h0 h1 h2 => h1 c l u h8 h14 (h P h0 h1 h2)
theorem ds_rule {r x : Nat} {q : List Nat} (hr : r < 16) (h : R r = x :: q) (hq : q ≠ []) (hx : x < 8) (h1 : ds R q u) (h2 : ds R l v) : ds R (x :: l) (u ++ v) :=
  fun P g0 g1 g2 => g2 r x q l u v hr h hq hx (h1 P g0 g1 g2) (h2 P g0 g1 g2)
theorem ds_ind {P : List Nat → List Nat → Prop} (h0 : P [] []) (h1 : ∀ c l u, 8 ≤ c → c < 14 → ds R l u → P l u → P (c :: l) (c :: u))
    (h2 : ∀ r x q l u v, r < 16 → R r = x :: q → q ≠ [] → x < 8 → ds R q u → ds R l v → P q u → P l v → P (x :: l) (u ++ v)) (h : ds R l u) : P l u :=
  (h (fun l u => ds R l u ∧ P l u) ⟨ds_nil, h0⟩ (fun c l u a b q => ⟨ds_let a b q.1, h1 c l u a b q.1 q.2⟩)
    (fun r x q l u v a b c e f g => ⟨ds_rule a b c e f.1 g.1, h2 r x q l u v a b c e f.1 g.1 f.2 g.2⟩)).2
theorem ds_nil_inv (h : ds R [] u) : u = [] := by
  have := ds_ind (P := fun l u => l = [] → u = []) (fun _ => rfl) (fun c l u a b _ _ q => by cases q) (fun r x q l u v a b c e f g _ _ z => by cases z) h
  exact this rfl
theorem ds_cons_inv {x : Nat} (h : ds R (x :: l) u) : (8 ≤ x ∧ x < 14 ∧ ∃ v, u = x :: v ∧ ds R l v) ∨ (x < 8 ∧ ∃ r q u1 u2, r < 16 ∧ R r = x :: q ∧ q ≠ [] ∧ u = u1 ++ u2 ∧ ds R q u1 ∧ ds R l u2) := by
  have := ds_ind (P := fun m u => ∀ x l, m = x :: l → (8 ≤ x ∧ x < 14 ∧ ∃ v, u = x :: v ∧ ds R l v) ∨ (x < 8 ∧ ∃ r q u1 u2, r < 16 ∧ R r = x :: q ∧ q ≠ [] ∧ u = u1 ++ u2 ∧ ds R q u1 ∧ ds R l u2))
    (fun x l q => by cases q) (fun c l u a b f _ x m q => by cases q; exact Or.inl ⟨a, b, u, rfl, f⟩)
    (fun r x q l u v a b c e f g _ _ y m z => by cases z; exact Or.inr ⟨e, r, q, u, v, a, b, c, rfl, f, g⟩) h
  exact this x l rfl
theorem ds_app (h : ds R l u) (h' : ds R m v) : ds R (l ++ m) (u ++ v) := by
  refine ds_ind (P := fun l u => ds R (l ++ m) (u ++ v)) h' (fun c l u a b _ q => ds_let a b q) (fun r x q l u w a b c e f _ _ g => ?_) h
  rw [List.append_assoc]
  exact ds_rule a b c e f g
theorem ds_split : ∀ {l m u : List Nat}, ds R (l ++ m) u → ∃ u1 u2, u = u1 ++ u2 ∧ ds R l u1 ∧ ds R m u2
  | [], _, u, h => ⟨[], u, rfl, ds_nil, h⟩
  | x :: l, m, u, h => by
    rcases ds_cons_inv (l := l ++ m) h with ⟨a, b, v, rfl, q⟩ | ⟨a, r, q, v1, v2, b, c, e, rfl, f, g⟩
    · obtain ⟨u1, u2, rfl, g1, g2⟩ := ds_split q
      exact ⟨x :: u1, u2, rfl, ds_let a b g1, g2⟩
    · obtain ⟨u1, u2, rfl, g1, g2⟩ := ds_split g
      exact ⟨v1 ++ u1, u2, (List.append_assoc _ _ _).symm, ds_rule b c e a f g1, g2⟩
theorem ds_len (h : ds R l u) : l.length ≤ u.length := by
  refine ds_ind (P := fun l u => l.length ≤ u.length) (Nat.le_refl _) (fun c l u _ _ _ q => Nat.succ_le_succ q) (fun r x q l u v _ _ c _ _ _ g k => ?_) h
  rw [List.length_append, List.length_cons]
  cases q with
  | nil => exact absurd rfl c
  | cons y q => rw [List.length_cons] at g; omega
theorem ds_lets (h : ds R l u) : ∀ x ∈ u, 8 ≤ x ∧ x < 14 := by
  refine ds_ind (P := fun _ u => ∀ x ∈ u, 8 ≤ x ∧ x < 14) (fun x hx => by cases hx) (fun c l u a b _ q x hx => ?_) (fun r x q l u v _ _ _ _ _ _ g k y hy => ?_) h
  · rcases List.mem_cons.mp hx with rfl | hx
    · exact ⟨a, b⟩
    · exact q x hx
  · rcases List.mem_append.mp hy with hy | hy
    · exact g y hy
    · exact k y hy
theorem ds_mono {R' : Nat → List Nat} (hR : ∀ r, R r ≠ [] → R' r = R r) (h : ds R l u) : ds R' l u :=
  ds_ind (P := fun l u => ds R' l u) ds_nil (fun c l u a b _ q => ds_let a b q) (fun r x q l u v a b c e _ _ g k => ds_rule a ((hR r (by rw [b]; exact List.cons_ne_nil _ _)).trans b) c e g k) h
theorem ds_word (h : ∀ x ∈ u, 8 ≤ x ∧ x < 14) : ds R u u := by
  induction u with
  | nil => exact ds_nil
  | cons x u ih => exact ds_let (h x (List.mem_cons_self ..)).1 (h x (List.mem_cons_self ..)).2 (ih (fun y hy => h y (List.mem_cons_of_mem _ hy)))
end GDS
/-- units lead from one to another, by one step or more -/
def un (R : Nat → List Nat) (x y : Nat) : Prop := ∃ r, r < 16 ∧ R r = [x, y]
def ut (R : Nat → List Nat) (x y : Nat) : Prop := ∀ P : Nat → Nat → Prop, (∀ a b, un R a b → P a b) → (∀ a b c, un R a b → P b c → P a c) → P x y
section GUT
variable {R : Nat → List Nat} {x y z : Nat}
theorem ut_one (h : un R x y) : ut R x y := fun _ h1 _ => h1 _ _ h
theorem ut_cons (h : un R x y) (h2 : ut R y z) : ut R x z := fun P g1 g2 => g2 _ _ _ h (h2 P g1 g2)
theorem ut_ind {P : Nat → Nat → Prop} (h1 : ∀ a b, un R a b → P a b) (h2 : ∀ a b c, un R a b → ut R b c → P b c → P a c) (h : ut R x y) : P x y :=
  (h (fun a b => ut R a b ∧ P a b) (fun a b q => ⟨ut_one q, h1 a b q⟩) (fun a b c q g => ⟨ut_cons q g.1, h2 a b c q g.1 g.2⟩)).2
theorem ut_trans (h : ut R x y) : ut R y z → ut R x z :=
  ut_ind (P := fun a b => ut R b z → ut R a z) (fun _ _ q g => ut_cons q g) (fun _ _ _ q _ k g => ut_cons q (k g)) h
theorem un_lt (hR : ∀ r, rl_ok (R r)) (h : un R x y) : x < 8 ∧ y < 14 := by
  obtain ⟨r, -, e⟩ := h
  rcases hR r with q | ⟨-, -, q1, q2⟩
  · rw [e] at q; cases q
  · rw [e] at q1 q2
    exact ⟨q1, q2 y (by simp)⟩
theorem ut_lt (hR : ∀ r, rl_ok (R r)) (h : ut R x y) : x < 8 ∧ y < 14 :=
  ut_ind (P := fun a b => a < 8 ∧ b < 14) (fun _ _ q => un_lt hR q) (fun _ _ _ q _ k => ⟨(un_lt hR q).1, k.2⟩) h
end GUT
