/-! finite sums; ways along units; least lengths by heights -/
def su (n : Nat) (f : Nat → Nat) : Nat := match n with
  | 0 => 0
  | m + 1 => su m f + f m
theorem su_0 (f : Nat → Nat) : su 0 f = 0 := rfl
theorem su_s (n : Nat) (f : Nat → Nat) : su (n + 1) f = su n f + f n := rfl
theorem su_congr {n : Nat} {f g : Nat → Nat} (h : ∀ x, x < n → f x = g x) : su n f = su n g := by
  induction n with
  | zero => rfl
  | succ n ih => rw [su_s, su_s, ih (fun x hx => h x (by omega)), h n (by omega)]
theorem su_zero {n : Nat} {f : Nat → Nat} (h : ∀ x, x < n → f x = 0) : su n f = 0 := by
  induction n with
  | zero => rfl
  | succ n ih => rw [su_s, ih (fun x hx => h x (by omega)), h n (by omega)]
theorem su_add (n : Nat) (f g : Nat → Nat) : su n (fun x => f x + g x) = su n f + su n g := by
  induction n with
  | zero => rfl
  | succ n ih => rw [su_s, su_s, su_s, ih]; omega
theorem su_mul (n c : Nat) (f : Nat → Nat) : su n (fun x => c * f x) = c * su n f := by
  induction n with
  | zero => rfl
  | succ n ih => rw [su_s, su_s, ih, Nat.mul_add]
theorem su_mulr (n c : Nat) (f : Nat → Nat) : su n (fun x => f x * c) = su n f * c := by
  induction n with
  | zero => exact (Nat.zero_mul _).symm
  | succ n ih => rw [su_s, su_s, ih, Nat.add_mul]
theorem su_comm (n m : Nat) (f : Nat → Nat → Nat) : su n (fun x => su m (f x)) = su m (fun y => su n (fun x => f x y)) := by
  induction n with
  | zero => exact (su_zero (fun _ _ => rfl)).symm
  | succ n ih => rw [su_s, ih, ← su_add]; exact su_congr (fun y _ => rfl)
theorem su_le {n : Nat} {f g : Nat → Nat} (h : ∀ x, x < n → f x ≤ g x) : su n f ≤ su n g := by
  induction n with
  | zero => exact Nat.le_refl _
  | succ n ih => have := ih (fun x hx => h x (by omega)); have := h n (by omega); rw [su_s, su_s]; omega
theorem su_const (n c : Nat) : su n (fun _ => c) = n * c := by
  induction n with
  | zero => exact (Nat.zero_mul _).symm
  | succ n ih => rw [su_s, ih, Nat.add_mul, Nat.one_mul]
theorem su_term {n k : Nat} (f : Nat → Nat) (h : k < n) : f k ≤ su n f := by
  induction n with
  | zero => exact absurd h (Nat.not_lt_zero _)
  | succ n ih =>
    rw [su_s]
    by_cases e : k = n
    · subst e; omega
    · have := ih (by omega); omega
theorem su_pos {n : Nat} {f : Nat → Nat} : 0 < su n f ↔ ∃ k, k < n ∧ 0 < f k := by
  constructor
  · intro h
    refine Classical.byContradiction (fun q => ?_)
    rw [su_zero (fun x hx => Nat.eq_zero_of_not_pos (fun z => q ⟨x, hx, z⟩))] at h
    exact absurd h (Nat.lt_irrefl _)
  · rintro ⟨k, hk, h⟩
    exact Nat.lt_of_lt_of_le h (su_term f hk)
theorem su_one {n k : Nat} (f : Nat → Nat) (hk : k < n) (h : ∀ x, x < n → x ≠ k → f x = 0) : su n f = f k := by
  induction n with
  | zero => exact absurd hk (Nat.not_lt_zero _)
  | succ n ih =>
    rw [su_s]
    by_cases e : k = n
    · subst e; rw [su_zero (fun x hx => h x (by omega) (by omega)), Nat.zero_add]
    · rw [ih (by omega) (fun x hx => h x (by omega)), h n (by omega) (fun q => e q.symm), Nat.add_zero]
/-- one, if it is so, else nought -/
noncomputable def n01 (P : Prop) : Nat := @ite Nat P (Classical.propDecidable P) 1 0
theorem n01_t {P : Prop} (h : P) : n01 P = 1 := by unfold n01; rw [if_pos h]
theorem n01_f {P : Prop} (h : ¬ P) : n01 P = 0 := by unfold n01; rw [if_neg h]
noncomputable def nif (P : Prop) (v : Nat) : Nat := @ite Nat P (Classical.propDecidable P) v 0
theorem nif_t {P : Prop} {v : Nat} (h : P) : nif P v = v := by unfold nif; rw [if_pos h]
theorem nif_f {P : Prop} {v : Nat} (h : ¬ P) : nif P v = 0 := by unfold nif; rw [if_neg h]
theorem nif_le (P : Prop) (v : Nat) : nif P v ≤ v := by
  by_cases h : P
  · rw [nif_t h]; exact Nat.le_refl _
  · rw [nif_f h]; exact Nat.zero_le _
theorem nif_c {P P' : Prop} {v v' : Nat} (h : P ↔ P') (e : P → v = v') : nif P v = nif P' v' := by
  by_cases q : P
  · rw [nif_t q, nif_t (h.mp q), e q]
  · rw [nif_f q, nif_f (fun z => q (h.mpr z))]
/-- in how many ways units lead on from y to z, where what is passed is a set: y is in it -/
noncomputable def wy (s : Nat → Nat → Prop) : Nat → Nat → Nat → Nat → Nat
  | 0, _, _, _ => 0
  | f + 1, S, y, z => n01 (y = z) + su 8 (fun p => nif (s y p ∧ ¬ S.testBit p = true) (wy s f (S ||| 2 ^ p) p z))
theorem wy_s (s : Nat → Nat → Prop) (f S y z : Nat) : wy s (f + 1) S y z = n01 (y = z) + su 8 (fun p => nif (s y p ∧ ¬ S.testBit p = true) (wy s f (S ||| 2 ^ p) p z)) := rfl
theorem wy_bound (s : Nat → Nat → Prop) (z : Nat) : ∀ f S y, wy s f S y z * 7 + 1 ≤ 8 ^ f := by
  intro f
  induction f with
  | zero => intro S y; exact Nat.le_refl _
  | succ f ih =>
    intro S y
    rw [wy_s, Nat.pow_succ]
    have h1 : n01 (y = z) ≤ 1 := by
      by_cases e : y = z
      · rw [n01_t e]; omega
      · rw [n01_f e]; omega
    have h2 : su 8 (fun p => nif (s y p ∧ ¬ S.testBit p = true) (wy s f (S ||| 2 ^ p) p z)) ≤ su 8 (fun _ => (8 ^ f - 1) / 7) := su_le (fun p _ => by
      have := ih (S ||| 2 ^ p) p
      have := nif_le (s y p ∧ ¬ S.testBit p = true) (wy s f (S ||| 2 ^ p) p z)
      omega)
    rw [su_const] at h2
    have h8 : 1 ≤ 8 ^ f := Nat.pow_pos (by decide)
    omega
theorem wy_lt {s : Nat → Nat → Prop} {S y z : Nat} : wy s 8 S y z < 2396746 := by
  have := wy_bound s z 8 S y
  have e : (8 : Nat) ^ 8 = 16777216 := by decide
  omega
/-- more steps than symbols are left are of no use -/
theorem wy_fuel (s : Nat → Nat → Prop) (z : Nat) : ∀ f S y, cn 8 (fun p => ¬ S.testBit p = true) < f → wy s (f + 1) S y z = wy s f S y z := by
  intro f
  induction f with
  | zero => intro S y h; exact absurd h (Nat.not_lt_zero _)
  | succ f ih =>
    intro S y h
    rw [wy_s, wy_s]
    congr 1
    refine su_congr (fun p hp => nif_c Iff.rfl (fun q => ih _ _ ?_))
    have := cn_lt (n := 8) (P := fun x => ¬ (S ||| 2 ^ p).testBit x = true) (P' := fun x => ¬ S.testBit x = true) (fun x _ hx hs => hx ((bt_orb _ _ _).mpr (Or.inl hs))) hp q.2 (fun w => w ((bt_orb _ _ _).mpr (Or.inr ((bt_one _ _).mpr rfl))))
    omega
theorem wy_8 (s : Nat → Nat → Prop) {S y z : Nat} (hy : y < 8) (h : S.testBit y = true) : wy s 8 S y z = n01 (y = z) + su 8 (fun p => nif (s y p ∧ ¬ S.testBit p = true) (wy s 8 (S ||| 2 ^ p) p z)) := by
  rw [← wy_fuel s z 8 S y (by
    have := cn_lt (n := 8) (P := fun x => ¬ S.testBit x = true) (P' := fun _ => True) (fun _ _ _ => trivial) hy trivial (fun w => w h)
    have := cn_le 8 (fun _ => True)
    omega), wy_s]
/-- lengths of what is derived by trees of some height -/
def dh (R : Nat → List Nat) : Nat → Nat → Nat → Prop
  | 0, x, n => 8 ≤ x ∧ x < 14 ∧ n = 1
  | t + 1, x, n => dh R t x n ∨ (∃ e, e ∈ gP R ∧ e.1 = x ∧ ∃ a b, n = a + b ∧ dh R t e.2.1 a ∧ dh R t e.2.2.1 b) ∨ ∃ y, un R x y ∧ dh R t y n
theorem dh_mono {R : Nat → List Nat} {x n : Nat} {t t' : Nat} (h : t ≤ t') (q : dh R t x n) : dh R t' x n := by
  induction t' with
  | zero =>
    have e : t = 0 := by omega
    subst e; exact q
  | succ t' ih =>
    by_cases e : t = t' + 1
    · subst e; exact q
    · exact Or.inl (ih (by omega))
theorem dh_dx {R : Nat → List Nat} (hR : ∀ r, rl_ok (R r)) {t : Nat} : ∀ {x n : Nat}, dh R t x n → ∃ u, u.length = n ∧ dx R x u := by
  induction t with
  | zero => rintro x n ⟨h1, h2, rfl⟩; exact ⟨[x], rfl, dx_let h1 h2⟩
  | succ t ih =>
    rintro x n (h | ⟨e, he, rfl, a, b, rfl, h1, h2⟩ | ⟨y, h1, h2⟩)
    · exact ih h
    · obtain ⟨u, rfl, hu⟩ := ih h1
      obtain ⟨v, rfl, hv⟩ := ih h2
      exact ⟨u ++ v, List.length_append, dx_pr hR he hu hv⟩
    · obtain ⟨u, e, hu⟩ := ih h2
      exact ⟨u, e, dx_un hR h1 hu⟩
noncomputable def ml (R : Nat → List Nat) (x : Nat) : Nat := mn (fun n => ∃ u, u.length = n ∧ dx R x u)
theorem ml_spec {R : Nat → List Nat} {x : Nat} {u : List Nat} (h : dx R x u) : (∃ u, u.length = ml R x ∧ dx R x u) ∧ ∀ v, dx R x v → ml R x ≤ v.length := by
  have := mn_spec (P := fun n => ∃ u, u.length = n ∧ dx R x u) ⟨u, rfl, h⟩
  exact ⟨this.1, fun v hv => this.2 _ ⟨v, rfl, hv⟩⟩
theorem dh_62 {R : Nat → List Nat} (hR : ∀ r, rl_ok (R r)) : ∀ x u, dx R x u → dh R 62 x (ml R x) := by
  have hsat := cn_sat (n := 62) (F := fun t x => (∃ u, dx R x u) ∧ dh R t x (ml R x)) (C := fun t => ∀ x u, dx R x u → dh R t x (ml R x)) (fun t x _ h => ⟨h.1, Or.inl h.2⟩) (fun t => by
    by_cases hC : ∀ x u, dx R x u → dh R t x (ml R x)
    · exact Or.inl hC
    · refine Or.inr (Classical.byContradiction (fun hno => hC (fun x u hx => ?_)))
      have hlt : ∀ x u, dx R x u → x < 62 := fun x u h => by have := dx_lt hR h; have := gH_le hR; omega
      -- what is there at height t + 1 is there at height t
      have hst : ∀ x u, dx R x u → dh R (t + 1) x (ml R x) → dh R t x (ml R x) := fun x u h1 h2 => Classical.byContradiction (fun w => hno ⟨x, hlt x u h1, ⟨⟨u, h1⟩, h2⟩, fun z => w z.2⟩)
      obtain ⟨⟨u0, e0, h0⟩, -⟩ := ml_spec hx
      have key : ∀ x u, dx R x u → u.length = ml R x → dh R t x (ml R x) := by
        intro x u h
        refine dx_least hR (C := fun x u => u.length = ml R x → dh R t x (ml R x)) (fun c h8 h14 e => ?_) (fun x y u h1 h2 ih e => ?_) (fun e he u v h1 h2 i1 i2 e1 => ?_) h
        · rw [← e]; exact dh_mono (Nat.zero_le t) ⟨h8, h14, rfl⟩
        · have hx := dx_un hR h1 h2
          have a1 := (ml_spec h2).2 u h2
          obtain ⟨⟨u2, a2, a3⟩, -⟩ := ml_spec h2
          have a4 := (ml_spec hx).2 u2 (dx_un hR h1 a3)
          have a5 : ml R x = ml R y := by omega
          refine hst x u hx (Or.inr (Or.inr ⟨y, h1, ?_⟩))
          rw [a5]
          exact ih (by omega)
        · have hx := dx_pr hR he h1 h2
          rw [List.length_append] at e1
          have a1 := (ml_spec h1).2 u h1
          have a2 := (ml_spec h2).2 v h2
          obtain ⟨⟨u3, a3, a4⟩, -⟩ := ml_spec h1
          obtain ⟨⟨v3, a5, a6⟩, -⟩ := ml_spec h2
          have a7 := (ml_spec hx).2 _ (dx_pr hR he a4 a6)
          rw [List.length_append] at a7
          exact hst _ _ hx (Or.inr (Or.inl ⟨e, he, rfl, _, _, by omega, i1 (by omega), i2 (by omega)⟩))
      exact key x u0 h0 e0)
  obtain ⟨t, ht, hC⟩ := hsat
  exact fun x u h => dh_mono ht (hC x u h)
/-- least lengths as they are known: a function into what may be -/
def ox : Option Nat → Int
  | none => -1
  | some n => (n : Int)
def vle (v v' : Nat → Option Nat) : Prop := ∀ x n, v x = some n → ∃ m, m ≤ n ∧ v' x = some m
theorem vle_rf {v : Nat → Option Nat} : vle v v := fun _ n h => ⟨n, Nat.le_refl _, h⟩
theorem vle_tr {v v' v'' : Nat → Option Nat} (h1 : vle v v') (h2 : vle v' v'') : vle v v'' := fun x n h => by
  obtain ⟨m, a, b⟩ := h1 x n h
  obtain ⟨k, c, e⟩ := h2 x m b
  exact ⟨k, by omega, e⟩
noncomputable def vc (v : Nat → Option Nat) : Nat := cn 8 (fun x => v x ≠ none)
def vok (R : Nat → List Nat) (v : Nat → Option Nat) : Prop := ∀ x n, v x = some n → (∃ u, u.length = n ∧ dx R x u) ∧ n ≤ (sm R x).length * 5 ^ vc v
def vup (v : Nat → Option Nat) (x n : Nat) : Nat → Option Nat := fun y => if y = x then some n else v y
theorem vup_le {v : Nat → Option Nat} {x n : Nat} (h : ∀ m, v x = some m → n ≤ m) : vle v (vup v x n) := fun y m hy => by
  unfold vup
  by_cases e : y = x
  · subst e; exact ⟨n, h m hy, if_pos rfl⟩
  · exact ⟨m, Nat.le_refl _, by rw [if_neg e]; exact hy⟩
theorem vc_mono {v v' : Nat → Option Nat} (h : vle v v') : vc v ≤ vc v' := cn_mono (fun x _ hx hn => hx (by
  cases e : v x with
  | none => rfl
  | some n => obtain ⟨m, _, q⟩ := h x n e; rw [hn] at q; cases q))
theorem vc_le (v : Nat → Option Nat) : vc v ≤ 8 := cn_le 8 _
theorem sm_len {R : Nat → List Nat} (hR : ∀ r, rl_ok (R r)) (x : Nat) : (sm R x).length ≤ 5 := by
  unfold sm
  split
  · show 1 ≤ 5; decide
  · split
    · next e _ =>
      have := (hR e.1).len
      rw [List.length_drop]
      omega
    · show 0 ≤ 5; decide
theorem sm_14 {R : Nat → List Nat} {x : Nat} (h : x < 14) : (sm R x).length = 1 := by rw [sm_lo h]; rfl
theorem vok_lt {R : Nat → List Nat} (hR : ∀ r, rl_ok (R r)) {v : Nat → Option Nat} (h : vok R v) {x n : Nat} (e : v x = some n) : n ≤ 1953125 := by
  have h1 := (h x n e).2
  have h2 := sm_len hR x
  have h3 : 5 ^ vc v ≤ 5 ^ 8 := Nat.pow_le_pow_right (by decide) (vc_le v)
  have h4 : (sm R x).length * 5 ^ vc v ≤ 5 * 5 ^ 8 := Nat.mul_le_mul h2 h3
  have e5 : 5 * 5 ^ 8 = 1953125 := by decide
  omega
theorem vok_up {R : Nat → List Nat} (hR : ∀ r, rl_ok (R r)) {v : Nat → Option Nat} (h : vok R v) {x n : Nat} {u : List Nat} (hu : u.length = n) (hx : dx R x u) (hle : ∀ m, v x = some m → n ≤ m) (hb : n ≤ (if x < 8 then 5 else (sm R x).length) * 5 ^ vc v) : vok R (vup v x n) := by
  have hl := vup_le hle
  have hm := vc_mono hl
  have hp : 5 ^ vc v ≤ 5 ^ vc (vup v x n) := Nat.pow_le_pow_right (by decide) hm
  intro y m e
  unfold vup at e
  by_cases q : y = x
  · subst q
    rw [if_pos rfl] at e
    cases e
    refine ⟨⟨u, hu, hx⟩, ?_⟩
    cases hv : v y with
    | some k =>
      have h1 := hle k hv
      have h2 := (h y k hv).2
      exact Nat.le_trans (Nat.le_trans h1 h2) (Nat.mul_le_mul_left _ hp)
    | none =>
      by_cases h8 : y < 8
      · rw [if_pos h8] at hb
        rw [sm_14 (by omega), Nat.one_mul]
        have hlt : vc v < vc (vup v y n) := cn_lt (n := 8) (fun z _ hz hn => hz (by
          unfold vup at hn
          by_cases w : z = y
          · subst w; rw [if_pos rfl] at hn; cases hn
          · rw [if_neg w] at hn; exact hn)) h8 (by unfold vup; rw [if_pos rfl]; exact fun w => by cases w) (fun w => w hv)
        have h5 : 5 ^ (vc v + 1) ≤ 5 ^ vc (vup v y n) := Nat.pow_le_pow_right (by decide) hlt
        rw [Nat.pow_succ] at h5
        omega
      · rw [if_neg h8] at hb
        exact Nat.le_trans hb (Nat.mul_le_mul_left _ hp)
  · rw [if_neg q] at e
    exact ⟨(h y m e).1, Nat.le_trans (h y m e).2 (Nat.mul_le_mul_left _ hp)⟩
/-- a pair's sum keeps the bound -/
theorem vok_pair {R : Nat → List Nat} (hR : ∀ r, rl_ok (R r)) {v : Nat → Option Nat} (h : vok R v) {e : tP} (he : e ∈ gP R) {a b : Nat} (ha : v e.2.1 = some a) (hb : v e.2.2.1 = some b) : a + b ≤ (if e.1 < 8 then 5 else (sm R e.1).length) * 5 ^ vc v := by
  have h1 := (h _ _ ha).2
  have h2 := (h _ _ hb).2
  obtain ⟨r, k, hr, hk, rfl⟩ := gP_mem.mp he
  have e1 := pr_sm_a hR hk
  have e2 := pr_sm_b hR hr hk
  have hlen := (hR r).len
  rw [show (pr_e (gh R r).length r (R r) k).2.1 = (R r).getD (k + 1) 0 from rfl, e1, List.length_singleton] at h1
  rw [show (pr_e (gh R r).length r (R r) k).2.2.1 = pr_b (gh R r).length k (R r) from rfl, e2, List.length_drop] at h2
  have h3 : a + b ≤ (1 + ((R r).length - (k + 2))) * 5 ^ vc v := by rw [Nat.add_mul]; omega
  refine Nat.le_trans h3 (Nat.mul_le_mul_right _ ?_)
  show _ ≤ if pr_m (gh R r).length k (R r) < 8 then 5 else (sm R (pr_m (gh R r).length k (R r))).length
  by_cases h0 : k = 0
  · split
    · omega
    · next q =>
      unfold pr_m at q
      rw [if_pos h0] at q
      exact absurd (rl_cons (hR r) (by omega)).2 q
  · rw [pr_sm_m hR hr hk (by omega), List.length_drop]
    split
    · omega
    · omega
/-- closed values are the least ones -/
theorem vok_closed {R : Nat → List Nat} (hR : ∀ r, rl_ok (R r)) {v : Nat → Option Nat} (h : vok R v) (hl : ∀ x, 8 ≤ x → x < 14 → v x = some 1)
    (hp : ∀ e, e ∈ gP R → ∀ a b, v e.2.1 = some a → v e.2.2.1 = some b → ∃ m, m ≤ a + b ∧ v e.1 = some m) (hu : ∀ x y a, un R x y → v y = some a → ∃ m, m ≤ a ∧ v x = some m) {x : Nat} {u : List Nat} (hx : dx R x u) : ∃ m, m ≤ u.length ∧ v x = some m := by
  refine dx_least hR (C := fun x u => ∃ m, m ≤ u.length ∧ v x = some m) (fun c a b => ⟨1, Nat.le_refl _, hl c a b⟩) (fun x y u h1 _ ⟨m, q1, q2⟩ => ?_) (fun e he u w _ _ ⟨m, q1, q2⟩ ⟨m', q3, q4⟩ => ?_) hx
  · obtain ⟨k, a, b⟩ := hu x y m h1 q2
    exact ⟨k, by omega, b⟩
  · obtain ⟨k, a, b⟩ := hp e he m m' q2 q4
    exact ⟨k, by rw [List.length_append]; omega, b⟩
noncomputable def ll (R : Nat → List Nat) (x : Nat) : Int := li (fun n => ∃ u, u.length = n ∧ dx R x u)
theorem ll_of {R : Nat → List Nat} {v : Nat → Option Nat} (h : vok R v) (hc : ∀ x u, dx R x u → ∃ m, m ≤ u.length ∧ v x = some m) (x : Nat) : ox (v x) = ll R x := by
  cases e : v x with
  | none => exact (li_f (fun n ⟨u, _, hu⟩ => by obtain ⟨m, _, q⟩ := hc x u hu; rw [e] at q; cases q)).symm
  | some n => exact (li_t (h x n e).1 (fun m ⟨u, h1, hu⟩ => by
      obtain ⟨k, h2, q⟩ := hc x u hu
      rw [e] at q
      cases q
      omega)).symm
