/-! the reference's nearest words: costs -/
def tq (s : Nat) (P : Nat → Prop) : Prop := (s < 268435456 → P s) ∧ ∀ m, P m → s ≤ m
theorem tq_congr {s : Nat} {P P' : Nat → Prop} (h : ∀ n, P n ↔ P' n) (q : tq s P) : tq s P' := ⟨fun a => (h _).mp (q.1 a), fun m hm => q.2 m ((h _).mpr hm)⟩
theorem tq_low {v s : Nat} {P P' S : Nat → Prop} (h1 : tq v P) (h2 : tq s P') (hS : ∀ n, S n ↔ P n ∨ P' n) : tq (if s < v then s else v) S := by
  by_cases q : s < v
  · rw [if_pos q]
    exact ⟨fun a => (hS _).mpr (Or.inr (h2.1 a)), fun m hm => ((hS m).mp hm).elim (fun z => by have := h1.2 m z; omega) (h2.2 m)⟩
  · rw [if_neg q]
    exact ⟨fun a => (hS _).mpr (Or.inl (h1.1 a)), fun m hm => ((hS m).mp hm).elim (h1.2 m) (fun z => by have := h2.2 m z; omega)⟩
theorem tq_eq {a b : Nat} {P : Nat → Prop} (ha : a ≤ 268435456) (hb : b ≤ 268435456) (h1 : tq a P) (h2 : tq b P) : a = b := by
  by_cases q : a < 268435456
  · by_cases q2 : b < 268435456
    · have := h1.2 b (h2.1 q2); have := h2.2 a (h1.1 q); omega
    · have := h2.2 a (h1.1 q); omega
  · by_cases q2 : b < 268435456
    · have := h1.2 b (h2.1 q2); omega
    · omega
/-- a word obeys what the letters must be -/
def ob (m : Nat → Int) : Nat → List Nat → Prop
  | _, [] => True
  | i, c :: l => (m i = -1 ∨ m i = (c : Int)) ∧ ob m (i + 1) l
theorem ob_app (m : Nat → Int) : ∀ (a b : List Nat) (i : Nat), ob m i (a ++ b) ↔ ob m i a ∧ ob m (i + a.length) b
  | [], b, i => ⟨fun h => ⟨trivial, h⟩, fun h => h.2⟩
  | c :: a, b, i => by
    show _ ∧ ob m (i + 1) (a ++ b) ↔ (_ ∧ ob m (i + 1) a) ∧ ob m (i + (a.length + 1)) b
    rw [ob_app m a b (i + 1), show i + 1 + a.length = i + (a.length + 1) by omega, and_assoc]
def cc (R : Nat → List Nat) (w : List Nat) (m : Nat → Int) (x i j v : Nat) : Prop := ∃ u, u.length = j - i ∧ dx R x u ∧ ob m i u ∧ v = mm w i u
def cpv (R : Nat → List Nat) (w : List Nat) (m : Nat → Int) (i j : Nat) (e : tP) (k v : Nat) : Prop := ∃ v1 v2, cc R w m e.2.1 i k v1 ∧ cc R w m e.2.2.1 k j v2 ∧ v = v1 + v2
def cbl (w : List Nat) (m : Nat → Int) (i j x v : Nat) : Prop := 8 ≤ x ∧ x < 14 ∧ j = i + 1 ∧ (m i = -1 ∨ m i = (x : Int)) ∧ v = (if w[i]? = some x then 0 else 1)
def cbs (R : Nat → List Nat) (w : List Nat) (m : Nat → Int) (i j x v : Nat) : Prop := cbl w m i j x v ∨ ∃ e, e ∈ gP R ∧ e.1 = x ∧ ∃ k, i < k ∧ k < j ∧ cpv R w m i j e k v
def pt (R : Nat → List Nat) (w : List Nat) (m : Nat → Int) (i j k q x v : Nat) : Prop := cbl w m i j x v ∨ (∃ e, e ∈ gP R ∧ e.1 = x ∧ ∃ z, i < z ∧ z < k ∧ cpv R w m i j e z v) ∨ ∃ t, ∃ ht : t < (gP R).length, t < q ∧ ((gP R)[t]'ht).1 = x ∧ cpv R w m i j ((gP R)[t]'ht) k v
section GMN
variable {R : Nat → List Nat} {w : List Nat} {m : Nat → Int}
theorem cc_le {x i j v : Nat} (h : cc R w m x i j v) : v ≤ j - i := by obtain ⟨u, h1, _, _, rfl⟩ := h; have := mm_le w u i; omega
theorem cbs_cc {x i j v : Nat} (hij : i < j) : cbs R w m i j x v ↔ ∃ u, u.length = j - i ∧ dxB R x u ∧ ob m i u ∧ v = mm w i u := by
  constructor
  · rintro (⟨h1, h2, rfl, h3, rfl⟩ | ⟨e, he, rfl, k, k1, k2, v1, v2, ⟨a, a1, a2, a3, rfl⟩, ⟨b, b1, b2, b3, rfl⟩, rfl⟩)
    · exact ⟨[x], by show 1 = _; omega, Or.inl ⟨h1, h2, rfl⟩, ⟨h3, trivial⟩, rfl⟩
    · have e1 : i + a.length = k := by omega
      exact ⟨a ++ b, by rw [List.length_append]; omega, Or.inr ⟨e, he, rfl, a, b, rfl, a2, b2⟩, (ob_app _ _ _ _).mpr ⟨a3, by rw [e1]; exact b3⟩, by rw [mm_app, e1]⟩
  · rintro ⟨u, h1, ⟨a, b, rfl⟩ | ⟨e, he, rfl, a, b, rfl, a2, b2⟩, ho, rfl⟩
    · exact Or.inl ⟨a, b, by have : (1 : Nat) = j - i := h1; omega, ho.1, rfl⟩
    · rw [List.length_append] at h1
      have p1 := List.length_pos_iff.mpr a2.1
      have p2 := List.length_pos_iff.mpr b2.1
      have ho := (ob_app _ _ _ _).mp ho
      exact Or.inr ⟨e, he, rfl, i + a.length, by omega, by omega, _, _, ⟨a, by omega, a2, ho.1, rfl⟩, ⟨b, by omega, b2, ho.2, rfl⟩, mm_app _ _ _ _⟩
theorem cc_ufn (hR : ∀ r, rl_ok (R r)) {x i j v : Nat} (hij : i < j) : cc R w m x i j v ↔ ufn R (cbs R w m i j) x v := by
  constructor
  · rintro ⟨u, h1, h2, h3, h4⟩
    rcases (dx_step hR).mp h2 with q | ⟨y, q1, q2⟩
    · exact Or.inl ((cbs_cc hij).mpr ⟨u, h1, q, h3, h4⟩)
    · exact Or.inr ⟨y, q1, (cbs_cc hij).mpr ⟨u, h1, q2, h3, h4⟩⟩
  · rintro (h | ⟨y, q1, q2⟩)
    · obtain ⟨u, h1, h2, h3, h4⟩ := (cbs_cc hij).mp h
      exact ⟨u, h1, (dx_step hR).mpr (Or.inl h2), h3, h4⟩
    · obtain ⟨u, h1, h2, h3, h4⟩ := (cbs_cc hij).mp q2
      exact ⟨u, h1, (dx_step hR).mpr (Or.inr ⟨y, q1, h2⟩), h3, h4⟩
theorem cc_up (hR : ∀ r, rl_ok (R r)) {x y i j v : Nat} (hij : i < j) (hu : un R x y) (h : cc R w m y i j v) : cc R w m x i j v := by
  rcases (cc_ufn hR hij).mp h with q | ⟨z, q1, q2⟩
  · exact (cc_ufn hR hij).mpr (Or.inr ⟨y, ut_one hu, q⟩)
  · exact (cc_ufn hR hij).mpr (Or.inr ⟨z, ut_cons hu q1, q2⟩)
theorem cc_sum {a b i k j : Nat} {e : tP} (h1 : tq a (cc R w m e.2.1 i k)) (h2 : tq b (cc R w m e.2.2.1 k j)) : tq (a + b) (cpv R w m i j e k) :=
  ⟨fun q => ⟨a, b, h1.1 (by omega), h2.1 (by omega), rfl⟩, fun n ⟨v1, v2, c1, c2, e⟩ => by have := h1.2 v1 c1; have := h2.2 v2 c2; omega⟩
theorem pt_s {i j k q x v : Nat} (hq : q < (gP R).length) : pt R w m i j k (q + 1) x v ↔ pt R w m i j k q x v ∨ (((gP R)[q]'hq).1 = x ∧ cpv R w m i j ((gP R)[q]'hq) k v) := by
  constructor
  · rintro (h | h | ⟨t, ht, a, b, c⟩)
    · exact Or.inl (Or.inl h)
    · exact Or.inl (Or.inr (Or.inl h))
    · by_cases z : t = q
      · subst z; exact Or.inr ⟨b, c⟩
      · exact Or.inl (Or.inr (Or.inr ⟨t, ht, by omega, b, c⟩))
  · rintro ((h | h | ⟨t, ht, a, b, c⟩) | ⟨b, c⟩)
    · exact Or.inl h
    · exact Or.inr (Or.inl h)
    · exact Or.inr (Or.inr ⟨t, ht, by omega, b, c⟩)
    · exact Or.inr (Or.inr ⟨q, hq, by omega, b, c⟩)
theorem pt_end {i j k x v : Nat} (hk : i < k) : pt R w m i j k (gP R).length x v ↔ pt R w m i j (k + 1) 0 x v := by
  constructor
  · rintro (h | ⟨e, a, b, z, z1, z2, z3⟩ | ⟨t, ht, a, b, c⟩)
    · exact Or.inl h
    · exact Or.inr (Or.inl ⟨e, a, b, z, z1, by omega, z3⟩)
    · exact Or.inr (Or.inl ⟨_, List.getElem_mem ht, b, k, hk, by omega, c⟩)
  · rintro (h | ⟨e, a, b, z, z1, z2, z3⟩ | ⟨t, ht, a, b, c⟩)
    · exact Or.inl h
    · by_cases q : z = k
      · subst q
        obtain ⟨t, ht, rfl⟩ := List.getElem_of_mem a
        exact Or.inr (Or.inr ⟨t, ht, ht, b, z3⟩)
      · exact Or.inr (Or.inl ⟨e, a, b, z, z1, by omega, z3⟩)
    · exact absurd a (Nat.not_lt_zero _)
theorem pt_0 {i j x v : Nat} : pt R w m i j (i + 1) 0 x v ↔ cbl w m i j x v := by
  constructor
  · rintro (h | ⟨e, a, b, z, z1, z2, z3⟩ | ⟨t, ht, a, b, c⟩)
    · exact h
    · omega
    · exact absurd a (Nat.not_lt_zero _)
  · exact Or.inl
theorem pt_cbs {i j x v : Nat} : pt R w m i j j 0 x v ↔ cbs R w m i j x v := by
  constructor
  · rintro (h | ⟨e, a, b, z, z1, z2, z3⟩ | ⟨t, ht, a, b, c⟩)
    · exact Or.inl h
    · exact Or.inr ⟨e, a, b, z, z1, z2, z3⟩
    · exact absurd a (Nat.not_lt_zero _)
  · rintro (h | ⟨e, a, b, z, z1, z2, z3⟩)
    · exact Or.inl h
    · exact Or.inr (Or.inl ⟨e, a, b, z, z1, z2, z3⟩)
/-- passes over units -/
def uk (R : Nat → List Nat) (N : Nat) (B : Nat → Nat → Prop) (v : Nat → Nat) : Prop := ∀ x, x < N → v x ≤ 268435456 ∧ (v x < 268435456 → ufn R B x (v x)) ∧ ∀ n, B x n → v x ≤ n
def urt (R : Nat → List Nat) (B : Nat → Nat → Prop) (v : Nat → Nat) (x : Nat) : Prop := ∀ n, ufn R B x n → v x ≤ n
theorem ufn_up {B : Nat → Nat → Prop} {x y n : Nat} (hu : un R x y) (h : ufn R B y n) : ufn R B x n := by
  rcases h with q | ⟨z, q1, q2⟩
  · exact Or.inr ⟨y, ut_one hu, q⟩
  · exact Or.inr ⟨z, ut_cons hu q1, q2⟩
theorem urt_step (hR : ∀ r, rl_ok (R r)) {N : Nat} (hN : 14 ≤ N) {B : Nat → Nat → Prop} {v v' : Nat → Nat} (h : uk R N B v) (hu : ∀ x y, un R x y → v' x ≤ v y) {x y n : Nat} (hxy : ut R x y) :
    v y ≤ n → (∀ n', ufn R B x n' → n ≤ n') → n < v x → ∃ z, z < 8 ∧ ¬ urt R B v z ∧ urt R B v' z := by
  have key : ∀ x y, un R x y → v y ≤ n → ufn R B x n → (∀ n', ufn R B x n' → n ≤ n') → n < v x → ∃ z, z < 8 ∧ ¬ urt R B v z ∧ urt R B v' z := fun x y e a f b c => ⟨x, (un_lt hR e).1, fun q => by have := q n f; omega, fun n' hn' => by have := hu x y e; have := b n' hn'; omega⟩
  have key2 : ∀ x y, un R x y → v y ≤ n → (∀ n', ufn R B x n' → n ≤ n') → n < v x → ∃ z, z < 8 ∧ ¬ urt R B v z ∧ urt R B v' z := fun x y e a b c => by
    have hy := (un_lt hR e).2
    have hf := (h y (by omega)).2.1
    by_cases q : v y < 268435456
    · have := b _ (ufn_up e (hf q))
      have e2 : v y = n := by omega
      exact key x y e a (by rw [← e2]; exact ufn_up e (hf q)) b c
    · have := (h x (by have := (un_lt hR e).1; omega)).1
      omega
  revert hxy
  intro hxy
  exact ut_ind (P := fun x y => v y ≤ n → (∀ n', ufn R B x n' → n ≤ n') → n < v x → ∃ z, z < 8 ∧ ¬ urt R B v z ∧ urt R B v' z) key2 (fun a b c e _ ih h1 h2 h3 => by
    by_cases q : v b ≤ n
    · exact key2 a b e q h2 h3
    · exact ih h1 (fun n' hn' => h2 n' (ufn_up e hn')) (by omega)) hxy
theorem urt_pass (hR : ∀ r, rl_ok (R r)) {N p : Nat} (hN : 14 ≤ N) {B : Nat → Nat → Prop} {v v' : Nat → Nat} (h : uk R N B v) (hle : ∀ x, v' x ≤ v x) (hu : ∀ x y, un R x y → v' x ≤ v y)
    (hp : p ≤ cn 8 (urt R B v) ∨ ∀ x, x < 8 → urt R B v x) : p + 1 ≤ cn 8 (urt R B v') ∨ ∀ x, x < 8 → urt R B v' x := by
  have mono : ∀ x, urt R B v x → urt R B v' x := fun x q n hn => by have := q n hn; have := hle x; omega
  by_cases all : ∀ x, x < 8 → urt R B v x
  · exact Or.inr (fun x hx => mono x (all x hx))
  · have hp := hp.resolve_right all
    have hex : ∃ x, x < 8 ∧ ¬ urt R B v x := Classical.byContradiction (fun q => all (fun x hx => Classical.byContradiction (fun z => q ⟨x, hx, z⟩)))
    obtain ⟨x, hx, hn⟩ := hex
    rcases li_cases (ufn R B x) with ⟨_, q⟩ | ⟨n, _, n1, n2⟩
    · exact absurd (fun n hn => absurd hn (q n)) hn
    · have hlt : n < v x := Nat.lt_of_not_le (fun q => hn (fun n' hn' => Nat.le_trans q (n2 n' hn')))
      rcases n1 with q | ⟨y, q1, q2⟩
      · have := (h x (by omega)).2.2 n q; omega
      · have hy := (ut_lt hR q1).2
        obtain ⟨z, z1, z2, z3⟩ := urt_step hR hN h hu q1 ((h y (by omega)).2.2 n q2) n2 hlt
        have := cn_lt (n := 8) (P := urt R B v) (P' := urt R B v') (fun x _ => mono x) z1 z3 z2
        exact Or.inl (by omega)
theorem urt_end (hR : ∀ r, rl_ok (R r)) {N : Nat} {B : Nat → Nat → Prop} {v : Nat → Nat} (h : uk R N B v) (hp : 8 ≤ cn 8 (urt R B v) ∨ ∀ x, x < 8 → urt R B v x) : ∀ x, x < N → tq (v x) (ufn R B x) := fun x hx => by
  refine ⟨(h x hx).2.1, ?_⟩
  by_cases q : x < 8
  · refine hp.elim (fun z => Classical.byContradiction (fun hn => ?_)) (fun z => z x q)
    have := cn_lt (n := 8) (P := urt R B v) (P' := fun _ => True) (fun _ _ _ => trivial) q trivial hn
    have := cn_le 8 (fun _ => True)
    omega
  · intro n hn
    rcases hn with z | ⟨y, y1, _⟩
    · exact (h x hx).2.2 n z
    · exact absurd (ut_lt hR y1).1 q
end GMN
