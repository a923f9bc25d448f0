/-! pairs and helpers of the rules -/
def hp_l (r : Nat) (l : List Nat) : List (Nat × Nat) := (List.range (l.length - 3)).map (fun k => (r, k + 1))
def gh (R : Nat → List Nat) : Nat → List (Nat × Nat)
  | 0 => []
  | n + 1 => gh R n ++ hp_l n (R n)
def pr_m (h k : Nat) (l : List Nat) : Nat := if k = 0 then l.getD 0 0 else 14 + h + (k - 1)
def pr_b (h k : Nat) (l : List Nat) : Nat := if k + 3 = l.length then l.getD (k + 2) 0 else 14 + h + k
def pr_e (h r : Nat) (l : List Nat) (k : Nat) : Nat × Nat × Nat × Nat := (pr_m h k l, l.getD (k + 1) 0, pr_b h k l, r)
def pr_l (h r : Nat) (l : List Nat) : List (Nat × Nat × Nat × Nat) := (List.range (l.length - 2)).map (pr_e h r l)
def gp (R : Nat → List Nat) : Nat → List (Nat × Nat × Nat × Nat)
  | 0 => []
  | n + 1 => gp R n ++ pr_l (gh R n).length n (R n)
noncomputable def gP (R : Nat → List Nat) : List (Nat × Nat × Nat × Nat) := Classical.choose (Exists.intro (gp R 16) rfl : ∃ l, l = gp R 16)
theorem gP_eq (R : Nat → List Nat) : gP R = gp R 16 := Classical.choose_spec (Exists.intro (gp R 16) rfl : ∃ l, l = gp R 16)
noncomputable def gH (R : Nat → List Nat) : List (Nat × Nat) := Classical.choose (Exists.intro (gh R 16) rfl : ∃ l, l = gh R 16)
theorem gH_eq (R : Nat → List Nat) : gH R = gh R 16 := Classical.choose_spec (Exists.intro (gh R 16) rfl : ∃ l, l = gh R 16)
noncomputable def sm (R : Nat → List Nat) (x : Nat) : List Nat := if x < 14 then [x] else match (gH R)[x - 14]? with
  | some e => (R e.1).drop (e.2 + 1)
  | none => []
def dx (R : Nat → List Nat) (x : Nat) (u : List Nat) : Prop := u ≠ [] ∧ ds R (sm R x) u
section GPR
variable {R : Nat → List Nat}
theorem gh_len (n : Nat) : (gh R (n + 1)).length = (gh R n).length + ((R n).length - 3) := by
  show (gh R n ++ hp_l n (R n)).length = _
  rw [List.length_append]
  unfold hp_l
  rw [List.length_map, List.length_range]
theorem gp_len (n : Nat) : (gp R (n + 1)).length = (gp R n).length + ((R n).length - 2) := by
  show (gp R n ++ pr_l (gh R n).length n (R n)).length = _
  rw [List.length_append]
  unfold pr_l
  rw [List.length_map, List.length_range]
theorem gh_le (hR : ∀ r, rl_ok (R r)) (n : Nat) : (gh R n).length ≤ 3 * n := by
  induction n with
  | zero => exact Nat.le_refl _
  | succ n ih =>
    have := (hR n).len
    rw [gh_len]
    omega
theorem gp_le (hR : ∀ r, rl_ok (R r)) (n : Nat) : (gp R n).length ≤ 4 * n := by
  induction n with
  | zero => exact Nat.le_refl _
  | succ n ih =>
    have := (hR n).len
    rw [gp_len]
    omega
theorem gh_mono {n m : Nat} (h : n ≤ m) : ∃ t, gh R m = gh R n ++ t := by
  induction m with
  | zero =>
    have : n = 0 := by omega
    subst this
    exact ⟨[], (List.append_nil _).symm⟩
  | succ m ih =>
    by_cases e : n = m + 1
    · subst e; exact ⟨[], (List.append_nil _).symm⟩
    · obtain ⟨t, ht⟩ := ih (by omega)
      exact ⟨t ++ hp_l m (R m), by show gh R m ++ _ = _; rw [ht, List.append_assoc]⟩
theorem gp_mono {n m : Nat} (h : n ≤ m) : ∃ t, gp R m = gp R n ++ t := by
  induction m with
  | zero =>
    have : n = 0 := by omega
    subst this
    exact ⟨[], (List.append_nil _).symm⟩
  | succ m ih =>
    by_cases e : n = m + 1
    · subst e; exact ⟨[], (List.append_nil _).symm⟩
    · obtain ⟨t, ht⟩ := ih (by omega)
      exact ⟨t ++ pr_l (gh R m).length m (R m), by show gp R m ++ _ = _; rw [ht, List.append_assoc]⟩
theorem gh_mono_len {n m : Nat} (h : n ≤ m) : (gh R n).length ≤ (gh R m).length := by
  obtain ⟨t, ht⟩ := gh_mono (R := R) h
  rw [ht, List.length_append]
  omega
theorem gh_get {r k : Nat} (hr : r < 16) (hk : k + 3 < (R r).length) : (gH R)[(gh R r).length + k]? = some (r, k + 1) := by
  rw [gH_eq]
  obtain ⟨t, ht⟩ := gh_mono (R := R) (n := r + 1) (m := 16) (by omega)
  have e : gh R (r + 1) = gh R r ++ hp_l r (R r) := rfl
  rw [ht, e, List.append_assoc, List.getElem?_append_right (by omega), Nat.add_sub_cancel_left]
  have hl : (hp_l r (R r)).length = (R r).length - 3 := by unfold hp_l; rw [List.length_map, List.length_range]
  rw [List.getElem?_append_left (by omega)]
  unfold hp_l
  rw [List.getElem?_map, List.getElem?_range (by omega)]
  rfl
theorem gh_mem {e : Nat × Nat} {n : Nat} (h : e ∈ gh R n) : ∃ r k, r < n ∧ k + 3 < (R r).length ∧ e = (r, k + 1) := by
  induction n with
  | zero => cases h
  | succ n ih =>
    rcases List.mem_append.mp (show e ∈ gh R n ++ hp_l n (R n) from h) with q | q
    · obtain ⟨r, k, a, b, c⟩ := ih q
      exact ⟨r, k, by omega, b, c⟩
    · unfold hp_l at q
      obtain ⟨k, hk, rfl⟩ := List.mem_map.mp q
      have := List.mem_range.mp hk
      exact ⟨n, k, by omega, by omega, rfl⟩
theorem gh_idx {n i : Nat} (h : i < (gh R n).length) : ∃ r k, r < n ∧ k + 3 < (R r).length ∧ i = (gh R r).length + k := by
  induction n with
  | zero => exact absurd h (Nat.not_lt_zero _)
  | succ n ih =>
    rw [gh_len] at h
    by_cases q : i < (gh R n).length
    · obtain ⟨r, k, a, b, c⟩ := ih q
      exact ⟨r, k, by omega, b, c⟩
    · exact ⟨n, i - (gh R n).length, by omega, by omega, by omega⟩
theorem gp_mem {e : Nat × Nat × Nat × Nat} {n : Nat} : e ∈ gp R n ↔ ∃ r k, r < n ∧ k + 2 < (R r).length ∧ e = pr_e (gh R r).length r (R r) k := by
  induction n with
  | zero => exact ⟨fun h => (nomatch h), fun ⟨r, k, a, _, _⟩ => absurd a (Nat.not_lt_zero _)⟩
  | succ n ih =>
    rw [show gp R (n + 1) = gp R n ++ pr_l (gh R n).length n (R n) from rfl, List.mem_append, ih]
    constructor
    · rintro (⟨r, k, a, b, c⟩ | q)
      · exact ⟨r, k, by omega, b, c⟩
      · unfold pr_l at q
        obtain ⟨k, hk, rfl⟩ := List.mem_map.mp q
        have := List.mem_range.mp hk
        exact ⟨n, k, by omega, by omega, rfl⟩
    · rintro ⟨r, k, a, b, rfl⟩
      by_cases e : r = n
      · subst e
        exact Or.inr (List.mem_map.mpr ⟨k, List.mem_range.mpr (by omega), rfl⟩)
      · exact Or.inl ⟨r, k, by omega, b, rfl⟩
theorem gP_mem {e : Nat × Nat × Nat × Nat} : e ∈ gP R ↔ ∃ r k, r < 16 ∧ k + 2 < (R r).length ∧ e = pr_e (gh R r).length r (R r) k := by rw [gP_eq]; exact gp_mem
theorem gP_le (hR : ∀ r, rl_ok (R r)) : (gP R).length ≤ 64 := by rw [gP_eq]; exact gp_le hR 16
theorem gH_le (hR : ∀ r, rl_ok (R r)) : (gH R).length ≤ 48 := by rw [gH_eq]; exact gh_le hR 16
theorem gH_idx {i : Nat} (h : i < (gH R).length) : ∃ r k, r < 16 ∧ k + 3 < (R r).length ∧ i = (gh R r).length + k := by rw [gH_eq] at h; exact gh_idx h
theorem sm_lo {x : Nat} (h : x < 14) : sm R x = [x] := by unfold sm; rw [if_pos h]
theorem sm_hi {r k : Nat} (hr : r < 16) (hk : k + 3 < (R r).length) : sm R (14 + (gh R r).length + k) = (R r).drop (k + 2) := by
  unfold sm
  rw [if_neg (by omega), show 14 + (gh R r).length + k - 14 = (gh R r).length + k by omega, gh_get hr hk]
theorem rl_getD_lt {l : List Nat} (h : rl_ok l) {k : Nat} (hk : k < l.length) : l.getD k 0 < 14 := by
  rcases h with q | ⟨_, _, _, q⟩
  · subst q; exact absurd hk (Nat.not_lt_zero _)
  · rw [List.getD_eq_getElem?_getD, List.getElem?_eq_getElem hk]
    exact q _ (List.getElem_mem hk)
theorem li_drop1 {l : List Nat} {k : Nat} (hk : k < l.length) : l.drop k = l.getD k 0 :: l.drop (k + 1) := by
  rw [List.drop_eq_getElem_cons hk, List.getD_eq_getElem?_getD, List.getElem?_eq_getElem hk]
  rfl
theorem pr_sm_a (hR : ∀ r, rl_ok (R r)) {r k : Nat} (hk : k + 2 < (R r).length) : sm R ((R r).getD (k + 1) 0) = [(R r).getD (k + 1) 0] := sm_lo (rl_getD_lt (hR r) (by omega))
theorem pr_sm_b (hR : ∀ r, rl_ok (R r)) {r k : Nat} (hr : r < 16) (hk : k + 2 < (R r).length) : sm R (pr_b (gh R r).length k (R r)) = (R r).drop (k + 2) := by
  unfold pr_b
  by_cases e : k + 3 = (R r).length
  · rw [if_pos e, sm_lo (rl_getD_lt (hR r) (by omega)), li_drop1 (by omega), List.drop_eq_nil_of_le (by omega)]
  · rw [if_neg e, sm_hi hr (by omega)]
theorem pr_sm_m (hR : ∀ r, rl_ok (R r)) {r k : Nat} (hr : r < 16) (hk : k + 2 < (R r).length) (h0 : 0 < k) : sm R (pr_m (gh R r).length k (R r)) = (R r).drop (k + 1) := by
  unfold pr_m
  rw [if_neg (by omega), sm_hi hr (by omega)]
  congr 1
  omega
theorem pr_lt (hR : ∀ r, rl_ok (R r)) {e : Nat × Nat × Nat × Nat} (h : e ∈ gP R) : e.1 < 14 + (gH R).length ∧ e.2.1 < 14 ∧ e.2.2.1 < 14 + (gH R).length ∧ e.2.2.2 < 16 ∧ (e.1 < 8 ∨ 14 ≤ e.1) := by
  obtain ⟨r, k, hr, hk, rfl⟩ := gP_mem.mp h
  have h1 := rl_getD_lt (hR r) (k := k + 1) (by omega)
  have h2 := rl_getD_lt (hR r) (k := k + 2) (by omega)
  have h3 : (R r).getD 0 0 < 8 := by
    rcases hR r with q | ⟨_, _, q, _⟩
    · rw [q] at hk; exact absurd hk (by simp)
    · exact q
  have h4 := gh_mono_len (R := R) (n := r + 1) (m := 16) (by omega)
  rw [gh_len, ← gH_eq] at h4
  refine ⟨?_, h1, ?_, hr, ?_⟩
  · show pr_m _ _ _ < _
    unfold pr_m
    split
    · omega
    · omega
  · show pr_b _ _ _ < _
    unfold pr_b
    split
    · omega
    · omega
  · show pr_m _ _ _ < 8 ∨ 14 ≤ pr_m _ _ _
    unfold pr_m
    split
    · omega
    · omega
theorem dx_lo {x : Nat} {u : List Nat} (h : x < 14) : dx R x u ↔ ds R [x] u := by
  unfold dx
  rw [sm_lo h]
  exact ⟨fun q => q.2, fun q => ⟨fun e => by subst e; exact absurd (ds_len q) (by simp), q⟩⟩
theorem dx_let {c : Nat} (h8 : 8 ≤ c) (h14 : c < 14) : dx R c [c] := (dx_lo h14).mpr (ds_let h8 h14 ds_nil)
theorem dx_un (hR : ∀ r, rl_ok (R r)) {x y : Nat} {u : List Nat} (h : un R x y) (hy : dx R y u) : dx R x u := by
  have hl := un_lt hR h
  obtain ⟨r, hr, e⟩ := h
  rw [dx_lo hl.2] at hy
  rw [dx_lo (by omega)]
  have := ds_rule hr e (List.cons_ne_nil _ _) hl.1 hy (ds_nil (R := R))
  rwa [List.append_nil] at this
theorem rl_cons {l : List Nat} (hl : rl_ok l) (h : 0 < l.length) : l = l.getD 0 0 :: l.drop 1 ∧ l.getD 0 0 < 8 := by
  refine ⟨by have := li_drop1 h; rwa [List.drop_zero] at this, ?_⟩
  rcases hl with q | ⟨_, _, q, _⟩
  · subst q; exact absurd h (Nat.lt_irrefl _)
  · exact q
theorem dx_pr (hR : ∀ r, rl_ok (R r)) {e : Nat × Nat × Nat × Nat} {u v : List Nat} (h : e ∈ gP R) (ha : dx R e.2.1 u) (hb : dx R e.2.2.1 v) : dx R e.1 (u ++ v) := by
  obtain ⟨r, k, hr, hk, rfl⟩ := gP_mem.mp h
  have a1 : ds R _ u := ha.2
  have b1 : ds R _ v := hb.2
  rw [show (pr_e (gh R r).length r (R r) k).2.1 = (R r).getD (k + 1) 0 from rfl, pr_sm_a hR hk] at a1
  rw [show (pr_e (gh R r).length r (R r) k).2.2.1 = pr_b (gh R r).length k (R r) from rfl, pr_sm_b hR hr hk] at b1
  have hne : u ++ v ≠ [] := fun q => ha.1 (List.append_eq_nil_iff.mp q).1
  have c : ds R ((R r).drop (k + 1)) (u ++ v) := by
    rw [li_drop1 (by omega)]
    exact ds_app a1 b1
  refine ⟨hne, ?_⟩
  show ds R (sm R (pr_m (gh R r).length k (R r))) (u ++ v)
  by_cases h0 : k = 0
  · subst h0
    obtain ⟨e1, e2⟩ := rl_cons (hR r) (by omega)
    unfold pr_m
    rw [if_pos rfl, sm_lo (by omega)]
    have := ds_rule hr e1 (by rw [li_drop1 (by omega)]; exact List.cons_ne_nil _ _) e2 c (ds_nil (R := R))
    rwa [List.append_nil] at this
  · rw [pr_sm_m hR hr hk (by omega)]
    exact c
/-- what letters, units and pairs keep holds of all that is derived -/
theorem dx_least (hR : ∀ r, rl_ok (R r)) {C : Nat → List Nat → Prop} (hL : ∀ c, 8 ≤ c → c < 14 → C c [c]) (hU : ∀ x y u, un R x y → dx R y u → C y u → C x u)
    (hP : ∀ e ∈ gP R, ∀ u v, dx R e.2.1 u → dx R e.2.2.1 v → C e.2.1 u → C e.2.2.1 v → C e.1 (u ++ v)) {x : Nat} {u : List Nat} (h : dx R x u) : C x u := by
  have key : ∀ l u, ds R l u → (∀ x, l = [x] → C x u) ∧ (∀ r k, r < 16 → k + 2 < (R r).length → (R r).drop (k + 1) = l → C (pr_m (gh R r).length k (R r)) u) := by
    have step : ∀ x l u v, ds R [x] u → C x u → ds R l v → (∀ y, l = [y] → C y v) → (∀ r k, r < 16 → k + 2 < (R r).length → (R r).drop (k + 1) = l → C (pr_m (gh R r).length k (R r)) v) →
        ∀ r k, r < 16 → k + 2 < (R r).length → (R r).drop (k + 1) = x :: l → C (pr_m (gh R r).length k (R r)) (u ++ v) := by
      intro x l u v hx cx hl h1 h2 r k hr hk e
      rw [li_drop1 (by omega)] at e
      injection e with e1 e2
      have he := gP_mem.mpr ⟨r, k, hr, hk, rfl⟩
      have ha : dx R (pr_e (gh R r).length r (R r) k).2.1 u := ⟨fun q => by subst q; exact absurd (ds_len hx) (by simp), by
        rw [show (pr_e (gh R r).length r (R r) k).2.1 = (R r).getD (k + 1) 0 from rfl, pr_sm_a hR hk, e1]; exact hx⟩
      have hb : dx R (pr_e (gh R r).length r (R r) k).2.2.1 v := ⟨fun q => by subst q; have := ds_len hl; rw [← e2, List.length_drop] at this; simp at this; omega, by
        rw [show (pr_e (gh R r).length r (R r) k).2.2.1 = pr_b (gh R r).length k (R r) from rfl, pr_sm_b hR hr hk, e2]; exact hl⟩
      refine hP _ he u v ha hb ?_ ?_
      · show C ((R r).getD (k + 1) 0) u
        rw [e1]; exact cx
      · show C (pr_b (gh R r).length k (R r)) v
        unfold pr_b
        by_cases q : k + 3 = (R r).length
        · rw [if_pos q]
          refine h1 _ ?_
          rw [← e2, li_drop1 (by omega), List.drop_eq_nil_of_le (by omega)]
        · rw [if_neg q]
          have := h2 r (k + 1) hr (by omega) e2
          unfold pr_m at this
          rw [if_neg (by omega)] at this
          exact this
    intro l u h
    refine ds_ind (P := fun l u => (∀ x, l = [x] → C x u) ∧ (∀ r k, r < 16 → k + 2 < (R r).length → (R r).drop (k + 1) = l → C (pr_m (gh R r).length k (R r)) u)) ⟨fun x q => (nomatch q), fun r k hr hk e => ?_⟩
      (fun c l u a b q g => ⟨fun x z => ?_, ?_⟩) (fun r x q l u v a b c e f g i j => ?_) h
    · have := congrArg List.length e
      rw [List.length_drop] at this
      simp at this
      omega
    · injection z with z1 z2
      subst z1 z2
      rw [ds_nil_inv q]
      exact hL _ a b
    · exact step c l [c] u (ds_let a b ds_nil) (hL c a b) q g.1 g.2
    · have hx : ds R [x] u := by
        have := ds_rule a b c e f (ds_nil (R := R))
        rwa [List.append_nil] at this
      have cx : C x u := by
        cases q with
        | nil => exact absurd rfl c
        | cons y q2 =>
          cases q2 with
          | nil =>
            have hy := (un_lt hR ⟨r, a, b⟩).2
            exact hU x y u ⟨r, a, b⟩ ((dx_lo hy).mpr f) (i.1 y rfl)
          | cons z q3 =>
            have hlen : (R r).length = q3.length + 3 := by rw [b]; rfl
            have := i.2 r 0 a (by omega) (by rw [b]; rfl)
            unfold pr_m at this
            rw [if_pos rfl, b] at this
            exact this
      refine ⟨fun y z => ?_, step x l u v hx cx g j.1 j.2⟩
      injection z with z1 z2
      subst z1 z2
      rw [ds_nil_inv g, List.append_nil]
      exact cx
  obtain ⟨hne, h⟩ := h
  by_cases hx : x < 14
  · rw [sm_lo hx] at h
    exact (key _ _ h).1 x rfl
  · unfold sm at h
    rw [if_neg hx] at h
    cases e : (gH R)[x - 14]? with
    | none => rw [e] at h; exact absurd (ds_nil_inv h) hne
    | some p =>
      have hi : x - 14 < (gH R).length := by
        refine Classical.byContradiction (fun q => ?_)
        rw [List.getElem?_eq_none (by omega)] at e
        cases e
      obtain ⟨r, k, hr, hk, e2⟩ := gH_idx hi
      rw [e2, gh_get hr hk] at e h
      have := (key _ _ h).2 r (k + 1) hr (by omega) rfl
      unfold pr_m at this
      rw [if_neg (by omega), show 14 + (gh R r).length + (k + 1 - 1) = x by omega] at this
      exact this
/-- one step: of a letter or of a pair, and units above it -/
def dxB (R : Nat → List Nat) (x : Nat) (u : List Nat) : Prop := (8 ≤ x ∧ x < 14 ∧ u = [x]) ∨ ∃ e ∈ gP R, e.1 = x ∧ ∃ v w, u = v ++ w ∧ dx R e.2.1 v ∧ dx R e.2.2.1 w
theorem dxB_dx (hR : ∀ r, rl_ok (R r)) {x : Nat} {u : List Nat} (h : dxB R x u) : dx R x u := by
  rcases h with ⟨a, b, rfl⟩ | ⟨e, he, rfl, v, w, rfl, g1, g2⟩
  · exact dx_let a b
  · exact dx_pr hR he g1 g2
theorem dx_ut (hR : ∀ r, rl_ok (R r)) {x y : Nat} {u : List Nat} (h : ut R x y) : dx R y u → dx R x u :=
  ut_ind (P := fun a b => dx R b u → dx R a u) (fun _ _ q g => dx_un hR q g) (fun _ _ _ q _ k g => dx_un hR q (k g)) h
theorem dx_step (hR : ∀ r, rl_ok (R r)) {x : Nat} {u : List Nat} : dx R x u ↔ dxB R x u ∨ ∃ y, ut R x y ∧ dxB R y u := by
  constructor
  · intro h
    refine dx_least hR (C := fun x u => dxB R x u ∨ ∃ y, ut R x y ∧ dxB R y u) (fun c a b => Or.inl (Or.inl ⟨a, b, rfl⟩)) (fun x y u q _ k => ?_) (fun e he u v a b _ _ => Or.inl (Or.inr ⟨e, he, rfl, u, v, rfl, a, b⟩)) h
    rcases k with k | ⟨z, k1, k2⟩
    · exact Or.inr ⟨y, ut_one q, k⟩
    · exact Or.inr ⟨z, ut_cons q k1, k2⟩
  · rintro (h | ⟨y, h1, h2⟩)
    · exact dxB_dx hR h
    · exact dx_ut hR h1 (dxB_dx hR h2)
theorem dx_lt (hR : ∀ r, rl_ok (R r)) {x : Nat} {u : List Nat} (h : dx R x u) : x < 14 + (gH R).length :=
  dx_least hR (C := fun x _ => x < 14 + (gH R).length) (fun c _ b => by show c < _; omega) (fun x y u q _ _ => by have := (un_lt hR q).1; show x < _; omega) (fun e he _ _ _ _ _ _ => (pr_lt hR he).1) h
end GPR
/-! parts of a word -/
def sl (w : List Nat) (i j : Nat) : List Nat := (w.drop i).take (j - i)
theorem sl_len {w : List Nat} {i j : Nat} (h : j ≤ w.length) : (sl w i j).length = j - i := by
  unfold sl
  rw [List.length_take, List.length_drop]
  omega
theorem sl_get {w : List Nat} {i j k : Nat} (h : k < j - i) : (sl w i j)[k]? = w[i + k]? := by
  unfold sl
  rw [List.getElem?_take, if_pos h, List.getElem?_drop]
theorem sl_app {w : List Nat} {i k j : Nat} (h1 : i ≤ k) (h2 : k ≤ j) (h3 : j ≤ w.length) : sl w i j = sl w i k ++ sl w k j := by
  apply List.ext_getElem?
  intro n
  by_cases hn : n < j - i
  · rw [sl_get hn]
    by_cases h : n < k - i
    · rw [List.getElem?_append_left (by rw [sl_len (by omega)]; omega), sl_get h]
    · rw [List.getElem?_append_right (by rw [sl_len (by omega)]; omega), sl_len (by omega), sl_get (by omega)]
      congr 1
      omega
  · rw [List.getElem?_eq_none (by rw [sl_len h3]; omega), List.getElem?_eq_none (by rw [List.length_append, sl_len (by omega), sl_len h3]; omega)]
theorem sl_cut {w : List Nat} {i j : Nat} {u v : List Nat} (h : sl w i j = u ++ v) (h3 : j ≤ w.length) (hu : u ≠ []) (hv : v ≠ []) : ∃ k, i < k ∧ k < j ∧ u = sl w i k ∧ v = sl w k j := by
  have e := congrArg List.length h
  rw [sl_len h3, List.length_append] at e
  have h1 := List.length_pos_iff.mpr hu
  have h2 := List.length_pos_iff.mpr hv
  have e2 := sl_app (w := w) (i := i) (k := i + u.length) (j := j) (by omega) (by omega) h3
  rw [h] at e2
  have := List.append_inj e2 (by rw [sl_len (by omega)]; omega)
  exact ⟨i + u.length, by omega, by omega, this.1, this.2⟩
theorem sl_one {w : List Nat} {i : Nat} (h : i < w.length) : sl w i (i + 1) = [w[i]] := by
  unfold sl
  rw [show i + 1 - i = 1 by omega, List.drop_eq_getElem_cons h]
  rfl
theorem sl_all (w : List Nat) : sl w 0 w.length = w := by
  unfold sl
  rw [List.drop_zero, Nat.sub_zero, List.take_length]
theorem sl_ne {w : List Nat} {i j : Nat} (h : i < j) (h2 : j ≤ w.length) : sl w i j ≠ [] := fun q => by
  have := congrArg List.length q
  rw [sl_len h2] at this
  simp at this
  omega
