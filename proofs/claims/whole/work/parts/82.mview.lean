/-! the reference: what can begin -/
theorem ds_prod {R : Nat → List Nat} {l u : List Nat} (h : ds R l u) : ∀ z ∈ l, ∃ v, ds R [z] v := by
  refine ds_ind (P := fun l _ => ∀ z ∈ l, ∃ v, ds R [z] v) (fun z hz => by cases hz) (fun c l u a b _ q z hz => ?_) (fun r x q l u v a b c e f _ _ k z hz => ?_) h
  · rcases List.mem_cons.mp hz with rfl | hz
    · exact ⟨[z], ds_let a b ds_nil⟩
    · exact q z hz
  · rcases List.mem_cons.mp hz with rfl | hz
    · exact ⟨u ++ [], ds_rule a b c e f ds_nil⟩
    · exact k z hz
theorem prod_ds {R : Nat → List Nat} : ∀ {l : List Nat}, (∀ z ∈ l, z < 14) → (∀ z ∈ l, frt R z) → ∃ v, ds R l v
  | [], _, _ => ⟨[], ds_nil⟩
  | y :: l, h, q => by
    obtain ⟨v, hv⟩ := prod_ds (l := l) (fun z hz => h z (List.mem_cons_of_mem _ hz)) (fun z hz => q z (List.mem_cons_of_mem _ hz))
    obtain ⟨u, hu⟩ := q y (List.mem_cons_self ..)
    exact ⟨u ++ v, ds_app (l := [y]) ((dx_lo (h y (List.mem_cons_self ..))).mp hu) hv⟩
section GMV
variable {R : Nat → List Nat} {w : List Nat} {t : Nat → Prop}
theorem bgn_w {i x : Nat} (hi : i ≤ w.length) : bgn R (plw w) i w.length x ↔ ∃ v, dx R x (sl w i w.length ++ v) := by
  constructor
  · rintro ⟨u, v, h1, h2, h3⟩
    have e : u = sl w i w.length := by
      apply List.ext_getElem?
      intro k
      by_cases hk : k < u.length
      · rw [sl_get (by omega), List.getElem?_eq_getElem hk]
        exact (h2 k _ (List.getElem?_eq_getElem hk)).symm
      · rw [List.getElem?_eq_none (by omega), List.getElem?_eq_none (by rw [sl_len (Nat.le_refl _)]; omega)]
    rw [e] at h3
    exact ⟨v, h3⟩
  · rintro ⟨v, h⟩
    refine ⟨sl w i w.length, v, by rw [sl_len (Nat.le_refl _)]; omega, fun k c hk => ?_, h⟩
    have hl := (List.getElem?_eq_some_iff.mp hk).1
    rw [sl_len (Nat.le_refl _)] at hl
    rw [sl_get hl] at hk
    exact hk
/-- a symbol begins what is left from a place on -/
def pbg (R : Nat → List Nat) (w : List Nat) (t : Nat → Prop) (i y k : Nat) : Prop := (8 ≤ y ∧ k + 1 = w.length ∧ w[k]? = some y) ∨ (y < 8 ∧ ((k = i ∧ t y) ∨ (k ≠ i ∧ bgn R (plw w) k w.length y)))
def lb (R : Nat → List Nat) (w : List Nat) (t : Nat → Prop) (i : Nat) : List Nat → Nat → Prop
  | [], _ => False
  | y :: l, k => (pbg R w t i y k ∧ ∀ z ∈ l, frt R z) ∨ ∃ k', k < k' ∧ k' < w.length ∧ dp R (plw w) y k k' ∧ lb R w t i l k'
theorem lb_of (hR : ∀ r, rl_ok (R r)) {i : Nat} (hcl : ∀ r x q, r < 16 → R r = x :: q → q ≠ [] → lb R w t i q i → t x) {l s : List Nat} (h : ds R l s) : (∀ z ∈ l, z < 14) → ∀ k v, i ≤ k → k < w.length → s = sl w k w.length ++ v → lb R w t i l k := by
  have fr : ∀ {l u : List Nat}, ds R l u → (∀ z ∈ l, z < 14) → ∀ z ∈ l, frt R z := fun hd hz z hm => by
    obtain ⟨v, hv⟩ := ds_prod hd z hm
    exact ⟨v, (dx_lo (hz z hm)).mpr hv⟩
  refine ds_ind (P := fun l s => (∀ z ∈ l, z < 14) → ∀ k v, i ≤ k → k < w.length → s = sl w k w.length ++ v → lb R w t i l k) (fun _ k v hik hk e => ?_) (fun c l u a b f ih hz k v hik hk e => ?_) (fun r x q l u u2 hr hx hq h8 f g ih1 ih2 hz k v hik hk e => ?_) h
  · exact absurd (List.append_eq_nil_iff.mp e.symm).1 (sl_ne hk (Nat.le_refl _))
  · have hz2 : ∀ z ∈ l, z < 14 := fun z m => hz z (List.mem_cons_of_mem _ m)
    rw [sl_app (Nat.le_succ k) (show k + 1 ≤ w.length from hk) (Nat.le_refl _), sl_one hk] at e
    injection e with e1 e2
    by_cases q : k + 1 = w.length
    · exact Or.inl ⟨Or.inl ⟨a, q, by rw [List.getElem?_eq_getElem hk, e1]⟩, fr f hz2⟩
    · exact Or.inr ⟨k + 1, Nat.lt_succ_self _, by omega, (dp_w (by omega) (Nat.lt_succ_self _)).mpr (by rw [sl_one hk, ← e1]; exact dx_let a b), ih hz2 (k + 1) v (by omega) (by omega) e2⟩
  · have hz2 : ∀ z ∈ l, z < 14 := fun z m => hz z (List.mem_cons_of_mem _ m)
    have hzq : ∀ z ∈ q, z < 14 := fun z hm => by
      rcases hR r with w | ⟨_, _, _, w⟩
      · rw [hx] at w; cases w
      · exact w z (by rw [hx]; exact List.mem_cons_of_mem _ hm)
    have fit : ∀ c', u = sl w k w.length ++ c' → lb R w t i (x :: l) k := fun c' hc => by
      refine Or.inl ⟨Or.inr ⟨h8, ?_⟩, fr g hz2⟩
      by_cases z : k = i
      · subst z
        exact Or.inl ⟨rfl, hcl r x q hr hx hq (ih1 hzq k c' hik hk hc)⟩
      · refine Or.inr ⟨z, (bgn_w (Nat.le_of_lt hk)).mpr ⟨c', (dx_lo (by omega)).mpr ?_⟩⟩
        have := ds_rule hr hx hq h8 f (ds_nil (R := R))
        rw [List.append_nil, hc] at this
        exact this
    rcases List.append_eq_append_iff.mp e with ⟨a', e1, e2⟩ | ⟨c', e1, e2⟩
    · by_cases z : a' = []
      · subst z
        rw [List.append_nil] at e1
        exact fit [] (by rw [List.append_nil, e1])
      · have hu : u ≠ [] := fun y => by
          subst y
          have := ds_len f
          exact hq (List.eq_nil_of_length_eq_zero (Nat.le_zero.mp this))
        obtain ⟨k', k1, k2, k3, k4⟩ := sl_cut e1 (Nat.le_refl _) hu z
        refine Or.inr ⟨k', k1, k2, (dp_w (Nat.le_of_lt k2) k1).mpr ((dx_lo (by omega)).mpr ?_), ih2 hz2 k' v (by omega) k2 (by rw [e2, k4])⟩
        have := ds_rule hr hx hq h8 f (ds_nil (R := R))
        rw [List.append_nil, k3] at this
        exact this
    · exact fit c' e1
theorem lb_ds {i : Nat} (ht : ∀ y, t y → bgn R (plw w) i w.length y) : ∀ {l : List Nat} {k : Nat}, lb R w t i l k → i ≤ k → k < w.length → (∀ z ∈ l, z < 14) → ∃ v, ds R l (sl w k w.length ++ v)
  | [], _, h, _, _, _ => h.elim
  | y :: l, k, h, hik, hk, hz => by
    have hz2 : ∀ z ∈ l, z < 14 := fun z m => hz z (List.mem_cons_of_mem _ m)
    have hy := hz y (List.mem_cons_self ..)
    rcases h with ⟨h1, h2⟩ | ⟨k', k1, k2, k3, k4⟩
    · have hb : ∃ v1, ds R [y] (sl w k w.length ++ v1) := by
        have bg : bgn R (plw w) k w.length y → ∃ v1, ds R [y] (sl w k w.length ++ v1) := fun b => by
          obtain ⟨v, hv⟩ := (bgn_w (Nat.le_of_lt hk)).mp b
          exact ⟨v, (dx_lo hy).mp hv⟩
        rcases h1 with ⟨a, b, c⟩ | ⟨a, ⟨b, c⟩ | ⟨b, c⟩⟩
        · rw [← b, sl_one hk]
          rw [List.getElem?_eq_getElem hk] at c
          rw [Option.some.inj c]
          exact ⟨[], ds_let a hy ds_nil⟩
        · subst b; exact bg (ht y c)
        · exact bg c
      obtain ⟨v1, hv1⟩ := hb
      obtain ⟨v2, hv2⟩ := prod_ds hz2 h2
      have := ds_app (l := [y]) hv1 hv2
      rw [List.append_assoc] at this
      exact ⟨v1 ++ v2, this⟩
    · obtain ⟨v, hv⟩ := lb_ds ht k4 (by omega) k2 hz2
      have := ds_app (l := [y]) ((dx_lo hy).mp ((dp_w (Nat.le_of_lt k2) k1).mp k3)) hv
      rw [← List.append_assoc, ← sl_app (Nat.le_of_lt k1) (Nat.le_of_lt k2) (Nat.le_refl _)] at this
      exact ⟨v, this⟩
theorem lb_up (hR : ∀ r, rl_ok (R r)) {i r x : Nat} {q : List Nat} (ht : ∀ y, t y → bgn R (plw w) i w.length y) (hi : i < w.length) (hr : r < 16) (hx : R r = x :: q) (hq : q ≠ []) (h8 : x < 8) (hz : ∀ z ∈ q, z < 14) (h : lb R w t i q i) : bgn R (plw w) i w.length x := by
  obtain ⟨v, hv⟩ := lb_ds ht h (Nat.le_refl _) hi hz
  have := ds_rule hr hx hq h8 hv (ds_nil (R := R))
  rw [List.append_nil] at this
  exact (bgn_w (Nat.le_of_lt hi)).mpr ⟨v, (dx_lo (by omega)).mpr this⟩
theorem lb_all (hR : ∀ r, rl_ok (R r)) {i x : Nat} (hi : i < w.length) (hcl : ∀ r x q, r < 16 → R r = x :: q → q ≠ [] → lb R w t i q i → t x) (h8 : x < 8) (h : bgn R (plw w) i w.length x) : t x := by
  obtain ⟨v, hv⟩ := (bgn_w (Nat.le_of_lt hi)).mp h
  have := lb_of hR hcl ((dx_lo (by omega)).mp hv) (fun z hz => by rw [List.mem_singleton.mp hz]; omega) i v (Nat.le_refl _) hi rfl
  rcases this with ⟨⟨a, _, _⟩ | ⟨_, ⟨_, q⟩ | ⟨q, _⟩⟩, _⟩ | ⟨k', _, _, _, q⟩
  · omega
  · exact q
  · exact absurd rfl q
  · exact q.elim
/-- from one of some places -/
def lbe (R : Nat → List Nat) (w : List Nat) (t : Nat → Prop) (i : Nat) (rc : Nat → Prop) (l : List Nat) : Prop := ∃ k, i ≤ k ∧ k < w.length ∧ rc k ∧ lb R w t i l k
theorem lbe_s {i y : Nat} {l : List Nat} {rc : Nat → Prop} (hno : ∀ k, i ≤ k → k < w.length → rc k → pbg R w t i y k → (∀ z ∈ l, frt R z) → False) :
    lbe R w t i rc (y :: l) ↔ lbe R w t i (fun j => ∃ k, i ≤ k ∧ k < j ∧ rc k ∧ dp R (plw w) y k j) l := by
  constructor
  · rintro ⟨k, a, b, c, ⟨e, f⟩ | ⟨k', k1, k2, k3, k4⟩⟩
    · exact (hno k a b c e f).elim
    · exact ⟨k', by omega, k2, ⟨k, a, k1, c, k3⟩, k4⟩
  · rintro ⟨k', _, k2, ⟨k, a, k1, c, k3⟩, k4⟩
    exact ⟨k, a, by omega, c, Or.inr ⟨k', k1, k2, k3, k4⟩⟩
end GMV
