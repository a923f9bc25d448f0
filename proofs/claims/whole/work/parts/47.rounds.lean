/-! in how many rounds -/
def ltr (x : Nat) (u : List Nat) : Prop := 8 ≤ x ∧ x < 14 ∧ u = [x]
def rdS (R : Nat → List Nat) (D : Nat → List Nat → Prop) (x : Nat) (u : List Nat) : Prop := D x u ∨ ∃ e, e ∈ gP R ∧ e.1 = x ∧ ∃ v w, u = v ++ w ∧ D e.2.1 v ∧ D e.2.2.1 w
def rd (R : Nat → List Nat) : Nat → Nat → List Nat → Prop
  | 0, x, u => ltr x u ∨ ∃ y, ut R x y ∧ ltr y u
  | n + 1, x, u => rdS R (rd R n) x u ∨ ∃ y, ut R x y ∧ rdS R (rd R n) y u
def rb (R : Nat → List Nat) (x : Nat) (u : List Nat) (v : Nat) : Prop := ltr x u ∨ ∃ e, e ∈ gP R ∧ e.1 = x ∧ ∃ a b, u = a ++ b ∧ ∃ v', v = v' + 1 ∧ rd R v' e.2.1 a ∧ rd R v' e.2.2.1 b
section GRD
variable {R : Nat → List Nat}
theorem rd_s {n x : Nat} {u : List Nat} (h : rd R n x u) : rd R (n + 1) x u := Or.inl (Or.inl h)
theorem rd_mono {n m x : Nat} {u : List Nat} (hm : n ≤ m) (h : rd R n x u) : rd R m x u := by
  induction m with
  | zero => have : n = 0 := by omega
            subst this; exact h
  | succ m ih =>
    by_cases e : n = m + 1
    · subst e; exact h
    · exact rd_s (ih (by omega))
theorem rb_s {n x : Nat} {u : List Nat} (h : rb R x u n) : rb R x u (n + 1) := by
  rcases h with h | ⟨e, he, h1, a, b, h2, v', rfl, h3, h4⟩
  · exact Or.inl h
  · exact Or.inr ⟨e, he, h1, a, b, h2, v' + 1, rfl, rd_s h3, rd_s h4⟩
theorem rd_rb {x : Nat} {u : List Nat} : ∀ {n : Nat}, rd R n x u ↔ ufn R (fun x v => rb R x u v) x n := by
  have h0 : ∀ x, rb R x u 0 ↔ ltr x u := fun x => ⟨fun h => h.elim id (fun ⟨e, he, h1, a, b, h2, v', h3, _⟩ => by omega), Or.inl⟩
  have hS : ∀ n, (∀ x, rd R n x u ↔ ufn R (fun x v => rb R x u v) x n) → ∀ x, rd R (n + 1) x u ↔ ufn R (fun x v => rb R x u v) x (n + 1) := by
    intro n ih x
    have h1 : ∀ x, rb R x u (n + 1) → rdS R (rd R n) x u := fun x h => by
      rcases h with h | ⟨e, he, h1, a, b, h2, v', h3, h4, h5⟩
      · exact Or.inl (rd_mono (Nat.zero_le n) (Or.inl h))
      · have : v' = n := by omega
        subst this
        exact Or.inr ⟨e, he, h1, a, b, h2, h4, h5⟩
    have h2 : ∀ x, rdS R (rd R n) x u → ufn R (fun x v => rb R x u v) x (n + 1) := fun x h => by
      rcases h with h | ⟨e, he, h1, a, b, h2, h4, h5⟩
      · rcases (ih x).mp h with q | ⟨y, q1, q2⟩
        · exact Or.inl (rb_s q)
        · exact Or.inr ⟨y, q1, rb_s q2⟩
      · exact Or.inl (Or.inr ⟨e, he, h1, a, b, h2, n, rfl, h4, h5⟩)
    constructor
    · rintro (h | ⟨y, q1, q2⟩)
      · exact h2 x h
      · rcases h2 y q2 with q | ⟨z, z1, z2⟩
        · exact Or.inr ⟨y, q1, q⟩
        · exact Or.inr ⟨z, ut_trans q1 z1, z2⟩
    · rintro (h | ⟨y, q1, q2⟩)
      · exact Or.inl (h1 x h)
      · exact Or.inr ⟨y, q1, h1 y q2⟩
  intro n
  induction n generalizing x with
  | zero =>
    constructor
    · rintro (h | ⟨y, q1, q2⟩)
      · exact Or.inl ((h0 x).mpr h)
      · exact Or.inr ⟨y, q1, (h0 y).mpr q2⟩
    · rintro (h | ⟨y, q1, q2⟩)
      · exact Or.inl ((h0 x).mp h)
      · exact Or.inr ⟨y, q1, (h0 y).mp q2⟩
  | succ n ih => exact hS n (fun x => ih) x
theorem rd_dx (hR : ∀ r, rl_ok (R r)) : ∀ {n x : Nat} {u : List Nat}, rd R n x u → dx R x u := by
  intro n
  induction n with
  | zero =>
    rintro x u (⟨h1, h2, rfl⟩ | ⟨y, q1, h1, h2, rfl⟩)
    · exact dx_let h1 h2
    · exact dx_ut hR q1 (dx_let h1 h2)
  | succ n ih =>
    have hS : ∀ x u, rdS R (rd R n) x u → dx R x u := fun x u h => by
      rcases h with h | ⟨e, he, rfl, a, b, rfl, h4, h5⟩
      · exact ih h
      · exact dx_pr hR he (ih h4) (ih h5)
    rintro x u (h | ⟨y, q1, q2⟩)
    · exact hS x u h
    · exact dx_ut hR q1 (hS y u q2)
theorem rd_len (hR : ∀ r, rl_ok (R r)) {x : Nat} {u : List Nat} (h : dx R x u) : rd R u.length x u := by
  refine dx_least hR (C := fun x u => rd R u.length x u) (fun c a b => rd_mono (Nat.zero_le _) (Or.inl ⟨a, b, rfl⟩)) (fun x y u h1 h2 ih => ?_) (fun e he u v h1 h2 i1 i2 => ?_) h
  · rw [rd_rb] at ih ⊢
    rcases ih with q | ⟨z, z1, z2⟩
    · exact Or.inr ⟨y, ut_one h1, q⟩
    · exact Or.inr ⟨z, ut_cons h1 z1, z2⟩
  · have p1 := List.length_pos_iff.mpr h1.1
    have p2 := List.length_pos_iff.mpr h2.1
    rw [rd_rb]
    rw [List.length_append]
    exact Or.inl (Or.inr ⟨e, he, rfl, u, v, rfl, u.length + v.length - 1, by omega, rd_mono (by omega) i1, rd_mono (by omega) i2⟩)
noncomputable def rv (R : Nat → List Nat) (x : Nat) (u : List Nat) : Int := li (fun n => rd R n x u)
theorem rv_le (hR : ∀ r, rl_ok (R r)) (x : Nat) (u : List Nat) : -1 ≤ rv R x u ∧ rv R x u ≤ u.length := by
  unfold rv
  rcases li_cases (fun n => rd R n x u) with ⟨e, _⟩ | ⟨n, e, h1, h2⟩
  · rw [e]; omega
  · have := h2 _ (rd_len hR (rd_dx hR h1)); rw [e]; omega
theorem rv_pair (hR : ∀ r, rl_ok (R r)) {x y : Nat} {u v : List Nat} (h1 : dx R x u) (h2 : dx R y v) : ro_two (rv R x u) (rv R y v) = li (fun n => ∃ n', n = n' + 1 ∧ rd R n' x u ∧ rd R n' y v) := by
  unfold rv
  rcases li_cases (fun n => rd R n x u) with ⟨_, q⟩ | ⟨a, e1, a1, a2⟩
  · exact absurd (rd_len hR h1) (q _)
  · rcases li_cases (fun n => rd R n y v) with ⟨_, q⟩ | ⟨b, e2, b1, b2⟩
    · exact absurd (rd_len hR h2) (q _)
    · rw [e1, e2]
      unfold ro_two
      by_cases q : (b : Int) < a
      · rw [if_pos q, li_t (n := a + 1) ⟨a, rfl, a1, rd_mono (by omega) b1⟩ (fun m ⟨n', e, w1, w2⟩ => by have := a2 n' w1; omega)]
        omega
      · rw [if_neg q, li_t (n := b + 1) ⟨b, rfl, rd_mono (by omega) a1, b1⟩ (fun m ⟨n', e, w1, w2⟩ => by have := b2 n' w2; omega)]
        omega
theorem dx_ltr {x : Nat} {u : List Nat} (h8 : 8 ≤ x) (h14 : x < 14) (h : dx R x u) : u = [x] := by
  have := (dx_lo h14).mp h
  rcases ds_cons_inv this with ⟨_, _, v, rfl, q⟩ | ⟨q, _⟩
  · rw [ds_nil_inv q]
  · omega
theorem dp_w {w : List Nat} {x i j : Nat} (hj : j ≤ w.length) (hi : i < j) : dp R (plw w) x i j ↔ dx R x (sl w i j) := by
  constructor
  · rintro ⟨u, h1, h2, h3⟩
    have e : u = sl w i j := by
      apply List.ext_getElem?
      intro k
      by_cases hk : k < u.length
      · rw [sl_get (by omega), List.getElem?_eq_getElem hk]
        exact (h2 k _ (List.getElem?_eq_getElem hk)).symm
      · rw [List.getElem?_eq_none (by omega), List.getElem?_eq_none (by rw [sl_len hj]; omega)]
    rw [← e]; exact h3
  · intro h
    refine ⟨sl w i j, by rw [sl_len hj]; omega, fun k c hk => ?_, h⟩
    have hl := (List.getElem?_eq_some_iff.mp hk).1
    rw [sl_len hj] at hl
    rw [sl_get hl] at hk
    exact hk
end GRD
section GROUNDS
variable {E : go_E} {d : Nat} {δ : Nat → Nat → Int} {Q : List go_V → go_F → (Nat → Nat → Int) → Prop} {R : Nat → List Nat} {K : sK}
/-- what is so before the class's tables are asked: the rules made binary, the word's cells -/
def base_at (δ : Nat → Nat → Int) (K : sK) : Prop := bi_at δ 33 K.1 ∧ bm_at δ 33 K.1 ∧ ct_at δ 44 false K.1 (plw K.2.2) K.2.2.length
def rt_at (δ : Nat → Nat → Int) (K : sK) : Prop := tvRounds_at δ 49 false (fun x i j => rv K.1 x (sl K.2.2 i j)) (14 + (gH K.1).length) K.2.2.length (K.2.2.length + 1) 0
theorem g_Rounds_fillAll (hb : bi_at δ 33 K.1) (hc : ct_at δ 44 false K.1 (plw K.2.2) K.2.2.length) (ht : td_at δ 3 K) (h2 : δ 49 2 = 0) (h3 : δ 49 3 = -1)
    (hQ : ∀ δ', rt_at δ' K → (∀ c q, c ≠ 50 → c ≠ 51 → δ' c q = δ c q) → Q [] go_φ δ') : Go E (d + 5) (0, 0) mx_X7_fill go_φ 0 [(0, vv_A 49), (1, vv_I (K.2.2.length : Int))] [] δ Q := by
  have hR := hb.2.2.2.2.2.2
  have hn := hc.2.2.1
  have hH := gH_le hR
  refine g_Rounds_fill (d := d) (o := 49) (ns := 14 + (gH K.1).length) (V := fun x i j => rv K.1 x (sl K.2.2 i j)) tb_ok49 h2 hn (by omega) (fun q => by cases q) (fun E d Q δ1 i j hij hj f1 hV K1 => ?_) (fun δ' h f => hQ δ' h (fun c q a b => f c q a b trivial))
  have hb1 : bi_at δ1 33 K.1 := bi_fr hb (fun c' j a b => f1 c' j (by omega) (by omega) trivial)
  have hc1 : ct_at δ1 44 false K.1 (plw K.2.2) K.2.2.length := ct_fr hc (fun c' j hc' => f1 c' j (by omega) (by omega) trivial)
  have ht1 : td_at δ1 3 K := td_fr3 ht (fun c' j hc' => f1 c' j (by omega) (by omega) trivial)
  have hul : (sl K.2.2 i j).length = j - i := sl_len hj
  have hdp : ∀ x a b, a < b → b ≤ K.2.2.length → (dp K.1 (plw K.2.2) x a b ↔ dx K.1 x (sl K.2.2 a b)) := fun x a b h1 h2 => dp_w h2 h1
  refine g_Rounds_fillSpan (d := d) (V := fun x i j => rv K.1 x (sl K.2.2 i j)) (J := fun k p f => ∀ x, x < 14 + (gH K.1).length → f x = li (cst K.1 (fun x _ => ltr x (sl K.2.2 i j)) (fun e k v => ∃ v', v = v' + 1 ∧ rd K.1 v' e.2.1 (sl K.2.2 i k) ∧ rd K.1 v' e.2.2.1 (sl K.2.2 k j)) i k p x))
    tb_ok49 ch_ok44 hb1 ht1 (Or.inr trivial) rfl hc1 (by rw [f1 _ _ (by decide) (by decide) trivial]; exact h2) (by rw [f1 _ _ (by decide) (by decide) trivial]; exact h3) hij hj hV ?_ ?_ ?_ ?_ (fun δ2 h2 f2 => K1 δ2 h2 f2)
  · intro x hx
    rw [li_congr (fun v => cst_0)]
    by_cases e : j = i + 1
    · rw [if_pos e]
      by_cases q : ltr x (sl K.2.2 i j)
      · rw [li_t (n := 0) q (fun m _ => Nat.zero_le _)]
        unfold tlf
        refine if_pos ⟨q.1, q.2.1, (hdp x i (i + 1) (by omega) (by omega)).mpr ?_⟩
        rw [← e, q.2.2]
        exact dx_let q.1 q.2.1
      · rw [li_f (fun n => q)]
        unfold tlf
        refine if_neg (fun z => q ⟨z.1, z.2.1, ?_⟩)
        have := (hdp x i (i + 1) (by omega) (by omega)).mp z.2.2
        rw [← e] at this
        exact dx_ltr z.1 z.2.1 this
    · rw [if_neg e, li_f (fun n q => by
        have := congrArg List.length q.2.2
        rw [hul] at this
        simp at this
        omega)]
  · intro k p e hik hkj he f hf
    have hem : e ∈ gP K.1 := List.mem_of_getElem? he
    have hlt := pr_lt hR hem
    rw [hdp _ i k hik (by omega), hdp _ k j hkj hj]
    have a1 := rv_le hR e.2.1 (sl K.2.2 i k)
    have a2 := rv_le hR e.2.2.1 (sl K.2.2 k j)
    rw [sl_len (by omega)] at a1 a2
    refine ⟨fun hno x hx => ?_, fun q1 q2 => ⟨⟨⟨by omega, by omega⟩, ⟨by omega, by omega⟩⟩, ?_, ?_, fun x hx => ?_⟩⟩
    · rw [hf x hx]
      refine li_congr (fun v => ?_)
      rw [cst_s he]
      exact ⟨Or.inl, fun q => q.elim id (fun ⟨_, v', _, w1, w2⟩ => absurd ⟨rd_dx hR w1, rd_dx hR w2⟩ hno)⟩
    · rw [hf e.1 hlt.1]
      refine li_rng (fun v hv => ?_)
      rcases hv with h | ⟨k', h1, h2, e', h3, h4, v', h5, h6, h7⟩ | ⟨e', h3, h4, v', h5, h6, h7⟩
      · exact ⟨0, by decide, Or.inl h⟩
      · refine ⟨j + 1, by omega, Or.inr (Or.inl ⟨k', h1, h2, e', h3, h4, j, rfl, rd_mono ?_ (rd_len hR (rd_dx hR h6)), rd_mono ?_ (rd_len hR (rd_dx hR h7))⟩)⟩
        · rw [sl_len (by omega)]; omega
        · rw [sl_len (by omega)]; omega
      · refine ⟨j + 1, by omega, Or.inr (Or.inr ⟨e', h3, h4, j, rfl, rd_mono ?_ (rd_len hR (rd_dx hR h6)), rd_mono ?_ (rd_len hR (rd_dx hR h7))⟩)⟩
        · rw [sl_len (by omega)]; omega
        · rw [sl_len (by omega)]; omega
    · unfold ro_two
      split
      · exact ⟨by omega, by omega⟩
      · exact ⟨by omega, by omega⟩
    · have hpc := rv_pair hR q1 q2
      have hne : li (fun n => ∃ n', n = n' + 1 ∧ rd K.1 n' e.2.1 (sl K.2.2 i k) ∧ rd K.1 n' e.2.2.1 (sl K.2.2 k j)) ≠ -1 :=
        li_ne (v := j + 1) ⟨j, rfl, rd_mono (by rw [sl_len (by omega)]; omega) (rd_len hR q1), rd_mono (by rw [sl_len (by omega)]; omega) (rd_len hR q2)⟩
      show fup f e.1 _ x = _
      by_cases ex : x = e.1
      · subst ex
        rw [fup_eq, hf e.1 hlt.1, hpc]
        refine tb_min_li (fun v => ?_) hne
        rw [cst_s he]
        exact ⟨fun q => q.elim Or.inl (fun z => Or.inr z.2), fun q => q.elim Or.inl (fun z => Or.inr ⟨rfl, z⟩)⟩
      · rw [fup_ne ex, hf x hx]
        refine li_congr (fun v => ?_)
        rw [cst_s he]
        exact ⟨Or.inl, fun q => q.elim id (fun z => absurd z.1.symm ex)⟩
  · intro k f hik hkj hf x hx
    rw [hf x hx]
    exact li_congr (fun v => (cst_n hik).symm)
  · intro E d Q δ3 f hf h3' f3 K3
    have hb3 : bi_at δ3 33 K.1 := bi_fr hb1 (fun c' j a b => f3 c' j (by omega))
    have key : ∀ x v, cst K.1 (fun x _ => ltr x (sl K.2.2 i j)) (fun e k v => ∃ v', v = v' + 1 ∧ rd K.1 v' e.2.1 (sl K.2.2 i k) ∧ rd K.1 v' e.2.2.1 (sl K.2.2 k j)) i j 0 x v ↔ rb K.1 x (sl K.2.2 i j) v := fun x v => by
      constructor
      · rintro (h | ⟨k', h1, h2, e', h3, h4, v', h5, h6, h7⟩ | ⟨e', h3, h4⟩)
        · exact Or.inl h
        · exact Or.inr ⟨e', h3, h4, sl K.2.2 i k', sl K.2.2 k' j, sl_app (by omega) (by omega) hj, v', h5, h6, h7⟩
        · rw [List.take_zero] at h3; cases h3
      · rintro (h | ⟨e', h3, h4, a, b, h8, v', h5, h6, h7⟩)
        · exact Or.inl h
        · obtain ⟨k', k1, k2, rfl, rfl⟩ := sl_cut h8 hj (rd_dx hR h6).1 (rd_dx hR h7).1
          exact Or.inr (Or.inl ⟨k', k1, k2, e', h3, h4, v', h5, h6, h7⟩)
    refine g_Rounds_takeUnits (C := fun x v => rb K.1 x (sl K.2.2 i j) v) tb_ok49 hb3 (by rw [f3 _ _ (by decide), f1 _ _ (by decide) (by decide) trivial]; exact h3) rfl (fun x v hv => ⟨j + 1, by omega, ?_⟩) (fun x hx => ?_) (fun δ4 h4 f4 => K3 δ4 (fun x hx => ?_) (fun c q hc _ => f4 c q hc))
    · rcases hv with h | ⟨e', h3, h4, a, b, h8, v', h5, h6, h7⟩
      · exact Or.inl h
      · have hl := congrArg List.length h8
        rw [hul, List.length_append] at hl
        exact Or.inr ⟨e', h3, h4, a, b, h8, j, rfl, rd_mono (by omega) (rd_len hR (rd_dx hR h6)), rd_mono (by omega) (rd_len hR (rd_dx hR h7))⟩
    · rw [h3' x hx, hf x hx]
      exact li_congr (fun v => key x v)
    · rw [h4 x hx]
      exact li_congr (fun v => rd_rb.symm)
theorem g_Rounds_valueAll {x i j : Nat} (h : rt_at δ K) (h2 : δ 49 2 = 0) (hn : K.2.2.length ≤ 14) (hx : x < 14 + (gH K.1).length) (hx62 : x < 62) (hij : i < j) (hj : j ≤ K.2.2.length) (hQ : Q [vv_L (rv K.1 x (sl K.2.2 i j))] go_φ δ) :
    Go E (d + 1) (0, 0) mx_X7_valueAt go_φ 0 [(0, vv_A 49), (1, vv_I (x : Int)), (2, vv_I (i : Int)), (3, vv_I (j : Int))] [] δ Q :=
  g_Rounds_valueAt tb_ok49 h2 hij (by omega) hx62 (h i j hij hj (Or.inl (by omega)) x hx) hQ
end GROUNDS
