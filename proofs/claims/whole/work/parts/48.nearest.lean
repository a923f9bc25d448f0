/-! the nearest words: keys -/
/-- at how many places a word has other letters than a row from a place on -/
noncomputable def mm (w : List Nat) : Nat → List Nat → Nat
  | _, [] => 0
  | i, c :: l => (if w[i]? = some c then 0 else 1) + mm w (i + 1) l
def e8 : List Nat → Nat
  | [] => 0
  | c :: l => (c - 8) * 8 ^ l.length + e8 l
theorem mm_app (w : List Nat) : ∀ (a b : List Nat) (i : Nat), mm w i (a ++ b) = mm w i a + mm w (i + a.length) b
  | [], b, i => (Nat.zero_add _).symm
  | c :: a, b, i => by
    show (if w[i]? = some c then 0 else 1) + mm w (i + 1) (a ++ b) = (if w[i]? = some c then 0 else 1) + mm w (i + 1) a + mm w (i + (a.length + 1)) b
    rw [mm_app w a b (i + 1), show i + 1 + a.length = i + (a.length + 1) by omega, Nat.add_assoc]
theorem mm_le (w : List Nat) : ∀ (a : List Nat) (i : Nat), mm w i a ≤ a.length
  | [], _ => Nat.le_refl _
  | c :: a, i => by
    show (if w[i]? = some c then 0 else 1) + mm w (i + 1) a ≤ a.length + 1
    have := mm_le w a (i + 1)
    split <;> omega
theorem e8_app : ∀ (a b : List Nat), e8 (a ++ b) = e8 a * 8 ^ b.length + e8 b
  | [], b => by show e8 b = 0 * _ + e8 b; rw [Nat.zero_mul, Nat.zero_add]
  | c :: a, b => by
    show (c - 8) * 8 ^ (a ++ b).length + e8 (a ++ b) = ((c - 8) * 8 ^ a.length + e8 a) * 8 ^ b.length + e8 b
    rw [e8_app a b, List.length_append, Nat.pow_add, Nat.add_mul, Nat.mul_assoc, Nat.add_assoc]
def ltw (u : List Nat) : Prop := ∀ x ∈ u, 8 ≤ x ∧ x < 14
theorem e8_lt : ∀ {u : List Nat}, ltw u → e8 u < 8 ^ u.length
  | [], _ => by decide
  | c :: a, h => by
    have h1 := e8_lt (u := a) (fun x hx => h x (List.mem_cons_of_mem _ hx))
    have h2 := h c (List.mem_cons_self ..)
    show (c - 8) * 8 ^ a.length + e8 a < 8 ^ (a.length + 1)
    have h3 : (c - 8 + 1) * 8 ^ a.length ≤ 8 * 8 ^ a.length := Nat.mul_le_mul_right _ (by omega)
    rw [Nat.add_mul, Nat.one_mul] at h3
    rw [Nat.pow_succ]
    omega
theorem e8_inj : ∀ {u v : List Nat}, ltw u → ltw v → u.length = v.length → e8 u = e8 v → u = v
  | [], [], _, _, _, _ => rfl
  | [], c :: v, _, _, h, _ => by simp at h
  | c :: u, [], _, _, h, _ => by simp at h
  | c :: u, b :: v, h1, h2, h, e => by
    have hl : u.length = v.length := by simpa using h
    have a1 := e8_lt (u := u) (fun x hx => h1 x (List.mem_cons_of_mem _ hx))
    have a2 := e8_lt (u := v) (fun x hx => h2 x (List.mem_cons_of_mem _ hx))
    have a3 := h1 c (List.mem_cons_self ..)
    have a4 := h2 b (List.mem_cons_self ..)
    have e : (c - 8) * 8 ^ u.length + e8 u = (b - 8) * 8 ^ v.length + e8 v := e
    rw [← hl] at e a2
    have e1 := congrArg (· / 8 ^ u.length) e
    have e2 := congrArg (· % 8 ^ u.length) e
    simp only [Nat.mul_comm _ (8 ^ u.length)] at e1 e2
    rw [Nat.mul_add_div (Nat.pow_pos (by decide)), Nat.mul_add_div (Nat.pow_pos (by decide)), Nat.div_eq_of_lt a1, Nat.div_eq_of_lt a2] at e1
    rw [Nat.mul_add_mod, Nat.mul_add_mod, Nat.mod_eq_of_lt a1, Nat.mod_eq_of_lt a2] at e2
    rw [e8_inj (fun x hx => h1 x (List.mem_cons_of_mem _ hx)) (fun x hx => h2 x (List.mem_cons_of_mem _ hx)) hl e2]
    congr 1
    omega
theorem dx_ltw {R : Nat → List Nat} {x : Nat} {u : List Nat} (h : dx R x u) : ltw u := ds_lets h.2
noncomputable def nk (w : List Nat) (i : Nat) (u : List Nat) : Nat := ne_key (mm w i u) (e8 u)
noncomputable def n2 (a b t : Nat) : Nat := ne_key (a / M42 + b / M42) (a % M42 * 8 ^ t + b % M42)
theorem ne_two_n2 (a b t : Nat) : ne_two (a : Int) (b : Int) t = (n2 a b t : Int) := by
  unfold ne_two n2
  rw [Int.toNat_natCast, Int.toNat_natCast]
theorem e8_M {u : List Nat} (h : ltw u) (hl : u.length ≤ 14) : e8 u < M42 := Nat.lt_of_lt_of_le (e8_lt h) (ne_8 hl)
theorem n2_nk {w : List Nat} {i : Nat} {a b : List Nat} (ha : ltw a) (hb : ltw b) (hl : a.length + b.length ≤ 14) : n2 (nk w i a) (nk w (i + a.length) b) b.length = nk w i (a ++ b) := by
  unfold n2 nk
  rw [ne_div (e8_M ha (by omega)), ne_div (e8_M hb (by omega)), ne_mod (e8_M ha (by omega)), ne_mod (e8_M hb (by omega)), mm_app, e8_app]
theorem ne_le {a1 a2 b1 b2 : Nat} (hb : b2 < M42) : ne_key a1 a2 ≤ ne_key b1 b2 → a1 ≤ b1 := fun h => by
  unfold ne_key at h
  refine Nat.le_of_not_lt (fun q => ?_)
  have : (b1 + 1) * M42 ≤ a1 * M42 := Nat.mul_le_mul_right _ q
  rw [Nat.add_mul, Nat.one_mul] at this
  omega
theorem ne_le2 {a1 a2 b1 b2 : Nat} (ha : a2 < M42) (h : a1 < b1 ∨ (a1 = b1 ∧ a2 ≤ b2)) : ne_key a1 a2 ≤ ne_key b1 b2 := by
  unfold ne_key
  rcases h with h | ⟨rfl, h⟩
  · have : (a1 + 1) * M42 ≤ b1 * M42 := Nat.mul_le_mul_right _ h
    rw [Nat.add_mul, Nat.one_mul] at this
    omega
  · omega
theorem ne_lex {a1 a2 b1 b2 : Nat} (ha : a2 < M42) (hb : b2 < M42) : ne_key a1 a2 ≤ ne_key b1 b2 ↔ (a1 < b1 ∨ (a1 = b1 ∧ a2 ≤ b2)) := by
  constructor
  · intro h
    have h1 := ne_le hb h
    by_cases e : a1 = b1
    · subst e
      unfold ne_key at h
      exact Or.inr ⟨rfl, by omega⟩
    · exact Or.inl (by omega)
  · exact ne_le2 ha
/-- keys of words that are derived -/
def nc (R : Nat → List Nat) (w : List Nat) (x i j v : Nat) : Prop := ∃ u, u.length = j - i ∧ dx R x u ∧ v = nk w i u
def npc (R : Nat → List Nat) (w : List Nat) (i j : Nat) (e : tP) (k v : Nat) : Prop := ∃ v1 v2, nc R w e.2.1 i k v1 ∧ nc R w e.2.2.1 k j v2 ∧ v = n2 v1 v2 (j - k)
def nlt (w : List Nat) (i j x v : Nat) : Prop := 8 ≤ x ∧ x < 14 ∧ j = i + 1 ∧ v = nk w i [x]
def nbs (R : Nat → List Nat) (w : List Nat) (i j x v : Nat) : Prop := nlt w i j x v ∨ ∃ e, e ∈ gP R ∧ e.1 = x ∧ ∃ k, i < k ∧ k < j ∧ npc R w i j e k v
section GNE
variable {R : Nat → List Nat} {w : List Nat}
theorem nc_key {x i j v : Nat} (hj : j ≤ i + 14) (h : nc R w x i j v) : ∃ a1 a2, v = ne_key a1 a2 ∧ a1 ≤ 14 ∧ a2 < 8 ^ (j - i) ∧ a2 < M42 := by
  obtain ⟨u, h1, h2, rfl⟩ := h
  have h3 := mm_le w u i
  have h4 := e8_lt (dx_ltw h2)
  exact ⟨_, _, rfl, by omega, by rw [← h1]; exact h4, e8_M (dx_ltw h2) (by omega)⟩
theorem nbs_nc (hR : ∀ r, rl_ok (R r)) {x i j v : Nat} (hij : i < j) (hj : j ≤ i + 14) : nbs R w i j x v ↔ ∃ u, u.length = j - i ∧ dxB R x u ∧ v = nk w i u := by
  constructor
  · rintro (⟨h1, h2, rfl, rfl⟩ | ⟨e, he, rfl, k, k1, k2, v1, v2, ⟨a, a1, a2, rfl⟩, ⟨b, b1, b2, rfl⟩, rfl⟩)
    · exact ⟨[x], by show 1 = _; omega, Or.inl ⟨h1, h2, rfl⟩, rfl⟩
    · refine ⟨a ++ b, by rw [List.length_append]; omega, Or.inr ⟨e, he, rfl, a, b, rfl, a2, b2⟩, ?_⟩
      rw [← n2_nk (dx_ltw a2) (dx_ltw b2) (by omega), b1, a1, show i + (k - i) = k by omega]
  · rintro ⟨u, h1, ⟨a, b, rfl⟩ | ⟨e, he, rfl, a, b, rfl, a2, b2⟩, rfl⟩
    · exact Or.inl ⟨a, b, by have : (1 : Nat) = j - i := h1; omega, rfl⟩
    · rw [List.length_append] at h1
      have p1 := List.length_pos_iff.mpr a2.1
      have p2 := List.length_pos_iff.mpr b2.1
      refine Or.inr ⟨e, he, rfl, i + a.length, by omega, by omega, _, _, ⟨a, by omega, a2, rfl⟩, ⟨b, by omega, b2, rfl⟩, ?_⟩
      rw [show j - (i + a.length) = b.length by omega, n2_nk (dx_ltw a2) (dx_ltw b2) (by omega)]
theorem nc_ufn (hR : ∀ r, rl_ok (R r)) {x i j v : Nat} (hij : i < j) (hj : j ≤ i + 14) : nc R w x i j v ↔ ufn R (nbs R w i j) x v := by
  constructor
  · rintro ⟨u, h1, h2, h3⟩
    rcases (dx_step hR).mp h2 with q | ⟨y, q1, q2⟩
    · exact Or.inl ((nbs_nc hR hij hj).mpr ⟨u, h1, q, h3⟩)
    · exact Or.inr ⟨y, q1, (nbs_nc hR hij hj).mpr ⟨u, h1, q2, h3⟩⟩
  · rintro (h | ⟨y, q1, q2⟩)
    · obtain ⟨u, h1, h2, h3⟩ := (nbs_nc hR hij hj).mp h
      exact ⟨u, h1, (dx_step hR).mpr (Or.inl h2), h3⟩
    · obtain ⟨u, h1, h2, h3⟩ := (nbs_nc hR hij hj).mp q2
      exact ⟨u, h1, (dx_step hR).mpr (Or.inr ⟨y, q1, h2⟩), h3⟩
theorem nc_dp {x i j : Nat} (hij : i < j) : (∃ v, nc R w x i j v) ↔ dp R pla x i j := by
  constructor
  · rintro ⟨v, u, h1, h2, _⟩
    exact ⟨u, by omega, fun k c hk => dx_ltw h2 c (List.mem_of_getElem? hk), h2⟩
  · rintro ⟨u, h1, _, h2⟩
    exact ⟨_, u, by omega, h2, rfl⟩
noncomputable def nv (R : Nat → List Nat) (w : List Nat) (x i j : Nat) : Int := li (nc R w x i j)
/-- the least key of two together -/
theorem nv_pair {e : tP} {i k j : Nat} (hik : i < k) (hkj : k < j) (hj : j ≤ i + 14) (h1 : dp R pla e.2.1 i k) (h2 : dp R pla e.2.2.1 k j) :
    ne_pre (nv R w e.2.1 i k) (nv R w e.2.2.1 k j) (k - i) (j - k) ∧ ne_two (nv R w e.2.1 i k) (nv R w e.2.2.1 k j) (j - k) = li (npc R w i j e k) ∧ (∃ v, npc R w i j e k v) := by
  obtain ⟨v1, hv1⟩ := (nc_dp (w := w) hik).mpr h1
  obtain ⟨v2, hv2⟩ := (nc_dp (w := w) hkj).mpr h2
  unfold nv
  rcases li_cases (nc R w e.2.1 i k) with ⟨_, q⟩ | ⟨a, ea, a1, a2⟩
  · exact absurd hv1 (q _)
  rcases li_cases (nc R w e.2.2.1 k j) with ⟨_, q⟩ | ⟨b, eb, b1, b2⟩
  · exact absurd hv2 (q _)
  obtain ⟨p1, p2, rfl, p3, p4, p5⟩ := nc_key (by omega) a1
  obtain ⟨q1, q2, rfl, q3, q4, q5⟩ := nc_key (by omega) b1
  rw [ea, eb]
  refine ⟨⟨p1, p2, q1, q2, rfl, rfl, p3, q3, p4, q4⟩, ?_, _, _, _, a1, b1, rfl⟩
  rw [ne_two_n2]
  refine (li_t ⟨_, _, a1, b1, rfl⟩ (fun m ⟨v1, v2, c1, c2, e⟩ => ?_)).symm
  have d1 := a2 v1 c1
  have d2 := b2 v2 c2
  obtain ⟨r1, r2, rfl, r3, r4, r5⟩ := nc_key (by omega) c1
  obtain ⟨s1, s2, rfl, s3, s4, s5⟩ := nc_key (by omega) c2
  rw [e]
  unfold n2
  rw [ne_div p5, ne_div q5, ne_mod p5, ne_mod q5, ne_div r5, ne_div s5, ne_mod r5, ne_mod s5]
  have l1 := (ne_lex p5 r5).mp d1
  have l2 := (ne_lex q5 s5).mp d2
  have hlt : p2 * 8 ^ (j - k) + q2 < M42 := Nat.lt_of_lt_of_le (ne_cat p4 q4) (ne_8 (by omega))
  refine ne_le2 hlt ?_
  rcases l1 with l1 | ⟨l1, l3⟩
  · exact Or.inl (by rcases l2 with l2 | ⟨l2, _⟩ <;> omega)
  · rcases l2 with l2 | ⟨l2, l4⟩
    · exact Or.inl (by omega)
    · refine Or.inr ⟨by omega, ?_⟩
      have := Nat.mul_le_mul_right (8 ^ (j - k)) l3
      omega
theorem nc_bdd {x i j : Nat} (hj : j ≤ i + 14) : bdd (nc R w x i j) := fun v h => ⟨v, by
  obtain ⟨a1, a2, e, h3, h4, h5⟩ := nc_key hj h
  rw [e]
  have h6 : a1 * M42 ≤ 14 * M42 := Nat.mul_le_mul_right _ h3
  have h7 := M42_lit
  unfold ne_key
  generalize a1 * M42 = p at h6 ⊢
  generalize M42 = q at h5 h6 h7
  omega, h⟩
end GNE
section GNEAREST
variable {E : go_E} {d : Nat} {δ : Nat → Nat → Int} {Q : List go_V → go_F → (Nat → Nat → Int) → Prop} {R : Nat → List Nat} {K : sK}
def nt_at (δ : Nat → Nat → Int) (K : sK) : Prop := tvNearest_at δ 71 false (fun x i j => nv K.1 K.2.2 x i j) (14 + (gH K.1).length) K.2.2.length (K.2.2.length + 1) 0
theorem npc_bdd {w : List Nat} {i j k : Nat} {e : tP} (hik : i < k) (hkj : k < j) (hj : j ≤ i + 14) : bdd (npc R w i j e k) := fun v h => ⟨v, by
  obtain ⟨v1, v2, c1, c2, rfl⟩ := h
  obtain ⟨r1, r2, rfl, r3, r4, r5⟩ := nc_key (by omega) c1
  obtain ⟨s1, s2, rfl, s3, s4, s5⟩ := nc_key (by omega) c2
  unfold n2
  rw [ne_div r5, ne_div s5, ne_mod r5, ne_mod s5]
  have hlt : r2 * 8 ^ (j - k) + s2 < M42 := Nat.lt_of_lt_of_le (ne_cat r4 s4) (ne_8 (by omega))
  have h6 : (r1 + s1) * M42 ≤ 28 * M42 := Nat.mul_le_mul_right _ (by omega)
  have h7 := M42_lit
  unfold ne_key
  generalize (r1 + s1) * M42 = p at h6 ⊢
  generalize M42 = q at hlt h6 h7
  omega, h⟩
theorem nlt_bdd {w : List Nat} {i j x : Nat} : bdd (nlt w i j x) := fun v h => ⟨v, by
  obtain ⟨h1, h2, h3, rfl⟩ := h
  have h5 := e8_M (u := [x]) (fun y hy => by rw [List.mem_singleton] at hy; subst hy; exact ⟨h1, h2⟩) (show 1 ≤ 14 by decide)
  have h3 := mm_le w [x] i
  have h6 : mm w i [x] * M42 ≤ 1 * M42 := Nat.mul_le_mul_right _ h3
  have h7 := M42_lit
  unfold nk ne_key
  generalize mm w i [x] * M42 = p at h6 ⊢
  generalize M42 = q at h5 h6 h7
  omega, h⟩
theorem g_Nearest_fillAll (hb : bi_at δ 33 K.1) (hc : ct_at δ 62 true K.1 pla 14) (ht : td_at δ 3 K) (h2 : δ 71 2 = 0) (h3 : δ 71 3 = -1)
    (hQ : ∀ δ', nt_at δ' K → (∀ c q, c ≠ 72 → c ≠ 73 → δ' c q = δ c q) → Q [] go_φ δ') : Go E (d + 5) (0, 0) mx_X7_fill go_φ 0 [(0, vv_A 71), (1, vv_I (K.2.2.length : Int))] [] δ Q := by
  have hR := hb.2.2.2.2.2.2
  have hn := ht.2.2.2.2.2.2.2.2.1
  have hH := gH_le hR
  refine g_Nearest_fill (d := d) (o := 71) (ns := 14 + (gH K.1).length) (V := fun x i j => nv K.1 K.2.2 x i j) tb_ok71 h2 hn (by omega) (fun q => by cases q) (fun E d Q δ1 i j hij hj f1 hV K1 => ?_) (fun δ' h f => hQ δ' h (fun c q a b => f c q a b trivial))
  have hb1 : bi_at δ1 33 K.1 := bi_fr hb (fun c' j a b => f1 c' j (by omega) (by omega) trivial)
  have hc1 : ct_at δ1 62 true K.1 pla 14 := ct_fr hc (fun c' j hc' => f1 c' j (by omega) (by omega) trivial)
  have ht1 : td_at δ1 3 K := td_fr3 ht (fun c' j hc' => f1 c' j (by omega) (by omega) trivial)
  refine g_Nearest_fillSpan (d := d) (V := fun x i j => nv K.1 K.2.2 x i j) (J := fun k p f => ∀ x, x < 14 + (gH K.1).length → f x = li (cst K.1 (nlt K.2.2 i j) (npc K.1 K.2.2 i j) i k p x))
    tb_ok71 tn_r71 ch_ok62 hb1 ht1 (Or.inl hj) rfl hc1 (by rw [f1 _ _ (by decide) (by decide) trivial]; exact h2) (by rw [f1 _ _ (by decide) (by decide) trivial]; exact h3) hij (by omega) hV ?_ ?_ ?_ ?_ (fun δ2 h2 f2 => K1 δ2 h2 f2)
  · intro x hx
    rw [li_congr (fun v => cst_0)]
    by_cases e : j = i + 1
    · rw [if_pos e]
      by_cases q : 8 ≤ x ∧ x < 14
      · have hl : li (nlt K.2.2 i j x) = ne_let K.2.2 x i := by
          rw [li_t (n := nk K.2.2 i [x]) ⟨q.1, q.2, e, rfl⟩ (fun m ⟨_, _, _, h⟩ => by rw [h]; exact Nat.le_refl _)]
          unfold ne_let nk
          rw [show e8 [x] = x - 8 by show (x - 8) * 8 ^ 0 + 0 = _; omega, show mm K.2.2 i [x] = (if K.2.2[i]? = some x then 0 else 1) from rfl]
        rw [hl]
        unfold tlf
        exact if_pos ⟨q.1, q.2, [x], rfl, dpw_one.mpr q, dx_let q.1 q.2⟩
      · rw [li_f (fun n z => q ⟨z.1, z.2.1⟩)]
        unfold tlf
        exact if_neg (fun z => q ⟨z.1, z.2.1⟩)
    · rw [if_neg e, li_f (fun n z => e z.2.2.1)]
  · intro k p e hik hkj he f hf
    have hem : e ∈ gP K.1 := List.mem_of_getElem? he
    have hlt := pr_lt hR hem
    refine ⟨fun hno x hx => ?_, fun q1 q2 => ?_⟩
    · rw [hf x hx]
      refine li_congr (fun v => ?_)
      rw [cst_s he]
      exact ⟨Or.inl, fun q => q.elim id (fun ⟨_, v1, v2, w1, w2, _⟩ => absurd ⟨(nc_dp hik).mp ⟨v1, w1⟩, (nc_dp hkj).mp ⟨v2, w2⟩⟩ hno)⟩
    · obtain ⟨np, hpc, v0, hv0⟩ := nv_pair (w := K.2.2) hik hkj (show j ≤ i + 14 by omega) q1 q2
      have hne : li (npc K.1 K.2.2 i j e k) ≠ -1 := li_ne hv0
      refine ⟨np, ?_, ?_, fun x hx => ?_⟩
      · rw [hf e.1 hlt.1]
        refine li_rng (fun v hv => ?_)
        rcases hv with h | ⟨k', h1, h2, e', h3, h4, h5⟩ | ⟨e', h3, h4, h5⟩
        · obtain ⟨m, m1, m2⟩ := nlt_bdd v h; exact ⟨m, m1, Or.inl m2⟩
        · obtain ⟨m, m1, m2⟩ := npc_bdd (by omega) (by omega) (by omega) v h5; exact ⟨m, m1, Or.inr (Or.inl ⟨k', h1, h2, e', h3, h4, m2⟩)⟩
        · obtain ⟨m, m1, m2⟩ := npc_bdd (by omega) (by omega) (by omega) v h5; exact ⟨m, m1, Or.inr (Or.inr ⟨e', h3, h4, m2⟩)⟩
      · rw [hpc]
        exact li_rng (npc_bdd (by omega) (by omega) (by omega))
      · show fup f e.1 _ x = _
        by_cases ex : x = e.1
        · subst ex
          rw [fup_eq, hf e.1 hlt.1, hpc]
          refine tb_min_li (fun v => ?_) hne
          rw [cst_s he]
          exact ⟨fun q => q.elim Or.inl (fun z => Or.inr z.2), fun q => q.elim Or.inl (fun z => Or.inr ⟨rfl, z⟩)⟩
        · rw [fup_ne ex, hf x hx]
          refine li_congr (fun v => ?_)
          rw [cst_s he]
          exact ⟨Or.inl, fun q => q.elim id (fun z => absurd z.1.symm ex)⟩
  · intro k f hik hkj hf x hx
    rw [hf x hx]
    exact li_congr (fun v => (cst_n hik).symm)
  · intro E d Q δ3 f hf h3' f3 K3
    have hb3 : bi_at δ3 33 K.1 := bi_fr hb1 (fun c' j a b => f3 c' j (by omega))
    have key : ∀ x v, cst K.1 (nlt K.2.2 i j) (npc K.1 K.2.2 i j) i j 0 x v ↔ nbs K.1 K.2.2 i j x v := fun x v => by
      constructor
      · rintro (h | ⟨k', h1, h2, e', h3, h4, h5⟩ | ⟨e', h3, h4⟩)
        · exact Or.inl h
        · exact Or.inr ⟨e', h3, h4, k', h1, h2, h5⟩
        · rw [List.take_zero] at h3; cases h3
      · rintro (h | ⟨e', h3, h4, k', h1, h2, h5⟩)
        · exact Or.inl h
        · exact Or.inr (Or.inl ⟨k', h1, h2, e', h3, h4, h5⟩)
    refine g_Nearest_takeUnits (C := fun x v => nbs K.1 K.2.2 i j x v) tb_ok71 hb3 (by rw [f3 _ _ (by decide), f1 _ _ (by decide) (by decide) trivial]; exact h3) rfl (fun x v hv => ?_) (fun x hx => ?_) (fun δ4 h4 f4 => K3 δ4 (fun x hx => ?_) (fun c q hc _ => f4 c q hc))
    · rcases hv with h | ⟨e', h3, h4, k', h1, h2, h5⟩
      · obtain ⟨m, m1, m2⟩ := nlt_bdd v h; exact ⟨m, m1, Or.inl m2⟩
      · obtain ⟨m, m1, m2⟩ := npc_bdd (by omega) (by omega) (by omega) v h5; exact ⟨m, m1, Or.inr ⟨e', h3, h4, k', h1, h2, m2⟩⟩
    · rw [h3' x hx, hf x hx]
      exact li_congr (fun v => key x v)
    · rw [h4 x hx]
      exact li_congr (fun v => (nc_ufn hR hij (by omega)).symm)
theorem g_Nearest_valueAll {x i j : Nat} (h : nt_at δ K) (h2 : δ 71 2 = 0) (hn : K.2.2.length ≤ 14) (hx : x < 14 + (gH K.1).length) (hx62 : x < 62) (hij : i < j) (hj : j ≤ K.2.2.length) (hQ : Q [vv_L (nv K.1 K.2.2 x i j)] go_φ δ) :
    Go E (d + 1) (0, 0) mx_X7_valueAt go_φ 0 [(0, vv_A 71), (1, vv_I (x : Int)), (2, vv_I (i : Int)), (3, vv_I (j : Int))] [] δ Q :=
  g_Nearest_valueAt tb_ok71 tn_r71 h2 hij (by omega) hx62 (h i j hij hj (Or.inl (by omega)) x hx) hQ
end GNEAREST
