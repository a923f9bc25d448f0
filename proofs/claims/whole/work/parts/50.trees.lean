/-! how many trees -/
noncomputable def pw (t : Nat → Nat → Nat → Nat) (pl : Nat → Nat → Prop) (p i k : Nat) : Nat := if p < 8 then t p i k else n01 (k = i + 1 ∧ pl i p)
noncomputable def fit (t : Nat → Nat → Nat → Nat) (pl : Nat → Nat → Prop) : List Nat → Nat → Nat → Nat
  | [], i, j => n01 (i = j)
  | p :: l, i, j => su (j + 1) (fun k => nif (i < k) (pw t pl p i k * fit t pl l k j))
noncomputable def gb (t : Nat → Nat → Nat → Nat) (pl : Nat → Nat → Prop) (l : List Nat) (z i j : Nat) : Nat := nif (l.getD 0 0 = z ∧ 2 ≤ l.length ∧ ¬ (l.length = 2 ∧ l.getD 1 0 < 8)) (fit t pl (l.drop 1) i j)
noncomputable def trg (t : Nat → Nat → Nat → Nat) (pl : Nat → Nat → Prop) (R : Nat → List Nat) (z i j : Nat) : Nat := su 16 (fun r => gb t pl (R r) z i j)
noncomputable def TT (R : Nat → List Nat) (pl : Nat → Nat → Prop) : Nat → Nat → Nat → Nat → Nat
  | 0 => fun _ _ _ => 0
  | n + 1 => fun x i j => su 8 (fun z => wy (un R) 8 (2 ^ x) x z * trg (TT R pl n) pl R z i j)
noncomputable def Tn (R : Nat → List Nat) (pl : Nat → Nat → Prop) (x i j : Nat) : Nat := TT R pl (j - i) x i j
section GFIT
variable {t t' : Nat → Nat → Nat → Nat} {pl : Nat → Nat → Prop} {R : Nat → List Nat}
theorem fit_cons (p : Nat) (l : List Nat) (i j : Nat) : fit t pl (p :: l) i j = su (j + 1) (fun k => nif (i < k) (pw t pl p i k * fit t pl l k j)) := rfl
theorem fit_0 : ∀ {l : List Nat} {i j : Nat}, j < i + l.length → l ≠ [] ∨ i ≠ j → fit t pl l i j = 0
  | [], i, j, h, h2 => n01_f (h2.resolve_left (fun q => q rfl))
  | p :: l, i, j, h, _ => by
    rw [fit_cons]
    refine su_zero (fun k hk => ?_)
    by_cases q : i < k
    · rw [nif_t q]
      rw [List.length_cons] at h
      by_cases e : l = [] ∧ k = j
      · obtain ⟨rfl, rfl⟩ := e
        simp at h
        omega
      · rw [fit_0 (l := l) (i := k) (j := j) (by omega) (by by_cases w : l = []; exact Or.inr (fun z => e ⟨w, z⟩); exact Or.inl w), Nat.mul_zero]
    · exact nif_f q
theorem fit_nil {l : List Nat} {i j : Nat} (h : j ≤ i) (hl : l ≠ []) : fit t pl l i j = 0 := fit_0 (by have := List.length_pos_iff.mpr hl; omega) (Or.inl hl)
theorem fit_congr : ∀ {l : List Nat} {i j : Nat}, (∀ p a b, p ∈ l → p < 8 → i ≤ a → a < b → b ≤ j → b - a + l.length ≤ j - i + 1 → t p a b = t' p a b) → fit t pl l i j = fit t' pl l i j
  | [], _, _, _ => rfl
  | p :: l, i, j, h => by
    rw [fit_cons, fit_cons]
    refine su_congr (fun k hk => nif_c Iff.rfl (fun q => ?_))
    have e : fit t pl l k j = fit t' pl l k j := fit_congr (fun p' a b h1 h2 h3 h4 h5 h6 => h p' a b (List.mem_cons_of_mem _ h1) h2 (by omega) h4 h5 (by rw [List.length_cons]; omega))
    by_cases w : k + l.length ≤ j
    · have e2 : pw t pl p i k = pw t' pl p i k := by
        unfold pw
        by_cases p8 : p < 8
        · rw [if_pos p8, if_pos p8]
          exact h p i k (List.mem_cons_self ..) p8 (Nat.le_refl _) q (by omega) (by rw [List.length_cons]; omega)
        · rw [if_neg p8, if_neg p8]
      rw [e, e2]
    · have e0 : ∀ t : Nat → Nat → Nat → Nat, fit t pl l k j = 0 := fun t => fit_0 (by omega) (by
        by_cases z : l = []
        · subst z; exact Or.inr (by simp at w; omega)
        · exact Or.inl z)
      rw [e0 t, e0 t', Nat.mul_zero, Nat.mul_zero]
theorem gb_0 {l : List Nat} {z i j : Nat} (h : j ≤ i) : gb t pl l z i j = 0 := by
  unfold gb
  by_cases q : l.getD 0 0 = z ∧ 2 ≤ l.length ∧ ¬ (l.length = 2 ∧ l.getD 1 0 < 8)
  · rw [nif_t q]
    exact fit_nil h (fun w => by have := congrArg List.length w; rw [List.length_drop] at this; simp at this; omega)
  · exact nif_f q
theorem trg_0 {z i j : Nat} (h : j ≤ i) : trg t pl R z i j = 0 := su_zero (fun _ _ => gb_0 h)
theorem gb_congr {l : List Nat} {z i j : Nat} (h : ∀ p a b, p < 8 → i ≤ a → a < b → b ≤ j → b - a < j - i → t p a b = t' p a b) : gb t pl l z i j = gb t' pl l z i j := by
  unfold gb
  refine nif_c Iff.rfl (fun q => fit_congr (fun p a b h1 h2 h3 h4 h5 h6 => h p a b h2 h3 h4 h5 ?_))
  rw [List.length_drop] at h6
  by_cases e : l.length = 2
  · exfalso
    refine q.2.2 ⟨e, ?_⟩
    cases l with
    | nil => simp at e
    | cons x l =>
      cases l with
      | nil => simp at e
      | cons y l =>
        have : l = [] := List.eq_nil_of_length_eq_zero (by have e : l.length + 2 = 2 := e; omega)
        subst this
        rw [List.drop_succ_cons, List.drop_zero, List.mem_singleton] at h1
        subst h1
        exact h2
  · omega
theorem trg_congr {z i j : Nat} (h : ∀ p a b, p < 8 → i ≤ a → a < b → b ≤ j → b - a < j - i → t p a b = t' p a b) : trg t pl R z i j = trg t' pl R z i j := su_congr (fun _ _ => gb_congr h)
theorem TT_fuel : ∀ n m x i j, j - i ≤ n → j - i ≤ m → TT R pl n x i j = TT R pl m x i j := by
  have h0 : ∀ m x i j, j ≤ i → TT R pl m x i j = 0 := fun m x i j h => by
    cases m with
    | zero => rfl
    | succ m => exact su_zero (fun z _ => by rw [trg_0 h, Nat.mul_zero])
  intro n
  induction n with
  | zero => intro m x i j h1 h2; rw [h0 0 x i j (by omega), h0 m x i j (by omega)]
  | succ n ih =>
    intro m x i j h1 h2
    cases m with
    | zero => rw [h0 0 x i j (by omega), h0 (n + 1) x i j (by omega)]
    | succ m => exact su_congr (fun z _ => by rw [trg_congr (fun p a b _ h3 h4 h5 h6 => ih m p a b (by omega) (by omega))])
noncomputable def Gn (R : Nat → List Nat) (pl : Nat → Nat → Prop) (z i j : Nat) : Nat := trg (Tn R pl) pl R z i j
theorem Gn_0 {z i j : Nat} (h : j ≤ i) : Gn R pl z i j = 0 := trg_0 h
theorem Tn_eq (x i j : Nat) : Tn R pl x i j = su 8 (fun z => wy (un R) 8 (2 ^ x) x z * Gn R pl z i j) := by
  unfold Tn Gn
  cases h : j - i with
  | zero => exact (su_zero (fun z _ => by rw [trg_0 (by omega), Nat.mul_zero])).symm
  | succ m =>
    refine su_congr (fun z _ => ?_)
    rw [trg_congr (t := TT R pl m) (t' := fun x i j => TT R pl (j - i) x i j) (fun p a b _ h3 h4 h5 h6 => TT_fuel _ _ _ _ _ (by omega) (by omega))]
    rfl
theorem Tn_0 {x i j : Nat} (h : j ≤ i) : Tn R pl x i j = 0 := by rw [Tn_eq]; exact su_zero (fun z _ => by rw [Gn_0 h, Nat.mul_zero])
/-- trees of what a symbol stands for -/
noncomputable def Vn (R : Nat → List Nat) (pl : Nat → Nat → Prop) (x i j : Nat) : Nat := fit (Tn R pl) pl (sm R x) i j
theorem fit_one {p i j : Nat} (h : i < j) : fit t pl [p] i j = pw t pl p i j := by
  rw [fit_cons, su_one (k := j) _ (by omega) (fun k hk hkj => by
    by_cases q : i < k
    · rw [nif_t q, show fit t pl [] k j = 0 from n01_f hkj, Nat.mul_zero]
    · exact nif_f q), nif_t h, show fit t pl [] j j = 1 from n01_t rfl, Nat.mul_one]
theorem Vn_lo {x i j : Nat} (hx : x < 14) (h : i < j) : Vn R pl x i j = pw (Tn R pl) pl x i j := by unfold Vn; rw [sm_lo hx, fit_one h]
theorem Vn_name {x i j : Nat} (hx : x < 8) (h : i < j) : Vn R pl x i j = Tn R pl x i j := by rw [Vn_lo (by omega) h]; unfold pw; rw [if_pos hx]
theorem Vn_let {x i j : Nat} (h8 : 8 ≤ x) (hx : x < 14) (h : i < j) : Vn R pl x i j = n01 (j = i + 1 ∧ pl i x) := by rw [Vn_lo hx h]; unfold pw; rw [if_neg (by omega)]
theorem Vn_0 (hR : ∀ r, rl_ok (R r)) {x i j : Nat} (hx : x < 14 + (gH R).length) (h : j ≤ i) : Vn R pl x i j = 0 := by
  refine fit_nil h (fun q => ?_)
  by_cases h14 : x < 14
  · rw [sm_lo h14] at q; cases q
  · obtain ⟨r, k, hr, hk, e⟩ := gH_idx (R := R) (i := x - 14) (by omega)
    rw [show x = 14 + (gh R r).length + k by omega, sm_hi hr hk] at q
    have := congrArg List.length q
    rw [List.length_drop] at this
    simp at this
    omega
/-- what a pair has over the cuts of a span -/
noncomputable def pcs (R : Nat → List Nat) (pl : Nat → Nat → Prop) (e : tP) (i j : Nat) : Nat := su j (fun k => nif (i < k) (Vn R pl e.2.1 i k * Vn R pl e.2.2.1 k j))
theorem pcs_eq (hR : ∀ r, rl_ok (R r)) {r k i j : Nat} (hr : r < 16) (hk : k + 2 < (R r).length) : pcs R pl (pr_e (gh R r).length r (R r) k) i j = fit (Tn R pl) pl ((R r).drop (k + 1)) i j := by
  rw [li_drop1 (by omega), fit_cons, su_s]
  have h1 := pr_sm_a hR hk
  have h2 := pr_sm_b hR hr hk
  have hlt := rl_getD_lt (hR r) (k := k + 1) (by omega)
  have hne : (R r).drop (k + 1 + 1) ≠ [] := fun w => by have := congrArg List.length w; rw [List.length_drop] at this; simp at this; omega
  rw [fit_nil (i := j) (j := j) (Nat.le_refl _) hne, Nat.mul_zero]
  have e0 : nif (i < j) 0 = 0 := by
    by_cases q : i < j
    · exact nif_t q
    · exact nif_f q
  rw [e0, Nat.add_zero]
  refine su_congr (fun c hc => nif_c Iff.rfl (fun q => ?_))
  show Vn R pl ((R r).getD (k + 1) 0) i c * Vn R pl (pr_b (gh R r).length k (R r)) c j = _
  rw [Vn_lo hlt q]
  unfold Vn
  rw [h2]
end GFIT
/-! sums over lists of pairs -/
def lsu : List tP → (tP → Nat) → Nat
  | [], _ => 0
  | e :: l, g => g e + lsu l g
theorem lsu_app (a b : List tP) (g : tP → Nat) : lsu (a ++ b) g = lsu a g + lsu b g := by
  induction a with
  | nil => exact (Nat.zero_add _).symm
  | cons e a ih => show g e + lsu (a ++ b) g = g e + lsu a g + lsu b g; rw [ih, Nat.add_assoc]
theorem lsu_congr {l : List tP} {g g' : tP → Nat} (h : ∀ e ∈ l, g e = g' e) : lsu l g = lsu l g' := by
  induction l with
  | nil => rfl
  | cons e l ih => show g e + lsu l g = g' e + lsu l g'; rw [h e (List.mem_cons_self ..), ih (fun x hx => h x (List.mem_cons_of_mem _ hx))]
theorem lsu_su (l : List tP) (n : Nat) (g : tP → Nat → Nat) : lsu l (fun e => su n (g e)) = su n (fun k => lsu l (fun e => g e k)) := by
  induction l with
  | nil => exact (su_zero (fun _ _ => rfl)).symm
  | cons e l ih => show su n (g e) + lsu l (fun e => su n (g e)) = su n (fun k => g e k + lsu l (fun e => g e k)); rw [su_add, ih]
theorem lsu_map (m : Nat) (f : Nat → tP) (g : tP → Nat) : lsu ((List.range m).map f) g = su m (fun k => g (f k)) := by
  induction m with
  | zero => rfl
  | succ m ih => rw [List.range_succ, List.map_append, lsu_app, ih]; show _ + (g (f m) + 0) = _; rw [Nat.add_zero]; rfl
theorem lsu_gp (R : Nat → List Nat) (n : Nat) (g : tP → Nat) : lsu (gp R n) g = su n (fun r => su ((R r).length - 2) (fun k => g (pr_e (gh R r).length r (R r) k))) := by
  induction n with
  | zero => rfl
  | succ n ih =>
    show lsu (gp R n ++ pr_l (gh R n).length n (R n)) g = _
    rw [lsu_app, ih, su_s]
    unfold pr_l
    rw [lsu_map]
theorem lsu_gP (R : Nat → List Nat) (g : tP → Nat) : lsu (gP R) g = su 16 (fun r => su ((R r).length - 2) (fun k => g (pr_e (gh R r).length r (R r) k))) := by rw [gP_eq, lsu_gp]
section GPS
variable {R : Nat → List Nat} {pl : Nat → Nat → Prop}
/-- what all pairs of a symbol have over the cuts of a span -/
noncomputable def psm (R : Nat → List Nat) (pl : Nat → Nat → Prop) (x i j : Nat) : Nat := lsu (gP R) (fun e => nif (e.1 = x) (pcs R pl e i j))
theorem psm_let (hR : ∀ r, rl_ok (R r)) {x i j : Nat} (h8 : 8 ≤ x) (h14 : x < 14) : psm R pl x i j = 0 := by
  unfold psm
  rw [lsu_congr (g' := fun _ => 0) (fun e he => nif_f (fun q => by have := (pr_lt hR he).2.2.2.2; omega))]
  generalize gP R = l
  induction l with
  | nil => rfl
  | cons e l ih => exact (Nat.zero_add _).trans ih
theorem psm_help (hR : ∀ r, rl_ok (R r)) {x i j : Nat} (h14 : 14 ≤ x) (hx : x < 14 + (gH R).length) : psm R pl x i j = Vn R pl x i j := by
  obtain ⟨r, k, hr, hk, e⟩ := gH_idx (R := R) (i := x - 14) (by omega)
  have ex : x = 14 + (gh R r).length + k := by omega
  unfold psm
  rw [lsu_gP, su_one (k := r) _ hr (fun r' hr' hne => su_zero (fun k' hk' => nif_f (fun q => ?_)))]
  · rw [su_one (k := k + 1) _ (by omega) (fun k' hk' hne => nif_f (fun q => hne ?_)), nif_t, pcs_eq hR hr (by omega)]
    · unfold Vn
      rw [ex, sm_hi hr hk]
    · show pr_m (gh R r).length (k + 1) (R r) = x
      unfold pr_m
      rw [if_neg (by omega)]
      omega
    · have q : pr_m (gh R r).length k' (R r) = x := q
      unfold pr_m at q
      by_cases k0 : k' = 0
      · rw [if_pos k0] at q
        have := (rl_cons (hR r) (by omega)).2
        omega
      · rw [if_neg k0] at q; omega
  · have q : pr_m (gh R r').length k' (R r') = x := q
    unfold pr_m at q
    by_cases k0 : k' = 0
    · rw [if_pos k0] at q
      have := (rl_cons (hR r') (by omega)).2
      omega
    · rw [if_neg k0] at q
      have g1 := gh_get (R := R) hr hk
      have g2 := gh_get (R := R) (r := r') (k := k' - 1) hr' (by omega)
      rw [show (gh R r').length + (k' - 1) = (gh R r).length + k by omega, g1] at g2
      injection g2 with g2
      injection g2 with g2 g3
      exact hne g2.symm
theorem psm_name (hR : ∀ r, rl_ok (R r)) {x i j : Nat} (h8 : x < 8) : psm R pl x i j = su 16 (fun r => nif ((R r).getD 0 0 = x ∧ 3 ≤ (R r).length) (fit (Tn R pl) pl ((R r).drop 1) i j)) := by
  unfold psm
  rw [lsu_gP]
  refine su_congr (fun r hr => ?_)
  by_cases hl : 3 ≤ (R r).length
  · rw [su_one (k := 0) _ (by omega) (fun k' hk' hne => nif_f (fun q => by
      have q : pr_m (gh R r).length k' (R r) = x := q
      unfold pr_m at q
      rw [if_neg hne] at q
      omega)), pcs_eq hR hr (by omega)]
    exact nif_c ⟨fun q => ⟨q, hl⟩, fun q => q.1⟩ (fun _ => rfl)
  · rw [show (R r).length - 2 = 0 by omega, su_0]
    exact (nif_f (fun q => hl q.2)).symm
def dstn (R : Nat → List Nat) : Prop := ∀ r s, r ≠ s → R r ≠ [] → R r ≠ R s
theorem Gn_split (hR : ∀ r, rl_ok (R r)) (hd : dstn R) {x i j : Nat} (h8 : x < 8) (hij : i < j) : Gn R pl x i j = psm R pl x i j + su 14 (fun c => nif (8 ≤ c ∧ un R x c) (Vn R pl c i j)) := by
  have e1 : su 14 (fun c => nif (8 ≤ c ∧ un R x c) (Vn R pl c i j)) = su 16 (fun r => su 14 (fun c => nif (8 ≤ c ∧ R r = [x, c]) (Vn R pl c i j))) := by
    rw [su_comm]
    refine su_congr (fun c hc => ?_)
    by_cases q : 8 ≤ c ∧ un R x c
    · obtain ⟨q1, r, hr, e⟩ := q
      rw [nif_t ⟨q1, r, hr, e⟩, su_one (k := r) _ hr (fun s hs hne => nif_f (fun w => hd r s (fun z => hne z.symm) (by rw [e]; exact List.cons_ne_nil _ _) (by rw [e, w.2]))), nif_t ⟨q1, e⟩]
    · rw [nif_f q, su_zero (fun r hr => nif_f (fun w => q ⟨w.1, r, hr, w.2⟩))]
  rw [psm_name hR h8, e1, ← su_add]
  refine su_congr (fun r hr => ?_)
  unfold gb
  by_cases h2 : (R r).length = 2
  · rw [nif_f (P := _ ∧ 3 ≤ (R r).length) (fun q => by omega), Nat.zero_add]
    obtain ⟨a, b, hab⟩ : ∃ a b, R r = [a, b] := by
      cases e : R r with
      | nil => rw [e] at h2; simp at h2
      | cons a l =>
        cases l with
        | nil => rw [e] at h2; simp at h2
        | cons b l =>
          have : l = [] := List.eq_nil_of_length_eq_zero (by rw [e] at h2; have h2 : l.length + 2 = 2 := h2; omega)
          subst this
          exact ⟨a, b, rfl⟩
    have hb := rl_getD_lt (hR r) (k := 1) (by omega)
    rw [hab] at hb ⊢
    have hb : b < 14 := hb
    by_cases q : a = x ∧ 8 ≤ b
    · obtain ⟨rfl, q2⟩ := q
      rw [nif_t ⟨rfl, Nat.le_refl 2, fun w => absurd (show b < 8 from w.2) (by omega)⟩, su_one (k := b) _ hb (fun c hc hne => nif_f (fun w => hne (by injection w.2 with w1 w2; injection w2 with w3; exact w3.symm))), nif_t ⟨q2, rfl⟩]
      show fit (Tn R pl) pl [b] i j = _
      unfold Vn
      rw [sm_lo hb]
    · rw [nif_f (fun w => q ⟨w.1, Nat.le_of_not_lt (fun z => w.2.2 ⟨rfl, z⟩)⟩), su_zero (fun c hc => nif_f (fun w => q (by
        injection w.2 with w1 w2
        injection w2 with w3
        exact ⟨w1, by omega⟩)))]
  · rw [su_zero (fun c hc => nif_f (fun w => h2 (by rw [w.2]; rfl))), Nat.add_zero]
    exact nif_c ⟨fun q => ⟨q.1, by omega⟩, fun q => ⟨q.1, by omega, fun w => h2 w.1⟩⟩ (fun _ => rfl)
end GPS
/-! there is a tree just where something is derived -/
def rch (s : Nat → Nat → Prop) (A : Nat → Prop) (x z : Nat) : Prop := ∀ P : Nat → Prop, P x → (∀ a b, P a → s a b → A b → P b) → P z
section GRCH
variable {s : Nat → Nat → Prop} {A : Nat → Prop} {x y z : Nat}
theorem rch_rf : rch s A x x := fun _ h _ => h
theorem rch_st (h : rch s A x y) (h1 : s y z) (h2 : A z) : rch s A x z := fun P g1 g2 => g2 _ _ (h P g1 g2) h1 h2
theorem rch_cut (h : rch s A x z) : rch s (fun b => A b ∧ b ≠ x) x z := h (fun z => rch s (fun b => A b ∧ b ≠ x) x z) rch_rf (fun a b ha hs hA => by
  by_cases e : b = x
  · subst e; exact rch_rf
  · exact rch_st ha hs ⟨hA, e⟩)
theorem rch_first (h : rch s A x z) : z = x ∨ ∃ p, s x p ∧ A p ∧ rch s A p z := h (fun z => z = x ∨ ∃ p, s x p ∧ A p ∧ rch s A p z) (Or.inl rfl) (fun a b ha hs hA => by
  rcases ha with rfl | ⟨p, p1, p2, p3⟩
  · exact Or.inr ⟨b, hs, hA, rch_rf⟩
  · exact Or.inr ⟨p, p1, p2, rch_st p3 hs hA⟩)
theorem rch_mono {A' : Nat → Prop} (hA : ∀ a, A a → A' a) (h : rch s A x z) : rch s A' x z := h (rch s A' x) rch_rf (fun _ _ ha hs hb => rch_st ha hs (hA _ hb))
theorem wy_pos : ∀ (f S x : Nat), cn 8 (fun p => ¬ S.testBit p = true) < f → rch s (fun p => p < 8 ∧ ¬ S.testBit p = true) x z → 0 < wy s f S x z := by
  intro f
  induction f with
  | zero => intro S x h; exact absurd h (Nat.not_lt_zero _)
  | succ f ih =>
    intro S x h hr
    rw [wy_s]
    rcases rch_first hr with rfl | ⟨p, p1, ⟨p2, p3⟩, p4⟩
    · rw [n01_t rfl]; omega
    · have h1 := ih (S ||| 2 ^ p) p (by
        have := cn_lt (n := 8) (P := fun x => ¬ (S ||| 2 ^ p).testBit x = true) (P' := fun x => ¬ S.testBit x = true) (fun x _ hx hs => hx ((bt_orb _ _ _).mpr (Or.inl hs))) p2 p3 (fun w => w ((bt_orb _ _ _).mpr (Or.inr ((bt_one _ _).mpr rfl))))
        omega) (rch_mono (fun a ⟨⟨a1, a2⟩, a3⟩ => ⟨a1, fun w => ((bt_orb _ _ _).mp w).elim a2 (fun q => a3 ((bt_one _ _).mp q).symm)⟩) (rch_cut p4))
      have h2 : 0 < su 8 (fun q => nif (s x q ∧ ¬ S.testBit q = true) (wy s f (S ||| 2 ^ q) q z)) := su_pos.mpr ⟨p, p2, by rw [nif_t ⟨p1, p3⟩]; exact h1⟩
      omega
theorem wy_ut {R : Nat → List Nat} : ∀ (f S x : Nat), 0 < wy (un R) f S x z → z = x ∨ ut R x z := by
  intro f
  induction f with
  | zero => intro S x h; exact absurd h (Nat.not_lt_zero _)
  | succ f ih =>
    intro S x h
    rw [wy_s] at h
    by_cases e : x = z
    · exact Or.inl e.symm
    · rw [n01_f e, Nat.zero_add] at h
      obtain ⟨p, p1, p2⟩ := su_pos.mp h
      by_cases q : un R x p ∧ ¬ S.testBit p = true
      · rw [nif_t q] at p2
        rcases ih _ _ p2 with rfl | w
        · exact Or.inr (ut_one q.1)
        · exact Or.inr (ut_cons q.1 w)
      · rw [nif_f q] at p2; exact absurd p2 (Nat.lt_irrefl _)
theorem ut_rch {R : Nat → List Nat} (hR : ∀ r, rl_ok (R r)) (h : ut R x z) (hz : z < 8) : rch (un R) (fun p => p < 8) x z := by
  have : z < 8 → rch (un R) (fun p => p < 8) x z := ut_ind (P := fun a b => b < 8 → rch (un R) (fun p => p < 8) a b) (fun a b q hb => rch_st rch_rf q hb) (fun a b c q hbc k hc => fun P g1 g2 => k hc P (g2 a b g1 q (ut_lt hR hbc).1) g2) h
  exact this hz
theorem wy_pos2 {R : Nat → List Nat} (hR : ∀ r, rl_ok (R r)) (hx : x < 8) (hz : z < 8) : 0 < wy (un R) 8 (2 ^ x) x z ↔ z = x ∨ ut R x z := by
  refine ⟨wy_ut 8 _ _, fun h => wy_pos 8 _ _ ?_ ?_⟩
  · have := cn_lt (n := 8) (P := fun p => ¬ (2 ^ x).testBit p = true) (P' := fun _ => True) (fun _ _ _ => trivial) hx trivial (fun w => w ((bt_one _ _).mpr rfl))
    have := cn_le 8 (fun _ => True)
    omega
  · have h0 : rch (un R) (fun p => p < 8) x z := h.elim (fun e => by rw [e]; exact rch_rf) (fun q => ut_rch hR q hz)
    exact rch_mono (fun a ⟨a1, a2⟩ => ⟨a1, fun w => a2 ((bt_one _ _).mp w).symm⟩) (rch_cut h0)
end GRCH
section GTPOS
variable {R : Nat → List Nat} {pl : Nat → Nat → Prop}
theorem fit_pos_of {l : List Nat} {u : List Nat} {i : Nat} (h : ∀ p i u, p ∈ l → dpw pl i u → ds R [p] u → 0 < pw (Tn R pl) pl p i (i + u.length)) (hu : dpw pl i u) (hd : ds R l u) : 0 < fit (Tn R pl) pl l i (i + u.length) := by
  induction l generalizing i u with
  | nil => rw [ds_nil_inv hd]; show 0 < n01 _; rw [n01_t (show i = i + ([] : List Nat).length from rfl)]; decide
  | cons p l ih =>
    obtain ⟨u1, u2, rfl, h1, h2⟩ := ds_split (l := [p]) (m := l) hd
    obtain ⟨d1, d2⟩ := dpw_app.mp hu
    have p1 := h p i u1 (List.mem_cons_self ..) d1 h1
    have p2 := ih (fun p i u hp => h p i u (List.mem_cons_of_mem _ hp)) d2 h2
    have hl := ds_len h1
    rw [List.length_singleton] at hl
    rw [List.length_append, fit_cons]
    refine su_pos.mpr ⟨i + u1.length, by omega, ?_⟩
    rw [nif_t (by omega)]
    rw [show i + (u1.length + u2.length) = i + u1.length + u2.length by omega]
    exact Nat.mul_pos p1 p2
theorem fit_pos_to {l : List Nat} : ∀ {i j : Nat}, (∀ p i j, p ∈ l → i < j → 0 < pw (Tn R pl) pl p i j → ∃ u, i + u.length = j ∧ dpw pl i u ∧ ds R [p] u) → 0 < fit (Tn R pl) pl l i j → ∃ u, i + u.length = j ∧ dpw pl i u ∧ ds R l u := by
  induction l with
  | nil =>
    intro i j _ h
    by_cases e : i = j
    · exact ⟨[], e, fun k c hk => by simp at hk, ds_nil⟩
    · rw [show fit (Tn R pl) pl [] i j = 0 from n01_f e] at h; exact absurd h (Nat.lt_irrefl _)
  | cons p l ih =>
    intro i j hp h
    rw [fit_cons] at h
    obtain ⟨k, k1, k2⟩ := su_pos.mp h
    by_cases q : i < k
    · rw [nif_t q] at k2
      obtain ⟨u1, a1, a2, a3⟩ := hp p i k (List.mem_cons_self ..) q (Nat.pos_of_mul_pos_right k2)
      obtain ⟨u2, b1, b2, b3⟩ := ih (fun p i j hm => hp p i j (List.mem_cons_of_mem _ hm)) (Nat.pos_of_mul_pos_left k2)
      exact ⟨u1 ++ u2, by rw [List.length_append]; omega, dpw_app.mpr ⟨a2, by rw [a1]; exact b2⟩, ds_app (l := [p]) a3 b3⟩
    · rw [nif_f q] at k2; exact absurd k2 (Nat.lt_irrefl _)
theorem Tn_to (hR : ∀ r, rl_ok (R r)) : ∀ (m x i j : Nat), x < 8 → j - i ≤ m → 0 < Tn R pl x i j → dp R pl x i j := by
  intro m
  induction m with
  | zero => intro x i j _ h1 h2; rw [Tn_0 (by omega)] at h2; exact absurd h2 (Nat.lt_irrefl _)
  | succ m ih =>
    intro x i j hx h1 h2
    rw [Tn_eq] at h2
    obtain ⟨z, z1, z2⟩ := su_pos.mp h2
    have hw := (wy_pos2 hR hx z1).mp (Nat.pos_of_mul_pos_right z2)
    have hG := Nat.pos_of_mul_pos_left z2
    obtain ⟨r, r1, r2⟩ := su_pos.mp hG
    unfold gb at r2
    by_cases q : (R r).getD 0 0 = z ∧ 2 ≤ (R r).length ∧ ¬ ((R r).length = 2 ∧ (R r).getD 1 0 < 8)
    · rw [nif_t q] at r2
      obtain ⟨q1, q2, q3⟩ := q
      obtain ⟨e1, e2⟩ := rl_cons (hR r) (by omega)
      have hne : (R r).drop 1 ≠ [] := fun w => by have := congrArg List.length w; rw [List.length_drop] at this; simp at this; omega
      have hij : i < j := Nat.lt_of_not_le (fun w => by rw [fit_nil w hne] at r2; exact absurd r2 (Nat.lt_irrefl _))
      -- parts of smaller spans
      have key : ∀ l : List Nat, l = (R r).drop 1 → ∃ u, i + u.length = j ∧ dpw pl i u ∧ ds R l u := by
        intro l hl
        by_cases h3 : (R r).length = 2
        · have h8 : 8 ≤ (R r).getD 1 0 := Nat.le_of_not_lt (fun w => q3 ⟨h3, w⟩)
          have h14 := rl_getD_lt (hR r) (k := 1) (by omega)
          have hl1 : l = [(R r).getD 1 0] := by rw [hl, li_drop1 (by omega), List.drop_eq_nil_of_le (by omega)]
          rw [← hl, hl1, fit_one hij] at r2
          unfold pw at r2
          rw [if_neg (by omega)] at r2
          by_cases w : j = i + 1 ∧ pl i ((R r).getD 1 0)
          · rw [hl1]
            exact ⟨[(R r).getD 1 0], w.1.symm, dpw_one.mpr w.2, ds_let h8 h14 ds_nil⟩
          · rw [n01_f w] at r2; exact absurd r2 (Nat.lt_irrefl _)
        · -- at least two parts: the first sum by hand, as parts over the whole span have no trees there
          rw [← hl] at r2
          have hll : 2 ≤ l.length := by rw [hl, List.length_drop]; omega
          have hl14 : ∀ p ∈ l, p < 14 := fun p hp => by
            rw [hl] at hp
            rcases hR r with w | ⟨_, _, _, w⟩
            · rw [w] at q2; simp at q2
            · exact w p (List.mem_of_mem_drop hp)
          have gen : ∀ (l : List Nat) (a : Nat), (∀ p ∈ l, p < 14) → i ≤ a → (a = i → 2 ≤ l.length) → 0 < fit (Tn R pl) pl l a j → ∃ u, a + u.length = j ∧ dpw pl a u ∧ ds R l u := by
            intro l
            induction l with
            | nil =>
              intro a _ _ _ h
              by_cases e : a = j
              · exact ⟨[], e, fun k c hk => by simp at hk, ds_nil⟩
              · rw [show fit (Tn R pl) pl [] a j = 0 from n01_f e] at h; exact absurd h (Nat.lt_irrefl _)
            | cons p l ihl =>
              intro a h14 hia ha h
              rw [fit_cons] at h
              obtain ⟨k, k1, k2⟩ := su_pos.mp h
              by_cases w : a < k
              · rw [nif_t w] at k2
                have f1 := Nat.pos_of_mul_pos_right k2
                have f2 := Nat.pos_of_mul_pos_left k2
                obtain ⟨u2, b1, b2, b3⟩ := ihl k (fun p hp => h14 p (List.mem_cons_of_mem _ hp)) (by omega) (fun e => by omega) f2
                have hlen : k < j ∨ i < a := by
                  by_cases e : a = i
                  · have := ha e
                    rw [List.length_cons] at this
                    have := ds_len b3
                    omega
                  · omega
                have : ∃ u1, a + u1.length = k ∧ dpw pl a u1 ∧ ds R [p] u1 := by
                  have hp14 := h14 p (List.mem_cons_self ..)
                  unfold pw at f1
                  by_cases p8 : p < 8
                  · rw [if_pos p8] at f1
                    obtain ⟨u1, c1, c2, c3⟩ := ih p a k p8 (by omega) f1
                    exact ⟨u1, c1, c2, (dx_lo hp14).mp c3⟩
                  · rw [if_neg p8] at f1
                    by_cases v : k = a + 1 ∧ pl a p
                    · exact ⟨[p], v.1.symm, dpw_one.mpr v.2, ds_let (by omega) hp14 ds_nil⟩
                    · rw [n01_f v] at f1; exact absurd f1 (Nat.lt_irrefl _)
                obtain ⟨u1, c1, c2, c3⟩ := this
                exact ⟨u1 ++ u2, by rw [List.length_append]; omega, dpw_app.mpr ⟨c2, by rw [c1]; exact b2⟩, ds_app (l := [p]) c3 b3⟩
              · rw [nif_f w] at k2; exact absurd k2 (Nat.lt_irrefl _)
          exact gen l i hl14 (Nat.le_refl _) (fun _ => hll) r2
      obtain ⟨u, u1, u2, u3⟩ := key _ rfl
      have hz : dx R z u := (dx_lo (by omega)).mpr (by
        have := ds_rule r1 e1 hne (by omega) u3 (ds_nil (R := R))
        rw [List.append_nil, q1] at this
        exact this)
      refine ⟨u, u1, u2, ?_⟩
      rcases hw with rfl | w
      · exact hz
      · exact dx_ut hR w hz
    · rw [nif_f q] at r2; exact absurd r2 (Nat.lt_irrefl _)
theorem Tn_of (hR : ∀ r, rl_ok (R r)) {x : Nat} {u : List Nat} (h : dx R x u) : ∀ i, dpw pl i u → 0 < Vn R pl x i (i + u.length) := by
  have hTG : ∀ x i j, x < 8 → 0 < Gn R pl x i j → 0 < Tn R pl x i j := fun x i j hx hg => by
    rw [Tn_eq]
    exact su_pos.mpr ⟨x, hx, Nat.mul_pos ((wy_pos2 hR hx hx).mpr (Or.inl rfl)) hg⟩
  refine dx_least hR (C := fun x u => ∀ i, dpw pl i u → 0 < Vn R pl x i (i + u.length)) (fun c h8 h14 i hp => ?_) (fun x y u h1 h2 ih i hp => ?_) (fun e he u v h1 h2 i1 i2 i hp => ?_) h
  · show 0 < Vn R pl c i (i + 1)
    rw [Vn_let h8 h14 (by omega), n01_t ⟨rfl, dpw_one.mp hp⟩]
    decide
  · have hul := List.length_pos_iff.mpr h2.1
    have hl := un_lt hR h1
    have hv := ih i hp
    rw [Vn_name hl.1 (by omega)]
    by_cases hy : y < 8
    · rw [Vn_name hy (by omega), Tn_eq] at hv
      obtain ⟨z, z1, z2⟩ := su_pos.mp hv
      rw [Tn_eq]
      refine su_pos.mpr ⟨z, z1, Nat.mul_pos ((wy_pos2 hR hl.1 z1).mpr (Or.inr ?_)) (Nat.pos_of_mul_pos_left z2)⟩
      rcases (wy_pos2 hR hy z1).mp (Nat.pos_of_mul_pos_right z2) with rfl | w
      · exact ut_one h1
      · exact ut_cons h1 w
    · refine hTG _ _ _ hl.1 ?_
      obtain ⟨r, hr, e⟩ := h1
      refine su_pos.mpr ⟨r, hr, ?_⟩
      unfold gb
      rw [e, nif_t ⟨rfl, Nat.le_refl 2, fun w => hy w.2⟩]
      show 0 < fit (Tn R pl) pl [y] i (i + u.length)
      rw [fit_one (by omega), ← Vn_lo hl.2 (by omega)]
      exact hv
  · obtain ⟨d1, d2⟩ := dpw_app.mp hp
    have a1 := i1 i d1
    have a2 := i2 (i + u.length) d2
    have l1 := List.length_pos_iff.mpr h1.1
    have l2 := List.length_pos_iff.mpr h2.1
    have hps : 0 < pcs R pl e i (i + (u ++ v).length) := su_pos.mpr ⟨i + u.length, by rw [List.length_append]; omega, by
      rw [nif_t (by omega), List.length_append, show i + (u.length + v.length) = i + u.length + v.length by omega]
      exact Nat.mul_pos a1 a2⟩
    obtain ⟨r, k, hr, hk, rfl⟩ := gP_mem.mp he
    rw [pcs_eq hR hr hk] at hps
    show 0 < Vn R pl (pr_m (gh R r).length k (R r)) i _
    by_cases k0 : k = 0
    · subst k0
      have e2 := (rl_cons (hR r) (by omega)).2
      unfold pr_m
      rw [if_pos rfl, Vn_name e2 (by rw [List.length_append]; omega)]
      refine hTG _ _ _ e2 (su_pos.mpr ⟨r, hr, ?_⟩)
      unfold gb
      rw [nif_t ⟨rfl, by omega, fun w => by omega⟩]
      exact hps
    · unfold Vn
      rw [pr_sm_m hR hr hk (by omega)]
      exact hps
theorem Tn_pos (hR : ∀ r, rl_ok (R r)) {x i j : Nat} (hx : x < 8) : 0 < Tn R pl x i j ↔ dp R pl x i j := by
  refine ⟨Tn_to hR _ x i j hx (Nat.le_refl _), fun h => ?_⟩
  have hij := dp_lt h
  obtain ⟨u, h1, h2, h3⟩ := h
  have := Tn_of hR h3 i h2
  rw [h1, Vn_name hx hij] at this
  exact this
theorem Vn_dp (hR : ∀ r, rl_ok (R r)) {x i j : Nat} (hx : x < 14 + (gH R).length) (hij : i < j) : 0 < Vn R pl x i j → dp R pl x i j := by
  intro h
  have part : ∀ p i j, p < 14 → i < j → 0 < pw (Tn R pl) pl p i j → ∃ u, i + u.length = j ∧ dpw pl i u ∧ ds R [p] u := fun p i j hp hij h => by
    unfold pw at h
    by_cases p8 : p < 8
    · rw [if_pos p8] at h
      obtain ⟨u, a, b, c⟩ := (Tn_pos hR p8).mp h
      exact ⟨u, a, b, (dx_lo hp).mp c⟩
    · rw [if_neg p8] at h
      by_cases v : j = i + 1 ∧ pl i p
      · exact ⟨[p], v.1.symm, dpw_one.mpr v.2, ds_let (by omega) hp ds_nil⟩
      · rw [n01_f v] at h; exact absurd h (Nat.lt_irrefl _)
  have hs : ∀ p ∈ sm R x, p < 14 := fun p hp => by
    by_cases h14 : x < 14
    · rw [sm_lo h14, List.mem_singleton] at hp; omega
    · obtain ⟨r, k, hr, hk, e⟩ := gH_idx (R := R) (i := x - 14) (by omega)
      rw [show x = 14 + (gh R r).length + k by omega, sm_hi hr hk] at hp
      rcases hR r with w | ⟨_, _, _, w⟩
      · rw [w] at hk; simp at hk
      · exact w p (List.mem_of_mem_drop hp)
  obtain ⟨u, a, b, c⟩ := fit_pos_to (fun p i j hp => part p i j (hs p hp)) h
  exact ⟨u, a, b, fun q => by subst q; simp at a; omega, c⟩
end GTPOS
