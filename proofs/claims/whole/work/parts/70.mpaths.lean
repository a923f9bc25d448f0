/-! the reference: ways along units, counted forward -/
theorem su_from {N k : Nat} (a : Nat → Nat) (hk : k < N) : su N (fun j => if k ≤ j then a j else 0) = a k + su N (fun j => if k + 1 ≤ j then a j else 0) := by
  induction N with
  | zero => exact absurd hk (Nat.not_lt_zero _)
  | succ N ih =>
    rw [su_s, su_s]
    by_cases e : k = N
    · subst e
      rw [su_zero (n := k) (f := fun j => if k ≤ j then a j else 0) (fun x hx => if_neg (by omega)), su_zero (n := k) (f := fun j => if k + 1 ≤ j then a j else 0) (fun x hx => if_neg (by omega)), if_pos (Nat.le_refl _), if_neg (by omega)]
      omega
    · rw [ih (by omega), if_pos (by omega), if_pos (by omega), Nat.add_assoc]
theorem su_put {N j : Nat} (a : Nat → Nat) (c : Nat) (hj : j < N) : su N (fun i => if i = j then a i + c else a i) = su N a + c := by
  induction N with
  | zero => exact absurd hj (Nat.not_lt_zero _)
  | succ N ih =>
    rw [su_s, su_s]
    by_cases e : j = N
    · subst e
      rw [if_pos rfl, su_congr (n := j) (g := a) (fun x hx => if_neg (by omega))]
      omega
    · rw [ih (by omega), if_neg (by omega)]
      omega
noncomputable def pW (R : Nat → List Nat) (k z : Nat) : Nat := wy (un R) 8 (k / 8) (k % 8) z
noncomputable def pth_s (R : Nat → List Nat) (N : Nat) (f : Nat → Nat) (cur z : Nat) : Nat := su N (fun k => if cur ≤ k then f k * pW R k z else 0)
def pth_t (f : Nat → Nat) (cur : Nat) : Prop := ∀ k, cur ≤ k → f k ≠ 0 → (k / 8).testBit (k % 8) = true
def pth_ok (R : Nat → List Nat) (N : Nat) (T f g : Nat → Nat) (cur : Nat) : Prop := (∀ z, z < 8 → g z + pth_s R N f cur z = T z) ∧ pth_t f cur
noncomputable def prem (R : Nat → List Nat) (k r z : Nat) : Nat := su 8 (fun p => nif ((∃ r', r ≤ r' ∧ r' < 16 ∧ R r' = [k % 8, p]) ∧ ¬ (k / 8).testBit p = true) (wy (un R) 8 (k / 8 ||| 2 ^ p) p z))
def pmid (R : Nat → List Nat) (N : Nat) (T f g : Nat → Nat) (k w r : Nat) : Prop := (∀ z, z < 8 → g z + pth_s R N f (k + 1) z + w * prem R k r z = T z) ∧ pth_t f (k + 1)
section GPATH
variable {R : Nat → List Nat} {N : Nat} {T f g : Nat → Nat} {k w r : Nat}
theorem pth_skip (hk : k < N) (h : pth_ok R N T f g k) (h0 : f k = 0) : pth_ok R N T f g (k + 1) := by
  refine ⟨fun z hz => ?_, fun j hj => h.2 j (by omega)⟩
  have := h.1 z hz
  unfold pth_s at this ⊢
  rw [su_from _ hk, h0, Nat.zero_mul, Nat.zero_add] at this
  exact this
theorem pth_w (hk : k < N) (h : pth_ok R N T f g k) (h0 : f k ≠ 0) : pW R k (k % 8) = 1 + prem R k 0 (k % 8) ∧ ∀ z, pW R k z = n01 (k % 8 = z) + prem R k 0 z := by
  have e : ∀ z, pW R k z = n01 (k % 8 = z) + prem R k 0 z := fun z => by
    unfold pW
    rw [wy_8 (un R) (Nat.mod_lt _ (by decide)) (h.2 k (Nat.le_refl _) h0)]
    congr 1
    exact su_congr (fun p _ => nif_c ⟨fun ⟨⟨r', a, b⟩, c⟩ => ⟨⟨r', Nat.zero_le _, a, b⟩, c⟩, fun ⟨⟨r', _, a, b⟩, c⟩ => ⟨⟨r', a, b⟩, c⟩⟩ (fun _ => rfl))
  exact ⟨by rw [e, n01_t rfl], e⟩
theorem pth_bd (hk : k < N) (h : pth_ok R N T f g k) : f k ≤ T (k % 8) := by
  by_cases h0 : f k = 0
  · omega
  · have h1 := h.1 (k % 8) (Nat.mod_lt _ (by decide))
    unfold pth_s at h1
    rw [su_from _ hk, (pth_w hk h h0).1, Nat.mul_add, Nat.mul_one] at h1
    omega
theorem pth_go (hk : k < N) (h : pth_ok R N T f g k) (h0 : f k ≠ 0) : pmid R N T f (fun z => if z = k % 8 then g z + f k else g z) k (f k) 0 := by
  refine ⟨fun z hz => ?_, fun j hj => h.2 j (by omega)⟩
  have h1 := h.1 z hz
  unfold pth_s at h1 ⊢
  rw [su_from _ hk, (pth_w hk h h0).2 z, Nat.mul_add] at h1
  dsimp only
  by_cases e : z = k % 8
  · rw [if_pos e]
    rw [n01_t e.symm] at h1
    omega
  · rw [if_neg e]
    rw [n01_f (fun q => e q.symm), Nat.mul_zero] at h1
    omega
theorem prem_end : ∀ z, prem R k 16 z = 0 := fun z => su_zero (fun p _ => nif_f (fun ⟨⟨r', a, b, _⟩, _⟩ => by omega))
theorem pth_end (h : pmid R N T f g k w 16) : pth_ok R N T f g (k + 1) := ⟨fun z hz => by have := h.1 z hz; rw [prem_end, Nat.mul_zero, Nat.add_zero] at this; exact this, h.2⟩
/-- a rule that is no unit, or leads to one that came already -/
theorem pth_no (hr : r < 16) (h : pmid R N T f g k w r) (hno : ∀ p, p < 8 → R r = [k % 8, p] → (k / 8).testBit p = true) : pmid R N T f g k w (r + 1) := by
  refine ⟨fun z hz => ?_, h.2⟩
  rw [← h.1 z hz]
  congr 2
  refine su_congr (fun p hp => nif_c ⟨fun ⟨⟨r', a, b, c⟩, e⟩ => ⟨⟨r', by omega, b, c⟩, e⟩, fun ⟨⟨r', a, b, c⟩, e⟩ => ⟨⟨r', ?_, b, c⟩, e⟩⟩ (fun _ => rfl))
  by_cases q : r' = r
  · subst q; exact absurd (hno p hp c) e
  · omega
theorem pth_yes (hd : dstn R) (hr : r < 16) {p j : Nat} (hp : p < 8) (hj : j = 8 * (k / 8 ||| 2 ^ p) + p) (hjN : j < N) (h : pmid R N T f g k w r) (e : R r = [k % 8, p]) (hnot : ¬ (k / 8).testBit p = true) : pmid R N T (fun i => if i = j then f i + w else f i) g k w (r + 1) := by
  have hjk : k + 1 ≤ j := by
    have h1 : k / 8 < (k / 8 ||| 2 ^ p) := by
      have h2 : k / 8 ≤ (k / 8 ||| 2 ^ p) := Nat.left_le_or
      rcases Nat.lt_or_ge (k / 8) (k / 8 ||| 2 ^ p) with q | q
      · exact q
      · have h3 : k / 8 = (k / 8 ||| 2 ^ p) := by omega
        refine absurd ?_ hnot
        rw [h3]
        exact (bs_or1 _ _ _).mpr (Or.inr rfl)
    omega
  have j1 : j / 8 = (k / 8 ||| 2 ^ p) := by omega
  have j2 : j % 8 = p := by omega
  refine ⟨fun z hz => ?_, fun i hi hf => ?_⟩
  · rw [← h.1 z hz]
    have e1 : pth_s R N (fun i => if i = j then f i + w else f i) (k + 1) z = pth_s R N f (k + 1) z + w * pW R j z := by
      unfold pth_s
      rw [← su_put _ (w * pW R j z) hjN]
      refine su_congr (fun i _ => ?_)
      dsimp only
      by_cases q : i = j
      · rw [if_pos q, if_pos q, if_pos (by omega), if_pos (by omega), Nat.add_mul, q]
      · rw [if_neg q, if_neg q]
    have e2 : prem R k r z = prem R k (r + 1) z + pW R j z := by
      unfold prem
      rw [← su_put _ (pW R j z) hp]
      refine su_congr (fun i hi => ?_)
      by_cases q : i = p
      · subst q
        rw [if_pos rfl, nif_t ⟨⟨r, Nat.le_refl _, hr, e⟩, hnot⟩, nif_f (fun ⟨⟨r', a, b, c⟩, _⟩ => hd r r' (by omega) (by rw [e]; exact List.cons_ne_nil _ _) (e.trans c.symm))]
        unfold pW
        rw [j1, j2, Nat.zero_add]
      · rw [if_neg q]
        refine nif_c ⟨fun ⟨⟨r', a, b, c⟩, u⟩ => ⟨⟨r', ?_, b, c⟩, u⟩, fun ⟨⟨r', a, b, c⟩, u⟩ => ⟨⟨r', by omega, b, c⟩, u⟩⟩ (fun _ => rfl)
        by_cases v : r' = r
        · subst v
          rw [e] at c
          injection c with c1 c2
          injection c2 with c3 c4
          exact absurd c3.symm q
        · omega
    rw [e1, e2, Nat.mul_add]
    omega
  · by_cases q : i = j
    · rw [q, j1, j2]; exact (bs_or1 _ _ _).mpr (Or.inr rfl)
    · dsimp only at hf
      rw [if_neg q] at hf
      exact h.2 i hi hf
end GPATH
section GMPA
variable {E : go_E} {d : Nat} {δ : Nat → Nat → Int} {Q : List go_V → go_F → (Nat → Nat → Int) → Prop} {R : Nat → List Nat}
theorem m_isUnitOf {r y : Nat} (h : bo_at δ R) (hr : r < 16) (hy : y < 8) (hQ : Q [vv_I (b01 (∃ p, p < 8 ∧ R r = [y, p]))] go_φ δ) : Go E (d + 2) (0, 0) mx_X12_isUnitOf go_φ 0 [(0, vv_A 94), (1, vv_I (r : Int)), (2, vv_I (y : Int))] [] δ Q := by
  have hlen := (h.1 r).len
  by_cases hl2 : (R r).length = 2
  · obtain ⟨x, p, q, hl, hx, hp, hq⟩ := rl_split h.1 (r := r) (fun w => by rw [w] at hl2; cases hl2)
    have hq0 : q = [] := List.eq_nil_of_length_eq_zero (by rw [hl] at hl2; simp only [List.length_cons] at hl2; omega)
    subst hq0
    have hiff : (∃ p, p < 8 ∧ R r = [y, p]) ↔ x = y ∧ p < 8 := ⟨fun ⟨p', a, b⟩ => by rw [hl] at b; injection b with b1 b2; injection b2 with b3 b4; subst b1 b3; exact ⟨rfl, a⟩, fun ⟨a, b⟩ => ⟨p, b, by rw [hl, a]⟩⟩
    rw [b01_c hiff] at hQ
    refine go_aload_n (i := 0) dx_X12_isUnitOf_0 rfl rfl ?_
    refine go_iload_n (i := 1) dx_X12_isUnitOf_1 rfl rfl ?_
    refine go_cV1 sv_X12_148 (go_ok rfl rfl) dx_X12_isUnitOf_2 (Nat.le_of_ble_eq_true rfl) (Nat.le_of_ble_eq_true rfl) (o_longOf h hr ?_)
    refine go_iconst dx_X12_isUnitOf_5 ?_
    refine go_icmp_ne (tgt := 34) dx_X12_isUnitOf_6 rfl (by omega) (by omega) (fun c6 => by exact absurd c6 (by omega)) (fun c6 => ?_)
    refine go_aload_n (i := 0) dx_X12_isUnitOf_9 rfl rfl ?_
    refine go_iload_n (i := 1) dx_X12_isUnitOf_10 rfl rfl ?_
    refine go_cV1 sv_X12_184 (go_ok rfl rfl) dx_X12_isUnitOf_11 (Nat.le_of_ble_eq_true rfl) (Nat.le_of_ble_eq_true rfl) (o_symbolOf h hr (by omega) ?_)
    refine go_asI (y := (x : Int)) (by rw [hl]; rfl) ?_
    refine go_iload_n (i := 2) dx_X12_isUnitOf_14 rfl rfl ?_
    refine go_icmp_ne (tgt := 34) dx_X12_isUnitOf_15 rfl (by omega) (by omega) (fun c15 => ?_) (fun c15 => ?_)
    · refine go_iconst dx_X12_isUnitOf_34 ?_
      refine go_zreturn dx_X12_isUnitOf_35 rfl (by first | exact Or.inl rfl | exact Or.inr rfl | assumption | omega) (Nat.le_refl _) (Nat.le_refl _) ?_
      first | (rw [b01_t ⟨by omega, by omega⟩] at hQ; exact hQ) | (rw [b01_f (fun z => by omega)] at hQ; exact hQ)
    · refine go_aload_n (i := 0) dx_X12_isUnitOf_18 rfl rfl ?_
      refine go_iload_n (i := 1) dx_X12_isUnitOf_19 rfl rfl ?_
      refine go_iconst dx_X12_isUnitOf_20 ?_
      refine go_asI (y := ((0 : Nat) : Int)) (by rfl) ?_
      refine go_cV2 sv_X12_190 (go_ok rfl rfl) dx_X12_isUnitOf_21 (Nat.le_of_ble_eq_true rfl) (Nat.le_of_ble_eq_true rfl) (o_partOf h hr (by omega) ?_)
      refine go_asI (y := (p : Int)) (by rw [hl]; rfl) ?_
      refine go_cS1 ss_X12_212 dx_X12_isUnitOf_24 (Nat.le_of_ble_eq_true rfl) (Nat.le_of_ble_eq_true rfl) (m_isSymbol (by omega) (fun a1 a2 => ?_) (fun b1 => ?_))
      · refine go_if_eq (tgt := 34) dx_X12_isUnitOf_27 rfl (by omega) (fun c27 => absurd c27 (by decide)) (fun c27 => ?_)
        refine go_iconst dx_X12_isUnitOf_30 ?_
        refine go_goto (tgt := 35) dx_X12_isUnitOf_31 rfl ?_
        refine go_zreturn dx_X12_isUnitOf_35 rfl (by first | exact Or.inl rfl | exact Or.inr rfl | assumption | omega) (Nat.le_refl _) (Nat.le_refl _) ?_
        first | (rw [b01_t ⟨by omega, by omega⟩] at hQ; exact hQ) | (rw [b01_f (fun z => by omega)] at hQ; exact hQ)
      · refine go_if_eq (tgt := 34) dx_X12_isUnitOf_27 rfl (by omega) (fun c27 => ?_) (fun c27 => absurd c27 (by decide))
        refine go_iconst dx_X12_isUnitOf_34 ?_
        refine go_zreturn dx_X12_isUnitOf_35 rfl (by first | exact Or.inl rfl | exact Or.inr rfl | assumption | omega) (Nat.le_refl _) (Nat.le_refl _) ?_
        first | (rw [b01_t ⟨by omega, by omega⟩] at hQ; exact hQ) | (rw [b01_f (fun z => by omega)] at hQ; exact hQ)
  · rw [b01_f (fun ⟨p, _, e⟩ => hl2 (by rw [e]; rfl))] at hQ
    refine go_aload_n (i := 0) dx_X12_isUnitOf_0 rfl rfl ?_
    refine go_iload_n (i := 1) dx_X12_isUnitOf_1 rfl rfl ?_
    refine go_cV1 sv_X12_148 (go_ok rfl rfl) dx_X12_isUnitOf_2 (Nat.le_of_ble_eq_true rfl) (Nat.le_of_ble_eq_true rfl) (o_longOf h hr ?_)
    refine go_iconst dx_X12_isUnitOf_5 ?_
    refine go_icmp_ne (tgt := 34) dx_X12_isUnitOf_6 rfl (by omega) (by omega) (fun c6 => ?_) (fun c6 => by exact absurd c6 (by omega))
    refine go_iconst dx_X12_isUnitOf_34 ?_
    refine go_zreturn dx_X12_isUnitOf_35 rfl (by first | exact Or.inl rfl | exact Or.inr rfl | assumption | omega) (Nat.le_refl _) (Nat.le_refl _) ?_
    exact hQ
theorem m_laysPaths {x S : Nat} (h : bo_at δ R) (hd : dstn R) (hx : x < 8) (hS : S < 256) (hQ : ∀ δ', (∀ z, z < 8 → δ' 114 z = (wy (un R) 8 (S ||| 2 ^ x) x z : Int)) → (∀ c j, c ≠ 113 → c ≠ 114 → δ' c j = δ c j) → Q [] go_φ δ') :
    Go E (d + 3) (0, 0) mx_X12_laysPaths go_φ 0 [(0, vv_A 94), (1, vv_I (x : Int)), (2, vv_I (S : Int))] [] δ Q := by
  have l113 : go_ln 113 = 2048 := rfl
  have l114 : go_ln 114 = 8 := rfl
  obtain ⟨N, hN⟩ : ∃ N : Nat, N = 2048 := ⟨_, rfl⟩
  obtain ⟨T, hT⟩ : ∃ T : Nat → Nat, T = fun z => wy (un R) 8 (S ||| 2 ^ x) x z := ⟨_, rfl⟩
  have hT2 : ∀ z, T z < 2396746 := fun z => by rw [hT]; exact wy_lt
  have hSx : S ||| 2 ^ x < 256 := bt_or62 (n := 8) hS hx
  have hS31 : bv_or (S : Int) ((2 ^ x : Nat) : Int) = ((S ||| 2 ^ x : Nat) : Int) := bv_orN (by omega) (bt_p31 hx (by decide))
  -- the sets, by rising numbers
  have sets := lp_up (X := (Nat → Nat → Int) × (Nat → Nat) × (Nat → Nat)) (hi := 256)
    (I := fun s X => (∀ k, k < 2048 → X.1 113 k = (X.2.1 k : Int)) ∧ (∀ z, z < 8 → X.1 114 z = (X.2.2 z : Int)) ∧ (∀ c j, c ≠ 113 → c ≠ 114 → X.1 c j = δ c j) ∧ pth_ok R N T X.2.1 X.2.2 (8 * s))
    (G := fun s X => Go E (d + 3) (0, 0) mx_X12_laysPaths go_φ 61 [(0, vv_A 94), (1, vv_I (x : Int)), (2, vv_I (S : Int)), (3, vv_I (s : Int))] [] X.1 Q) (fun s X hs hI ih => ?_) (fun X hI => ?_)
  · have clr2 := lp_up (X := Nat → Nat → Int) (hi := 8) (I := fun k δ1 => (∀ j, j < 2048 → δ1 113 j = (((if j = 8 * (S ||| 2 ^ x) + x then 1 else 0 : Nat)) : Int)) ∧ (∀ z, z < k → δ1 114 z = 0) ∧ (∀ c j, c ≠ 113 → c ≠ 114 → δ1 c j = δ c j))
      (G := fun k δ1 => Go E (d + 3) (0, 0) mx_X12_laysPaths go_φ 40 [(0, vv_A 94), (1, vv_I (x : Int)), (2, vv_I (S : Int)), (3, vv_I (k : Int))] [] δ1 Q)
      (fun k δ1 hk hI ih => by
        refine go_iload_n (i := 3) dx_X12_laysPaths_40 rfl rfl ?_
        refine go_bipush dx_X12_laysPaths_41 rfl ?_
        refine go_icmp_ge (tgt := 59) dx_X12_laysPaths_43 rfl (by omega) (by omega) (fun c43 => by exact absurd c43 (by omega)) (fun c43 => ?_)
        refine go_aload_n (i := 0) dx_X12_laysPaths_46 rfl rfl ?_
        refine go_getA (b := 114) fs_X12_73 rfl (go_ok rfl rfl) rfl dx_X12_laysPaths_47 ?_
        refine go_iload_n (i := 3) dx_X12_laysPaths_50 rfl rfl ?_
        refine go_lconst (x := 0) dx_X12_laysPaths_51 rfl ?_
        refine go_lastoreV (i := k) dx_X12_laysPaths_52 (go_ok rfl rfl) (by omega) (show k < 8 by omega) ?_
        refine go_iinc (lv' := [(0, vv_A 94), (1, vv_I (x : Int)), (2, vv_I (S : Int)), (3, vv_I ((k : Int) + 1))]) dx_X12_laysPaths_53 rfl (by decide) rfl ?_
        refine go_goto (tgt := 40) dx_X12_laysPaths_56 rfl ?_
        refine ih _ ⟨fun j hj => by rw [wr_n (by omega)]; exact hI.1 j hj, fun z hz => ?_, fun c j h1 h2 => by rw [wr_n (by omega)]; exact hI.2.2 c j h1 h2⟩
        by_cases q : z = k
        · subst q; rw [wr_eq]
        · rw [wr_n (by omega)]; exact hI.2.1 z (by omega)
      ) (fun δ1 hI => by
        refine go_iload_n (i := 3) dx_X12_laysPaths_40 rfl rfl ?_
        refine go_bipush dx_X12_laysPaths_41 rfl ?_
        refine go_icmp_ge (tgt := 59) dx_X12_laysPaths_43 rfl (by omega) (by omega) (fun c43 => ?_) (fun c43 => by exact absurd c43 (by omega))
        refine go_iconst dx_X12_laysPaths_59 ?_
        refine go_istore_n (i := 3) (lv' := [(0, vv_A 94), (1, vv_I (x : Int)), (2, vv_I (S : Int)), (3, vv_I 0)]) dx_X12_laysPaths_60 rfl (by decide) rfl ?_
        refine sets 0 (δ1, (fun j => if j = 8 * (S ||| 2 ^ x) + x then 1 else 0), fun _ => 0) (Nat.zero_le _) ⟨hI.1, hI.2.1, hI.2.2, fun z hz => ?_, fun k _ hk => ?_⟩
        · show 0 + pth_s R N _ (8 * 0) z = T z
          unfold pth_s
          rw [Nat.zero_add, su_one (k := 8 * (S ||| 2 ^ x) + x) _ (by omega) (fun k _ hk => by rw [if_pos (by omega)]; show (if k = _ then 1 else 0) * _ = 0; rw [if_neg hk, Nat.zero_mul]), if_pos (by omega)]
          show (if _ = _ then 1 else 0) * pW R _ z = _
          rw [if_pos rfl, Nat.one_mul, hT]
          unfold pW
          rw [show (8 * (S ||| 2 ^ x) + x) / 8 = (S ||| 2 ^ x) by omega, show (8 * (S ||| 2 ^ x) + x) % 8 = x by omega]
        · have e : k = 8 * (S ||| 2 ^ x) + x := Classical.byContradiction (fun q => hk (if_neg q))
          rw [e, show (8 * (S ||| 2 ^ x) + x) / 8 = (S ||| 2 ^ x) by omega, show (8 * (S ||| 2 ^ x) + x) % 8 = x by omega]
          exact (bs_or1 _ _ _).mpr (Or.inr rfl)
      )
    have clr1 := lp_up (X := Nat → Nat → Int) (hi := 2048) (I := fun k δ1 => (∀ j, j < k → δ1 113 j = 0) ∧ (∀ c j, c ≠ 113 → c ≠ 114 → δ1 c j = δ c j))
      (G := fun k δ1 => Go E (d + 3) (0, 0) mx_X12_laysPaths go_φ 2 [(0, vv_A 94), (1, vv_I (x : Int)), (2, vv_I (S : Int)), (3, vv_I (k : Int))] [] δ1 Q)
      (fun k δ1 hk hI ih => by
        refine go_iload_n (i := 3) dx_X12_laysPaths_2 rfl rfl ?_
        refine go_sipush dx_X12_laysPaths_3 rfl ?_
        refine go_icmp_ge (tgt := 22) dx_X12_laysPaths_6 rfl (by omega) (by omega) (fun c6 => by exact absurd c6 (by omega)) (fun c6 => ?_)
        refine go_aload_n (i := 0) dx_X12_laysPaths_9 rfl rfl ?_
        refine go_getA (b := 113) fs_X12_70 rfl (go_ok rfl rfl) rfl dx_X12_laysPaths_10 ?_
        refine go_iload_n (i := 3) dx_X12_laysPaths_13 rfl rfl ?_
        refine go_lconst (x := 0) dx_X12_laysPaths_14 rfl ?_
        refine go_lastoreV (i := k) dx_X12_laysPaths_15 (go_ok rfl rfl) (by omega) (show k < 2048 by omega) ?_
        refine go_iinc (lv' := [(0, vv_A 94), (1, vv_I (x : Int)), (2, vv_I (S : Int)), (3, vv_I ((k : Int) + 1))]) dx_X12_laysPaths_16 rfl (by decide) rfl ?_
        refine go_goto (tgt := 2) dx_X12_laysPaths_19 rfl ?_
        refine ih _ ⟨fun j hj => ?_, fun c j h1 h2 => by rw [wr_n (by omega)]; exact hI.2 c j h1 h2⟩
        by_cases q : j = k
        · subst q; rw [wr_eq]
        · rw [wr_n (by omega)]; exact hI.1 j (by omega)
      ) (fun δ1 hI => by
        refine go_iload_n (i := 3) dx_X12_laysPaths_2 rfl rfl ?_
        refine go_sipush dx_X12_laysPaths_3 rfl ?_
        refine go_icmp_ge (tgt := 22) dx_X12_laysPaths_6 rfl (by omega) (by omega) (fun c6 => ?_) (fun c6 => by exact absurd c6 (by omega))
        refine go_aload_n (i := 0) dx_X12_laysPaths_22 rfl rfl ?_
        refine go_getA (b := 113) fs_X12_70 rfl (go_ok rfl rfl) rfl dx_X12_laysPaths_23 ?_
        refine go_bipush dx_X12_laysPaths_26 rfl ?_
        refine go_iload_n (i := 2) dx_X12_laysPaths_28 rfl rfl ?_
        refine go_iconst dx_X12_laysPaths_29 ?_
        refine go_iload_n (i := 1) dx_X12_laysPaths_30 rfl rfl ?_
        refine go_ishl dx_X12_laysPaths_31 ?_
        refine go_asI (y := ((2 ^ x : Nat) : Int)) (by exact bv_bit (by omega)) ?_
        refine go_ior dx_X12_laysPaths_32 ?_
        refine go_asI (y := ((S ||| 2 ^ x : Nat) : Int)) (by exact hS31) ?_
        refine go_imul dx_X12_laysPaths_33 ?_
        refine go_iload_n (i := 1) dx_X12_laysPaths_34 rfl rfl ?_
        refine go_iadd dx_X12_laysPaths_35 ?_
        refine go_lconst (x := 1) dx_X12_laysPaths_36 rfl ?_
        refine go_lastoreV (i := 8 * (S ||| 2 ^ x) + x) dx_X12_laysPaths_37 (go_ok rfl rfl) (by omega) (show 8 * (S ||| 2 ^ x) + x < 2048 by omega) ?_
        refine go_iconst dx_X12_laysPaths_38 ?_
        refine go_istore_n (i := 3) (lv' := [(0, vv_A 94), (1, vv_I (x : Int)), (2, vv_I (S : Int)), (3, vv_I 0)]) dx_X12_laysPaths_39 rfl (by decide) rfl ?_
        refine clr2 0 _ (Nat.zero_le _) ⟨fun j hj => ?_, fun z hz => absurd hz (Nat.not_lt_zero _), fun c j h1 h2 => by rw [wr_n (by omega)]; exact hI.2 c j h1 h2⟩
        by_cases q : j = 8 * (S ||| 2 ^ x) + x
        · rw [if_pos q, q, wr_eq]; rfl
        · rw [if_neg q, wr_i _ _ _ _ q, hI.1 j hj]; rfl
      )
    refine go_iconst dx_X12_laysPaths_0 ?_
    refine go_istore_n (i := 3) (lv' := [(0, vv_A 94), (1, vv_I (x : Int)), (2, vv_I (S : Int)), (3, vv_I 0)]) dx_X12_laysPaths_1 rfl (by decide) rfl ?_
    exact clr1 0 δ (Nat.zero_le _) ⟨fun j hj => absurd hj (Nat.not_lt_zero _), fun _ _ _ _ => rfl⟩
  · have names := lp_up (X := (Nat → Nat → Int) × (Nat → Nat) × (Nat → Nat)) (hi := 8)
      (I := fun y X => (∀ k, k < 2048 → X.1 113 k = (X.2.1 k : Int)) ∧ (∀ z, z < 8 → X.1 114 z = (X.2.2 z : Int)) ∧ (∀ c j, c ≠ 113 → c ≠ 114 → X.1 c j = δ c j) ∧ pth_ok R N T X.2.1 X.2.2 (8 * s + y))
      (G := fun y X => Go E (d + 3) (0, 0) mx_X12_laysPaths go_φ 71 [(0, vv_A 94), (1, vv_I (x : Int)), (2, vv_I (S : Int)), (3, vv_I (s : Int)), (4, vv_I (y : Int))] [] X.1 Q) (fun y X hy hI2 ih2 => ?_) (fun X hI2 => ?_)
    · refine go_iload_n (i := 3) dx_X12_laysPaths_61 rfl rfl ?_
      refine go_sipush dx_X12_laysPaths_62 rfl ?_
      refine go_icmp_ge (tgt := 203) dx_X12_laysPaths_65 rfl (by omega) (by omega) (fun c65 => by exact absurd c65 (by omega)) (fun c65 => ?_)
      refine go_iconst dx_X12_laysPaths_68 ?_
      refine go_istore (lv' := [(0, vv_A 94), (1, vv_I (x : Int)), (2, vv_I (S : Int)), (3, vv_I (s : Int)), (4, vv_I 0)]) dx_X12_laysPaths_69 (by decide) rfl ?_
      exact names 0 X (Nat.zero_le _) hI
    · obtain ⟨δ1, f, g⟩ := X
      obtain ⟨j1, j2, j3, j4⟩ := hI2
      dsimp only at j1 j2 j3 j4 ⊢
      obtain ⟨k, hk⟩ : ∃ k, k = 8 * s + y := ⟨_, rfl⟩
      have ek1 : k / 8 = s := by omega
      have ek2 : k % 8 = y := by omega
      have hkN : k < N := by omega
      rw [← hk] at j4
      have hb := pth_bd hkN j4
      rw [ek2] at hb
      have hTy := hT2 y
      have ih3 : ∀ (δ2 : Nat → Nat → Int) (f g : Nat → Nat), (∀ k, k < 2048 → δ2 113 k = (f k : Int)) → (∀ z, z < 8 → δ2 114 z = (g z : Int)) → (∀ c j, c ≠ 113 → c ≠ 114 → δ2 c j = δ c j) → pth_ok R N T f g (k + 1) → Go E (d + 3) (0, 0) mx_X12_laysPaths go_φ 71 [(0, vv_A 94), (1, vv_I (x : Int)), (2, vv_I (S : Int)), (3, vv_I (s : Int)), (4, vv_I ((y + 1 : Nat) : Int))] [] δ2 Q := fun δ2 f g a b c e => ih2 (δ2, f, g) ⟨a, b, c, by rw [hk] at e; exact e⟩
      obtain ⟨w, hw⟩ : ∃ w, w = f k := ⟨_, rfl⟩
      have hfk := j1 k (by omega)
      rw [← hw] at hfk hb
      have rules := lp_up (X := (Nat → Nat → Int) × (Nat → Nat) × (Nat → Nat)) (hi := 16)
        (I := fun r X => (∀ k, k < 2048 → X.1 113 k = (X.2.1 k : Int)) ∧ (∀ z, z < 8 → X.1 114 z = (X.2.2 z : Int)) ∧ (∀ c j, c ≠ 113 → c ≠ 114 → X.1 c j = δ c j) ∧ pmid R N T X.2.1 X.2.2 k w r)
        (G := fun r X => Go E (d + 3) (0, 0) mx_X12_laysPaths go_φ 117 [(0, vv_A 94), (1, vv_I (x : Int)), (2, vv_I (S : Int)), (3, vv_I (s : Int)), (4, vv_I (y : Int)), (5, vv_L (w : Int)), (7, vv_I (r : Int))] [] X.1 Q) (fun r X hr hI3 ih4 => ?_) (fun X hI3 => ?_)
      · refine go_iload dx_X12_laysPaths_71 rfl ?_
        refine go_bipush dx_X12_laysPaths_73 rfl ?_
        refine go_icmp_ge (tgt := 197) dx_X12_laysPaths_75 rfl (by omega) (by omega) (fun c75 => by exact absurd c75 (by omega)) (fun c75 => ?_)
        refine go_aload_n (i := 0) dx_X12_laysPaths_78 rfl rfl ?_
        refine go_getA (b := 113) fs_X12_70 rfl (go_ok rfl rfl) rfl dx_X12_laysPaths_79 ?_
        refine go_bipush dx_X12_laysPaths_82 rfl ?_
        refine go_iload_n (i := 3) dx_X12_laysPaths_84 rfl rfl ?_
        refine go_imul dx_X12_laysPaths_85 ?_
        refine go_iload dx_X12_laysPaths_86 rfl ?_
        refine go_iadd dx_X12_laysPaths_88 ?_
        refine go_laloadV (i := k) (v := ((w : Int))) dx_X12_laysPaths_89 (go_ok rfl rfl) (by omega) (show k < 2048 by omega) (by exact hfk) ?_
        refine go_lstore (lv' := [(0, vv_A 94), (1, vv_I (x : Int)), (2, vv_I (S : Int)), (3, vv_I (s : Int)), (4, vv_I (y : Int)), (5, vv_L ((w : Int)))]) dx_X12_laysPaths_90 (by decide) rfl ?_
        refine go_lload dx_X12_laysPaths_92 rfl ?_
        refine go_lconst (x := 0) dx_X12_laysPaths_94 rfl ?_
        refine go_lcmp_ne (tgt := 102) dx_X12_laysPaths_95 dx_X12_laysPaths_96 rfl (by omega) (by omega) (fun c95 => ?_) (fun c95 => ?_)
        · refine go_aload_n (i := 0) dx_X12_laysPaths_102 rfl rfl ?_
          refine go_getA (b := 114) fs_X12_73 rfl (go_ok rfl rfl) rfl dx_X12_laysPaths_103 ?_
          refine go_iload dx_X12_laysPaths_106 rfl ?_
          refine go_dup2 dx_X12_laysPaths_108 rfl rfl ?_
          refine go_laloadV (i := y) (v := ((g y : Int))) dx_X12_laysPaths_109 (go_ok rfl rfl) (by omega) (show y < 8 by omega) (by exact j2 y hy) ?_
          refine go_lload dx_X12_laysPaths_110 rfl ?_
          refine go_ladd dx_X12_laysPaths_112 ?_
          refine go_lastoreV (i := y) dx_X12_laysPaths_113 (go_ok rfl rfl) (by omega) (show y < 8 by omega) ?_
          refine go_iconst dx_X12_laysPaths_114 ?_
          refine go_istore (lv' := [(0, vv_A 94), (1, vv_I (x : Int)), (2, vv_I (S : Int)), (3, vv_I (s : Int)), (4, vv_I (y : Int)), (5, vv_L ((w : Int))), (7, vv_I 0)]) dx_X12_laysPaths_115 (by decide) rfl ?_
          have h0 : f k ≠ 0 := by omega
          have M := pth_go hkN j4 h0
          rw [ek2, ← hw] at M
          have rules0 : ∀ (δ2 : Nat → Nat → Int) (g2 : Nat → Nat), (∀ k, k < 2048 → δ2 113 k = (f k : Int)) → (∀ z, z < 8 → δ2 114 z = (g2 z : Int)) → (∀ c j, c ≠ 113 → c ≠ 114 → δ2 c j = δ c j) → pmid R N T f g2 k w 0 → Go E (d + 3) (0, 0) mx_X12_laysPaths go_φ 117 [(0, vv_A 94), (1, vv_I (x : Int)), (2, vv_I (S : Int)), (3, vv_I (s : Int)), (4, vv_I (y : Int)), (5, vv_L (w : Int)), (7, vv_I 0)] [] δ2 Q := fun δ2 g2 a b c e => rules 0 (δ2, f, g2) (Nat.zero_le _) ⟨a, b, c, e⟩
          refine rules0 _ (fun z => if z = y then g z + w else g z) (fun q hq => by rw [wr_n (by omega)]; exact j1 q hq) (fun z hz => ?_) (fun c j h1 h2 => by rw [wr_n (by omega)]; exact j3 c j h1 h2) M
          show wr δ1 114 y _ 114 z = (((if z = y then g z + w else g z : Nat)) : Int)
          by_cases e : z = y
          · subst e; rw [wr_eq, if_pos rfl]; omega
          · rw [wr_i _ _ _ _ e, if_neg e]; exact j2 z hz
        · refine go_goto (tgt := 191) dx_X12_laysPaths_99 rfl ?_
          refine go_iinc (lv' := [(0, vv_A 94), (1, vv_I (x : Int)), (2, vv_I (S : Int)), (3, vv_I (s : Int)), (4, vv_I ((y : Int) + 1)), (5, vv_L ((w : Int)))]) dx_X12_laysPaths_191 rfl (by decide) rfl ?_
          refine go_goto (tgt := 71) dx_X12_laysPaths_194 rfl ?_
          refine go_keep [0, 1, 2, 3, 4] rfl ?_
          exact ih3 δ1 f g j1 j2 j3 (pth_skip hkN j4 (by omega))
      · obtain ⟨δ2, f2, g2⟩ := X
        obtain ⟨i1, i2, i3, i4⟩ := hI3
        dsimp only at i1 i2 i3 i4 ⊢
        have ih5 : ∀ (δ3 : Nat → Nat → Int) (f g : Nat → Nat), (∀ k, k < 2048 → δ3 113 k = (f k : Int)) → (∀ z, z < 8 → δ3 114 z = (g z : Int)) → (∀ c j, c ≠ 113 → c ≠ 114 → δ3 c j = δ c j) → pmid R N T f g k w (r + 1) → Go E (d + 3) (0, 0) mx_X12_laysPaths go_φ 117 [(0, vv_A 94), (1, vv_I (x : Int)), (2, vv_I (S : Int)), (3, vv_I (s : Int)), (4, vv_I (y : Int)), (5, vv_L (w : Int)), (7, vv_I ((r + 1 : Nat) : Int))] [] δ3 Q := fun δ3 f g a b c e => ih4 (δ3, f, g) ⟨a, b, c, e⟩
        have hb2 : bo_at δ2 R := bo_fr h (fun j _ => i3 95 j (by decide) (by decide))
        by_cases hu : ∃ p, p < 8 ∧ R r = [y, p]
        · have hu2 := hu
          obtain ⟨p, hp, hl⟩ := hu2
          have hsp : s ||| 2 ^ p < 256 := bt_or62 (n := 8) (show s < 256 by omega) hp
          have hj1 := i1 (8 * (s ||| 2 ^ p) + p) (by omega)
          have hlen : (R r).length = 2 := by rw [hl]; rfl
          refine go_iload dx_X12_laysPaths_117 rfl ?_
          refine go_bipush dx_X12_laysPaths_119 rfl ?_
          refine go_icmp_ge (tgt := 191) dx_X12_laysPaths_121 rfl (by omega) (by omega) (fun c121 => by exact absurd c121 (by omega)) (fun c121 => ?_)
          refine go_aload_n (i := 0) dx_X12_laysPaths_124 rfl rfl ?_
          refine go_iload dx_X12_laysPaths_125 rfl ?_
          refine go_iload dx_X12_laysPaths_127 rfl ?_
          refine go_cV2 sv_X12_294 (go_ok rfl rfl) dx_X12_laysPaths_129 (Nat.le_of_ble_eq_true rfl) (Nat.le_of_ble_eq_true rfl) (m_isUnitOf hb2 hr hy ?_)
          refine go_b_eq (tgt := 185) dx_X12_laysPaths_132 rfl (fun c132 => by exact absurd hu c132) (fun c132 => ?_)
          refine go_iload_n (i := 3) dx_X12_laysPaths_135 rfl rfl ?_
          refine go_aload_n (i := 0) dx_X12_laysPaths_136 rfl rfl ?_
          refine go_iload dx_X12_laysPaths_137 rfl ?_
          refine go_iconst dx_X12_laysPaths_139 ?_
          refine go_asI (y := ((0 : Nat) : Int)) (by rfl) ?_
          refine go_cV2 sv_X12_190 (go_ok rfl rfl) dx_X12_laysPaths_140 (Nat.le_of_ble_eq_true rfl) (Nat.le_of_ble_eq_true rfl) (o_partOf hb2 hr (by omega) ?_)
          refine go_asI (y := (p : Int)) (by rw [hl]; rfl) ?_
          refine go_ishr dx_X12_laysPaths_143 ?_
          refine go_iconst dx_X12_laysPaths_144 ?_
          refine go_iand dx_X12_laysPaths_145 ?_
          refine go_asI (y := (b01 (s.testBit p = true))) (by exact bv_tstbS (by omega) (by omega)) ?_
          refine go_iconst dx_X12_laysPaths_146 ?_
          refine go_icmp_ne (tgt := 153) dx_X12_laysPaths_147 rfl (by first | omega | (have := b01_iI (s.testBit p = true); omega)) (by first | omega | (have := b01_iI (s.testBit p = true); omega)) (fun c147 => ?_) (fun c147 => ?_)
          · refine go_aload_n (i := 0) dx_X12_laysPaths_153 rfl rfl ?_
            refine go_getA (b := 113) fs_X12_70 rfl (go_ok rfl rfl) rfl dx_X12_laysPaths_154 ?_
            refine go_bipush dx_X12_laysPaths_157 rfl ?_
            refine go_iload_n (i := 3) dx_X12_laysPaths_159 rfl rfl ?_
            refine go_iconst dx_X12_laysPaths_160 ?_
            refine go_aload_n (i := 0) dx_X12_laysPaths_161 rfl rfl ?_
            refine go_iload dx_X12_laysPaths_162 rfl ?_
            refine go_iconst dx_X12_laysPaths_164 ?_
            refine go_asI (y := ((0 : Nat) : Int)) (by rfl) ?_
            refine go_cV2 sv_X12_190 (go_ok rfl rfl) dx_X12_laysPaths_165 (Nat.le_of_ble_eq_true rfl) (Nat.le_of_ble_eq_true rfl) (o_partOf hb2 hr (by omega) ?_)
            refine go_asI (y := (p : Int)) (by rw [hl]; rfl) ?_
            refine go_ishl dx_X12_laysPaths_168 ?_
            refine go_asI (y := ((2 ^ p : Nat) : Int)) (by exact bv_bit (by omega)) ?_
            refine go_ior dx_X12_laysPaths_169 ?_
            refine go_asI (y := ((s ||| 2 ^ p : Nat) : Int)) (by exact bv_orN (by omega) (bt_p31 hp (by decide))) ?_
            refine go_imul dx_X12_laysPaths_170 ?_
            refine go_aload_n (i := 0) dx_X12_laysPaths_171 rfl rfl ?_
            refine go_iload dx_X12_laysPaths_172 rfl ?_
            refine go_iconst dx_X12_laysPaths_174 ?_
            refine go_asI (y := ((0 : Nat) : Int)) (by rfl) ?_
            refine go_cV2 sv_X12_190 (go_ok rfl rfl) dx_X12_laysPaths_175 (Nat.le_of_ble_eq_true rfl) (Nat.le_of_ble_eq_true rfl) (o_partOf hb2 hr (by omega) ?_)
            refine go_asI (y := (p : Int)) (by rw [hl]; rfl) ?_
            refine go_iadd dx_X12_laysPaths_178 ?_
            refine go_dup2 dx_X12_laysPaths_179 rfl rfl ?_
            refine go_laloadV (i := (8 * (s ||| 2 ^ p) + p)) (v := ((f2 (8 * (s ||| 2 ^ p) + p) : Int))) dx_X12_laysPaths_180 (go_ok rfl rfl) (by omega) (show (8 * (s ||| 2 ^ p) + p) < 2048 by omega) (by exact hj1) ?_
            refine go_lload dx_X12_laysPaths_181 rfl ?_
            refine go_ladd dx_X12_laysPaths_183 ?_
            refine go_lastoreV (i := 8 * (s ||| 2 ^ p) + p) dx_X12_laysPaths_184 (go_ok rfl rfl) (by omega) (show 8 * (s ||| 2 ^ p) + p < 2048 by omega) ?_
            refine go_iinc (lv' := [(0, vv_A 94), (1, vv_I (x : Int)), (2, vv_I (S : Int)), (3, vv_I (s : Int)), (4, vv_I (y : Int)), (5, vv_L (w : Int)), (7, vv_I ((r : Int) + 1))]) dx_X12_laysPaths_185 rfl (by decide) rfl ?_
            refine go_goto (tgt := 117) dx_X12_laysPaths_188 rfl ?_
            have hnot : ¬ s.testBit p = true := fun q => c147 (b01_1.mpr q)
            have M := pth_yes (j := 8 * (s ||| 2 ^ p) + p) hd hr hp (by rw [ek1]) (by omega) i4 (by rw [ek2]; exact hl) (by rw [ek1]; exact hnot)
            refine ih5 _ (fun i => if i = 8 * (s ||| 2 ^ p) + p then f2 i + w else f2 i) g2 (fun q hq => ?_) (fun z hz => by rw [wr_n (by omega)]; exact i2 z hz) (fun c j h1 h2 => by rw [wr_n (by omega)]; exact i3 c j h1 h2) M
            show _ = (((if q = 8 * (s ||| 2 ^ p) + p then f2 q + w else f2 q : Nat)) : Int)
            by_cases e : q = 8 * (s ||| 2 ^ p) + p
            · rw [if_pos e, e, wr_eq]; omega
            · rw [if_neg e, wr_i _ _ _ _ e]; exact i1 q hq
          · refine go_goto (tgt := 185) dx_X12_laysPaths_150 rfl ?_
            refine go_iinc (lv' := [(0, vv_A 94), (1, vv_I (x : Int)), (2, vv_I (S : Int)), (3, vv_I (s : Int)), (4, vv_I (y : Int)), (5, vv_L (w : Int)), (7, vv_I ((r : Int) + 1))]) dx_X12_laysPaths_185 rfl (by decide) rfl ?_
            refine go_goto (tgt := 117) dx_X12_laysPaths_188 rfl ?_
            exact ih5 δ2 f2 g2 i1 i2 i3 (pth_no hr i4 (fun p' _ e => by
              rw [ek2, hl] at e
              injection e with e1 e2
              injection e2 with e3 e4
              subst e3
              rw [ek1]
              exact b01_1.mp (by omega)))
        · refine go_iload dx_X12_laysPaths_117 rfl ?_
          refine go_bipush dx_X12_laysPaths_119 rfl ?_
          refine go_icmp_ge (tgt := 191) dx_X12_laysPaths_121 rfl (by omega) (by omega) (fun c121 => by exact absurd c121 (by omega)) (fun c121 => ?_)
          refine go_aload_n (i := 0) dx_X12_laysPaths_124 rfl rfl ?_
          refine go_iload dx_X12_laysPaths_125 rfl ?_
          refine go_iload dx_X12_laysPaths_127 rfl ?_
          refine go_cV2 sv_X12_294 (go_ok rfl rfl) dx_X12_laysPaths_129 (Nat.le_of_ble_eq_true rfl) (Nat.le_of_ble_eq_true rfl) (m_isUnitOf hb2 hr hy ?_)
          refine go_b_eq (tgt := 185) dx_X12_laysPaths_132 rfl (fun c132 => ?_) (fun c132 => by exact absurd c132 hu)
          refine go_iinc (lv' := [(0, vv_A 94), (1, vv_I (x : Int)), (2, vv_I (S : Int)), (3, vv_I (s : Int)), (4, vv_I (y : Int)), (5, vv_L (w : Int)), (7, vv_I ((r : Int) + 1))]) dx_X12_laysPaths_185 rfl (by decide) rfl ?_
          refine go_goto (tgt := 117) dx_X12_laysPaths_188 rfl ?_
          exact ih5 δ2 f2 g2 i1 i2 i3 (pth_no hr i4 (fun p' hp' e => absurd ⟨p', hp', by rw [ek2] at e; exact e⟩ hu))
      · obtain ⟨δ2, f2, g2⟩ := X
        obtain ⟨i1, i2, i3, i4⟩ := hI3
        dsimp only at i1 i2 i3 i4 ⊢
        refine go_iload dx_X12_laysPaths_117 rfl ?_
        refine go_bipush dx_X12_laysPaths_119 rfl ?_
        refine go_icmp_ge (tgt := 191) dx_X12_laysPaths_121 rfl (by omega) (by omega) (fun c121 => ?_) (fun c121 => by exact absurd c121 (by omega))
        refine go_iinc (lv' := [(0, vv_A 94), (1, vv_I (x : Int)), (2, vv_I (S : Int)), (3, vv_I (s : Int)), (4, vv_I ((y : Int) + 1)), (5, vv_L (w : Int)), (7, vv_I ((16 : Nat) : Int))]) dx_X12_laysPaths_191 rfl (by decide) rfl ?_
        refine go_goto (tgt := 71) dx_X12_laysPaths_194 rfl ?_
        refine go_keep [0, 1, 2, 3, 4] rfl ?_
        exact ih3 δ2 f2 g2 i1 i2 i3 (pth_end i4)
    · obtain ⟨δ1, f, g⟩ := X
      obtain ⟨j1, j2, j3, j4⟩ := hI2
      dsimp only at j1 j2 j3 j4 ⊢
      refine go_iload dx_X12_laysPaths_71 rfl ?_
      refine go_bipush dx_X12_laysPaths_73 rfl ?_
      refine go_icmp_ge (tgt := 197) dx_X12_laysPaths_75 rfl (by omega) (by omega) (fun c75 => ?_) (fun c75 => by exact absurd c75 (by omega))
      refine go_iinc (lv' := [(0, vv_A 94), (1, vv_I (x : Int)), (2, vv_I (S : Int)), (3, vv_I ((s : Int) + 1)), (4, vv_I ((8 : Nat) : Int))]) dx_X12_laysPaths_197 rfl (by decide) rfl ?_
      refine go_goto (tgt := 61) dx_X12_laysPaths_200 rfl ?_
      refine go_keep [0, 1, 2, 3] rfl ?_
      exact ih (δ1, f, g) ⟨j1, j2, j3, j4⟩
  · obtain ⟨δ1, f, g⟩ := X
    obtain ⟨j1, j2, j3, j4⟩ := hI
    dsimp only at j1 j2 j3 j4 ⊢
    refine go_iload_n (i := 3) dx_X12_laysPaths_61 rfl rfl ?_
    refine go_sipush dx_X12_laysPaths_62 rfl ?_
    refine go_icmp_ge (tgt := 203) dx_X12_laysPaths_65 rfl (by omega) (by omega) (fun c65 => ?_) (fun c65 => by exact absurd c65 (by omega))
    refine go_vreturn dx_X12_laysPaths_203 rfl (Nat.le_refl _) (Nat.le_refl _) ?_
    refine hQ δ1 (fun z hz => ?_) j3
    have e := j4.1 z hz
    unfold pth_s at e
    rw [su_zero (fun k hk => if_neg (by omega)), Nat.add_zero] at e
    rw [j2 z hz, e, hT]
end GMPA
