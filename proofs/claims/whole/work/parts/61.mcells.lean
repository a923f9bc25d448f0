/-! the reference: closures by units, products, cells -/
theorem b01_1 {P : Prop} : b01 P = 1 ↔ P := by
  by_cases h : P
  · rw [b01_t h]; exact ⟨fun _ => h, fun _ => rfl⟩
  · rw [b01_f h]; exact ⟨fun q => absurd q (by decide), fun q => absurd q h⟩
theorem bs_or1 (t x z : Nat) : (t ||| 2 ^ x).testBit z = true ↔ t.testBit z = true ∨ x = z := by rw [bt_orb, bt_one]
theorem bs_lt {n t t' : Nat} (h : ∀ x, t.testBit x = true → t'.testBit x = true) (hne : ¬ t' = t) (hn : t' < 2 ^ n) : cn n (fun x => ¬ t'.testBit x = true) < cn n (fun x => ¬ t.testBit x = true) := by
  have hex : ∃ y, t'.testBit y = true ∧ ¬ t.testBit y = true := Classical.byContradiction (fun q => hne (bt_ext (fun x => ⟨fun w => Classical.byContradiction (fun z => q ⟨x, w, z⟩), h x⟩)))
  obtain ⟨y, y1, y2⟩ := hex
  have hy : y < n := Nat.lt_of_not_le (fun q => by rw [mk_hi hn q] at y1; cases y1)
  exact cn_lt (fun x _ q w => q (h x w)) hy y2 (fun q => q y1)
theorem bt_or62 {t x n : Nat} (h : t < 2 ^ n) (hx : x < n) : t ||| 2 ^ x < 2 ^ n := bt_or_lt h (Nat.pow_lt_pow_right (by decide) hx)
/-- set by set to a closure: what a row of passes keeps -/
def pc_ok (n : Nat) (s t : Nat) (L : Nat → Prop) : Prop := t < 2 ^ n ∧ (∀ x, s.testBit x = true → t.testBit x = true) ∧ ∀ x, t.testBit x = true → L x
def me_at (δ : Nat → Nat → Int) (R : Nat → List Nat) (w : List Nat) : Prop := ∀ i j, i < j → j ≤ w.length → δ 107 (16 * i + j) = (mk 62 (fun x => dp R (plw w) x i j) : Int)
def mw_at (δ : Nat → Nat → Int) (w : List Nat) : Prop := ∀ k (h : k < w.length), δ 106 k = (w[k] : Int)
theorem me_fr {δ δ' : Nat → Nat → Int} {R : Nat → List Nat} {w : List Nat} (h : me_at δ R w) (f : ∀ j, δ' 107 j = δ 107 j) : me_at δ' R w := fun i j h1 h2 => by rw [f]; exact h i j h1 h2
theorem mw_fr {δ δ' : Nat → Nat → Int} {w : List Nat} (h : mw_at δ w) (f : ∀ j, δ' 106 j = δ 106 j) : mw_at δ' w := fun k hk => by rw [f]; exact h k hk
section GMC
variable {E : go_E} {d : Nat} {δ : Nat → Nat → Int} {Q : List go_V → go_F → (Nat → Nat → Int) → Prop} {K : sK} {R : Nat → List Nat} {w : List Nat}
theorem m_has {m x : Nat} (hm : m < 9223372036854775808) (hx : x < 64) (hQ : Q [vv_I (b01 (m.testBit x = true))] go_φ δ) : Go E d (0, 0) mx_X12_has go_φ 0 [(0, vv_L (m : Int)), (2, vv_I (x : Int))] [] δ Q := by
  refine go_lload_n (i := 0) dx_X12_has_0 rfl rfl ?_
  refine go_iload_n (i := 2) dx_X12_has_1 rfl rfl ?_
  refine go_lshr dx_X12_has_2 ?_
  refine go_lconst (x := 1) dx_X12_has_3 rfl ?_
  refine go_land dx_X12_has_4 ?_
  refine go_asL (y := (b01 (m.testBit x = true))) (by exact bw_tstbS hm hx) ?_
  refine go_lconst (x := 1) dx_X12_has_5 rfl ?_
  refine go_lcmp_ne (tgt := 14) dx_X12_has_6 dx_X12_has_7 rfl (by first | omega | (have := b01_iL (m.testBit x = true); omega)) (by first | omega | (have := b01_iL (m.testBit x = true); omega)) (fun c6 => ?_) (fun c6 => ?_)
  · refine go_iconst dx_X12_has_14 ?_
    refine go_zreturn dx_X12_has_15 rfl (by first | exact Or.inl rfl | exact Or.inr rfl | assumption | omega) (Nat.le_refl _) (Nat.le_refl _) ?_
    first | (rw [b01_t (b01_1.mp c6)] at hQ; exact hQ) | (rw [b01_f (fun q => c6 (b01_1.mpr q))] at hQ; exact hQ)
  · refine go_iconst dx_X12_has_10 ?_
    refine go_goto (tgt := 15) dx_X12_has_11 rfl ?_
    refine go_zreturn dx_X12_has_15 rfl (by first | exact Or.inl rfl | exact Or.inr rfl | assumption | omega) (Nat.le_refl _) (Nat.le_refl _) ?_
    first | (rw [b01_t (b01_1.mp c6)] at hQ; exact hQ) | (rw [b01_f (fun q => c6 (b01_1.mpr q))] at hQ; exact hQ)
theorem m_closed {s : Nat} (h : bo_at δ R) (hs : s < 2 ^ 62) (hQ : Q [vv_L (mk 62 (lf R s) : Int)] go_φ δ) :
    Go E (d + 1) (0, 0) mx_X12_closed go_φ 0 [(0, vv_A 94), (1, vv_L (s : Int))] [] δ Q := by
  have hR := h.1
  have outer := lp_wf (X := Nat × Nat) (fun X => 2 * cn 62 (fun x => ¬ X.1.testBit x = true) + X.2)
    (I := fun X => pc_ok 62 s X.1 (lf R s) ∧ (X.2 = 0 ∨ X.2 = 1) ∧ (X.2 = 0 → ∀ x y, un R x y → X.1.testBit y = true → X.1.testBit x = true))
    (G := fun X => Go E (d + 1) (0, 0) mx_X12_closed go_φ 5 [(0, vv_A 94), (1, vv_L (s : Int)), (3, vv_L (X.1 : Int)), (5, vv_I (X.2 : Int))] [] δ Q) (fun X hI ih => ?_)
  · refine go_lload_n (i := 1) dx_X12_closed_0 rfl rfl ?_
    refine go_lstore_n (i := 3) (lv' := [(0, vv_A 94), (1, vv_L (s : Int)), (3, vv_L (s : Int))]) dx_X12_closed_1 rfl (by decide) rfl ?_
    refine go_iconst dx_X12_closed_2 ?_
    refine go_istore (lv' := [(0, vv_A 94), (1, vv_L (s : Int)), (3, vv_L (s : Int)), (5, vv_I 1)]) dx_X12_closed_3 (by decide) rfl ?_
    exact outer (s, 1) ⟨⟨hs, fun _ q => q, fun _ q => Or.inl q⟩, Or.inr rfl, fun q => absurd (show (1 : Nat) = 0 from q) (by decide)⟩
  · obtain ⟨t, m⟩ := X
    obtain ⟨⟨j1, j2, j3⟩, j4, j5⟩ := hI
    dsimp only at j1 j2 j3 j4 j5 ih ⊢
    have t63 := bt_m63 j1 (by decide)
    have inner := lp_up (X := Nat) (hi := 16) (I := fun r u => pc_ok 62 s u (lf R s) ∧ (∀ x, t.testBit x = true → u.testBit x = true) ∧ (u = t → ∀ r', r' < r → ∀ x y, R r' = [x, y] → t.testBit y = true → t.testBit x = true))
      (G := fun r u => m = 1 → Go E (d + 1) (0, 0) mx_X12_closed go_φ 16 [(0, vv_A 94), (1, vv_L (s : Int)), (3, vv_L (u : Int)), (6, vv_L (t : Int)), (8, vv_I (r : Int))] [] δ Q)
      (fun r u hr hI ih2 hm => ?_) (fun u hI hm => ?_)
    · rcases j4 with q | q
      · subst q
        refine go_iload dx_X12_closed_5 rfl ?_
        refine go_if_eq (tgt := 81) dx_X12_closed_7 rfl (by omega) (fun c7 => ?_) (fun c7 => by exact absurd rfl c7)
        refine go_lload_n (i := 3) dx_X12_closed_81 rfl rfl ?_
        refine go_lreturn dx_X12_closed_82 rfl (Nat.le_refl _) (Nat.le_refl _) ?_
        have e : mk 62 (lf R s) = t := (mk_eq j1 (fun x _ => ⟨j3 x, fun q => by
          rcases q with q | ⟨y, y1, y2⟩
          · exact j2 x q
          · exact ut_ind (P := fun a b => t.testBit b = true → t.testBit a = true) (fun a b q z => j5 rfl a b q z) (fun a b c q _ k z => j5 rfl a b q (k z)) y1 (j2 y y2)⟩)).symm
        rw [e] at hQ
        exact hQ
      · subst q
        refine go_iload dx_X12_closed_5 rfl ?_
        refine go_if_eq (tgt := 81) dx_X12_closed_7 rfl (by omega) (fun c7 => by exact absurd c7 (by decide)) (fun c7 => ?_)
        refine go_lload_n (i := 3) dx_X12_closed_10 rfl rfl ?_
        refine go_lstore (lv' := [(0, vv_A 94), (1, vv_L (s : Int)), (3, vv_L (t : Int)), (5, vv_I ((1 : Nat) : Int)), (6, vv_L (t : Int))]) dx_X12_closed_11 (by decide) rfl ?_
        refine go_iconst dx_X12_closed_13 ?_
        refine go_istore (lv' := [(0, vv_A 94), (1, vv_L (s : Int)), (3, vv_L (t : Int)), (5, vv_I ((1 : Nat) : Int)), (6, vv_L (t : Int)), (8, vv_I 0)]) dx_X12_closed_14 (by decide) rfl ?_
        refine go_keep [0, 1, 2, 4, 5] rfl ?_
        exact inner 0 t (Nat.zero_le _) ⟨⟨j1, j2, j3⟩, fun _ q => q, fun _ r' hr' => absurd hr' (Nat.not_lt_zero _)⟩ rfl
    · obtain ⟨⟨i1, i2, i3⟩, i4, i5⟩ := hI
      have u63 := bt_m63 i1 (by decide)
      have hok := hR r
      have hlen := hok.len
      have same : ((R r).length = 2 → ∀ x y, R r = [x, y] → ¬ u.testBit y = true) → Go E (d + 1) (0, 0) mx_X12_closed go_φ 16 [(0, vv_A 94), (1, vv_L (s : Int)), (3, vv_L (u : Int)), (6, vv_L (t : Int)), (8, vv_I ((r + 1 : Nat) : Int))] [] δ Q := fun hno =>
        ih2 u ⟨⟨i1, i2, i3⟩, i4, fun e r' hr' x y hxy hy => by
          by_cases q : r' = r
          · subst q; exact absurd (i4 y hy) (hno (by rw [hxy]; rfl) x y hxy)
          · exact i5 e r' (by omega) x y hxy hy⟩ hm
      refine go_iload dx_X12_closed_16 rfl ?_
      refine go_bipush dx_X12_closed_18 rfl ?_
      refine go_icmp_ge (tgt := 64) dx_X12_closed_20 rfl (by omega) (by omega) (fun c20 => by exact absurd c20 (by omega)) (fun c20 => ?_)
      refine go_aload_n (i := 0) dx_X12_closed_23 rfl rfl ?_
      refine go_iload dx_X12_closed_24 rfl ?_
      refine go_cV1 sv_X12_148 (go_ok rfl rfl) dx_X12_closed_26 (Nat.le_of_ble_eq_true rfl) (Nat.le_of_ble_eq_true rfl) (o_longOf h hr ?_)
      refine go_iconst dx_X12_closed_29 ?_
      refine go_icmp_ne (tgt := 58) dx_X12_closed_30 rfl (by omega) (by omega) (fun c30 => ?_) (fun c30 => ?_)
      · refine go_iinc (lv' := [(0, vv_A 94), (1, vv_L (s : Int)), (3, vv_L (u : Int)), (6, vv_L (t : Int)), (8, vv_I ((r : Int) + 1))]) dx_X12_closed_58 rfl (by decide) rfl ?_
        refine go_goto (tgt := 16) dx_X12_closed_61 rfl ?_
        exact same (fun q => absurd q (by omega))
      · have hl2 : (R r).length = 2 := by omega
        obtain ⟨x, y, q, hl, hx, hy, hq⟩ := rl_split hR (r := r) (fun w => by rw [w] at hl2; cases hl2)
        have hq0 : q = [] := List.eq_nil_of_length_eq_zero (by rw [hl] at hl2; simp only [List.length_cons] at hl2; omega)
        subst hq0
        refine go_lload_n (i := 3) dx_X12_closed_33 rfl rfl ?_
        refine go_aload_n (i := 0) dx_X12_closed_34 rfl rfl ?_
        refine go_iload dx_X12_closed_35 rfl ?_
        refine go_iconst dx_X12_closed_37 ?_
        refine go_asI (y := ((0 : Nat) : Int)) (by rfl) ?_
        refine go_cV2 sv_X12_190 (go_ok rfl rfl) dx_X12_closed_38 (Nat.le_of_ble_eq_true rfl) (Nat.le_of_ble_eq_true rfl) (o_partOf h hr (by omega) ?_)
        refine go_asI (y := (y : Int)) (by rw [hl]; rfl) ?_
        refine go_cS2 ss_X12_241 dx_X12_closed_41 (Nat.le_of_ble_eq_true rfl) (Nat.le_of_ble_eq_true rfl) (m_has u63 (by omega) ?_)
        refine go_b_eq (tgt := 58) dx_X12_closed_44 rfl (fun c44 => ?_) (fun c44 => ?_)
        · refine go_iinc (lv' := [(0, vv_A 94), (1, vv_L (s : Int)), (3, vv_L (u : Int)), (6, vv_L (t : Int)), (8, vv_I ((r : Int) + 1))]) dx_X12_closed_58 rfl (by decide) rfl ?_
          refine go_goto (tgt := 16) dx_X12_closed_61 rfl ?_
          exact same (fun _ x' y' e => by rw [hl] at e; injection e with e1 e2; injection e2 with e3 e4; subst e3; exact c44)
        · refine go_lload_n (i := 3) dx_X12_closed_47 rfl rfl ?_
          refine go_lconst (x := 1) dx_X12_closed_48 rfl ?_
          refine go_aload_n (i := 0) dx_X12_closed_49 rfl rfl ?_
          refine go_iload dx_X12_closed_50 rfl ?_
          refine go_cV1 sv_X12_184 (go_ok rfl rfl) dx_X12_closed_52 (Nat.le_of_ble_eq_true rfl) (Nat.le_of_ble_eq_true rfl) (o_symbolOf h hr (by omega) ?_)
          refine go_asI (y := (x : Int)) (by rw [hl]; rfl) ?_
          refine go_lshl dx_X12_closed_55 ?_
          refine go_asL (y := ((2 ^ x : Nat) : Int)) (by exact bw_bit (by omega)) ?_
          refine go_lor dx_X12_closed_56 ?_
          refine go_asL (y := ((u ||| 2 ^ x : Nat) : Int)) (by exact bw_orN u63 (bt_p63 (show x < 62 by omega) (by decide))) ?_
          refine go_lstore_n (i := 3) (lv' := [(0, vv_A 94), (1, vv_L (s : Int)), (3, vv_L ((u ||| 2 ^ x : Nat) : Int)), (6, vv_L (t : Int)), (8, vv_I (r : Int))]) dx_X12_closed_57 rfl (by decide) rfl ?_
          refine go_iinc (lv' := [(0, vv_A 94), (1, vv_L (s : Int)), (3, vv_L ((u ||| 2 ^ x : Nat) : Int)), (6, vv_L (t : Int)), (8, vv_I ((r : Int) + 1))]) dx_X12_closed_58 rfl (by decide) rfl ?_
          refine go_goto (tgt := 16) dx_X12_closed_61 rfl ?_
          refine ih2 (u ||| 2 ^ x) ⟨⟨bt_or62 i1 (by omega), fun z hz => (bs_or1 _ _ _).mpr (Or.inl (i2 z hz)), fun z hz => ?_⟩, fun z hz => (bs_or1 _ _ _).mpr (Or.inl (i4 z hz)), fun e r' hr' x' y' hxy hy' => ?_⟩ hm
          · rcases (bs_or1 _ _ _).mp hz with z1 | z1
            · exact i3 z z1
            · subst z1
              rcases i3 y c44 with z2 | ⟨p, p1, p2⟩
              · exact Or.inr ⟨y, ut_one ⟨r, hr, hl⟩, z2⟩
              · exact Or.inr ⟨p, ut_cons ⟨r, hr, hl⟩ p1, p2⟩
          · by_cases q : r' = r
            · subst q
              rw [hl] at hxy
              injection hxy with e1 e2
              subst e1
              rw [← e]
              exact (bs_or1 _ _ _).mpr (Or.inr rfl)
            · refine i5 (bt_ext (fun z => ⟨fun w => ?_, i4 z⟩)) r' (by omega) x' y' hxy hy'
              rw [← e]
              exact (bs_or1 _ _ _).mpr (Or.inl w)
    · obtain ⟨⟨i1, i2, i3⟩, i4, i5⟩ := hI
      have u63 := bt_m63 i1 (by decide)
      subst hm
      refine go_iload dx_X12_closed_16 rfl ?_
      refine go_bipush dx_X12_closed_18 rfl ?_
      refine go_icmp_ge (tgt := 64) dx_X12_closed_20 rfl (by omega) (by omega) (fun c20 => ?_) (fun c20 => by exact absurd c20 (by omega))
      refine go_lload_n (i := 3) dx_X12_closed_64 rfl rfl ?_
      refine go_lload dx_X12_closed_65 rfl ?_
      refine go_lcmp_eq (tgt := 75) dx_X12_closed_67 dx_X12_closed_68 rfl (by omega) (by omega) (fun c67 => ?_) (fun c67 => ?_)
      · refine go_iconst dx_X12_closed_75 ?_
        refine go_istore (lv' := [(0, vv_A 94), (1, vv_L (s : Int)), (3, vv_L (u : Int)), (5, vv_I 0), (6, vv_L (t : Int)), (8, vv_I ((16 : Nat) : Int))]) dx_X12_closed_76 (by decide) rfl ?_
        refine go_goto (tgt := 5) dx_X12_closed_78 rfl ?_
        refine go_keep [0, 1, 2, 3] rfl ?_
        have e : u = t := by omega
        subst e
        refine ih (u, 0) ⟨⟨i1, i2, i3⟩, Or.inl rfl, fun _ x y ⟨r, hr, hxy⟩ => i5 rfl r hr x y hxy⟩ (Nat.lt_succ_self _)
      · refine go_iconst dx_X12_closed_71 ?_
        refine go_goto (tgt := 76) dx_X12_closed_72 rfl ?_
        refine go_istore (lv' := [(0, vv_A 94), (1, vv_L (s : Int)), (3, vv_L (u : Int)), (5, vv_I 1), (6, vv_L (t : Int)), (8, vv_I ((16 : Nat) : Int))]) dx_X12_closed_76 (by decide) rfl ?_
        refine go_goto (tgt := 5) dx_X12_closed_78 rfl ?_
        refine go_keep [0, 1, 2, 3] rfl ?_
        have hne : ¬ u = t := by omega
        refine ih (u, 1) ⟨⟨i1, i2, i3⟩, Or.inr rfl, fun q => absurd (show (1 : Nat) = 0 from q) (by decide)⟩ ?_
        have := bs_lt i4 hne i1
        dsimp only
        omega
theorem m_unitsFrom {s : Nat} (h : bo_at δ R) (hs : s < 2 ^ 14) (hQ : Q [vv_I (mk 14 (fun y => s.testBit y = true ∨ ∃ x, s.testBit x = true ∧ ut R x y) : Int)] go_φ δ) :
    Go E (d + 1) (0, 0) mx_X12_unitsFrom go_φ 0 [(0, vv_A 94), (1, vv_I (s : Int))] [] δ Q := by
  have hR := h.1
  have outer := lp_wf (X := Nat × Nat) (fun X => 2 * cn 14 (fun x => ¬ X.1.testBit x = true) + X.2)
    (I := fun X => pc_ok 14 s X.1 (fun y => s.testBit y = true ∨ ∃ x, s.testBit x = true ∧ ut R x y) ∧ (X.2 = 0 ∨ X.2 = 1) ∧ (X.2 = 0 → ∀ x y, un R x y → X.1.testBit x = true → X.1.testBit y = true))
    (G := fun X => Go E (d + 1) (0, 0) mx_X12_unitsFrom go_φ 4 [(0, vv_A 94), (1, vv_I (s : Int)), (2, vv_I (X.1 : Int)), (3, vv_I (X.2 : Int))] [] δ Q) (fun X hI ih => ?_)
  · refine go_iload_n (i := 1) dx_X12_unitsFrom_0 rfl rfl ?_
    refine go_istore_n (i := 2) (lv' := [(0, vv_A 94), (1, vv_I (s : Int)), (2, vv_I (s : Int))]) dx_X12_unitsFrom_1 rfl (by decide) rfl ?_
    refine go_iconst dx_X12_unitsFrom_2 ?_
    refine go_istore_n (i := 3) (lv' := [(0, vv_A 94), (1, vv_I (s : Int)), (2, vv_I (s : Int)), (3, vv_I 1)]) dx_X12_unitsFrom_3 rfl (by decide) rfl ?_
    exact outer (s, 1) ⟨⟨hs, fun _ q => q, fun _ q => Or.inl q⟩, Or.inr rfl, fun q => absurd (show (1 : Nat) = 0 from q) (by decide)⟩
  · obtain ⟨t, m⟩ := X
    obtain ⟨⟨j1, j2, j3⟩, j4, j5⟩ := hI
    dsimp only at j1 j2 j3 j4 j5 ih ⊢
    have t63 := bt_m31 j1 (by decide)
    have inner := lp_up (X := Nat) (hi := 16) (I := fun r u => pc_ok 14 s u (fun y => s.testBit y = true ∨ ∃ x, s.testBit x = true ∧ ut R x y) ∧ (∀ x, t.testBit x = true → u.testBit x = true) ∧ (u = t → ∀ r', r' < r → ∀ x y, R r' = [x, y] → t.testBit x = true → t.testBit y = true))
      (G := fun r u => m = 1 → Go E (d + 1) (0, 0) mx_X12_unitsFrom go_φ 14 [(0, vv_A 94), (1, vv_I (s : Int)), (2, vv_I (u : Int)), (4, vv_I (t : Int)), (5, vv_I (r : Int))] [] δ Q)
      (fun r u hr hI ih2 hm => ?_) (fun u hI hm => ?_)
    · rcases j4 with q | q
      · subst q
        refine go_iload_n (i := 3) dx_X12_unitsFrom_4 rfl rfl ?_
        refine go_if_eq (tgt := 78) dx_X12_unitsFrom_5 rfl (by omega) (fun c5 => ?_) (fun c5 => by exact absurd rfl c5)
        refine go_iload_n (i := 2) dx_X12_unitsFrom_78 rfl rfl ?_
        refine go_ireturn dx_X12_unitsFrom_79 rfl (Nat.le_refl _) (Nat.le_refl _) ?_
        have e : mk 14 (fun y => s.testBit y = true ∨ ∃ x, s.testBit x = true ∧ ut R x y) = t := (mk_eq j1 (fun x _ => ⟨j3 x, fun q => by
          rcases q with q | ⟨y, y1, y2⟩
          · exact j2 x q
          · exact ut_ind (P := fun a b => t.testBit a = true → t.testBit b = true) (fun a b q z => j5 rfl a b q z) (fun a b c q _ k z => k (j5 rfl a b q z)) y2 (j2 y y1)⟩)).symm
        rw [e] at hQ
        exact hQ
      · subst q
        refine go_iload_n (i := 3) dx_X12_unitsFrom_4 rfl rfl ?_
        refine go_if_eq (tgt := 78) dx_X12_unitsFrom_5 rfl (by omega) (fun c5 => by exact absurd c5 (by decide)) (fun c5 => ?_)
        refine go_iload_n (i := 2) dx_X12_unitsFrom_8 rfl rfl ?_
        refine go_istore (lv' := [(0, vv_A 94), (1, vv_I (s : Int)), (2, vv_I (t : Int)), (3, vv_I ((1 : Nat) : Int)), (4, vv_I (t : Int))]) dx_X12_unitsFrom_9 (by decide) rfl ?_
        refine go_iconst dx_X12_unitsFrom_11 ?_
        refine go_istore (lv' := [(0, vv_A 94), (1, vv_I (s : Int)), (2, vv_I (t : Int)), (3, vv_I ((1 : Nat) : Int)), (4, vv_I (t : Int)), (5, vv_I 0)]) dx_X12_unitsFrom_12 (by decide) rfl ?_
        refine go_keep [0, 1, 2, 4, 5] rfl ?_
        exact inner 0 t (Nat.zero_le _) ⟨⟨j1, j2, j3⟩, fun _ q => q, fun _ r' hr' => absurd hr' (Nat.not_lt_zero _)⟩ rfl
    · obtain ⟨⟨i1, i2, i3⟩, i4, i5⟩ := hI
      have u63 := bt_m31 i1 (by decide)
      have hok := hR r
      have hlen := hok.len
      have same : ((R r).length = 2 → ∀ x y, R r = [x, y] → ¬ u.testBit x = true) → Go E (d + 1) (0, 0) mx_X12_unitsFrom go_φ 14 [(0, vv_A 94), (1, vv_I (s : Int)), (2, vv_I (u : Int)), (4, vv_I (t : Int)), (5, vv_I ((r + 1 : Nat) : Int))] [] δ Q := fun hno =>
        ih2 u ⟨⟨i1, i2, i3⟩, i4, fun e r' hr' x y hxy hy => by
          by_cases q : r' = r
          · subst q; exact absurd (i4 x hy) (hno (by rw [hxy]; rfl) x y hxy)
          · exact i5 e r' (by omega) x y hxy hy⟩ hm
      refine go_iload dx_X12_unitsFrom_14 rfl ?_
      refine go_bipush dx_X12_unitsFrom_16 rfl ?_
      refine go_icmp_ge (tgt := 63) dx_X12_unitsFrom_18 rfl (by omega) (by omega) (fun c18 => by exact absurd c18 (by omega)) (fun c18 => ?_)
      refine go_aload_n (i := 0) dx_X12_unitsFrom_21 rfl rfl ?_
      refine go_iload dx_X12_unitsFrom_22 rfl ?_
      refine go_cV1 sv_X12_148 (go_ok rfl rfl) dx_X12_unitsFrom_24 (Nat.le_of_ble_eq_true rfl) (Nat.le_of_ble_eq_true rfl) (o_longOf h hr ?_)
      refine go_iconst dx_X12_unitsFrom_27 ?_
      refine go_icmp_ne (tgt := 57) dx_X12_unitsFrom_28 rfl (by omega) (by omega) (fun c28 => ?_) (fun c28 => ?_)
      · refine go_iinc (lv' := [(0, vv_A 94), (1, vv_I (s : Int)), (2, vv_I (u : Int)), (4, vv_I (t : Int)), (5, vv_I ((r : Int) + 1))]) dx_X12_unitsFrom_57 rfl (by decide) rfl ?_
        refine go_goto (tgt := 14) dx_X12_unitsFrom_60 rfl ?_
        exact same (fun q => absurd q (by omega))
      · have hl2 : (R r).length = 2 := by omega
        obtain ⟨x, y, q, hl, hx, hy, hq⟩ := rl_split hR (r := r) (fun w => by rw [w] at hl2; cases hl2)
        have hq0 : q = [] := List.eq_nil_of_length_eq_zero (by rw [hl] at hl2; simp only [List.length_cons] at hl2; omega)
        subst hq0
        refine go_iload_n (i := 2) dx_X12_unitsFrom_31 rfl rfl ?_
        refine go_aload_n (i := 0) dx_X12_unitsFrom_32 rfl rfl ?_
        refine go_iload dx_X12_unitsFrom_33 rfl ?_
        refine go_cV1 sv_X12_184 (go_ok rfl rfl) dx_X12_unitsFrom_35 (Nat.le_of_ble_eq_true rfl) (Nat.le_of_ble_eq_true rfl) (o_symbolOf h hr (by omega) ?_)
        refine go_asI (y := (x : Int)) (by rw [hl]; rfl) ?_
        refine go_ishr dx_X12_unitsFrom_38 ?_
        refine go_iconst dx_X12_unitsFrom_39 ?_
        refine go_iand dx_X12_unitsFrom_40 ?_
        refine go_asI (y := (b01 (u.testBit x = true))) (by exact bv_tstbS u63 (by omega)) ?_
        refine go_iconst dx_X12_unitsFrom_41 ?_
        refine go_icmp_ne (tgt := 57) dx_X12_unitsFrom_42 rfl (by first | omega | (have := b01_iI (u.testBit x = true); omega)) (by first | omega | (have := b01_iI (u.testBit x = true); omega)) (fun c42 => ?_) (fun c42 => ?_)
        · refine go_iinc (lv' := [(0, vv_A 94), (1, vv_I (s : Int)), (2, vv_I (u : Int)), (4, vv_I (t : Int)), (5, vv_I ((r : Int) + 1))]) dx_X12_unitsFrom_57 rfl (by decide) rfl ?_
          refine go_goto (tgt := 14) dx_X12_unitsFrom_60 rfl ?_
          exact same (fun _ x' y' e => by rw [hl] at e; injection e with e1 e2; subst e1; exact fun q => c42 (b01_1.mpr q))
        · refine go_iload_n (i := 2) dx_X12_unitsFrom_45 rfl rfl ?_
          refine go_iconst dx_X12_unitsFrom_46 ?_
          refine go_aload_n (i := 0) dx_X12_unitsFrom_47 rfl rfl ?_
          refine go_iload dx_X12_unitsFrom_48 rfl ?_
          refine go_iconst dx_X12_unitsFrom_50 ?_
          refine go_asI (y := ((0 : Nat) : Int)) (by rfl) ?_
          refine go_cV2 sv_X12_190 (go_ok rfl rfl) dx_X12_unitsFrom_51 (Nat.le_of_ble_eq_true rfl) (Nat.le_of_ble_eq_true rfl) (o_partOf h hr (by omega) ?_)
          refine go_asI (y := (y : Int)) (by rw [hl]; rfl) ?_
          refine go_ishl dx_X12_unitsFrom_54 ?_
          refine go_asI (y := ((2 ^ y : Nat) : Int)) (by exact bv_bit (by omega)) ?_
          refine go_ior dx_X12_unitsFrom_55 ?_
          refine go_asI (y := ((u ||| 2 ^ y : Nat) : Int)) (by exact bv_orN u63 (bt_p31 (show y < 14 by omega) (by decide))) ?_
          refine go_istore_n (i := 2) (lv' := [(0, vv_A 94), (1, vv_I (s : Int)), (2, vv_I ((u ||| 2 ^ y : Nat) : Int)), (4, vv_I (t : Int)), (5, vv_I (r : Int))]) dx_X12_unitsFrom_56 rfl (by decide) rfl ?_
          refine go_iinc (lv' := [(0, vv_A 94), (1, vv_I (s : Int)), (2, vv_I ((u ||| 2 ^ y : Nat) : Int)), (4, vv_I (t : Int)), (5, vv_I ((r : Int) + 1))]) dx_X12_unitsFrom_57 rfl (by decide) rfl ?_
          refine go_goto (tgt := 14) dx_X12_unitsFrom_60 rfl ?_
          have hx1 : u.testBit x = true := Classical.byContradiction (fun q => absurd (b01_f q) (by omega))
          refine ih2 (u ||| 2 ^ y) ⟨⟨bt_or62 i1 (by omega), fun z hz => (bs_or1 _ _ _).mpr (Or.inl (i2 z hz)), fun z hz => ?_⟩, fun z hz => (bs_or1 _ _ _).mpr (Or.inl (i4 z hz)), fun e r' hr' x' y' hxy hy' => ?_⟩ hm
          · rcases (bs_or1 _ _ _).mp hz with z1 | z1
            · exact i3 z z1
            · subst z1
              rcases i3 x hx1 with z2 | ⟨p, p1, p2⟩
              · exact Or.inr ⟨x, z2, ut_one ⟨r, hr, hl⟩⟩
              · exact Or.inr ⟨p, p1, ut_trans p2 (ut_one ⟨r, hr, hl⟩)⟩
          · by_cases q : r' = r
            · subst q
              rw [hl] at hxy
              injection hxy with e1 e2
              injection e2 with e3 e4
              subst e3
              rw [← e]
              exact (bs_or1 _ _ _).mpr (Or.inr rfl)
            · refine i5 (bt_ext (fun z => ⟨fun w => ?_, i4 z⟩)) r' (by omega) x' y' hxy hy'
              rw [← e]
              exact (bs_or1 _ _ _).mpr (Or.inl w)
    · obtain ⟨⟨i1, i2, i3⟩, i4, i5⟩ := hI
      have u63 := bt_m31 i1 (by decide)
      subst hm
      refine go_iload dx_X12_unitsFrom_14 rfl ?_
      refine go_bipush dx_X12_unitsFrom_16 rfl ?_
      refine go_icmp_ge (tgt := 63) dx_X12_unitsFrom_18 rfl (by omega) (by omega) (fun c18 => ?_) (fun c18 => by exact absurd c18 (by omega))
      refine go_iload_n (i := 2) dx_X12_unitsFrom_63 rfl rfl ?_
      refine go_iload dx_X12_unitsFrom_64 rfl ?_
      refine go_icmp_eq (tgt := 73) dx_X12_unitsFrom_66 rfl (by omega) (by omega) (fun c66 => ?_) (fun c66 => ?_)
      · refine go_iconst dx_X12_unitsFrom_73 ?_
        refine go_istore_n (i := 3) (lv' := [(0, vv_A 94), (1, vv_I (s : Int)), (2, vv_I (u : Int)), (3, vv_I 0), (4, vv_I (t : Int)), (5, vv_I ((16 : Nat) : Int))]) dx_X12_unitsFrom_74 rfl (by decide) rfl ?_
        refine go_goto (tgt := 4) dx_X12_unitsFrom_75 rfl ?_
        refine go_keep [0, 1, 2, 3] rfl ?_
        have e : u = t := by omega
        subst e
        refine ih (u, 0) ⟨⟨i1, i2, i3⟩, Or.inl rfl, fun _ x y ⟨r, hr, hxy⟩ => i5 rfl r hr x y hxy⟩ (Nat.lt_succ_self _)
      · refine go_iconst dx_X12_unitsFrom_69 ?_
        refine go_goto (tgt := 74) dx_X12_unitsFrom_70 rfl ?_
        refine go_istore_n (i := 3) (lv' := [(0, vv_A 94), (1, vv_I (s : Int)), (2, vv_I (u : Int)), (3, vv_I 1), (4, vv_I (t : Int)), (5, vv_I ((16 : Nat) : Int))]) dx_X12_unitsFrom_74 rfl (by decide) rfl ?_
        refine go_goto (tgt := 4) dx_X12_unitsFrom_75 rfl ?_
        refine go_keep [0, 1, 2, 3] rfl ?_
        have hne : ¬ u = t := by omega
        refine ih (u, 1) ⟨⟨i1, i2, i3⟩, Or.inr rfl, fun q => absurd (show (1 : Nat) = 0 from q) (by decide)⟩ ?_
        have := bs_lt i4 hne i1
        dsimp only
        omega
theorem m_made {l r : Nat} (hR : ∀ r, rl_ok (R r)) (h : mq_at δ (gP R) (gH R)) (hl : l < 2 ^ 62) (hr : r < 2 ^ 62) (hQ : Q [vv_L (mk 62 (jn R l r) : Int)] go_φ δ) :
    Go E (d + 1) (0, 0) mx_X12_made go_φ 0 [(0, vv_A 94), (1, vv_L (l : Int)), (3, vv_L (r : Int))] [] δ Q := by
  have hl63 := bt_m63 hl (by decide)
  have hr63 := bt_m63 hr (by decide)
  have hpl := gP_le hR
  have hcnt := h.1
  have l99 : go_ln 99 = 64 := rfl
  have l100 : go_ln 100 = 64 := rfl
  have l101 : go_ln 101 = 64 := rfl
  have loop := lp_up (X := Unit) (hi := (gP R).length) (I := fun _ _ => True)
    (G := fun p _ => ∀ lv0, lv0 = [(0, vv_A 94), (1, vv_L (l : Int)), (3, vv_L (r : Int)), (5, vv_L (mk 62 (jnp R l r p) : Int)), (7, vv_I (p : Int))] → Go E (d + 1) (0, 0) mx_X12_made go_φ 21 lv0 [] δ Q)
    (fun p _ hp _ ih lv0 e0 => by
      subst e0
      obtain ⟨e, he⟩ : ∃ e, (gP R)[p]'hp = e := ⟨_, rfl⟩
      have hem : e ∈ gP R := by rw [← he]; exact List.getElem_mem hp
      have hpe := pe_lt62 hR hem
      have hm := hpe.1
      have hcode := h.2.1 p hp
      have hjs := fun x => @jnp_s R l r p x hp
      rw [he] at hcode
      simp only [he] at hjs
      refine go_iload dx_X12_made_21 rfl ?_
      refine go_aload_n (i := 0) dx_X12_made_23 rfl rfl ?_
      refine go_getI fs_X12_215 (Or.inl rfl) (go_ok rfl rfl) dx_X12_made_24 ?_
      refine go_asI (y := ((gP R).length : Int)) (by exact hcnt) ?_
      refine go_icmp_ge (tgt := 78) dx_X12_made_27 rfl (by omega) (by omega) (fun c27 => by exact absurd c27 (by omega)) (fun c27 => ?_)
      refine go_lload_n (i := 1) dx_X12_made_30 rfl rfl ?_
      refine go_aload_n (i := 0) dx_X12_made_31 rfl rfl ?_
      refine go_getA (b := 100) fs_X12_30 rfl (go_ok rfl rfl) rfl dx_X12_made_32 ?_
      refine go_iload dx_X12_made_35 rfl ?_
      refine go_ialoadV (i := p) (v := ((e.2.1 : Int))) dx_X12_made_37 (go_ok rfl rfl) (by omega) (show p < 64 by omega) (by exact hcode.2.1) ?_
      refine go_cS2 ss_X12_241 dx_X12_made_38 (Nat.le_of_ble_eq_true rfl) (Nat.le_of_ble_eq_true rfl) (m_has hl63 (by omega) ?_)
      refine go_b_eq (tgt := 72) dx_X12_made_41 rfl (fun c41 => ?_) (fun c41 => ?_)
      · refine go_iinc (lv' := [(0, vv_A 94), (1, vv_L (l : Int)), (3, vv_L (r : Int)), (5, vv_L (mk 62 (jnp R l r p) : Int)), (7, vv_I ((p : Int) + 1))]) dx_X12_made_72 rfl (by decide) rfl ?_
        refine go_goto (tgt := 21) dx_X12_made_75 rfl ?_
        rw [mk_congr (P' := jnp R l r (p + 1)) (fun x _ => by rw [hjs x]; exact ⟨Or.inl, fun q => q.elim id (fun z => absurd z.2.1 c41)⟩)]
        exact ih () trivial _ rfl
      · refine go_lload_n (i := 3) dx_X12_made_44 rfl rfl ?_
        refine go_aload_n (i := 0) dx_X12_made_45 rfl rfl ?_
        refine go_getA (b := 101) fs_X12_33 rfl (go_ok rfl rfl) rfl dx_X12_made_46 ?_
        refine go_iload dx_X12_made_49 rfl ?_
        refine go_ialoadV (i := p) (v := ((e.2.2.1 : Int))) dx_X12_made_51 (go_ok rfl rfl) (by omega) (show p < 64 by omega) (by exact hcode.2.2.1) ?_
        refine go_cS2 ss_X12_241 dx_X12_made_52 (Nat.le_of_ble_eq_true rfl) (Nat.le_of_ble_eq_true rfl) (m_has hr63 (by omega) ?_)
        refine go_b_eq (tgt := 72) dx_X12_made_55 rfl (fun c55 => ?_) (fun c55 => ?_)
        · refine go_iinc (lv' := [(0, vv_A 94), (1, vv_L (l : Int)), (3, vv_L (r : Int)), (5, vv_L (mk 62 (jnp R l r p) : Int)), (7, vv_I ((p : Int) + 1))]) dx_X12_made_72 rfl (by decide) rfl ?_
          refine go_goto (tgt := 21) dx_X12_made_75 rfl ?_
          rw [mk_congr (P' := jnp R l r (p + 1)) (fun x _ => by rw [hjs x]; exact ⟨Or.inl, fun q => q.elim id (fun z => absurd z.2.2 c55)⟩)]
          exact ih () trivial _ rfl
        · refine go_lload dx_X12_made_58 rfl ?_
          refine go_lconst (x := 1) dx_X12_made_60 rfl ?_
          refine go_aload_n (i := 0) dx_X12_made_61 rfl rfl ?_
          refine go_getA (b := 99) fs_X12_27 rfl (go_ok rfl rfl) rfl dx_X12_made_62 ?_
          refine go_iload dx_X12_made_65 rfl ?_
          refine go_ialoadV (i := p) (v := ((e.1 : Int))) dx_X12_made_67 (go_ok rfl rfl) (by omega) (show p < 64 by omega) (by exact hcode.1) ?_
          refine go_lshl dx_X12_made_68 ?_
          refine go_asL (y := ((2 ^ e.1 : Nat) : Int)) (by exact bw_bit (by omega)) ?_
          refine go_lor dx_X12_made_69 ?_
          refine go_asL (y := (mk 62 (jnp R l r (p + 1)) : Int)) (by rw [bw_orN (mk_63 62 _ (by decide)) (bt_p63 hm (by decide)), mk_one hm, mk_or]; exact congrArg _ (mk_congr (fun x _ => by rw [hjs x]; exact ⟨fun q => q.elim Or.inl (fun z => Or.inr ⟨z, c41, c55⟩), fun q => q.elim Or.inl (fun z => Or.inr z.1)⟩))) ?_
          refine go_lstore (lv' := [(0, vv_A 94), (1, vv_L (l : Int)), (3, vv_L (r : Int)), (5, vv_L (mk 62 (jnp R l r (p + 1)) : Int)), (7, vv_I (p : Int))]) dx_X12_made_70 (by decide) rfl ?_
          refine go_iinc (lv' := [(0, vv_A 94), (1, vv_L (l : Int)), (3, vv_L (r : Int)), (5, vv_L (mk 62 (jnp R l r (p + 1)) : Int)), (7, vv_I ((p : Int) + 1))]) dx_X12_made_72 rfl (by decide) rfl ?_
          refine go_goto (tgt := 21) dx_X12_made_75 rfl ?_
          exact ih () trivial _ rfl
    ) (fun _ _ lv0 e0 => by
      subst e0
      refine go_iload dx_X12_made_21 rfl ?_
      refine go_aload_n (i := 0) dx_X12_made_23 rfl rfl ?_
      refine go_getI fs_X12_215 (Or.inl rfl) (go_ok rfl rfl) dx_X12_made_24 ?_
      refine go_asI (y := ((gP R).length : Int)) (by exact hcnt) ?_
      refine go_icmp_ge (tgt := 78) dx_X12_made_27 rfl (by omega) (by omega) (fun c27 => ?_) (fun c27 => by exact absurd c27 (by omega))
      refine go_lload dx_X12_made_78 rfl ?_
      refine go_lreturn dx_X12_made_80 rfl (Nat.le_refl _) (Nat.le_refl _) ?_
      rw [mk_congr (fun x _ => jnp_e)]
      exact hQ
    )
  have zer : (l = 0 ∨ r = 0) → Q [vv_L 0] go_φ δ := fun q => by
    have e : mk 62 (jn R l r) = 0 := mk_zero (fun x _ ⟨e, _, _, a, b⟩ => by
      rcases q with q | q
      · subst q; rw [Nat.zero_testBit] at a; cases a
      · subst q; rw [Nat.zero_testBit] at b; cases b)
    rw [e] at hQ
    exact hQ
  refine go_lconst (x := 0) dx_X12_made_0 rfl ?_
  refine go_lstore (lv' := [(0, vv_A 94), (1, vv_L (l : Int)), (3, vv_L (r : Int)), (5, vv_L 0)]) dx_X12_made_1 (by decide) rfl ?_
  refine go_lload_n (i := 1) dx_X12_made_3 rfl rfl ?_
  refine go_lconst (x := 0) dx_X12_made_4 rfl ?_
  refine go_lcmp_eq (tgt := 15) dx_X12_made_5 dx_X12_made_6 rfl (by omega) (by omega) (fun c5 => ?_) (fun c5 => ?_)
  · refine go_lload dx_X12_made_15 rfl ?_
    refine go_lreturn dx_X12_made_17 rfl (Nat.le_refl _) (Nat.le_refl _) ?_
    exact zer (by omega)
  · refine go_lload_n (i := 3) dx_X12_made_9 rfl rfl ?_
    refine go_lconst (x := 0) dx_X12_made_10 rfl ?_
    refine go_lcmp_ne (tgt := 18) dx_X12_made_11 dx_X12_made_12 rfl (by omega) (by omega) (fun c11 => ?_) (fun c11 => ?_)
    · refine go_iconst dx_X12_made_18 ?_
      refine go_istore (lv' := [(0, vv_A 94), (1, vv_L (l : Int)), (3, vv_L (r : Int)), (5, vv_L 0), (7, vv_I 0)]) dx_X12_made_19 (by decide) rfl ?_
      have k := loop 0 () (Nat.zero_le _) trivial _ rfl
      rw [mk_zero (fun y _ => jnp_0)] at k
      exact k
    · refine go_lload dx_X12_made_15 rfl ?_
      refine go_lreturn dx_X12_made_17 rfl (Nat.le_refl _) (Nat.le_refl _) ?_
      exact zer (by omega)
end GMC
