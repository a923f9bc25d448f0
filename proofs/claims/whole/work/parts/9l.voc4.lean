/-! Vocabulary: joinSets -/
theorem vof_in {n q : Nat} (h1 : 1 ≤ n) (h4 : n ≤ 4) (h : q < 6 ^ n) : q / 64 < vof (n + 1) - vof n := by
  rcases (show n = 1 ∨ n = 2 ∨ n = 3 ∨ n = 4 by omega) with e | e | e | e <;> subst e <;> simp only [Nat.reducePow] at h <;> (show _ < _ - _) <;> (first | (show q / 64 < 1 - 0; omega) | (show q / 64 < 2 - 1; omega) | (show q / 64 < 6 - 2; omega) | (show q / 64 < 27 - 6; omega))
theorem vof_row {n i : Nat} (h1 : 1 ≤ n) (h4 : n ≤ 4) (h : i < vof (n + 1) - vof n) : 64 * i < 6 ^ n := by
  rcases (show n = 1 ∨ n = 2 ∨ n = 3 ∨ n = 4 by omega) with e | e | e | e <;> subst e
  · have h : i < 1 - 0 := h
    simp only [Nat.reducePow]; omega
  · have h : i < 2 - 1 := h
    simp only [Nat.reducePow]; omega
  · have h : i < 6 - 2 := h
    simp only [Nat.reducePow]; omega
  · have h : i < 27 - 6 := h
    simp only [Nat.reducePow]; omega
theorem vof_mono {k n : Nat} (h : k < n) (hn : n ≤ 4) : vof (k + 1) ≤ vof n := by
  rcases (show n = 1 ∨ n = 2 ∨ n = 3 ∨ n = 4 by omega) with e | e | e | e <;> subst e
  · rcases (show k = 0 by omega) with e; subst e; decide
  · rcases (show k = 0 ∨ k = 1 by omega) with e | e <;> subst e <;> decide
  · rcases (show k = 0 ∨ k = 1 ∨ k = 2 by omega) with e | e | e <;> subst e <;> decide
  · rcases (show k = 0 ∨ k = 1 ∨ k = 2 ∨ k = 3 by omega) with e | e | e | e <;> subst e <;> decide
/-- the sets as predicates on the words' numbers -/
def vt (δ : Nat → Nat → Int) (WS : Nat → Nat → Nat → Prop) : Prop := ∀ x, x < 62 → ∀ n, 1 ≤ n → n ≤ 4 → ∀ w, w < vof (n + 1) - vof n → δ 75 (27 * x + (vof n + w)) = vb (fun b => WS x n (64 * w + b))
theorem vt_congr {δ : Nat → Nat → Int} {WS WS' : Nat → Nat → Nat → Prop} (h : vt δ WS) (e : ∀ x, x < 62 → ∀ n v, WS x n v ↔ WS' x n v) : vt δ WS' := fun x hx n h1 h4 w hw => by
  rw [h x hx n h1 h4 w hw]
  exact vb_congr (fun b _ => e x hx n _)
def wj (WS : Nat → Nat → Nat → Prop) (e : tP) (k j : Nat) : Nat → Nat → Nat → Prop := fun x n v => WS x n v ∨ (x = e.1 ∧ n = k + j ∧ ∃ u t, WS e.2.1 k u ∧ WS e.2.2.1 j t ∧ v = u * 6 ^ j + t)
section GVOC4
variable {E : go_E} {d : Nat} {δ : Nat → Nat → Int} {Q : List go_V → go_F → (Nat → Nat → Int) → Prop}
theorem g_Voc_joinSets {e : tP} {k j : Nat} {WS : Nat → Nat → Nat → Prop} (he : pe_ok e) (h1 : e.1 < 62) (h2 : e.2.1 < 62) (h3 : e.2.2.1 < 62) (hk : 1 ≤ k) (hj : 1 ≤ j) (hn : k + j ≤ 4) (hWS : ∀ x n v, 1 ≤ n → n < k + j → WS x n v → v < 6 ^ n) (h : vt δ WS)
    (hQ : ∀ δ', vt δ' (wj WS e k j) → (∀ c q, c ≠ 75 → δ' c q = δ c q) → Q [] go_φ δ') :
    Go E (d + 2) (0, 0) mx_X10_joinSets go_φ 0 [(0, vv_A 74), (1, vv_I (pe e : Int)), (2, vv_I (k : Int)), (3, vv_I (j : Int))] [] δ Q := by
  have l75 : go_ln 75 = 1674 := rfl
  obtain ⟨n, en⟩ : ∃ n, n = k + j := ⟨_, rfl⟩
  obtain ⟨A, eA⟩ : ∃ A, A = 27 * e.1 + vof n := ⟨_, rfl⟩
  obtain ⟨L, eL⟩ : ∃ L, L = vof (n + 1) - vof n := ⟨_, rfl⟩
  obtain ⟨vk1, vk2⟩ := vof_up (show k < 5 by omega)
  obtain ⟨vj1, vj2⟩ := vof_up (show j < 5 by omega)
  obtain ⟨vn1, vn2⟩ := vof_up (show n < 5 by omega)
  have mk1 := vof_mono (show k < n by omega) (by omega)
  have mj1 := vof_mono (show j < n by omega) (by omega)
  have hAL : A + L ≤ 1674 := by omega
  have p6k : 6 ^ k ≤ 6 ^ 3 := Nat.pow_le_pow_right (by decide) (by omega)
  have p6j : 6 ^ j ≤ 6 ^ 3 := Nat.pow_le_pow_right (by decide) (by omega)
  have p6n : 6 ^ n = 6 ^ k * 6 ^ j := by rw [en, Nat.pow_add]
  have p63 : (6 : Nat) ^ 3 = 216 := rfl
  have z6k : (0 : Int) ≤ ((6 ^ k : Nat) : Int) := Int.natCast_nonneg _
  have z6j : (0 : Int) ≤ ((6 ^ j : Nat) : Int) := Int.natCast_nonneg _
  have outs : ∀ δ1 : Nat → Nat → Int, (∀ c q, (c = 75 → q < A ∨ A + L ≤ q) → δ1 c q = δ c q) → ∀ x, x < 62 → ∀ m, 1 ≤ m → m < n → ∀ w, w < vof (m + 1) - vof m → δ1 75 (27 * x + (vof m + w)) = vb (fun b => WS x m (64 * w + b)) := fun δ1 hf x hx m hm1 hm w hw => by
    have mm := vof_mono hm (by omega)
    obtain ⟨vm1, vm2⟩ := vof_up (show m < 5 by omega)
    rw [hf 75 _ (fun _ => by
      rcases Nat.lt_trichotomy x e.1 with q | q | q
      · left; omega
      · left; omega
      · right; omega)]
    exact h x hx m hm1 (by omega) w hw
  have inner : ∀ u (Dn Dm : Nat → Prop), u < 6 ^ k → WS e.2.1 k u → (∀ q, Dm q ↔ (Dn q ∨ ∃ t, WS e.2.2.1 j t ∧ q = u * 6 ^ j + t)) → ∀ δ1 : Nat → Nat → Int, (∀ w, w < L → δ1 75 (A + w) = vb (fun b => Dn (64 * w + b))) → (∀ c q, (c = 75 → q < A ∨ A + L ≤ q) → δ1 c q = δ c q) →
      (∀ δ2 : Nat → Nat → Int, (∀ w, w < L → δ2 75 (A + w) = vb (fun b => Dm (64 * w + b))) → (∀ c q, (c = 75 → q < A ∨ A + L ≤ q) → δ2 c q = δ c q) → Go E (d + 2) (0, 0) mx_X10_joinSets go_φ 84 [(0, vv_A 74), (1, vv_I (pe e : Int)), (2, vv_I (k : Int)), (3, vv_I (j : Int)), (4, vv_I ((27 * e.2.1 + vof k : Nat) : Int)), (5, vv_I ((27 * e.2.2.1 + vof j : Nat) : Int)), (6, vv_I ((vof (j + 1) - vof j : Nat) : Int)), (7, vv_I (A : Int)), (8, vv_I ((6 ^ k : Nat) : Int)), (9, vv_I ((u + 1 : Nat) : Int))] [] δ2 Q) →
      ∀ U : Nat, U = u * 6 ^ j → Go E (d + 2) (0, 0) mx_X10_joinSets go_φ 134 [(0, vv_A 74), (1, vv_I (pe e : Int)), (2, vv_I (k : Int)), (3, vv_I (j : Int)), (4, vv_I ((27 * e.2.1 + vof k : Nat) : Int)), (5, vv_I ((27 * e.2.2.1 + vof j : Nat) : Int)), (6, vv_I ((vof (j + 1) - vof j : Nat) : Int)), (7, vv_I (A : Int)), (8, vv_I ((6 ^ k : Nat) : Int)), (9, vv_I (u : Int)), (10, vv_I (U : Int)), (11, vv_I 0)] [] δ1 Q := by
    intro u Dn Dm hu hWu hDm δ1 g1 g2 KK U eU
    have hUn : U + 6 ^ j ≤ 6 ^ n := by
      have e1 : (u + 1) * 6 ^ j ≤ 6 ^ k * 6 ^ j := Nat.mul_le_mul_right _ hu
      rw [Nat.add_mul, Nat.one_mul, ← eU, ← p6n] at e1
      exact e1
    have p4 : 6 ^ n ≤ 6 ^ 4 := Nat.pow_le_pow_right (by decide) (by omega)
    have p64 : (6 : Nat) ^ 4 = 1296 := rfl
    refine lp_up (X := Nat → Nat → Int) (hi := vof (j + 1) - vof j) (I := fun i δ2 => (∀ w, w < L → δ2 75 (A + w) = vb (fun b => Dn (64 * w + b) ∨ ∃ t, t < 64 * i ∧ WS e.2.2.1 j t ∧ 64 * w + b = U + t)) ∧ (∀ c q, (c = 75 → q < A ∨ A + L ≤ q) → δ2 c q = δ c q))
      (G := fun i δ2 => Go E (d + 2) (0, 0) mx_X10_joinSets go_φ 134 [(0, vv_A 74), (1, vv_I (pe e : Int)), (2, vv_I (k : Int)), (3, vv_I (j : Int)), (4, vv_I ((27 * e.2.1 + vof k : Nat) : Int)), (5, vv_I ((27 * e.2.2.1 + vof j : Nat) : Int)), (6, vv_I ((vof (j + 1) - vof j : Nat) : Int)), (7, vv_I (A : Int)), (8, vv_I ((6 ^ k : Nat) : Int)), (9, vv_I (u : Int)), (10, vv_I (U : Int)), (11, vv_I (i : Int))] [] δ2 Q)
      (fun i δ2 hi hI ih => ?_) (fun δ2 hI => ?_) 0 δ1 (Nat.zero_le _) ⟨fun w hw => ?_, g2⟩
    · obtain ⟨i1, i2⟩ := hI
      have er := outs δ2 i2 e.2.2.1 h3 j hj (by omega) i hi
      have hr64 := vof_row hj (by omega) hi
      have hsh : (U + 64 * i) / 64 < L := by rw [eL]; exact vof_in (by omega) (by omega) (by omega)
      refine go_iload dx_X10_joinSets_134 rfl ?_
      refine go_iload dx_X10_joinSets_136 rfl ?_
      refine go_icmp_ge (tgt := 173) dx_X10_joinSets_138 rfl (by omega) (by omega) (fun c138 => by exact absurd c138 (by omega)) (fun c138 => ?_)
      refine go_aload_n (i := 0) dx_X10_joinSets_141 rfl rfl ?_
      refine go_iload dx_X10_joinSets_142 rfl ?_
      refine go_iload dx_X10_joinSets_144 rfl ?_
      refine go_bipush dx_X10_joinSets_146 rfl ?_
      refine go_iload dx_X10_joinSets_148 rfl ?_
      refine go_imul dx_X10_joinSets_150 ?_
      refine go_iadd dx_X10_joinSets_151 ?_
      refine go_asI (y := ((U + 64 * i : Nat) : Int)) (by omega) ?_
      refine go_aload_n (i := 0) dx_X10_joinSets_152 rfl rfl ?_
      refine go_getA (b := 75) fs_X10_11 rfl (go_ok rfl rfl) rfl dx_X10_joinSets_153 ?_
      refine go_iload dx_X10_joinSets_156 rfl ?_
      refine go_iload dx_X10_joinSets_158 rfl ?_
      refine go_iadd dx_X10_joinSets_160 ?_
      refine go_cS2 ss_X10_57 dx_X10_joinSets_161 (Nat.le_of_ble_eq_true rfl) (Nat.le_of_ble_eq_true rfl) (g_longAtV (i := (27 * e.2.2.1 + (vof j + i))) (v := (vb (fun b => WS e.2.2.1 j (64 * i + b)))) (go_ok rfl rfl) (by omega) (show (27 * e.2.2.1 + (vof j + i)) < 1674 by omega) (by exact er) ?_)
      refine go_cV3 sv_X10_61 (go_ok rfl rfl) dx_X10_joinSets_164 (Nat.le_of_ble_eq_true rfl) (Nat.le_of_ble_eq_true rfl) (g_Voc_addBits (D := fun q => Dn q ∨ ∃ t, t < 64 * i ∧ WS e.2.2.1 j t ∧ q = U + t) hAL hsh (fun b hb hp => by rw [eL]; exact vof_in (by omega) (by omega) (by have := hWS _ _ _ hj (by omega) hp; omega)) i1 (fun δ3 q1 q2 => ?_))
      refine go_iinc (lv' := [(0, vv_A 74), (1, vv_I (pe e : Int)), (2, vv_I (k : Int)), (3, vv_I (j : Int)), (4, vv_I ((27 * e.2.1 + vof k : Nat) : Int)), (5, vv_I ((27 * e.2.2.1 + vof j : Nat) : Int)), (6, vv_I ((vof (j + 1) - vof j : Nat) : Int)), (7, vv_I (A : Int)), (8, vv_I ((6 ^ k : Nat) : Int)), (9, vv_I (u : Int)), (10, vv_I (U : Int)), (11, vv_I ((i : Int) + 1))]) dx_X10_joinSets_167 rfl (by decide) rfl ?_
      refine go_goto (tgt := 134) dx_X10_joinSets_170 rfl ?_
      refine ih δ3 ⟨fun w hw => ?_, fun c q hc => (q2 c q hc).trans (i2 c q hc)⟩
      rw [q1 w hw]
      refine vb_congr (fun b hb => ⟨fun z => ?_, fun z => ?_⟩)
      · rcases z with (z | ⟨t, z1, z2, z3⟩) | ⟨z1, z2, z3⟩
        · exact Or.inl z
        · exact Or.inr ⟨t, by omega, z2, z3⟩
        · exact Or.inr ⟨64 * i + (64 * w + b - (U + 64 * i)), by omega, z3, by omega⟩
      · rcases z with z | ⟨t, z1, z2, z3⟩
        · exact Or.inl (Or.inl z)
        · by_cases ht : t < 64 * i
          · exact Or.inl (Or.inr ⟨t, ht, z2, z3⟩)
          · refine Or.inr ⟨by omega, by omega, ?_⟩
            rw [show 64 * i + (64 * w + b - (U + 64 * i)) = t by omega]
            exact z2
    · obtain ⟨i1, i2⟩ := hI
      refine go_iload dx_X10_joinSets_134 rfl ?_
      refine go_iload dx_X10_joinSets_136 rfl ?_
      refine go_icmp_ge (tgt := 173) dx_X10_joinSets_138 rfl (by omega) (by omega) (fun c138 => ?_) (fun c138 => by exact absurd c138 (by omega))
      refine go_iinc (lv' := [(0, vv_A 74), (1, vv_I (pe e : Int)), (2, vv_I (k : Int)), (3, vv_I (j : Int)), (4, vv_I ((27 * e.2.1 + vof k : Nat) : Int)), (5, vv_I ((27 * e.2.2.1 + vof j : Nat) : Int)), (6, vv_I ((vof (j + 1) - vof j : Nat) : Int)), (7, vv_I (A : Int)), (8, vv_I ((6 ^ k : Nat) : Int)), (9, vv_I ((u : Int) + 1)), (10, vv_I (U : Int)), (11, vv_I ((vof (j + 1) - vof j : Nat) : Int))]) dx_X10_joinSets_173 rfl (by decide) rfl ?_
      refine go_goto (tgt := 84) dx_X10_joinSets_176 rfl ?_
      refine go_keep [0, 1, 2, 3, 4, 5, 6, 7, 8, 9] rfl ?_
      refine KK δ2 (fun w hw => ?_) i2
      rw [i1 w hw]
      refine vb_congr (fun b hb => ?_)
      rw [hDm]
      refine ⟨fun z => z.imp id (fun ⟨t, z1, z2, z3⟩ => ⟨t, z2, by rw [← eU]; exact z3⟩), fun z => z.imp id (fun ⟨t, z2, z3⟩ => ⟨t, ?_, z2, by rw [eU]; exact z3⟩)⟩
      have ht := hWS _ _ _ hj (by omega) z2
      have hx := vof_in hj (by omega) ht
      omega
    · rw [g1 w hw]
      exact vb_congr (fun b hb => ⟨Or.inl, fun z => z.elim id (fun ⟨t, z1, _⟩ => absurd z1 (by omega))⟩)
  have outer := lp_up (X := Nat → Nat → Int) (hi := 6 ^ k) (I := fun u δ1 => (∀ w, w < L → δ1 75 (A + w) = vb (fun b => WS e.1 n (64 * w + b) ∨ ∃ u' t, u' < u ∧ WS e.2.1 k u' ∧ WS e.2.2.1 j t ∧ 64 * w + b = u' * 6 ^ j + t)) ∧ (∀ c q, (c = 75 → q < A ∨ A + L ≤ q) → δ1 c q = δ c q))
    (G := fun u δ1 => Go E (d + 2) (0, 0) mx_X10_joinSets go_φ 84 [(0, vv_A 74), (1, vv_I (pe e : Int)), (2, vv_I (k : Int)), (3, vv_I (j : Int)), (4, vv_I ((27 * e.2.1 + vof k : Nat) : Int)), (5, vv_I ((27 * e.2.2.1 + vof j : Nat) : Int)), (6, vv_I ((vof (j + 1) - vof j : Nat) : Int)), (7, vv_I (A : Int)), (8, vv_I ((6 ^ k : Nat) : Int)), (9, vv_I (u : Int))] [] δ1 Q)
    (fun u δ1 hu hI ih => by
      obtain ⟨i1, i2⟩ := hI
      have hrow := vof_in hk (by omega) hu
      have el := outs δ1 i2 e.2.1 h2 k hk (by omega) (u / 64) hrow
      have hu64 : 64 * (u / 64) + u % 64 = u := by omega
      obtain ⟨U, eU⟩ : ∃ U, U = u * 6 ^ j := ⟨_, rfl⟩
      refine go_iload dx_X10_joinSets_84 rfl ?_
      refine go_iload dx_X10_joinSets_86 rfl ?_
      refine go_icmp_ge (tgt := 179) dx_X10_joinSets_88 rfl (by omega) (by omega) (fun c88 => by exact absurd c88 (by omega)) (fun c88 => ?_)
      refine go_aload_n (i := 0) dx_X10_joinSets_91 rfl rfl ?_
      refine go_getA (b := 75) fs_X10_11 rfl (go_ok rfl rfl) rfl dx_X10_joinSets_92 ?_
      refine go_iload dx_X10_joinSets_95 rfl ?_
      refine go_iload dx_X10_joinSets_97 rfl ?_
      refine go_bipush dx_X10_joinSets_99 rfl ?_
      refine go_iushr dx_X10_joinSets_101 ?_
      refine go_asI (y := ((u / 64 : Nat) : Int)) (by rw [show (6 : Int) = ((6 : Nat) : Int) from rfl, bv_ushrN (by omega) (by decide)]) ?_
      refine go_iadd dx_X10_joinSets_102 ?_
      refine go_cS2 ss_X10_57 dx_X10_joinSets_103 (Nat.le_of_ble_eq_true rfl) (Nat.le_of_ble_eq_true rfl) (g_longAtV (i := (27 * e.2.1 + (vof k + u / 64))) (v := (vb (fun b => WS e.2.1 k (64 * (u / 64) + b)))) (go_ok rfl rfl) (by omega) (show (27 * e.2.1 + (vof k + u / 64)) < 1674 by omega) (by exact el) ?_)
      refine go_iload dx_X10_joinSets_106 rfl ?_
      refine go_bipush dx_X10_joinSets_108 rfl ?_
      refine go_iand dx_X10_joinSets_110 ?_
      refine go_asI (y := ((u % 64 : Nat) : Int)) (by exact bv_and63N (by omega)) ?_
      refine go_lushr dx_X10_joinSets_111 ?_
      refine go_lconst (x := 1) dx_X10_joinSets_112 rfl ?_
      refine go_land dx_X10_joinSets_113 ?_
      refine go_asL (y := (b01 (WS e.2.1 k u))) (by rw [vb_tst _ (Nat.mod_lt _ (by decide)), hu64]) ?_
      refine go_lconst (x := 0) dx_X10_joinSets_114 rfl ?_
      refine go_bl_eq (tgt := 173) dx_X10_joinSets_115 dx_X10_joinSets_116 rfl (fun c115 => ?_) (fun c115 => ?_)
      · refine go_iinc (lv' := [(0, vv_A 74), (1, vv_I (pe e : Int)), (2, vv_I (k : Int)), (3, vv_I (j : Int)), (4, vv_I ((27 * e.2.1 + vof k : Nat) : Int)), (5, vv_I ((27 * e.2.2.1 + vof j : Nat) : Int)), (6, vv_I ((vof (j + 1) - vof j : Nat) : Int)), (7, vv_I (A : Int)), (8, vv_I ((6 ^ k : Nat) : Int)), (9, vv_I ((u : Int) + 1))]) dx_X10_joinSets_173 rfl (by decide) rfl ?_
        refine go_goto (tgt := 84) dx_X10_joinSets_176 rfl ?_
        refine ih δ1 ⟨fun w hw => ?_, i2⟩
        rw [i1 w hw]
        refine vb_congr (fun b hb => ⟨fun z => z.imp id (fun ⟨u', t, z1, z2⟩ => ⟨u', t, by omega, z2⟩), fun z => z.imp id (fun ⟨u', t, z1, z2⟩ => ⟨u', t, ?_, z2⟩)⟩)
        by_cases eu : u' = u
        · subst eu; exact absurd z2.1 c115
        · omega
      · refine go_iload dx_X10_joinSets_119 rfl ?_
        refine go_getstatic2 sx_X10_54 dx_X10_joinSets_121 ?_
        refine go_iload_n (i := 3) dx_X10_joinSets_124 rfl rfl ?_
        refine go_cS2 ss_X10_29 dx_X10_joinSets_125 (Nat.le_of_ble_eq_true rfl) (Nat.le_of_ble_eq_true rfl) (g_intAtS2 (by omega) ?_)
        refine go_imul dx_X10_joinSets_128 ?_
        refine go_asI (y := (U : Int)) (by rw [eU]; exact (Int.natCast_mul _ _).symm) ?_
        refine go_istore (lv' := [(0, vv_A 74), (1, vv_I (pe e : Int)), (2, vv_I (k : Int)), (3, vv_I (j : Int)), (4, vv_I ((27 * e.2.1 + vof k : Nat) : Int)), (5, vv_I ((27 * e.2.2.1 + vof j : Nat) : Int)), (6, vv_I ((vof (j + 1) - vof j : Nat) : Int)), (7, vv_I (A : Int)), (8, vv_I ((6 ^ k : Nat) : Int)), (9, vv_I (u : Int)), (10, vv_I (U : Int))]) dx_X10_joinSets_129 (by decide) rfl ?_
        refine go_iconst dx_X10_joinSets_131 ?_
        refine go_istore (lv' := [(0, vv_A 74), (1, vv_I (pe e : Int)), (2, vv_I (k : Int)), (3, vv_I (j : Int)), (4, vv_I ((27 * e.2.1 + vof k : Nat) : Int)), (5, vv_I ((27 * e.2.2.1 + vof j : Nat) : Int)), (6, vv_I ((vof (j + 1) - vof j : Nat) : Int)), (7, vv_I (A : Int)), (8, vv_I ((6 ^ k : Nat) : Int)), (9, vv_I (u : Int)), (10, vv_I (U : Int)), (11, vv_I 0)]) dx_X10_joinSets_132 (by decide) rfl ?_
        refine inner u (fun q => WS e.1 n q ∨ ∃ u' t, u' < u ∧ WS e.2.1 k u' ∧ WS e.2.2.1 j t ∧ q = u' * 6 ^ j + t) (fun q => WS e.1 n q ∨ ∃ u' t, u' < u + 1 ∧ WS e.2.1 k u' ∧ WS e.2.2.1 j t ∧ q = u' * 6 ^ j + t) hu c115 (fun q => ?_) δ1 i1 i2 (fun δ2 q1 q2 => ih δ2 ⟨q1, q2⟩) U eU
        refine ⟨fun z => ?_, fun z => ?_⟩
        · rcases z with z | ⟨u', t, z1, z2, z3, z4⟩
          · exact Or.inl (Or.inl z)
          · by_cases eu : u' = u
            · subst eu; exact Or.inr ⟨t, z3, z4⟩
            · exact Or.inl (Or.inr ⟨u', t, by omega, z2, z3, z4⟩)
        · rcases z with (z | ⟨u', t, z1, z2⟩) | ⟨t, z1, z2⟩
          · exact Or.inl z
          · exact Or.inr ⟨u', t, by omega, z2⟩
          · exact Or.inr ⟨u, t, by omega, c115, z1, z2⟩
    ) (fun δ1 hI => by
      obtain ⟨i1, i2⟩ := hI
      refine go_iload dx_X10_joinSets_84 rfl ?_
      refine go_iload dx_X10_joinSets_86 rfl ?_
      refine go_icmp_ge (tgt := 179) dx_X10_joinSets_88 rfl (by omega) (by omega) (fun c88 => ?_) (fun c88 => by exact absurd c88 (by omega))
      refine go_vreturn dx_X10_joinSets_179 rfl (Nat.le_refl _) (Nat.le_refl _) ?_
      refine hQ δ1 (fun x hx m hm1 hm4 w hw => ?_) (fun c q hc => i2 c q (fun q => absurd q hc))
      obtain ⟨vm1, vm2⟩ := vof_up (show m < 5 by omega)
      by_cases ex : x = e.1 ∧ m = n
      · obtain ⟨ex1, ex2⟩ := ex
        rw [ex2] at hw ⊢
        rw [ex1, show 27 * e.1 + (vof n + w) = A + w by omega, i1 w (by omega)]
        refine vb_congr (fun b hb => ⟨fun z => ?_, fun z => ?_⟩)
        · rcases z with z | ⟨u', t, z1, z2⟩
          · exact Or.inl z
          · exact Or.inr ⟨rfl, en, u', t, z2⟩
        · rcases z with z | ⟨z0, z1, u', t, z2⟩
          · exact Or.inl z
          · exact Or.inr ⟨u', t, hWS _ _ _ hk (by omega) z2.1, z2⟩
      · have eo : δ1 75 (27 * x + (vof m + w)) = δ 75 (27 * x + (vof m + w)) := i2 75 _ (fun _ => by
          by_cases e2 : x = e.1
          · have hmn : m ≠ n := fun q => ex ⟨e2, q⟩
            rcases Nat.lt_or_ge m n with q | q
            · have := vof_mono q (by omega)
              left; omega
            · have := vof_mono (show n < m by omega) hm4
              right; omega
          · rcases Nat.lt_or_ge x e.1 with q | q
            · left; omega
            · right; omega)
        rw [eo, h x hx m hm1 hm4 w hw]
        exact vb_congr (fun b hb => ⟨Or.inl, fun z => z.elim id (fun z => absurd ⟨z.1, z.2.1.trans en.symm⟩ ex)⟩)
    )
  refine go_iload_n (i := 1) dx_X10_joinSets_0 rfl rfl ?_
  refine go_cS1 ss_X10_41 dx_X10_joinSets_1 (Nat.le_of_ble_eq_true rfl) (Nat.le_of_ble_eq_true rfl) (g_leftOf he ?_)
  refine go_bipush dx_X10_joinSets_4 rfl ?_
  refine go_imul dx_X10_joinSets_6 ?_
  refine go_getstatic1 sx_X10_45 dx_X10_joinSets_7 ?_
  refine go_iload_n (i := 2) dx_X10_joinSets_10 rfl rfl ?_
  refine go_cS2 ss_X10_29 dx_X10_joinSets_11 (Nat.le_of_ble_eq_true rfl) (Nat.le_of_ble_eq_true rfl) (g_intAtS1 (by omega) ?_)
  refine go_iadd dx_X10_joinSets_14 ?_
  refine go_asI (y := ((27 * e.2.1 + vof k : Nat) : Int)) (by omega) ?_
  refine go_istore (lv' := [(0, vv_A 74), (1, vv_I (pe e : Int)), (2, vv_I (k : Int)), (3, vv_I (j : Int)), (4, vv_I ((27 * e.2.1 + vof k : Nat) : Int))]) dx_X10_joinSets_15 (by decide) rfl ?_
  refine go_iload_n (i := 1) dx_X10_joinSets_17 rfl rfl ?_
  refine go_cS1 ss_X10_48 dx_X10_joinSets_18 (Nat.le_of_ble_eq_true rfl) (Nat.le_of_ble_eq_true rfl) (g_rightOf he ?_)
  refine go_bipush dx_X10_joinSets_21 rfl ?_
  refine go_imul dx_X10_joinSets_23 ?_
  refine go_getstatic1 sx_X10_45 dx_X10_joinSets_24 ?_
  refine go_iload_n (i := 3) dx_X10_joinSets_27 rfl rfl ?_
  refine go_cS2 ss_X10_29 dx_X10_joinSets_28 (Nat.le_of_ble_eq_true rfl) (Nat.le_of_ble_eq_true rfl) (g_intAtS1 (by omega) ?_)
  refine go_iadd dx_X10_joinSets_31 ?_
  refine go_asI (y := ((27 * e.2.2.1 + vof j : Nat) : Int)) (by omega) ?_
  refine go_istore (lv' := [(0, vv_A 74), (1, vv_I (pe e : Int)), (2, vv_I (k : Int)), (3, vv_I (j : Int)), (4, vv_I ((27 * e.2.1 + vof k : Nat) : Int)), (5, vv_I ((27 * e.2.2.1 + vof j : Nat) : Int))]) dx_X10_joinSets_32 (by decide) rfl ?_
  refine go_getstatic1 sx_X10_45 dx_X10_joinSets_34 ?_
  refine go_iload_n (i := 3) dx_X10_joinSets_37 rfl rfl ?_
  refine go_iconst dx_X10_joinSets_38 ?_
  refine go_iadd dx_X10_joinSets_39 ?_
  refine go_asI (y := ((j + 1 : Nat) : Int)) (by rfl) ?_
  refine go_cS2 ss_X10_29 dx_X10_joinSets_40 (Nat.le_of_ble_eq_true rfl) (Nat.le_of_ble_eq_true rfl) (g_intAtS1 (by omega) ?_)
  refine go_getstatic1 sx_X10_45 dx_X10_joinSets_43 ?_
  refine go_iload_n (i := 3) dx_X10_joinSets_46 rfl rfl ?_
  refine go_cS2 ss_X10_29 dx_X10_joinSets_47 (Nat.le_of_ble_eq_true rfl) (Nat.le_of_ble_eq_true rfl) (g_intAtS1 (by omega) ?_)
  refine go_isub dx_X10_joinSets_50 ?_
  refine go_asI (y := ((vof (j + 1) - vof j : Nat) : Int)) (by omega) ?_
  refine go_istore (lv' := [(0, vv_A 74), (1, vv_I (pe e : Int)), (2, vv_I (k : Int)), (3, vv_I (j : Int)), (4, vv_I ((27 * e.2.1 + vof k : Nat) : Int)), (5, vv_I ((27 * e.2.2.1 + vof j : Nat) : Int)), (6, vv_I ((vof (j + 1) - vof j : Nat) : Int))]) dx_X10_joinSets_51 (by decide) rfl ?_
  refine go_iload_n (i := 1) dx_X10_joinSets_53 rfl rfl ?_
  refine go_cS1 ss_X10_51 dx_X10_joinSets_54 (Nat.le_of_ble_eq_true rfl) (Nat.le_of_ble_eq_true rfl) (g_madeOf he ?_)
  refine go_bipush dx_X10_joinSets_57 rfl ?_
  refine go_imul dx_X10_joinSets_59 ?_
  refine go_getstatic1 sx_X10_45 dx_X10_joinSets_60 ?_
  refine go_iload_n (i := 2) dx_X10_joinSets_63 rfl rfl ?_
  refine go_iload_n (i := 3) dx_X10_joinSets_64 rfl rfl ?_
  refine go_iadd dx_X10_joinSets_65 ?_
  refine go_asI (y := (n : Int)) (by rw [en]; rfl) ?_
  refine go_cS2 ss_X10_29 dx_X10_joinSets_66 (Nat.le_of_ble_eq_true rfl) (Nat.le_of_ble_eq_true rfl) (g_intAtS1 (by omega) ?_)
  refine go_iadd dx_X10_joinSets_69 ?_
  refine go_asI (y := (A : Int)) (by omega) ?_
  refine go_istore (lv' := [(0, vv_A 74), (1, vv_I (pe e : Int)), (2, vv_I (k : Int)), (3, vv_I (j : Int)), (4, vv_I ((27 * e.2.1 + vof k : Nat) : Int)), (5, vv_I ((27 * e.2.2.1 + vof j : Nat) : Int)), (6, vv_I ((vof (j + 1) - vof j : Nat) : Int)), (7, vv_I (A : Int))]) dx_X10_joinSets_70 (by decide) rfl ?_
  refine go_getstatic2 sx_X10_54 dx_X10_joinSets_72 ?_
  refine go_iload_n (i := 2) dx_X10_joinSets_75 rfl rfl ?_
  refine go_cS2 ss_X10_29 dx_X10_joinSets_76 (Nat.le_of_ble_eq_true rfl) (Nat.le_of_ble_eq_true rfl) (g_intAtS2 (by omega) ?_)
  refine go_istore (lv' := [(0, vv_A 74), (1, vv_I (pe e : Int)), (2, vv_I (k : Int)), (3, vv_I (j : Int)), (4, vv_I ((27 * e.2.1 + vof k : Nat) : Int)), (5, vv_I ((27 * e.2.2.1 + vof j : Nat) : Int)), (6, vv_I ((vof (j + 1) - vof j : Nat) : Int)), (7, vv_I (A : Int)), (8, vv_I ((6 ^ k : Nat) : Int))]) dx_X10_joinSets_79 (by decide) rfl ?_
  refine go_iconst dx_X10_joinSets_81 ?_
  refine go_istore (lv' := [(0, vv_A 74), (1, vv_I (pe e : Int)), (2, vv_I (k : Int)), (3, vv_I (j : Int)), (4, vv_I ((27 * e.2.1 + vof k : Nat) : Int)), (5, vv_I ((27 * e.2.2.1 + vof j : Nat) : Int)), (6, vv_I ((vof (j + 1) - vof j : Nat) : Int)), (7, vv_I (A : Int)), (8, vv_I ((6 ^ k : Nat) : Int)), (9, vv_I ((0 : Nat) : Int))]) dx_X10_joinSets_82 (by decide) rfl ?_
  exact outer 0 δ (Nat.zero_le _) ⟨fun w hw => by
    rw [show A + w = 27 * e.1 + (vof n + w) by omega, h e.1 h1 n (by omega) (by omega) w (by omega)]
    exact vb_congr (fun b hb => ⟨Or.inl, fun z => z.elim id (fun ⟨u', t, z1, _⟩ => absurd z1 (Nat.not_lt_zero _))⟩), fun _ _ _ => rfl⟩
end GVOC4
