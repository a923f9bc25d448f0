/-! the reference's calls: viable, next -/
section GMV3
variable {E : go_E} {d : Nat} {δ : Nat → Nat → Int} {Q : List go_V → go_F → (Nat → Nat → Int) → Prop} {K : sK} {S : sS}
def vwP (c j : Nat) : Prop := mfP c j ∨ c = 105 ∨ c = 128 ∨ c = 129 ∨ (c = 94 ∧ j = 20)
theorem m_isViable {n : Nat} {w : List Nat} (hb : bk_at δ 95 0 K) (hw : mw_at δ w) (hn : n = w.length) (h15 : n ≤ 15) (hlet : ∀ x ∈ w, 8 ≤ x ∧ x < 14)
    (hQ : ∀ δ', δ' 94 20 = 0 → (∀ c j, ¬ vwP c j → δ' c j = δ c j) → Q [vv_I (b01 (bgn K.1 (plw w) 0 n K.2.1))] go_φ δ') : Go E (d + 3) (0, 0) mx_X12_isViable go_φ 0 [(0, vv_A 94), (1, vv_I (n : Int))] [] δ Q := by
  have hR := (bo_of hb).1
  have ht8 := hb.2.2.2.2.2.2.2.1
  have l95 : go_ln 95 = 384 := rfl
  have l128 : go_ln 128 = 128 := rfl
  have e112 : δ 95 112 = (K.2.1 : Int) := by have := hb.2.1; rwa [Nat.zero_add] at this
  have ho := bo_of hb
  subst hn
  refine go_aload_n (i := 0) dx_X12_isViable_0 rfl rfl ?_
  refine go_iconst dx_X12_isViable_1 ?_
  refine go_putZ fp_X12_155 rfl rfl (go_ok rfl rfl) (by first | omega | (exact Or.inl rfl)) dx_X12_isViable_2 ?_
  refine go_aload_n (i := 0) dx_X12_isViable_5 rfl rfl ?_
  refine go_cV0 sv_X12_238 (go_ok rfl rfl) dx_X12_isViable_6 (Nat.le_of_ble_eq_true rfl) (Nat.le_of_ble_eq_true rfl) (m_laysLeast (bo_fr ho (fun j _ => wr_n (by omega))) (fun δ1 v v1 v2 v3 f1 => ?_))
  refine go_aload_n (i := 0) dx_X12_isViable_9 rfl rfl ?_
  refine go_iload_n (i := 1) dx_X12_isViable_10 rfl rfl ?_
  refine go_cV1 sv_X12_256 (go_ok rfl rfl) dx_X12_isViable_11 (Nat.le_of_ble_eq_true rfl) (Nat.le_of_ble_eq_true rfl) (m_laysCells (n := w.length) (w := w) (bo_fr ho (fun j _ => by rw [f1 _ _ (by decide)]; exact wr_n (by omega))) hlet rfl h15 (mw_fr hw (fun j => by rw [f1 _ _ (by decide)]; exact wr_n (by omega))) (fun δ2 q1 q2 f2 => ?_))
  have fr2 : ∀ c j, ¬ mfP c j → c ≠ 105 → ¬ (c = 94 ∧ j = 20) → δ2 c j = δ c j := fun c j a b e => by rw [f2 c j a, f1 c j b]; exact wr_n (by omega)
  have e20 : δ2 94 20 = 0 := by rw [f2 94 20 (by unfold mfP mqP; omega), f1 94 20 (by decide)]; exact wr_eq ..
  have hv2 : le_at δ2 v := fun x hx => by rw [f2 105 x (by unfold mfP mqP; omega)]; exact v1 x hx
  by_cases z : w.length = 0
  · have hw0 : w = [] := List.eq_nil_of_length_eq_zero z
    have hiff : frt K.1 K.2.1 ↔ bgn K.1 (plw w) 0 w.length K.2.1 := by
      rw [bgn_w (Nat.zero_le _)]
      subst hw0
      exact Iff.rfl
    rw [z]
    refine go_iload_n (i := 1) dx_X12_isViable_14 rfl rfl ?_
    refine go_if_ne (tgt := 30) dx_X12_isViable_15 rfl (by omega) (fun c15 => by exact absurd rfl c15) (fun c15 => ?_)
    refine go_aload_n (i := 0) dx_X12_isViable_18 rfl rfl ?_
    refine go_aload_n (i := 0) dx_X12_isViable_19 rfl rfl ?_
    refine go_getA (b := 95) fs_X12_7 rfl (go_ok rfl rfl) rfl dx_X12_isViable_20 ?_
    refine go_bipush dx_X12_isViable_23 rfl ?_
    refine go_ialoadV (i := 112) (v := ((K.2.1 : Int))) dx_X12_isViable_25 (go_ok rfl rfl) (by omega) (show 112 < 384 by omega) (by rw [fr2 95 112 (by unfold mfP mqP; omega) (by decide) (by omega)]; exact e112) ?_
    refine go_cV1 sv_X12_396 (go_ok rfl rfl) dx_X12_isViable_26 (Nat.le_of_ble_eq_true rfl) (Nat.le_of_ble_eq_true rfl) (m_isProductive hR hv2 v2 v3 (by omega) ?_)
    refine go_zreturn dx_X12_isViable_29 rfl (b01_01 _)  (Nat.le_refl _) (Nat.le_refl _) ?_
    have hQ := hQ δ2 e20 (fun c j hc => by unfold vwP at hc; exact fr2 c j (fun z => hc (Or.inl z)) (by omega) (by omega))
    rw [← b01_c hiff] at hQ
    first | exact hQ | (rw [b01_t c26] at hQ; exact hQ) | (rw [b01_f c26] at hQ; exact hQ)
  · let Z : (Nat → Nat → Int) → Prop := fun δ' => ∀ c j, c ≠ 128 → c ≠ 129 → δ' c j = δ2 c j
    have Zb : ∀ δ', Z δ' → bo_at δ' K.1 := fun δ' f => bo_fr ho (fun j _ => by rw [f 95 j (by decide) (by decide)]; exact fr2 95 j (by unfold mfP mqP; omega) (by decide) (by omega))
    have Zv : ∀ δ', Z δ' → le_at δ' v := fun δ' f x hx => by rw [f 105 x (by decide) (by decide)]; exact hv2 x hx
    have Zw : ∀ δ', Z δ' → mw_at δ' w := fun δ' f => mw_fr hw (fun j => by rw [f 106 j (by decide) (by decide)]; exact fr2 106 j (by unfold mfP mqP; omega) (by decide) (by omega))
    have Ze : ∀ δ', Z δ' → me_at δ' K.1 w := fun δ' f => me_fr q2 (fun j => f 107 j (by decide) (by decide))
    have fin : ∀ δ', Z δ' → Q [vv_I (b01 (bgn K.1 (plw w) 0 w.length K.2.1))] go_φ δ' := fun δ' f => hQ δ' (by rw [f 94 20 (by decide) (by decide)]; exact e20) (fun c j hc => by unfold vwP at hc; rw [f c j (by omega) (by omega)]; exact fr2 c j (fun z => hc (Or.inl z)) (by omega) (by omega))
    have clr := lp_up (X := Nat → Nat → Int) (hi := 128) (I := fun k δ3 => (∀ q, q < k → δ3 128 q = 0) ∧ Z δ3)
      (G := fun k δ3 => Go E (d + 3) (0, 0) mx_X12_isViable go_φ 32 [(0, vv_A 94), (1, vv_I (w.length : Int)), (2, vv_I (k : Int))] [] δ3 Q) (fun k δ3 hk hI ih => ?_) (fun δ3 hI => ?_)
    · refine go_iload_n (i := 1) dx_X12_isViable_14 rfl rfl ?_
      refine go_if_ne (tgt := 30) dx_X12_isViable_15 rfl (by omega) (fun c15 => ?_) (fun c15 => by exact absurd c15 (by omega))
      refine go_iconst dx_X12_isViable_30 ?_
      refine go_istore_n (i := 2) (lv' := [(0, vv_A 94), (1, vv_I (w.length : Int)), (2, vv_I 0)]) dx_X12_isViable_31 rfl (by decide) rfl ?_
      exact clr 0 δ2 (Nat.zero_le _) ⟨fun q hq => absurd hq (Nat.not_lt_zero _), fun _ _ _ _ => rfl⟩
    · refine go_iload_n (i := 2) dx_X12_isViable_32 rfl rfl ?_
      refine go_sipush dx_X12_isViable_33 rfl ?_
      refine go_icmp_ge (tgt := 52) dx_X12_isViable_36 rfl (by omega) (by omega) (fun c36 => by exact absurd c36 (by omega)) (fun c36 => ?_)
      refine go_aload_n (i := 0) dx_X12_isViable_39 rfl rfl ?_
      refine go_getA (b := 128) fs_X12_115 rfl (go_ok rfl rfl) rfl dx_X12_isViable_40 ?_
      refine go_iload_n (i := 2) dx_X12_isViable_43 rfl rfl ?_
      refine go_iconst dx_X12_isViable_44 ?_
      refine go_bastoreV (i := k) dx_X12_isViable_45 (go_ok rfl rfl) (by omega) (show k < 128 by omega) (by first | exact Or.inl rfl | exact Or.inr rfl | assumption | omega) ?_
      refine go_iinc (lv' := [(0, vv_A 94), (1, vv_I (w.length : Int)), (2, vv_I ((k : Int) + 1))]) dx_X12_isViable_46 rfl (by decide) rfl ?_
      refine go_goto (tgt := 32) dx_X12_isViable_49 rfl ?_
      refine ih _ ⟨fun q hq => ?_, fun c j a b => by rw [wr_n (by omega)]; exact hI.2 c j a b⟩
      by_cases e : q = k
      · subst e; rw [wr_eq]
      · rw [wr_n (by omega)]; exact hI.1 q (by omega)
    · have levels := lp_dn (X := Nat → Nat → Int) (I := fun m δ4 => m ≤ w.length ∧ Z δ4 ∧ (∀ y, y < 8 → ∀ k, m ≤ k → k < w.length → δ4 128 (16 * y + k) = b01 (bgn K.1 (plw w) k w.length y)) ∧ (∀ y, y < 8 → ∀ k, k < m → δ4 128 (16 * y + k) = 0))
        (G := fun m δ4 => ∀ lv0, lv0 = [(0, vv_A 94), (1, vv_I (w.length : Int)), (2, vv_I ((m : Int) - 1))] → Go E (d + 3) (0, 0) mx_X12_isViable go_φ 56 lv0 [] δ4 Q) (fun i δ4 hI4 ih4 lv0 e0 => ?_) (fun δ4 hI4 lv0 e0 => ?_)
      · refine go_iload_n (i := 2) dx_X12_isViable_32 rfl rfl ?_
        refine go_sipush dx_X12_isViable_33 rfl ?_
        refine go_icmp_ge (tgt := 52) dx_X12_isViable_36 rfl (by omega) (by omega) (fun c36 => ?_) (fun c36 => by exact absurd c36 (by omega))
        refine go_iload_n (i := 1) dx_X12_isViable_52 rfl rfl ?_
        refine go_iconst dx_X12_isViable_53 ?_
        refine go_isub dx_X12_isViable_54 ?_
        refine go_istore_n (i := 2) (lv' := [(0, vv_A 94), (1, vv_I (w.length : Int)), (2, vv_I ((w.length : Int) - 1))]) dx_X12_isViable_55 rfl (by decide) rfl ?_
        exact levels w.length δ3 ⟨Nat.le_refl _, hI.2, fun y hy k a b => by omega, fun y hy k a => hI.1 _ (by omega)⟩ _ rfl
      · subst e0
        obtain ⟨g0, g1, g2, g3⟩ := hI4
        have hi : i < w.length := g0
        have ih5 : ∀ δ5, Z δ5 → (∀ y, y < 8 → ∀ k, i ≤ k → k < w.length → δ5 128 (16 * y + k) = b01 (bgn K.1 (plw w) k w.length y)) → (∀ y, y < 8 → ∀ k, k < i → δ5 128 (16 * y + k) = 0) → Go E (d + 3) (0, 0) mx_X12_isViable go_φ 56 [(0, vv_A 94), (1, vv_I (w.length : Int)), (2, vv_I ((i : Int) - 1))] [] δ5 Q := fun δ5 a b c => ih4 δ5 ⟨by omega, a, b, c⟩ _ rfl
        rw [show ((i + 1 : Nat) : Int) - 1 = (i : Int) by omega]
        have outer := lp_wf (X := (Nat → Nat → Int) × (Nat → Prop) × Nat) (fun X => 2 * cn 8 (fun y => ¬ X.2.1 y) + X.2.2)
          (I := fun X => Z X.1 ∧ vs_at X.1 K.1 w X.2.1 i ∧ (∀ y, X.2.1 y → bgn K.1 (plw w) i w.length y) ∧ (∀ y, y < 8 → ∀ k, k < i → X.1 128 (16 * y + k) = 0) ∧ (X.2.2 = 0 ∨ X.2.2 = 1) ∧ (X.2.2 = 0 → ∀ r x q, r < 16 → K.1 r = x :: q → q ≠ [] → lb K.1 w X.2.1 i q i → X.2.1 x))
          (G := fun X => Go E (d + 3) (0, 0) mx_X12_isViable go_φ 62 [(0, vv_A 94), (1, vv_I (w.length : Int)), (2, vv_I (i : Int)), (3, vv_I (X.2.2 : Int))] [] X.1 Q) (fun X hX ih6 => ?_)
        · refine go_iload_n (i := 2) dx_X12_isViable_56 rfl rfl ?_
          refine go_if_lt (tgt := 154) dx_X12_isViable_57 rfl (by omega) (fun c57 => by exact absurd c57 (by omega)) (fun c57 => ?_)
          refine go_iconst dx_X12_isViable_60 ?_
          refine go_istore_n (i := 3) (lv' := [(0, vv_A 94), (1, vv_I (w.length : Int)), (2, vv_I (i : Int)), (3, vv_I 1)]) dx_X12_isViable_61 rfl (by decide) rfl ?_
          exact outer (δ4, fun _ => False, 1) ⟨g1, ⟨fun y hy k a b => g2 y hy k a b, fun y hy => by show δ4 128 (16 * y + i) = b01 False; rw [g3 y hy i (Nat.lt_succ_self _)]; exact (b01_f id).symm⟩, fun y q => q.elim, fun y hy k hk => g3 y hy k (by omega), Or.inr rfl, fun q => absurd (show (1 : Nat) = 0 from q) (by decide)⟩
        · obtain ⟨δ5, t, f⟩ := X
          obtain ⟨j1, j2, j3, j4, j5, j6⟩ := hX
          dsimp only at j1 j2 j3 j4 j5 j6 ih6 ⊢
          rcases j5 with q | q
          · subst q
            have all := j6 rfl
            refine go_iload_n (i := 3) dx_X12_isViable_62 rfl rfl ?_
            refine go_if_eq (tgt := 148) dx_X12_isViable_63 rfl (by omega) (fun c63 => ?_) (fun c63 => by exact absurd rfl c63)
            refine go_iinc (lv' := [(0, vv_A 94), (1, vv_I (w.length : Int)), (2, vv_I ((i : Int) + (-1))), (3, vv_I ((0 : Nat) : Int))]) dx_X12_isViable_148 rfl (by decide) rfl ?_
            refine go_goto (tgt := 56) dx_X12_isViable_151 rfl ?_
            refine go_keep [0, 1, 2] rfl ?_
            refine ih5 δ5 j1 (fun y hy k a b => ?_) j4
            by_cases e : k = i
            · subst e
              rw [j2.2 y hy]
              exact b01_c ⟨j3 y, lb_all hR hi all hy⟩
            · exact j2.1 y hy k (by omega) b
          · subst q
            have rules := lp_up (X := (Nat → Nat → Int) × (Nat → Prop) × Nat) (hi := 16)
              (I := fun r X => Z X.1 ∧ vs_at X.1 K.1 w X.2.1 i ∧ (∀ y, X.2.1 y → bgn K.1 (plw w) i w.length y) ∧ (∀ y, y < 8 → ∀ k, k < i → X.1 128 (16 * y + k) = 0) ∧ (∀ y, t y → X.2.1 y) ∧ ((X.2.2 = 0 ∧ X.2.1 = t ∧ ∀ r' x q, r' < r → K.1 r' = x :: q → q ≠ [] → lb K.1 w t i q i → t x) ∨ (X.2.2 = 1 ∧ cn 8 (fun y => ¬ X.2.1 y) < cn 8 (fun y => ¬ t y))))
              (G := fun r X => Go E (d + 3) (0, 0) mx_X12_isViable go_φ 71 [(0, vv_A 94), (1, vv_I (w.length : Int)), (2, vv_I (i : Int)), (3, vv_I (X.2.2 : Int)), (4, vv_I (r : Int))] [] X.1 Q) (fun r X hr hI7 ih7 => ?_) (fun X hI7 => ?_)
            · refine go_iload_n (i := 3) dx_X12_isViable_62 rfl rfl ?_
              refine go_if_eq (tgt := 148) dx_X12_isViable_63 rfl (by omega) (fun c63 => by exact absurd c63 (by decide)) (fun c63 => ?_)
              refine go_iconst dx_X12_isViable_66 ?_
              refine go_istore_n (i := 3) (lv' := [(0, vv_A 94), (1, vv_I (w.length : Int)), (2, vv_I (i : Int)), (3, vv_I 0)]) dx_X12_isViable_67 rfl (by decide) rfl ?_
              refine go_iconst dx_X12_isViable_68 ?_
              refine go_istore (lv' := [(0, vv_A 94), (1, vv_I (w.length : Int)), (2, vv_I (i : Int)), (3, vv_I 0), (4, vv_I 0)]) dx_X12_isViable_69 (by decide) rfl ?_
              exact rules 0 (δ5, t, 0) (Nat.zero_le _) ⟨j1, j2, j3, j4, fun _ q => q, Or.inl ⟨rfl, rfl, fun r' x q hr' => absurd hr' (Nat.not_lt_zero _)⟩⟩
            · obtain ⟨δ6, u, f⟩ := X
              obtain ⟨k1, k2, k3, k4, k5, k6⟩ := hI7
              dsimp only at k1 k2 k3 k4 k5 k6 ⊢
              have hb6 := Zb δ6 k1
              have hlen := (hR r).len
              have same : ∀ δ7, Z δ7 → vs_at δ7 K.1 w u i → (∀ y, y < 8 → ∀ k, k < i → δ7 128 (16 * y + k) = 0) → (∀ x q, K.1 r = x :: q → q ≠ [] → lb K.1 w u i q i → u x) → Go E (d + 3) (0, 0) mx_X12_isViable go_φ 71 [(0, vv_A 94), (1, vv_I (w.length : Int)), (2, vv_I (i : Int)), (3, vv_I (f : Int)), (4, vv_I ((r + 1 : Nat) : Int))] [] δ7 Q := fun δ7 a b c e =>
                ih7 (δ7, u, f) ⟨a, b, k3, c, k5, k6.imp (fun ⟨a1, a2, a3⟩ => ⟨a1, a2, fun r' x q hr' hx hq hl => by
                  by_cases y : r' = r
                  · subst y
                    rw [a2] at e
                    exact e x q hx hq hl
                  · exact a3 r' x q (by omega) hx hq hl⟩) id⟩
              have more : ∀ δ7 (u7 : Nat → Prop), Z δ7 → vs_at δ7 K.1 w u7 i → (∀ y, u7 y → bgn K.1 (plw w) i w.length y) → (∀ y, y < 8 → ∀ k, k < i → δ7 128 (16 * y + k) = 0) → (∀ y, t y → u7 y) → cn 8 (fun y => ¬ u7 y) < cn 8 (fun y => ¬ t y) → Go E (d + 3) (0, 0) mx_X12_isViable go_φ 71 [(0, vv_A 94), (1, vv_I (w.length : Int)), (2, vv_I (i : Int)), (3, vv_I 1), (4, vv_I ((r + 1 : Nat) : Int))] [] δ7 Q := fun δ7 u7 a b c e g o =>
                ih7 (δ7, u7, 1) ⟨a, b, c, e, g, Or.inr ⟨rfl, o⟩⟩
              refine go_iload dx_X12_isViable_71 rfl ?_
              refine go_bipush dx_X12_isViable_73 rfl ?_
              refine go_icmp_ge (tgt := 145) dx_X12_isViable_75 rfl (by omega) (by omega) (fun c75 => by exact absurd c75 (by omega)) (fun c75 => ?_)
              refine go_aload_n (i := 0) dx_X12_isViable_78 rfl rfl ?_
              refine go_iload dx_X12_isViable_79 rfl ?_
              refine go_cV1 sv_X12_148 (go_ok rfl rfl) dx_X12_isViable_81 (Nat.le_of_ble_eq_true rfl) (Nat.le_of_ble_eq_true rfl) (o_longOf hb6 hr ?_)
              refine go_if_eq (tgt := 139) dx_X12_isViable_84 rfl (by omega) (fun c84 => ?_) (fun c84 => ?_)
              · refine go_iinc (lv' := [(0, vv_A 94), (1, vv_I (w.length : Int)), (2, vv_I (i : Int)), (3, vv_I (f : Int)), (4, vv_I ((r : Int) + 1))]) dx_X12_isViable_139 rfl (by decide) rfl ?_
                refine go_goto (tgt := 71) dx_X12_isViable_142 rfl ?_
                exact same δ6 k1 k2 k4 (fun x q hx hq => by
                rw [hx] at c84
                cases q with
                | nil => exact absurd rfl hq
                | cons a q => simp at c84; omega)
              · obtain ⟨x, y, q, hl, hx, hy, hq⟩ := rl_split hR (r := r) (fun z => by rw [z] at c84; simp at c84)
                have hql : (K.1 r).length = q.length + 2 := by rw [hl]; rfl
                have hz : ∀ z ∈ y :: q, z < 14 := fun z hm => by
                  rcases hR r with g | ⟨_, _, _, g⟩
                  · rw [hl] at g; cases g
                  · exact g z (by rw [hl]; exact List.mem_cons_of_mem _ hm)
                have eu := k2.2 x hx
                have setx : ¬ u x → lb K.1 w u i (y :: q) i → ∀ δ7, (∀ c j, c ≠ 129 → δ7 c j = δ6 c j) → Go E (d + 3) (0, 0) mx_X12_isViable go_φ 71 [(0, vv_A 94), (1, vv_I (w.length : Int)), (2, vv_I (i : Int)), (3, vv_I 1), (4, vv_I ((r + 1 : Nat) : Int))] [] (wr δ7 128 (16 * x + i) 1) Q := fun hn hlb δ7 f7 => by
                  refine more _ (fun z => u z ∨ z = x) (fun c j a b => by rw [wr_n (by omega), f7 c j b]; exact k1 c j a b) ⟨fun y' hy' k a b => by rw [wr_n (by omega), f7 128 _ (by decide)]; exact k2.1 y' hy' k a b, fun y' hy' => ?_⟩ (fun y' q' => q'.elim (k3 y') (fun e => by rw [e]; exact lb_up hR k3 hi hr hl (List.cons_ne_nil _ _) hx hz hlb)) (fun y' hy' k a => by rw [wr_n (by omega), f7 128 _ (by decide)]; exact k4 y' hy' k a) (fun y' q' => Or.inl (k5 y' q')) ?_
                  · by_cases e : y' = x
                    · subst e
                      rw [wr_eq]
                      exact (b01_t (Or.inr rfl)).symm
                    · rw [wr_n (by omega), f7 128 _ (by decide), k2.2 y' hy']
                      exact b01_c ⟨Or.inl, fun g => g.elim id (fun g => absurd g e)⟩
                  · exact Nat.lt_of_lt_of_le (cn_lt (P := fun z => ¬ (u z ∨ z = x)) (P' := fun z => ¬ u z) (fun z _ g h => g (Or.inl h)) hx hn (fun g => g (Or.inr rfl))) (cn_mono (fun z _ g h => g (k5 z h)))
                refine go_aload_n (i := 0) dx_X12_isViable_87 rfl rfl ?_
                refine go_getA (b := 128) fs_X12_115 rfl (go_ok rfl rfl) rfl dx_X12_isViable_88 ?_
                refine go_bipush dx_X12_isViable_91 rfl ?_
                refine go_aload_n (i := 0) dx_X12_isViable_93 rfl rfl ?_
                refine go_iload dx_X12_isViable_94 rfl ?_
                refine go_cV1 sv_X12_184 (go_ok rfl rfl) dx_X12_isViable_96 (Nat.le_of_ble_eq_true rfl) (Nat.le_of_ble_eq_true rfl) (o_symbolOf hb6 hr (by omega) ?_)
                refine go_asI (y := (x : Int)) (by rw [hl]; rfl) ?_
                refine go_imul dx_X12_isViable_99 ?_
                refine go_iload_n (i := 2) dx_X12_isViable_100 rfl rfl ?_
                refine go_iadd dx_X12_isViable_101 ?_
                refine go_baloadV (i := (16 * x + i)) (v := (b01 (u x))) dx_X12_isViable_102 (go_ok rfl rfl) (by omega) (show (16 * x + i) < 128 by omega) (by exact eu) ?_
                refine go_b_ne (tgt := 139) dx_X12_isViable_103 rfl (fun c103 => ?_) (fun c103 => ?_)
                · refine go_iinc (lv' := [(0, vv_A 94), (1, vv_I (w.length : Int)), (2, vv_I (i : Int)), (3, vv_I (f : Int)), (4, vv_I ((r : Int) + 1))]) dx_X12_isViable_139 rfl (by decide) rfl ?_
                  refine go_goto (tgt := 71) dx_X12_isViable_142 rfl ?_
                  first
                  | exact same δ6 k1 k2 k4 (fun x' q' e _ _ => by rw [hl] at e; injection e with e1 _; subst e1; exact c103)
                  | exact setx c103 c114 δ7 f7
                  | exact same δ7 (fun c j a b => by rw [f7 c j b]; exact k1 c j a b) (vs_fr k2 (fun j => f7 128 j (by decide))) (fun y' hy' k a => by rw [f7 128 _ (by decide)]; exact k4 y' hy' k a) (fun x' q' e _ g => by rw [hl] at e; injection e with e1 e2; subst e2; exact absurd g c114)
                · refine go_aload_n (i := 0) dx_X12_isViable_106 rfl rfl ?_
                  refine go_iload dx_X12_isViable_107 rfl ?_
                  refine go_iload_n (i := 2) dx_X12_isViable_109 rfl rfl ?_
                  refine go_iload_n (i := 1) dx_X12_isViable_110 rfl rfl ?_
                  refine go_cV3 sv_X12_405 (go_ok rfl rfl) dx_X12_isViable_111 (Nat.le_of_ble_eq_true rfl) (Nat.le_of_ble_eq_true rfl) (m_ruleBegins hb6 (Zv δ6 k1) v2 v3 (Zw δ6 k1) (Ze δ6 k1) rfl h15 hlet k2 hi hr hl hz (fun δ7 f7 => ?_))
                  refine go_b_ne (tgt := 120) dx_X12_isViable_114 rfl (fun c114 => ?_) (fun c114 => ?_)
                  · refine go_aload_n (i := 0) dx_X12_isViable_120 rfl rfl ?_
                    refine go_getA (b := 128) fs_X12_115 rfl (go_ok rfl rfl) rfl dx_X12_isViable_121 ?_
                    refine go_bipush dx_X12_isViable_124 rfl ?_
                    refine go_aload_n (i := 0) dx_X12_isViable_126 rfl rfl ?_
                    refine go_iload dx_X12_isViable_127 rfl ?_
                    refine go_cV1 sv_X12_184 (go_ok rfl rfl) dx_X12_isViable_129 (Nat.le_of_ble_eq_true rfl) (Nat.le_of_ble_eq_true rfl) (o_symbolOf (bo_fr hb6 (fun j _ => f7 95 j (by decide))) hr (by omega) ?_)
                    refine go_asI (y := (x : Int)) (by rw [hl]; rfl) ?_
                    refine go_imul dx_X12_isViable_132 ?_
                    refine go_iload_n (i := 2) dx_X12_isViable_133 rfl rfl ?_
                    refine go_iadd dx_X12_isViable_134 ?_
                    refine go_iconst dx_X12_isViable_135 ?_
                    refine go_bastoreV (i := 16 * x + i) dx_X12_isViable_136 (go_ok rfl rfl) (by omega) (show 16 * x + i < 128 by omega) (by first | exact Or.inl rfl | exact Or.inr rfl | assumption | omega) ?_
                    refine go_iconst dx_X12_isViable_137 ?_
                    refine go_istore_n (i := 3) (lv' := [(0, vv_A 94), (1, vv_I (w.length : Int)), (2, vv_I (i : Int)), (3, vv_I 1), (4, vv_I (r : Int))]) dx_X12_isViable_138 rfl (by decide) rfl ?_
                    refine go_iinc (lv' := [(0, vv_A 94), (1, vv_I (w.length : Int)), (2, vv_I (i : Int)), (3, vv_I 1), (4, vv_I ((r : Int) + 1))]) dx_X12_isViable_139 rfl (by decide) rfl ?_
                    refine go_goto (tgt := 71) dx_X12_isViable_142 rfl ?_
                    first
                    | exact same δ6 k1 k2 k4 (fun x' q' e _ _ => by rw [hl] at e; injection e with e1 _; subst e1; exact c103)
                    | exact setx c103 c114 δ7 f7
                    | exact same δ7 (fun c j a b => by rw [f7 c j b]; exact k1 c j a b) (vs_fr k2 (fun j => f7 128 j (by decide))) (fun y' hy' k a => by rw [f7 128 _ (by decide)]; exact k4 y' hy' k a) (fun x' q' e _ g => by rw [hl] at e; injection e with e1 e2; subst e2; exact absurd g c114)
                  · refine go_goto (tgt := 139) dx_X12_isViable_117 rfl ?_
                    refine go_iinc (lv' := [(0, vv_A 94), (1, vv_I (w.length : Int)), (2, vv_I (i : Int)), (3, vv_I (f : Int)), (4, vv_I ((r : Int) + 1))]) dx_X12_isViable_139 rfl (by decide) rfl ?_
                    refine go_goto (tgt := 71) dx_X12_isViable_142 rfl ?_
                    first
                    | exact same δ6 k1 k2 k4 (fun x' q' e _ _ => by rw [hl] at e; injection e with e1 _; subst e1; exact c103)
                    | exact setx c103 c114 δ7 f7
                    | exact same δ7 (fun c j a b => by rw [f7 c j b]; exact k1 c j a b) (vs_fr k2 (fun j => f7 128 j (by decide))) (fun y' hy' k a => by rw [f7 128 _ (by decide)]; exact k4 y' hy' k a) (fun x' q' e _ g => by rw [hl] at e; injection e with e1 e2; subst e2; exact absurd g c114)
            · obtain ⟨δ6, u, f⟩ := X
              obtain ⟨k1, k2, k3, k4, k5, k6⟩ := hI7
              dsimp only at k1 k2 k3 k4 k5 k6 ⊢
              refine go_iload dx_X12_isViable_71 rfl ?_
              refine go_bipush dx_X12_isViable_73 rfl ?_
              refine go_icmp_ge (tgt := 145) dx_X12_isViable_75 rfl (by omega) (by omega) (fun c75 => ?_) (fun c75 => by exact absurd c75 (by omega))
              refine go_goto (tgt := 62) dx_X12_isViable_145 rfl ?_
              refine go_keep [0, 1, 2, 3] rfl ?_
              rcases k6 with ⟨a, b, c⟩ | ⟨a, b⟩
              · subst a b
                exact ih6 (δ6, u, 0) ⟨k1, k2, k3, k4, Or.inl rfl, fun _ r x q hr => c r x q hr⟩ (Nat.lt_succ_self _)
              · subst a
                refine ih6 (δ6, u, 1) ⟨k1, k2, k3, k4, Or.inr rfl, fun q => absurd (show (1 : Nat) = 0 from q) (by decide)⟩ ?_
                dsimp only
                omega
      · subst e0
        obtain ⟨g0, g1, g2, g3⟩ := hI4
        refine go_iload_n (i := 2) dx_X12_isViable_56 rfl rfl ?_
        refine go_if_lt (tgt := 154) dx_X12_isViable_57 rfl (by omega) (fun c57 => ?_) (fun c57 => by exact absurd c57 (by omega))
        refine go_aload_n (i := 0) dx_X12_isViable_154 rfl rfl ?_
        refine go_getA (b := 128) fs_X12_115 rfl (go_ok rfl rfl) rfl dx_X12_isViable_155 ?_
        refine go_bipush dx_X12_isViable_158 rfl ?_
        refine go_aload_n (i := 0) dx_X12_isViable_160 rfl rfl ?_
        refine go_getA (b := 95) fs_X12_7 rfl (go_ok rfl rfl) rfl dx_X12_isViable_161 ?_
        refine go_bipush dx_X12_isViable_164 rfl ?_
        refine go_ialoadV (i := 112) (v := ((K.2.1 : Int))) dx_X12_isViable_166 (go_ok rfl rfl) (by omega) (show 112 < 384 by omega) (by rw [g1 95 112 (by decide) (by decide), fr2 95 112 (by unfold mfP mqP; omega) (by decide) (by omega)]; exact e112) ?_
        refine go_imul dx_X12_isViable_167 ?_
        refine go_baloadV (i := (16 * K.2.1 + 0)) (v := (b01 (bgn K.1 (plw w) 0 w.length K.2.1))) dx_X12_isViable_168 (go_ok rfl rfl) (by omega) (show (16 * K.2.1 + 0) < 128 by omega) (by exact g2 K.2.1 ht8 0 (Nat.zero_le _) (by omega)) ?_
        refine go_zreturn dx_X12_isViable_169 rfl (b01_01 _)  (Nat.le_refl _) (Nat.le_refl _) ?_
        exact fin δ4 g1
theorem m_viable (h : mx_at δ S) (hQ : ∀ δ', mx_at δ' S → fl δ δ' → Q [vv_I (oq_viable S.1)] go_φ δ') : Go E (d + 4) (0, 0) mx_X12_viable go_φ 0 [(0, vv_A 94)] [] δ Q := by
  refine go_aload_n (i := 0) dx_X12_viable_0 rfl rfl ?_
  refine go_iconst dx_X12_viable_1 ?_
  refine go_putI fp_X12_139 rfl rfl (go_ok rfl rfl) dx_X12_viable_2 ?_
  have h := mx_thr (v := 0) h
  have f0 : fl δ (wr δ 94 0 0) := fl_thr
  generalize wr δ 94 0 0 = δ0 at h f0 ⊢
  have hQ := fun δ' a (b : fl δ0 δ') => hQ δ' a (fl_tr f0 b)
  have hsc := @mx_of δ0 S h
  have hb := h.1.1
  have hlaid := h.2
  have ho := bo_of hb
  have hR := ho.1
  have h14 := hb.2.2.2.2.2.2.2.2.1
  have hlet := hb.2.2.2.2.2.2.2.2.2
  have l95 : go_ln 95 = 384 := rfl
  have l106 : go_ln 106 = 15 := rfl
  unfold oq_viable at hQ
  have loop := lp_up (X := Nat → Nat → Int) (hi := 14) (I := fun k δ1 => (∀ q, q < k → δ1 106 q = ((S.1.2.2.getD q 0 : Nat) : Int)) ∧ (∀ c j, c ≠ 106 → δ1 c j = δ0 c j))
    (G := fun k δ1 => Go E (d + 4) (0, 0) mx_X12_viable go_φ 7 [(0, vv_A 94), (1, vv_I (k : Int))] [] δ1 Q)
    (fun k δ1 hk hI ih => by
      have e := hb.2.2.2.1 k hk
      rw [Nat.zero_add] at e
      refine go_iload_n (i := 1) dx_X12_viable_7 rfl rfl ?_
      refine go_bipush dx_X12_viable_8 rfl ?_
      refine go_icmp_ge (tgt := 34) dx_X12_viable_10 rfl (by omega) (by omega) (fun c10 => by exact absurd c10 (by omega)) (fun c10 => ?_)
      refine go_aload_n (i := 0) dx_X12_viable_13 rfl rfl ?_
      refine go_getA (b := 106) fs_X12_48 rfl (go_ok rfl rfl) rfl dx_X12_viable_14 ?_
      refine go_iload_n (i := 1) dx_X12_viable_17 rfl rfl ?_
      refine go_aload_n (i := 0) dx_X12_viable_18 rfl rfl ?_
      refine go_getA (b := 95) fs_X12_7 rfl (go_ok rfl rfl) rfl dx_X12_viable_19 ?_
      refine go_bipush dx_X12_viable_22 rfl ?_
      refine go_iload_n (i := 1) dx_X12_viable_24 rfl rfl ?_
      refine go_iadd dx_X12_viable_25 ?_
      refine go_ialoadV (i := (114 + k)) (v := (((S.1.2.2.getD k 0 : Nat) : Int))) dx_X12_viable_26 (go_ok rfl rfl) (by omega) (show (114 + k) < 384 by omega) (by rw [hI.2 95 _ (by decide)]; exact e) ?_
      refine go_iastoreV (i := k) dx_X12_viable_27 (go_ok rfl rfl) (by omega) (show k < 15 by omega) ?_
      refine go_iinc (lv' := [(0, vv_A 94), (1, vv_I ((k : Int) + 1))]) dx_X12_viable_28 rfl (by decide) rfl ?_
      refine go_goto (tgt := 7) dx_X12_viable_31 rfl ?_
      refine ih _ ⟨fun q hq => ?_, fun c j hc => by rw [wr_n (by omega)]; exact hI.2 c j hc⟩
      by_cases z : q = k
      · subst z; rw [wr_eq]
      · rw [wr_n (by omega)]; exact hI.1 q (by omega)
    ) (fun δ1 hI => by
      have hb1 : bk_at δ1 95 0 S.1 := bk_fr hb (fun j => hI.2 95 j (by decide))
      have hw : mw_at δ1 S.1.2.2 := fun k hk => by
        rw [hI.1 k (by omega), List.getD_eq_getElem?_getD, List.getElem?_eq_getElem hk]
        rfl
      refine go_iload_n (i := 1) dx_X12_viable_7 rfl rfl ?_
      refine go_bipush dx_X12_viable_8 rfl ?_
      refine go_icmp_ge (tgt := 34) dx_X12_viable_10 rfl (by omega) (by omega) (fun c10 => ?_) (fun c10 => by exact absurd c10 (by omega))
      refine go_aload_n (i := 0) dx_X12_viable_34 rfl rfl ?_
      refine go_aload_n (i := 0) dx_X12_viable_35 rfl rfl ?_
      refine go_cV0 sv_X12_253 (go_ok rfl rfl) dx_X12_viable_36 (Nat.le_of_ble_eq_true rfl) (Nat.le_of_ble_eq_true rfl) (m_letters hb1 ?_)
      refine go_cV1 sv_X12_408 (go_ok rfl rfl) dx_X12_viable_39 (Nat.le_of_ble_eq_true rfl) (Nat.le_of_ble_eq_true rfl) (m_isViable hb1 hw rfl (by omega) hlet (fun δ2 z f2 => ?_))
      refine go_b_eq (tgt := 49) dx_X12_viable_42 rfl (fun c42 => ?_) (fun c42 => ?_)
      · refine go_iconst dx_X12_viable_49 ?_
        refine go_ireturn dx_X12_viable_50 rfl (Nat.le_refl _) (Nat.le_refl _) ?_
        obtain ⟨a, b⟩ := hsc (δ' := δ2) (fun c j hc => by unfold sc at hc; rw [f2 c j (by unfold vwP mfP mqP; omega), hI.2 c j (by omega)]) (Or.inl z)
        have hQ := hQ δ2 a b
        first | (rw [b01_t c42] at hQ; exact hQ) | (rw [b01_f c42] at hQ; exact hQ)
      · refine go_iconst dx_X12_viable_45 ?_
        refine go_goto (tgt := 50) dx_X12_viable_46 rfl ?_
        refine go_ireturn dx_X12_viable_50 rfl (Nat.le_refl _) (Nat.le_refl _) ?_
        obtain ⟨a, b⟩ := hsc (δ' := δ2) (fun c j hc => by unfold sc at hc; rw [f2 c j (by unfold vwP mfP mqP; omega), hI.2 c j (by omega)]) (Or.inl z)
        have hQ := hQ δ2 a b
        first | (rw [b01_t c42] at hQ; exact hQ) | (rw [b01_f c42] at hQ; exact hQ)
    )
  refine go_iconst dx_X12_viable_5 ?_
  refine go_istore_n (i := 1) (lv' := [(0, vv_A 94), (1, vv_I 0)]) dx_X12_viable_6 rfl (by decide) rfl ?_
  exact loop 0 δ0 (Nat.zero_le _) ⟨fun q hq => absurd hq (Nat.not_lt_zero _), fun _ _ _ => rfl⟩
theorem m_next (h : mx_at δ S) (hQ : ∀ δ', mx_at δ' S → fl δ δ' → Q [vv_I (oq_next S.1)] go_φ δ') : Go E (d + 4) (0, 0) mx_X12_next go_φ 0 [(0, vv_A 94)] [] δ Q := by
  refine go_aload_n (i := 0) dx_X12_next_0 rfl rfl ?_
  refine go_iconst dx_X12_next_1 ?_
  refine go_putI fp_X12_139 rfl rfl (go_ok rfl rfl) dx_X12_next_2 ?_
  have h := mx_thr (v := 0) h
  have f0 : fl δ (wr δ 94 0 0) := fl_thr
  generalize wr δ 94 0 0 = δ0 at h f0 ⊢
  have hQ := fun δ' a (b : fl δ0 δ') => hQ δ' a (fl_tr f0 b)
  have hsc := @mx_of δ0 S h
  have hb := h.1.1
  have hlaid := h.2
  have ho := bo_of hb
  have hR := ho.1
  have h14 := hb.2.2.2.2.2.2.2.2.1
  have hlet := hb.2.2.2.2.2.2.2.2.2
  have l95 : go_ln 95 = 384 := rfl
  have l106 : go_ln 106 = 15 := rfl
  unfold oq_next at hQ
  let P : Nat → Prop := fun c => 8 ≤ c ∧ bgn S.1.1 (plw (S.1.2.2 ++ [c])) 0 (S.1.2.2.length + 1) S.1.2.1
  have hPm : ∀ c, mk 14 (fun x => x < c ∧ P x) < 2 ^ 14 := fun c => mk_lt 14 _
  have outer := lp_up (X := Nat → Nat → Int) (hi := 14) (I := fun c δ1 => 8 ≤ c ∧ ml_at δ1 S.1 ∧ (∀ c j, ¬ sc c j → δ1 c j = δ0 c j))
    (G := fun c δ1 => ∀ lv0, lv0 = [(0, vv_A 94), (1, vv_I (mk 14 (fun x => x < c ∧ P x) : Int)), (2, vv_I (c : Int))] → Go E (d + 4) (0, 0) mx_X12_next go_φ 10 lv0 [] δ1 Q)
    (fun c δ1 hc hI ih lv0 e0 => ?_) (fun δ1 hI lv0 e0 => ?_)
  · refine go_iconst dx_X12_next_5 ?_
    refine go_istore_n (i := 1) (lv' := [(0, vv_A 94), (1, vv_I 0)]) dx_X12_next_6 rfl (by decide) rfl ?_
    refine go_bipush dx_X12_next_7 rfl ?_
    refine go_istore_n (i := 2) (lv' := [(0, vv_A 94), (1, vv_I 0), (2, vv_I 8)]) dx_X12_next_9 rfl (by decide) rfl ?_
    exact outer 8 δ0 (by decide) ⟨Nat.le_refl _, hlaid, fun _ _ _ => rfl⟩ _ (by rw [mk_zero (fun x _ q => by have := q.1; have := q.2.1; omega)]; rfl)
  · subst e0
    obtain ⟨i1, i2, i3⟩ := hI
    obtain ⟨M, hM⟩ : ∃ M, M = mk 14 (fun x => x < c ∧ P x) := ⟨_, rfl⟩
    rw [← hM]
    have hb1 : bk_at δ1 95 0 S.1 := bk_fr hb (fun j => i3 95 j (by unfold sc; omega))
    have inner := lp_up (X := Nat → Nat → Int) (hi := S.1.2.2.length) (I := fun k δ2 => (∀ q, q < k → δ2 106 q = ((S.1.2.2.getD q 0 : Nat) : Int)) ∧ (∀ c j, c ≠ 106 → δ2 c j = δ1 c j))
      (G := fun k δ2 => Go E (d + 4) (0, 0) mx_X12_next go_φ 18 [(0, vv_A 94), (1, vv_I (M : Int)), (2, vv_I (c : Int)), (3, vv_I (k : Int))] [] δ2 Q)
      (fun k δ2 hk hI2 ih2 => ?_) (fun δ2 hI2 => ?_)
    · refine go_iload_n (i := 2) dx_X12_next_10 rfl rfl ?_
      refine go_bipush dx_X12_next_11 rfl ?_
      refine go_icmp_ge (tgt := 86) dx_X12_next_13 rfl (by omega) (by omega) (fun c13 => by exact absurd c13 (by omega)) (fun c13 => ?_)
      refine go_iconst dx_X12_next_16 ?_
      refine go_istore_n (i := 3) (lv' := [(0, vv_A 94), (1, vv_I (M : Int)), (2, vv_I (c : Int)), (3, vv_I 0)]) dx_X12_next_17 rfl (by decide) rfl ?_
      exact inner 0 δ1 (Nat.zero_le _) ⟨fun q hq => absurd hq (Nat.not_lt_zero _), fun _ _ _ => rfl⟩
    · have e := hb1.2.2.2.1 k (by omega)
      rw [Nat.zero_add] at e
      refine go_iload_n (i := 3) dx_X12_next_18 rfl rfl ?_
      refine go_aload_n (i := 0) dx_X12_next_19 rfl rfl ?_
      refine go_cV0 sv_X12_253 (go_ok rfl rfl) dx_X12_next_20 (Nat.le_of_ble_eq_true rfl) (Nat.le_of_ble_eq_true rfl) (m_letters (bk_fr hb1 (fun j => hI2.2 95 j (by decide))) ?_)
      refine go_icmp_ge (tgt := 47) dx_X12_next_23 rfl (by omega) (by omega) (fun c23 => by exact absurd c23 (by omega)) (fun c23 => ?_)
      refine go_aload_n (i := 0) dx_X12_next_26 rfl rfl ?_
      refine go_getA (b := 106) fs_X12_48 rfl (go_ok rfl rfl) rfl dx_X12_next_27 ?_
      refine go_iload_n (i := 3) dx_X12_next_30 rfl rfl ?_
      refine go_aload_n (i := 0) dx_X12_next_31 rfl rfl ?_
      refine go_getA (b := 95) fs_X12_7 rfl (go_ok rfl rfl) rfl dx_X12_next_32 ?_
      refine go_bipush dx_X12_next_35 rfl ?_
      refine go_iload_n (i := 3) dx_X12_next_37 rfl rfl ?_
      refine go_iadd dx_X12_next_38 ?_
      refine go_ialoadV (i := (114 + k)) (v := (((S.1.2.2.getD k 0 : Nat) : Int))) dx_X12_next_39 (go_ok rfl rfl) (by omega) (show (114 + k) < 384 by omega) (by rw [hI2.2 95 _ (by decide)]; exact e) ?_
      refine go_iastoreV (i := k) dx_X12_next_40 (go_ok rfl rfl) (by omega) (show k < 15 by omega) ?_
      refine go_iinc (lv' := [(0, vv_A 94), (1, vv_I (M : Int)), (2, vv_I (c : Int)), (3, vv_I ((k : Int) + 1))]) dx_X12_next_41 rfl (by decide) rfl ?_
      refine go_goto (tgt := 18) dx_X12_next_44 rfl ?_
      refine ih2 _ ⟨fun q hq => ?_, fun c j hc => by rw [wr_n (by omega)]; exact hI2.2 c j hc⟩
      by_cases z : q = k
      · subst z; rw [wr_eq]
      · rw [wr_n (by omega)]; exact hI2.1 q (by omega)
    · have hb2 : bk_at δ2 95 0 S.1 := bk_fr hb1 (fun j => hI2.2 95 j (by decide))
      obtain ⟨δ3, h3⟩ : ∃ δ3, δ3 = wr δ2 106 S.1.2.2.length (c : Int) := ⟨_, rfl⟩
      have f3 : ∀ c j, c ≠ 106 → δ3 c j = δ1 c j := fun c j hc => by rw [h3, wr_n (by omega)]; exact hI2.2 c j hc
      have hb3 : bk_at δ3 95 0 S.1 := bk_fr hb1 (fun j => f3 95 j (by decide))
      have hw : mw_at δ3 (S.1.2.2 ++ [c]) := fun k hk => by
        rw [List.length_append, List.length_singleton] at hk
        rw [h3]
        by_cases z : k = S.1.2.2.length
        · subst z
          rw [wr_eq, List.getElem_append_right (Nat.le_refl _)]
          simp
        · rw [wr_n (by omega), hI2.1 k (by omega), List.getElem_append_left (by omega), List.getD_eq_getElem?_getD, List.getElem?_eq_getElem (by omega)]
          rfl
      have hl2 : ∀ x ∈ S.1.2.2 ++ [c], 8 ≤ x ∧ x < 14 := fun x hx => by
        rcases List.mem_append.mp hx with q | q
        · exact hlet x q
        · rw [List.mem_singleton.mp q]; exact ⟨i1, hc⟩
      have M31 : M < 2147483648 := by rw [hM]; exact mk_31 14 _ (by decide)
      have nxt : ∀ δ4 (y : Int), y = (mk 14 (fun x => x < c + 1 ∧ P x) : Int) → δ4 94 20 = 0 → (∀ c j, ¬ vwP c j → δ4 c j = δ3 c j) → Go E (d + 4) (0, 0) mx_X12_next go_φ 10 [(0, vv_A 94), (1, vv_I y), (2, vv_I ((c + 1 : Nat) : Int))] [] δ4 Q := fun δ4 y hy z f4 =>
        ih δ4 ⟨by omega, Or.inl z, fun c j hc => by unfold sc at hc; rw [f4 c j (by unfold vwP mfP mqP; omega), f3 c j (by omega)]; exact i3 c j (by unfold sc; omega)⟩ _ (by rw [hy])
      have hs : ∀ x, (x < c + 1 ∧ P x) ↔ (x < c ∧ P x) ∨ (x = c ∧ P x) := fun x => ⟨fun q => by
        by_cases z : x = c
        · exact Or.inr ⟨z, q.2⟩
        · exact Or.inl ⟨by omega, q.2⟩, fun q => q.elim (fun q => ⟨by omega, q.2⟩) (fun q => ⟨by omega, q.2⟩)⟩
      refine go_iload_n (i := 3) dx_X12_next_18 rfl rfl ?_
      refine go_aload_n (i := 0) dx_X12_next_19 rfl rfl ?_
      refine go_cV0 sv_X12_253 (go_ok rfl rfl) dx_X12_next_20 (Nat.le_of_ble_eq_true rfl) (Nat.le_of_ble_eq_true rfl) (m_letters hb2 ?_)
      refine go_icmp_ge (tgt := 47) dx_X12_next_23 rfl (by omega) (by omega) (fun c23 => ?_) (fun c23 => by exact absurd c23 (by omega))
      refine go_aload_n (i := 0) dx_X12_next_47 rfl rfl ?_
      refine go_getA (b := 106) fs_X12_48 rfl (go_ok rfl rfl) rfl dx_X12_next_48 ?_
      refine go_aload_n (i := 0) dx_X12_next_51 rfl rfl ?_
      refine go_cV0 sv_X12_253 (go_ok rfl rfl) dx_X12_next_52 (Nat.le_of_ble_eq_true rfl) (Nat.le_of_ble_eq_true rfl) (m_letters hb2 ?_)
      refine go_iload_n (i := 2) dx_X12_next_55 rfl rfl ?_
      refine go_iastoreV (i := S.1.2.2.length) dx_X12_next_56 (go_ok rfl rfl) (by omega) (show S.1.2.2.length < 15 by omega) ?_
      refine go_iload_n (i := 1) dx_X12_next_57 rfl rfl ?_
      refine go_aload_n (i := 0) dx_X12_next_58 rfl rfl ?_
      refine go_aload_n (i := 0) dx_X12_next_59 rfl rfl ?_
      refine go_cV0 sv_X12_253 (go_ok rfl rfl) dx_X12_next_60 (Nat.le_of_ble_eq_true rfl) (Nat.le_of_ble_eq_true rfl) (m_letters (bk_fr hb2 (fun j => wr_n (by omega))) ?_)
      refine go_iconst dx_X12_next_63 ?_
      refine go_iadd dx_X12_next_64 ?_
      refine go_asI (y := ((S.1.2.2.length + 1 : Nat) : Int)) (by rfl) ?_
      rw [← h3]
      refine go_cV1 sv_X12_408 (go_ok rfl rfl) dx_X12_next_65 (Nat.le_of_ble_eq_true rfl) (Nat.le_of_ble_eq_true rfl) (m_isViable hb3 hw (by rw [List.length_append, List.length_singleton]) (by omega) hl2 (fun δ4 z f4 => ?_))
      refine go_b_eq (tgt := 77) dx_X12_next_68 rfl (fun c68 => ?_) (fun c68 => ?_)
      · refine go_iconst dx_X12_next_77 ?_
        refine go_ior dx_X12_next_78 ?_
        refine go_nmI (fun y ey => ?_)
        refine go_istore_n (i := 1) (lv' := [(0, vv_A 94), (1, vv_I y), (2, vv_I (c : Int)), (3, vv_I (S.1.2.2.length : Int))]) dx_X12_next_79 rfl (by decide) rfl ?_
        refine go_iinc (lv' := [(0, vv_A 94), (1, vv_I y), (2, vv_I ((c : Int) + 1)), (3, vv_I (S.1.2.2.length : Int))]) dx_X12_next_80 rfl (by decide) rfl ?_
        refine go_goto (tgt := 10) dx_X12_next_83 rfl ?_
        refine go_keep [0, 1, 2] rfl ?_
        first
        | (refine nxt δ4 y ?_ z f4
           rw [ey, bv_orN M31 (bt_p31 hc (by decide)), hM, mk_one hc, mk_or]
           exact congrArg _ (mk_congr (fun x _ => by rw [hs x]; exact ⟨fun q => q.elim Or.inl (fun e => Or.inr ⟨e.symm, by rw [← e]; exact ⟨i1, c68⟩⟩), fun q => q.elim Or.inl (fun e => Or.inr e.1.symm)⟩)))
        | (refine nxt δ4 y ?_ z f4
           rw [ey, show (0 : Int) = ((0 : Nat) : Int) from rfl, bv_orN M31 (by decide), Nat.or_zero, hM]
           exact congrArg _ (mk_congr (fun x _ => by rw [hs x]; exact ⟨Or.inl, fun q => q.elim id (fun e => absurd (by rw [← e.1]; exact e.2.2) c68)⟩)))
      · refine go_iconst dx_X12_next_71 ?_
        refine go_iload_n (i := 2) dx_X12_next_72 rfl rfl ?_
        refine go_ishl dx_X12_next_73 ?_
        refine go_asI (y := ((2 ^ c : Nat) : Int)) (by exact bv_bit (by omega)) ?_
        refine go_goto (tgt := 78) dx_X12_next_74 rfl ?_
        refine go_ior dx_X12_next_78 ?_
        refine go_nmI (fun y ey => ?_)
        refine go_istore_n (i := 1) (lv' := [(0, vv_A 94), (1, vv_I y), (2, vv_I (c : Int)), (3, vv_I (S.1.2.2.length : Int))]) dx_X12_next_79 rfl (by decide) rfl ?_
        refine go_iinc (lv' := [(0, vv_A 94), (1, vv_I y), (2, vv_I ((c : Int) + 1)), (3, vv_I (S.1.2.2.length : Int))]) dx_X12_next_80 rfl (by decide) rfl ?_
        refine go_goto (tgt := 10) dx_X12_next_83 rfl ?_
        refine go_keep [0, 1, 2] rfl ?_
        first
        | (refine nxt δ4 y ?_ z f4
           rw [ey, bv_orN M31 (bt_p31 hc (by decide)), hM, mk_one hc, mk_or]
           exact congrArg _ (mk_congr (fun x _ => by rw [hs x]; exact ⟨fun q => q.elim Or.inl (fun e => Or.inr ⟨e.symm, by rw [← e]; exact ⟨i1, c68⟩⟩), fun q => q.elim Or.inl (fun e => Or.inr e.1.symm)⟩)))
        | (refine nxt δ4 y ?_ z f4
           rw [ey, show (0 : Int) = ((0 : Nat) : Int) from rfl, bv_orN M31 (by decide), Nat.or_zero, hM]
           exact congrArg _ (mk_congr (fun x _ => by rw [hs x]; exact ⟨Or.inl, fun q => q.elim id (fun e => absurd (by rw [← e.1]; exact e.2.2) c68)⟩)))
  · subst e0
    obtain ⟨i1, i2, i3⟩ := hI
    obtain ⟨a, b⟩ := hsc (δ' := δ1) i3 i2
    have hQ := hQ δ1 a b
    rw [← mk_congr (P := fun x => x < 14 ∧ P x) (fun x hx => ⟨fun q => q.2, fun q => ⟨hx, q⟩⟩)] at hQ
    refine go_iload_n (i := 2) dx_X12_next_10 rfl rfl ?_
    refine go_bipush dx_X12_next_11 rfl ?_
    refine go_icmp_ge (tgt := 86) dx_X12_next_13 rfl (by omega) (by omega) (fun c13 => ?_) (fun c13 => by exact absurd c13 (by omega))
    refine go_iload_n (i := 1) dx_X12_next_86 rfl rfl ?_
    refine go_ireturn dx_X12_next_87 rfl (Nat.le_refl _) (Nat.le_refl _) ?_
    exact hQ
end GMV3
