/-! the class's binary rules: measuring -/
def vl_at (δ : Nat → Nat → Int) (o n : Nat) (v : Nat → Option Nat) : Prop := n ≤ 62 ∧ (∀ x, x < n → δ (o + 8) x = ox (v x)) ∧ (∀ x, n ≤ x → v x = none) ∧ ∃ F : Nat, δ o 11 = (F : Int) ∧ F < 2 ^ 62 ∧ ∀ x, F.testBit x = true ↔ v x ≠ none
theorem vl_fr {δ δ' : Nat → Nat → Int} {o n : Nat} {v : Nat → Option Nat} (h : vl_at δ o n v) (f : ∀ c j, (c = o + 8 ∨ (c = o ∧ j = 11)) → δ' c j = δ c j) : vl_at δ' o n v := by
  obtain ⟨h0, h1, h2, F, h3, h4, h5⟩ := h
  exact ⟨h0, fun x hx => by rw [f _ _ (Or.inl rfl)]; exact h1 x hx, h2, F, by rw [f _ _ (Or.inr ⟨rfl, rfl⟩)]; exact h3, h4, h5⟩
theorem ox_none {a : Option Nat} : ox a = -1 ↔ a = none := by
  cases a with
  | none => exact ⟨fun _ => rfl, fun _ => rfl⟩
  | some n => exact ⟨fun h => by have : (n : Int) = -1 := h; omega, fun h => by cases h⟩
section GMEAS
variable {E : go_E} {d : Nat} {δ : Nat → Nat → Int} {Q : List go_V → go_F → (Nat → Nat → Int) → Prop} {o : Nat} {R : Nat → List Nat} {n : Nat} {v : Nat → Option Nat}
theorem g_Binary_shorten {x m : Nat} (ho : bi_ok o) (h : vl_at δ o n v) (hx : x < n) (hm : m < 2147483648) (hv : ∀ k, v x = some k → k < 2147483648)
    (h0 : ∀ k, v x = some k → k ≤ m → Q [vv_I 0] go_φ δ) (h1 : (∀ k, v x = some k → m < k) → ∀ δ', vl_at δ' o n (vup v x m) → (∀ c j, c ≠ o + 8 → (c = o → j ≠ 11) → δ' c j = δ c j) → Q [vv_I 1] go_φ δ') :
    Go E (d + 1) (0, 0) mx_X0_shorten go_φ 0 [(0, vv_A o), (1, vv_I (x : Int)), (2, vv_I (m : Int))] [] δ Q := by
  have hvl := h
  obtain ⟨hn, g1, g2, F, g3, g4, g5⟩ := h
  have gx := g1 x hx
  have hF := bt_m63 g4 (by decide)
  have hr : go_iI (ox (v x)) := by
    cases e : v x with
    | none => exact ⟨by decide, by decide⟩
    | some k => have := hv k e; exact ⟨by show _ ≤ (k : Int); omega, by show (k : Int) ≤ _; omega⟩
  have fin : (∀ k, v x = some k → m < k) → Q [vv_I 1] go_φ (wr (wr δ (o + 8) x (m : Int)) o 11 ((F ||| 2 ^ x : Nat) : Int)) := fun hlt => h1 hlt _ ⟨hn, fun y hy => by
      rw [wr_n (by omega)]
      unfold vup
      by_cases e : y = x
      · subst e; rw [wr_eq, if_pos rfl]; rfl
      · rw [wr_i _ _ _ _ e, if_neg e]; exact g1 y hy, fun y hy => by unfold vup; rw [if_neg (by omega)]; exact g2 y hy, F ||| 2 ^ x, wr_eq _ _ _ _, Nat.or_lt_two_pow g4 (Nat.pow_lt_pow_right (by decide) (by omega)), fun y => by
      rw [bt_orb, bt_one, g5]
      unfold vup
      by_cases e : y = x
      · subst e; rw [if_pos rfl]; exact ⟨fun _ q => (by cases q), fun _ => Or.inr rfl⟩
      · rw [if_neg e]; exact ⟨fun q => q.elim id (fun z => absurd z.symm e), Or.inl⟩⟩ (fun c j a b => by rw [wr_n b, wr_a _ _ _ _ a])
  refine go_aload_n (i := 0) dx_X0_shorten_0 rfl rfl ?_
  refine go_getA (b := (o + 8)) fs_X0_33 rfl (bi_k0 ho) (bi_r10 ho) dx_X0_shorten_1 ?_
  refine go_iload_n (i := 1) dx_X0_shorten_4 rfl rfl ?_
  refine go_cS2 ss_X0_75 dx_X0_shorten_5 (Nat.le_of_ble_eq_true rfl) (Nat.le_of_ble_eq_true rfl) (g_intAtV (i := x) (v := ((ox (v x)))) (bi_k8 ho) (by omega) (by rw [(bi_l8 ho)]; omega) (by exact gx) ?_)
  refine go_istore_n (i := 3) (lv' := [(0, vv_A o), (1, vv_I (x : Int)), (2, vv_I (m : Int)), (3, vv_I ((ox (v x))))]) dx_X0_shorten_8 rfl (by decide) rfl ?_
  refine go_iload_n (i := 3) dx_X0_shorten_9 rfl rfl ?_
  refine go_iconst dx_X0_shorten_10 ?_
  refine go_icmp_eq (tgt := 21) dx_X0_shorten_11 rfl (by omega) (by omega) (fun c11 => ?_) (fun c11 => ?_)
  · refine go_aload_n (i := 0) dx_X0_shorten_21 rfl rfl ?_
    refine go_getA (b := (o + 8)) fs_X0_33 rfl (bi_k0 ho) (bi_r10 ho) dx_X0_shorten_22 ?_
    refine go_iload_n (i := 1) dx_X0_shorten_25 rfl rfl ?_
    refine go_iload_n (i := 2) dx_X0_shorten_26 rfl rfl ?_
    refine go_cS3 ss_X0_52 dx_X0_shorten_27 (Nat.le_of_ble_eq_true rfl) (Nat.le_of_ble_eq_true rfl) (g_putIntN (i := x) (bi_k8 ho) (by omega) (by rw [(bi_l8 ho)]; omega) ?_)
    refine go_aload_n (i := 0) dx_X0_shorten_30 rfl rfl ?_
    refine go_dup dx_X0_shorten_31 rfl ?_
    refine go_getL fs_X0_99 rfl (bi_k0 ho) dx_X0_shorten_32 ?_
    refine go_asL (y := (F : Int)) (by rw [wr_n (by omega)]; exact g3) ?_
    refine go_lconst (x := 1) dx_X0_shorten_35 rfl ?_
    refine go_iload_n (i := 1) dx_X0_shorten_36 rfl rfl ?_
    refine go_lshl dx_X0_shorten_37 ?_
    refine go_asL (y := ((2 ^ x : Nat) : Int)) (by exact bw_bit (by omega)) ?_
    refine go_lor dx_X0_shorten_38 ?_
    refine go_asL (y := ((F ||| 2 ^ x : Nat) : Int)) (by exact bw_orN hF (bt_p63 (show x < 62 by omega) (by decide))) ?_
    refine go_putL fp_X0_99 rfl rfl (bi_k0 ho) dx_X0_shorten_39 ?_
    refine go_iconst dx_X0_shorten_42 ?_
    refine go_zreturn dx_X0_shorten_43 rfl (by first | exact Or.inl rfl | exact Or.inr rfl | assumption | omega) (Nat.le_refl _) (Nat.le_refl _) ?_
    exact fin (fun k hk => absurd (ox_none.mp c11) (by rw [hk]; exact fun w => by cases w))
  · refine go_iload_n (i := 3) dx_X0_shorten_14 rfl rfl ?_
    refine go_iload_n (i := 2) dx_X0_shorten_15 rfl rfl ?_
    refine go_icmp_gt (tgt := 21) dx_X0_shorten_16 rfl (by omega) (by omega) (fun c16 => ?_) (fun c16 => ?_)
    · refine go_aload_n (i := 0) dx_X0_shorten_21 rfl rfl ?_
      refine go_getA (b := (o + 8)) fs_X0_33 rfl (bi_k0 ho) (bi_r10 ho) dx_X0_shorten_22 ?_
      refine go_iload_n (i := 1) dx_X0_shorten_25 rfl rfl ?_
      refine go_iload_n (i := 2) dx_X0_shorten_26 rfl rfl ?_
      refine go_cS3 ss_X0_52 dx_X0_shorten_27 (Nat.le_of_ble_eq_true rfl) (Nat.le_of_ble_eq_true rfl) (g_putIntN (i := x) (bi_k8 ho) (by omega) (by rw [(bi_l8 ho)]; omega) ?_)
      refine go_aload_n (i := 0) dx_X0_shorten_30 rfl rfl ?_
      refine go_dup dx_X0_shorten_31 rfl ?_
      refine go_getL fs_X0_99 rfl (bi_k0 ho) dx_X0_shorten_32 ?_
      refine go_asL (y := (F : Int)) (by rw [wr_n (by omega)]; exact g3) ?_
      refine go_lconst (x := 1) dx_X0_shorten_35 rfl ?_
      refine go_iload_n (i := 1) dx_X0_shorten_36 rfl rfl ?_
      refine go_lshl dx_X0_shorten_37 ?_
      refine go_asL (y := ((2 ^ x : Nat) : Int)) (by exact bw_bit (by omega)) ?_
      refine go_lor dx_X0_shorten_38 ?_
      refine go_asL (y := ((F ||| 2 ^ x : Nat) : Int)) (by exact bw_orN hF (bt_p63 (show x < 62 by omega) (by decide))) ?_
      refine go_putL fp_X0_99 rfl rfl (bi_k0 ho) dx_X0_shorten_39 ?_
      refine go_iconst dx_X0_shorten_42 ?_
      refine go_zreturn dx_X0_shorten_43 rfl (by first | exact Or.inl rfl | exact Or.inr rfl | assumption | omega) (Nat.le_refl _) (Nat.le_refl _) ?_
      refine fin (fun k hk => ?_)
      rw [hk] at c16
      exact Int.ofNat_lt.mp c16
    · refine go_iconst dx_X0_shorten_19 ?_
      refine go_zreturn dx_X0_shorten_20 rfl (by first | exact Or.inl rfl | exact Or.inr rfl | assumption | omega) (Nat.le_refl _) (Nat.le_refl _) ?_
      obtain ⟨k, hk⟩ : ∃ k, v x = some k := by
        cases e : v x with
        | none => exact absurd (ox_none.mpr e) c11
        | some k => exact ⟨k, rfl⟩
      rw [hk] at c16
      exact h0 k hk (by have c : ¬ (m : Int) < (k : Int) := c16; omega)
/-- what a pass leaves: it only shortens; if it says no, nothing is changed -/
def vps (R : Nat → List Nat) (v v' : Nat → Option Nat) (b : Int) : Prop := vle v v' ∧ vok R v' ∧ (b = 0 ∨ b = 1) ∧ (b = 0 → v' = v)
theorem g_Binary_shortenByPairs (ho : bi_ok o) (hb : bi_at δ o R) (hn : n = 14 + (gH R).length) (h : vl_at δ o n v) (hk : vok R v)
    (hQ : ∀ δ' v' b, vl_at δ' o n v' → vps R v v' b → (∀ e, e ∈ gP R → ∀ a b, v e.2.1 = some a → v e.2.2.1 = some b → ∃ m, m ≤ a + b ∧ v' e.1 = some m) → (∀ c j, c ≠ o + 8 → (c = o → j ≠ 11) → δ' c j = δ c j) → Q [vv_I b] go_φ δ') :
    Go E (d + 2) (0, 0) mx_X0_shortenByPairs go_φ 0 [(0, vv_A o)] [] δ Q := by
  have hR := hb.2.2.2.2.2.2
  have hpl := gP_le hR
  have hcnt := hb.1.1
  have loop := lp_dn (X := (Nat → Nat → Int) × (Nat → Option Nat) × Int)
    (I := fun p X => p ≤ (gP R).length ∧ vl_at X.1 o n X.2.1 ∧ vps R v X.2.1 X.2.2 ∧ (∀ k (hk : k < (gP R).length), p ≤ k → ∀ a b, v ((gP R)[k]'hk).2.1 = some a → v ((gP R)[k]'hk).2.2.1 = some b → ∃ m, m ≤ a + b ∧ X.2.1 ((gP R)[k]'hk).1 = some m) ∧ (∀ c j, c ≠ o + 8 → (c = o → j ≠ 11) → X.1 c j = δ c j))
    (G := fun p X => Go E (d + 2) (0, 0) mx_X0_shortenByPairs go_φ 9 [(0, vv_A o), (1, vv_I X.2.2), (2, vv_I ((p : Int) - 1))] [] X.1 Q)
    (fun p X hI ih => by
      obtain ⟨δ1, v1, b⟩ := X
      obtain ⟨i0, i1, ⟨i2, i3, i4, i5⟩, i6, i7⟩ := hI
      dsimp only at i1 i2 i3 i4 i5 i6 i7 ⊢
      have hp : p < (gP R).length := i0
      obtain ⟨e, he⟩ : ∃ e, (gP R)[p]'hp = e := ⟨_, rfl⟩
      have hem : e ∈ gP R := by rw [← he]; exact List.getElem_mem hp
      have hpe := pe_ok_of hR hem
      have hlt := pr_lt hR hem
      have hcode := hb.1.2.1 p hp
      rw [he] at hcode
      obtain ⟨hn62, g1, g2, F, g3, g4, g5⟩ := id i1
      have hF := bt_m63 g4 (by decide)
      obtain ⟨a, ha⟩ : ∃ a, v1 e.2.1 = a := ⟨_, rfl⟩
      obtain ⟨c, hc⟩ : ∃ c, v1 e.2.2.1 = c := ⟨_, rfl⟩
      have hl1 := g1 e.2.1 (by omega)
      have hr1 := g1 e.2.2.1 (by omega)
      rw [ha] at hl1
      rw [hc] at hr1
      -- behind the step
      have cont : ∀ δ2 v2 b2, vl_at δ2 o n v2 → vps R v v2 b2 → vle v1 v2 → (∀ a b, v e.2.1 = some a → v e.2.2.1 = some b → ∃ m, m ≤ a + b ∧ v2 e.1 = some m) → (∀ c j, c ≠ o + 8 → (c = o → j ≠ 11) → δ2 c j = δ1 c j) →
          Go E (d + 2) (0, 0) mx_X0_shortenByPairs go_φ 77 [(0, vv_A o), (1, vv_I b2), (2, vv_I (((p + 1 : Nat) : Int) - 1))] [] δ2 Q := fun δ2 v2 b2 w1 w2 w3 w4 w5 => by
        refine go_iinc (lv' := [(0, vv_A o), (1, vv_I b2), (2, vv_I ((((p + 1 : Nat) : Int) - 1) + (-1)))]) dx_X0_shortenByPairs_77 rfl (by decide) rfl ?_
        refine go_goto (tgt := 9) dx_X0_shortenByPairs_80 rfl ?_
        rw [show ((p + 1 : Nat) : Int) - 1 + -1 = (p : Int) - 1 by omega]
        exact ih (δ2, v2, b2) ⟨by omega, w1, w2, fun k hk hpk a' b' h1 h2 => by
          by_cases q : k = p
          · subst q
            simp only [he] at h1 h2 ⊢
            exact w4 a' b' h1 h2
          · obtain ⟨m, m1, m2⟩ := i6 k hk (by omega) a' b' h1 h2
            obtain ⟨m', m3, m4⟩ := w3 _ m m2
            exact ⟨m', by omega, m4⟩, fun c j h1 h2 => (w5 c j h1 h2).trans (i7 c j h1 h2)⟩
      refine go_iload_n (i := 2) dx_X0_shortenByPairs_9 rfl rfl ?_
      refine go_if_lt (tgt := 83) dx_X0_shortenByPairs_10 rfl (by omega) (fun c10 => by exact absurd c10 (by omega)) (fun c10 => ?_)
      refine go_aload_n (i := 0) dx_X0_shortenByPairs_13 rfl rfl ?_
      refine go_getA (b := (o + 1)) fs_X0_9 rfl (bi_k0 ho) (bi_r0 ho) dx_X0_shortenByPairs_14 ?_
      refine go_iload_n (i := 2) dx_X0_shortenByPairs_17 rfl rfl ?_
      refine go_cS2 ss_X0_75 dx_X0_shortenByPairs_18 (Nat.le_of_ble_eq_true rfl) (Nat.le_of_ble_eq_true rfl) (g_intAtV (i := p) (v := ((pe e : Int))) (bi_k1 ho) (by omega) (by rw [(bi_l1 ho)]; omega) (by rw [i7 _ _ (by omega) (by omega)]; exact hcode) ?_)
      refine go_istore_n (i := 3) (lv' := [(0, vv_A o), (1, vv_I b), (2, vv_I (((p + 1 : Nat) : Int) - 1)), (3, vv_I ((pe e : Int)))]) dx_X0_shortenByPairs_21 rfl (by decide) rfl ?_
      refine go_aload_n (i := 0) dx_X0_shortenByPairs_22 rfl rfl ?_
      refine go_getA (b := (o + 8)) fs_X0_33 rfl (bi_k0 ho) (bi_r10 ho) dx_X0_shortenByPairs_23 ?_
      refine go_iload_n (i := 3) dx_X0_shortenByPairs_26 rfl rfl ?_
      refine go_cS1 ss_X0_110 dx_X0_shortenByPairs_27 (Nat.le_of_ble_eq_true rfl) (Nat.le_of_ble_eq_true rfl) (g_leftOf hpe ?_)
      refine go_cS2 ss_X0_75 dx_X0_shortenByPairs_30 (Nat.le_of_ble_eq_true rfl) (Nat.le_of_ble_eq_true rfl) (g_intAtV (i := e.2.1) (v := ((ox a))) (bi_k8 ho) (by omega) (by rw [(bi_l8 ho)]; omega) (by exact hl1) ?_)
      refine go_aload_n (i := 0) dx_X0_shortenByPairs_33 rfl rfl ?_
      refine go_getA (b := (o + 8)) fs_X0_33 rfl (bi_k0 ho) (bi_r10 ho) dx_X0_shortenByPairs_34 ?_
      refine go_iload_n (i := 3) dx_X0_shortenByPairs_37 rfl rfl ?_
      refine go_cS1 ss_X0_113 dx_X0_shortenByPairs_38 (Nat.le_of_ble_eq_true rfl) (Nat.le_of_ble_eq_true rfl) (g_rightOf hpe ?_)
      refine go_cS2 ss_X0_75 dx_X0_shortenByPairs_41 (Nat.le_of_ble_eq_true rfl) (Nat.le_of_ble_eq_true rfl) (g_intAtV (i := e.2.2.1) (v := ((ox c))) (bi_k8 ho) (by omega) (by rw [(bi_l8 ho)]; omega) (by exact hr1) ?_)
      refine go_iadd dx_X0_shortenByPairs_44 ?_
      refine go_istore (lv' := [(0, vv_A o), (1, vv_I b), (2, vv_I (((p + 1 : Nat) : Int) - 1)), (3, vv_I ((pe e : Int))), (4, vv_I (ox a + ox c))]) dx_X0_shortenByPairs_45 (by decide) rfl ?_
      refine go_iload_n (i := 3) dx_X0_shortenByPairs_47 rfl rfl ?_
      refine go_aload_n (i := 0) dx_X0_shortenByPairs_48 rfl rfl ?_
      refine go_getL fs_X0_99 rfl (bi_k0 ho) dx_X0_shortenByPairs_49 ?_
      refine go_asL (y := (F : Int)) (by exact g3) ?_
      refine go_aload_n (i := 0) dx_X0_shortenByPairs_52 rfl rfl ?_
      refine go_getL fs_X0_99 rfl (bi_k0 ho) dx_X0_shortenByPairs_53 ?_
      refine go_asL (y := (F : Int)) (by exact g3) ?_
      refine go_cS3 ss_X0_116 dx_X0_shortenByPairs_56 (Nat.le_of_ble_eq_true rfl) (Nat.le_of_ble_eq_true rfl) (g_Binary_fits hpe hF hF ?_)
      refine go_b_eq (tgt := 77) dx_X0_shortenByPairs_59 rfl (fun c59 => ?_) (fun c59 => ?_)
      · refine go_keep [0, 1, 2] rfl ?_
        refine cont δ1 v1 b i1 ⟨i2, i3, i4, i5⟩ vle_rf (fun a' b' h1 h2 => absurd ⟨?_, ?_⟩ c59) (fun _ _ _ _ => rfl)
        · obtain ⟨k1, k2, k3⟩ := i2 _ _ h1
          rw [g5, k3]
          exact fun w => by cases w
        · obtain ⟨k1, k2, k3⟩ := i2 _ _ h2
          rw [g5, k3]
          exact fun w => by cases w
      · obtain ⟨f1, f2⟩ := c59
        rw [g5, ha] at f1
        rw [g5, hc] at f2
        cases a with
        | none => exact absurd rfl f1
        | some a =>
          cases c with
          | none => exact absurd rfl f2
          | some c =>
            have hsum := vok_pair hR i3 hem ha hc
            have ha9 := vok_lt hR i3 ha
            have hc9 := vok_lt hR i3 hc
            obtain ⟨⟨u1, u2, u3⟩, -⟩ := i3 _ _ ha
            obtain ⟨⟨x1, x2, x3⟩, -⟩ := i3 _ _ hc
            have hstep : ∀ v2 : Nat → Option Nat, (∃ m, m ≤ a + c ∧ v2 e.1 = some m) → ∀ a' b', v e.2.1 = some a' → v e.2.2.1 = some b' → ∃ m, m ≤ a' + b' ∧ v2 e.1 = some m := fun v2 ⟨m, m1, m2⟩ a' b' h1 h2 => by
              obtain ⟨k1, k2, k3⟩ := i2 _ _ h1
              obtain ⟨k4, k5, k6⟩ := i2 _ _ h2
              rw [ha] at k3
              rw [hc] at k6
              cases k3
              cases k6
              exact ⟨m, by omega, m2⟩
            refine go_aload_n (i := 0) dx_X0_shortenByPairs_62 rfl rfl ?_
            refine go_iload_n (i := 3) dx_X0_shortenByPairs_63 rfl rfl ?_
            refine go_cS1 ss_X0_120 dx_X0_shortenByPairs_64 (Nat.le_of_ble_eq_true rfl) (Nat.le_of_ble_eq_true rfl) (g_madeOf hpe ?_)
            refine go_iload dx_X0_shortenByPairs_67 rfl ?_
            refine go_cV2 sv_X0_123 (bi_k0 ho) dx_X0_shortenByPairs_69 (Nat.le_of_ble_eq_true rfl) (Nat.le_of_ble_eq_true rfl) (g_Binary_shorten ho i1 (by omega) (by omega) (fun k hk => by have := vok_lt hR i3 hk; omega) (fun k hk hle => ?_) (fun hlt δ2 h2 f2 => ?_))
            · refine go_if_eq (tgt := 77) dx_X0_shortenByPairs_72 rfl (by omega) (fun c72 => ?_) (fun c72 => absurd c72 (by decide))
              refine go_keep [0, 1, 2] rfl ?_
              exact cont δ1 v1 b i1 ⟨i2, i3, i4, i5⟩ vle_rf (hstep v1 ⟨k, hle, hk⟩) (fun _ _ _ _ => rfl)
            · refine go_if_eq (tgt := 77) dx_X0_shortenByPairs_72 rfl (by omega) (fun c72 => absurd c72 (by decide)) (fun c72 => ?_)
              refine go_iconst dx_X0_shortenByPairs_75 ?_
              refine go_istore_n (i := 1) (lv' := [(0, vv_A o), (1, vv_I 1), (2, vv_I (((p + 1 : Nat) : Int) - 1)), (3, vv_I (pe e : Int)), (4, vv_I ((a + c : Nat) : Int))]) dx_X0_shortenByPairs_76 rfl (by decide) rfl ?_
              refine go_keep [0, 1, 2] rfl ?_
              have hle := vup_le (v := v1) (x := e.1) (n := a + c) (fun m hm => Nat.le_of_lt (hlt m hm))
              exact cont δ2 _ 1 h2 ⟨vle_tr i2 hle, vok_up hR i3 (by rw [List.length_append, u2, x2]) (dx_pr hR hem u3 x3) (fun m hm => Nat.le_of_lt (hlt m hm)) hsum, Or.inr rfl, fun q => absurd q (by decide)⟩ hle (hstep _ ⟨a + c, Nat.le_refl _, by unfold vup; rw [if_pos rfl]⟩) f2
    ) (fun X hI => by
      obtain ⟨δ1, v1, b⟩ := X
      obtain ⟨i0, i1, i2, i6, i7⟩ := hI
      dsimp only at i1 i2 i6 i7 ⊢
      refine go_iload_n (i := 2) dx_X0_shortenByPairs_9 rfl rfl ?_
      refine go_if_lt (tgt := 83) dx_X0_shortenByPairs_10 rfl (by omega) (fun c10 => ?_) (fun c10 => by exact absurd c10 (by omega))
      refine go_iload_n (i := 1) dx_X0_shortenByPairs_83 rfl rfl ?_
      refine go_zreturn dx_X0_shortenByPairs_84 rfl (by first | omega | (exact i2.2.2.1)) (Nat.le_refl _) (Nat.le_refl _) ?_
      refine hQ δ1 v1 b i1 i2 (fun e he a b h1 h2 => ?_) i7
      obtain ⟨k, hk, rfl⟩ := List.getElem_of_mem he
      exact i6 k hk (Nat.zero_le _) a b h1 h2
    )
  refine go_iconst dx_X0_shortenByPairs_0 ?_
  refine go_istore_n (i := 1) (lv' := [(0, vv_A o), (1, vv_I 0)]) dx_X0_shortenByPairs_1 rfl (by decide) rfl ?_
  refine go_aload_n (i := 0) dx_X0_shortenByPairs_2 rfl rfl ?_
  refine go_getI fs_X0_42 (Or.inl rfl) (bi_k0 ho) dx_X0_shortenByPairs_3 ?_
  refine go_asI (y := ((gP R).length : Int)) (by exact hcnt) ?_
  refine go_iconst dx_X0_shortenByPairs_6 ?_
  refine go_isub dx_X0_shortenByPairs_7 ?_
  refine go_istore_n (i := 2) (lv' := [(0, vv_A o), (1, vv_I 0), (2, vv_I (((gP R).length : Int) - 1))]) dx_X0_shortenByPairs_8 rfl (by decide) rfl ?_
  exact loop (gP R).length (δ, v, 0) ⟨Nat.le_refl _, h, ⟨vle_rf, hk, Or.inl rfl, fun _ => rfl⟩, fun k hk hpk => absurd hk (by omega), fun _ _ _ _ => rfl⟩
theorem g_Binary_shortenByUnits (ho : bi_ok o) (hb : bi_at δ o R) (hn : n = 14 + (gH R).length) (h : vl_at δ o n v) (hk : vok R v)
    (hQ : ∀ δ' v' b, vl_at δ' o n v' → vps R v v' b → (∀ x y a, un R x y → v y = some a → ∃ m, m ≤ a ∧ v' x = some m) → (∀ c j, c ≠ o + 8 → (c = o → j ≠ 11) → δ' c j = δ c j) → Q [vv_I b] go_φ δ') :
    Go E (d + 2) (0, 0) mx_X0_shortenByUnits go_φ 0 [(0, vv_A o)] [] δ Q := by
  have hR := hb.2.2.2.2.2.2
  have inner : ∀ x, x < 8 → ∀ X : (Nat → Nat → Int) × (Nat → Option Nat) × Int, (vl_at X.1 o n X.2.1 ∧ vps R v X.2.1 X.2.2 ∧ (∀ z y a, z < x → un R z y → v y = some a → ∃ m, m ≤ a ∧ X.2.1 z = some m) ∧ (∀ c j, c ≠ o + 8 → (c = o → j ≠ 11) → X.1 c j = δ c j)) →
      (∀ X : (Nat → Nat → Int) × (Nat → Option Nat) × Int, (vl_at X.1 o n X.2.1 ∧ vps R v X.2.1 X.2.2 ∧ (∀ z y a, z < x + 1 → un R z y → v y = some a → ∃ m, m ≤ a ∧ X.2.1 z = some m) ∧ (∀ c j, c ≠ o + 8 → (c = o → j ≠ 11) → X.1 c j = δ c j)) → Go E (d + 2) (0, 0) mx_X0_shortenByUnits go_φ 4 [(0, vv_A o), (1, vv_I X.2.2), (2, vv_I ((x + 1 : Nat) : Int))] [] X.1 Q) →
      Go E (d + 2) (0, 0) mx_X0_shortenByUnits go_φ 22 [(0, vv_A o), (1, vv_I X.2.2), (2, vv_I (x : Int)), (3, vv_I (mk 14 (un R x) : Int)), (4, vv_I 0)] [] X.1 Q := by
    intro x hx X hX KK
    have h14 := mk_31 14 (un R x) (by decide)
    refine lp_up (X := (Nat → Nat → Int) × (Nat → Option Nat) × Int) (hi := 14)
      (I := fun y0 X => vl_at X.1 o n X.2.1 ∧ vps R v X.2.1 X.2.2 ∧ (∀ z y a, (z < x ∨ (z = x ∧ y < y0)) → un R z y → v y = some a → ∃ m, m ≤ a ∧ X.2.1 z = some m) ∧ (∀ c j, c ≠ o + 8 → (c = o → j ≠ 11) → X.1 c j = δ c j))
      (G := fun y0 X => Go E (d + 2) (0, 0) mx_X0_shortenByUnits go_φ 22 [(0, vv_A o), (1, vv_I X.2.2), (2, vv_I (x : Int)), (3, vv_I (mk 14 (un R x) : Int)), (4, vv_I (y0 : Int))] [] X.1 Q)
      (fun y0 X hy hI ih => ?_) (fun X hI => ?_) 0 X (Nat.zero_le _) ⟨hX.1, hX.2.1, fun z y a hz => hX.2.2.1 z y a (by omega), hX.2.2.2⟩
    · obtain ⟨δ1, v1, b⟩ := X
      obtain ⟨i1, ⟨i2, i3, i4, i5⟩, i6, i7⟩ := hI
      dsimp only at i1 i2 i3 i4 i5 i6 i7 ⊢
      obtain ⟨hn62, g1, g2, F, g3, g4, g5⟩ := id i1
      have hF := bt_m63 g4 (by decide)
      obtain ⟨a, ha⟩ : ∃ a, v1 y0 = a := ⟨_, rfl⟩
      have hl1 := g1 y0 (by omega)
      rw [ha] at hl1
      have cont : ∀ δ2 v2 b2, vl_at δ2 o n v2 → vps R v v2 b2 → vle v1 v2 → (∀ a, un R x y0 → v y0 = some a → ∃ m, m ≤ a ∧ v2 x = some m) → (∀ c j, c ≠ o + 8 → (c = o → j ≠ 11) → δ2 c j = δ1 c j) →
          Go E (d + 2) (0, 0) mx_X0_shortenByUnits go_φ 83 [(0, vv_A o), (1, vv_I b2), (2, vv_I (x : Int)), (3, vv_I (mk 14 (un R x) : Int)), (4, vv_I (y0 : Int))] [] δ2 Q := fun δ2 v2 b2 w1 w2 w3 w4 w5 => by
        refine go_iinc (lv' := [(0, vv_A o), (1, vv_I b2), (2, vv_I (x : Int)), (3, vv_I (mk 14 (un R x) : Int)), (4, vv_I ((y0 : Int) + 1))]) dx_X0_shortenByUnits_83 rfl (by decide) rfl ?_
        refine go_goto (tgt := 22) dx_X0_shortenByUnits_86 rfl ?_
        exact ih (δ2, v2, b2) ⟨w1, w2, fun z y a hz hu hv => by
          by_cases q : z = x ∧ y = y0
          · obtain ⟨rfl, rfl⟩ := q
            exact w4 a hu hv
          · obtain ⟨m, m1, m2⟩ := i6 z y a (by omega) hu hv
            obtain ⟨m', m3, m4⟩ := w3 _ m m2
            exact ⟨m', by omega, m4⟩, fun c j h1 h2 => (w5 c j h1 h2).trans (i7 c j h1 h2)⟩
      have no : ¬ ((mk 14 (un R x)).testBit y0 = true ∧ F.testBit y0 = true) → ∀ a, un R x y0 → v y0 = some a → ∃ m, m ≤ a ∧ v1 x = some m := fun q a hu hv => absurd ⟨(mk_bit _ _ _).mpr ⟨hy, hu⟩, (g5 y0).mpr (by
        obtain ⟨k1, k2, k3⟩ := i2 _ _ hv
        rw [k3]
        exact fun w => by cases w)⟩ q
      refine go_iload dx_X0_shortenByUnits_22 rfl ?_
      refine go_bipush dx_X0_shortenByUnits_24 rfl ?_
      refine go_icmp_ge (tgt := 89) dx_X0_shortenByUnits_26 rfl (by omega) (by omega) (fun c26 => by exact absurd c26 (by omega)) (fun c26 => ?_)
      refine go_iload_n (i := 3) dx_X0_shortenByUnits_29 rfl rfl ?_
      refine go_iload dx_X0_shortenByUnits_30 rfl ?_
      refine go_iushr dx_X0_shortenByUnits_32 ?_
      refine go_iconst dx_X0_shortenByUnits_33 ?_
      refine go_iand dx_X0_shortenByUnits_34 ?_
      refine go_asI (y := (b01 ((mk 14 (un R x)).testBit y0 = true))) (by exact bv_tstb h14 (by omega)) ?_
      refine go_b_eq (tgt := 56) dx_X0_shortenByUnits_35 rfl (fun c35 => ?_) (fun c35 => ?_)
      · refine go_iconst dx_X0_shortenByUnits_56 ?_
        refine go_istore (lv' := [(0, vv_A o), (1, vv_I b), (2, vv_I (x : Int)), (3, vv_I (mk 14 (un R x) : Int)), (4, vv_I (y0 : Int)), (5, vv_I 0)]) dx_X0_shortenByUnits_57 (by decide) rfl ?_
        refine go_iload dx_X0_shortenByUnits_59 rfl ?_
        refine go_if_eq (tgt := 83) dx_X0_shortenByUnits_61 rfl (by omega) (fun c61 => ?_) (fun c61 => absurd c61 (by decide))
        refine go_keep [0, 1, 2, 3, 4] rfl ?_
        exact cont δ1 v1 b i1 ⟨i2, i3, i4, i5⟩ vle_rf (no (fun q => c35 q.1)) (fun _ _ _ _ => rfl)
      · refine go_aload_n (i := 0) dx_X0_shortenByUnits_38 rfl rfl ?_
        refine go_getL fs_X0_99 rfl (bi_k0 ho) dx_X0_shortenByUnits_39 ?_
        refine go_asL (y := (F : Int)) (by exact g3) ?_
        refine go_iload dx_X0_shortenByUnits_42 rfl ?_
        refine go_lushr dx_X0_shortenByUnits_44 ?_
        refine go_lconst (x := 1) dx_X0_shortenByUnits_45 rfl ?_
        refine go_land dx_X0_shortenByUnits_46 ?_
        refine go_asL (y := (b01 (F.testBit y0 = true))) (by exact bw_tstb hF (by omega)) ?_
        refine go_lconst (x := 0) dx_X0_shortenByUnits_47 rfl ?_
        refine go_bl_eq (tgt := 56) dx_X0_shortenByUnits_48 dx_X0_shortenByUnits_49 rfl (fun c48 => ?_) (fun c48 => ?_)
        · refine go_iconst dx_X0_shortenByUnits_56 ?_
          refine go_istore (lv' := [(0, vv_A o), (1, vv_I b), (2, vv_I (x : Int)), (3, vv_I (mk 14 (un R x) : Int)), (4, vv_I (y0 : Int)), (5, vv_I 0)]) dx_X0_shortenByUnits_57 (by decide) rfl ?_
          refine go_iload dx_X0_shortenByUnits_59 rfl ?_
          refine go_if_eq (tgt := 83) dx_X0_shortenByUnits_61 rfl (by omega) (fun c61 => ?_) (fun c61 => absurd c61 (by decide))
          refine go_keep [0, 1, 2, 3, 4] rfl ?_
          exact cont δ1 v1 b i1 ⟨i2, i3, i4, i5⟩ vle_rf (no (fun q => c48 q.2)) (fun _ _ _ _ => rfl)
        · refine go_iconst dx_X0_shortenByUnits_52 ?_
          refine go_goto (tgt := 57) dx_X0_shortenByUnits_53 rfl ?_
          refine go_istore (lv' := [(0, vv_A o), (1, vv_I b), (2, vv_I (x : Int)), (3, vv_I (mk 14 (un R x) : Int)), (4, vv_I (y0 : Int)), (5, vv_I 1)]) dx_X0_shortenByUnits_57 (by decide) rfl ?_
          refine go_iload dx_X0_shortenByUnits_59 rfl ?_
          refine go_if_eq (tgt := 83) dx_X0_shortenByUnits_61 rfl (by omega) (fun c61 => absurd c61 (by decide)) (fun c61 => ?_)
          have hun : un R x y0 := ((mk_bit _ _ _).mp c35).2
          have f1 := (g5 y0).mp c48
          rw [ha] at f1
          cases a with
          | none => exact absurd rfl f1
          | some a =>
            have ha9 := vok_lt hR i3 ha
            obtain ⟨⟨u1, u2, u3⟩, u4⟩ := i3 _ _ ha
            have hstep : ∀ v2 : Nat → Option Nat, (∃ m, m ≤ a ∧ v2 x = some m) → ∀ a', un R x y0 → v y0 = some a' → ∃ m, m ≤ a' ∧ v2 x = some m := fun v2 ⟨m, m1, m2⟩ a' _ h1 => by
              obtain ⟨k1, k2, k3⟩ := i2 _ _ h1
              rw [ha] at k3
              cases k3
              exact ⟨m, by omega, m2⟩
            refine go_aload_n (i := 0) dx_X0_shortenByUnits_64 rfl rfl ?_
            refine go_iload_n (i := 2) dx_X0_shortenByUnits_65 rfl rfl ?_
            refine go_aload_n (i := 0) dx_X0_shortenByUnits_66 rfl rfl ?_
            refine go_getA (b := (o + 8)) fs_X0_33 rfl (bi_k0 ho) (bi_r10 ho) dx_X0_shortenByUnits_67 ?_
            refine go_iload dx_X0_shortenByUnits_70 rfl ?_
            refine go_cS2 ss_X0_75 dx_X0_shortenByUnits_72 (Nat.le_of_ble_eq_true rfl) (Nat.le_of_ble_eq_true rfl) (g_intAtV (i := y0) (v := ((a : Int))) (bi_k8 ho) (by omega) (by rw [(bi_l8 ho)]; omega) (by exact hl1) ?_)
            refine go_cV2 sv_X0_123 (bi_k0 ho) dx_X0_shortenByUnits_75 (Nat.le_of_ble_eq_true rfl) (Nat.le_of_ble_eq_true rfl) (g_Binary_shorten ho i1 (by omega) (by omega) (fun k hk => by have := vok_lt hR i3 hk; omega) (fun k hk hle => ?_) (fun hlt δ2 h2 f2 => ?_))
            · refine go_if_eq (tgt := 83) dx_X0_shortenByUnits_78 rfl (by omega) (fun c78 => ?_) (fun c78 => absurd c78 (by decide))
              refine go_keep [0, 1, 2, 3, 4] rfl ?_
              exact cont δ1 v1 b i1 ⟨i2, i3, i4, i5⟩ vle_rf (hstep v1 ⟨k, hle, hk⟩) (fun _ _ _ _ => rfl)
            · refine go_if_eq (tgt := 83) dx_X0_shortenByUnits_78 rfl (by omega) (fun c78 => absurd c78 (by decide)) (fun c78 => ?_)
              refine go_iconst dx_X0_shortenByUnits_81 ?_
              refine go_istore_n (i := 1) (lv' := [(0, vv_A o), (1, vv_I 1), (2, vv_I (x : Int)), (3, vv_I (mk 14 (un R x) : Int)), (4, vv_I (y0 : Int)), (5, vv_I 1)]) dx_X0_shortenByUnits_82 rfl (by decide) rfl ?_
              refine go_keep [0, 1, 2, 3, 4] rfl ?_
              have hle := vup_le (v := v1) (x := x) (n := a) (fun m hm => Nat.le_of_lt (hlt m hm))
              exact cont δ2 _ 1 h2 ⟨vle_tr i2 hle, vok_up hR i3 u2 (dx_un hR hun u3) (fun m hm => Nat.le_of_lt (hlt m hm)) (by rw [if_pos hx]; rw [sm_14 (un_lt hR hun).2] at u4; omega), Or.inr rfl, fun q => absurd q (by decide)⟩ hle (hstep _ ⟨a, Nat.le_refl _, by unfold vup; rw [if_pos rfl]⟩) f2
    · obtain ⟨δ1, v1, b⟩ := X
      obtain ⟨i1, i2, i6, i7⟩ := hI
      dsimp only at i1 i2 i6 i7 ⊢
      refine go_iload dx_X0_shortenByUnits_22 rfl ?_
      refine go_bipush dx_X0_shortenByUnits_24 rfl ?_
      refine go_icmp_ge (tgt := 89) dx_X0_shortenByUnits_26 rfl (by omega) (by omega) (fun c26 => ?_) (fun c26 => by exact absurd c26 (by omega))
      refine go_iinc (lv' := [(0, vv_A o), (1, vv_I b), (2, vv_I ((x : Int) + 1)), (3, vv_I (mk 14 (un R x) : Int)), (4, vv_I ((14 : Nat) : Int))]) dx_X0_shortenByUnits_89 rfl (by decide) rfl ?_
      refine go_goto (tgt := 4) dx_X0_shortenByUnits_92 rfl ?_
      refine go_keep [0, 1, 2] rfl ?_
      exact KK (δ1, v1, b) ⟨i1, i2, fun z y a hz hu hv => i6 z y a (by have := (un_lt hR hu).2; omega) hu hv, i7⟩
  have outer := lp_up (X := (Nat → Nat → Int) × (Nat → Option Nat) × Int) (hi := 8)
      (I := fun x X => vl_at X.1 o n X.2.1 ∧ vps R v X.2.1 X.2.2 ∧ (∀ z y a, z < x → un R z y → v y = some a → ∃ m, m ≤ a ∧ X.2.1 z = some m) ∧ (∀ c j, c ≠ o + 8 → (c = o → j ≠ 11) → X.1 c j = δ c j))
      (G := fun x X => Go E (d + 2) (0, 0) mx_X0_shortenByUnits go_φ 4 [(0, vv_A o), (1, vv_I X.2.2), (2, vv_I (x : Int))] [] X.1 Q)
      (fun x X hx hI ih => by
        have hun : X.1 (o + 5) x = (mk 14 (un R x) : Int) := by rw [hI.2.2.2 _ _ (by omega) (by omega)]; exact hb.2.2.1 x hx
        refine go_iload_n (i := 2) dx_X0_shortenByUnits_4 rfl rfl ?_
        refine go_bipush dx_X0_shortenByUnits_5 rfl ?_
        refine go_icmp_ge (tgt := 95) dx_X0_shortenByUnits_7 rfl (by omega) (by omega) (fun c7 => by exact absurd c7 (by omega)) (fun c7 => ?_)
        refine go_aload_n (i := 0) dx_X0_shortenByUnits_10 rfl rfl ?_
        refine go_getA (b := (o + 5)) fs_X0_24 rfl (bi_k0 ho) (bi_r6 ho) dx_X0_shortenByUnits_11 ?_
        refine go_iload_n (i := 2) dx_X0_shortenByUnits_14 rfl rfl ?_
        refine go_cS2 ss_X0_75 dx_X0_shortenByUnits_15 (Nat.le_of_ble_eq_true rfl) (Nat.le_of_ble_eq_true rfl) (g_intAtV (i := x) (v := ((mk 14 (un R x) : Int))) (bi_k5 ho) (by omega) (by rw [(bi_l5 ho)]; omega) (by exact hun) ?_)
        refine go_istore_n (i := 3) (lv' := [(0, vv_A o), (1, vv_I X.2.2), (2, vv_I (x : Int)), (3, vv_I ((mk 14 (un R x) : Int)))]) dx_X0_shortenByUnits_18 rfl (by decide) rfl ?_
        refine go_iconst dx_X0_shortenByUnits_19 ?_
        refine go_istore (lv' := [(0, vv_A o), (1, vv_I X.2.2), (2, vv_I (x : Int)), (3, vv_I ((mk 14 (un R x) : Int))), (4, vv_I 0)]) dx_X0_shortenByUnits_20 (by decide) rfl ?_
        exact inner x hx X hI ih
      ) (fun X hI => by
        refine go_iload_n (i := 2) dx_X0_shortenByUnits_4 rfl rfl ?_
        refine go_bipush dx_X0_shortenByUnits_5 rfl ?_
        refine go_icmp_ge (tgt := 95) dx_X0_shortenByUnits_7 rfl (by omega) (by omega) (fun c7 => ?_) (fun c7 => by exact absurd c7 (by omega))
        refine go_iload_n (i := 1) dx_X0_shortenByUnits_95 rfl rfl ?_
        refine go_zreturn dx_X0_shortenByUnits_96 rfl (by first | omega | (exact hI.2.1.2.2.1)) (Nat.le_refl _) (Nat.le_refl _) ?_
        exact hQ X.1 X.2.1 X.2.2 hI.1 hI.2.1 (fun z y a hu hv => hI.2.2.1 z y a (un_lt hR hu).1 hu hv) hI.2.2.2
      )
  refine go_iconst dx_X0_shortenByUnits_0 ?_
  refine go_istore_n (i := 1) (lv' := [(0, vv_A o), (1, vv_I 0)]) dx_X0_shortenByUnits_1 rfl (by decide) rfl ?_
  refine go_iconst dx_X0_shortenByUnits_2 ?_
  refine go_istore_n (i := 2) (lv' := [(0, vv_A o), (1, vv_I 0), (2, vv_I 0)]) dx_X0_shortenByUnits_3 rfl (by decide) rfl ?_
  exact outer 0 (δ, v, 0) (Nat.zero_le _) ⟨h, ⟨vle_rf, hk, Or.inl rfl, fun _ => rfl⟩, fun z y a hz => absurd hz (Nat.not_lt_zero _), fun _ _ _ _ => rfl⟩
end GMEAS
