/-! the class's calls against the same words: pairs .. last -/
section GXC
variable {E : go_E} {d : Nat} {δ : Nat → Nat → Int} {Q : List go_V → go_F → (Nat → Nat → Int) → Prop} {S : sS} {R : Nat → List Nat} {Tm : Int}
theorem g_isSymbol {x : Int} (hx : go_iI x) (hb : bi_at δ 33 R) (hQ : Q [vv_I (b01 (0 ≤ x ∧ x < (nsy R : Int)))] go_φ δ) : Go E (d + 1) (0, 0) mx_X11_isSymbol go_φ 0 [(0, vv_A 0), (1, vv_I x)] [] δ Q := by
  have h62 := nsy_le hb.2.2.2.2.2.2
  rw [nsy_eq] at hQ h62
  refine go_iload_n (i := 1) dx_X11_isSymbol_0 rfl rfl ?_
  refine go_if_lt (tgt := 19) dx_X11_isSymbol_1 rfl (by omega) (fun c1 => ?_) (fun c1 => ?_)
  · refine go_iconst dx_X11_isSymbol_19 ?_
    refine go_zreturn dx_X11_isSymbol_20 rfl (by first | omega | (first | exact Or.inl rfl | exact Or.inr rfl)) (Nat.le_refl _) (Nat.le_refl _) ?_
    first | (rw [b01_t (by omega)] at hQ; exact hQ) | (rw [b01_f (by omega)] at hQ; exact hQ)
  · refine go_iload_n (i := 1) dx_X11_isSymbol_4 rfl rfl ?_
    refine go_aload_n (i := 0) dx_X11_isSymbol_5 rfl rfl ?_
    refine go_getA (b := 33) fs_X11_33 rfl (go_ok rfl rfl) rfl dx_X11_isSymbol_6 ?_
    refine go_cV0 sv_X11_398 (go_ok rfl rfl) dx_X11_isSymbol_9 (Nat.le_of_ble_eq_true rfl) (Nat.le_of_ble_eq_true rfl) (g_Binary_symbolCount bi_ok33 hb.1 ?_)
    refine go_icmp_ge (tgt := 19) dx_X11_isSymbol_12 rfl (by omega) (by omega) (fun c12 => ?_) (fun c12 => ?_)
    · refine go_iconst dx_X11_isSymbol_19 ?_
      refine go_zreturn dx_X11_isSymbol_20 rfl (by first | omega | (first | exact Or.inl rfl | exact Or.inr rfl)) (Nat.le_refl _) (Nat.le_refl _) ?_
      first | (rw [b01_t (by omega)] at hQ; exact hQ) | (rw [b01_f (by omega)] at hQ; exact hQ)
    · refine go_iconst dx_X11_isSymbol_15 ?_
      refine go_goto (tgt := 20) dx_X11_isSymbol_16 rfl ?_
      refine go_zreturn dx_X11_isSymbol_20 rfl (by first | omega | (first | exact Or.inl rfl | exact Or.inr rfl)) (Nat.le_refl _) (Nat.le_refl _) ?_
      first | (rw [b01_t (by omega)] at hQ; exact hQ) | (rw [b01_f (by omega)] at hQ; exact hQ)
theorem x_pairs (h : xk_at Tm δ S) (hQ : ∀ δ', xk_at Tm δ' S → fc δ δ' → Q [vv_I (oq_pairs S.1)] go_φ δ') : Go E (d + 12) (0, 0) mx_X11_pairs go_φ 0 [(0, vv_A 0)] [] δ Q := by
  refine go_aload_n (i := 0) dx_X11_pairs_0 rfl rfl ?_
  refine go_cV0 sv_X11_183 (go_ok rfl rfl) dx_X11_pairs_1 (Nat.le_of_ble_eq_true rfl) (Nat.le_of_ble_eq_true rfl) (g_freshen h (fun δ1 h1 e1 f1 => ?_))
  obtain ⟨hb, hm, hc⟩ := h1.2.2.2.1 e1
  have hQ := hQ δ1 h1 f1
  unfold oq_pairs at hQ
  refine go_aload_n (i := 0) dx_X11_pairs_4 rfl rfl ?_
  refine go_getA (b := 33) fs_X11_33 rfl (go_ok rfl rfl) rfl dx_X11_pairs_5 ?_
  refine go_getI fs_X11_186 (Or.inl rfl) (go_ok rfl rfl) dx_X11_pairs_8 ?_
  refine go_ireturn dx_X11_pairs_11 rfl (Nat.le_refl _) (Nat.le_refl _) ?_
  rw [← hb.1.1] at hQ
  exact hQ
theorem x_units {x : Int} (hx : go_iI x) (h : xk_at Tm δ S) (hQ : ∀ δ', xk_at Tm δ' S → fc δ δ' → Q [vv_I (oq_units S.1 x)] go_φ δ') : Go E (d + 12) (0, 0) mx_X11_units go_φ 0 [(0, vv_A 0), (1, vv_I x)] [] δ Q := by
  have l39 : go_ln 39 = 8 := rfl
  unfold oq_units at hQ
  refine go_aload_n (i := 0) dx_X11_units_0 rfl rfl ?_
  refine go_iload_n (i := 1) dx_X11_units_1 rfl rfl ?_
  refine go_cV1 sv_X11_167 (go_ok rfl rfl) dx_X11_units_2 (Nat.le_of_ble_eq_true rfl) (Nat.le_of_ble_eq_true rfl) (g_isName hx (fun a1 a2 => ?_) (fun a1 => ?_))
  · refine go_if_ne (tgt := 11) dx_X11_units_5 rfl (by omega) (fun c5 => ?_) (fun c5 => absurd c5 (by decide))
    obtain ⟨p, rfl⟩ : ∃ p : Nat, x = (p : Int) := ⟨x.toNat, by omega⟩
    refine go_aload_n (i := 0) dx_X11_units_11 rfl rfl ?_
    refine go_cV0 sv_X11_183 (go_ok rfl rfl) dx_X11_units_12 (Nat.le_of_ble_eq_true rfl) (Nat.le_of_ble_eq_true rfl) (g_freshen h (fun δ1 h1 e1 f1 => ?_))
    obtain ⟨hb, hm, hc⟩ := h1.2.2.2.1 e1
    have hQ := hQ δ1 h1 f1
    rw [cif_t ⟨a1, a2⟩, Int.toNat_natCast] at hQ
    have ex := hb.2.2.2.2.2.1 p (by omega)
    refine go_aload_n (i := 0) dx_X11_units_15 rfl rfl ?_
    refine go_getA (b := 33) fs_X11_33 rfl (go_ok rfl rfl) rfl dx_X11_units_16 ?_
    refine go_getA (b := 39) fs_X11_214 rfl (go_ok rfl rfl) rfl dx_X11_units_19 ?_
    refine go_iload_n (i := 1) dx_X11_units_22 rfl rfl ?_
    refine go_cS2 ss_X11_192 dx_X11_units_23 (Nat.le_of_ble_eq_true rfl) (Nat.le_of_ble_eq_true rfl) (g_intAtV (i := p) (v := ((mk 14 (ut S.1.1 p) : Int))) (go_ok rfl rfl) (by omega) (show p < 8 by omega) (by exact ex) ?_)
    refine go_iconst dx_X11_units_26 ?_
    refine go_iload_n (i := 1) dx_X11_units_27 rfl rfl ?_
    refine go_ishl dx_X11_units_28 ?_
    refine go_asI (y := ((2 ^ p : Nat) : Int)) (by exact bv_bit (by omega)) ?_
    refine go_ior dx_X11_units_29 ?_
    refine go_asI (y := (mk 14 (fun y => y = p ∨ ut S.1.1 p y) : Int)) (by rw [bv_orN (mk_31 14 _ (by decide)) (bt_p31 (show p < 14 by omega) (by decide)), mk_one (show p < 14 by omega), mk_or]; exact congrArg _ (mk_congr (fun y _ => ⟨fun q => q.elim Or.inr (fun q => Or.inl q.symm), fun q => q.elim (fun q => Or.inr q.symm) Or.inl⟩))) ?_
    refine go_ireturn dx_X11_units_30 rfl (Nat.le_refl _) (Nat.le_refl _) ?_
    exact hQ
  · refine go_if_ne (tgt := 11) dx_X11_units_5 rfl (by omega) (fun c5 => absurd c5 (by decide)) (fun c5 => ?_)
    refine go_bipush dx_X11_units_8 rfl ?_
    refine go_ireturn dx_X11_units_10 rfl (Nat.le_refl _) (Nat.le_refl _) ?_
    have hQ := hQ δ h fc_rf
    rw [cif_f a1] at hQ
    exact hQ
theorem x_least {x : Int} (hx : go_iI x) (h : xk_at Tm δ S) (hQ : ∀ δ', xk_at Tm δ' S → fc δ δ' → Q [vv_I (oq_least S.1 x)] go_φ δ') : Go E (d + 12) (0, 0) mx_X11_least go_φ 0 [(0, vv_A 0), (1, vv_I x)] [] δ Q := by
  have l41 : go_ln 41 = 62 := rfl
  unfold oq_least isy at hQ
  refine go_aload_n (i := 0) dx_X11_least_0 rfl rfl ?_
  refine go_cV0 sv_X11_183 (go_ok rfl rfl) dx_X11_least_1 (Nat.le_of_ble_eq_true rfl) (Nat.le_of_ble_eq_true rfl) (g_freshen h (fun δ1 h1 e1 f1 => ?_))
  obtain ⟨hb, hm, hc⟩ := h1.2.2.2.1 e1
  have hQ := hQ δ1 h1 f1
  have h62 := nsy_le hb.2.2.2.2.2.2
  refine go_aload_n (i := 0) dx_X11_least_4 rfl rfl ?_
  refine go_iload_n (i := 1) dx_X11_least_5 rfl rfl ?_
  refine go_cV1 sv_X11_205 (go_ok rfl rfl) dx_X11_least_6 (Nat.le_of_ble_eq_true rfl) (Nat.le_of_ble_eq_true rfl) (g_isSymbol hx hb ?_)
  refine go_b_eq (tgt := 26) dx_X11_least_9 rfl (fun c9 => ?_) (fun c9 => ?_)
  · refine go_bipush dx_X11_least_26 rfl ?_
    refine go_ireturn dx_X11_least_28 rfl (Nat.le_refl _) (Nat.le_refl _) ?_
    rw [cif_f c9] at hQ
    exact hQ
  · obtain ⟨p, rfl⟩ : ∃ p : Nat, x = (p : Int) := ⟨x.toNat, by omega⟩
    rw [cif_t c9, Int.toNat_natCast] at hQ
    have ex := hm.1.1 p (by rw [nsy_eq] at c9; omega)
    refine go_aload_n (i := 0) dx_X11_least_12 rfl rfl ?_
    refine go_getA (b := 33) fs_X11_33 rfl (go_ok rfl rfl) rfl dx_X11_least_13 ?_
    refine go_getA (b := 41) fs_X11_217 rfl (go_ok rfl rfl) rfl dx_X11_least_16 ?_
    refine go_iload_n (i := 1) dx_X11_least_19 rfl rfl ?_
    refine go_cS2 ss_X11_192 dx_X11_least_20 (Nat.le_of_ble_eq_true rfl) (Nat.le_of_ble_eq_true rfl) (g_intAtV (i := p) (v := (ll S.1.1 p)) (go_ok rfl rfl) (by omega) (show p < 62 by omega) (by exact ex) ?_)
    refine go_goto (tgt := 28) dx_X11_least_23 rfl ?_
    refine go_ireturn dx_X11_least_28 rfl (Nat.le_refl _) (Nat.le_refl _) ?_
    exact hQ
theorem x_cell {i j : Int} (hi : go_iI i) (hj : go_iI j) (h : xk_at Tm δ S) (hQ : ∀ δ', xk_at Tm δ' S → fc δ δ' → Q [vv_L (oq_cell S.1 i j)] go_φ δ') : Go E (d + 12) (0, 0) mx_X11_cell go_φ 0 [(0, vv_A 0), (1, vv_I i), (2, vv_I j)] [] δ Q := by
  unfold oq_cell isp at hQ
  refine go_aload_n (i := 0) dx_X11_cell_0 rfl rfl ?_
  refine go_cV0 sv_X11_183 (go_ok rfl rfl) dx_X11_cell_1 (Nat.le_of_ble_eq_true rfl) (Nat.le_of_ble_eq_true rfl) (g_freshen h (fun δ1 h1 e1 f1 => ?_))
  obtain ⟨hb, hm, hc⟩ := h1.2.2.2.1 e1
  have hQ := hQ δ1 h1 f1
  have h14 := h1.1.1.2.2.2.2.2.2.2.2.1
  refine go_aload_n (i := 0) dx_X11_cell_4 rfl rfl ?_
  refine go_getA (b := 44) fs_X11_42 rfl (go_ok rfl rfl) rfl dx_X11_cell_5 ?_
  refine go_iload_n (i := 1) dx_X11_cell_8 rfl rfl ?_
  refine go_iload_n (i := 2) dx_X11_cell_9 rfl rfl ?_
  refine go_cV2 sv_X11_229 (go_ok rfl rfl) dx_X11_cell_10 (Nat.le_of_ble_eq_true rfl) (Nat.le_of_ble_eq_true rfl) (g_Chart_hasSpan ch_ok44 hc.2.1 hc.2.2.1 hi hj ?_)
  refine go_b_eq (tgt := 28) dx_X11_cell_13 rfl (fun c13 => ?_) (fun c13 => ?_)
  · refine go_ldc2 (x := (-2)) kx_X11_237 dx_X11_cell_28 ?_
    refine go_lreturn dx_X11_cell_31 rfl (Nat.le_refl _) (Nat.le_refl _) ?_
    rw [cif_f c13] at hQ
    exact hQ
  · obtain ⟨p, rfl⟩ : ∃ p : Nat, i = (p : Int) := ⟨i.toNat, by omega⟩
    obtain ⟨q, rfl⟩ : ∃ q : Nat, j = (q : Int) := ⟨j.toNat, by omega⟩
    rw [cif_t c13, Int.toNat_natCast, Int.toNat_natCast] at hQ
    refine go_aload_n (i := 0) dx_X11_cell_16 rfl rfl ?_
    refine go_getA (b := 44) fs_X11_42 rfl (go_ok rfl rfl) rfl dx_X11_cell_17 ?_
    refine go_iload_n (i := 1) dx_X11_cell_20 rfl rfl ?_
    refine go_iload_n (i := 2) dx_X11_cell_21 rfl rfl ?_
    refine go_cV2 sv_X11_233 (go_ok rfl rfl) dx_X11_cell_22 (Nat.le_of_ble_eq_true rfl) (Nat.le_of_ble_eq_true rfl) (g_Chart_cellAt ch_ok44 hc (by omega) (by omega) ?_)
    refine go_goto (tgt := 31) dx_X11_cell_25 rfl ?_
    refine go_lreturn dx_X11_cell_31 rfl (Nat.le_refl _) (Nat.le_refl _) ?_
    exact hQ
theorem x_accepted (h : xk_at Tm δ S) (hQ : ∀ δ', xk_at Tm δ' S → fc δ δ' → Q [vv_I (oq_accepted S.1)] go_φ δ') : Go E (d + 12) (0, 0) mx_X11_accepted go_φ 0 [(0, vv_A 0)] [] δ Q := by
  unfold oq_accepted dK at hQ
  refine go_aload_n (i := 0) dx_X11_accepted_0 rfl rfl ?_
  refine go_cV0 sv_X11_183 (go_ok rfl rfl) dx_X11_accepted_1 (Nat.le_of_ble_eq_true rfl) (Nat.le_of_ble_eq_true rfl) (g_freshen h (fun δ1 h1 e1 f1 => ?_))
  obtain ⟨hb, hm, hc⟩ := h1.2.2.2.1 e1
  have hQ := hQ δ1 h1 f1
  have htd := h1.1.1
  have h14 := htd.2.2.2.2.2.2.2.2.1
  have h8 := htd.2.2.2.2.2.2.2.1
  have e1 := htd.2.1
  have e3 := htd.2.2.2.1
  refine go_aload_n (i := 0) dx_X11_accepted_4 rfl rfl ?_
  refine go_getA (b := 44) fs_X11_42 rfl (go_ok rfl rfl) rfl dx_X11_accepted_5 ?_
  refine go_aload_n (i := 0) dx_X11_accepted_8 rfl rfl ?_
  refine go_getA (b := 3) fs_X11_19 rfl (go_ok rfl rfl) rfl dx_X11_accepted_9 ?_
  refine go_getI fs_X11_170 (Or.inl rfl) (go_ok rfl rfl) dx_X11_accepted_12 ?_
  refine go_asI (y := (S.1.2.1 : Int)) (by exact e1) ?_
  refine go_iconst dx_X11_accepted_15 ?_
  refine go_asI (y := ((0 : Nat) : Int)) (by rfl) ?_
  refine go_aload_n (i := 0) dx_X11_accepted_16 rfl rfl ?_
  refine go_getA (b := 3) fs_X11_19 rfl (go_ok rfl rfl) rfl dx_X11_accepted_17 ?_
  refine go_getI fs_X11_239 (Or.inl rfl) (go_ok rfl rfl) dx_X11_accepted_20 ?_
  refine go_asI (y := (S.1.2.2.length : Int)) (by exact e3) ?_
  refine go_cV3 sv_X11_242 (go_ok rfl rfl) dx_X11_accepted_23 (Nat.le_of_ble_eq_true rfl) (Nat.le_of_ble_eq_true rfl) (g_Chart_derives ch_ok44 hb.2.2.2.2.2.2 hc (by omega) (Nat.le_refl _) (Nat.zero_le _) ?_)
  refine go_b_eq (tgt := 33) dx_X11_accepted_26 rfl (fun c26 => ?_) (fun c26 => ?_)
  · refine go_iconst dx_X11_accepted_33 ?_
    refine go_ireturn dx_X11_accepted_34 rfl (Nat.le_refl _) (Nat.le_refl _) ?_
    first | (rw [b01_t c26] at hQ; exact hQ) | (rw [b01_f c26] at hQ; exact hQ)
  · refine go_iconst dx_X11_accepted_29 ?_
    refine go_goto (tgt := 34) dx_X11_accepted_30 rfl ?_
    refine go_ireturn dx_X11_accepted_34 rfl (Nat.le_refl _) (Nat.le_refl _) ?_
    first | (rw [b01_t c26] at hQ; exact hQ) | (rw [b01_f c26] at hQ; exact hQ)
theorem x_beginnings (h : xk_at Tm δ S) (hQ : ∀ δ', xk_at Tm δ' S → fc δ δ' → Q [vv_I (oq_beginnings S.1)] go_φ δ') : Go E (d + 12) (0, 0) mx_X11_beginnings go_φ 0 [(0, vv_A 0)] [] δ Q := by
  unfold oq_beginnings dK at hQ
  refine go_aload_n (i := 0) dx_X11_beginnings_0 rfl rfl ?_
  refine go_cV0 sv_X11_183 (go_ok rfl rfl) dx_X11_beginnings_1 (Nat.le_of_ble_eq_true rfl) (Nat.le_of_ble_eq_true rfl) (g_freshen h (fun δ1 h1 e1 f1 => ?_))
  obtain ⟨hb, hm, hc⟩ := h1.2.2.2.1 e1
  have hQ := hQ δ1 h1 f1
  have htd := h1.1.1
  have h8 := htd.2.2.2.2.2.2.2.1
  have e1 := htd.2.1
  refine go_aload_n (i := 0) dx_X11_beginnings_4 rfl rfl ?_
  refine go_getA (b := 44) fs_X11_42 rfl (go_ok rfl rfl) rfl dx_X11_beginnings_5 ?_
  refine go_aload_n (i := 0) dx_X11_beginnings_8 rfl rfl ?_
  refine go_getA (b := 3) fs_X11_19 rfl (go_ok rfl rfl) rfl dx_X11_beginnings_9 ?_
  refine go_getI fs_X11_170 (Or.inl rfl) (go_ok rfl rfl) dx_X11_beginnings_12 ?_
  refine go_asI (y := (S.1.2.1 : Int)) (by exact e1) ?_
  refine go_iconst dx_X11_beginnings_15 ?_
  refine go_asI (y := ((0 : Nat) : Int)) (by rfl) ?_
  refine go_cV2 sv_X11_267 (go_ok rfl rfl) dx_X11_beginnings_16 (Nat.le_of_ble_eq_true rfl) (Nat.le_of_ble_eq_true rfl) (g_Chart_endsFrom ch_ok44 hb.2.2.2.2.2.2 hc (by omega) (Nat.zero_le _) ?_)
  refine go_ireturn dx_X11_beginnings_19 rfl (Nat.le_refl _) (Nat.le_refl _) ?_
  exact hQ
theorem x_row {x i : Int} (hx : go_iI x) (hi : go_iI i) (h : xk_at Tm δ S) (hQ : ∀ δ', xk_at Tm δ' S → fc δ δ' → Q [vv_I (oq_row S.1 x i)] go_φ δ') : Go E (d + 12) (0, 0) mx_X11_row go_φ 0 [(0, vv_A 0), (1, vv_I x), (2, vv_I i)] [] δ Q := by
  unfold oq_row isy ipl dK at hQ
  refine go_aload_n (i := 0) dx_X11_row_0 rfl rfl ?_
  refine go_cV0 sv_X11_183 (go_ok rfl rfl) dx_X11_row_1 (Nat.le_of_ble_eq_true rfl) (Nat.le_of_ble_eq_true rfl) (g_freshen h (fun δ1 h1 e1 f1 => ?_))
  obtain ⟨hb, hm, hc⟩ := h1.2.2.2.1 e1
  have hQ := hQ δ1 h1 f1
  have htd := h1.1.1
  have h62 := nsy_le hb.2.2.2.2.2.2
  have h14 := htd.2.2.2.2.2.2.2.2.1
  refine go_aload_n (i := 0) dx_X11_row_4 rfl rfl ?_
  refine go_iload_n (i := 1) dx_X11_row_5 rfl rfl ?_
  refine go_cV1 sv_X11_205 (go_ok rfl rfl) dx_X11_row_6 (Nat.le_of_ble_eq_true rfl) (Nat.le_of_ble_eq_true rfl) (g_isSymbol hx hb ?_)
  refine go_b_eq (tgt := 32) dx_X11_row_9 rfl (fun c9 => ?_) (fun c9 => ?_)
  · refine go_bipush dx_X11_row_32 rfl ?_
    refine go_ireturn dx_X11_row_34 rfl (Nat.le_refl _) (Nat.le_refl _) ?_
    first | (rw [cif_f (fun q => c9 q.1)] at hQ; exact hQ) | (rw [cif_f (fun q => p1 q.2)] at hQ; exact hQ)
  · refine go_aload_n (i := 0) dx_X11_row_12 rfl rfl ?_
    refine go_iload_n (i := 2) dx_X11_row_13 rfl rfl ?_
    refine go_cV1 sv_X11_264 (go_ok rfl rfl) dx_X11_row_14 (Nat.le_of_ble_eq_true rfl) (Nat.le_of_ble_eq_true rfl) (g_isPlace hi htd (fun p1 p2 => ?_) (fun p1 => ?_))
    · refine go_if_eq (tgt := 32) dx_X11_row_17 rfl (by omega) (fun c17 => absurd c17 (by decide)) (fun c17 => ?_)
      obtain ⟨p, rfl⟩ : ∃ p : Nat, x = (p : Int) := ⟨x.toNat, by omega⟩
      obtain ⟨q, rfl⟩ : ∃ q : Nat, i = (q : Int) := ⟨i.toNat, by omega⟩
      rw [cif_t ⟨c9, p1, p2⟩, Int.toNat_natCast, Int.toNat_natCast] at hQ
      refine go_aload_n (i := 0) dx_X11_row_20 rfl rfl ?_
      refine go_getA (b := 44) fs_X11_42 rfl (go_ok rfl rfl) rfl dx_X11_row_21 ?_
      refine go_iload_n (i := 1) dx_X11_row_24 rfl rfl ?_
      refine go_iload_n (i := 2) dx_X11_row_25 rfl rfl ?_
      refine go_cV2 sv_X11_267 (go_ok rfl rfl) dx_X11_row_26 (Nat.le_of_ble_eq_true rfl) (Nat.le_of_ble_eq_true rfl) (g_Chart_endsFrom ch_ok44 hb.2.2.2.2.2.2 hc (by omega) (by omega) ?_)
      refine go_goto (tgt := 34) dx_X11_row_29 rfl ?_
      refine go_ireturn dx_X11_row_34 rfl (Nat.le_refl _) (Nat.le_refl _) ?_
      exact hQ
    · refine go_if_eq (tgt := 32) dx_X11_row_17 rfl (by omega) (fun c17 => ?_) (fun c17 => absurd c17 (by decide))
      refine go_bipush dx_X11_row_32 rfl ?_
      refine go_ireturn dx_X11_row_34 rfl (Nat.le_refl _) (Nat.le_refl _) ?_
      first | (rw [cif_f (fun q => c9 q.1)] at hQ; exact hQ) | (rw [cif_f (fun q => p1 q.2)] at hQ; exact hQ)
end GXC
