/-! the class's calls: words, first -/
theorem cn_app (P : Nat → Prop) (a : Nat) : ∀ b, cn (a + b) P = cn a P + cn b (fun i => P (a + i))
  | 0 => rfl
  | b + 1 => by
    have ih := cn_app P a b
    show cn (a + b + 1) P = _
    by_cases h : P (a + b)
    · rw [cn_st h, cn_st (P := fun i => P (a + i)) h, ih]; omega
    · rw [cn_sf h, cn_sf (P := fun i => P (a + i)) h, ih]
theorem vof_pow {n : Nat} (h1 : 1 ≤ n) (h4 : n ≤ 4) : 6 ^ n ≤ 64 * (vof (n + 1) - vof n) := by
  rcases (show n = 1 ∨ n = 2 ∨ n = 3 ∨ n = 4 by omega) with e | e | e | e <;> subst e <;> decide
section GXWORDS
variable {E : go_E} {d : Nat} {δ : Nat → Nat → Int} {Q : List go_V → go_F → (Nat → Nat → Int) → Prop} {S : sS} {K : sK} {Tm : Int}
theorem g_readyVocabulary (h : xk_at Tm δ S) (hf : δ 0 17 = δ 0 16) (hQ : ∀ δ', xk_at Tm δ' S → δ' 74 1 = δ' 0 16 → (∀ b j, ¬ (74 ≤ b ∧ b ≤ 75) → δ' b j = δ b j) → Q [] go_φ δ') : Go E (d + 6) (0, 0) mx_X11_readyVocabulary go_φ 0 [(0, vv_A 0)] [] δ Q := by
  obtain ⟨a1, a2, a3, a4, a5, a6, a7, a8, a9, a10, a11⟩ := id h
  have hst := a2.1
  have hs := a2.2.2.2.2.2.2.2.2
  unfold kst at hs
  obtain ⟨hb, hm, hc⟩ := a4 hf
  have hH := gH_le hb.2.2.2.2.2.2
  by_cases z : δ 74 1 = δ 0 16
  · refine go_aload_n (i := 0) dx_X11_readyVocabulary_0 rfl rfl ?_
    refine go_getA (b := 74) fs_X11_91 rfl (go_ok rfl rfl) rfl dx_X11_readyVocabulary_1 ?_
    refine go_getI fs_X11_416 (Or.inl rfl) (go_ok rfl rfl) dx_X11_readyVocabulary_4 ?_
    refine go_aload_n (i := 0) dx_X11_readyVocabulary_7 rfl rfl ?_
    refine go_getI fs_X11_109 (Or.inl rfl) (go_ok rfl rfl) dx_X11_readyVocabulary_8 ?_
    refine go_icmp_eq (tgt := 36) dx_X11_readyVocabulary_11 rfl (by omega) (by omega) (fun c11 => ?_) (fun c11 => by exact absurd z c11)
    refine go_vreturn dx_X11_readyVocabulary_36 rfl (Nat.le_refl _) (Nat.le_refl _) ?_
    exact hQ δ h z (fun _ _ _ => rfl)
  · refine go_aload_n (i := 0) dx_X11_readyVocabulary_0 rfl rfl ?_
    refine go_getA (b := 74) fs_X11_91 rfl (go_ok rfl rfl) rfl dx_X11_readyVocabulary_1 ?_
    refine go_getI fs_X11_416 (Or.inl rfl) (go_ok rfl rfl) dx_X11_readyVocabulary_4 ?_
    refine go_aload_n (i := 0) dx_X11_readyVocabulary_7 rfl rfl ?_
    refine go_getI fs_X11_109 (Or.inl rfl) (go_ok rfl rfl) dx_X11_readyVocabulary_8 ?_
    refine go_icmp_eq (tgt := 36) dx_X11_readyVocabulary_11 rfl (by omega) (by omega) (fun c11 => by exact absurd c11 z) (fun c11 => ?_)
    refine go_aload_n (i := 0) dx_X11_readyVocabulary_14 rfl rfl ?_
    refine go_getA (b := 74) fs_X11_91 rfl (go_ok rfl rfl) rfl dx_X11_readyVocabulary_15 ?_
    refine go_aload_n (i := 0) dx_X11_readyVocabulary_18 rfl rfl ?_
    refine go_getA (b := 33) fs_X11_33 rfl (go_ok rfl rfl) rfl dx_X11_readyVocabulary_19 ?_
    refine go_cV1 sv_X11_419 (go_ok rfl rfl) dx_X11_readyVocabulary_22 (Nat.le_of_ble_eq_true rfl) (Nat.le_of_ble_eq_true rfl) (g_Voc_fill hb (fun δ1 b1 f1 => ?_))
    have fr : ∀ b j, b ≠ 75 → ¬ (b = 74 ∧ j = 1) → wr δ1 74 1 (δ1 0 16) b j = δ b j := fun b j h1 h2 => by rw [wr_n (by omega)]; exact f1 b j h1
    refine go_aload_n (i := 0) dx_X11_readyVocabulary_25 rfl rfl ?_
    refine go_getA (b := 74) fs_X11_91 rfl (go_ok rfl rfl) rfl dx_X11_readyVocabulary_26 ?_
    refine go_aload_n (i := 0) dx_X11_readyVocabulary_29 rfl rfl ?_
    refine go_getI fs_X11_109 (Or.inl rfl) (go_ok rfl rfl) dx_X11_readyVocabulary_30 ?_
    refine go_putI fp_X11_416 rfl rfl (go_ok rfl rfl) dx_X11_readyVocabulary_33 ?_
    refine go_vreturn dx_X11_readyVocabulary_36 rfl (Nat.le_refl _) (Nat.le_refl _) ?_
    refine hQ _ ⟨xs_fr a1 (fun b h1 h2 j => fr b j (by omega) (by omega)), kts_fr a2 0 0 (fr 0 16 (by omega) (by omega)) (fun b j h => ?_), kno_fr a3 (fun b j h => fr b j (by omega) (by omega)), k17_fr a4 (fun b j h => fr b j (by omega) (by omega)), k49_fr a5 (fun b j h => fr b j (by omega) (by omega)), k52_fr a6 (fun b j h => fr b j (by omega) (by omega)), k56_fr a7 (fun b j h => fr b j (by omega) (by omega)), k62_fr a8 (fun b j h => fr b j (by omega) (by omega)), k67_fr a9 (fun b j h => fr b j (by omega) (by omega)), k71_fr a10 (fun b j h => fr b j (by omega) (by omega)), fun _ => ?_⟩ ?_ (fun b j hb => fr b j (by omega) (by omega))
    · by_cases y : b = 74 ∧ j = 1
      · obtain ⟨y1, y2⟩ := y
        subst y1 y2
        rw [wr_eq]
        exact Or.inr (f1 0 16 (by omega))
      · exact Or.inl (fr b j (by omega) y)
    · intro x hx n h1 h4 w hw
      rw [wr_n (by omega)]
      exact b1 x (by omega) n h1 h4 w (by omega)
    · rw [wr_eq, fr 0 16 (by omega) (by omega)]; exact f1 0 16 (by omega)
theorem g_Voc_sizeOfSet {x n : Nat} {P : Nat → Prop} (hx : x < 62) (h1 : 1 ≤ n) (h4 : n ≤ 4) (h : ∀ w, w < vof (n + 1) - vof n → δ 75 (27 * x + (vof n + w)) = vb (fun b => P (64 * w + b))) (hQ : Q [vv_I ((cn (64 * (vof (n + 1) - vof n)) P : Nat) : Int)] go_φ δ) :
    Go E (d + 1) (0, 0) mx_X10_sizeOfSet go_φ 0 [(0, vv_A 74), (1, vv_I (x : Int)), (2, vv_I (n : Int))] [] δ Q := by
  have l75 : go_ln 75 = 1674 := rfl
  obtain ⟨vn1, vn2⟩ := vof_up (show n < 5 by omega)
  have loop := lp_up (X := Unit) (hi := vof (n + 1) - vof n) (I := fun _ _ => True)
    (G := fun w _ => Go E (d + 1) (0, 0) mx_X10_sizeOfSet go_φ 22 [(0, vv_A 74), (1, vv_I (x : Int)), (2, vv_I (n : Int)), (3, vv_I ((cn (64 * w) P : Nat) : Int)), (4, vv_I (vof (n + 1) : Int)), (5, vv_I ((vof n + w : Nat) : Int))] [] δ Q)
    (fun w _ hw _ ih => by
      have ea := cn_app P (64 * w) 64
      rw [show 64 * w + 64 = 64 * (w + 1) by omega] at ea
      refine go_iload dx_X10_sizeOfSet_22 rfl ?_
      refine go_iload dx_X10_sizeOfSet_24 rfl ?_
      refine go_icmp_ge (tgt := 55) dx_X10_sizeOfSet_26 rfl (by omega) (by omega) (fun c26 => by exact absurd c26 (by omega)) (fun c26 => ?_)
      refine go_iload_n (i := 3) dx_X10_sizeOfSet_29 rfl rfl ?_
      refine go_aload_n (i := 0) dx_X10_sizeOfSet_30 rfl rfl ?_
      refine go_getA (b := 75) fs_X10_11 rfl (go_ok rfl rfl) rfl dx_X10_sizeOfSet_31 ?_
      refine go_iload_n (i := 1) dx_X10_sizeOfSet_34 rfl rfl ?_
      refine go_bipush dx_X10_sizeOfSet_35 rfl ?_
      refine go_imul dx_X10_sizeOfSet_37 ?_
      refine go_iload dx_X10_sizeOfSet_38 rfl ?_
      refine go_iadd dx_X10_sizeOfSet_40 ?_
      refine go_cS2 ss_X10_57 dx_X10_sizeOfSet_41 (Nat.le_of_ble_eq_true rfl) (Nat.le_of_ble_eq_true rfl) (g_longAtV (i := (27 * x + (vof n + w))) (v := (vb (fun b => P (64 * w + b)))) (go_ok rfl rfl) (by omega) (show (27 * x + (vof n + w)) < 1674 by omega) (by exact h w hw) ?_)
      refine go_cS1 ss_X10_71 dx_X10_sizeOfSet_44 (Nat.le_of_ble_eq_true rfl) (Nat.le_of_ble_eq_true rfl) (g_bitCountV ?_)
      refine go_iadd dx_X10_sizeOfSet_47 ?_
      refine go_asI (y := ((cn (64 * (w + 1)) P : Nat) : Int)) (by omega) ?_
      refine go_istore_n (i := 3) (lv' := [(0, vv_A 74), (1, vv_I (x : Int)), (2, vv_I (n : Int)), (3, vv_I ((cn (64 * (w + 1)) P : Nat) : Int)), (4, vv_I (vof (n + 1) : Int)), (5, vv_I ((vof n + w : Nat) : Int))]) dx_X10_sizeOfSet_48 rfl (by decide) rfl ?_
      refine go_iinc (lv' := [(0, vv_A 74), (1, vv_I (x : Int)), (2, vv_I (n : Int)), (3, vv_I ((cn (64 * (w + 1)) P : Nat) : Int)), (4, vv_I (vof (n + 1) : Int)), (5, vv_I (((vof n + w : Nat) : Int) + 1))]) dx_X10_sizeOfSet_49 rfl (by decide) rfl ?_
      refine go_goto (tgt := 22) dx_X10_sizeOfSet_52 rfl ?_
      exact ih () trivial
    ) (fun _ _ => by
      refine go_iload dx_X10_sizeOfSet_22 rfl ?_
      refine go_iload dx_X10_sizeOfSet_24 rfl ?_
      refine go_icmp_ge (tgt := 55) dx_X10_sizeOfSet_26 rfl (by omega) (by omega) (fun c26 => ?_) (fun c26 => by exact absurd c26 (by omega))
      refine go_iload_n (i := 3) dx_X10_sizeOfSet_55 rfl rfl ?_
      refine go_ireturn dx_X10_sizeOfSet_56 rfl (Nat.le_refl _) (Nat.le_refl _) ?_
      exact hQ
    )
  refine go_iconst dx_X10_sizeOfSet_0 ?_
  refine go_istore_n (i := 3) (lv' := [(0, vv_A 74), (1, vv_I (x : Int)), (2, vv_I (n : Int)), (3, vv_I 0)]) dx_X10_sizeOfSet_1 rfl (by decide) rfl ?_
  refine go_getstatic1 sx_X10_45 dx_X10_sizeOfSet_2 ?_
  refine go_iload_n (i := 2) dx_X10_sizeOfSet_5 rfl rfl ?_
  refine go_iconst dx_X10_sizeOfSet_6 ?_
  refine go_iadd dx_X10_sizeOfSet_7 ?_
  refine go_asI (y := ((n + 1 : Nat) : Int)) (by rfl) ?_
  refine go_cS2 ss_X10_29 dx_X10_sizeOfSet_8 (Nat.le_of_ble_eq_true rfl) (Nat.le_of_ble_eq_true rfl) (g_intAtS1 (by omega) ?_)
  refine go_istore (lv' := [(0, vv_A 74), (1, vv_I (x : Int)), (2, vv_I (n : Int)), (3, vv_I 0), (4, vv_I (vof (n + 1) : Int))]) dx_X10_sizeOfSet_11 (by decide) rfl ?_
  refine go_getstatic1 sx_X10_45 dx_X10_sizeOfSet_13 ?_
  refine go_iload_n (i := 2) dx_X10_sizeOfSet_16 rfl rfl ?_
  refine go_cS2 ss_X10_29 dx_X10_sizeOfSet_17 (Nat.le_of_ble_eq_true rfl) (Nat.le_of_ble_eq_true rfl) (g_intAtS1 (by omega) ?_)
  refine go_istore (lv' := [(0, vv_A 74), (1, vv_I (x : Int)), (2, vv_I (n : Int)), (3, vv_I 0), (4, vv_I (vof (n + 1) : Int)), (5, vv_I (vof n : Int))]) dx_X10_sizeOfSet_20 (by decide) rfl ?_
  exact loop 0 () (Nat.zero_le _) trivial
theorem g_Voc_letterOfFirst {x n i : Nat} {P : Nat → Prop} (hx : x < 62) (h1 : 1 ≤ n) (h4 : n ≤ 4) (hi : i < n) (hPb : ∀ v, P v → v < 64 * (vof (n + 1) - vof n)) (h : ∀ w, w < vof (n + 1) - vof n → δ 75 (27 * x + (vof n + w)) = vb (fun b => P (64 * w + b)))
    (hQ0 : (∀ v, ¬ P v) → Q [vv_I (-1)] go_φ δ) (hQ1 : ∀ v, P v → (∀ m, P m → v ≤ m) → Q [vv_I ((8 + v / 6 ^ (n - 1 - i) % 6 : Nat) : Int)] go_φ δ) :
    Go E (d + 2) (0, 0) mx_X10_letterOfFirst go_φ 0 [(0, vv_A 74), (1, vv_I (x : Int)), (2, vv_I (n : Int)), (3, vv_I (i : Int))] [] δ Q := by
  have l75 : go_ln 75 = 1674 := rfl
  obtain ⟨vn1, vn2⟩ := vof_up (show n < 5 by omega)
  have N1 : 0 < 6 ^ (n - 1 - i) := Nat.pow_pos (by decide)
  have N2 : 6 ^ (n - 1 - i) ≤ 6 ^ 3 := Nat.pow_le_pow_right (by decide) (by omega)
  obtain ⟨N, eN⟩ : ∃ N, N = 6 ^ (n - 1 - i) := ⟨_, rfl⟩
  rw [← eN] at hQ1 N1 N2
  have N2 : N ≤ 216 := N2
  have loop := lp_up (X := Unit) (hi := vof (n + 1) - vof n) (I := fun w _ => ∀ v, v < 64 * w → ¬ P v)
    (G := fun w _ => Go E (d + 2) (0, 0) mx_X10_letterOfFirst go_φ 24 [(0, vv_A 74), (1, vv_I (x : Int)), (2, vv_I (n : Int)), (3, vv_I (i : Int)), (4, vv_I (vof n : Int)), (5, vv_I (vof (n + 1) : Int)), (6, vv_I ((vof n + w : Nat) : Int))] [] δ Q)
    (fun w _ hw hI ih => by
      have hiL := vb_iL (fun b => P (64 * w + b))
      by_cases hz : ∀ b, b < 64 → ¬ P (64 * w + b)
      · have hz0 := vb_z.mpr hz
        refine go_iload dx_X10_letterOfFirst_24 rfl ?_
        refine go_iload dx_X10_letterOfFirst_26 rfl ?_
        refine go_icmp_ge (tgt := 110) dx_X10_letterOfFirst_28 rfl (by omega) (by omega) (fun c28 => by exact absurd c28 (by omega)) (fun c28 => ?_)
        refine go_aload_n (i := 0) dx_X10_letterOfFirst_31 rfl rfl ?_
        refine go_getA (b := 75) fs_X10_11 rfl (go_ok rfl rfl) rfl dx_X10_letterOfFirst_32 ?_
        refine go_iload_n (i := 1) dx_X10_letterOfFirst_35 rfl rfl ?_
        refine go_bipush dx_X10_letterOfFirst_36 rfl ?_
        refine go_imul dx_X10_letterOfFirst_38 ?_
        refine go_iload dx_X10_letterOfFirst_39 rfl ?_
        refine go_iadd dx_X10_letterOfFirst_41 ?_
        refine go_cS2 ss_X10_57 dx_X10_letterOfFirst_42 (Nat.le_of_ble_eq_true rfl) (Nat.le_of_ble_eq_true rfl) (g_longAtV (i := (27 * x + (vof n + w))) (v := 0) (go_ok rfl rfl) (by omega) (show (27 * x + (vof n + w)) < 1674 by omega) (by rw [h w hw]; exact hz0) ?_)
        refine go_lstore (lv' := [(0, vv_A 74), (1, vv_I (x : Int)), (2, vv_I (n : Int)), (3, vv_I (i : Int)), (4, vv_I (vof n : Int)), (5, vv_I (vof (n + 1) : Int)), (6, vv_I ((vof n + w : Nat) : Int)), (7, vv_L 0)]) dx_X10_letterOfFirst_45 (by decide) rfl ?_
        refine go_lload dx_X10_letterOfFirst_47 rfl ?_
        refine go_lconst (x := 0) dx_X10_letterOfFirst_49 rfl ?_
        refine go_lcmp_eq (tgt := 104) dx_X10_letterOfFirst_50 dx_X10_letterOfFirst_51 rfl (by omega) (by omega) (fun c50 => ?_) (fun c50 => by exact absurd rfl c50)
        refine go_iinc (lv' := [(0, vv_A 74), (1, vv_I (x : Int)), (2, vv_I (n : Int)), (3, vv_I (i : Int)), (4, vv_I (vof n : Int)), (5, vv_I (vof (n + 1) : Int)), (6, vv_I (((vof n + w : Nat) : Int) + 1)), (7, vv_L 0)]) dx_X10_letterOfFirst_104 rfl (by decide) rfl ?_
        refine go_goto (tgt := 24) dx_X10_letterOfFirst_107 rfl ?_
        refine go_keep [0, 1, 2, 3, 4, 5, 6] rfl ?_
        exact ih () (fun v hv => by
          by_cases e : v < 64 * w
          · exact hI v e
          · have := hz (v - 64 * w) (by omega)
            rw [show 64 * w + (v - 64 * w) = v by omega] at this
            exact this)
      · have hnz : vb (fun b => P (64 * w + b)) ≠ 0 := fun q => hz (vb_z.mp q)
        obtain ⟨t0, ht0⟩ : ∃ t, t < 64 ∧ P (64 * w + t) := Classical.byContradiction (fun q => hz (fun b hb hp => q ⟨b, hb, hp⟩))
        obtain ⟨t, ⟨ht, hp⟩, hmin⟩ := mn_ex (P := fun t => t < 64 ∧ P (64 * w + t)) ht0
        have hl : ∀ k, k < t → ¬ P (64 * w + k) := fun k hk q => by
          have := hmin k ⟨by omega, q⟩
          omega
        have hQ := hQ1 (64 * w + t) hp (fun m hm => by
          refine Nat.le_of_not_lt (fun q => ?_)
          by_cases e : m < 64 * w
          · exact hI m e hm
          · refine hl (m - 64 * w) (by omega) ?_
            rw [show 64 * w + (m - 64 * w) = m by omega]
            exact hm)
        have hd : (64 * w + t) / N ≤ 64 * w + t := Nat.div_le_self _ _
        obtain ⟨z, ez⟩ : ∃ z, z = (64 * w + t) / N := ⟨_, rfl⟩
        rw [← ez] at hd hQ
        refine go_iload dx_X10_letterOfFirst_24 rfl ?_
        refine go_iload dx_X10_letterOfFirst_26 rfl ?_
        refine go_icmp_ge (tgt := 110) dx_X10_letterOfFirst_28 rfl (by omega) (by omega) (fun c28 => by exact absurd c28 (by omega)) (fun c28 => ?_)
        refine go_aload_n (i := 0) dx_X10_letterOfFirst_31 rfl rfl ?_
        refine go_getA (b := 75) fs_X10_11 rfl (go_ok rfl rfl) rfl dx_X10_letterOfFirst_32 ?_
        refine go_iload_n (i := 1) dx_X10_letterOfFirst_35 rfl rfl ?_
        refine go_bipush dx_X10_letterOfFirst_36 rfl ?_
        refine go_imul dx_X10_letterOfFirst_38 ?_
        refine go_iload dx_X10_letterOfFirst_39 rfl ?_
        refine go_iadd dx_X10_letterOfFirst_41 ?_
        refine go_cS2 ss_X10_57 dx_X10_letterOfFirst_42 (Nat.le_of_ble_eq_true rfl) (Nat.le_of_ble_eq_true rfl) (g_longAtV (i := (27 * x + (vof n + w))) (v := (vb (fun b => P (64 * w + b)))) (go_ok rfl rfl) (by omega) (show (27 * x + (vof n + w)) < 1674 by omega) (by exact h w hw) ?_)
        refine go_lstore (lv' := [(0, vv_A 74), (1, vv_I (x : Int)), (2, vv_I (n : Int)), (3, vv_I (i : Int)), (4, vv_I (vof n : Int)), (5, vv_I (vof (n + 1) : Int)), (6, vv_I ((vof n + w : Nat) : Int)), (7, vv_L (vb (fun b => P (64 * w + b))))]) dx_X10_letterOfFirst_45 (by decide) rfl ?_
        refine go_lload dx_X10_letterOfFirst_47 rfl ?_
        refine go_lconst (x := 0) dx_X10_letterOfFirst_49 rfl ?_
        refine go_lcmp_eq (tgt := 104) dx_X10_letterOfFirst_50 dx_X10_letterOfFirst_51 rfl (by first | omega | (exact hiL)) (by first | omega | (exact hiL)) (fun c50 => by exact absurd c50 hnz) (fun c50 => ?_)
        refine go_bipush dx_X10_letterOfFirst_54 rfl ?_
        refine go_iload dx_X10_letterOfFirst_56 rfl ?_
        refine go_iload dx_X10_letterOfFirst_58 rfl ?_
        refine go_isub dx_X10_letterOfFirst_60 ?_
        refine go_asI (y := (w : Int)) (by omega) ?_
        refine go_imul dx_X10_letterOfFirst_61 ?_
        refine go_asI (y := ((64 * w : Nat) : Int)) (by omega) ?_
        refine go_lload dx_X10_letterOfFirst_62 rfl ?_
        refine go_cS1 ss_X10_77 dx_X10_letterOfFirst_64 (Nat.le_of_ble_eq_true rfl) (Nat.le_of_ble_eq_true rfl) (g_ctzV ht hp hl ?_)
        refine go_iadd dx_X10_letterOfFirst_67 ?_
        refine go_asI (y := ((64 * w + t : Nat) : Int)) (by rfl) ?_
        refine go_istore (lv' := [(0, vv_A 74), (1, vv_I (x : Int)), (2, vv_I (n : Int)), (3, vv_I (i : Int)), (4, vv_I (vof n : Int)), (5, vv_I (vof (n + 1) : Int)), (6, vv_I ((vof n + w : Nat) : Int)), (7, vv_L (vb (fun b => P (64 * w + b)))), (9, vv_I ((64 * w + t : Nat) : Int))]) dx_X10_letterOfFirst_68 (by decide) rfl ?_
        refine go_getstatic2 sx_X10_54 dx_X10_letterOfFirst_70 ?_
        refine go_iload_n (i := 2) dx_X10_letterOfFirst_73 rfl rfl ?_
        refine go_iconst dx_X10_letterOfFirst_74 ?_
        refine go_isub dx_X10_letterOfFirst_75 ?_
        refine go_iload_n (i := 3) dx_X10_letterOfFirst_76 rfl rfl ?_
        refine go_isub dx_X10_letterOfFirst_77 ?_
        refine go_asI (y := ((n - 1 - i : Nat) : Int)) (by omega) ?_
        refine go_cS2 ss_X10_29 dx_X10_letterOfFirst_78 (Nat.le_of_ble_eq_true rfl) (Nat.le_of_ble_eq_true rfl) (g_intAtS2 (by omega) ?_)
        refine go_asI (y := (N : Int)) (by rw [eN]) ?_
        refine go_istore (lv' := [(0, vv_A 74), (1, vv_I (x : Int)), (2, vv_I (n : Int)), (3, vv_I (i : Int)), (4, vv_I (vof n : Int)), (5, vv_I (vof (n + 1) : Int)), (6, vv_I ((vof n + w : Nat) : Int)), (7, vv_L (vb (fun b => P (64 * w + b)))), (9, vv_I ((64 * w + t : Nat) : Int)), (10, vv_I (N : Int))]) dx_X10_letterOfFirst_81 (by decide) rfl ?_
        refine go_iload dx_X10_letterOfFirst_83 rfl ?_
        refine go_if_le (tgt := 102) dx_X10_letterOfFirst_85 rfl (by omega) (fun c85 => by exact absurd c85 (by omega)) (fun c85 => ?_)
        refine go_bipush dx_X10_letterOfFirst_88 rfl ?_
        refine go_iload dx_X10_letterOfFirst_90 rfl ?_
        refine go_iload dx_X10_letterOfFirst_92 rfl ?_
        refine go_idiv dx_X10_letterOfFirst_94 (by omega) (by omega) (by omega) (by omega) ?_
        refine go_asI (y := (z : Int)) (by rw [ez]; rfl) ?_
        refine go_bipush dx_X10_letterOfFirst_95 rfl ?_
        refine go_irem dx_X10_letterOfFirst_97 (by omega) (by omega) (by omega) (by omega) ?_
        refine go_asI (y := ((z % 6 : Nat) : Int)) (by rfl) ?_
        refine go_iadd dx_X10_letterOfFirst_98 ?_
        refine go_asI (y := ((8 + z % 6 : Nat) : Int)) (by rfl) ?_
        refine go_goto (tgt := 103) dx_X10_letterOfFirst_99 rfl ?_
        refine go_ireturn dx_X10_letterOfFirst_103 rfl (Nat.le_refl _) (Nat.le_refl _) ?_
        exact hQ
    ) (fun _ hI => by
      refine go_iload dx_X10_letterOfFirst_24 rfl ?_
      refine go_iload dx_X10_letterOfFirst_26 rfl ?_
      refine go_icmp_ge (tgt := 110) dx_X10_letterOfFirst_28 rfl (by omega) (by omega) (fun c28 => ?_) (fun c28 => by exact absurd c28 (by omega))
      refine go_iconst dx_X10_letterOfFirst_110 ?_
      refine go_ireturn dx_X10_letterOfFirst_111 rfl (Nat.le_refl _) (Nat.le_refl _) ?_
      exact hQ0 (fun v hv => hI v (hPb v hv) hv)
    )
  refine go_getstatic1 sx_X10_45 dx_X10_letterOfFirst_0 ?_
  refine go_iload_n (i := 2) dx_X10_letterOfFirst_3 rfl rfl ?_
  refine go_cS2 ss_X10_29 dx_X10_letterOfFirst_4 (Nat.le_of_ble_eq_true rfl) (Nat.le_of_ble_eq_true rfl) (g_intAtS1 (by omega) ?_)
  refine go_istore (lv' := [(0, vv_A 74), (1, vv_I (x : Int)), (2, vv_I (n : Int)), (3, vv_I (i : Int)), (4, vv_I (vof n : Int))]) dx_X10_letterOfFirst_7 (by decide) rfl ?_
  refine go_getstatic1 sx_X10_45 dx_X10_letterOfFirst_9 ?_
  refine go_iload_n (i := 2) dx_X10_letterOfFirst_12 rfl rfl ?_
  refine go_iconst dx_X10_letterOfFirst_13 ?_
  refine go_iadd dx_X10_letterOfFirst_14 ?_
  refine go_asI (y := ((n + 1 : Nat) : Int)) (by rfl) ?_
  refine go_cS2 ss_X10_29 dx_X10_letterOfFirst_15 (Nat.le_of_ble_eq_true rfl) (Nat.le_of_ble_eq_true rfl) (g_intAtS1 (by omega) ?_)
  refine go_istore (lv' := [(0, vv_A 74), (1, vv_I (x : Int)), (2, vv_I (n : Int)), (3, vv_I (i : Int)), (4, vv_I (vof n : Int)), (5, vv_I (vof (n + 1) : Int))]) dx_X10_letterOfFirst_18 (by decide) rfl ?_
  refine go_iload dx_X10_letterOfFirst_20 rfl ?_
  refine go_istore (lv' := [(0, vv_A 74), (1, vv_I (x : Int)), (2, vv_I (n : Int)), (3, vv_I (i : Int)), (4, vv_I (vof n : Int)), (5, vv_I (vof (n + 1) : Int)), (6, vv_I (vof n : Int))]) dx_X10_letterOfFirst_22 (by decide) rfl ?_
  exact loop 0 () (Nat.zero_le _) (fun v hv => absurd hv (Nat.not_lt_zero _))
theorem vo_row {R : Nat → List Nat} (h : vo_at δ R) {x n : Nat} (hx : x < 14) (h1 : 1 ≤ n) (h4 : n ≤ 4) : ∀ w, w < vof (n + 1) - vof n → δ 75 (27 * x + (vof n + w)) = vb (fun b => 64 * w + b < 6 ^ n ∧ dx R x (wdn n (64 * w + b))) := fun w hw => h x (by omega) n h1 h4 w (by omega)
theorem x_words {n : Int} (hn : go_iI n) (h : xk_at Tm δ S) (hQ : ∀ δ', xk_at Tm δ' S → fc δ δ' → Q [vv_I (oq_words S.1 n)] go_φ δ') : Go E (d + 12) (0, 0) mx_X11_words go_φ 0 [(0, vv_A 0), (1, vv_I n)] [] δ Q := by
  unfold oq_words at hQ
  by_cases hb : n < 1 ∨ 4 < n
  · have hQ := hQ δ h fc_rf
    rw [if_pos hb] at hQ
    have tell : Go E (d + 12) (0, 0) mx_X11_words go_φ 10 [(0, vv_A 0), (1, vv_I n)] [] δ Q := by
      refine go_bipush dx_X11_words_10 rfl ?_
      refine go_ireturn dx_X11_words_12 rfl (Nat.le_refl _) (Nat.le_refl _) ?_
      exact hQ
    refine go_iload_n (i := 1) dx_X11_words_0 rfl rfl ?_
    refine go_iconst dx_X11_words_1 ?_
    refine go_icmp_lt (tgt := 10) dx_X11_words_2 rfl (by omega) (by omega) (fun c2 => ?_) (fun c2 => ?_)
    · exact tell
    · refine go_iload_n (i := 1) dx_X11_words_5 rfl rfl ?_
      refine go_iconst dx_X11_words_6 ?_
      refine go_icmp_le (tgt := 13) dx_X11_words_7 rfl (by omega) (by omega) (fun c7 => ?_) (fun c7 => ?_)
      · omega
      · exact tell
  · obtain ⟨m, rfl⟩ : ∃ m : Nat, n = (m : Int) := ⟨n.toNat, by omega⟩
    have h1 : 1 ≤ m := by omega
    have h4 : m ≤ 4 := by omega
    simp only [if_neg hb, Int.toNat_natCast] at hQ
    refine go_iload_n (i := 1) dx_X11_words_0 rfl rfl ?_
    refine go_iconst dx_X11_words_1 ?_
    refine go_icmp_lt (tgt := 10) dx_X11_words_2 rfl (by omega) (by omega) (fun c2 => by exact absurd c2 (by omega)) (fun c2 => ?_)
    refine go_iload_n (i := 1) dx_X11_words_5 rfl rfl ?_
    refine go_iconst dx_X11_words_6 ?_
    refine go_icmp_le (tgt := 13) dx_X11_words_7 rfl (by omega) (by omega) (fun c7 => ?_) (fun c7 => ?_)
    · refine go_aload_n (i := 0) dx_X11_words_13 rfl rfl ?_
      refine go_cV0 sv_X11_183 (go_ok rfl rfl) dx_X11_words_14 (Nat.le_of_ble_eq_true rfl) (Nat.le_of_ble_eq_true rfl) (g_freshen h (fun δ1 hx1 e1 f1 => ?_))
      refine go_aload_n (i := 0) dx_X11_words_17 rfl rfl ?_
      refine go_cV0 sv_X11_352 (go_ok rfl rfl) dx_X11_words_18 (Nat.le_of_ble_eq_true rfl) (Nat.le_of_ble_eq_true rfl) (g_readyVocabulary hx1 e1 (fun δ2 hx2 r2 f2 => ?_))
      have htd := hx2.1.1
      have et := htd.2.1
      have ht8 := htd.2.2.2.2.2.2.2.1
      have hvo := hx2.2.2.2.2.2.2.2.2.2.2 r2
      have hQ := hQ δ2 hx2 (fc_tr f1 (fun b hb j => f2 b j (by omega)))
      refine go_aload_n (i := 0) dx_X11_words_21 rfl rfl ?_
      refine go_getA (b := 74) fs_X11_91 rfl (go_ok rfl rfl) rfl dx_X11_words_22 ?_
      refine go_aload_n (i := 0) dx_X11_words_25 rfl rfl ?_
      refine go_getA (b := 3) fs_X11_19 rfl (go_ok rfl rfl) rfl dx_X11_words_26 ?_
      refine go_getI fs_X11_170 (Or.inl rfl) (go_ok rfl rfl) dx_X11_words_29 ?_
      refine go_asI (y := (S.1.2.1 : Int)) (by exact et) ?_
      refine go_iload_n (i := 1) dx_X11_words_32 rfl rfl ?_
      refine go_cV2 sv_X11_355 (go_ok rfl rfl) dx_X11_words_33 (Nat.le_of_ble_eq_true rfl) (Nat.le_of_ble_eq_true rfl) (g_Voc_sizeOfSet (P := fun v => v < 6 ^ m ∧ dx S.1.1 S.1.2.1 (wdn m v)) (by omega) h1 h4 (vo_row hvo (by omega) h1 h4) ?_)
      refine go_ireturn dx_X11_words_36 rfl (Nat.le_refl _) (Nat.le_refl _) ?_
      rw [cn_cut (vof_pow h1 h4)]
      exact hQ
    · omega
theorem x_first {n i : Int} (hn : go_iI n) (hi : go_iI i) (h : xk_at Tm δ S) (hQ : ∀ δ', xk_at Tm δ' S → fc δ δ' → Q [vv_I (oq_first S.1 n i)] go_φ δ') : Go E (d + 12) (0, 0) mx_X11_first go_φ 0 [(0, vv_A 0), (1, vv_I n), (2, vv_I i)] [] δ Q := by
  unfold oq_first at hQ
  by_cases hb : n < 1 ∨ 4 < n ∨ i < 0
  · have hQ := hQ δ h fc_rf
    rw [if_pos hb] at hQ
    have tell : Go E (d + 12) (0, 0) mx_X11_first go_φ 14 [(0, vv_A 0), (1, vv_I n), (2, vv_I i)] [] δ Q := by
      refine go_bipush dx_X11_first_14 rfl ?_
      refine go_ireturn dx_X11_first_16 rfl (Nat.le_refl _) (Nat.le_refl _) ?_
      exact hQ
    refine go_iload_n (i := 1) dx_X11_first_0 rfl rfl ?_
    refine go_iconst dx_X11_first_1 ?_
    refine go_icmp_lt (tgt := 14) dx_X11_first_2 rfl (by omega) (by omega) (fun c2 => ?_) (fun c2 => ?_)
    · exact tell
    · refine go_iload_n (i := 1) dx_X11_first_5 rfl rfl ?_
      refine go_iconst dx_X11_first_6 ?_
      refine go_icmp_gt (tgt := 14) dx_X11_first_7 rfl (by omega) (by omega) (fun c7 => ?_) (fun c7 => ?_)
      · exact tell
      · refine go_iload_n (i := 2) dx_X11_first_10 rfl rfl ?_
        refine go_if_ge (tgt := 17) dx_X11_first_11 rfl (by omega) (fun c11 => ?_) (fun c11 => ?_)
        · omega
        · exact tell
  · obtain ⟨m, rfl⟩ : ∃ m : Nat, n = (m : Int) := ⟨n.toNat, by omega⟩
    obtain ⟨j, rfl⟩ : ∃ j : Nat, i = (j : Int) := ⟨i.toNat, by omega⟩
    have h1 : 1 ≤ m := by omega
    have h4 : m ≤ 4 := by omega
    simp only [if_neg hb, Int.toNat_natCast] at hQ
    refine go_iload_n (i := 1) dx_X11_first_0 rfl rfl ?_
    refine go_iconst dx_X11_first_1 ?_
    refine go_icmp_lt (tgt := 14) dx_X11_first_2 rfl (by omega) (by omega) (fun c2 => by exact absurd c2 (by omega)) (fun c2 => ?_)
    refine go_iload_n (i := 1) dx_X11_first_5 rfl rfl ?_
    refine go_iconst dx_X11_first_6 ?_
    refine go_icmp_gt (tgt := 14) dx_X11_first_7 rfl (by omega) (by omega) (fun c7 => by exact absurd c7 (by omega)) (fun c7 => ?_)
    refine go_iload_n (i := 2) dx_X11_first_10 rfl rfl ?_
    refine go_if_ge (tgt := 17) dx_X11_first_11 rfl (by omega) (fun c11 => ?_) (fun c11 => by exact absurd (by omega) c11)
    refine go_aload_n (i := 0) dx_X11_first_17 rfl rfl ?_
    refine go_cV0 sv_X11_183 (go_ok rfl rfl) dx_X11_first_18 (Nat.le_of_ble_eq_true rfl) (Nat.le_of_ble_eq_true rfl) (g_freshen h (fun δ1 hx1 e1 f1 => ?_))
    refine go_aload_n (i := 0) dx_X11_first_21 rfl rfl ?_
    refine go_cV0 sv_X11_352 (go_ok rfl rfl) dx_X11_first_22 (Nat.le_of_ble_eq_true rfl) (Nat.le_of_ble_eq_true rfl) (g_readyVocabulary hx1 e1 (fun δ2 hx2 r2 f2 => ?_))
    have htd := hx2.1.1
    have et := htd.2.1
    have ht8 := htd.2.2.2.2.2.2.2.1
    have hvo := hx2.2.2.2.2.2.2.2.2.2.2 r2
    have hQ := hQ δ2 hx2 (fc_tr f1 (fun b hb j => f2 b j (by omega)))
    have hp := vof_pow h1 h4
    refine go_iload_n (i := 2) dx_X11_first_25 rfl rfl ?_
    refine go_iload_n (i := 1) dx_X11_first_26 rfl rfl ?_
    refine go_icmp_ge (tgt := 49) dx_X11_first_27 rfl (by omega) (by omega) (fun c27 => ?_) (fun c27 => ?_)
    · refine go_iconst dx_X11_first_49 ?_
      refine go_ireturn dx_X11_first_50 rfl (Nat.le_refl _) (Nat.le_refl _) ?_
      rw [if_pos (by omega)] at hQ
      exact hQ
    · refine go_aload_n (i := 0) dx_X11_first_30 rfl rfl ?_
      refine go_getA (b := 74) fs_X11_91 rfl (go_ok rfl rfl) rfl dx_X11_first_31 ?_
      refine go_aload_n (i := 0) dx_X11_first_34 rfl rfl ?_
      refine go_getA (b := 3) fs_X11_19 rfl (go_ok rfl rfl) rfl dx_X11_first_35 ?_
      refine go_getI fs_X11_170 (Or.inl rfl) (go_ok rfl rfl) dx_X11_first_38 ?_
      refine go_asI (y := (S.1.2.1 : Int)) (by exact et) ?_
      refine go_iload_n (i := 1) dx_X11_first_41 rfl rfl ?_
      refine go_iload_n (i := 2) dx_X11_first_42 rfl rfl ?_
      refine go_cV3 sv_X11_358 (go_ok rfl rfl) dx_X11_first_43 (Nat.le_of_ble_eq_true rfl) (Nat.le_of_ble_eq_true rfl) (g_Voc_letterOfFirst (P := fun v => v < 6 ^ m ∧ dx S.1.1 S.1.2.1 (wdn m v)) (by omega) h1 h4 (by omega) (fun v hv => Nat.lt_of_lt_of_le hv.1 hp) (vo_row hvo (by omega) h1 h4) (fun hno => ?_) (fun v hv hmin => ?_))
      · refine go_goto (tgt := 50) dx_X11_first_46 rfl ?_
        refine go_ireturn dx_X11_first_50 rfl (Nat.le_refl _) (Nat.le_refl _) ?_
        rw [if_neg (by omega), cif_t (li_f hno)] at hQ
        exact hQ
      · refine go_goto (tgt := 50) dx_X11_first_46 rfl ?_
        refine go_ireturn dx_X11_first_50 rfl (Nat.le_refl _) (Nat.le_refl _) ?_
        have el := li_t hv hmin
        rw [if_neg (by omega), cif_f (by rw [el]; omega), el, Int.toNat_natCast, List.getD_eq_getElem?_getD, wdn_get m v j (by omega)] at hQ
        exact hQ
end GXWORDS
