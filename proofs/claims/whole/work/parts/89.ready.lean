/-! what the class makes ready -/
section GRDY
variable {E : go_E} {d : Nat} {δ : Nat → Nat → Int} {Q : List go_V → go_F → (Nat → Nat → Int) → Prop} {S : sS} {Tm : Int}
theorem g_readyRounds (h : xk_at Tm δ S) (hf : δ 0 17 = δ 0 16) (hQ : ∀ δ', xk_at Tm δ' S → δ' 0 17 = δ' 0 16 → δ' 49 6 = δ' 0 16 → (∀ b j, ¬ (49 ≤ b ∧ b ≤ 51) → δ' b j = δ b j) → Q [] go_φ δ') : Go E (d + 6) (0, 0) mx_X11_readyRounds go_φ 0 [(0, vv_A 0)] [] δ Q := by
  obtain ⟨a1, a2, a3, a4, a5, a6, a7, a8, a9, a10, a11⟩ := id h
  have htd := a1.1
  have hst := a2.1
  have hs := a2.2.2.1
  unfold kst at hs
  have e3 := htd.2.2.2.1
  have h14 := htd.2.2.2.2.2.2.2.2.1
  obtain ⟨hb, hm, hc⟩ := a4 hf
  by_cases z : δ 49 6 = δ 0 16
  · refine go_aload_n (i := 0) dx_X11_readyRounds_0 rfl rfl ?_
    refine go_getA (b := 49) fs_X11_51 rfl (go_ok rfl rfl) rfl dx_X11_readyRounds_1 ?_
    refine go_getI fs_X11_408 (Or.inl rfl) (go_ok rfl rfl) dx_X11_readyRounds_4 ?_
    refine go_aload_n (i := 0) dx_X11_readyRounds_7 rfl rfl ?_
    refine go_getI fs_X11_109 (Or.inl rfl) (go_ok rfl rfl) dx_X11_readyRounds_8 ?_
    refine go_icmp_eq (tgt := 39) dx_X11_readyRounds_11 rfl (by omega) (by omega) (fun c11 => ?_) (fun c11 => by exact absurd z c11)
    refine go_vreturn dx_X11_readyRounds_39 rfl (Nat.le_refl _) (Nat.le_refl _) ?_
    exact hQ δ h hf z (fun _ _ _ => rfl)
  · refine go_aload_n (i := 0) dx_X11_readyRounds_0 rfl rfl ?_
    refine go_getA (b := 49) fs_X11_51 rfl (go_ok rfl rfl) rfl dx_X11_readyRounds_1 ?_
    refine go_getI fs_X11_408 (Or.inl rfl) (go_ok rfl rfl) dx_X11_readyRounds_4 ?_
    refine go_aload_n (i := 0) dx_X11_readyRounds_7 rfl rfl ?_
    refine go_getI fs_X11_109 (Or.inl rfl) (go_ok rfl rfl) dx_X11_readyRounds_8 ?_
    refine go_icmp_eq (tgt := 39) dx_X11_readyRounds_11 rfl (by omega) (by omega) (fun c11 => by exact absurd c11 z) (fun c11 => ?_)
    refine go_aload_n (i := 0) dx_X11_readyRounds_14 rfl rfl ?_
    refine go_getA (b := 49) fs_X11_51 rfl (go_ok rfl rfl) rfl dx_X11_readyRounds_15 ?_
    refine go_aload_n (i := 0) dx_X11_readyRounds_18 rfl rfl ?_
    refine go_getA (b := 3) fs_X11_19 rfl (go_ok rfl rfl) rfl dx_X11_readyRounds_19 ?_
    refine go_getI fs_X11_239 (Or.inl rfl) (go_ok rfl rfl) dx_X11_readyRounds_22 ?_
    refine go_asI (y := (S.1.2.2.length : Int)) (by exact e3) ?_
    refine go_cV1 sv_X11_409 (go_ok rfl rfl) dx_X11_readyRounds_25 (Nat.le_of_ble_eq_true rfl) (Nat.le_of_ble_eq_true rfl) (g_Rounds_fillAll hb hc htd (by have := a3; unfold kno at this; omega) (by have := a3; unfold kno at this; omega) (fun δ1 b1 f1 => ?_))
    have fr : ∀ b j, b ≠ 50 → b ≠ 51 → ¬ (b = 49 ∧ j = 6) → wr δ1 49 6 (δ1 0 16) b j = δ b j := fun b j h1 h2 h3 => by rw [wr_n (by omega)]; exact f1 b j h1 h2
    refine go_aload_n (i := 0) dx_X11_readyRounds_28 rfl rfl ?_
    refine go_getA (b := 49) fs_X11_51 rfl (go_ok rfl rfl) rfl dx_X11_readyRounds_29 ?_
    refine go_aload_n (i := 0) dx_X11_readyRounds_32 rfl rfl ?_
    refine go_getI fs_X11_109 (Or.inl rfl) (go_ok rfl rfl) dx_X11_readyRounds_33 ?_
    refine go_putI fp_X11_408 rfl rfl (go_ok rfl rfl) dx_X11_readyRounds_36 ?_
    refine go_vreturn dx_X11_readyRounds_39 rfl (Nat.le_refl _) (Nat.le_refl _) ?_
    refine hQ _ ⟨xs_fr a1 (fun b h1 h2 j => fr b j (by omega) (by omega) (by omega)), kts_fr a2 0 0 (fr 0 16 (by omega) (by omega) (by omega)) (fun b j h => ?_), kno_fr a3 (fun b j h => fr b j (by omega) (by omega) (by omega)), k17_fr a4 (fun b j h => fr b j (by omega) (by omega) (by omega)), fun _ => ?_, k52_fr a6 (fun b j h => fr b j (by omega) (by omega) (by omega)), k56_fr a7 (fun b j h => fr b j (by omega) (by omega) (by omega)), k62_fr a8 (fun b j h => fr b j (by omega) (by omega) (by omega)), k67_fr a9 (fun b j h => fr b j (by omega) (by omega) (by omega)), k71_fr a10 (fun b j h => fr b j (by omega) (by omega) (by omega)), k74_fr a11 (fun b j h => fr b j (by omega) (by omega) (by omega))⟩ ?_ ?_ (fun b j hb => fr b j (by omega) (by omega) (by omega))
    · by_cases y : b = 49 ∧ j = 6
      · obtain ⟨y1, y2⟩ := y
        subst y1 y2
        rw [wr_eq]
        exact Or.inr (f1 0 16 (by omega) (by omega))
      · exact Or.inl (fr b j (by omega) (by omega) y)
    · exact fun i j a b c x hx => by rw [wr_n (by omega)]; exact b1 i j a b c x hx
    · rw [fr 0 17 (by omega) (by omega) (by omega), fr 0 16 (by omega) (by omega) (by omega)]; exact hf
    · rw [wr_eq, fr 0 16 (by omega) (by omega) (by omega)]; exact f1 0 16 (by omega) (by omega)
theorem g_readyForest (h : xk_at Tm δ S) (hf : δ 0 17 = δ 0 16) (hQ : ∀ δ', xk_at Tm δ' S → δ' 0 17 = δ' 0 16 → δ' 52 6 = δ' 0 16 → (∀ b j, ¬ (52 ≤ b ∧ b ≤ 55) → δ' b j = δ b j) → Q [] go_φ δ') : Go E (d + 6) (0, 0) mx_X11_readyForest go_φ 0 [(0, vv_A 0)] [] δ Q := by
  obtain ⟨a1, a2, a3, a4, a5, a6, a7, a8, a9, a10, a11⟩ := id h
  have htd := a1.1
  have hd : dstn S.1.1 := htd.2.2.2.2.2.2.1
  have hst := a2.1
  have hs := a2.2.2.2.1
  unfold kst at hs
  have e3 := htd.2.2.2.1
  have h14 := htd.2.2.2.2.2.2.2.2.1
  have hlet := htd.2.2.2.2.2.2.2.2.2
  obtain ⟨hb, hm, hc⟩ := a4 hf
  by_cases z : δ 52 6 = δ 0 16
  · refine go_aload_n (i := 0) dx_X11_readyForest_0 rfl rfl ?_
    refine go_getA (b := 52) fs_X11_60 rfl (go_ok rfl rfl) rfl dx_X11_readyForest_1 ?_
    refine go_getI fs_X11_337 (Or.inl rfl) (go_ok rfl rfl) dx_X11_readyForest_4 ?_
    refine go_aload_n (i := 0) dx_X11_readyForest_7 rfl rfl ?_
    refine go_getI fs_X11_109 (Or.inl rfl) (go_ok rfl rfl) dx_X11_readyForest_8 ?_
    refine go_icmp_eq (tgt := 39) dx_X11_readyForest_11 rfl (by omega) (by omega) (fun c11 => ?_) (fun c11 => by exact absurd z c11)
    refine go_vreturn dx_X11_readyForest_39 rfl (Nat.le_refl _) (Nat.le_refl _) ?_
    exact hQ δ h hf z (fun _ _ _ => rfl)
  · refine go_aload_n (i := 0) dx_X11_readyForest_0 rfl rfl ?_
    refine go_getA (b := 52) fs_X11_60 rfl (go_ok rfl rfl) rfl dx_X11_readyForest_1 ?_
    refine go_getI fs_X11_337 (Or.inl rfl) (go_ok rfl rfl) dx_X11_readyForest_4 ?_
    refine go_aload_n (i := 0) dx_X11_readyForest_7 rfl rfl ?_
    refine go_getI fs_X11_109 (Or.inl rfl) (go_ok rfl rfl) dx_X11_readyForest_8 ?_
    refine go_icmp_eq (tgt := 39) dx_X11_readyForest_11 rfl (by omega) (by omega) (fun c11 => by exact absurd c11 z) (fun c11 => ?_)
    refine go_aload_n (i := 0) dx_X11_readyForest_14 rfl rfl ?_
    refine go_getA (b := 52) fs_X11_60 rfl (go_ok rfl rfl) rfl dx_X11_readyForest_15 ?_
    refine go_aload_n (i := 0) dx_X11_readyForest_18 rfl rfl ?_
    refine go_getA (b := 3) fs_X11_19 rfl (go_ok rfl rfl) rfl dx_X11_readyForest_19 ?_
    refine go_getI fs_X11_239 (Or.inl rfl) (go_ok rfl rfl) dx_X11_readyForest_22 ?_
    refine go_asI (y := (S.1.2.2.length : Int)) (by exact e3) ?_
    refine go_cV1 sv_X11_340 (go_ok rfl rfl) dx_X11_readyForest_25 (Nat.le_of_ble_eq_true rfl) (Nat.le_of_ble_eq_true rfl) (g_Forest_fillAll tb_ok52 tf_ok52 ch_ok44 hb hm hd hc htd a3.2.2.2.2.2.1 a3.2.2.2.2.2.2.1 h14 (fun i c q => hlet c (List.mem_of_getElem? q)) (fun q => by cases q) (fun δ1 b1 f1 => ?_))
    have fr : ∀ b j, b ≠ 53 → b ≠ 54 → b ≠ 55 → ¬ (b = 52 ∧ j = 6) → wr δ1 52 6 (δ1 0 16) b j = δ b j := fun b j h1 h2 h3 h4 => by rw [wr_n (by omega)]; exact f1 b j h1 h2 h3
    have fr2 : ∀ b j, ¬ (53 ≤ b ∧ b ≤ 55) → ¬ (b = 52 ∧ j = 6) → wr δ1 52 6 (δ1 0 16) b j = δ b j := fun b j h1 h2 => fr b j (by omega) (by omega) (by omega) h2
    refine go_aload_n (i := 0) dx_X11_readyForest_28 rfl rfl ?_
    refine go_getA (b := 52) fs_X11_60 rfl (go_ok rfl rfl) rfl dx_X11_readyForest_29 ?_
    refine go_aload_n (i := 0) dx_X11_readyForest_32 rfl rfl ?_
    refine go_getI fs_X11_109 (Or.inl rfl) (go_ok rfl rfl) dx_X11_readyForest_33 ?_
    refine go_putI fp_X11_337 rfl rfl (go_ok rfl rfl) dx_X11_readyForest_36 ?_
    refine go_vreturn dx_X11_readyForest_39 rfl (Nat.le_refl _) (Nat.le_refl _) ?_
    refine hQ _ ⟨xs_fr a1 (fun b h1 h2 j => fr2 b j (by omega) (by omega)), kts_fr a2 0 0 (fr2 0 16 (by omega) (by omega)) (fun b j h => ?_), kno_fr a3 (fun b j h => fr2 b j (by omega) (by omega)), k17_fr a4 (fun b j h => fr2 b j (by omega) (by omega)), k49_fr a5 (fun b j h => fr2 b j (by omega) (by omega)), fun _ => ?_, k56_fr a7 (fun b j h => fr2 b j (by omega) (by omega)), k62_fr a8 (fun b j h => fr2 b j (by omega) (by omega)), k67_fr a9 (fun b j h => fr2 b j (by omega) (by omega)), k71_fr a10 (fun b j h => fr2 b j (by omega) (by omega)), k74_fr a11 (fun b j h => fr2 b j (by omega) (by omega))⟩ ?_ ?_ (fun b j hb => fr2 b j (by omega) (by omega))
    · by_cases y : b = 52 ∧ j = 6
      · obtain ⟨y1, y2⟩ := y
        subst y1 y2
        rw [wr_eq]
        exact Or.inr (f1 0 16 (by omega) (by omega) (by omega))
      · exact Or.inl (fr2 b j (by omega) y)
    · exact tvF_fr b1 (fun c j q => wr_n (by omega))
    · rw [fr2 0 17 (by omega) (by omega), fr2 0 16 (by omega) (by omega)]; exact hf
    · rw [wr_eq, fr2 0 16 (by omega) (by omega)]; exact f1 0 16 (by omega) (by omega) (by omega)
theorem g_readyAnyWord (h : xk_at Tm δ S) (hf : δ 0 17 = δ 0 16) (hQ : ∀ δ', xk_at Tm δ' S → δ' 0 17 = δ' 0 16 → δ' 62 6 = δ' 0 16 → (∀ b j, ¬ (62 ≤ b ∧ b ≤ 64) → δ' b j = δ b j) → Q [] go_φ δ') : Go E (d + 5) (0, 0) mx_X11_readyAnyWord go_φ 0 [(0, vv_A 0)] [] δ Q := by
  obtain ⟨a1, a2, a3, a4, a5, a6, a7, a8, a9, a10, a11⟩ := id h
  have hst := a2.1
  have hs := a2.2.2.2.2.2.1
  unfold kst at hs
  obtain ⟨hb, hm, hc⟩ := a4 hf
  by_cases z : δ 62 6 = δ 0 16
  · refine go_aload_n (i := 0) dx_X11_readyAnyWord_0 rfl rfl ?_
    refine go_getA (b := 62) fs_X11_73 rfl (go_ok rfl rfl) rfl dx_X11_readyAnyWord_1 ?_
    refine go_getI fs_X11_410 (Or.inl rfl) (go_ok rfl rfl) dx_X11_readyAnyWord_4 ?_
    refine go_aload_n (i := 0) dx_X11_readyAnyWord_7 rfl rfl ?_
    refine go_getI fs_X11_109 (Or.inl rfl) (go_ok rfl rfl) dx_X11_readyAnyWord_8 ?_
    refine go_icmp_eq (tgt := 45) dx_X11_readyAnyWord_11 rfl (by omega) (by omega) (fun c11 => ?_) (fun c11 => by exact absurd z c11)
    refine go_vreturn dx_X11_readyAnyWord_45 rfl (Nat.le_refl _) (Nat.le_refl _) ?_
    exact hQ δ h hf z (fun _ _ _ => rfl)
  · refine go_aload_n (i := 0) dx_X11_readyAnyWord_0 rfl rfl ?_
    refine go_getA (b := 62) fs_X11_73 rfl (go_ok rfl rfl) rfl dx_X11_readyAnyWord_1 ?_
    refine go_getI fs_X11_410 (Or.inl rfl) (go_ok rfl rfl) dx_X11_readyAnyWord_4 ?_
    refine go_aload_n (i := 0) dx_X11_readyAnyWord_7 rfl rfl ?_
    refine go_getI fs_X11_109 (Or.inl rfl) (go_ok rfl rfl) dx_X11_readyAnyWord_8 ?_
    refine go_icmp_eq (tgt := 45) dx_X11_readyAnyWord_11 rfl (by omega) (by omega) (fun c11 => by exact absurd c11 z) (fun c11 => ?_)
    refine go_aload_n (i := 0) dx_X11_readyAnyWord_14 rfl rfl ?_
    refine go_getA (b := 62) fs_X11_73 rfl (go_ok rfl rfl) rfl dx_X11_readyAnyWord_15 ?_
    refine go_cV0 sv_X11_413 (go_ok rfl rfl) dx_X11_readyAnyWord_18 (Nat.le_of_ble_eq_true rfl) (Nat.le_of_ble_eq_true rfl) (g_Chart_readAnything ch_ok62 (fun δ1 b1 f1 => ?_))
    refine go_aload_n (i := 0) dx_X11_readyAnyWord_21 rfl rfl ?_
    refine go_getA (b := 62) fs_X11_73 rfl (go_ok rfl rfl) rfl dx_X11_readyAnyWord_22 ?_
    refine go_aload_n (i := 0) dx_X11_readyAnyWord_25 rfl rfl ?_
    refine go_getA (b := 33) fs_X11_33 rfl (go_ok rfl rfl) rfl dx_X11_readyAnyWord_26 ?_
    refine go_bipush dx_X11_readyAnyWord_29 rfl ?_
    refine go_asI (y := ((14 : Nat) : Int)) (by rfl) ?_
    refine go_cV2 sv_X11_301 (go_ok rfl rfl) dx_X11_readyAnyWord_31 (Nat.le_of_ble_eq_true rfl) (Nat.le_of_ble_eq_true rfl) (g_Chart_fill ch_ok62 bi_ok33 (by omega) (bi_fr hb (fun c j h1 h2 => f1 c j (by omega))) (by rw [f1 62 0 (by omega)]; exact a3.2.1) (by decide) b1 (fun i c q => q) (fun _ i c => Iff.rfl) (fun δ2 b2 f2 => ?_))
    have fr : ∀ b j, b ≠ 63 → b ≠ 64 → ¬ (b = 62 ∧ j = 6) → ¬ (b = 62 ∧ j = 5) → wr δ2 62 6 (δ2 0 16) b j = δ b j := fun b j h1 h2 h3 h4 => by rw [wr_n (by omega), f2 b j (by omega) (by omega)]; exact f1 b j (by omega)
    have fr2 : ∀ b j, ¬ (63 ≤ b ∧ b ≤ 64) → ¬ (b = 62 ∧ (j = 5 ∨ j = 6)) → wr δ2 62 6 (δ2 0 16) b j = δ b j := fun b j h1 h2 => fr b j (by omega) (by omega) (by omega) (by omega)
    have e16 : δ2 0 16 = δ 0 16 := by rw [f2 0 16 (by omega) (by omega)]; exact f1 0 16 (by omega)
    refine go_aload_n (i := 0) dx_X11_readyAnyWord_34 rfl rfl ?_
    refine go_getA (b := 62) fs_X11_73 rfl (go_ok rfl rfl) rfl dx_X11_readyAnyWord_35 ?_
    refine go_aload_n (i := 0) dx_X11_readyAnyWord_38 rfl rfl ?_
    refine go_getI fs_X11_109 (Or.inl rfl) (go_ok rfl rfl) dx_X11_readyAnyWord_39 ?_
    refine go_putI fp_X11_410 rfl rfl (go_ok rfl rfl) dx_X11_readyAnyWord_42 ?_
    refine go_vreturn dx_X11_readyAnyWord_45 rfl (Nat.le_refl _) (Nat.le_refl _) ?_
    refine hQ _ ⟨xs_fr a1 (fun b h1 h2 j => fr2 b j (by omega) (by omega)), kts_fr a2 0 0 (fr2 0 16 (by omega) (by omega)) (fun b j h => ?_), kno_fr a3 (fun b j h => fr2 b j (by omega) (by omega)), k17_fr a4 (fun b j h => fr2 b j (by omega) (by omega)), k49_fr a5 (fun b j h => fr2 b j (by omega) (by omega)), k52_fr a6 (fun b j h => fr2 b j (by omega) (by omega)), k56_fr a7 (fun b j h => fr2 b j (by omega) (by omega)), fun _ => ?_, k67_fr a9 (fun b j h => fr2 b j (by omega) (by omega)), k71_fr a10 (fun b j h => fr2 b j (by omega) (by omega)), k74_fr a11 (fun b j h => fr2 b j (by omega) (by omega))⟩ ?_ ?_ (fun b j hb => fr2 b j (by omega) (by omega))
    · by_cases y : b = 62 ∧ j = 6
      · obtain ⟨y1, y2⟩ := y
        subst y1 y2
        rw [wr_eq]
        exact Or.inr e16
      · exact Or.inl (fr2 b j (by omega) (by omega))
    · exact ct_fr b2 (fun c j q => wr_n (by omega))
    · rw [fr2 0 17 (by omega) (by omega), fr2 0 16 (by omega) (by omega)]; exact hf
    · rw [wr_eq, fr2 0 16 (by omega) (by omega)]; exact e16
end GRDY
