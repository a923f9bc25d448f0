/-! the class's calls: changes, changed, lengths, shapes, turned -/
section GXC3
variable {E : go_E} {d : Nat} {δ : Nat → Nat → Int} {Q : List go_V → go_F → (Nat → Nat → Int) → Prop} {S : sS} {R : Nat → List Nat} {Tm : Int}
theorem g_nearestWord (h : xk_at Tm δ S) (hf : δ 0 17 = δ 0 16) (hQ : ∀ δ', xk_at Tm δ' S → fc δ δ' → Q [vv_L (if S.1.2.2.length = 0 then -1 else nvK S.1)] go_φ δ') : Go E (d + 6) (0, 0) mx_X11_nearestWord go_φ 0 [(0, vv_A 0)] [] δ Q := by
  unfold nvK at hQ
  refine go_aload_n (i := 0) dx_X11_nearestWord_0 rfl rfl ?_
  refine go_cV0 sv_X11_332 (go_ok rfl rfl) dx_X11_nearestWord_1 (Nat.le_of_ble_eq_true rfl) (Nat.le_of_ble_eq_true rfl) (g_readyAnyWord h hf (fun δ1 h1 e1 r1 f1 => ?_))
  obtain ⟨a1, a2, a3, a4, a5, a6, a7, a8, a9, a10, a11⟩ := id h1
  have fc1 : fc δ δ1 := fun b hb j => f1 b j (by omega)
  have htd := a1.1
  have hst := a2.1
  have hs := a2.2.2.2.2.2.2.2.1
  unfold kst at hs
  have e3 := htd.2.2.2.1
  have et := htd.2.1
  have ht8 := htd.2.2.2.2.2.2.2.1
  have h14 := htd.2.2.2.2.2.2.2.2.1
  obtain ⟨hb, hm, hc⟩ := a4 e1
  have tell : ∀ δ2, xk_at Tm δ2 S → δ2 71 6 = δ2 0 16 → fc δ1 δ2 → S.1.2.2.length ≠ 0 → Go E (d + 6) (0, 0) mx_X11_nearestWord go_φ 57 [(0, vv_A 0)] [] δ2 Q := fun δ2 h2 r2 f2 hn => by
    have htd2 := h2.1.1
    have e32 := htd2.2.2.2.1
    have et2 := htd2.2.1
    have hQ := hQ δ2 h2 (fc_tr fc1 f2)
    rw [if_neg hn] at hQ
    refine go_aload_n (i := 0) dx_X11_nearestWord_57 rfl rfl ?_
    refine go_getA (b := 71) fs_X11_84 rfl (go_ok rfl rfl) rfl dx_X11_nearestWord_58 ?_
    refine go_aload_n (i := 0) dx_X11_nearestWord_61 rfl rfl ?_
    refine go_getA (b := 3) fs_X11_19 rfl (go_ok rfl rfl) rfl dx_X11_nearestWord_62 ?_
    refine go_getI fs_X11_170 (Or.inl rfl) (go_ok rfl rfl) dx_X11_nearestWord_65 ?_
    refine go_asI (y := (S.1.2.1 : Int)) (by exact et2) ?_
    refine go_iconst dx_X11_nearestWord_68 ?_
    refine go_asI (y := ((0 : Nat) : Int)) (by rfl) ?_
    refine go_aload_n (i := 0) dx_X11_nearestWord_69 rfl rfl ?_
    refine go_getA (b := 3) fs_X11_19 rfl (go_ok rfl rfl) rfl dx_X11_nearestWord_70 ?_
    refine go_getI fs_X11_239 (Or.inl rfl) (go_ok rfl rfl) dx_X11_nearestWord_73 ?_
    refine go_asI (y := (S.1.2.2.length : Int)) (by exact e32) ?_
    refine go_cV3 sv_X11_433 (go_ok rfl rfl) dx_X11_nearestWord_76 (Nat.le_of_ble_eq_true rfl) (Nat.le_of_ble_eq_true rfl) (g_Nearest_valueAll (h2.2.2.2.2.2.2.2.2.2.1 r2) h2.2.2.1.2.2.2.2.2.2.2.2.2.1 h14 (by omega) (by omega) (by omega) (Nat.le_refl _) ?_)
    refine go_lreturn dx_X11_nearestWord_79 rfl (Nat.le_refl _) (Nat.le_refl _) ?_
    exact hQ
  by_cases hn : S.1.2.2.length = 0
  · have hQ := hQ δ1 h1 fc1
    rw [if_pos hn] at hQ
    refine go_aload_n (i := 0) dx_X11_nearestWord_4 rfl rfl ?_
    refine go_getA (b := 3) fs_X11_19 rfl (go_ok rfl rfl) rfl dx_X11_nearestWord_5 ?_
    refine go_getI fs_X11_239 (Or.inl rfl) (go_ok rfl rfl) dx_X11_nearestWord_8 ?_
    refine go_asI (y := (S.1.2.2.length : Int)) (by exact e3) ?_
    refine go_if_ne (tgt := 18) dx_X11_nearestWord_11 rfl (by omega) (fun c11 => by exact absurd hn (by omega)) (fun c11 => ?_)
    refine go_ldc2 (x := (-1)) kx_X11_253 dx_X11_nearestWord_14 ?_
    refine go_lreturn dx_X11_nearestWord_17 rfl (Nat.le_refl _) (Nat.le_refl _) ?_
    exact hQ
  by_cases z : δ1 71 6 = δ1 0 16
  · refine go_aload_n (i := 0) dx_X11_nearestWord_4 rfl rfl ?_
    refine go_getA (b := 3) fs_X11_19 rfl (go_ok rfl rfl) rfl dx_X11_nearestWord_5 ?_
    refine go_getI fs_X11_239 (Or.inl rfl) (go_ok rfl rfl) dx_X11_nearestWord_8 ?_
    refine go_asI (y := (S.1.2.2.length : Int)) (by exact e3) ?_
    refine go_if_ne (tgt := 18) dx_X11_nearestWord_11 rfl (by omega) (fun c11 => ?_) (fun c11 => by exact absurd hn (by omega))
    refine go_aload_n (i := 0) dx_X11_nearestWord_18 rfl rfl ?_
    refine go_getA (b := 71) fs_X11_84 rfl (go_ok rfl rfl) rfl dx_X11_nearestWord_19 ?_
    refine go_getI fs_X11_431 (Or.inl rfl) (go_ok rfl rfl) dx_X11_nearestWord_22 ?_
    refine go_aload_n (i := 0) dx_X11_nearestWord_25 rfl rfl ?_
    refine go_getI fs_X11_109 (Or.inl rfl) (go_ok rfl rfl) dx_X11_nearestWord_26 ?_
    refine go_icmp_eq (tgt := 57) dx_X11_nearestWord_29 rfl (by omega) (by omega) (fun c29 => ?_) (fun c29 => by exact absurd z c29)
    exact tell δ1 h1 z fc_rf hn
  · refine go_aload_n (i := 0) dx_X11_nearestWord_4 rfl rfl ?_
    refine go_getA (b := 3) fs_X11_19 rfl (go_ok rfl rfl) rfl dx_X11_nearestWord_5 ?_
    refine go_getI fs_X11_239 (Or.inl rfl) (go_ok rfl rfl) dx_X11_nearestWord_8 ?_
    refine go_asI (y := (S.1.2.2.length : Int)) (by exact e3) ?_
    refine go_if_ne (tgt := 18) dx_X11_nearestWord_11 rfl (by omega) (fun c11 => ?_) (fun c11 => by exact absurd hn (by omega))
    refine go_aload_n (i := 0) dx_X11_nearestWord_18 rfl rfl ?_
    refine go_getA (b := 71) fs_X11_84 rfl (go_ok rfl rfl) rfl dx_X11_nearestWord_19 ?_
    refine go_getI fs_X11_431 (Or.inl rfl) (go_ok rfl rfl) dx_X11_nearestWord_22 ?_
    refine go_aload_n (i := 0) dx_X11_nearestWord_25 rfl rfl ?_
    refine go_getI fs_X11_109 (Or.inl rfl) (go_ok rfl rfl) dx_X11_nearestWord_26 ?_
    refine go_icmp_eq (tgt := 57) dx_X11_nearestWord_29 rfl (by omega) (by omega) (fun c29 => by exact absurd c29 z) (fun c29 => ?_)
    refine go_aload_n (i := 0) dx_X11_nearestWord_32 rfl rfl ?_
    refine go_getA (b := 71) fs_X11_84 rfl (go_ok rfl rfl) rfl dx_X11_nearestWord_33 ?_
    refine go_aload_n (i := 0) dx_X11_nearestWord_36 rfl rfl ?_
    refine go_getA (b := 3) fs_X11_19 rfl (go_ok rfl rfl) rfl dx_X11_nearestWord_37 ?_
    refine go_getI fs_X11_239 (Or.inl rfl) (go_ok rfl rfl) dx_X11_nearestWord_40 ?_
    refine go_asI (y := (S.1.2.2.length : Int)) (by exact e3) ?_
    refine go_cV1 sv_X11_432 (go_ok rfl rfl) dx_X11_nearestWord_43 (Nat.le_of_ble_eq_true rfl) (Nat.le_of_ble_eq_true rfl) (g_Nearest_fillAll hb (a8 r1) htd a3.2.2.2.2.2.2.2.2.2.1 a3.2.2.2.2.2.2.2.2.2.2 (fun δ2 b2 f2 => ?_))
    have fr2 : ∀ b j, ¬ (72 ≤ b ∧ b ≤ 73) → ¬ (b = 71 ∧ j = 6) → wr δ2 71 6 (δ2 0 16) b j = δ1 b j := fun b j h1 h2 => by rw [wr_n (by omega)]; exact f2 b j (by omega) (by omega)
    have e16 : δ2 0 16 = δ1 0 16 := f2 0 16 (by omega) (by omega)
    refine go_aload_n (i := 0) dx_X11_nearestWord_46 rfl rfl ?_
    refine go_getA (b := 71) fs_X11_84 rfl (go_ok rfl rfl) rfl dx_X11_nearestWord_47 ?_
    refine go_aload_n (i := 0) dx_X11_nearestWord_50 rfl rfl ?_
    refine go_getI fs_X11_109 (Or.inl rfl) (go_ok rfl rfl) dx_X11_nearestWord_51 ?_
    refine go_putI fp_X11_431 rfl rfl (go_ok rfl rfl) dx_X11_nearestWord_54 ?_
    refine tell _ ⟨xs_fr a1 (fun b h1 h2 j => fr2 b j (by omega) (by omega)), kts_fr a2 0 0 (fr2 0 16 (by omega) (by omega)) (fun b j h => ?_), kno_fr a3 (fun b j h => fr2 b j (by omega) (by omega)), k17_fr a4 (fun b j h => fr2 b j (by omega) (by omega)), k49_fr a5 (fun b j h => fr2 b j (by omega) (by omega)), k52_fr a6 (fun b j h => fr2 b j (by omega) (by omega)), k56_fr a7 (fun b j h => fr2 b j (by omega) (by omega)), k62_fr a8 (fun b j h => fr2 b j (by omega) (by omega)), k67_fr a9 (fun b j h => fr2 b j (by omega) (by omega)), fun _ => ?_, k74_fr a11 (fun b j h => fr2 b j (by omega) (by omega))⟩ ?_ (fun b hb j => fr2 b j (by omega) (by omega)) hn
    · by_cases y : b = 71 ∧ j = 6
      · obtain ⟨y1, y2⟩ := y
        subst y1 y2
        rw [wr_eq]
        exact Or.inr e16
      · exact Or.inl (fr2 b j (by omega) (by omega))
    · exact fun i j a b c x hx => by rw [wr_n (by omega)]; exact b2 i j a b c x hx
    · rw [wr_eq, fr2 0 16 (by omega) (by omega)]; exact e16
theorem x_changes (h : xk_at Tm δ S) (hQ : ∀ δ', xk_at Tm δ' S → fc δ δ' → Q [vv_I (oq_changes S.1)] go_φ δ') : Go E (d + 12) (0, 0) mx_X11_changes go_φ 0 [(0, vv_A 0)] [] δ Q := by
  unfold oq_changes nvK at hQ
  refine go_aload_n (i := 0) dx_X11_changes_0 rfl rfl ?_
  refine go_cV0 sv_X11_183 (go_ok rfl rfl) dx_X11_changes_1 (Nat.le_of_ble_eq_true rfl) (Nat.le_of_ble_eq_true rfl) (g_freshen h (fun δ1 h1 e1 f1 => ?_))
  refine go_aload_n (i := 0) dx_X11_changes_4 rfl rfl ?_
  refine go_cV0 sv_X11_342 (go_ok rfl rfl) dx_X11_changes_5 (Nat.le_of_ble_eq_true rfl) (Nat.le_of_ble_eq_true rfl) (g_nearestWord h1 e1 (fun δ2 h2 f2 => ?_))
  unfold nvK
  have hQ := hQ δ2 h2 (fc_tr f1 f2)
  have h14 := h2.1.1.2.2.2.2.2.2.2.2.1
  by_cases hn : S.1.2.2.length = 0
  · rw [cif_t (Or.inl hn)] at hQ
    rw [if_pos hn]
    refine go_lstore_n (i := 1) (lv' := [(0, vv_A 0), (1, vv_L (-1))]) dx_X11_changes_8 rfl (by decide) rfl ?_
    refine go_lload_n (i := 1) dx_X11_changes_9 rfl rfl ?_
    refine go_lconst (x := 0) dx_X11_changes_10 rfl ?_
    refine go_lcmp_ge (tgt := 19) dx_X11_changes_11 dx_X11_changes_12 rfl (by omega) (by omega) (fun c11 => by exact absurd c11 (by decide)) (fun c11 => ?_)
    refine go_iconst dx_X11_changes_15 ?_
    refine go_goto (tgt := 23) dx_X11_changes_16 rfl ?_
    refine go_ireturn dx_X11_changes_23 rfl (Nat.le_refl _) (Nat.le_refl _) ?_
    exact hQ
  · rw [if_neg hn]
    rcases nv_told (R := S.1.1) (w := S.1.2.2) (x := S.1.2.1) h14 with ⟨q1, _⟩ | ⟨u, u1, u2, u3, _⟩
    · rw [cif_t (Or.inr q1)] at hQ
      rw [q1]
      refine go_lstore_n (i := 1) (lv' := [(0, vv_A 0), (1, vv_L (-1))]) dx_X11_changes_8 rfl (by decide) rfl ?_
      refine go_lload_n (i := 1) dx_X11_changes_9 rfl rfl ?_
      refine go_lconst (x := 0) dx_X11_changes_10 rfl ?_
      refine go_lcmp_ge (tgt := 19) dx_X11_changes_11 dx_X11_changes_12 rfl (by omega) (by omega) (fun c11 => by exact absurd c11 (by decide)) (fun c11 => ?_)
      refine go_iconst dx_X11_changes_15 ?_
      refine go_goto (tgt := 23) dx_X11_changes_16 rfl ?_
      refine go_ireturn dx_X11_changes_23 rfl (Nat.le_refl _) (Nat.le_refl _) ?_
      exact hQ
    · have hle := mm_le S.1.2.2 u 0
      have hM := e8_M (dx_ltw u3) (by omega)
      rw [u1]
      rw [cif_f (by rw [u1]; omega), u1, Int.toNat_natCast] at hQ
      unfold nk at hQ ⊢
      rw [ne_div hM] at hQ
      have hlt := ne_key_lt (a1 := mm S.1.2.2 0 u) (by omega) hM
      refine go_lstore_n (i := 1) (lv' := [(0, vv_A 0), (1, vv_L (ne_key (mm S.1.2.2 0 u) (e8 u) : Int))]) dx_X11_changes_8 rfl (by decide) rfl ?_
      refine go_lload_n (i := 1) dx_X11_changes_9 rfl rfl ?_
      refine go_lconst (x := 0) dx_X11_changes_10 rfl ?_
      refine go_lcmp_ge (tgt := 19) dx_X11_changes_11 dx_X11_changes_12 rfl (by omega) (by omega) (fun c11 => ?_) (fun c11 => by exact absurd (Int.natCast_nonneg _) c11)
      refine go_lload_n (i := 1) dx_X11_changes_19 rfl rfl ?_
      refine go_cS1 ss_X11_345 dx_X11_changes_20 (Nat.le_of_ble_eq_true rfl) (Nat.le_of_ble_eq_true rfl) (g_Nearest_othersIn (by omega) hM ?_)
      refine go_ireturn dx_X11_changes_23 rfl (Nat.le_refl _) (Nat.le_refl _) ?_
      exact hQ
theorem x_changed {i : Int} (hi : go_iI i) (h : xk_at Tm δ S) (hQ : ∀ δ', xk_at Tm δ' S → fc δ δ' → Q [vv_I (oq_changed S.1 i)] go_φ δ') : Go E (d + 12) (0, 0) mx_X11_changed go_φ 0 [(0, vv_A 0), (1, vv_I i)] [] δ Q := by
  unfold oq_changed nvK at hQ
  refine go_iload_n (i := 1) dx_X11_changed_0 rfl rfl ?_
  refine go_if_ge (tgt := 7) dx_X11_changed_1 rfl (by omega) (fun c1 => ?_) (fun c1 => ?_)
  · refine go_aload_n (i := 0) dx_X11_changed_7 rfl rfl ?_
    refine go_cV0 sv_X11_183 (go_ok rfl rfl) dx_X11_changed_8 (Nat.le_of_ble_eq_true rfl) (Nat.le_of_ble_eq_true rfl) (g_freshen h (fun δ1 h1 e1 f1 => ?_))
    refine go_aload_n (i := 0) dx_X11_changed_11 rfl rfl ?_
    refine go_cV0 sv_X11_342 (go_ok rfl rfl) dx_X11_changed_12 (Nat.le_of_ble_eq_true rfl) (Nat.le_of_ble_eq_true rfl) (g_nearestWord h1 e1 (fun δ2 h2 f2 => ?_))
    unfold nvK
    have hQ := hQ δ2 h2 (fc_tr f1 f2)
    obtain ⟨p, rfl⟩ : ∃ p : Nat, i = (p : Int) := ⟨i.toNat, by omega⟩
    rw [if_neg (by omega)] at hQ
    have h14 := h2.1.1.2.2.2.2.2.2.2.2.1
    have e3 := h2.1.1.2.2.2.1
    by_cases hn : S.1.2.2.length = 0
    · rw [cif_t (Or.inl hn)] at hQ
      rw [if_pos hn]
      refine go_lstore_n (i := 2) (lv' := [(0, vv_A 0), (1, vv_I (p : Int)), (2, vv_L (-1))]) dx_X11_changed_15 rfl (by decide) rfl ?_
      refine go_lload_n (i := 2) dx_X11_changed_16 rfl rfl ?_
      refine go_lconst (x := 0) dx_X11_changed_17 rfl ?_
      refine go_lcmp_lt (tgt := 33) dx_X11_changed_18 dx_X11_changed_19 rfl (by omega) (by omega) (fun c18 => ?_) (fun c18 => by exact absurd (by decide) c18)
      refine go_iconst dx_X11_changed_33 ?_
      refine go_goto (tgt := 52) dx_X11_changed_34 rfl ?_
      refine go_ireturn dx_X11_changed_52 rfl (Nat.le_refl _) (Nat.le_refl _) ?_
      exact hQ
    · rw [if_neg hn]
      rcases nv_told (R := S.1.1) (w := S.1.2.2) (x := S.1.2.1) h14 with ⟨q1, _⟩ | ⟨u, u1, u2, u3, _⟩
      · rw [cif_t (Or.inr (Or.inl q1))] at hQ
        rw [q1]
        refine go_lstore_n (i := 2) (lv' := [(0, vv_A 0), (1, vv_I (p : Int)), (2, vv_L (-1))]) dx_X11_changed_15 rfl (by decide) rfl ?_
        refine go_lload_n (i := 2) dx_X11_changed_16 rfl rfl ?_
        refine go_lconst (x := 0) dx_X11_changed_17 rfl ?_
        refine go_lcmp_lt (tgt := 33) dx_X11_changed_18 dx_X11_changed_19 rfl (by omega) (by omega) (fun c18 => ?_) (fun c18 => by exact absurd (by decide) c18)
        refine go_iconst dx_X11_changed_33 ?_
        refine go_goto (tgt := 52) dx_X11_changed_34 rfl ?_
        refine go_ireturn dx_X11_changed_52 rfl (Nat.le_refl _) (Nat.le_refl _) ?_
        exact hQ
      · have hle := mm_le S.1.2.2 u 0
        have hul := dx_ltw u3
        have hM := e8_M hul (by omega)
        have hlt : nk S.1.2.2 0 u < 9223372036854775808 := ne_key_lt (by omega) hM
        rw [u1]
        rw [u1, Int.toNat_natCast, Int.toNat_natCast] at hQ
        by_cases hp : (S.1.2.2.length : Int) ≤ (p : Int)
        · rw [cif_t (Or.inr (Or.inr hp))] at hQ
          refine go_lstore_n (i := 2) (lv' := [(0, vv_A 0), (1, vv_I (p : Int)), (2, vv_L (nk S.1.2.2 0 u : Int))]) dx_X11_changed_15 rfl (by decide) rfl ?_
          refine go_lload_n (i := 2) dx_X11_changed_16 rfl rfl ?_
          refine go_lconst (x := 0) dx_X11_changed_17 rfl ?_
          refine go_lcmp_lt (tgt := 33) dx_X11_changed_18 dx_X11_changed_19 rfl (by omega) (by omega) (fun c18 => by exact absurd c18 (by omega)) (fun c18 => ?_)
          refine go_iload_n (i := 1) dx_X11_changed_22 rfl rfl ?_
          refine go_aload_n (i := 0) dx_X11_changed_23 rfl rfl ?_
          refine go_getA (b := 3) fs_X11_19 rfl (go_ok rfl rfl) rfl dx_X11_changed_24 ?_
          refine go_getI fs_X11_239 (Or.inl rfl) (go_ok rfl rfl) dx_X11_changed_27 ?_
          refine go_asI (y := (S.1.2.2.length : Int)) (by exact e3) ?_
          refine go_icmp_lt (tgt := 37) dx_X11_changed_30 rfl (by omega) (by omega) (fun c30 => by exact absurd hp (by omega)) (fun c30 => ?_)
          refine go_iconst dx_X11_changed_33 ?_
          refine go_goto (tgt := 52) dx_X11_changed_34 rfl ?_
          refine go_ireturn dx_X11_changed_52 rfl (Nat.le_refl _) (Nat.le_refl _) ?_
          exact hQ
        · have hpu : p < u.length := by omega
          have hg := hul _ (List.getElem_mem hpu)
          rw [cif_f (by omega), ← u2, nk_letter hul (by omega) hpu, show 8 + (u[p] - 8) = u[p] by omega] at hQ
          refine go_lstore_n (i := 2) (lv' := [(0, vv_A 0), (1, vv_I (p : Int)), (2, vv_L (nk S.1.2.2 0 u : Int))]) dx_X11_changed_15 rfl (by decide) rfl ?_
          refine go_lload_n (i := 2) dx_X11_changed_16 rfl rfl ?_
          refine go_lconst (x := 0) dx_X11_changed_17 rfl ?_
          refine go_lcmp_lt (tgt := 33) dx_X11_changed_18 dx_X11_changed_19 rfl (by omega) (by omega) (fun c18 => by exact absurd c18 (by omega)) (fun c18 => ?_)
          refine go_iload_n (i := 1) dx_X11_changed_22 rfl rfl ?_
          refine go_aload_n (i := 0) dx_X11_changed_23 rfl rfl ?_
          refine go_getA (b := 3) fs_X11_19 rfl (go_ok rfl rfl) rfl dx_X11_changed_24 ?_
          refine go_getI fs_X11_239 (Or.inl rfl) (go_ok rfl rfl) dx_X11_changed_27 ?_
          refine go_asI (y := (S.1.2.2.length : Int)) (by exact e3) ?_
          refine go_icmp_lt (tgt := 37) dx_X11_changed_30 rfl (by omega) (by omega) (fun c30 => ?_) (fun c30 => by exact absurd hp (by omega))
          refine go_lload_n (i := 2) dx_X11_changed_37 rfl rfl ?_
          refine go_aload_n (i := 0) dx_X11_changed_38 rfl rfl ?_
          refine go_getA (b := 3) fs_X11_19 rfl (go_ok rfl rfl) rfl dx_X11_changed_39 ?_
          refine go_getI fs_X11_239 (Or.inl rfl) (go_ok rfl rfl) dx_X11_changed_42 ?_
          refine go_asI (y := (S.1.2.2.length : Int)) (by exact e3) ?_
          refine go_iconst dx_X11_changed_45 ?_
          refine go_isub dx_X11_changed_46 ?_
          refine go_iload_n (i := 1) dx_X11_changed_47 rfl rfl ?_
          refine go_isub dx_X11_changed_48 ?_
          refine go_asI (y := ((u.length - 1 - p : Nat) : Int)) (by omega) ?_
          refine go_cS2 ss_X11_348 dx_X11_changed_49 (Nat.le_of_ble_eq_true rfl) (Nat.le_of_ble_eq_true rfl) (g_Nearest_letterIn (w := S.1.2.2) (u := u) (i := p) hul (by omega) hpu ?_)
          refine go_ireturn dx_X11_changed_52 rfl (Nat.le_refl _) (Nat.le_refl _) ?_
          exact hQ
  · refine go_bipush dx_X11_changed_4 rfl ?_
    refine go_ireturn dx_X11_changed_6 rfl (Nat.le_refl _) (Nat.le_refl _) ?_
    have hQ := hQ δ h fc_rf
    rw [if_pos (by omega)] at hQ
    exact hQ
theorem x_lengths {x : Int} (hx : go_iI x) (h : xk_at Tm δ S) (hQ : ∀ δ', xk_at Tm δ' S → fc δ δ' → Q [vv_I (oq_lengths S.1 x)] go_φ δ') : Go E (d + 12) (0, 0) mx_X11_lengths go_φ 0 [(0, vv_A 0), (1, vv_I x)] [] δ Q := by
  unfold oq_lengths isy at hQ
  refine go_aload_n (i := 0) dx_X11_lengths_0 rfl rfl ?_
  refine go_cV0 sv_X11_183 (go_ok rfl rfl) dx_X11_lengths_1 (Nat.le_of_ble_eq_true rfl) (Nat.le_of_ble_eq_true rfl) (g_freshen h (fun δ1 h1 e1 f1 => ?_))
  obtain ⟨hb, hm, hc⟩ := h1.2.2.2.1 e1
  have hR := hb.2.2.2.2.2.2
  have h62 := nsy_le hR
  refine go_aload_n (i := 0) dx_X11_lengths_4 rfl rfl ?_
  refine go_iload_n (i := 1) dx_X11_lengths_5 rfl rfl ?_
  refine go_cV1 sv_X11_205 (go_ok rfl rfl) dx_X11_lengths_6 (Nat.le_of_ble_eq_true rfl) (Nat.le_of_ble_eq_true rfl) (g_isSymbol hx hb ?_)
  refine go_b_ne (tgt := 15) dx_X11_lengths_9 rfl (fun c9 => ?_) (fun c9 => ?_)
  · obtain ⟨p, rfl⟩ : ∃ p : Nat, x = (p : Int) := ⟨x.toNat, by omega⟩
    rw [cif_t c9, Int.toNat_natCast] at hQ
    refine go_aload_n (i := 0) dx_X11_lengths_15 rfl rfl ?_
    refine go_cV0 sv_X11_332 (go_ok rfl rfl) dx_X11_lengths_16 (Nat.le_of_ble_eq_true rfl) (Nat.le_of_ble_eq_true rfl) (g_readyAnyWord h1 e1 (fun δ2 h2 e2 r2 f2 => ?_))
    have hQ := hQ δ2 h2 (fc_tr f1 (fun b hb j => f2 b j (by omega)))
    refine go_aload_n (i := 0) dx_X11_lengths_19 rfl rfl ?_
    refine go_getA (b := 62) fs_X11_73 rfl (go_ok rfl rfl) rfl dx_X11_lengths_20 ?_
    refine go_iload_n (i := 1) dx_X11_lengths_23 rfl rfl ?_
    refine go_iconst dx_X11_lengths_24 ?_
    refine go_asI (y := ((0 : Nat) : Int)) (by rfl) ?_
    refine go_cV2 sv_X11_267 (go_ok rfl rfl) dx_X11_lengths_25 (Nat.le_of_ble_eq_true rfl) (Nat.le_of_ble_eq_true rfl) (g_Chart_endsFrom ch_ok62 hR (h2.2.2.2.2.2.2.2.1 r2) (by omega) (Nat.zero_le _) ?_)
    refine go_ireturn dx_X11_lengths_28 rfl (Nat.le_refl _) (Nat.le_refl _) ?_
    exact hQ
  · refine go_bipush dx_X11_lengths_12 rfl ?_
    refine go_ireturn dx_X11_lengths_14 rfl (Nat.le_refl _) (Nat.le_refl _) ?_
    have hQ := hQ δ1 h1 f1
    rw [cif_f c9] at hQ
    exact hQ
theorem x_turned (h : xk_at Tm δ S) (hQ : ∀ δ', xk_at Tm δ' S → fc δ δ' → Q [vv_I (oq_turned S.1)] go_φ δ') : Go E (d + 12) (0, 0) mx_X11_turned go_φ 0 [(0, vv_A 0)] [] δ Q := by
  unfold oq_turned at hQ
  refine go_aload_n (i := 0) dx_X11_turned_0 rfl rfl ?_
  refine go_cV0 sv_X11_183 (go_ok rfl rfl) dx_X11_turned_1 (Nat.le_of_ble_eq_true rfl) (Nat.le_of_ble_eq_true rfl) (g_freshen h (fun δ1 h1 e1 f1 => ?_))
  obtain ⟨a1, a2, a3, a4, a5, a6, a7, a8, a9, a10, a11⟩ := id h1
  obtain ⟨hb, hm, hc⟩ := a4 e1
  have htd := a1.1
  have hR := hb.2.2.2.2.2.2
  have e3 := htd.2.2.2.1
  have et := htd.2.1
  have ht8 := htd.2.2.2.2.2.2.2.1
  have h14 := htd.2.2.2.2.2.2.2.2.1
  have hlet := htd.2.2.2.2.2.2.2.2.2
  refine go_aload_n (i := 0) dx_X11_turned_4 rfl rfl ?_
  refine go_getA (b := 87) fs_X11_98 rfl (go_ok rfl rfl) rfl dx_X11_turned_5 ?_
  refine go_aload_n (i := 0) dx_X11_turned_8 rfl rfl ?_
  refine go_getA (b := 3) fs_X11_19 rfl (go_ok rfl rfl) rfl dx_X11_turned_9 ?_
  refine go_iconst dx_X11_turned_12 ?_
  refine go_cV2 sv_X11_297 (go_ok rfl rfl) dx_X11_turned_13 (Nat.le_of_ble_eq_true rfl) (Nat.le_of_ble_eq_true rfl) (g_Chart_readWord (rv := true) (w := S.1.2.2.reverse) ch_ok87 (by decide) htd rfl (fun δ2 b2 f2 => ?_))
  refine go_aload_n (i := 0) dx_X11_turned_16 rfl rfl ?_
  refine go_getA (b := 87) fs_X11_98 rfl (go_ok rfl rfl) rfl dx_X11_turned_17 ?_
  refine go_aload_n (i := 0) dx_X11_turned_20 rfl rfl ?_
  refine go_getA (b := 33) fs_X11_33 rfl (go_ok rfl rfl) rfl dx_X11_turned_21 ?_
  refine go_aload_n (i := 0) dx_X11_turned_24 rfl rfl ?_
  refine go_getA (b := 3) fs_X11_19 rfl (go_ok rfl rfl) rfl dx_X11_turned_25 ?_
  refine go_getI fs_X11_239 (Or.inl rfl) (go_ok rfl rfl) dx_X11_turned_28 ?_
  refine go_asI (y := (S.1.2.2.length : Int)) (by rw [f2 3 3 (by decide)]; exact e3) ?_
  refine go_cV2 sv_X11_301 (go_ok rfl rfl) dx_X11_turned_31 (Nat.le_of_ble_eq_true rfl) (Nat.le_of_ble_eq_true rfl) (g_Chart_fill ch_ok87 bi_ok33 (by omega) (bi_fr hb (fun c j _ _ => f2 c j (by omega))) (by rw [f2 87 0 (by decide)]; exact a3.2.2.1) h14 b2 (fun i c q => hlet c (List.mem_reverse.mp (List.mem_of_getElem? q))) (fun q => by cases q) (fun δ3 b3 f3 => ?_))
  have fr : ∀ b j, b ≠ 88 → b ≠ 89 → ¬ (b = 87 ∧ j = 5) → δ3 b j = δ1 b j := fun b j h1 h2 h3 => by rw [f3 b j (by omega) (by omega), f2 b j (by omega)]
  have h3 : xk_at Tm δ3 S := ⟨xs_fr a1 (fun b h1 h2 j => fr b j (by omega) (by omega) (by omega)), kts_fr a2 0 0 (fr 0 16 (by omega) (by omega) (by omega)) (fun b j h => Or.inl (fr b j (by omega) (by omega) (by omega))), kno_fr a3 (fun b j h => fr b j (by omega) (by omega) (by omega)), k17_fr a4 (fun b j h => fr b j (by omega) (by omega) (by omega)), k49_fr a5 (fun b j h => fr b j (by omega) (by omega) (by omega)), k52_fr a6 (fun b j h => fr b j (by omega) (by omega) (by omega)), k56_fr a7 (fun b j h => fr b j (by omega) (by omega) (by omega)), k62_fr a8 (fun b j h => fr b j (by omega) (by omega) (by omega)), k67_fr a9 (fun b j h => fr b j (by omega) (by omega) (by omega)), k71_fr a10 (fun b j h => fr b j (by omega) (by omega) (by omega)), k74_fr a11 (fun b j h => fr b j (by omega) (by omega) (by omega))⟩
  have hQ := hQ δ3 h3 (fc_tr f1 (fun b hb j => fr b j (by omega) (by omega) (by omega)))
  refine go_aload_n (i := 0) dx_X11_turned_34 rfl rfl ?_
  refine go_getA (b := 87) fs_X11_98 rfl (go_ok rfl rfl) rfl dx_X11_turned_35 ?_
  refine go_aload_n (i := 0) dx_X11_turned_38 rfl rfl ?_
  refine go_getA (b := 3) fs_X11_19 rfl (go_ok rfl rfl) rfl dx_X11_turned_39 ?_
  refine go_getI fs_X11_170 (Or.inl rfl) (go_ok rfl rfl) dx_X11_turned_42 ?_
  refine go_asI (y := (S.1.2.1 : Int)) (by exact h3.1.1.2.1) ?_
  refine go_iconst dx_X11_turned_45 ?_
  refine go_asI (y := ((0 : Nat) : Int)) (by rfl) ?_
  refine go_aload_n (i := 0) dx_X11_turned_46 rfl rfl ?_
  refine go_getA (b := 3) fs_X11_19 rfl (go_ok rfl rfl) rfl dx_X11_turned_47 ?_
  refine go_getI fs_X11_239 (Or.inl rfl) (go_ok rfl rfl) dx_X11_turned_50 ?_
  refine go_asI (y := (S.1.2.2.length : Int)) (by exact h3.1.1.2.2.2.1) ?_
  refine go_cV3 sv_X11_242 (go_ok rfl rfl) dx_X11_turned_53 (Nat.le_of_ble_eq_true rfl) (Nat.le_of_ble_eq_true rfl) (g_Chart_derives ch_ok87 hR b3 (by omega) (Nat.le_refl _) (Nat.zero_le _) ?_)
  refine go_b_eq (tgt := 63) dx_X11_turned_56 rfl (fun c56 => ?_) (fun c56 => ?_)
  · refine go_iconst dx_X11_turned_63 ?_
    refine go_ireturn dx_X11_turned_64 rfl (Nat.le_refl _) (Nat.le_refl _) ?_
    first | (rw [b01_t c56] at hQ; exact hQ) | (rw [b01_f c56] at hQ; exact hQ)
  · refine go_iconst dx_X11_turned_59 ?_
    refine go_goto (tgt := 64) dx_X11_turned_60 rfl ?_
    refine go_ireturn dx_X11_turned_64 rfl (Nat.le_refl _) (Nat.le_refl _) ?_
    first | (rw [b01_t c56] at hQ; exact hQ) | (rw [b01_f c56] at hQ; exact hQ)
theorem x_shapes {x n : Int} (hx : go_iI x) (hn : go_iI n) (h : xk_at Tm δ S) (hQ : ∀ δ', xk_at Tm δ' S → fc δ δ' → Q [vv_L (oq_shapes S.1 x n)] go_φ δ') : Go E (d + 12) (0, 0) mx_X11_shapes go_φ 0 [(0, vv_A 0), (1, vv_I x), (2, vv_I n)] [] δ Q := by
  unfold oq_shapes at hQ
  refine go_aload_n (i := 0) dx_X11_shapes_0 rfl rfl ?_
  refine go_iload_n (i := 1) dx_X11_shapes_1 rfl rfl ?_
  refine go_cV1 sv_X11_167 (go_ok rfl rfl) dx_X11_shapes_2 (Nat.le_of_ble_eq_true rfl) (Nat.le_of_ble_eq_true rfl) (g_isName hx (fun a1 a2 => ?_) (fun a1 => ?_))
  · refine go_if_ne (tgt := 12) dx_X11_shapes_5 rfl (by omega) (fun c5 => ?_) (fun c5 => absurd c5 (by decide))
    refine go_iload_n (i := 2) dx_X11_shapes_12 rfl rfl ?_
    refine go_iconst dx_X11_shapes_13 ?_
    refine go_icmp_lt (tgt := 23) dx_X11_shapes_14 rfl (by omega) (by omega) (fun c14 => ?_) (fun c14 => ?_)
    · refine go_ldc2 (x := (-3)) kx_X11_335 dx_X11_shapes_23 ?_
      refine go_lreturn dx_X11_shapes_26 rfl (Nat.le_refl _) (Nat.le_refl _) ?_
      have hQ := hQ δ h fc_rf
      rw [if_neg (by omega), if_pos (by omega)] at hQ
      exact hQ
    · refine go_iload_n (i := 2) dx_X11_shapes_17 rfl rfl ?_
      refine go_bipush dx_X11_shapes_18 rfl ?_
      refine go_icmp_le (tgt := 27) dx_X11_shapes_20 rfl (by omega) (by omega) (fun c20 => ?_) (fun c20 => ?_)
      · obtain ⟨p, rfl⟩ : ∃ p : Nat, x = (p : Int) := ⟨x.toNat, by omega⟩
        obtain ⟨m, rfl⟩ : ∃ m : Nat, n = (m : Int) := ⟨n.toNat, by omega⟩
        rw [if_neg (by omega), if_neg (by omega), Int.toNat_natCast, Int.toNat_natCast] at hQ
        refine go_aload_n (i := 0) dx_X11_shapes_27 rfl rfl ?_
        refine go_cV0 sv_X11_183 (go_ok rfl rfl) dx_X11_shapes_28 (Nat.le_of_ble_eq_true rfl) (Nat.le_of_ble_eq_true rfl) (g_freshen h (fun δ0 h0 e0 f0 => ?_))
        refine go_aload_n (i := 0) dx_X11_shapes_31 rfl rfl ?_
        refine go_cV0 sv_X11_332 (go_ok rfl rfl) dx_X11_shapes_32 (Nat.le_of_ble_eq_true rfl) (Nat.le_of_ble_eq_true rfl) (g_readyAnyWord h0 e0 (fun δ1 h1 e1 r1 f1 => ?_))
        obtain ⟨a1', a2', a3, a4, a5, a6, a7, a8, a9, a10, a11⟩ := id h1
        have fc1 : fc δ δ1 := fc_tr f0 (fun b hb j => f1 b j (by omega))
        have htd := a1'.1
        have hd : dstn S.1.1 := htd.2.2.2.2.2.2.1
        have hst := a2'.1
        have hs := a2'.2.2.2.2.2.2.1
        unfold kst at hs
        obtain ⟨hb, hm, hc⟩ := a4 e1
        have tell : ∀ δ2, xk_at Tm δ2 S → δ2 67 6 = δ2 0 16 → fc δ1 δ2 → Go E (d + 12) (0, 0) mx_X11_shapes go_φ 69 [(0, vv_A 0), (1, vv_I (p : Int)), (2, vv_I (m : Int))] [] δ2 Q := fun δ2 h2 r2 f2 => by
          have hQ := hQ δ2 h2 (fc_tr fc1 f2)
          refine go_aload_n (i := 0) dx_X11_shapes_69 rfl rfl ?_
          refine go_getA (b := 67) fs_X11_76 rfl (go_ok rfl rfl) rfl dx_X11_shapes_70 ?_
          refine go_iload_n (i := 1) dx_X11_shapes_73 rfl rfl ?_
          refine go_iconst dx_X11_shapes_74 ?_
          refine go_asI (y := ((0 : Nat) : Int)) (by rfl) ?_
          refine go_iload_n (i := 2) dx_X11_shapes_75 rfl rfl ?_
          refine go_cV3 sv_X11_276 (go_ok rfl rfl) dx_X11_shapes_76 (Nat.le_of_ble_eq_true rfl) (Nat.le_of_ble_eq_true rfl) (g_Forest_valueAll tb_ok67 tf_ok67 (h2.2.2.2.2.2.2.2.2.1 r2) h2.2.2.1.2.2.2.2.2.2.2.1 (by decide) (by omega) (by omega) (by omega) (by omega) ?_)
          refine go_lreturn dx_X11_shapes_79 rfl (Nat.le_refl _) (Nat.le_refl _) ?_
          rw [Vn_name (by omega) (by omega)]
          exact hQ
        by_cases z : δ1 67 6 = δ1 0 16
        · refine go_aload_n (i := 0) dx_X11_shapes_35 rfl rfl ?_
          refine go_getA (b := 67) fs_X11_76 rfl (go_ok rfl rfl) rfl dx_X11_shapes_36 ?_
          refine go_getI fs_X11_337 (Or.inl rfl) (go_ok rfl rfl) dx_X11_shapes_39 ?_
          refine go_aload_n (i := 0) dx_X11_shapes_42 rfl rfl ?_
          refine go_getI fs_X11_109 (Or.inl rfl) (go_ok rfl rfl) dx_X11_shapes_43 ?_
          refine go_icmp_eq (tgt := 69) dx_X11_shapes_46 rfl (by omega) (by omega) (fun c46 => ?_) (fun c46 => by exact absurd z c46)
          exact tell δ1 h1 z fc_rf
        · refine go_aload_n (i := 0) dx_X11_shapes_35 rfl rfl ?_
          refine go_getA (b := 67) fs_X11_76 rfl (go_ok rfl rfl) rfl dx_X11_shapes_36 ?_
          refine go_getI fs_X11_337 (Or.inl rfl) (go_ok rfl rfl) dx_X11_shapes_39 ?_
          refine go_aload_n (i := 0) dx_X11_shapes_42 rfl rfl ?_
          refine go_getI fs_X11_109 (Or.inl rfl) (go_ok rfl rfl) dx_X11_shapes_43 ?_
          refine go_icmp_eq (tgt := 69) dx_X11_shapes_46 rfl (by omega) (by omega) (fun c46 => by exact absurd c46 z) (fun c46 => ?_)
          refine go_aload_n (i := 0) dx_X11_shapes_49 rfl rfl ?_
          refine go_getA (b := 67) fs_X11_76 rfl (go_ok rfl rfl) rfl dx_X11_shapes_50 ?_
          refine go_bipush dx_X11_shapes_53 rfl ?_
          refine go_asI (y := ((14 : Nat) : Int)) (by rfl) ?_
          refine go_cV1 sv_X11_340 (go_ok rfl rfl) dx_X11_shapes_55 (Nat.le_of_ble_eq_true rfl) (Nat.le_of_ble_eq_true rfl) (g_Forest_fillAll tb_ok67 tf_ok67 ch_ok62 hb hm hd (a8 r1) htd a3.2.2.2.2.2.2.2.1 a3.2.2.2.2.2.2.2.2.1 (by decide) (fun i c q => q) (fun _ i s c => Iff.rfl) (fun δ2 b2 f2 => ?_))
          have fr2 : ∀ b j, ¬ (68 ≤ b ∧ b ≤ 70) → ¬ (b = 67 ∧ j = 6) → wr δ2 67 6 (δ2 0 16) b j = δ1 b j := fun b j h1 h2 => by rw [wr_n (by omega)]; exact f2 b j (by omega) (by omega) (by omega)
          have e16 : δ2 0 16 = δ1 0 16 := f2 0 16 (by omega) (by omega) (by omega)
          refine go_aload_n (i := 0) dx_X11_shapes_58 rfl rfl ?_
          refine go_getA (b := 67) fs_X11_76 rfl (go_ok rfl rfl) rfl dx_X11_shapes_59 ?_
          refine go_aload_n (i := 0) dx_X11_shapes_62 rfl rfl ?_
          refine go_getI fs_X11_109 (Or.inl rfl) (go_ok rfl rfl) dx_X11_shapes_63 ?_
          refine go_putI fp_X11_337 rfl rfl (go_ok rfl rfl) dx_X11_shapes_66 ?_
          refine tell _ ⟨xs_fr a1' (fun b h1 h2 j => fr2 b j (by omega) (by omega)), kts_fr a2' 0 0 (fr2 0 16 (by omega) (by omega)) (fun b j h => ?_), kno_fr a3 (fun b j h => fr2 b j (by omega) (by omega)), k17_fr a4 (fun b j h => fr2 b j (by omega) (by omega)), k49_fr a5 (fun b j h => fr2 b j (by omega) (by omega)), k52_fr a6 (fun b j h => fr2 b j (by omega) (by omega)), k56_fr a7 (fun b j h => fr2 b j (by omega) (by omega)), k62_fr a8 (fun b j h => fr2 b j (by omega) (by omega)), fun _ => ?_, k71_fr a10 (fun b j h => fr2 b j (by omega) (by omega)), k74_fr a11 (fun b j h => fr2 b j (by omega) (by omega))⟩ ?_ (fun b hb j => fr2 b j (by omega) (by omega))
          · by_cases y : b = 67 ∧ j = 6
            · obtain ⟨y1, y2⟩ := y
              subst y1 y2
              rw [wr_eq]
              exact Or.inr e16
            · exact Or.inl (fr2 b j (by omega) (by omega))
          · exact tvF_fr b2 (fun c j q => wr_n (by omega))
          · rw [wr_eq, fr2 0 16 (by omega) (by omega)]; exact e16
      · refine go_ldc2 (x := (-3)) kx_X11_335 dx_X11_shapes_23 ?_
        refine go_lreturn dx_X11_shapes_26 rfl (Nat.le_refl _) (Nat.le_refl _) ?_
        have hQ := hQ δ h fc_rf
        rw [if_neg (by omega), if_pos (by omega)] at hQ
        exact hQ
  · refine go_if_ne (tgt := 12) dx_X11_shapes_5 rfl (by omega) (fun c5 => absurd c5 (by decide)) (fun c5 => ?_)
    refine go_ldc2 (x := (-2)) kx_X11_237 dx_X11_shapes_8 ?_
    refine go_lreturn dx_X11_shapes_11 rfl (Nat.le_refl _) (Nat.le_refl _) ?_
    have hQ := hQ δ h fc_rf
    rw [if_pos a1] at hQ
    exact hQ
end GXC3
