/-! the class's calls: node, tree, form, length -/
section GXC5
variable {E : go_E} {d : Nat} {δ : Nat → Nat → Int} {Q : List go_V → go_F → (Nat → Nat → Int) → Prop} {S : sS} {K : sK} {Tm : Int}
theorem x_tell {m : Nat} {k q : Int} (hl : ln_at δ (nds K m)) (h216 : (nds K m).length ≤ 216) (hk : go_iI k) (hq : go_iI q) (hQ : Q [vv_I (oq_nd K m k q)] go_φ δ) : Go E (d + 1) (0, 0) mx_X3_tell go_φ 0 [(0, vv_A 56), (1, vv_I k), (2, vv_I q)] [] δ Q := by
  unfold oq_nd at hQ
  refine g_Listing_tell hl h216 hk hq (fun a b ha e1 e2 hb => ?_) (fun hno => ?_)
  · subst e1 e2
    rw [cif_t (by omega), Int.toNat_natCast, Int.toNat_natCast, List.getD_eq_getElem?_getD, List.getElem?_eq_getElem ha, Option.getD_some] at hQ
    exact hQ
  · rw [cif_f hno] at hQ
    exact hQ
theorem x_node {k q : Int} (hk : go_iI k) (hq : go_iI q) (h : xk_at Tm δ S) (hQ : ∀ δ', xk_at Tm δ' S → fc δ δ' → Q [vv_I (oq_node S.1 k q)] go_φ δ') : Go E (d + 15) (0, 0) mx_X11_node go_φ 0 [(0, vv_A 0), (1, vv_I k), (2, vv_I q)] [] δ Q := by
  unfold oq_node at hQ
  refine go_aload_n (i := 0) dx_X11_node_0 rfl rfl ?_
  refine go_cV0 sv_X11_183 (go_ok rfl rfl) dx_X11_node_1 (Nat.le_of_ble_eq_true rfl) (Nat.le_of_ble_eq_true rfl) (g_freshen h (fun δ1 h1 e1 f1 => ?_))
  refine go_aload_n (i := 0) dx_X11_node_4 rfl rfl ?_
  refine go_cV0 sv_X11_273 (go_ok rfl rfl) dx_X11_node_5 (Nat.le_of_ble_eq_true rfl) (Nat.le_of_ble_eq_true rfl) (g_readyForest h1 e1 (fun δ2 h2 e2 r2 f2 => ?_))
  have hK : sk_ok S.1 := h2.1.1.2.2.2.2
  have fc2 : fc δ δ2 := fc_tr f1 (fun b hb j => f2 b j (by omega))
  refine go_aload_n (i := 0) dx_X11_node_8 rfl rfl ?_
  refine go_iconst dx_X11_node_9 ?_
  refine go_asI (y := ((0 : Nat) : Int)) (by rfl) ?_
  refine go_cV1 sv_X11_280 (go_ok rfl rfl) dx_X11_node_10 (Nat.le_of_ble_eq_true rfl) (Nat.le_of_ble_eq_true rfl) (g_readyTree (by decide) h2 e2 r2 (fun q => ⟨Nat.pos_of_ne_zero q, Or.inl rfl⟩) (fun z => ?_) (fun z δ3 h3 l3 f3 => ?_))
  · refine go_if_eq (tgt := 28) dx_X11_node_13 rfl (by omega) (fun c13 => ?_) (fun c13 => absurd c13 (by decide))
    refine go_bipush dx_X11_node_28 rfl ?_
    refine go_ireturn dx_X11_node_30 rfl (Nat.le_refl _) (Nat.le_refl _) ?_
    first
    | (have hQ := hQ δ2 h2 fc2
       rw [cif_f (fun q => (ac_to hK).mp q z)] at hQ
       exact hQ)
    | (have hQ := hQ δ3 h3 (fc_tr fc2 f3)
       rw [cif_t ((ac_to hK).mpr z)] at hQ
       exact hQ)
  · refine go_if_eq (tgt := 28) dx_X11_node_13 rfl (by omega) (fun c13 => absurd c13 (by decide)) (fun c13 => ?_)
    refine go_aload_n (i := 0) dx_X11_node_16 rfl rfl ?_
    refine go_getA (b := 56) fs_X11_69 rfl (go_ok rfl rfl) rfl dx_X11_node_17 ?_
    refine go_iload_n (i := 1) dx_X11_node_20 rfl rfl ?_
    refine go_iload_n (i := 2) dx_X11_node_21 rfl rfl ?_
    refine go_cV2 sv_X11_286 (go_ok rfl rfl) dx_X11_node_22 (Nat.le_of_ble_eq_true rfl) (Nat.le_of_ble_eq_true rfl) (x_tell l3 (nds_len hK (Nat.pos_of_ne_zero z) (by decide) (Or.inl rfl)).1 hk hq ?_)
    refine go_goto (tgt := 30) dx_X11_node_25 rfl ?_
    refine go_ireturn dx_X11_node_30 rfl (Nat.le_refl _) (Nat.le_refl _) ?_
    first
    | (have hQ := hQ δ2 h2 fc2
       rw [cif_f (fun q => (ac_to hK).mp q z)] at hQ
       exact hQ)
    | (have hQ := hQ δ3 h3 (fc_tr fc2 f3)
       rw [cif_t ((ac_to hK).mpr z)] at hQ
       exact hQ)
theorem x_tree {m k q : Int} (hm : go_iI m) (hk : go_iI k) (hq : go_iI q) (h : xk_at Tm δ S) (hQ : ∀ δ', xk_at Tm δ' S → fc δ δ' → Q [vv_I (oq_tree S.1 m k q)] go_φ δ') : Go E (d + 15) (0, 0) mx_X11_tree go_φ 0 [(0, vv_A 0), (1, vv_I m), (2, vv_I k), (3, vv_I q)] [] δ Q := by
  unfold oq_tree at hQ
  refine go_aload_n (i := 0) dx_X11_tree_0 rfl rfl ?_
  refine go_cV0 sv_X11_183 (go_ok rfl rfl) dx_X11_tree_1 (Nat.le_of_ble_eq_true rfl) (Nat.le_of_ble_eq_true rfl) (g_freshen h (fun δ1 h1 e1 f1 => ?_))
  refine go_aload_n (i := 0) dx_X11_tree_4 rfl rfl ?_
  refine go_cV0 sv_X11_273 (go_ok rfl rfl) dx_X11_tree_5 (Nat.le_of_ble_eq_true rfl) (Nat.le_of_ble_eq_true rfl) (g_readyForest h1 e1 (fun δ2 h2 e2 r2 f2 => ?_))
  have hK : sk_ok S.1 := h2.1.1.2.2.2.2
  have fc2 : fc δ δ2 := fc_tr f1 (fun b hb j => f2 b j (by omega))
  have hMX := MX_eq
  by_cases hbig : toK S.1 ≤ MX
  · have est : st (toK S.1) = (toK S.1 : Int) := st_le hbig
    have hQ2 := hQ δ2 h2 fc2
    rw [cif_f (fun z => z hbig)] at hQ2
    by_cases hin : 0 ≤ m ∧ m < (toK S.1 : Int)
    · obtain ⟨p, rfl⟩ : ∃ p : Nat, m = (p : Int) := ⟨m.toNat, by omega⟩
      have hp : p < toK S.1 := by omega
      refine go_aload_n (i := 0) dx_X11_tree_8 rfl rfl ?_
      refine go_cV0 sv_X11_289 (go_ok rfl rfl) dx_X11_tree_9 (Nat.le_of_ble_eq_true rfl) (Nat.le_of_ble_eq_true rfl) (g_treesOfWord h2 r2 ?_)
      refine go_asL (y := (toK S.1 : Int)) (by exact est) ?_
      refine go_lstore (lv' := [(0, vv_A 0), (1, vv_I (p : Int)), (2, vv_I k), (3, vv_I q), (4, vv_L (toK S.1 : Int))]) dx_X11_tree_12 (by decide) rfl ?_
      refine go_lload dx_X11_tree_14 rfl ?_
      refine go_lconst (x := 0) dx_X11_tree_16 rfl ?_
      refine go_lcmp_ge (tgt := 24) dx_X11_tree_17 dx_X11_tree_18 rfl (by omega) (by omega) (fun c17 => ?_) (fun c17 => by exact absurd (Int.natCast_nonneg _) c17)
      refine go_iload_n (i := 1) dx_X11_tree_24 rfl rfl ?_
      refine go_if_lt (tgt := 44) dx_X11_tree_25 rfl (by omega) (fun c25 => by exact absurd hin.1 (by omega)) (fun c25 => ?_)
      refine go_iload_n (i := 1) dx_X11_tree_28 rfl rfl ?_
      refine go_i2l dx_X11_tree_29 (by omega) ?_
      refine go_lload dx_X11_tree_30 rfl ?_
      refine go_lcmp_ge (tgt := 44) dx_X11_tree_32 dx_X11_tree_33 rfl (by omega) (by omega) (fun c32 => by exact absurd hin.2 (by omega)) (fun c32 => ?_)
      refine go_aload_n (i := 0) dx_X11_tree_36 rfl rfl ?_
      refine go_iload_n (i := 1) dx_X11_tree_37 rfl rfl ?_
      refine go_cV1 sv_X11_280 (go_ok rfl rfl) dx_X11_tree_38 (Nat.le_of_ble_eq_true rfl) (Nat.le_of_ble_eq_true rfl) (g_readyTree (by omega) h2 e2 r2 (fun _ => ⟨hp, Or.inr hbig⟩) (fun z => ?_) (fun z δ3 h3 l3 f3 => ?_))
      · refine go_if_ne (tgt := 47) dx_X11_tree_41 rfl (by omega) (fun c41 => absurd c41 (by decide)) (fun c41 => ?_)
        refine go_bipush dx_X11_tree_44 rfl ?_
        refine go_ireturn dx_X11_tree_46 rfl (Nat.le_refl _) (Nat.le_refl _) ?_
        omega
      · refine go_if_ne (tgt := 47) dx_X11_tree_41 rfl (by omega) (fun c41 => ?_) (fun c41 => absurd c41 (by decide))
        have hQ3 := hQ δ3 h3 (fc_tr fc2 f3)
        rw [cif_f (fun z => z hbig), cif_t hin, Int.toNat_natCast] at hQ3
        have h216 := (nds_len hK hp (by omega) (Or.inr hbig)).1
        have e4 := l3.1
        refine go_iload_n (i := 2) dx_X11_tree_47 rfl rfl ?_
        refine go_iconst dx_X11_tree_48 ?_
        refine go_icmp_eq (tgt := 62) dx_X11_tree_49 rfl (by omega) (by omega) (fun c49 => ?_) (fun c49 => ?_)
        · refine go_iload_n (i := 3) dx_X11_tree_62 rfl rfl ?_
          refine go_if_lt (tgt := 81) dx_X11_tree_63 rfl (by omega) (fun c63 => ?_) (fun c63 => ?_)
          · refine go_bipush dx_X11_tree_81 rfl ?_
            refine go_ireturn dx_X11_tree_83 rfl (Nat.le_refl _) (Nat.le_refl _) ?_
            rw [cif_t (by omega)] at hQ3
            first | (rw [cif_t (by omega)] at hQ3; exact hQ3) | (rw [cif_f (by omega)] at hQ3; exact hQ3)
          · refine go_iload_n (i := 3) dx_X11_tree_66 rfl rfl ?_
            refine go_iconst dx_X11_tree_67 ?_
            refine go_icmp_ge (tgt := 81) dx_X11_tree_68 rfl (by omega) (by omega) (fun c68 => ?_) (fun c68 => ?_)
            · refine go_bipush dx_X11_tree_81 rfl ?_
              refine go_ireturn dx_X11_tree_83 rfl (Nat.le_refl _) (Nat.le_refl _) ?_
              rw [cif_t (by omega)] at hQ3
              first | (rw [cif_t (by omega)] at hQ3; exact hQ3) | (rw [cif_f (by omega)] at hQ3; exact hQ3)
            · refine go_aload_n (i := 0) dx_X11_tree_71 rfl rfl ?_
              refine go_getA (b := 56) fs_X11_69 rfl (go_ok rfl rfl) rfl dx_X11_tree_72 ?_
              refine go_getI fs_X11_283 (Or.inl rfl) (go_ok rfl rfl) dx_X11_tree_75 ?_
              refine go_asI (y := ((nds S.1 p).length : Int)) (by exact e4) ?_
              refine go_goto (tgt := 83) dx_X11_tree_78 rfl ?_
              refine go_ireturn dx_X11_tree_83 rfl (Nat.le_refl _) (Nat.le_refl _) ?_
              rw [cif_t (by omega)] at hQ3
              first | (rw [cif_t (by omega)] at hQ3; exact hQ3) | (rw [cif_f (by omega)] at hQ3; exact hQ3)
        · refine go_aload_n (i := 0) dx_X11_tree_52 rfl rfl ?_
          refine go_getA (b := 56) fs_X11_69 rfl (go_ok rfl rfl) rfl dx_X11_tree_53 ?_
          refine go_iload_n (i := 2) dx_X11_tree_56 rfl rfl ?_
          refine go_iload_n (i := 3) dx_X11_tree_57 rfl rfl ?_
          refine go_cV2 sv_X11_286 (go_ok rfl rfl) dx_X11_tree_58 (Nat.le_of_ble_eq_true rfl) (Nat.le_of_ble_eq_true rfl) (x_tell l3 h216 hk hq ?_)
          refine go_ireturn dx_X11_tree_61 rfl (Nat.le_refl _) (Nat.le_refl _) ?_
          rw [cif_f (by omega)] at hQ3
          exact hQ3
    · rw [cif_f hin] at hQ2
      refine go_aload_n (i := 0) dx_X11_tree_8 rfl rfl ?_
      refine go_cV0 sv_X11_289 (go_ok rfl rfl) dx_X11_tree_9 (Nat.le_of_ble_eq_true rfl) (Nat.le_of_ble_eq_true rfl) (g_treesOfWord h2 r2 ?_)
      refine go_asL (y := (toK S.1 : Int)) (by exact est) ?_
      refine go_lstore (lv' := [(0, vv_A 0), (1, vv_I m), (2, vv_I k), (3, vv_I q), (4, vv_L (toK S.1 : Int))]) dx_X11_tree_12 (by decide) rfl ?_
      refine go_lload dx_X11_tree_14 rfl ?_
      refine go_lconst (x := 0) dx_X11_tree_16 rfl ?_
      refine go_lcmp_ge (tgt := 24) dx_X11_tree_17 dx_X11_tree_18 rfl (by omega) (by omega) (fun c17 => ?_) (fun c17 => by exact absurd (Int.natCast_nonneg _) c17)
      refine go_iload_n (i := 1) dx_X11_tree_24 rfl rfl ?_
      refine go_if_lt (tgt := 44) dx_X11_tree_25 rfl (by omega) (fun c25 => ?_) (fun c25 => ?_)
      · refine go_bipush dx_X11_tree_44 rfl ?_
        refine go_ireturn dx_X11_tree_46 rfl (Nat.le_refl _) (Nat.le_refl _) ?_
        exact hQ2
      · refine go_iload_n (i := 1) dx_X11_tree_28 rfl rfl ?_
        refine go_i2l dx_X11_tree_29 (by omega) ?_
        refine go_lload dx_X11_tree_30 rfl ?_
        refine go_lcmp_ge (tgt := 44) dx_X11_tree_32 dx_X11_tree_33 rfl (by omega) (by omega) (fun c32 => ?_) (fun c32 => by exact absurd (by omega) hin)
        refine go_bipush dx_X11_tree_44 rfl ?_
        refine go_ireturn dx_X11_tree_46 rfl (Nat.le_refl _) (Nat.le_refl _) ?_
        exact hQ2
  · have est : st (toK S.1) = -7 := st_gt (by omega)
    have hQ2 := hQ δ2 h2 fc2
    rw [cif_t hbig] at hQ2
    refine go_aload_n (i := 0) dx_X11_tree_8 rfl rfl ?_
    refine go_cV0 sv_X11_289 (go_ok rfl rfl) dx_X11_tree_9 (Nat.le_of_ble_eq_true rfl) (Nat.le_of_ble_eq_true rfl) (g_treesOfWord h2 r2 ?_)
    refine go_asL (y := (-7)) (by exact est) ?_
    refine go_lstore (lv' := [(0, vv_A 0), (1, vv_I m), (2, vv_I k), (3, vv_I q), (4, vv_L (-7))]) dx_X11_tree_12 (by decide) rfl ?_
    refine go_lload dx_X11_tree_14 rfl ?_
    refine go_lconst (x := 0) dx_X11_tree_16 rfl ?_
    refine go_lcmp_ge (tgt := 24) dx_X11_tree_17 dx_X11_tree_18 rfl (by omega) (by omega) (fun c17 => by exact absurd c17 (by decide)) (fun c17 => ?_)
    refine go_bipush dx_X11_tree_21 rfl ?_
    refine go_ireturn dx_X11_tree_23 rfl (Nat.le_refl _) (Nat.le_refl _) ?_
    exact hQ2
theorem x_formed {m : Nat} (h : xk_at Tm δ S) (hz : toK S.1 ≠ 0) (hl : ln_at δ (nds S.1 0)) (hm : m ≤ (nds S.1 0).length) (hQ : ∀ δ', xk_at Tm δ' S → fr_at δ' (fms S.1 m) → fc δ δ' → Q [] go_φ δ') : Go E (d + 4) (0, 0) mx_X3_makeForm go_φ 0 [(0, vv_A 56), (1, vv_I (m : Int))] [] δ Q := by
  obtain ⟨a1, a2, a3, a4, a5, a6, a7, a8, a9, a10, a11⟩ := id h
  refine g_Listing_makeForm a1.1 (Nat.pos_of_ne_zero (fun q => hz (to_0 q))) (Nat.pos_of_ne_zero hz) hl hm (fun δ1 b1 f1 => ?_)
  have fr : ∀ b j, b ≠ 61 → ¬ (b = 56 ∧ j = 16) → δ1 b j = δ b j := fun b j a c => f1 b j a (by omega)
  exact hQ δ1 ⟨xs_fr a1 (fun b h1 h2 j => fr b j (by omega) (by omega)), kts_fr a2 0 0 (fr 0 16 (by decide) (by decide)) (fun b j h => Or.inl (fr b j (by omega) (by omega))), kno_fr a3 (fun b j h => fr b j (by omega) (by omega)), k17_fr a4 (fun b j h => fr b j (by omega) (by omega)), k49_fr a5 (fun b j h => fr b j (by omega) (by omega)), k52_fr a6 (fun b j h => fr b j (by omega) (by omega)), k56_fr a7 (fun b j h => fr b j (by omega) (by omega)), k62_fr a8 (fun b j h => fr b j (by omega) (by omega)), k67_fr a9 (fun b j h => fr b j (by omega) (by omega)), k71_fr a10 (fun b j h => fr b j (by omega) (by omega)), k74_fr a11 (fun b j h => fr b j (by omega) (by omega))⟩ b1 (fun b hb j => fr b j (by omega) (by omega))
theorem x_length {m : Int} (hm : go_iI m) (h : xk_at Tm δ S) (hQ : ∀ δ', xk_at Tm δ' S → fc δ δ' → Q [vv_I (oq_length S.1 m)] go_φ δ') : Go E (d + 15) (0, 0) mx_X11_length go_φ 0 [(0, vv_A 0), (1, vv_I m)] [] δ Q := by
  unfold oq_length at hQ
  refine go_aload_n (i := 0) dx_X11_length_0 rfl rfl ?_
  refine go_cV0 sv_X11_183 (go_ok rfl rfl) dx_X11_length_1 (Nat.le_of_ble_eq_true rfl) (Nat.le_of_ble_eq_true rfl) (g_freshen h (fun δ1 h1 e1 f1 => ?_))
  refine go_aload_n (i := 0) dx_X11_length_4 rfl rfl ?_
  refine go_cV0 sv_X11_273 (go_ok rfl rfl) dx_X11_length_5 (Nat.le_of_ble_eq_true rfl) (Nat.le_of_ble_eq_true rfl) (g_readyForest h1 e1 (fun δ2 h2 e2 r2 f2 => ?_))
  have hK : sk_ok S.1 := h2.1.1.2.2.2.2
  have fc2 : fc δ δ2 := fc_tr f1 (fun b hb j => f2 b j (by omega))
  have key : ∀ (z : toK S.1 ≠ 0) δ3, xk_at Tm δ3 S → ln_at δ3 (nds S.1 0) → fc δ2 δ3 → Go E (d + 15) (0, 0) mx_X11_length go_φ 16 [(0, vv_A 0), (1, vv_I m)] [] δ3 Q := fun z δ3 h3 l3 f3 => by
    have e4 := l3.1
    have h216 := (nds_len hK (Nat.pos_of_ne_zero z) (by decide) (Or.inl rfl)).1
    refine go_iload_n (i := 1) dx_X11_length_16 rfl rfl ?_
    refine go_if_lt (tgt := 31) dx_X11_length_17 rfl (by omega) (fun c17 => ?_) (fun c17 => ?_)
    · refine go_bipush dx_X11_length_31 rfl ?_
      refine go_ireturn dx_X11_length_33 rfl (Nat.le_refl _) (Nat.le_refl _) ?_
      have hQ := hQ δ3 h3 (fc_tr fc2 f3)
      rw [cif_f (by omega)] at hQ
      exact hQ
    · refine go_iload_n (i := 1) dx_X11_length_20 rfl rfl ?_
      refine go_aload_n (i := 0) dx_X11_length_21 rfl rfl ?_
      refine go_getA (b := 56) fs_X11_69 rfl (go_ok rfl rfl) rfl dx_X11_length_22 ?_
      refine go_getI fs_X11_283 (Or.inl rfl) (go_ok rfl rfl) dx_X11_length_25 ?_
      refine go_asI (y := ((nds S.1 0).length : Int)) (by exact e4) ?_
      refine go_icmp_le (tgt := 34) dx_X11_length_28 rfl (by omega) (by omega) (fun c28 => ?_) (fun c28 => ?_)
      · obtain ⟨p, rfl⟩ : ∃ p : Nat, m = (p : Int) := ⟨m.toNat, by omega⟩
        refine go_aload_n (i := 0) dx_X11_length_34 rfl rfl ?_
        refine go_getA (b := 56) fs_X11_69 rfl (go_ok rfl rfl) rfl dx_X11_length_35 ?_
        refine go_iload_n (i := 1) dx_X11_length_38 rfl rfl ?_
        refine go_cV1 sv_X11_310 (go_ok rfl rfl) dx_X11_length_39 (Nat.le_of_ble_eq_true rfl) (Nat.le_of_ble_eq_true rfl) (x_formed h3 z l3 (by omega) (fun δ4 h4 b4 f4 => ?_))
        refine go_aload_n (i := 0) dx_X11_length_42 rfl rfl ?_
        refine go_getA (b := 56) fs_X11_69 rfl (go_ok rfl rfl) rfl dx_X11_length_43 ?_
        refine go_getI fs_X11_313 (Or.inl rfl) (go_ok rfl rfl) dx_X11_length_46 ?_
        refine go_ireturn dx_X11_length_49 rfl (Nat.le_refl _) (Nat.le_refl _) ?_
        have hQ := hQ δ4 h4 (fc_tr fc2 (fc_tr f3 f4))
        rw [cif_t ⟨(ac_to hK).mpr z, by omega, by omega⟩, Int.toNat_natCast, ← b4.1] at hQ
        exact hQ
      · refine go_bipush dx_X11_length_31 rfl ?_
        refine go_ireturn dx_X11_length_33 rfl (Nat.le_refl _) (Nat.le_refl _) ?_
        have hQ := hQ δ3 h3 (fc_tr fc2 f3)
        rw [cif_f (by omega)] at hQ
        exact hQ
  refine go_aload_n (i := 0) dx_X11_length_8 rfl rfl ?_
  refine go_iconst dx_X11_length_9 ?_
  refine go_asI (y := ((0 : Nat) : Int)) (by rfl) ?_
  refine go_cV1 sv_X11_280 (go_ok rfl rfl) dx_X11_length_10 (Nat.le_of_ble_eq_true rfl) (Nat.le_of_ble_eq_true rfl) (g_readyTree (by decide) h2 e2 r2 (fun q => ⟨Nat.pos_of_ne_zero q, Or.inl rfl⟩) (fun z => ?_) (fun z δ3 h3 l3 f3 => ?_))
  · refine go_if_eq (tgt := 31) dx_X11_length_13 rfl (by omega) (fun c13 => ?_) (fun c13 => absurd c13 (by decide))
    refine go_bipush dx_X11_length_31 rfl ?_
    refine go_ireturn dx_X11_length_33 rfl (Nat.le_refl _) (Nat.le_refl _) ?_
    have hQ := hQ δ2 h2 fc2
    rw [cif_f (fun q => (ac_to hK).mp q.1 z)] at hQ
    exact hQ
  · refine go_if_eq (tgt := 31) dx_X11_length_13 rfl (by omega) (fun c13 => absurd c13 (by decide)) (fun c13 => ?_)
    exact key z δ3 h3 l3 f3
theorem x_form {m i : Int} (hm : go_iI m) (hi : go_iI i) (h : xk_at Tm δ S) (hQ : ∀ δ', xk_at Tm δ' S → fc δ δ' → Q [vv_I (oq_form S.1 m i)] go_φ δ') : Go E (d + 15) (0, 0) mx_X11_form go_φ 0 [(0, vv_A 0), (1, vv_I m), (2, vv_I i)] [] δ Q := by
  have l61 : go_ln 61 = 19 := rfl
  unfold oq_form at hQ
  refine go_aload_n (i := 0) dx_X11_form_0 rfl rfl ?_
  refine go_cV0 sv_X11_183 (go_ok rfl rfl) dx_X11_form_1 (Nat.le_of_ble_eq_true rfl) (Nat.le_of_ble_eq_true rfl) (g_freshen h (fun δ1 h1 e1 f1 => ?_))
  refine go_aload_n (i := 0) dx_X11_form_4 rfl rfl ?_
  refine go_cV0 sv_X11_273 (go_ok rfl rfl) dx_X11_form_5 (Nat.le_of_ble_eq_true rfl) (Nat.le_of_ble_eq_true rfl) (g_readyForest h1 e1 (fun δ2 h2 e2 r2 f2 => ?_))
  have hK : sk_ok S.1 := h2.1.1.2.2.2.2
  have fc2 : fc δ δ2 := fc_tr f1 (fun b hb j => f2 b j (by omega))
  have key : ∀ (z : toK S.1 ≠ 0) δ3, xk_at Tm δ3 S → ln_at δ3 (nds S.1 0) → fc δ2 δ3 → Go E (d + 15) (0, 0) mx_X11_form go_φ 16 [(0, vv_A 0), (1, vv_I m), (2, vv_I i)] [] δ3 Q := fun z δ3 h3 l3 f3 => by
    have e4 := l3.1
    have hac := (ac_to hK).mpr z
    have h216 := (nds_len hK (Nat.pos_of_ne_zero z) (by decide) (Or.inl rfl)).1
    refine go_iload_n (i := 1) dx_X11_form_16 rfl rfl ?_
    refine go_if_lt (tgt := 31) dx_X11_form_17 rfl (by omega) (fun c17 => ?_) (fun c17 => ?_)
    · refine go_bipush dx_X11_form_31 rfl ?_
      refine go_ireturn dx_X11_form_33 rfl (Nat.le_refl _) (Nat.le_refl _) ?_
      have hQ := hQ δ3 h3 (fc_tr fc2 f3)
      rw [cif_f (by omega)] at hQ
      exact hQ
    · refine go_iload_n (i := 1) dx_X11_form_20 rfl rfl ?_
      refine go_aload_n (i := 0) dx_X11_form_21 rfl rfl ?_
      refine go_getA (b := 56) fs_X11_69 rfl (go_ok rfl rfl) rfl dx_X11_form_22 ?_
      refine go_getI fs_X11_283 (Or.inl rfl) (go_ok rfl rfl) dx_X11_form_25 ?_
      refine go_asI (y := ((nds S.1 0).length : Int)) (by exact e4) ?_
      refine go_icmp_le (tgt := 34) dx_X11_form_28 rfl (by omega) (by omega) (fun c28 => ?_) (fun c28 => ?_)
      · refine go_iload_n (i := 2) dx_X11_form_34 rfl rfl ?_
        refine go_if_ge (tgt := 41) dx_X11_form_35 rfl (by omega) (fun c35 => ?_) (fun c35 => ?_)
        · obtain ⟨p, rfl⟩ : ∃ p : Nat, m = (p : Int) := ⟨m.toNat, by omega⟩
          obtain ⟨u, rfl⟩ : ∃ u : Nat, i = (u : Int) := ⟨i.toNat, by omega⟩
          have hfl := (fms_len hK hac (t := p) (by omega)).1
          refine go_aload_n (i := 0) dx_X11_form_41 rfl rfl ?_
          refine go_getA (b := 56) fs_X11_69 rfl (go_ok rfl rfl) rfl dx_X11_form_42 ?_
          refine go_iload_n (i := 1) dx_X11_form_45 rfl rfl ?_
          refine go_cV1 sv_X11_310 (go_ok rfl rfl) dx_X11_form_46 (Nat.le_of_ble_eq_true rfl) (Nat.le_of_ble_eq_true rfl) (x_formed h3 z l3 (by omega) (fun δ4 h4 b4 f4 => ?_))
          have hQ := hQ δ4 h4 (fc_tr fc2 (fc_tr f3 f4))
          have e16 := b4.1
          rw [cif_t ⟨hac, by omega, by omega⟩, if_neg (by omega), Int.toNat_natCast, Int.toNat_natCast] at hQ
          by_cases y : u < (fms S.1 p).length
          · rw [if_pos (by omega)] at hQ
            refine go_iload_n (i := 2) dx_X11_form_49 rfl rfl ?_
            refine go_aload_n (i := 0) dx_X11_form_50 rfl rfl ?_
            refine go_getA (b := 56) fs_X11_69 rfl (go_ok rfl rfl) rfl dx_X11_form_51 ?_
            refine go_getI fs_X11_313 (Or.inl rfl) (go_ok rfl rfl) dx_X11_form_54 ?_
            refine go_asI (y := ((fms S.1 p).length : Int)) (by exact e16) ?_
            refine go_icmp_ge (tgt := 74) dx_X11_form_57 rfl (by omega) (by omega) (fun c57 => by exact absurd c57 (by omega)) (fun c57 => ?_)
            refine go_aload_n (i := 0) dx_X11_form_60 rfl rfl ?_
            refine go_getA (b := 56) fs_X11_69 rfl (go_ok rfl rfl) rfl dx_X11_form_61 ?_
            refine go_getA (b := 61) fs_X11_316 rfl (go_ok rfl rfl) rfl dx_X11_form_64 ?_
            refine go_iload_n (i := 2) dx_X11_form_67 rfl rfl ?_
            refine go_cS2 ss_X11_192 dx_X11_form_68 (Nat.le_of_ble_eq_true rfl) (Nat.le_of_ble_eq_true rfl) (g_intAtV (i := u) (v := ((((fms S.1 p).getD u 0 : Nat) : Int))) (go_ok rfl rfl) (by omega) (show u < 19 by omega) (by exact b4.2 u y) ?_)
            refine go_goto (tgt := 75) dx_X11_form_71 rfl ?_
            refine go_ireturn dx_X11_form_75 rfl (Nat.le_refl _) (Nat.le_refl _) ?_
            exact hQ
          · rw [if_neg (by omega)] at hQ
            refine go_iload_n (i := 2) dx_X11_form_49 rfl rfl ?_
            refine go_aload_n (i := 0) dx_X11_form_50 rfl rfl ?_
            refine go_getA (b := 56) fs_X11_69 rfl (go_ok rfl rfl) rfl dx_X11_form_51 ?_
            refine go_getI fs_X11_313 (Or.inl rfl) (go_ok rfl rfl) dx_X11_form_54 ?_
            refine go_asI (y := ((fms S.1 p).length : Int)) (by exact e16) ?_
            refine go_icmp_ge (tgt := 74) dx_X11_form_57 rfl (by omega) (by omega) (fun c57 => ?_) (fun c57 => by exact absurd c57 (by omega))
            refine go_iconst dx_X11_form_74 ?_
            refine go_ireturn dx_X11_form_75 rfl (Nat.le_refl _) (Nat.le_refl _) ?_
            exact hQ
        · refine go_bipush dx_X11_form_38 rfl ?_
          refine go_ireturn dx_X11_form_40 rfl (Nat.le_refl _) (Nat.le_refl _) ?_
          have hQ := hQ δ3 h3 (fc_tr fc2 f3)
          rw [cif_t ⟨hac, by omega, by omega⟩, if_pos (by omega)] at hQ
          exact hQ
      · refine go_bipush dx_X11_form_31 rfl ?_
        refine go_ireturn dx_X11_form_33 rfl (Nat.le_refl _) (Nat.le_refl _) ?_
        have hQ := hQ δ3 h3 (fc_tr fc2 f3)
        rw [cif_f (by omega)] at hQ
        exact hQ
  refine go_aload_n (i := 0) dx_X11_form_8 rfl rfl ?_
  refine go_iconst dx_X11_form_9 ?_
  refine go_asI (y := ((0 : Nat) : Int)) (by rfl) ?_
  refine go_cV1 sv_X11_280 (go_ok rfl rfl) dx_X11_form_10 (Nat.le_of_ble_eq_true rfl) (Nat.le_of_ble_eq_true rfl) (g_readyTree (by decide) h2 e2 r2 (fun q => ⟨Nat.pos_of_ne_zero q, Or.inl rfl⟩) (fun z => ?_) (fun z δ3 h3 l3 f3 => ?_))
  · refine go_if_eq (tgt := 31) dx_X11_form_13 rfl (by omega) (fun c13 => ?_) (fun c13 => absurd c13 (by decide))
    refine go_bipush dx_X11_form_31 rfl ?_
    refine go_ireturn dx_X11_form_33 rfl (Nat.le_refl _) (Nat.le_refl _) ?_
    have hQ := hQ δ2 h2 fc2
    rw [cif_f (fun q => (ac_to hK).mp q.1 z)] at hQ
    exact hQ
  · refine go_if_eq (tgt := 31) dx_X11_form_13 rfl (by omega) (fun c13 => absurd c13 (by decide)) (fun c13 => ?_)
    exact key z δ3 h3 l3 f3
end GXC5
