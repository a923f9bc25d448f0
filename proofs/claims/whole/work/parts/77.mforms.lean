/-! the reference's calls: nodes to length -/
def fq_at (δ : Nat → Nat → Int) (l : List Nat) : Prop := δ 94 41 = (l.length : Int) ∧ ∀ k, k < l.length → δ 124 k = ((l.getD k 0 : Nat) : Int)
section GMFO
variable {E : go_E} {d : Nat} {δ : Nat → Nat → Int} {Q : List go_V → go_F → (Nat → Nat → Int) → Prop} {K : sK} {S : sS}
theorem toK_ac (hK : sk_ok K) : acK K ↔ 0 < toK K := (Tn_pos hK.1 hK.2.2.2.1).symm
theorem nds_len (hK : sk_ok K) {m : Nat} (h1 : m < toK K) (h2 : m ≤ 2147483647) (h3 : m = 0 ∨ toK K ≤ MX) : (nds K m).length ≤ 216 ∧ ∀ nd ∈ nds K m, nd.1 < 16 ∧ K.1 nd.1 ≠ [] := by
  have hn : 0 < K.2.2.length := dp_lt ((toK_ac hK).mpr (by omega))
  have h := ltr_ok (m := m) hK hn h1 h2 h3
  exact ⟨by have := h.2.1; show (ltr2 K m).length ≤ 216; omega, h.2.2.2⟩
theorem m_nodeBy {ns : List tN} {k q : Nat} (h : nr_at δ ns) (hl : ns.length ≤ 216) (hk : k < ns.length) (hq : q < 5) (hQ : Q [vv_I (ndv (ns[k]'hk) q)] go_φ δ) : Go E d (0, 0) mx_X12_nodeBy go_φ 0 [(0, vv_A 94), (1, vv_I (k : Int)), (2, vv_I (q : Int))] [] δ Q := by
  have l115 : go_ln 115 = 240 := rfl
  have l116 : go_ln 116 = 240 := rfl
  have l117 : go_ln 117 = 240 := rfl
  have l118 : go_ln 118 = 240 := rfl
  have l119 : go_ln 119 = 240 := rfl
  obtain ⟨v1, v2, v3, v4, v5⟩ := h.2 k hk
  unfold ndv at hQ
  refine go_iload_n (i := 2) dx_X12_nodeBy_0 rfl rfl ?_
  have h5 : q = 0 ∨ q = 1 ∨ q = 2 ∨ q = 3 ∨ q = 4 := by omega
  rcases h5 with rfl | rfl | rfl | rfl | rfl
  · refine go_tableIn (off := 31) (tgt := 32) dx_X12_nodeBy_1 (by decide) (by decide) (by decide) rfl rfl ?_
    refine go_aload_n (i := 0) dx_X12_nodeBy_32 rfl rfl ?_
    refine go_getA (b := 115) fs_X12_76 rfl (go_ok rfl rfl) rfl dx_X12_nodeBy_33 ?_
    refine go_iload_n (i := 1) dx_X12_nodeBy_36 rfl rfl ?_
    refine go_ialoadV (i := k) (v := (((ns[k]'hk).1 : Int))) dx_X12_nodeBy_37 (go_ok rfl rfl) (by omega) (show k < 240 by omega) (by exact v1) ?_
    refine go_ireturn dx_X12_nodeBy_38 rfl (Nat.le_refl _) (Nat.le_refl _) ?_
    exact hQ
  · refine go_tableIn (off := 38) (tgt := 39) dx_X12_nodeBy_1 (by decide) (by decide) (by decide) rfl rfl ?_
    refine go_aload_n (i := 0) dx_X12_nodeBy_39 rfl rfl ?_
    refine go_getA (b := 116) fs_X12_79 rfl (go_ok rfl rfl) rfl dx_X12_nodeBy_40 ?_
    refine go_iload_n (i := 1) dx_X12_nodeBy_43 rfl rfl ?_
    refine go_ialoadV (i := k) (v := (((ns[k]'hk).2.1 : Int))) dx_X12_nodeBy_44 (go_ok rfl rfl) (by omega) (show k < 240 by omega) (by exact v2) ?_
    refine go_ireturn dx_X12_nodeBy_45 rfl (Nat.le_refl _) (Nat.le_refl _) ?_
    exact hQ
  · refine go_tableIn (off := 45) (tgt := 46) dx_X12_nodeBy_1 (by decide) (by decide) (by decide) rfl rfl ?_
    refine go_aload_n (i := 0) dx_X12_nodeBy_46 rfl rfl ?_
    refine go_getA (b := 117) fs_X12_82 rfl (go_ok rfl rfl) rfl dx_X12_nodeBy_47 ?_
    refine go_iload_n (i := 1) dx_X12_nodeBy_50 rfl rfl ?_
    refine go_ialoadV (i := k) (v := (((ns[k]'hk).2.2.1 : Int))) dx_X12_nodeBy_51 (go_ok rfl rfl) (by omega) (show k < 240 by omega) (by exact v3) ?_
    refine go_ireturn dx_X12_nodeBy_52 rfl (Nat.le_refl _) (Nat.le_refl _) ?_
    exact hQ
  · refine go_tableIn (off := 52) (tgt := 53) dx_X12_nodeBy_1 (by decide) (by decide) (by decide) rfl rfl ?_
    refine go_aload_n (i := 0) dx_X12_nodeBy_53 rfl rfl ?_
    refine go_getA (b := 118) fs_X12_85 rfl (go_ok rfl rfl) rfl dx_X12_nodeBy_54 ?_
    refine go_iload_n (i := 1) dx_X12_nodeBy_57 rfl rfl ?_
    refine go_ialoadV (i := k) (v := ((ns[k]'hk).2.2.2.1)) dx_X12_nodeBy_58 (go_ok rfl rfl) (by omega) (show k < 240 by omega) (by exact v4) ?_
    refine go_ireturn dx_X12_nodeBy_59 rfl (Nat.le_refl _) (Nat.le_refl _) ?_
    exact hQ
  · refine go_tableOut (tgt := 60) dx_X12_nodeBy_1 (by decide) (by decide) rfl ?_
    refine go_aload_n (i := 0) dx_X12_nodeBy_60 rfl rfl ?_
    refine go_getA (b := 119) fs_X12_88 rfl (go_ok rfl rfl) rfl dx_X12_nodeBy_61 ?_
    refine go_iload_n (i := 1) dx_X12_nodeBy_64 rfl rfl ?_
    refine go_ialoadV (i := k) (v := ((ns[k]'hk).2.2.2.2)) dx_X12_nodeBy_65 (go_ok rfl rfl) (by omega) (show k < 240 by omega) (by exact v5) ?_
    refine go_ireturn dx_X12_nodeBy_66 rfl (Nat.le_refl _) (Nat.le_refl _) ?_
    exact hQ
theorem m_nodes (h : mx_at δ S) (hQ : ∀ δ', mx_at δ' S → fl δ δ' → Q [vv_I (oq_nodes S.1)] go_φ δ') : Go E (d + 6) (0, 0) mx_X12_nodes go_φ 0 [(0, vv_A 94)] [] δ Q := by
  refine go_aload_n (i := 0) dx_X12_nodes_0 rfl rfl ?_
  refine go_iconst dx_X12_nodes_1 ?_
  refine go_putI fp_X12_139 rfl rfl (go_ok rfl rfl) dx_X12_nodes_2 ?_
  have h := mx_thr (v := 0) h
  have f0 : fl δ (wr δ 94 0 0) := fl_thr
  generalize wr δ 94 0 0 = δ0 at h f0 ⊢
  have hQ := fun δ' a (b : fl δ0 δ') => hQ δ' a (fl_tr f0 b)
  have hsc := @mx_of δ0 S h
  have hb := h.1.1
  have hlaid := h.2
  have ho := bo_of hb
  have hR := ho.1
  have hK := hb.2.2.2.2
  unfold oq_nodes at hQ
  refine go_aload_n (i := 0) dx_X12_nodes_5 rfl rfl ?_
  refine go_lconst (x := 0) dx_X12_nodes_6 rfl ?_
  refine go_asL (y := ((0 : Nat) : Int)) (by rfl) ?_
  refine go_cV1 sv_X12_352 (go_ok rfl rfl) dx_X12_nodes_7 (Nat.le_of_ble_eq_true rfl) (Nat.le_of_ble_eq_true rfl) (m_laysTree (m := 0) hb hlaid (fun q => ⟨(toK_ac hK).mp q, Or.inl rfl⟩) (by decide) (fun δ1 w1 w2 w3 w4 => ?_))
  refine go_aload_n (i := 0) dx_X12_nodes_10 rfl rfl ?_
  refine go_getI fs_X12_336 (Or.inl rfl) (go_ok rfl rfl) dx_X12_nodes_11 ?_
  refine go_ireturn dx_X12_nodes_14 rfl (Nat.le_refl _) (Nat.le_refl _) ?_
  obtain ⟨a, b⟩ := hsc (δ' := δ1) w2 w1
  have hQ := hQ δ1 a b
  by_cases hac : acK S.1
  · rw [cif_t hac] at hQ
    rw [(w3 hac).1]
    exact hQ
  · rw [cif_f hac] at hQ
    rw [w4 hac]
    exact hQ
theorem oq_nd_y {m : Nat} {k q : Nat} (hk : k < (nds K m).length) (hq : q < 5) : oq_nd K m (k : Int) (q : Int) = ndv ((nds K m)[k]'hk) q := by
  unfold oq_nd
  rw [cif_t ⟨by omega, by omega, by omega, by omega⟩, Int.toNat_natCast, Int.toNat_natCast, List.getD_eq_getElem?_getD, List.getElem?_eq_getElem hk]
  rfl
theorem m_node {k q : Int} (hk : go_iI k) (hq : go_iI q) (h : mx_at δ S) (hQ : ∀ δ', mx_at δ' S → fl δ δ' → Q [vv_I (oq_node S.1 k q)] go_φ δ') : Go E (d + 6) (0, 0) mx_X12_node go_φ 0 [(0, vv_A 94), (1, vv_I k), (2, vv_I q)] [] δ Q := by
  refine go_aload_n (i := 0) dx_X12_node_0 rfl rfl ?_
  refine go_iconst dx_X12_node_1 ?_
  refine go_putI fp_X12_139 rfl rfl (go_ok rfl rfl) dx_X12_node_2 ?_
  have h := mx_thr (v := 0) h
  have f0 : fl δ (wr δ 94 0 0) := fl_thr
  generalize wr δ 94 0 0 = δ0 at h f0 ⊢
  have hQ := fun δ' a (b : fl δ0 δ') => hQ δ' a (fl_tr f0 b)
  have hsc := @mx_of δ0 S h
  have hb := h.1.1
  have hlaid := h.2
  have ho := bo_of hb
  have hR := ho.1
  have hK := hb.2.2.2.2
  unfold oq_node at hQ
  refine go_aload_n (i := 0) dx_X12_node_5 rfl rfl ?_
  refine go_lconst (x := 0) dx_X12_node_6 rfl ?_
  refine go_asL (y := ((0 : Nat) : Int)) (by rfl) ?_
  refine go_cV1 sv_X12_352 (go_ok rfl rfl) dx_X12_node_7 (Nat.le_of_ble_eq_true rfl) (Nat.le_of_ble_eq_true rfl) (m_laysTree (m := 0) hb hlaid (fun w => ⟨(toK_ac hK).mp w, Or.inl rfl⟩) (by decide) (fun δ1 w1 w2 w3 w4 => ?_))
  obtain ⟨a, b⟩ := hsc (δ' := δ1) w2 w1
  have hQ := hQ δ1 a b
  by_cases hac : acK S.1
  · rw [cif_t hac] at hQ
    have w3 := w3 hac
    obtain ⟨hl, _⟩ := nds_len hK ((toK_ac hK).mp hac) (by decide) (Or.inl rfl)
    refine go_iload_n (i := 1) dx_X12_node_10 rfl rfl ?_
    refine go_i2l dx_X12_node_11 (by omega) ?_
    refine go_lconst (x := 0) dx_X12_node_12 rfl ?_
    refine go_aload_n (i := 0) dx_X12_node_13 rfl rfl ?_
    refine go_getI fs_X12_336 (Or.inl rfl) (go_ok rfl rfl) dx_X12_node_14 ?_
    refine go_asI (y := ((nds S.1 0).length : Int)) (by exact w3.1) ?_
    refine go_iconst dx_X12_node_17 ?_
    refine go_isub dx_X12_node_18 ?_
    refine go_i2l dx_X12_node_19 (by omega) ?_
    refine go_cS3 ss_X12_144 dx_X12_node_20 (Nat.le_of_ble_eq_true rfl) (Nat.le_of_ble_eq_true rfl) (m_within (by omega) (by omega) (by omega) (fun a1 a2 => ?_) (fun b1 => ?_))
    · refine go_if_eq (tgt := 47) dx_X12_node_23 rfl (by omega) (fun c23 => absurd c23 (by decide)) (fun c23 => ?_)
      refine go_iload_n (i := 2) dx_X12_node_26 rfl rfl ?_
      refine go_i2l dx_X12_node_27 (by omega) ?_
      refine go_lconst (x := 0) dx_X12_node_28 rfl ?_
      refine go_ldc2 (x := 4) kx_X12_356 dx_X12_node_29 ?_
      refine go_cS3 ss_X12_144 dx_X12_node_32 (Nat.le_of_ble_eq_true rfl) (Nat.le_of_ble_eq_true rfl) (m_within (by omega) (by omega) (by omega) (fun a3 a4 => ?_) (fun b2 => ?_))
      · refine go_if_eq (tgt := 47) dx_X12_node_35 rfl (by omega) (fun c35 => absurd c35 (by decide)) (fun c35 => ?_)
        obtain ⟨p, rfl⟩ : ∃ p : Nat, k = (p : Int) := ⟨k.toNat, by omega⟩
        obtain ⟨u, rfl⟩ : ∃ u : Nat, q = (u : Int) := ⟨q.toNat, by omega⟩
        have hp : p < (nds S.1 0).length := by omega
        rw [oq_nd_y hp (by omega)] at hQ
        refine go_aload_n (i := 0) dx_X12_node_38 rfl rfl ?_
        refine go_iload_n (i := 1) dx_X12_node_39 rfl rfl ?_
        refine go_iload_n (i := 2) dx_X12_node_40 rfl rfl ?_
        refine go_cV2 sv_X12_358 (go_ok rfl rfl) dx_X12_node_41 (Nat.le_of_ble_eq_true rfl) (Nat.le_of_ble_eq_true rfl) (m_nodeBy w3 hl hp (by omega) ?_)
        refine go_goto (tgt := 49) dx_X12_node_44 rfl ?_
        refine go_ireturn dx_X12_node_49 rfl (Nat.le_refl _) (Nat.le_refl _) ?_
        exact hQ
      · refine go_if_eq (tgt := 47) dx_X12_node_35 rfl (by omega) (fun c35 => ?_) (fun c35 => absurd c35 (by decide))
        refine go_bipush dx_X12_node_47 rfl ?_
        refine go_ireturn dx_X12_node_49 rfl (Nat.le_refl _) (Nat.le_refl _) ?_
        rw [show oq_nd S.1 0 k q = -2 from cif_f (by omega)] at hQ
        exact hQ
    · refine go_if_eq (tgt := 47) dx_X12_node_23 rfl (by omega) (fun c23 => ?_) (fun c23 => absurd c23 (by decide))
      refine go_bipush dx_X12_node_47 rfl ?_
      refine go_ireturn dx_X12_node_49 rfl (Nat.le_refl _) (Nat.le_refl _) ?_
      rw [show oq_nd S.1 0 k q = -2 from cif_f (by omega)] at hQ
      exact hQ
  · rw [cif_f hac] at hQ
    have w4 := w4 hac
    refine go_iload_n (i := 1) dx_X12_node_10 rfl rfl ?_
    refine go_i2l dx_X12_node_11 (by omega) ?_
    refine go_lconst (x := 0) dx_X12_node_12 rfl ?_
    refine go_aload_n (i := 0) dx_X12_node_13 rfl rfl ?_
    refine go_getI fs_X12_336 (Or.inl rfl) (go_ok rfl rfl) dx_X12_node_14 ?_
    refine go_asI (y := 0) (by exact w4) ?_
    refine go_iconst dx_X12_node_17 ?_
    refine go_isub dx_X12_node_18 ?_
    refine go_i2l dx_X12_node_19 (by omega) ?_
    refine go_cS3 ss_X12_144 dx_X12_node_20 (Nat.le_of_ble_eq_true rfl) (Nat.le_of_ble_eq_true rfl) (m_within (by omega) (by omega) (by omega) (fun a1 a2 => absurd a2 (by omega)) (fun b1 => ?_))
    refine go_if_eq (tgt := 47) dx_X12_node_23 rfl (by omega) (fun c23 => ?_) (fun c23 => absurd c23 (by decide))
    refine go_bipush dx_X12_node_47 rfl ?_
    refine go_ireturn dx_X12_node_49 rfl (Nat.le_refl _) (Nat.le_refl _) ?_
    exact hQ
theorem m_tree {m k q : Int} (hm : go_iI m) (hk : go_iI k) (hq : go_iI q) (h : mx_at δ S) (hQ : ∀ δ', mx_at δ' S → fl δ δ' → Q [vv_I (oq_tree S.1 m k q)] go_φ δ') : Go E (d + 6) (0, 0) mx_X12_tree go_φ 0 [(0, vv_A 94), (1, vv_I m), (2, vv_I k), (3, vv_I q)] [] δ Q := by
  refine go_aload_n (i := 0) dx_X12_tree_0 rfl rfl ?_
  refine go_iconst dx_X12_tree_1 ?_
  refine go_putI fp_X12_139 rfl rfl (go_ok rfl rfl) dx_X12_tree_2 ?_
  have h := mx_thr (v := 0) h
  have f0 : fl δ (wr δ 94 0 0) := fl_thr
  generalize wr δ 94 0 0 = δ0 at h f0 ⊢
  have hQ := fun δ' a (b : fl δ0 δ') => hQ δ' a (fl_tr f0 b)
  have hsc := @mx_of δ0 S h
  have hb := h.1.1
  have hlaid := h.2
  have ho := bo_of hb
  have hR := ho.1
  have hK := hb.2.2.2.2
  have h14 := hK.2.2.2.2.1
  have ht8 := hK.2.2.2.1
  have l95 : go_ln 95 = 384 := rfl
  have l111 : go_ln 111 = 2048 := rfl
  unfold oq_tree at hQ
  have tail : ∀ δ1, bk_at δ1 95 0 S.1 → ml_at δ1 S.1 → (∀ c j, ¬ sc c j → δ1 c j = δ0 c j) → Go E (d + 6) (0, 0) mx_X12_tree go_φ 42 [(0, vv_A 94), (1, vv_I m), (2, vv_I k), (3, vv_I q), (4, vv_L (st (toK S.1)))] [] δ1 Q := fun δ1 hb1 hl1 fr1 => by
    obtain ⟨a, b⟩ := hsc (δ' := δ1) fr1 hl1
    have hQ1 := hQ δ1 a b
    by_cases hM : toK S.1 ≤ MX
    · rw [cif_f (fun w => w hM)] at hQ1
      have hMX := MX_eq
      rw [st_le hM]
      refine go_lload dx_X12_tree_42 rfl ?_
      refine go_ldc2 (x := (-7)) kx_X12_288 dx_X12_tree_44 ?_
      refine go_lcmp_ne (tgt := 54) dx_X12_tree_47 dx_X12_tree_48 rfl (by omega) (by omega) (fun c47 => ?_) (fun c47 => by exact absurd c47 (by omega))
      refine go_iload_n (i := 1) dx_X12_tree_54 rfl rfl ?_
      refine go_if_lt (tgt := 66) dx_X12_tree_55 rfl (by omega) (fun c55 => ?_) (fun c55 => ?_)
      · refine go_bipush dx_X12_tree_66 rfl ?_
        refine go_ireturn dx_X12_tree_68 rfl (Nat.le_refl _) (Nat.le_refl _) ?_
        rw [cif_f (by omega)] at hQ1
        exact hQ1
      · refine go_iload_n (i := 1) dx_X12_tree_58 rfl rfl ?_
        refine go_i2l dx_X12_tree_59 (by omega) ?_
        refine go_lload dx_X12_tree_60 rfl ?_
        refine go_lcmp_lt (tgt := 69) dx_X12_tree_62 dx_X12_tree_63 rfl (by omega) (by omega) (fun c62 => ?_) (fun c62 => ?_)
        · obtain ⟨t, rfl⟩ : ∃ t : Nat, m = (t : Int) := ⟨m.toNat, by omega⟩
          have ht : t < toK S.1 := by omega
          have hac : acK S.1 := (toK_ac hK).mpr (by omega)
          obtain ⟨hl, _⟩ := nds_len hK ht (by omega) (Or.inr hM)
          refine go_aload_n (i := 0) dx_X12_tree_69 rfl rfl ?_
          refine go_iload_n (i := 1) dx_X12_tree_70 rfl rfl ?_
          refine go_i2l dx_X12_tree_71 (by omega) ?_
          refine go_cV1 sv_X12_352 (go_ok rfl rfl) dx_X12_tree_72 (Nat.le_of_ble_eq_true rfl) (Nat.le_of_ble_eq_true rfl) (m_laysTree (m := t) hb1 hl1 (fun _ => ⟨ht, Or.inr hM⟩) (by omega) (fun δ2 w1 w2 w3 w4 => ?_))
          obtain ⟨a, b⟩ := hsc (δ' := δ2) (fun c j hc => by rw [w2 c j hc, fr1 c j hc]) w1
          have hQ := hQ δ2 a b
          rw [cif_f (fun w => w hM), cif_t ⟨by omega, by omega⟩, Int.toNat_natCast] at hQ
          have w3 := w3 hac
          refine go_iload_n (i := 2) dx_X12_tree_75 rfl rfl ?_
          refine go_i2l dx_X12_tree_76 (by omega) ?_
          refine go_ldc2 (x := (-1)) kx_X12_361 dx_X12_tree_77 ?_
          refine go_aload_n (i := 0) dx_X12_tree_80 rfl rfl ?_
          refine go_getI fs_X12_336 (Or.inl rfl) (go_ok rfl rfl) dx_X12_tree_81 ?_
          refine go_asI (y := ((nds S.1 t).length : Int)) (by exact w3.1) ?_
          refine go_iconst dx_X12_tree_84 ?_
          refine go_isub dx_X12_tree_85 ?_
          refine go_i2l dx_X12_tree_86 (by omega) ?_
          refine go_cS3 ss_X12_144 dx_X12_tree_87 (Nat.le_of_ble_eq_true rfl) (Nat.le_of_ble_eq_true rfl) (m_within (by omega) (by omega) (by omega) (fun a1 a2 => ?_) (fun b1 => ?_))
          · refine go_if_eq (tgt := 105) dx_X12_tree_90 rfl (by omega) (fun c90 => absurd c90 (by decide)) (fun c90 => ?_)
            refine go_iload_n (i := 3) dx_X12_tree_93 rfl rfl ?_
            refine go_i2l dx_X12_tree_94 (by omega) ?_
            refine go_lconst (x := 0) dx_X12_tree_95 rfl ?_
            refine go_ldc2 (x := 4) kx_X12_356 dx_X12_tree_96 ?_
            refine go_cS3 ss_X12_144 dx_X12_tree_99 (Nat.le_of_ble_eq_true rfl) (Nat.le_of_ble_eq_true rfl) (m_within (by omega) (by omega) (by omega) (fun a3 a4 => ?_) (fun b2 => ?_))
            · refine go_if_ne (tgt := 108) dx_X12_tree_102 rfl (by omega) (fun c102 => ?_) (fun c102 => absurd c102 (by decide))
              refine go_iload_n (i := 2) dx_X12_tree_108 rfl rfl ?_
              refine go_iconst dx_X12_tree_109 ?_
              refine go_icmp_ne (tgt := 120) dx_X12_tree_110 rfl (by omega) (by omega) (fun c110 => ?_) (fun c110 => ?_)
              · obtain ⟨p, rfl⟩ : ∃ p : Nat, k = (p : Int) := ⟨k.toNat, by omega⟩
                obtain ⟨u, rfl⟩ : ∃ u : Nat, q = (u : Int) := ⟨q.toNat, by omega⟩
                have hp : p < (nds S.1 t).length := by omega
                rw [cif_f (by omega), oq_nd_y hp (by omega)] at hQ
                refine go_aload_n (i := 0) dx_X12_tree_120 rfl rfl ?_
                refine go_iload_n (i := 2) dx_X12_tree_121 rfl rfl ?_
                refine go_iload_n (i := 3) dx_X12_tree_122 rfl rfl ?_
                refine go_cV2 sv_X12_358 (go_ok rfl rfl) dx_X12_tree_123 (Nat.le_of_ble_eq_true rfl) (Nat.le_of_ble_eq_true rfl) (m_nodeBy w3 hl hp (by omega) ?_)
                refine go_ireturn dx_X12_tree_126 rfl (Nat.le_refl _) (Nat.le_refl _) ?_
                exact hQ
              · refine go_aload_n (i := 0) dx_X12_tree_113 rfl rfl ?_
                refine go_getI fs_X12_336 (Or.inl rfl) (go_ok rfl rfl) dx_X12_tree_114 ?_
                refine go_asI (y := ((nds S.1 t).length : Int)) (by exact w3.1) ?_
                refine go_goto (tgt := 126) dx_X12_tree_117 rfl ?_
                refine go_ireturn dx_X12_tree_126 rfl (Nat.le_refl _) (Nat.le_refl _) ?_
                rw [cif_t (by omega), cif_t (by omega)] at hQ
                exact hQ
            · refine go_if_ne (tgt := 108) dx_X12_tree_102 rfl (by omega) (fun c102 => absurd c102 (by decide)) (fun c102 => ?_)
              refine go_bipush dx_X12_tree_105 rfl ?_
              refine go_ireturn dx_X12_tree_107 rfl (Nat.le_refl _) (Nat.le_refl _) ?_
              by_cases e : k = -1
              · rw [cif_t e, cif_f (by omega)] at hQ
                exact hQ
              · rw [cif_f e, show oq_nd S.1 t k q = -2 from cif_f (by omega)] at hQ
                exact hQ
          · refine go_if_eq (tgt := 105) dx_X12_tree_90 rfl (by omega) (fun c90 => ?_) (fun c90 => absurd c90 (by decide))
            refine go_bipush dx_X12_tree_105 rfl ?_
            refine go_ireturn dx_X12_tree_107 rfl (Nat.le_refl _) (Nat.le_refl _) ?_
            by_cases e : k = -1
            · rw [cif_t e, cif_f (by omega)] at hQ
              exact hQ
            · rw [cif_f e, show oq_nd S.1 t k q = -2 from cif_f (by omega)] at hQ
              exact hQ
        · refine go_bipush dx_X12_tree_66 rfl ?_
          refine go_ireturn dx_X12_tree_68 rfl (Nat.le_refl _) (Nat.le_refl _) ?_
          rw [cif_f (by omega)] at hQ1
          exact hQ1
    · rw [cif_t hM] at hQ1
      rw [st_gt hM]
      refine go_lload dx_X12_tree_42 rfl ?_
      refine go_ldc2 (x := (-7)) kx_X12_288 dx_X12_tree_44 ?_
      refine go_lcmp_ne (tgt := 54) dx_X12_tree_47 dx_X12_tree_48 rfl (by omega) (by omega) (fun c47 => by exact absurd rfl c47) (fun c47 => ?_)
      refine go_bipush dx_X12_tree_51 rfl ?_
      refine go_ireturn dx_X12_tree_53 rfl (Nat.le_refl _) (Nat.le_refl _) ?_
      exact hQ1
  refine go_lconst (x := 0) dx_X12_tree_5 rfl ?_
  refine go_lstore (lv' := [(0, vv_A 94), (1, vv_I m), (2, vv_I k), (3, vv_I q), (4, vv_L 0)]) dx_X12_tree_6 (by decide) rfl ?_
  refine go_aload_n (i := 0) dx_X12_tree_8 rfl rfl ?_
  refine go_cV0 sv_X12_272 (go_ok rfl rfl) dx_X12_tree_9 (Nat.le_of_ble_eq_true rfl) (Nat.le_of_ble_eq_true rfl) (m_isAccepted hb hlaid (fun δ1 w1 w2 w3 w4 f1 => ?_))
  refine go_b_eq (tgt := 42) dx_X12_tree_12 rfl (fun c12 => ?_) (fun c12 => ?_)
  · have fr1 : ∀ c j, ¬ sc c j → δ1 c j = δ0 c j := fun c j hc => by unfold sc at hc; rw [f1 c j (by unfold mfP mqP; omega) (by omega) (by omega)]
    have t := tail δ1 (bk_fr hb (fun j => fr1 95 j (by unfold sc; omega))) (ml_1 w1 w2 w3) fr1
    have hna : ¬ acK S.1 := by assumption
    have h0 : toK S.1 = 0 := Nat.eq_zero_of_not_pos (fun q => hna ((toK_ac hK).mpr q))
    rw [h0, st_0] at t
    exact t
  · have hac : acK S.1 := by assumption
    have fr1 : ∀ c j, ¬ sc c j → δ1 c j = δ0 c j := fun c j hc => by unfold sc at hc; rw [f1 c j (by unfold mfP mqP; omega) (by omega) (by omega)]
    have hb1 : bk_at δ1 95 0 S.1 := bk_fr hb (fun j => fr1 95 j (by unfold sc; omega))
    refine go_aload_n (i := 0) dx_X12_tree_15 rfl rfl ?_
    refine go_cV0 sv_X12_319 (go_ok rfl rfl) dx_X12_tree_16 (Nat.le_of_ble_eq_true rfl) (Nat.le_of_ble_eq_true rfl) (m_laysTrees hb1 (ml_1 w1 w2 w3) (fun δ2 v1 v2 v3 v4 v5 f2 => ?_))
    have fr2 : ∀ c j, ¬ sc c j → δ2 c j = δ0 c j := fun c j hc => by have := fr1 c j hc; unfold sc at hc; rw [f2 c j (by unfold ltc; omega), this]
    have hb2 : bk_at δ2 95 0 S.1 := bk_fr hb (fun j => fr2 95 j (by unfold sc; omega))
    have e112 : δ2 95 112 = (S.1.2.1 : Int) := by have := hb2.2.1; rwa [Nat.zero_add] at this
    have hn0 := dp_lt hac
    refine go_aload_n (i := 0) dx_X12_tree_19 rfl rfl ?_
    refine go_getA (b := 111) fs_X12_64 rfl (go_ok rfl rfl) rfl dx_X12_tree_20 ?_
    refine go_sipush dx_X12_tree_23 rfl ?_
    refine go_aload_n (i := 0) dx_X12_tree_26 rfl rfl ?_
    refine go_getA (b := 95) fs_X12_7 rfl (go_ok rfl rfl) rfl dx_X12_tree_27 ?_
    refine go_bipush dx_X12_tree_30 rfl ?_
    refine go_ialoadV (i := 112) (v := ((S.1.2.1 : Int))) dx_X12_tree_32 (go_ok rfl rfl) (by omega) (show 112 < 384 by omega) (by exact e112) ?_
    refine go_imul dx_X12_tree_33 ?_
    refine go_aload_n (i := 0) dx_X12_tree_34 rfl rfl ?_
    refine go_cV0 sv_X12_253 (go_ok rfl rfl) dx_X12_tree_35 (Nat.le_of_ble_eq_true rfl) (Nat.le_of_ble_eq_true rfl) (m_letters hb2 ?_)
    refine go_iadd dx_X12_tree_38 ?_
    refine go_laloadV (i := (256 * S.1.2.1 + 16 * 0 + S.1.2.2.length)) (v := ((st (toK S.1)))) dx_X12_tree_39 (go_ok rfl rfl) (by omega) (show (256 * S.1.2.1 + 16 * 0 + S.1.2.2.length) < 2048 by omega) (by exact v4 S.1.2.1 0 S.1.2.2.length ht8 hn0 (Nat.le_refl _) (by omega)) ?_
    refine go_lstore (lv' := [(0, vv_A 94), (1, vv_I m), (2, vv_I k), (3, vv_I q), (4, vv_L ((st (toK S.1))))]) dx_X12_tree_40 (by decide) rfl ?_
    exact tail δ2 hb2 (ml_1 v1 v2 v3) fr2
theorem m_formStep {c l : List Nat} {n r P : Nat} {m : Int} (ho : bo_at δ K.1) (hr : r < 16) (hcr : K.1 r = c) (hne : c ≠ []) (hn : n < 240) (hnr : δ 115 n = (r : Int)) (h : fq_at δ l) (hl : l.length ≤ 14) (hy : ∀ y ∈ l, y < 14) (hP : P < l.length) (h1 : l.getD P 0 < 8) (h2 : ∀ q, q < P → 8 ≤ l.getD q 0)
    (hQ : ∀ δ', fq_at δ' (rpl (c.drop 1) l) → (∀ c q, c ≠ 124 → (c = 94 → q ≠ 41) → δ' c q = δ c q) → Go E (d + 6) (0, 0) mx_X12_laysForm go_φ 48 [(0, vv_A 94), (1, vv_I m), (2, vv_I ((n + 1 : Nat) : Int))] [] δ' Q) :
    Go E (d + 6) (0, 0) mx_X12_laysForm go_φ 53 [(0, vv_A 94), (1, vv_I m), (2, vv_I (n : Int))] [] δ Q := by
  have l115 : go_ln 115 = 240 := rfl
  have l124 : go_ln 124 = 20 := rfl
  obtain ⟨g1, g2⟩ := h
  have hc := ho.1 r
  rw [hcr] at hc
  have hc2 : 2 ≤ c.length ∧ c.length ≤ 6 := by
    rcases hc with q | q
    · exact absurd q hne
    · exact ⟨q.1, q.2.1⟩
  have hdl : (c.drop 1).length = c.length - 1 := List.length_drop
  obtain ⟨p1, p2, p3, p4⟩ := rpl_get (ps := c.drop 1) hP h1 h2 (by omega)
  rw [hdl] at p1 p3 p4
  have lnr : ∀ δ1, (∀ a b, a ≠ 124 → δ1 a b = δ a b) → bo_at δ1 K.1 := fun δ1 f => bo_fr ho (fun j _ => f 95 j (by decide))
  -- the parts
  have fill := lp_up (X := Nat → Nat → Int) (hi := c.length - 1) (I := fun i δ1 => (∀ k, k < P → δ1 124 k = ((l.getD k 0 : Nat) : Int)) ∧ (∀ k, k < i → δ1 124 (P + k) = ((c.getD (k + 1) 0 : Nat) : Int)) ∧ (∀ k, P < k → k < l.length → δ1 124 (k + (c.length - 2)) = ((l.getD k 0 : Nat) : Int)) ∧ (∀ a b, a ≠ 124 → δ1 a b = δ a b))
    (G := fun i δ1 => ∀ lv0, lv0 = [(0, vv_A 94), (1, vv_I m), (2, vv_I (n : Int)), (3, vv_I (P : Int)), (4, vv_I ((c.length - 2 : Nat) : Int)), (5, vv_I (i : Int))] → Go E (d + 6) (0, 0) mx_X12_laysForm go_φ 127 lv0 [] δ1 Q)
    (fun i δ1 hi hI ih lv0 e0 => by
      subst e0
      obtain ⟨i1, i2, i3, i4⟩ := hI
      have hlc : (K.1 r).length = c.length := by rw [hcr]
      refine go_iload dx_X12_laysForm_127 rfl ?_
      refine go_iload dx_X12_laysForm_129 rfl ?_
      refine go_icmp_gt (tgt := 161) dx_X12_laysForm_131 rfl (by omega) (by omega) (fun c131 => by exact absurd c131 (by omega)) (fun c131 => ?_)
      refine go_aload_n (i := 0) dx_X12_laysForm_134 rfl rfl ?_
      refine go_getA (b := 124) fs_X12_103 rfl (go_ok rfl rfl) rfl dx_X12_laysForm_135 ?_
      refine go_iload_n (i := 3) dx_X12_laysForm_138 rfl rfl ?_
      refine go_iload dx_X12_laysForm_139 rfl ?_
      refine go_iadd dx_X12_laysForm_141 ?_
      refine go_aload_n (i := 0) dx_X12_laysForm_142 rfl rfl ?_
      refine go_aload_n (i := 0) dx_X12_laysForm_143 rfl rfl ?_
      refine go_getA (b := 115) fs_X12_76 rfl (go_ok rfl rfl) rfl dx_X12_laysForm_144 ?_
      refine go_iload_n (i := 2) dx_X12_laysForm_147 rfl rfl ?_
      refine go_ialoadV (i := n) (v := ((r : Int))) dx_X12_laysForm_148 (go_ok rfl rfl) (by omega) (show n < 240 by omega) (by rw [i4 _ _ (by decide)]; exact hnr) ?_
      refine go_iload dx_X12_laysForm_149 rfl ?_
      refine go_cV2 sv_X12_190 (go_ok rfl rfl) dx_X12_laysForm_151 (Nat.le_of_ble_eq_true rfl) (Nat.le_of_ble_eq_true rfl) (o_partOf (lnr _ i4) hr (by omega) ?_)
      refine go_asI (y := ((c.getD (i + 1) 0 : Nat) : Int)) (by rw [hcr]) ?_
      refine go_iastoreV (i := P + i) dx_X12_laysForm_154 (go_ok rfl rfl) (by omega) (show P + i < 20 by omega) ?_
      refine go_iinc (lv' := [(0, vv_A 94), (1, vv_I m), (2, vv_I (n : Int)), (3, vv_I (P : Int)), (4, vv_I ((c.length - 2 : Nat) : Int)), (5, vv_I ((i : Int) + 1))]) dx_X12_laysForm_155 rfl (by decide) rfl ?_
      refine go_goto (tgt := 127) dx_X12_laysForm_158 rfl ?_
      refine ih _ ⟨fun k hk => ?_, fun k hk => ?_, fun k hk hk2 => ?_, fun a b ha => by rw [wr_a _ _ _ _ ha]; exact i4 a b ha⟩ _ rfl
      · rw [wr_i _ _ _ _ (by omega)]; exact i1 k hk
      · by_cases e : k = i
        · subst e; exact wr_eq _ _ _ _
        · rw [wr_i _ _ _ _ (by omega)]; exact i2 k (by omega)
      · rw [wr_i _ _ _ _ (by omega)]; exact i3 k hk hk2
    ) (fun δ1 hI lv0 e0 => by
      subst e0
      obtain ⟨i1, i2, i3, i4⟩ := hI
      refine go_iload dx_X12_laysForm_127 rfl ?_
      refine go_iload dx_X12_laysForm_129 rfl ?_
      refine go_icmp_gt (tgt := 161) dx_X12_laysForm_131 rfl (by omega) (by omega) (fun c131 => ?_) (fun c131 => by exact absurd c131 (by omega))
      refine go_aload_n (i := 0) dx_X12_laysForm_161 rfl rfl ?_
      refine go_dup dx_X12_laysForm_162 rfl ?_
      refine go_getI fs_X12_363 (Or.inl rfl) (go_ok rfl rfl) dx_X12_laysForm_163 ?_
      refine go_asI (y := (l.length : Int)) (by rw [i4 _ _ (by decide)]; exact g1) ?_
      refine go_iload dx_X12_laysForm_166 rfl ?_
      refine go_iadd dx_X12_laysForm_168 ?_
      refine go_putI fp_X12_363 rfl rfl (go_ok rfl rfl) dx_X12_laysForm_169 ?_
      refine go_iinc (lv' := [(0, vv_A 94), (1, vv_I m), (2, vv_I ((n : Int) + 1)), (3, vv_I (P : Int)), (4, vv_I ((c.length - 2 : Nat) : Int)), (5, vv_I ((c.length - 1 : Nat) : Int))]) dx_X12_laysForm_172 rfl (by decide) rfl ?_
      refine go_goto (tgt := 48) dx_X12_laysForm_175 rfl ?_
      refine go_keep [0, 1, 2] rfl ?_
      refine hQ _ ⟨?_, fun k hk => ?_⟩ (fun a b h1 h2 => by rw [wr_n (by omega)]; exact i4 a b h1)
      · rw [wr_eq, p1]; omega
      · rw [p1] at hk
        rw [wr_a _ _ _ _ (by decide)]
        by_cases e1 : k < P
        · rw [i1 k e1, p2 k e1]
        · by_cases e2 : k < P + (c.length - 1)
          · obtain ⟨q, rfl⟩ : ∃ q, k = P + q := ⟨k - P, by omega⟩
            rw [i2 q (by omega), p3 q (by omega)]
            congr 1
            simp only [List.getD_eq_getElem?_getD, List.getElem?_drop, Nat.add_comm 1 q]
          · obtain ⟨q, rfl⟩ : ∃ q, k = q + (c.length - 2) := ⟨k - (c.length - 2), by omega⟩
            rw [i3 q (by omega) (by omega)]
            have := p4 q (by omega)
            rw [show c.length - 1 - 1 = c.length - 2 by omega] at this
            rw [this]
    )
  -- the shift
  have shift := lp_dn (X := Nat → Nat → Int) (I := fun t δ1 => P + t < l.length ∧ (∀ k, k ≤ P + t → δ1 124 k = ((l.getD k 0 : Nat) : Int)) ∧ (∀ k, P + t < k → k < l.length → δ1 124 (k + (c.length - 2)) = ((l.getD k 0 : Nat) : Int)) ∧ (∀ a b, a ≠ 124 → δ1 a b = δ a b))
    (G := fun t δ1 => Go E (d + 6) (0, 0) mx_X12_laysForm go_φ 95 [(0, vv_A 94), (1, vv_I m), (2, vv_I (n : Int)), (3, vv_I (P : Int)), (4, vv_I ((c.length - 2 : Nat) : Int)), (5, vv_I ((P : Int) + t))] [] δ1 Q)
    (fun t δ1 hI ih => by
      obtain ⟨i0, i1, i2, i3⟩ := hI
      refine go_iload dx_X12_laysForm_95 rfl ?_
      refine go_iload_n (i := 3) dx_X12_laysForm_97 rfl rfl ?_
      refine go_icmp_le (tgt := 124) dx_X12_laysForm_98 rfl (by omega) (by omega) (fun c98 => by exact absurd c98 (by omega)) (fun c98 => ?_)
      refine go_aload_n (i := 0) dx_X12_laysForm_101 rfl rfl ?_
      refine go_getA (b := 124) fs_X12_103 rfl (go_ok rfl rfl) rfl dx_X12_laysForm_102 ?_
      refine go_iload dx_X12_laysForm_105 rfl ?_
      refine go_iload dx_X12_laysForm_107 rfl ?_
      refine go_iadd dx_X12_laysForm_109 ?_
      refine go_aload_n (i := 0) dx_X12_laysForm_110 rfl rfl ?_
      refine go_getA (b := 124) fs_X12_103 rfl (go_ok rfl rfl) rfl dx_X12_laysForm_111 ?_
      refine go_iload dx_X12_laysForm_114 rfl ?_
      refine go_ialoadV (i := (P + (t + 1))) (v := (((l.getD (P + (t + 1)) 0 : Nat) : Int))) dx_X12_laysForm_116 (go_ok rfl rfl) (by omega) (show (P + (t + 1)) < 20 by omega) (by exact i1 _ (Nat.le_refl _)) ?_
      refine go_iastoreV (i := P + (t + 1) + (c.length - 2)) dx_X12_laysForm_117 (go_ok rfl rfl) (by omega) (show P + (t + 1) + (c.length - 2) < 20 by omega) ?_
      refine go_iinc (lv' := [(0, vv_A 94), (1, vv_I m), (2, vv_I (n : Int)), (3, vv_I (P : Int)), (4, vv_I ((c.length - 2 : Nat) : Int)), (5, vv_I (((P : Int) + ((t + 1 : Nat) : Int)) + (-1)))]) dx_X12_laysForm_118 rfl (by decide) rfl ?_
      refine go_goto (tgt := 95) dx_X12_laysForm_121 rfl ?_
      rw [show (P : Int) + ((t + 1 : Nat) : Int) + (-1) = (P : Int) + t by omega]
      refine ih _ ⟨by omega, fun k hk => ?_, fun k hk hk2 => ?_, fun a b ha => by rw [wr_a _ _ _ _ ha]; exact i3 a b ha⟩
      · rw [wr_i _ _ _ _ (by omega)]; exact i1 k (by omega)
      · by_cases e : k = P + (t + 1)
        · subst e; exact wr_eq _ _ _ _
        · rw [wr_i _ _ _ _ (by omega)]; exact i2 k (by omega) hk2
    ) (fun δ1 hI => by
      obtain ⟨i0, i1, i2, i3⟩ := hI
      refine go_iload dx_X12_laysForm_95 rfl ?_
      refine go_iload_n (i := 3) dx_X12_laysForm_97 rfl rfl ?_
      refine go_icmp_le (tgt := 124) dx_X12_laysForm_98 rfl (by omega) (by omega) (fun c98 => ?_) (fun c98 => by exact absurd c98 (by omega))
      refine go_iconst dx_X12_laysForm_124 ?_
      refine go_istore (lv' := [(0, vv_A 94), (1, vv_I m), (2, vv_I (n : Int)), (3, vv_I (P : Int)), (4, vv_I ((c.length - 2 : Nat) : Int)), (5, vv_I 0)]) dx_X12_laysForm_125 (by decide) rfl ?_
      exact fill 0 δ1 (Nat.zero_le _) ⟨fun k hk => i1 k (by omega), fun k hk => absurd hk (Nat.not_lt_zero _), fun k hk hk2 => i2 k (by omega) hk2, i3⟩ _ rfl
    )
  have fpd : ∀ p, l.getD p 0 < 14 := fun p => fp_getD hy p
  -- the place
  have loop := lp_up (X := Unit) (hi := P) (I := fun _ _ => True)
    (G := fun p _ => ∀ lv0, lv0 = [(0, vv_A 94), (1, vv_I m), (2, vv_I (n : Int)), (3, vv_I (p : Int))] → Go E (d + 6) (0, 0) mx_X12_laysForm go_φ 55 lv0 [] δ Q)
    (fun p _ hp _ ih lv0 e0 => by
      subst e0
      have := h2 p hp
      have := fpd p
      refine go_aload_n (i := 0) dx_X12_laysForm_55 rfl rfl ?_
      refine go_getA (b := 124) fs_X12_103 rfl (go_ok rfl rfl) rfl dx_X12_laysForm_56 ?_
      refine go_iload_n (i := 3) dx_X12_laysForm_59 rfl rfl ?_
      refine go_ialoadV (i := p) (v := (((l.getD p 0 : Nat) : Int))) dx_X12_laysForm_60 (go_ok rfl rfl) (by omega) (show p < 20 by omega) (by exact g2 p (by omega)) ?_
      refine go_cS1 ss_X12_212 dx_X12_laysForm_61 (Nat.le_of_ble_eq_true rfl) (Nat.le_of_ble_eq_true rfl) (m_isSymbol (by omega) (fun a1 a2 => absurd a2 (by omega)) (fun b1 => ?_))
      refine go_if_ne (tgt := 73) dx_X12_laysForm_64 rfl (by omega) (fun c64 => absurd c64 (by decide)) (fun c64 => ?_)
      refine go_iinc (lv' := [(0, vv_A 94), (1, vv_I m), (2, vv_I (n : Int)), (3, vv_I ((p : Int) + 1))]) dx_X12_laysForm_67 rfl (by decide) rfl ?_
      refine go_goto (tgt := 55) dx_X12_laysForm_70 rfl ?_
      exact ih () trivial _ rfl
    ) (fun _ _ lv0 e0 => by
      subst e0
      have := fpd P
      refine go_aload_n (i := 0) dx_X12_laysForm_55 rfl rfl ?_
      refine go_getA (b := 124) fs_X12_103 rfl (go_ok rfl rfl) rfl dx_X12_laysForm_56 ?_
      refine go_iload_n (i := 3) dx_X12_laysForm_59 rfl rfl ?_
      refine go_ialoadV (i := P) (v := (((l.getD P 0 : Nat) : Int))) dx_X12_laysForm_60 (go_ok rfl rfl) (by omega) (show P < 20 by omega) (by exact g2 P (by omega)) ?_
      refine go_cS1 ss_X12_212 dx_X12_laysForm_61 (Nat.le_of_ble_eq_true rfl) (Nat.le_of_ble_eq_true rfl) (m_isSymbol (by omega) (fun a1 a2 => ?_) (fun b1 => absurd ⟨by omega, by omega⟩ b1))
      refine go_if_ne (tgt := 73) dx_X12_laysForm_64 rfl (by omega) (fun c64 => ?_) (fun c64 => absurd c64 (by decide))
      refine go_aload_n (i := 0) dx_X12_laysForm_73 rfl rfl ?_
      refine go_aload_n (i := 0) dx_X12_laysForm_74 rfl rfl ?_
      refine go_getA (b := 115) fs_X12_76 rfl (go_ok rfl rfl) rfl dx_X12_laysForm_75 ?_
      refine go_iload_n (i := 2) dx_X12_laysForm_78 rfl rfl ?_
      refine go_ialoadV (i := n) (v := ((r : Int))) dx_X12_laysForm_79 (go_ok rfl rfl) (by omega) (show n < 240 by omega) (by exact hnr) ?_
      refine go_cV1 sv_X12_148 (go_ok rfl rfl) dx_X12_laysForm_80 (Nat.le_of_ble_eq_true rfl) (Nat.le_of_ble_eq_true rfl) (o_longOf ho hr ?_)
      refine go_iconst dx_X12_laysForm_83 ?_
      refine go_isub dx_X12_laysForm_84 ?_
      refine go_asI (y := ((c.length - 2 : Nat) : Int)) (by rw [hcr]; omega) ?_
      refine go_istore (lv' := [(0, vv_A 94), (1, vv_I m), (2, vv_I (n : Int)), (3, vv_I (P : Int)), (4, vv_I ((c.length - 2 : Nat) : Int))]) dx_X12_laysForm_85 (by decide) rfl ?_
      refine go_aload_n (i := 0) dx_X12_laysForm_87 rfl rfl ?_
      refine go_getI fs_X12_363 (Or.inl rfl) (go_ok rfl rfl) dx_X12_laysForm_88 ?_
      refine go_asI (y := (l.length : Int)) (by exact g1) ?_
      refine go_iconst dx_X12_laysForm_91 ?_
      refine go_isub dx_X12_laysForm_92 ?_
      refine go_asI (y := ((P : Int) + ((l.length - 1 - P : Nat) : Int))) (by omega) ?_
      refine go_istore (lv' := [(0, vv_A 94), (1, vv_I m), (2, vv_I (n : Int)), (3, vv_I (P : Int)), (4, vv_I ((c.length - 2 : Nat) : Int)), (5, vv_I ((P : Int) + ((l.length - 1 - P : Nat) : Int)))]) dx_X12_laysForm_93 (by decide) rfl ?_
      exact shift (l.length - 1 - P) δ ⟨by omega, fun k hk => g2 k (by omega), fun k hk hk2 => absurd hk (by omega), fun _ _ _ => rfl⟩
    )
  refine go_iconst dx_X12_laysForm_53 ?_
  refine go_istore_n (i := 3) (lv' := [(0, vv_A 94), (1, vv_I m), (2, vv_I (n : Int)), (3, vv_I 0)]) dx_X12_laysForm_54 rfl (by decide) rfl ?_
  exact loop 0 () (Nat.zero_le _) trivial _ rfl
theorem m_laysForm {m : Int} (hm : go_iI m) (hb : bk_at δ 95 0 K) (hl : ml_at δ K)
    (hQ : ∀ δ', ml_at δ' K → (∀ c j, ¬ sc c j → δ' c j = δ c j) → (acK K ∧ 0 ≤ m ∧ m ≤ ((nds K 0).length : Int) → fq_at δ' (fms K m.toNat)) → Q [vv_I (b01 (acK K ∧ 0 ≤ m ∧ m ≤ ((nds K 0).length : Int)))] go_φ δ') :
    Go E (d + 6) (0, 0) mx_X12_laysForm go_φ 0 [(0, vv_A 94), (1, vv_I m)] [] δ Q := by
  have hK := hb.2.2.2.2
  have l95 : go_ln 95 = 384 := rfl
  have l124 : go_ln 124 = 20 := rfl
  refine go_aload_n (i := 0) dx_X12_laysForm_0 rfl rfl ?_
  refine go_lconst (x := 0) dx_X12_laysForm_1 rfl ?_
  refine go_asL (y := ((0 : Nat) : Int)) (by rfl) ?_
  refine go_cV1 sv_X12_352 (go_ok rfl rfl) dx_X12_laysForm_2 (Nat.le_of_ble_eq_true rfl) (Nat.le_of_ble_eq_true rfl) (m_laysTree (m := 0) hb hl (fun w => ⟨(toK_ac hK).mp w, Or.inl rfl⟩) (by decide) (fun δ1 w1 w2 w3 w4 => ?_))
  by_cases hac : acK K
  · have w3 := w3 hac
    have hn0 : 0 < K.2.2.length := dp_lt hac
    have ht0 : 0 < toK K := (toK_ac hK).mp hac
    obtain ⟨hlen, hnd⟩ := nds_len hK ht0 (by decide) (Or.inl rfl)
    have hfm := fm_ok hK hn0 ht0
    have hpos : 0 < (nds K 0).length := by
      obtain ⟨_, g⟩ := hfm 0 (Nat.zero_le _)
      refine Nat.pos_of_ne_zero (fun q => ?_)
      have ho := ltr_ok (m := 0) hK hn0 ht0 (by decide) (Or.inl rfl)
      have e : ltr2 K 0 = [lnd K.1 (plw K.2.2) [] (K.2.1, 0, K.2.2.length, 0, -1, 0)] ++ (ltr2 K 0).drop 1 := by
        obtain ⟨t, ht⟩ := lrn_pre (R := K.1) (pl := plw K.2.2) 215 ([] ++ [lnd K.1 (plw K.2.2) [] (K.2.1, 0, K.2.2.length, 0, -1, 0)]) (lch2 K.1 (plw K.2.2) (K.2.1, 0, K.2.2.length, 0, -1, 0) 0 ++ [])
        have : ltr2 K 0 = [lnd K.1 (plw K.2.2) [] (K.2.1, 0, K.2.2.length, 0, -1, 0)] ++ t := ht
        rw [this]
        rfl
      have q : (ltr2 K 0).length = 0 := q
      have := congrArg List.length e
      rw [List.length_append, List.length_singleton, q] at this
      omega
    refine go_aload_n (i := 0) dx_X12_laysForm_5 rfl rfl ?_
    refine go_getI fs_X12_336 (Or.inl rfl) (go_ok rfl rfl) dx_X12_laysForm_6 ?_
    refine go_asI (y := ((nds K 0).length : Int)) (by exact w3.1) ?_
    refine go_if_eq (tgt := 26) dx_X12_laysForm_9 rfl (by omega) (fun c9 => by exact absurd c9 (by omega)) (fun c9 => ?_)
    refine go_iload_n (i := 1) dx_X12_laysForm_12 rfl rfl ?_
    refine go_i2l dx_X12_laysForm_13 (by omega) ?_
    refine go_lconst (x := 0) dx_X12_laysForm_14 rfl ?_
    refine go_aload_n (i := 0) dx_X12_laysForm_15 rfl rfl ?_
    refine go_getI fs_X12_336 (Or.inl rfl) (go_ok rfl rfl) dx_X12_laysForm_16 ?_
    refine go_asI (y := ((nds K 0).length : Int)) (by exact w3.1) ?_
    refine go_i2l dx_X12_laysForm_19 (by omega) ?_
    refine go_cS3 ss_X12_144 dx_X12_laysForm_20 (Nat.le_of_ble_eq_true rfl) (Nat.le_of_ble_eq_true rfl) (m_within (by omega) (by omega) (by omega) (fun a1 a2 => ?_) (fun b1 => ?_))
    · refine go_if_ne (tgt := 28) dx_X12_laysForm_23 rfl (by omega) (fun c23 => ?_) (fun c23 => absurd c23 (by decide))
      obtain ⟨t, rfl⟩ : ∃ t : Nat, m = (t : Int) := ⟨m.toNat, by omega⟩
      have hb1 : bk_at δ1 95 0 K := bk_fr hb (fun j => w2 95 j (by unfold sc; omega))
      have e112 : δ1 95 112 = (K.2.1 : Int) := by have := hb1.2.1; rwa [Nat.zero_add] at this
      have loop := lp_up (X := Nat → Nat → Int) (hi := t) (I := fun k δ2 => fq_at δ2 (fms K k) ∧ (∀ c q, c ≠ 124 → (c = 94 → q ≠ 41) → δ2 c q = δ1 c q))
        (G := fun k δ2 => Go E (d + 6) (0, 0) mx_X12_laysForm go_φ 48 [(0, vv_A 94), (1, vv_I (t : Int)), (2, vv_I (k : Int))] [] δ2 Q)
        (fun k δ2 hk hI ih => by
          obtain ⟨i1, i2⟩ := hI
          have hkl : k < (nds K 0).length := by omega
          obtain ⟨f1, f2⟩ := hfm k (Nat.le_of_lt hkl)
          obtain ⟨P, q1, q2, q3⟩ := f2 hkl
          have hn := hnd _ (List.getElem_mem hkl)
          have e1 : (ltr2 K 0).getD k (0, 0, 0, 0, 0) = (nds K 0)[k] := by rw [List.getD_eq_getElem?_getD, show (ltr2 K 0)[k]? = some (nds K 0)[k] from List.getElem?_eq_getElem hkl]; rfl
          refine go_iload_n (i := 2) dx_X12_laysForm_48 rfl rfl ?_
          refine go_iload_n (i := 1) dx_X12_laysForm_49 rfl rfl ?_
          refine go_icmp_ge (tgt := 178) dx_X12_laysForm_50 rfl (by omega) (by omega) (fun c50 => by exact absurd c50 (by omega)) (fun c50 => ?_)
          refine m_formStep (K := K) (c := K.1 ((nds K 0)[k]'hkl).1) (r := ((nds K 0)[k]'hkl).1) (bo_fr (bo_of hb1) (fun q _ => i2 95 q (by decide) (by omega))) hn.1 rfl hn.2 (by omega) (by rw [i2 _ _ (by decide) (by omega)]; exact (w3.2 k hkl).1) i1 f1.1 f1.2 q1 q2 q3 (fun δ3 g1 g2 => ih δ3 ⟨?_, fun c q a b => by rw [g2 c q a b]; exact i2 c q a b⟩)
          show fq_at δ3 (rpl ((K.1 ((ltr2 K 0).getD k (0, 0, 0, 0, 0)).1).drop 1) (fmn K.1 K.2.1 (ltr2 K 0) k))
          rw [e1]
          exact g1
        ) (fun δ2 hI => by
          obtain ⟨i1, i2⟩ := hI
          refine go_iload_n (i := 2) dx_X12_laysForm_48 rfl rfl ?_
          refine go_iload_n (i := 1) dx_X12_laysForm_49 rfl rfl ?_
          refine go_icmp_ge (tgt := 178) dx_X12_laysForm_50 rfl (by omega) (by omega) (fun c50 => ?_) (fun c50 => by exact absurd c50 (by omega))
          refine go_iconst dx_X12_laysForm_178 ?_
          refine go_zreturn dx_X12_laysForm_179 rfl (by first | exact Or.inl rfl | exact Or.inr rfl | assumption | omega) (Nat.le_refl _) (Nat.le_refl _) ?_
          have hQ := hQ δ2 (ml_fr w1 (fun c j hc => i2 c j (by omega) (by omega))) (fun c j hc => by have := w2 c j hc; unfold sc at hc; rw [i2 c j (by omega) (by omega), this]) (fun _ => by rw [Int.toNat_natCast]; exact i1)
          rw [b01_t ⟨hac, by omega, by omega⟩] at hQ
          exact hQ
        )
      refine go_aload_n (i := 0) dx_X12_laysForm_28 rfl rfl ?_
      refine go_getA (b := 124) fs_X12_103 rfl (go_ok rfl rfl) rfl dx_X12_laysForm_29 ?_
      refine go_iconst dx_X12_laysForm_32 ?_
      refine go_aload_n (i := 0) dx_X12_laysForm_33 rfl rfl ?_
      refine go_getA (b := 95) fs_X12_7 rfl (go_ok rfl rfl) rfl dx_X12_laysForm_34 ?_
      refine go_bipush dx_X12_laysForm_37 rfl ?_
      refine go_ialoadV (i := 112) (v := ((K.2.1 : Int))) dx_X12_laysForm_39 (go_ok rfl rfl) (by omega) (show 112 < 384 by omega) (by exact e112) ?_
      refine go_iastoreV (i := 0) dx_X12_laysForm_40 (go_ok rfl rfl) (by omega) (show 0 < 20 by omega) ?_
      refine go_aload_n (i := 0) dx_X12_laysForm_41 rfl rfl ?_
      refine go_iconst dx_X12_laysForm_42 ?_
      refine go_putI fp_X12_363 rfl rfl (go_ok rfl rfl) dx_X12_laysForm_43 ?_
      refine go_iconst dx_X12_laysForm_46 ?_
      refine go_istore_n (i := 2) (lv' := [(0, vv_A 94), (1, vv_I (t : Int)), (2, vv_I 0)]) dx_X12_laysForm_47 rfl (by decide) rfl ?_
      refine loop 0 _ (Nat.zero_le _) ⟨⟨?_, fun k hk => ?_⟩, fun c q a b => by rw [wr_n (by omega), wr_n (by omega)]⟩
      · rw [wr_eq]; rfl
      · have hk : k < 1 := hk
        have : k = 0 := by omega
        subst this
        rw [wr_a _ _ _ _ (by decide), wr_eq]; rfl
    · refine go_if_ne (tgt := 28) dx_X12_laysForm_23 rfl (by omega) (fun c23 => absurd c23 (by decide)) (fun c23 => ?_)
      refine go_iconst dx_X12_laysForm_26 ?_
      refine go_zreturn dx_X12_laysForm_27 rfl (by first | exact Or.inl rfl | exact Or.inr rfl | assumption | omega) (Nat.le_refl _) (Nat.le_refl _) ?_
      have hQ := hQ δ1 w1 w2 (fun q => absurd q.2 b1)
      rw [b01_f (fun q => b1 q.2)] at hQ
      exact hQ
  · have w4 := w4 hac
    have hQ := hQ δ1 w1 w2 (fun q => absurd q.1 hac)
    rw [b01_f (fun q => hac q.1)] at hQ
    refine go_aload_n (i := 0) dx_X12_laysForm_5 rfl rfl ?_
    refine go_getI fs_X12_336 (Or.inl rfl) (go_ok rfl rfl) dx_X12_laysForm_6 ?_
    refine go_asI (y := 0) (by exact w4) ?_
    refine go_if_eq (tgt := 26) dx_X12_laysForm_9 rfl (by omega) (fun c9 => ?_) (fun c9 => absurd c9 (by decide))
    refine go_iconst dx_X12_laysForm_26 ?_
    refine go_zreturn dx_X12_laysForm_27 rfl (by first | exact Or.inl rfl | exact Or.inr rfl | assumption | omega) (Nat.le_refl _) (Nat.le_refl _) ?_
    exact hQ
theorem fms_len (hK : sk_ok K) (hac : acK K) {t : Nat} (ht : t ≤ (nds K 0).length) : (fms K t).length ≤ 14 ∧ ∀ y ∈ fms K t, y < 14 :=
  (fm_ok hK (dp_lt hac) ((toK_ac hK).mp hac) t ht).1
theorem m_form {m i : Int} (hm : go_iI m) (hi : go_iI i) (h : mx_at δ S) (hQ : ∀ δ', mx_at δ' S → fl δ δ' → Q [vv_I (oq_form S.1 m i)] go_φ δ') : Go E (d + 7) (0, 0) mx_X12_form go_φ 0 [(0, vv_A 94), (1, vv_I m), (2, vv_I i)] [] δ Q := by
  refine go_aload_n (i := 0) dx_X12_form_0 rfl rfl ?_
  refine go_iconst dx_X12_form_1 ?_
  refine go_putI fp_X12_139 rfl rfl (go_ok rfl rfl) dx_X12_form_2 ?_
  have h := mx_thr (v := 0) h
  have f0 : fl δ (wr δ 94 0 0) := fl_thr
  generalize wr δ 94 0 0 = δ0 at h f0 ⊢
  have hQ := fun δ' a (b : fl δ0 δ') => hQ δ' a (fl_tr f0 b)
  have hsc := @mx_of δ0 S h
  have hb := h.1.1
  have hlaid := h.2
  have ho := bo_of hb
  have hR := ho.1
  have hK := hb.2.2.2.2
  have l124 : go_ln 124 = 20 := rfl
  unfold oq_form at hQ
  refine go_aload_n (i := 0) dx_X12_form_5 rfl rfl ?_
  refine go_iload_n (i := 1) dx_X12_form_6 rfl rfl ?_
  refine go_cV1 sv_X12_366 (go_ok rfl rfl) dx_X12_form_7 (Nat.le_of_ble_eq_true rfl) (Nat.le_of_ble_eq_true rfl) (m_laysForm hm hb hlaid (fun δ1 w1 w2 w3 => ?_))
  obtain ⟨a, b⟩ := hsc (δ' := δ1) w2 w1
  have hQ := hQ δ1 a b
  by_cases hac : acK S.1 ∧ 0 ≤ m ∧ m ≤ ((nds S.1 0).length : Int)
  · rw [cif_t hac] at hQ
    have w3 := w3 hac
    have hfl := fms_len hK hac.1 (t := m.toNat) (by omega)
    refine go_b_ne (tgt := 16) dx_X12_form_10 rfl (fun c10 => ?_) (fun c10 => by exact absurd hac c10)
    refine go_iload_n (i := 2) dx_X12_form_16 rfl rfl ?_
    refine go_if_ge (tgt := 23) dx_X12_form_17 rfl (by omega) (fun c17 => ?_) (fun c17 => ?_)
    · refine go_iload_n (i := 2) dx_X12_form_23 rfl rfl ?_
      refine go_aload_n (i := 0) dx_X12_form_24 rfl rfl ?_
      refine go_getI fs_X12_363 (Or.inl rfl) (go_ok rfl rfl) dx_X12_form_25 ?_
      refine go_asI (y := ((fms S.1 m.toNat).length : Int)) (by exact w3.1) ?_
      refine go_icmp_ge (tgt := 40) dx_X12_form_28 rfl (by omega) (by omega) (fun c28 => ?_) (fun c28 => ?_)
      · refine go_iconst dx_X12_form_40 ?_
        refine go_ireturn dx_X12_form_41 rfl (Nat.le_refl _) (Nat.le_refl _) ?_
        rw [if_neg (by omega), if_neg (by omega)] at hQ
        exact hQ
      · obtain ⟨p, rfl⟩ : ∃ p : Nat, i = (p : Int) := ⟨i.toNat, by omega⟩
        rw [if_neg (by omega), if_pos (by omega), Int.toNat_natCast] at hQ
        refine go_aload_n (i := 0) dx_X12_form_31 rfl rfl ?_
        refine go_getA (b := 124) fs_X12_103 rfl (go_ok rfl rfl) rfl dx_X12_form_32 ?_
        refine go_iload_n (i := 2) dx_X12_form_35 rfl rfl ?_
        refine go_ialoadV (i := p) (v := ((((fms S.1 m.toNat).getD p 0 : Nat) : Int))) dx_X12_form_36 (go_ok rfl rfl) (by omega) (show p < 20 by omega) (by exact w3.2 p (by omega)) ?_
        refine go_goto (tgt := 41) dx_X12_form_37 rfl ?_
        refine go_ireturn dx_X12_form_41 rfl (Nat.le_refl _) (Nat.le_refl _) ?_
        exact hQ
    · refine go_bipush dx_X12_form_20 rfl ?_
      refine go_ireturn dx_X12_form_22 rfl (Nat.le_refl _) (Nat.le_refl _) ?_
      rw [if_pos (by omega)] at hQ
      exact hQ
  · rw [cif_f hac] at hQ
    refine go_b_ne (tgt := 16) dx_X12_form_10 rfl (fun c10 => by exact absurd c10 hac) (fun c10 => ?_)
    refine go_bipush dx_X12_form_13 rfl ?_
    refine go_ireturn dx_X12_form_15 rfl (Nat.le_refl _) (Nat.le_refl _) ?_
    exact hQ
theorem m_length {m : Int} (hm : go_iI m) (h : mx_at δ S) (hQ : ∀ δ', mx_at δ' S → fl δ δ' → Q [vv_I (oq_length S.1 m)] go_φ δ') : Go E (d + 7) (0, 0) mx_X12_length go_φ 0 [(0, vv_A 94), (1, vv_I m)] [] δ Q := by
  refine go_aload_n (i := 0) dx_X12_length_0 rfl rfl ?_
  refine go_iconst dx_X12_length_1 ?_
  refine go_putI fp_X12_139 rfl rfl (go_ok rfl rfl) dx_X12_length_2 ?_
  have h := mx_thr (v := 0) h
  have f0 : fl δ (wr δ 94 0 0) := fl_thr
  generalize wr δ 94 0 0 = δ0 at h f0 ⊢
  have hQ := fun δ' a (b : fl δ0 δ') => hQ δ' a (fl_tr f0 b)
  have hsc := @mx_of δ0 S h
  have hb := h.1.1
  have hlaid := h.2
  have ho := bo_of hb
  have hR := ho.1
  unfold oq_length at hQ
  refine go_aload_n (i := 0) dx_X12_length_5 rfl rfl ?_
  refine go_iload_n (i := 1) dx_X12_length_6 rfl rfl ?_
  refine go_cV1 sv_X12_366 (go_ok rfl rfl) dx_X12_length_7 (Nat.le_of_ble_eq_true rfl) (Nat.le_of_ble_eq_true rfl) (m_laysForm hm hb hlaid (fun δ1 w1 w2 w3 => ?_))
  refine go_b_eq (tgt := 20) dx_X12_length_10 rfl (fun c10 => ?_) (fun c10 => ?_)
  · refine go_bipush dx_X12_length_20 rfl ?_
    refine go_ireturn dx_X12_length_22 rfl (Nat.le_refl _) (Nat.le_refl _) ?_
    obtain ⟨a, b⟩ := hsc (δ' := δ1) w2 w1
    have hQ := hQ δ1 a b
    first | (rw [cif_t c10] at hQ; rw [(w3 c10).1]; exact hQ) | (rw [cif_f c10] at hQ; exact hQ)
  · refine go_aload_n (i := 0) dx_X12_length_13 rfl rfl ?_
    refine go_getI fs_X12_363 (Or.inl rfl) (go_ok rfl rfl) dx_X12_length_14 ?_
    refine go_goto (tgt := 22) dx_X12_length_17 rfl ?_
    refine go_ireturn dx_X12_length_22 rfl (Nat.le_refl _) (Nat.le_refl _) ?_
    obtain ⟨a, b⟩ := hsc (δ' := δ1) w2 w1
    have hQ := hQ δ1 a b
    first | (rw [cif_t c10] at hQ; rw [(w3 c10).1]; exact hQ) | (rw [cif_f c10] at hQ; exact hQ)
end GMFO
