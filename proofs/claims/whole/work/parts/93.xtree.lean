/-! the class's calls: nodes, node, tree, form, length -/
section GXC4
variable {E : go_E} {d : Nat} {δ : Nat → Nat → Int} {Q : List go_V → go_F → (Nat → Nat → Int) → Prop} {S : sS} {K : sK} {Tm : Int}
theorem to_0 (h : K.2.2.length = 0) : toK K = 0 := by
  unfold toK tK
  exact Tn_0 (by omega)
theorem st_e0 {n : Nat} : st n = 0 ↔ n = 0 := by
  have := MX_eq
  by_cases h : n ≤ MX
  · rw [st_le h]; omega
  · rw [st_gt h]; omega
theorem ac_to (hK : sk_ok K) : acK K ↔ toK K ≠ 0 := by
  have := Tn_pos (R := K.1) (pl := plw K.2.2) (i := 0) (j := K.2.2.length) hK.1 (x := K.2.1) hK.2.2.2.1
  unfold acK dK toK tK
  rw [← this]
  omega
theorem g_treesOfWord (h : xk_at Tm δ S) (hr : δ 52 6 = δ 0 16) (hQ : Q [vv_L (st (toK S.1))] go_φ δ) : Go E (d + 2) (0, 0) mx_X11_treesOfWord go_φ 0 [(0, vv_A 0)] [] δ Q := by
  have htd := h.1.1
  have e3 := htd.2.2.2.1
  have et := htd.2.1
  have ht8 := htd.2.2.2.2.2.2.2.1
  have h14 := htd.2.2.2.2.2.2.2.2.1
  by_cases hn : S.1.2.2.length = 0
  · rw [to_0 hn, st_0] at hQ
    refine go_aload_n (i := 0) dx_X11_treesOfWord_0 rfl rfl ?_
    refine go_getA (b := 3) fs_X11_19 rfl (go_ok rfl rfl) rfl dx_X11_treesOfWord_1 ?_
    refine go_getI fs_X11_239 (Or.inl rfl) (go_ok rfl rfl) dx_X11_treesOfWord_4 ?_
    refine go_asI (y := (S.1.2.2.length : Int)) (by exact e3) ?_
    refine go_if_ne (tgt := 14) dx_X11_treesOfWord_7 rfl (by omega) (fun c7 => by exact absurd hn (by omega)) (fun c7 => ?_)
    refine go_lconst (x := 0) dx_X11_treesOfWord_10 rfl ?_
    refine go_goto (tgt := 36) dx_X11_treesOfWord_11 rfl ?_
    refine go_lreturn dx_X11_treesOfWord_36 rfl (Nat.le_refl _) (Nat.le_refl _) ?_
    exact hQ
  · refine go_aload_n (i := 0) dx_X11_treesOfWord_0 rfl rfl ?_
    refine go_getA (b := 3) fs_X11_19 rfl (go_ok rfl rfl) rfl dx_X11_treesOfWord_1 ?_
    refine go_getI fs_X11_239 (Or.inl rfl) (go_ok rfl rfl) dx_X11_treesOfWord_4 ?_
    refine go_asI (y := (S.1.2.2.length : Int)) (by exact e3) ?_
    refine go_if_ne (tgt := 14) dx_X11_treesOfWord_7 rfl (by omega) (fun c7 => ?_) (fun c7 => by exact absurd hn (by omega))
    refine go_aload_n (i := 0) dx_X11_treesOfWord_14 rfl rfl ?_
    refine go_getA (b := 52) fs_X11_60 rfl (go_ok rfl rfl) rfl dx_X11_treesOfWord_15 ?_
    refine go_aload_n (i := 0) dx_X11_treesOfWord_18 rfl rfl ?_
    refine go_getA (b := 3) fs_X11_19 rfl (go_ok rfl rfl) rfl dx_X11_treesOfWord_19 ?_
    refine go_getI fs_X11_170 (Or.inl rfl) (go_ok rfl rfl) dx_X11_treesOfWord_22 ?_
    refine go_asI (y := (S.1.2.1 : Int)) (by exact et) ?_
    refine go_iconst dx_X11_treesOfWord_25 ?_
    refine go_asI (y := ((0 : Nat) : Int)) (by rfl) ?_
    refine go_aload_n (i := 0) dx_X11_treesOfWord_26 rfl rfl ?_
    refine go_getA (b := 3) fs_X11_19 rfl (go_ok rfl rfl) rfl dx_X11_treesOfWord_27 ?_
    refine go_getI fs_X11_239 (Or.inl rfl) (go_ok rfl rfl) dx_X11_treesOfWord_30 ?_
    refine go_asI (y := (S.1.2.2.length : Int)) (by exact e3) ?_
    refine go_cV3 sv_X11_276 (go_ok rfl rfl) dx_X11_treesOfWord_33 (Nat.le_of_ble_eq_true rfl) (Nat.le_of_ble_eq_true rfl) (g_Forest_valueAll tb_ok52 tf_ok52 (h.2.2.2.2.2.1 hr) h.2.2.1.2.2.2.2.2.1 h14 (by omega) (by omega) (by omega) (Nat.le_refl _) ?_)
    refine go_lreturn dx_X11_treesOfWord_36 rfl (Nat.le_refl _) (Nat.le_refl _) ?_
    rw [Vn_name ht8 (by omega)]
    exact hQ
theorem g_readyTree {m : Nat} (hm31 : m ≤ 2147483647) (h : xk_at Tm δ S) (hf : δ 0 17 = δ 0 16) (hr : δ 52 6 = δ 0 16) (hm : toK S.1 ≠ 0 → m < toK S.1 ∧ (m = 0 ∨ toK S.1 ≤ MX)) (h0 : toK S.1 = 0 → Q [vv_I 0] go_φ δ)
    (hQ : toK S.1 ≠ 0 → ∀ δ', xk_at Tm δ' S → ln_at δ' (nds S.1 m) → fc δ δ' → Q [vv_I 1] go_φ δ') : Go E (d + 14) (0, 0) mx_X11_readyTree go_φ 0 [(0, vv_A 0), (1, vv_I (m : Int))] [] δ Q := by
  obtain ⟨a1, a2, a3, a4, a5, a6, a7, a8, a9, a10, a11⟩ := id h
  have htd := a1.1
  have hst := a2.1
  have hs := a2.2.2.2.2.1
  unfold kst at hs
  obtain ⟨hb, hmm, hc⟩ := a4 hf
  have hlb : lb_at δ S.1 := ⟨htd, hb, a6 hr, a3.2.2.2.2.2.1⟩
  by_cases hz : toK S.1 = 0
  · refine go_aload_n (i := 0) dx_X11_readyTree_0 rfl rfl ?_
    refine go_cV0 sv_X11_289 (go_ok rfl rfl) dx_X11_readyTree_1 (Nat.le_of_ble_eq_true rfl) (Nat.le_of_ble_eq_true rfl) (g_treesOfWord h hr ?_)
    refine go_asL (y := 0) (by rw [hz, st_0]) ?_
    refine go_lconst (x := 0) dx_X11_readyTree_4 rfl ?_
    refine go_lcmp_ne (tgt := 11) dx_X11_readyTree_5 dx_X11_readyTree_6 rfl (by omega) (by omega) (fun c5 => by exact absurd rfl c5) (fun c5 => ?_)
    refine go_iconst dx_X11_readyTree_9 ?_
    refine go_zreturn dx_X11_readyTree_10 rfl (by first | exact Or.inl rfl | exact Or.inr rfl | assumption | omega) (Nat.le_refl _) (Nat.le_refl _) ?_
    exact h0 hz
  have hn : 0 < S.1.2.2.length := Nat.pos_of_ne_zero (fun q => hz (to_0 q))
  have hst0 : st (toK S.1) ≠ 0 := fun q => hz (st_e0.mp q)
  have hQ := hQ hz
  obtain ⟨m1, m2⟩ := hm hz
  have build : Go E (d + 14) (0, 0) mx_X11_readyTree go_φ 36 [(0, vv_A 0), (1, vv_I (m : Int))] [] δ Q := by
    refine go_aload_n (i := 0) dx_X11_readyTree_36 rfl rfl ?_
    refine go_getA (b := 56) fs_X11_69 rfl (go_ok rfl rfl) rfl dx_X11_readyTree_37 ?_
    refine go_iload_n (i := 1) dx_X11_readyTree_40 rfl rfl ?_
    refine go_cV1 sv_X11_428 (go_ok rfl rfl) dx_X11_readyTree_41 (Nat.le_of_ble_eq_true rfl) (Nat.le_of_ble_eq_true rfl) (g_Listing_list hlb hn m1 hm31 m2 (fun δ1 b1 f1 g1 => ?_))
    have e16 : δ1 0 16 = δ 0 16 := f1 0 16 (by decide) (by omega)
    obtain ⟨δ2, h2⟩ : ∃ δ2, δ2 = wr (wr δ1 56 17 (δ1 0 16)) 56 18 (m : Int) := ⟨_, rfl⟩
    have fr : ∀ b j, b ≠ 43 → (b < 56 ∨ 60 < b) → δ2 b j = δ b j := fun b j a c => by rw [h2, wr_n (by omega), wr_n (by omega)]; exact f1 b j a c
    have hl : ln_at δ2 (nds S.1 m) := by rw [h2]; exact ln_fr b1 (fun c j q => by rw [wr_n (by omega), wr_n (by omega)])
    have e17 : δ2 56 17 = δ 0 16 := by rw [h2, wr_n (by omega), wr_eq]; exact e16
    have e18 : δ2 56 18 = (m : Int) := by rw [h2, wr_eq]
    have hx2 : xk_at Tm δ2 S := by
      refine ⟨xs_fr a1 (fun b h1 h2 j => fr b j (by omega) (by omega)), kts_fr a2 0 0 (fr 0 16 (by decide) (by decide)) (fun b j h => ?_), kno_fr a3 (fun b j h => fr b j (by omega) (by omega)), k17_fr a4 (fun b j h => fr b j (by omega) (by omega)), k49_fr a5 (fun b j h => fr b j (by omega) (by omega)), k52_fr a6 (fun b j h => fr b j (by omega) (by omega)), fun _ => ⟨m, e18, hm31, hl⟩, k62_fr a8 (fun b j h => fr b j (by omega) (by omega)), k67_fr a9 (fun b j h => fr b j (by omega) (by omega)), k71_fr a10 (fun b j h => fr b j (by omega) (by omega)), k74_fr a11 (fun b j h => fr b j (by omega) (by omega))⟩
      by_cases y : b = 56 ∧ j = 17
      · obtain ⟨y1, y2⟩ := y
        subst y1 y2
        exact Or.inr e17
      · exact Or.inl (fr b j (by omega) (by omega))
    have hQ := hQ δ2 hx2 hl (fun b hb j => fr b j (by omega) (by omega))
    rw [h2] at hQ
    refine go_aload_n (i := 0) dx_X11_readyTree_44 rfl rfl ?_
    refine go_getA (b := 56) fs_X11_69 rfl (go_ok rfl rfl) rfl dx_X11_readyTree_45 ?_
    refine go_aload_n (i := 0) dx_X11_readyTree_48 rfl rfl ?_
    refine go_getI fs_X11_109 (Or.inl rfl) (go_ok rfl rfl) dx_X11_readyTree_49 ?_
    refine go_putI fp_X11_422 rfl rfl (go_ok rfl rfl) dx_X11_readyTree_52 ?_
    refine go_aload_n (i := 0) dx_X11_readyTree_55 rfl rfl ?_
    refine go_getA (b := 56) fs_X11_69 rfl (go_ok rfl rfl) rfl dx_X11_readyTree_56 ?_
    refine go_iload_n (i := 1) dx_X11_readyTree_59 rfl rfl ?_
    refine go_putI fp_X11_425 rfl rfl (go_ok rfl rfl) dx_X11_readyTree_60 ?_
    refine go_iconst dx_X11_readyTree_63 ?_
    refine go_zreturn dx_X11_readyTree_64 rfl (by first | exact Or.inl rfl | exact Or.inr rfl | assumption | omega) (Nat.le_refl _) (Nat.le_refl _) ?_
    exact hQ
  by_cases hy : δ 56 17 = δ 0 16
  · obtain ⟨u, u1, u2, u3⟩ := a7 hy
    by_cases hu : u = m
    · subst hu
      refine go_aload_n (i := 0) dx_X11_readyTree_0 rfl rfl ?_
      refine go_cV0 sv_X11_289 (go_ok rfl rfl) dx_X11_readyTree_1 (Nat.le_of_ble_eq_true rfl) (Nat.le_of_ble_eq_true rfl) (g_treesOfWord h hr ?_)
      refine go_lconst (x := 0) dx_X11_readyTree_4 rfl ?_
      refine go_lcmp_ne (tgt := 11) dx_X11_readyTree_5 dx_X11_readyTree_6 rfl (by first | omega | (have := st_c (toK S.1); omega)) (by first | omega | (have := st_c (toK S.1); omega)) (fun c5 => ?_) (fun c5 => by exact absurd c5 hst0)
      refine go_aload_n (i := 0) dx_X11_readyTree_11 rfl rfl ?_
      refine go_getA (b := 56) fs_X11_69 rfl (go_ok rfl rfl) rfl dx_X11_readyTree_12 ?_
      refine go_getI fs_X11_422 (Or.inl rfl) (go_ok rfl rfl) dx_X11_readyTree_15 ?_
      refine go_aload_n (i := 0) dx_X11_readyTree_18 rfl rfl ?_
      refine go_getI fs_X11_109 (Or.inl rfl) (go_ok rfl rfl) dx_X11_readyTree_19 ?_
      refine go_icmp_ne (tgt := 36) dx_X11_readyTree_22 rfl (by omega) (by omega) (fun c22 => by exact absurd hy c22) (fun c22 => ?_)
      refine go_aload_n (i := 0) dx_X11_readyTree_25 rfl rfl ?_
      refine go_getA (b := 56) fs_X11_69 rfl (go_ok rfl rfl) rfl dx_X11_readyTree_26 ?_
      refine go_getI fs_X11_425 (Or.inl rfl) (go_ok rfl rfl) dx_X11_readyTree_29 ?_
      refine go_asI (y := (u : Int)) (by exact u1) ?_
      refine go_iload_n (i := 1) dx_X11_readyTree_32 rfl rfl ?_
      refine go_icmp_eq (tgt := 63) dx_X11_readyTree_33 rfl (by omega) (by omega) (fun c33 => ?_) (fun c33 => by exact absurd rfl c33)
      refine go_iconst dx_X11_readyTree_63 ?_
      refine go_zreturn dx_X11_readyTree_64 rfl (by first | exact Or.inl rfl | exact Or.inr rfl | assumption | omega) (Nat.le_refl _) (Nat.le_refl _) ?_
      exact hQ δ h u3 fc_rf
    · refine go_aload_n (i := 0) dx_X11_readyTree_0 rfl rfl ?_
      refine go_cV0 sv_X11_289 (go_ok rfl rfl) dx_X11_readyTree_1 (Nat.le_of_ble_eq_true rfl) (Nat.le_of_ble_eq_true rfl) (g_treesOfWord h hr ?_)
      refine go_lconst (x := 0) dx_X11_readyTree_4 rfl ?_
      refine go_lcmp_ne (tgt := 11) dx_X11_readyTree_5 dx_X11_readyTree_6 rfl (by first | omega | (have := st_c (toK S.1); omega)) (by first | omega | (have := st_c (toK S.1); omega)) (fun c5 => ?_) (fun c5 => by exact absurd c5 hst0)
      refine go_aload_n (i := 0) dx_X11_readyTree_11 rfl rfl ?_
      refine go_getA (b := 56) fs_X11_69 rfl (go_ok rfl rfl) rfl dx_X11_readyTree_12 ?_
      refine go_getI fs_X11_422 (Or.inl rfl) (go_ok rfl rfl) dx_X11_readyTree_15 ?_
      refine go_aload_n (i := 0) dx_X11_readyTree_18 rfl rfl ?_
      refine go_getI fs_X11_109 (Or.inl rfl) (go_ok rfl rfl) dx_X11_readyTree_19 ?_
      refine go_icmp_ne (tgt := 36) dx_X11_readyTree_22 rfl (by omega) (by omega) (fun c22 => by exact absurd hy c22) (fun c22 => ?_)
      refine go_aload_n (i := 0) dx_X11_readyTree_25 rfl rfl ?_
      refine go_getA (b := 56) fs_X11_69 rfl (go_ok rfl rfl) rfl dx_X11_readyTree_26 ?_
      refine go_getI fs_X11_425 (Or.inl rfl) (go_ok rfl rfl) dx_X11_readyTree_29 ?_
      refine go_asI (y := (u : Int)) (by exact u1) ?_
      refine go_iload_n (i := 1) dx_X11_readyTree_32 rfl rfl ?_
      refine go_icmp_eq (tgt := 63) dx_X11_readyTree_33 rfl (by omega) (by omega) (fun c33 => by exact absurd c33 (by omega)) (fun c33 => ?_)
      exact build
  · refine go_aload_n (i := 0) dx_X11_readyTree_0 rfl rfl ?_
    refine go_cV0 sv_X11_289 (go_ok rfl rfl) dx_X11_readyTree_1 (Nat.le_of_ble_eq_true rfl) (Nat.le_of_ble_eq_true rfl) (g_treesOfWord h hr ?_)
    refine go_lconst (x := 0) dx_X11_readyTree_4 rfl ?_
    refine go_lcmp_ne (tgt := 11) dx_X11_readyTree_5 dx_X11_readyTree_6 rfl (by first | omega | (have := st_c (toK S.1); omega)) (by first | omega | (have := st_c (toK S.1); omega)) (fun c5 => ?_) (fun c5 => by exact absurd c5 hst0)
    refine go_aload_n (i := 0) dx_X11_readyTree_11 rfl rfl ?_
    refine go_getA (b := 56) fs_X11_69 rfl (go_ok rfl rfl) rfl dx_X11_readyTree_12 ?_
    refine go_getI fs_X11_422 (Or.inl rfl) (go_ok rfl rfl) dx_X11_readyTree_15 ?_
    refine go_aload_n (i := 0) dx_X11_readyTree_18 rfl rfl ?_
    refine go_getI fs_X11_109 (Or.inl rfl) (go_ok rfl rfl) dx_X11_readyTree_19 ?_
    refine go_icmp_ne (tgt := 36) dx_X11_readyTree_22 rfl (by omega) (by omega) (fun c22 => ?_) (fun c22 => by exact absurd c22 hy)
    exact build
theorem x_nodes (h : xk_at Tm δ S) (hQ : ∀ δ', xk_at Tm δ' S → fc δ δ' → Q [vv_I (oq_nodes S.1)] go_φ δ') : Go E (d + 15) (0, 0) mx_X11_nodes go_φ 0 [(0, vv_A 0)] [] δ Q := by
  unfold oq_nodes at hQ
  refine go_aload_n (i := 0) dx_X11_nodes_0 rfl rfl ?_
  refine go_cV0 sv_X11_183 (go_ok rfl rfl) dx_X11_nodes_1 (Nat.le_of_ble_eq_true rfl) (Nat.le_of_ble_eq_true rfl) (g_freshen h (fun δ1 h1 e1 f1 => ?_))
  refine go_aload_n (i := 0) dx_X11_nodes_4 rfl rfl ?_
  refine go_cV0 sv_X11_273 (go_ok rfl rfl) dx_X11_nodes_5 (Nat.le_of_ble_eq_true rfl) (Nat.le_of_ble_eq_true rfl) (g_readyForest h1 e1 (fun δ2 h2 e2 r2 f2 => ?_))
  have hK : sk_ok S.1 := h2.1.1.2.2.2.2
  have fc2 : fc δ δ2 := fc_tr f1 (fun b hb j => f2 b j (by omega))
  refine go_aload_n (i := 0) dx_X11_nodes_8 rfl rfl ?_
  refine go_iconst dx_X11_nodes_9 ?_
  refine go_asI (y := ((0 : Nat) : Int)) (by rfl) ?_
  refine go_cV1 sv_X11_280 (go_ok rfl rfl) dx_X11_nodes_10 (Nat.le_of_ble_eq_true rfl) (Nat.le_of_ble_eq_true rfl) (g_readyTree (by decide) h2 e2 r2 (fun q => ⟨Nat.pos_of_ne_zero q, Or.inl rfl⟩) (fun z => ?_) (fun z δ3 h3 l3 f3 => ?_))
  · refine go_if_eq (tgt := 26) dx_X11_nodes_13 rfl (by omega) (fun c13 => ?_) (fun c13 => absurd c13 (by decide))
    refine go_iconst dx_X11_nodes_26 ?_
    refine go_ireturn dx_X11_nodes_27 rfl (Nat.le_refl _) (Nat.le_refl _) ?_
    first
    | (have hQ := hQ δ2 h2 fc2
       rw [cif_f (fun q => (ac_to hK).mp q z)] at hQ
       exact hQ)
    | (have hQ := hQ δ3 h3 (fc_tr fc2 f3)
       rw [cif_t ((ac_to hK).mpr z), ← l3.1] at hQ
       exact hQ)
  · refine go_if_eq (tgt := 26) dx_X11_nodes_13 rfl (by omega) (fun c13 => absurd c13 (by decide)) (fun c13 => ?_)
    refine go_aload_n (i := 0) dx_X11_nodes_16 rfl rfl ?_
    refine go_getA (b := 56) fs_X11_69 rfl (go_ok rfl rfl) rfl dx_X11_nodes_17 ?_
    refine go_getI fs_X11_283 (Or.inl rfl) (go_ok rfl rfl) dx_X11_nodes_20 ?_
    refine go_goto (tgt := 27) dx_X11_nodes_23 rfl ?_
    refine go_ireturn dx_X11_nodes_27 rfl (Nat.le_refl _) (Nat.le_refl _) ?_
    first
    | (have hQ := hQ δ2 h2 fc2
       rw [cif_f (fun q => (ac_to hK).mp q z)] at hQ
       exact hQ)
    | (have hQ := hQ δ3 h3 (fc_tr fc2 f3)
       rw [cif_t ((ac_to hK).mpr z), ← l3.1] at hQ
       exact hQ)
end GXC4
