/-! the reference's calls: pairs to accepted -/
theorem mx_thr {δ : Nat → Nat → Int} {S : sS} {v : Int} (h : mx_at δ S) : mx_at (wr δ 94 0 v) S := ⟨ms_thr h.1, ml_fr h.2 (fun c j hc => wr_n (by omega))⟩
theorem fl_thr {δ : Nat → Nat → Int} {v : Int} : fl δ (wr δ 94 0 v) := fun b hb j => wr_a _ _ _ _ (by omega) j
theorem fl_rf {δ : Nat → Nat → Int} : fl δ δ := fun _ _ _ => rfl
theorem fl_tr {δ δ1 δ2 : Nat → Nat → Int} (h1 : fl δ δ1) (h2 : fl δ1 δ2) : fl δ δ2 := fun b hb j => by rw [h2 b hb j, h1 b hb j]
theorem mx_of {δ : Nat → Nat → Int} {S : sS} (h : mx_at δ S) {δ' : Nat → Nat → Int} (f : ∀ c j, ¬ sc c j → δ' c j = δ c j) (g : ml_at δ' S.1) : mx_at δ' S ∧ fl δ δ' := ⟨⟨ms_sc h.1 f, g⟩, fl_sc f⟩
theorem b01_n {P : Prop} : b01 P ≠ 0 ↔ P := by
  by_cases h : P
  · rw [b01_t h]; exact ⟨fun _ => h, fun _ => by decide⟩
  · rw [b01_f h]; exact ⟨fun q => absurd rfl q, fun q => absurd q h⟩
theorem ut_cases {R : Nat → List Nat} (hR : ∀ r, rl_ok (R r)) {x y : Nat} (h : ut R x y) : (y < 14 ∧ un R x y) ∨ ∃ z, (z < 14 ∧ un R x z) ∧ ut R z y :=
  ut_ind (P := fun a b => (b < 14 ∧ un R a b) ∨ ∃ z, (z < 14 ∧ un R a z) ∧ ut R z b) (fun a b q => Or.inl ⟨(un_lt hR q).2, q⟩) (fun a b c q k _ => Or.inr ⟨b, ⟨(un_lt hR q).2, q⟩, k⟩) h
section GMCA
variable {E : go_E} {d : Nat} {δ : Nat → Nat → Int} {Q : List go_V → go_F → (Nat → Nat → Int) → Prop} {S : sS}
theorem m_pairs (h : mx_at δ S) (hQ : ∀ δ', mx_at δ' S → fl δ δ' → Q [vv_I (oq_pairs S.1)] go_φ δ') : Go E (d + 2) (0, 0) mx_X12_pairs go_φ 0 [(0, vv_A 94)] [] δ Q := by
  refine go_aload_n (i := 0) dx_X12_pairs_0 rfl rfl ?_
  refine go_iconst dx_X12_pairs_1 ?_
  refine go_putI fp_X12_139 rfl rfl (go_ok rfl rfl) dx_X12_pairs_2 ?_
  have h := mx_thr (v := 0) h
  have f0 : fl δ (wr δ 94 0 0) := fl_thr
  generalize wr δ 94 0 0 = δ0 at h f0 ⊢
  have hQ := fun δ' a (b : fl δ0 δ') => hQ δ' a (fl_tr f0 b)
  have hsc := @mx_of δ0 S h
  have hb := h.1.1
  have hlaid := h.2
  have ho := bo_of hb
  have hR := ho.1
  refine go_aload_n (i := 0) dx_X12_pairs_5 rfl rfl ?_
  refine go_cV0 sv_X12_221 (go_ok rfl rfl) dx_X12_pairs_6 (Nat.le_of_ble_eq_true rfl) (Nat.le_of_ble_eq_true rfl) (m_laysPairs ho (fun δ1 q1 f1 => ?_))
  refine go_aload_n (i := 0) dx_X12_pairs_9 rfl rfl ?_
  refine go_getI fs_X12_215 (Or.inl rfl) (go_ok rfl rfl) dx_X12_pairs_10 ?_
  refine go_asI (y := ((gP S.1.1).length : Int)) (by exact q1.1) ?_
  refine go_ireturn dx_X12_pairs_13 rfl (Nat.le_refl _) (Nat.le_refl _) ?_
  obtain ⟨a, b⟩ := hsc (δ' := δ1) (fun c j hc => f1 c j (by unfold mqP; unfold sc at hc; omega)) (ml_fr hlaid (fun c j hc => f1 c j (by unfold mqP; omega)))
  exact hQ δ1 a b
theorem m_pair {i q : Int} (hi : go_iI i) (hq : go_iI q) (h : mx_at δ S) (hQ : ∀ δ', mx_at δ' S → fl δ δ' → Q [vv_I (oq_pair S.1 i q)] go_φ δ') : Go E (d + 2) (0, 0) mx_X12_pair go_φ 0 [(0, vv_A 94), (1, vv_I i), (2, vv_I q)] [] δ Q := by
  refine go_aload_n (i := 0) dx_X12_pair_0 rfl rfl ?_
  refine go_iconst dx_X12_pair_1 ?_
  refine go_putI fp_X12_139 rfl rfl (go_ok rfl rfl) dx_X12_pair_2 ?_
  have h := mx_thr (v := 0) h
  have f0 : fl δ (wr δ 94 0 0) := fl_thr
  generalize wr δ 94 0 0 = δ0 at h f0 ⊢
  have hQ := fun δ' a (b : fl δ0 δ') => hQ δ' a (fl_tr f0 b)
  have hsc := @mx_of δ0 S h
  have hb := h.1.1
  have hlaid := h.2
  have ho := bo_of hb
  have hR := ho.1
  have h64 := gP_le hR
  have l99 : go_ln 99 = 64 := rfl
  have l100 : go_ln 100 = 64 := rfl
  have l101 : go_ln 101 = 64 := rfl
  have l102 : go_ln 102 = 64 := rfl
  unfold oq_pair at hQ
  refine go_aload_n (i := 0) dx_X12_pair_5 rfl rfl ?_
  refine go_cV0 sv_X12_221 (go_ok rfl rfl) dx_X12_pair_6 (Nat.le_of_ble_eq_true rfl) (Nat.le_of_ble_eq_true rfl) (m_laysPairs ho (fun δ1 q1 f1 => ?_))
  obtain ⟨a, b⟩ := hsc (δ' := δ1) (fun c j hc => f1 c j (by unfold mqP; unfold sc at hc; omega)) (ml_fr hlaid (fun c j hc => f1 c j (by unfold mqP; omega)))
  have hQ := hQ δ1 a b
  refine go_iload_n (i := 1) dx_X12_pair_9 rfl rfl ?_
  refine go_i2l dx_X12_pair_10 (by omega) ?_
  refine go_lconst (x := 0) dx_X12_pair_11 rfl ?_
  refine go_aload_n (i := 0) dx_X12_pair_12 rfl rfl ?_
  refine go_getI fs_X12_215 (Or.inl rfl) (go_ok rfl rfl) dx_X12_pair_13 ?_
  refine go_asI (y := ((gP S.1.1).length : Int)) (by exact q1.1) ?_
  refine go_iconst dx_X12_pair_16 ?_
  refine go_isub dx_X12_pair_17 ?_
  refine go_i2l dx_X12_pair_18 (by omega) ?_
  refine go_cS3 ss_X12_144 dx_X12_pair_19 (Nat.le_of_ble_eq_true rfl) (Nat.le_of_ble_eq_true rfl) (m_within (by omega) (by omega) (by omega) (fun a1 a2 => ?_) (fun b1 => ?_))
  · refine go_if_eq (tgt := 37) dx_X12_pair_22 rfl (by omega) (fun c22 => absurd c22 (by decide)) (fun c22 => ?_)
    refine go_iload_n (i := 2) dx_X12_pair_25 rfl rfl ?_
    refine go_i2l dx_X12_pair_26 (by omega) ?_
    refine go_lconst (x := 0) dx_X12_pair_27 rfl ?_
    refine go_ldc2 (x := 3) kx_X12_224 dx_X12_pair_28 ?_
    refine go_cS3 ss_X12_144 dx_X12_pair_31 (Nat.le_of_ble_eq_true rfl) (Nat.le_of_ble_eq_true rfl) (m_within (by omega) (by omega) (by omega) (fun a3 a4 => ?_) (fun b2 => ?_))
    · refine go_if_ne (tgt := 40) dx_X12_pair_34 rfl (by omega) (fun c34 => ?_) (fun c34 => absurd c34 (by decide))
      rw [cif_t (by omega)] at hQ
      obtain ⟨m, rfl⟩ : ∃ m : Nat, i = (m : Int) := ⟨i.toNat, by omega⟩
      have hm : m < (gP S.1.1).length := by omega
      rw [Int.toNat_natCast, List.getD_eq_getElem?_getD, List.getElem?_eq_getElem hm] at hQ
      have hv := q1.2.1 m hm
      dsimp only [Option.getD_some] at hQ
      unfold oq_pr at hQ
      refine go_iload_n (i := 2) dx_X12_pair_40 rfl rfl ?_
      refine go_if_ne (tgt := 53) dx_X12_pair_41 rfl (by omega) (fun c41 => ?_) (fun c41 => ?_)
      · refine go_iload_n (i := 2) dx_X12_pair_53 rfl rfl ?_
        refine go_iconst dx_X12_pair_54 ?_
        refine go_icmp_ne (tgt := 67) dx_X12_pair_55 rfl (by omega) (by omega) (fun c55 => ?_) (fun c55 => ?_)
        · refine go_iload_n (i := 2) dx_X12_pair_67 rfl rfl ?_
          refine go_iconst dx_X12_pair_68 ?_
          refine go_icmp_ne (tgt := 81) dx_X12_pair_69 rfl (by omega) (by omega) (fun c69 => ?_) (fun c69 => ?_)
          · refine go_aload_n (i := 0) dx_X12_pair_81 rfl rfl ?_
            refine go_getA (b := 102) fs_X12_36 rfl (go_ok rfl rfl) rfl dx_X12_pair_82 ?_
            refine go_iload_n (i := 1) dx_X12_pair_85 rfl rfl ?_
            refine go_ialoadV (i := m) (v := (((gP S.1.1)[m]'hm).2.2.2)) dx_X12_pair_86 (go_ok rfl rfl) (by omega) (show m < 64 by omega) (by exact hv.2.2.2) ?_
            refine go_ireturn dx_X12_pair_87 rfl (Nat.le_refl _) (Nat.le_refl _) ?_
            first | (rw [if_pos (by omega)] at hQ; exact hQ) | (rw [if_neg (by omega), if_pos (by omega)] at hQ; exact hQ) | (rw [if_neg (by omega), if_neg (by omega), if_pos (by omega)] at hQ; exact hQ) | (rw [if_neg (by omega), if_neg (by omega), if_neg (by omega)] at hQ; exact hQ)
          · refine go_aload_n (i := 0) dx_X12_pair_72 rfl rfl ?_
            refine go_getA (b := 101) fs_X12_33 rfl (go_ok rfl rfl) rfl dx_X12_pair_73 ?_
            refine go_iload_n (i := 1) dx_X12_pair_76 rfl rfl ?_
            refine go_ialoadV (i := m) (v := (((gP S.1.1)[m]'hm).2.2.1)) dx_X12_pair_77 (go_ok rfl rfl) (by omega) (show m < 64 by omega) (by exact hv.2.2.1) ?_
            refine go_goto (tgt := 87) dx_X12_pair_78 rfl ?_
            refine go_ireturn dx_X12_pair_87 rfl (Nat.le_refl _) (Nat.le_refl _) ?_
            first | (rw [if_pos (by omega)] at hQ; exact hQ) | (rw [if_neg (by omega), if_pos (by omega)] at hQ; exact hQ) | (rw [if_neg (by omega), if_neg (by omega), if_pos (by omega)] at hQ; exact hQ) | (rw [if_neg (by omega), if_neg (by omega), if_neg (by omega)] at hQ; exact hQ)
        · refine go_aload_n (i := 0) dx_X12_pair_58 rfl rfl ?_
          refine go_getA (b := 100) fs_X12_30 rfl (go_ok rfl rfl) rfl dx_X12_pair_59 ?_
          refine go_iload_n (i := 1) dx_X12_pair_62 rfl rfl ?_
          refine go_ialoadV (i := m) (v := (((gP S.1.1)[m]'hm).2.1)) dx_X12_pair_63 (go_ok rfl rfl) (by omega) (show m < 64 by omega) (by exact hv.2.1) ?_
          refine go_goto (tgt := 87) dx_X12_pair_64 rfl ?_
          refine go_ireturn dx_X12_pair_87 rfl (Nat.le_refl _) (Nat.le_refl _) ?_
          first | (rw [if_pos (by omega)] at hQ; exact hQ) | (rw [if_neg (by omega), if_pos (by omega)] at hQ; exact hQ) | (rw [if_neg (by omega), if_neg (by omega), if_pos (by omega)] at hQ; exact hQ) | (rw [if_neg (by omega), if_neg (by omega), if_neg (by omega)] at hQ; exact hQ)
      · refine go_aload_n (i := 0) dx_X12_pair_44 rfl rfl ?_
        refine go_getA (b := 99) fs_X12_27 rfl (go_ok rfl rfl) rfl dx_X12_pair_45 ?_
        refine go_iload_n (i := 1) dx_X12_pair_48 rfl rfl ?_
        refine go_ialoadV (i := m) (v := (((gP S.1.1)[m]'hm).1)) dx_X12_pair_49 (go_ok rfl rfl) (by omega) (show m < 64 by omega) (by exact hv.1) ?_
        refine go_goto (tgt := 87) dx_X12_pair_50 rfl ?_
        refine go_ireturn dx_X12_pair_87 rfl (Nat.le_refl _) (Nat.le_refl _) ?_
        first | (rw [if_pos (by omega)] at hQ; exact hQ) | (rw [if_neg (by omega), if_pos (by omega)] at hQ; exact hQ) | (rw [if_neg (by omega), if_neg (by omega), if_pos (by omega)] at hQ; exact hQ) | (rw [if_neg (by omega), if_neg (by omega), if_neg (by omega)] at hQ; exact hQ)
    · refine go_if_ne (tgt := 40) dx_X12_pair_34 rfl (by omega) (fun c34 => absurd c34 (by decide)) (fun c34 => ?_)
      refine go_bipush dx_X12_pair_37 rfl ?_
      refine go_ireturn dx_X12_pair_39 rfl (Nat.le_refl _) (Nat.le_refl _) ?_
      rw [cif_f (by omega)] at hQ
      exact hQ
  · refine go_if_eq (tgt := 37) dx_X12_pair_22 rfl (by omega) (fun c22 => ?_) (fun c22 => absurd c22 (by decide))
    refine go_bipush dx_X12_pair_37 rfl ?_
    refine go_ireturn dx_X12_pair_39 rfl (Nat.le_refl _) (Nat.le_refl _) ?_
    rw [cif_f (by omega)] at hQ
    exact hQ
theorem m_back {x q : Int} (hx : go_iI x) (hq : go_iI q) (h : mx_at δ S) (hQ : ∀ δ', mx_at δ' S → fl δ δ' → Q [vv_I (oq_back S.1 x q)] go_φ δ') : Go E (d + 2) (0, 0) mx_X12_back go_φ 0 [(0, vv_A 94), (1, vv_I x), (2, vv_I q)] [] δ Q := by
  refine go_aload_n (i := 0) dx_X12_back_0 rfl rfl ?_
  refine go_iconst dx_X12_back_1 ?_
  refine go_putI fp_X12_139 rfl rfl (go_ok rfl rfl) dx_X12_back_2 ?_
  have h := mx_thr (v := 0) h
  have f0 : fl δ (wr δ 94 0 0) := fl_thr
  generalize wr δ 94 0 0 = δ0 at h f0 ⊢
  have hQ := fun δ' a (b : fl δ0 δ') => hQ δ' a (fl_tr f0 b)
  have hsc := @mx_of δ0 S h
  have hb := h.1.1
  have hlaid := h.2
  have ho := bo_of hb
  have hR := ho.1
  have h48 := gH_le hR
  have l103 : go_ln 103 = 48 := rfl
  have l104 : go_ln 104 = 48 := rfl
  unfold oq_back at hQ
  rw [nsy_eq] at hQ
  refine go_aload_n (i := 0) dx_X12_back_5 rfl rfl ?_
  refine go_cV0 sv_X12_221 (go_ok rfl rfl) dx_X12_back_6 (Nat.le_of_ble_eq_true rfl) (Nat.le_of_ble_eq_true rfl) (m_laysPairs ho (fun δ1 q1 f1 => ?_))
  obtain ⟨a, b⟩ := hsc (δ' := δ1) (fun c j hc => f1 c j (by unfold mqP; unfold sc at hc; omega)) (ml_fr hlaid (fun c j hc => f1 c j (by unfold mqP; omega)))
  have hQ := hQ δ1 a b
  refine go_iload_n (i := 1) dx_X12_back_9 rfl rfl ?_
  refine go_i2l dx_X12_back_10 (by omega) ?_
  refine go_ldc2 (x := 14) kx_X12_226 dx_X12_back_11 ?_
  refine go_bipush dx_X12_back_14 rfl ?_
  refine go_aload_n (i := 0) dx_X12_back_16 rfl rfl ?_
  refine go_getI fs_X12_218 (Or.inl rfl) (go_ok rfl rfl) dx_X12_back_17 ?_
  refine go_asI (y := ((gH S.1.1).length : Int)) (by exact q1.2.2.1) ?_
  refine go_iadd dx_X12_back_20 ?_
  refine go_iconst dx_X12_back_21 ?_
  refine go_isub dx_X12_back_22 ?_
  refine go_i2l dx_X12_back_23 (by omega) ?_
  refine go_cS3 ss_X12_144 dx_X12_back_24 (Nat.le_of_ble_eq_true rfl) (Nat.le_of_ble_eq_true rfl) (m_within (by omega) (by omega) (by omega) (fun a1 a2 => ?_) (fun b1 => ?_))
  · refine go_if_eq (tgt := 40) dx_X12_back_27 rfl (by omega) (fun c27 => absurd c27 (by decide)) (fun c27 => ?_)
    refine go_iload_n (i := 2) dx_X12_back_30 rfl rfl ?_
    refine go_i2l dx_X12_back_31 (by omega) ?_
    refine go_lconst (x := 0) dx_X12_back_32 rfl ?_
    refine go_lconst (x := 1) dx_X12_back_33 rfl ?_
    refine go_cS3 ss_X12_144 dx_X12_back_34 (Nat.le_of_ble_eq_true rfl) (Nat.le_of_ble_eq_true rfl) (m_within (by omega) (by omega) (by omega) (fun a3 a4 => ?_) (fun b2 => ?_))
    · refine go_if_ne (tgt := 43) dx_X12_back_37 rfl (by omega) (fun c37 => ?_) (fun c37 => absurd c37 (by decide))
      rw [cif_t (by omega)] at hQ
      obtain ⟨m, rfl⟩ : ∃ m : Nat, x = ((14 + m : Nat) : Int) := ⟨(x - 14).toNat, by omega⟩
      have hm : m < (gH S.1.1).length := by omega
      rw [Int.toNat_natCast, Nat.add_sub_cancel_left, List.getD_eq_getElem?_getD, List.getElem?_eq_getElem hm] at hQ
      have hv := q1.2.2.2 m hm
      dsimp only [Option.getD_some] at hQ
      refine go_iload_n (i := 2) dx_X12_back_43 rfl rfl ?_
      refine go_if_ne (tgt := 59) dx_X12_back_44 rfl (by omega) (fun c44 => ?_) (fun c44 => ?_)
      · refine go_aload_n (i := 0) dx_X12_back_59 rfl rfl ?_
        refine go_getA (b := 104) fs_X12_42 rfl (go_ok rfl rfl) rfl dx_X12_back_60 ?_
        refine go_iload_n (i := 1) dx_X12_back_63 rfl rfl ?_
        refine go_bipush dx_X12_back_64 rfl ?_
        refine go_isub dx_X12_back_66 ?_
        refine go_ialoadV (i := m) (v := (((gH S.1.1)[m]'hm).2)) dx_X12_back_67 (go_ok rfl rfl) (by omega) (show m < 48 by omega) (by exact hv.2) ?_
        refine go_ireturn dx_X12_back_68 rfl (Nat.le_refl _) (Nat.le_refl _) ?_
        first | (rw [if_pos (by omega)] at hQ; exact hQ) | (rw [if_neg (by omega)] at hQ; exact hQ)
      · refine go_aload_n (i := 0) dx_X12_back_47 rfl rfl ?_
        refine go_getA (b := 103) fs_X12_39 rfl (go_ok rfl rfl) rfl dx_X12_back_48 ?_
        refine go_iload_n (i := 1) dx_X12_back_51 rfl rfl ?_
        refine go_bipush dx_X12_back_52 rfl ?_
        refine go_isub dx_X12_back_54 ?_
        refine go_ialoadV (i := m) (v := (((gH S.1.1)[m]'hm).1)) dx_X12_back_55 (go_ok rfl rfl) (by omega) (show m < 48 by omega) (by exact hv.1) ?_
        refine go_goto (tgt := 68) dx_X12_back_56 rfl ?_
        refine go_ireturn dx_X12_back_68 rfl (Nat.le_refl _) (Nat.le_refl _) ?_
        first | (rw [if_pos (by omega)] at hQ; exact hQ) | (rw [if_neg (by omega)] at hQ; exact hQ)
    · refine go_if_ne (tgt := 43) dx_X12_back_37 rfl (by omega) (fun c37 => absurd c37 (by decide)) (fun c37 => ?_)
      refine go_bipush dx_X12_back_40 rfl ?_
      refine go_ireturn dx_X12_back_42 rfl (Nat.le_refl _) (Nat.le_refl _) ?_
      rw [cif_f (by omega)] at hQ
      exact hQ
  · refine go_if_eq (tgt := 40) dx_X12_back_27 rfl (by omega) (fun c27 => ?_) (fun c27 => absurd c27 (by decide))
    refine go_bipush dx_X12_back_40 rfl ?_
    refine go_ireturn dx_X12_back_42 rfl (Nat.le_refl _) (Nat.le_refl _) ?_
    rw [cif_f (by omega)] at hQ
    exact hQ
theorem m_units {x : Int} (hx : go_iI x) (h : mx_at δ S) (hQ : ∀ δ', mx_at δ' S → fl δ δ' → Q [vv_I (oq_units S.1 x)] go_φ δ') : Go E (d + 2) (0, 0) mx_X12_units go_φ 0 [(0, vv_A 94), (1, vv_I x)] [] δ Q := by
  refine go_aload_n (i := 0) dx_X12_units_0 rfl rfl ?_
  refine go_iconst dx_X12_units_1 ?_
  refine go_putI fp_X12_139 rfl rfl (go_ok rfl rfl) dx_X12_units_2 ?_
  have h := mx_thr (v := 0) h
  have f0 : fl δ (wr δ 94 0 0) := fl_thr
  generalize wr δ 94 0 0 = δ0 at h f0 ⊢
  have hQ := fun δ' a (b : fl δ0 δ') => hQ δ' a (fl_tr f0 b)
  have hsc := @mx_of δ0 S h
  have hb := h.1.1
  have hlaid := h.2
  have ho := bo_of hb
  have hR := ho.1
  have hQ := hQ δ0 h fl_rf
  unfold oq_units at hQ
  refine go_iload_n (i := 1) dx_X12_units_5 rfl rfl ?_
  refine go_cS1 ss_X12_212 dx_X12_units_6 (Nat.le_of_ble_eq_true rfl) (Nat.le_of_ble_eq_true rfl) (m_isSymbol hx (fun a1 a2 => ?_) (fun b1 => ?_))
  · refine go_if_eq (tgt := 22) dx_X12_units_9 rfl (by omega) (fun c9 => absurd c9 (by decide)) (fun c9 => ?_)
    rw [cif_t ⟨a1, a2⟩] at hQ
    obtain ⟨m, rfl⟩ : ∃ m : Nat, x = (m : Int) := ⟨x.toNat, by omega⟩
    rw [Int.toNat_natCast] at hQ
    refine go_aload_n (i := 0) dx_X12_units_12 rfl rfl ?_
    refine go_iconst dx_X12_units_13 ?_
    refine go_iload_n (i := 1) dx_X12_units_14 rfl rfl ?_
    refine go_ishl dx_X12_units_15 ?_
    refine go_asI (y := ((2 ^ m : Nat) : Int)) (by exact bv_bit (by omega)) ?_
    refine go_cV1 sv_X12_228 (go_ok rfl rfl) dx_X12_units_16 (Nat.le_of_ble_eq_true rfl) (Nat.le_of_ble_eq_true rfl) (m_unitsFrom ho (Nat.pow_lt_pow_right (by decide) (by omega)) ?_)
    refine go_goto (tgt := 24) dx_X12_units_19 rfl ?_
    refine go_ireturn dx_X12_units_24 rfl (Nat.le_refl _) (Nat.le_refl _) ?_
    rw [mk_congr (P' := fun y => y = m ∨ ut S.1.1 m y) (fun y _ => by simp only [bt_one]; exact ⟨fun q => q.elim (fun w => Or.inl w.symm) (fun ⟨z, z1, z2⟩ => Or.inr (by rw [z1]; exact z2)), fun q => q.elim (fun w => Or.inl w.symm) (fun w => Or.inr ⟨m, rfl, w⟩)⟩)]
    exact hQ
  · refine go_if_eq (tgt := 22) dx_X12_units_9 rfl (by omega) (fun c9 => ?_) (fun c9 => absurd c9 (by decide))
    refine go_bipush dx_X12_units_22 rfl ?_
    refine go_ireturn dx_X12_units_24 rfl (Nat.le_refl _) (Nat.le_refl _) ?_
    rw [cif_f b1] at hQ
    exact hQ
theorem m_rounds (h : mx_at δ S) (hQ : ∀ δ', mx_at δ' S → fl δ δ' → Q [vv_I (oq_rounds S.1)] go_φ δ') : Go E (d + 2) (0, 0) mx_X12_rounds go_φ 0 [(0, vv_A 94)] [] δ Q := by
  refine go_aload_n (i := 0) dx_X12_rounds_0 rfl rfl ?_
  refine go_iconst dx_X12_rounds_1 ?_
  refine go_putI fp_X12_139 rfl rfl (go_ok rfl rfl) dx_X12_rounds_2 ?_
  have h := mx_thr (v := 0) h
  have f0 : fl δ (wr δ 94 0 0) := fl_thr
  generalize wr δ 94 0 0 = δ0 at h f0 ⊢
  have hQ := fun δ' a (b : fl δ0 δ') => hQ δ' a (fl_tr f0 b)
  have hsc := @mx_of δ0 S h
  have hb := h.1.1
  have hlaid := h.2
  have ho := bo_of hb
  have hR := ho.1
  have hQ := hQ δ0 h fl_rf
  unfold oq_rounds at hQ
  have outer := lp_up (X := Unit) (hi := 8) (I := fun _ _ => True)
    (G := fun x _ => ∀ lv0, lv0 = [(0, vv_A 94), (1, vv_I (mk 8 (fun y => y < x ∧ ut S.1.1 y y) : Int)), (2, vv_I (x : Int))] → Go E (d + 2) (0, 0) mx_X12_rounds go_φ 9 lv0 [] δ0 Q)
    (fun x _ hx _ ih lv0 e0 => by
      subst e0
      have inner := lp_up (X := Unit) (hi := 16) (I := fun _ _ => True)
        (G := fun r _ => ∀ lv0, lv0 = [(0, vv_A 94), (1, vv_I (mk 8 (fun y => y < x ∧ ut S.1.1 y y) : Int)), (2, vv_I (x : Int)), (3, vv_I (mk 14 (unp S.1.1 r x) : Int)), (4, vv_I (r : Int))] → Go E (d + 2) (0, 0) mx_X12_rounds go_φ 20 lv0 [] δ0 Q)
        (fun r _ hr _ ih2 lv0 e0 => by
          subst e0
          have hok := hR r
          have hlen := hok.len
          have u31 := mk_31 14 (unp S.1.1 r x) (by decide)
          have same : (∀ y, S.1.1 r ≠ [x, y]) → mk 14 (unp S.1.1 r x) = mk 14 (unp S.1.1 (r + 1) x) := fun q => mk_congr (fun y _ => ⟨fun ⟨r', a, b⟩ => ⟨r', by omega, b⟩, fun ⟨r', a, b⟩ => ⟨r', by
            by_cases e : r' = r
            · subst e; exact absurd b (q y)
            · omega, b⟩⟩)
          refine go_iload dx_X12_rounds_20 rfl ?_
          refine go_bipush dx_X12_rounds_22 rfl ?_
          refine go_icmp_ge (tgt := 65) dx_X12_rounds_24 rfl (by omega) (by omega) (fun c24 => by exact absurd c24 (by omega)) (fun c24 => ?_)
          refine go_aload_n (i := 0) dx_X12_rounds_27 rfl rfl ?_
          refine go_iload dx_X12_rounds_28 rfl ?_
          refine go_cV1 sv_X12_148 (go_ok rfl rfl) dx_X12_rounds_30 (Nat.le_of_ble_eq_true rfl) (Nat.le_of_ble_eq_true rfl) (o_longOf ho hr ?_)
          refine go_iconst dx_X12_rounds_33 ?_
          refine go_icmp_ne (tgt := 59) dx_X12_rounds_34 rfl (by omega) (by omega) (fun c34 => ?_) (fun c34 => ?_)
          · refine go_iinc (lv' := [(0, vv_A 94), (1, vv_I (mk 8 (fun y => y < x ∧ ut S.1.1 y y) : Int)), (2, vv_I (x : Int)), (3, vv_I (mk 14 (unp S.1.1 r x) : Int)), (4, vv_I ((r : Int) + 1))]) dx_X12_rounds_59 rfl (by decide) rfl ?_
            refine go_goto (tgt := 20) dx_X12_rounds_62 rfl ?_
            rw [same (fun p q => by rw [q] at c34; exact absurd rfl c34)]
            exact ih2 () trivial _ rfl
          · have hl2 : (S.1.1 r).length = 2 := by omega
            obtain ⟨z, y, q, hl, hz, hy, hq⟩ := rl_split hR (r := r) (fun w => by rw [w] at hl2; cases hl2)
            have hq0 : q = [] := List.eq_nil_of_length_eq_zero (by rw [hl] at hl2; simp only [List.length_cons] at hl2; omega)
            subst hq0
            refine go_aload_n (i := 0) dx_X12_rounds_37 rfl rfl ?_
            refine go_iload dx_X12_rounds_38 rfl ?_
            refine go_cV1 sv_X12_184 (go_ok rfl rfl) dx_X12_rounds_40 (Nat.le_of_ble_eq_true rfl) (Nat.le_of_ble_eq_true rfl) (o_symbolOf ho hr (by omega) ?_)
            refine go_asI (y := (z : Int)) (by rw [hl]; rfl) ?_
            refine go_iload_n (i := 2) dx_X12_rounds_43 rfl rfl ?_
            refine go_icmp_ne (tgt := 59) dx_X12_rounds_44 rfl (by omega) (by omega) (fun c44 => ?_) (fun c44 => ?_)
            · refine go_iinc (lv' := [(0, vv_A 94), (1, vv_I (mk 8 (fun y => y < x ∧ ut S.1.1 y y) : Int)), (2, vv_I (x : Int)), (3, vv_I (mk 14 (unp S.1.1 r x) : Int)), (4, vv_I ((r : Int) + 1))]) dx_X12_rounds_59 rfl (by decide) rfl ?_
              refine go_goto (tgt := 20) dx_X12_rounds_62 rfl ?_
              rw [same (fun p q => by rw [hl] at q; injection q with q1 q2; omega)]
              exact ih2 () trivial _ rfl
            · refine go_iload_n (i := 3) dx_X12_rounds_47 rfl rfl ?_
              refine go_iconst dx_X12_rounds_48 ?_
              refine go_aload_n (i := 0) dx_X12_rounds_49 rfl rfl ?_
              refine go_iload dx_X12_rounds_50 rfl ?_
              refine go_iconst dx_X12_rounds_52 ?_
              refine go_asI (y := ((0 : Nat) : Int)) (by rfl) ?_
              refine go_cV2 sv_X12_190 (go_ok rfl rfl) dx_X12_rounds_53 (Nat.le_of_ble_eq_true rfl) (Nat.le_of_ble_eq_true rfl) (o_partOf ho hr (by omega) ?_)
              refine go_asI (y := (y : Int)) (by rw [hl]; rfl) ?_
              refine go_ishl dx_X12_rounds_56 ?_
              refine go_asI (y := ((2 ^ y : Nat) : Int)) (by exact bv_bit (by omega)) ?_
              refine go_ior dx_X12_rounds_57 ?_
              refine go_asI (y := (mk 14 (unp S.1.1 (r + 1) x) : Int)) (by rw [bv_orN u31 (bt_p31 hy (by decide)), mk_one hy, mk_or]; exact congrArg _ (mk_congr (fun p _ => ⟨fun q => q.elim (fun ⟨r', a, b⟩ => ⟨r', by omega, b⟩) (fun q => ⟨r, by omega, by rw [hl, ← q, show z = x by omega]⟩), fun ⟨r', a, b⟩ => by
               by_cases e : r' = r
               · subst e; rw [hl] at b; injection b with b1 b2; injection b2 with b3 b4; exact Or.inr b3
               · exact Or.inl ⟨r', by omega, b⟩⟩))) ?_
              refine go_istore_n (i := 3) (lv' := [(0, vv_A 94), (1, vv_I (mk 8 (fun y => y < x ∧ ut S.1.1 y y) : Int)), (2, vv_I (x : Int)), (3, vv_I (mk 14 (unp S.1.1 (r + 1) x) : Int)), (4, vv_I (r : Int))]) dx_X12_rounds_58 rfl (by decide) rfl ?_
              refine go_iinc (lv' := [(0, vv_A 94), (1, vv_I (mk 8 (fun y => y < x ∧ ut S.1.1 y y) : Int)), (2, vv_I (x : Int)), (3, vv_I (mk 14 (unp S.1.1 (r + 1) x) : Int)), (4, vv_I ((r : Int) + 1))]) dx_X12_rounds_59 rfl (by decide) rfl ?_
              refine go_goto (tgt := 20) dx_X12_rounds_62 rfl ?_
              exact ih2 () trivial _ rfl
        ) (fun _ _ lv0 e0 => by
          subst e0
          have e16 : mk 14 (unp S.1.1 16 x) = mk 14 (un S.1.1 x) := rfl
          have t31 := mk_31 14 (fun y => (mk 14 (un S.1.1 x)).testBit y = true ∨ ∃ z, (mk 14 (un S.1.1 x)).testBit z = true ∧ ut S.1.1 z y) (by decide)
          refine go_iload dx_X12_rounds_20 rfl ?_
          refine go_bipush dx_X12_rounds_22 rfl ?_
          refine go_icmp_ge (tgt := 65) dx_X12_rounds_24 rfl (by omega) (by omega) (fun c24 => ?_) (fun c24 => by exact absurd c24 (by omega))
          refine go_iload_n (i := 1) dx_X12_rounds_65 rfl rfl ?_
          refine go_aload_n (i := 0) dx_X12_rounds_66 rfl rfl ?_
          refine go_iload_n (i := 3) dx_X12_rounds_67 rfl rfl ?_
          refine go_cV1 sv_X12_228 (go_ok rfl rfl) dx_X12_rounds_68 (Nat.le_of_ble_eq_true rfl) (Nat.le_of_ble_eq_true rfl) (m_unitsFrom ho (mk_lt 14 _) ?_)
          refine go_iconst dx_X12_rounds_71 ?_
          refine go_iload_n (i := 2) dx_X12_rounds_72 rfl rfl ?_
          refine go_ishl dx_X12_rounds_73 ?_
          refine go_asI (y := ((2 ^ x : Nat) : Int)) (by exact bv_bit (by omega)) ?_
          refine go_iand dx_X12_rounds_74 ?_
          refine go_asI (y := ((mk 14 (fun y => (mk 14 (un S.1.1 x)).testBit y = true ∨ ∃ z, (mk 14 (un S.1.1 x)).testBit z = true ∧ ut S.1.1 z y) &&& 2 ^ x : Nat) : Int)) (by exact bv_andN t31 (bt_p31 (show x < 14 by omega) (by decide))) ?_
          refine go_ior dx_X12_rounds_75 ?_
          refine go_asI (y := (mk 8 (fun y => y < x + 1 ∧ ut S.1.1 y y) : Int)) (by rw [bv_orN (mk_31 8 _ (by decide)) (Nat.lt_of_le_of_lt Nat.and_le_left t31)]; refine congrArg _ (mk_eq (Nat.or_lt_two_pow (mk_lt 8 _) (Nat.lt_of_le_of_lt Nat.and_le_right (Nat.pow_lt_pow_right (by decide) hx))) (fun y hy => ?_)); rw [bt_orb, bt_andb, bt_one, mk_bit, mk_bit]; simp only [mk_bit]; exact ⟨fun q => q.elim (fun q => ⟨by omega, q.2.2⟩) (fun ⟨⟨_, q1⟩, q2⟩ => by subst q2; exact ⟨by omega, q1.elim (fun w => ut_one w.2) (fun ⟨z, w1, w2⟩ => ut_cons w1.2 w2)⟩), fun ⟨q1, q2⟩ => by
            by_cases e : y = x
            · subst e
              refine Or.inr ⟨⟨by omega, ?_⟩, rfl⟩
              exact ut_cases hR q2
            · exact Or.inl ⟨hy, by omega, q2⟩⟩) ?_
          refine go_istore_n (i := 1) (lv' := [(0, vv_A 94), (1, vv_I (mk 8 (fun y => y < x + 1 ∧ ut S.1.1 y y) : Int)), (2, vv_I (x : Int)), (3, vv_I (mk 14 (unp S.1.1 16 x) : Int)), (4, vv_I ((16 : Nat) : Int))]) dx_X12_rounds_76 rfl (by decide) rfl ?_
          refine go_iinc (lv' := [(0, vv_A 94), (1, vv_I (mk 8 (fun y => y < x + 1 ∧ ut S.1.1 y y) : Int)), (2, vv_I ((x : Int) + 1)), (3, vv_I (mk 14 (unp S.1.1 16 x) : Int)), (4, vv_I ((16 : Nat) : Int))]) dx_X12_rounds_77 rfl (by decide) rfl ?_
          refine go_goto (tgt := 9) dx_X12_rounds_80 rfl ?_
          refine go_keep [0, 1, 2] rfl ?_
          exact ih () trivial _ rfl
        )
      refine go_iload_n (i := 2) dx_X12_rounds_9 rfl rfl ?_
      refine go_bipush dx_X12_rounds_10 rfl ?_
      refine go_icmp_ge (tgt := 83) dx_X12_rounds_12 rfl (by omega) (by omega) (fun c12 => by exact absurd c12 (by omega)) (fun c12 => ?_)
      refine go_iconst dx_X12_rounds_15 ?_
      refine go_istore_n (i := 3) (lv' := [(0, vv_A 94), (1, vv_I (mk 8 (fun y => y < x ∧ ut S.1.1 y y) : Int)), (2, vv_I (x : Int)), (3, vv_I 0)]) dx_X12_rounds_16 rfl (by decide) rfl ?_
      refine go_iconst dx_X12_rounds_17 ?_
      refine go_istore (lv' := [(0, vv_A 94), (1, vv_I (mk 8 (fun y => y < x ∧ ut S.1.1 y y) : Int)), (2, vv_I (x : Int)), (3, vv_I 0), (4, vv_I 0)]) dx_X12_rounds_18 (by decide) rfl ?_
      have k := inner 0 () (Nat.zero_le _) trivial _ rfl
      rw [mk_zero (P := unp S.1.1 0 x) (fun y _ ⟨r', a, _⟩ => absurd a (Nat.not_lt_zero _))] at k
      exact k
    ) (fun _ _ lv0 e0 => by
      subst e0
      refine go_iload_n (i := 2) dx_X12_rounds_9 rfl rfl ?_
      refine go_bipush dx_X12_rounds_10 rfl ?_
      refine go_icmp_ge (tgt := 83) dx_X12_rounds_12 rfl (by omega) (by omega) (fun c12 => ?_) (fun c12 => by exact absurd c12 (by omega))
      refine go_iload_n (i := 1) dx_X12_rounds_83 rfl rfl ?_
      refine go_ireturn dx_X12_rounds_84 rfl (Nat.le_refl _) (Nat.le_refl _) ?_
      rw [mk_congr (P' := fun y => ut S.1.1 y y) (fun y hy => ⟨fun q => q.2, fun q => ⟨hy, q⟩⟩)]
      exact hQ
    )
  refine go_iconst dx_X12_rounds_5 ?_
  refine go_istore_n (i := 1) (lv' := [(0, vv_A 94), (1, vv_I 0)]) dx_X12_rounds_6 rfl (by decide) rfl ?_
  refine go_iconst dx_X12_rounds_7 ?_
  refine go_istore_n (i := 2) (lv' := [(0, vv_A 94), (1, vv_I 0), (2, vv_I 0)]) dx_X12_rounds_8 rfl (by decide) rfl ?_
  have k := outer 0 () (Nat.zero_le _) trivial _ rfl
  rw [mk_zero (fun y _ q => absurd q.1 (Nat.not_lt_zero _))] at k
  exact k
theorem m_least {x : Int} (hx : go_iI x) (h : mx_at δ S) (hQ : ∀ δ', mx_at δ' S → fl δ δ' → Q [vv_I (oq_least S.1 x)] go_φ δ') : Go E (d + 3) (0, 0) mx_X12_least go_φ 0 [(0, vv_A 94), (1, vv_I x)] [] δ Q := by
  refine go_aload_n (i := 0) dx_X12_least_0 rfl rfl ?_
  refine go_iconst dx_X12_least_1 ?_
  refine go_putI fp_X12_139 rfl rfl (go_ok rfl rfl) dx_X12_least_2 ?_
  have h := mx_thr (v := 0) h
  have f0 : fl δ (wr δ 94 0 0) := fl_thr
  generalize wr δ 94 0 0 = δ0 at h f0 ⊢
  have hQ := fun δ' a (b : fl δ0 δ') => hQ δ' a (fl_tr f0 b)
  have hsc := @mx_of δ0 S h
  have hb := h.1.1
  have hlaid := h.2
  have ho := bo_of hb
  have hR := ho.1
  have h48 := gH_le hR
  have l103 : go_ln 103 = 48 := rfl
  have l104 : go_ln 104 = 48 := rfl
  have l105 : go_ln 105 = 14 := rfl
  unfold oq_least isy at hQ
  rw [nsy_eq] at hQ
  refine go_aload_n (i := 0) dx_X12_least_5 rfl rfl ?_
  refine go_iload_n (i := 1) dx_X12_least_6 rfl rfl ?_
  refine go_cV1 sv_X12_235 (go_ok rfl rfl) dx_X12_least_7 (Nat.le_of_ble_eq_true rfl) (Nat.le_of_ble_eq_true rfl) (m_isAny hx ho (fun δ1 q1 f1 => ?_))
  refine go_b_ne (tgt := 16) dx_X12_least_10 rfl (fun c10 => ?_) (fun c10 => ?_)
  · obtain ⟨m, rfl⟩ : ∃ m : Nat, x = (m : Int) := ⟨x.toNat, by omega⟩
    have hm : m < 14 + (gH S.1.1).length := by omega
    refine go_aload_n (i := 0) dx_X12_least_16 rfl rfl ?_
    refine go_cV0 sv_X12_238 (go_ok rfl rfl) dx_X12_least_17 (Nat.le_of_ble_eq_true rfl) (Nat.le_of_ble_eq_true rfl) (m_laysLeast (bo_fr ho (fun j _ => f1 95 j (by unfold mqP; omega))) (fun δ2 v v1 v2 v3 f2 => ?_))
    have hb2 : bo_at δ2 S.1.1 := bo_fr ho (fun j _ => by rw [f2 95 j (by decide), f1 95 j (by unfold mqP; omega)])
    obtain ⟨a, b⟩ := hsc (δ' := δ2) (fun c j hc => by unfold sc at hc; rw [f2 c j (by omega), f1 c j (by unfold mqP; omega)]) (ml_fr hlaid (fun c j hc => by rw [f2 c j (by omega), f1 c j (by unfold mqP; omega)]))
    have hQ := hQ δ2 a b
    rw [cif_t c10, Int.toNat_natCast, ← lst_ll hR v2 v3 hm] at hQ
    have hle := lst_v_le v (sm S.1.1 m)
    have fin : Go E (d + 3) (0, 0) mx_X12_least go_φ 57 [(0, vv_A 94), (1, vv_I (m : Int))] [vv_I (lst_v v (sm S.1.1 m) : Int)] δ2 Q := by
      refine go_istore_n (i := 2) (lv' := [(0, vv_A 94), (1, vv_I (m : Int)), (2, vv_I (lst_v v (sm S.1.1 m) : Int))]) dx_X12_least_57 rfl (by decide) rfl ?_
      refine go_iload_n (i := 2) dx_X12_least_58 rfl rfl ?_
      refine go_ldc (x := 268435456) kx_X12_231 dx_X12_least_59 ?_
      refine go_icmp_ne (tgt := 68) dx_X12_least_61 rfl (by omega) (by omega) (fun c61 => ?_) (fun c61 => ?_)
      · refine go_iload_n (i := 2) dx_X12_least_68 rfl rfl ?_
        refine go_ireturn dx_X12_least_69 rfl (Nat.le_refl _) (Nat.le_refl _) ?_
        first | (rw [if_pos (by omega)] at hQ; exact hQ) | (rw [if_neg (by omega)] at hQ; exact hQ)
      · refine go_iconst dx_X12_least_64 ?_
        refine go_goto (tgt := 69) dx_X12_least_65 rfl ?_
        refine go_ireturn dx_X12_least_69 rfl (Nat.le_refl _) (Nat.le_refl _) ?_
        first | (rw [if_pos (by omega)] at hQ; exact hQ) | (rw [if_neg (by omega)] at hQ; exact hQ)
    by_cases h14 : m < 14
    · have e : (v m : Int) = (lst_v v (sm S.1.1 m) : Int) := by
        have := v2.1 m h14
        rw [sm_lo h14]
        unfold lst_v
        show _ = (((if v m + 0 < 268435456 then v m + 0 else 268435456 : Nat)) : Int)
        split <;> omega
      refine go_iload_n (i := 1) dx_X12_least_20 rfl rfl ?_
      refine go_bipush dx_X12_least_21 rfl ?_
      refine go_icmp_ge (tgt := 35) dx_X12_least_23 rfl (by omega) (by omega) (fun c23 => by exact absurd c23 (by omega)) (fun c23 => ?_)
      refine go_aload_n (i := 0) dx_X12_least_26 rfl rfl ?_
      refine go_getA (b := 105) fs_X12_45 rfl (go_ok rfl rfl) rfl dx_X12_least_27 ?_
      refine go_iload_n (i := 1) dx_X12_least_30 rfl rfl ?_
      refine go_ialoadV (i := m) (v := ((v m : Int))) dx_X12_least_31 (go_ok rfl rfl) (by omega) (show m < 14 by omega) (by exact v1 m h14) ?_
      refine go_asI (y := (lst_v v (sm S.1.1 m) : Int)) (by exact e) ?_
      refine go_goto (tgt := 57) dx_X12_least_32 rfl ?_
      exact fin
    · obtain ⟨r, k, hr, hk, e⟩ := gH_idx (show m - 14 < (gH S.1.1).length by omega)
      have hg := gh_get hr hk
      have hi : m - 14 < (gH S.1.1).length := by omega
      have hv := q1.2.2.2 (m - 14) hi
      have ev : (gH S.1.1)[m - 14]'hi = (r, k + 1) := by
        have this : (gH S.1.1)[m - 14]? = some (r, k + 1) := by rw [e]; exact hg
        exact Option.some.inj ((List.getElem?_eq_getElem hi).symm.trans this)
      rw [ev] at hv
      have esm : sm S.1.1 m = (S.1.1 r).drop (k + 1 + 1) := by rw [show m = 14 + (gh S.1.1 r).length + k by omega, sm_hi hr hk]
      refine go_iload_n (i := 1) dx_X12_least_20 rfl rfl ?_
      refine go_bipush dx_X12_least_21 rfl ?_
      refine go_icmp_ge (tgt := 35) dx_X12_least_23 rfl (by omega) (by omega) (fun c23 => ?_) (fun c23 => by exact absurd c23 (by omega))
      refine go_aload_n (i := 0) dx_X12_least_35 rfl rfl ?_
      refine go_aload_n (i := 0) dx_X12_least_36 rfl rfl ?_
      refine go_getA (b := 103) fs_X12_39 rfl (go_ok rfl rfl) rfl dx_X12_least_37 ?_
      refine go_iload_n (i := 1) dx_X12_least_40 rfl rfl ?_
      refine go_bipush dx_X12_least_41 rfl ?_
      refine go_isub dx_X12_least_43 ?_
      refine go_ialoadV (i := (m - 14)) (v := ((r : Int))) dx_X12_least_44 (go_ok rfl rfl) (by omega) (show (m - 14) < 48 by omega) (by rw [f2 _ _ (by decide)]; exact hv.1) ?_
      refine go_aload_n (i := 0) dx_X12_least_45 rfl rfl ?_
      refine go_getA (b := 104) fs_X12_42 rfl (go_ok rfl rfl) rfl dx_X12_least_46 ?_
      refine go_iload_n (i := 1) dx_X12_least_49 rfl rfl ?_
      refine go_bipush dx_X12_least_50 rfl ?_
      refine go_isub dx_X12_least_52 ?_
      refine go_ialoadV (i := (m - 14)) (v := (((k + 1 : Nat) : Int))) dx_X12_least_53 (go_ok rfl rfl) (by omega) (show (m - 14) < 48 by omega) (by rw [f2 _ _ (by decide)]; exact hv.2) ?_
      refine go_cV2 sv_X12_232 (go_ok rfl rfl) dx_X12_least_54 (Nat.le_of_ble_eq_true rfl) (Nat.le_of_ble_eq_true rfl) (m_sumFrom hb2 v1 v2.1 hr (by omega) ?_)
      rw [← esm]
      exact fin
  · refine go_bipush dx_X12_least_13 rfl ?_
    refine go_ireturn dx_X12_least_15 rfl (Nat.le_refl _) (Nat.le_refl _) ?_
    obtain ⟨a, b⟩ := hsc (δ' := δ1) (fun c j hc => f1 c j (by unfold mqP; unfold sc at hc; omega)) (ml_fr hlaid (fun c j hc => f1 c j (by unfold mqP; omega)))
    have hQ := hQ δ1 a b
    rw [cif_f c10] at hQ
    exact hQ
end GMCA
