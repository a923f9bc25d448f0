/-! the class's calls: next, pieces, product -/
section GXC7
variable {E : go_E} {d : Nat} {δ : Nat → Nat → Int} {Q : List go_V → go_F → (Nat → Nat → Int) → Prop} {S : sS} {K : sK} {Tm : Int}
/-- a row of the charts that no table needs -/
theorem xk_48 {δ2 : Nat → Nat → Int} (h : xk_at Tm δ S) (f : ∀ c j, c ≠ 47 → c ≠ 48 → δ2 c j = δ c j) : xk_at Tm δ2 S := by
  obtain ⟨a1, a2, a3, a4, a5, a6, a7, a8, a9, a10, a11⟩ := h
  exact ⟨xs_fr a1 (fun b h1 h2 j => f b j (by omega) (by omega)), kts_fr a2 0 0 (f 0 16 (by decide) (by decide)) (fun b j h => Or.inl (f b j (by omega) (by omega))), kno_fr a3 (fun b j h => f b j (by omega) (by omega)), k17_fr a4 (fun b j h => f b j (by omega) (by omega)), k49_fr a5 (fun b j h => f b j (by omega) (by omega)), k52_fr a6 (fun b j h => f b j (by omega) (by omega)), k56_fr a7 (fun b j h => f b j (by omega) (by omega)), k62_fr a8 (fun b j h => f b j (by omega) (by omega)), k67_fr a9 (fun b j h => f b j (by omega) (by omega)), k71_fr a10 (fun b j h => f b j (by omega) (by omega)), k74_fr a11 (fun b j h => f b j (by omega) (by omega))⟩
theorem x_next (h : xk_at Tm δ S) (hQ : ∀ δ', xk_at Tm δ' S → fc δ δ' → Q [vv_I (oq_next S.1)] go_φ δ') : Go E (d + 12) (0, 0) mx_X11_next go_φ 0 [(0, vv_A 0)] [] δ Q := by
  unfold oq_next at hQ
  let P : Nat → Prop := fun c => 8 ≤ c ∧ bgn S.1.1 (plw (S.1.2.2 ++ [c])) 0 (S.1.2.2.length + 1) S.1.2.1
  refine go_aload_n (i := 0) dx_X11_next_0 rfl rfl ?_
  refine go_cV0 sv_X11_183 (go_ok rfl rfl) dx_X11_next_1 (Nat.le_of_ble_eq_true rfl) (Nat.le_of_ble_eq_true rfl) (g_freshen h (fun δ1 h1 e1 f1 => ?_))
  have loop := lp_up (X := Nat → Nat → Int) (hi := 14) (I := fun c δ2 => 8 ≤ c ∧ xk_at Tm δ2 S ∧ δ2 0 17 = δ2 0 16 ∧ fc δ δ2)
    (G := fun c δ2 => ∀ lv0, lv0 = [(0, vv_A 0), (1, vv_I (mk 14 (fun x => x < c ∧ P x) : Int)), (2, vv_I (c : Int))] → Go E (d + 12) (0, 0) mx_X11_next go_φ 9 lv0 [] δ2 Q)
    (fun c δ2 hc hI ih lv0 e0 => ?_) (fun δ2 hI lv0 e0 => ?_)
  · refine go_iconst dx_X11_next_4 ?_
    refine go_istore_n (i := 1) (lv' := [(0, vv_A 0), (1, vv_I 0)]) dx_X11_next_5 rfl (by decide) rfl ?_
    refine go_bipush dx_X11_next_6 rfl ?_
    refine go_istore_n (i := 2) (lv' := [(0, vv_A 0), (1, vv_I 0), (2, vv_I 8)]) dx_X11_next_8 rfl (by decide) rfl ?_
    exact loop 8 δ1 (by decide) ⟨Nat.le_refl _, h1, e1, f1⟩ _ (by rw [mk_zero (fun x _ q => by have := q.1; have := q.2.1; omega)]; rfl)
  · subst e0
    obtain ⟨i1, i2, i3, i4⟩ := hI
    obtain ⟨hb, hm, hc44⟩ := i2.2.2.2.1 i3
    have htd := i2.1.1
    have e3 := htd.2.2.2.1
    have et := htd.2.1
    have ht8 := htd.2.2.2.2.2.2.2.1
    have h14 := htd.2.2.2.2.2.2.2.2.1
    have hlet := htd.2.2.2.2.2.2.2.2.2
    obtain ⟨M, hM⟩ : ∃ M, M = mk 14 (fun x => x < c ∧ P x) := ⟨_, rfl⟩
    have M31 : M < 2147483648 := by rw [hM]; exact mk_31 14 _ (by decide)
    rw [← hM]
    have hs : ∀ x, (x < c + 1 ∧ P x) ↔ (x < c ∧ P x) ∨ (x = c ∧ P x) := fun x => ⟨fun q => by
      by_cases z : x = c
      · exact Or.inr ⟨z, q.2⟩
      · exact Or.inl ⟨by omega, q.2⟩, fun q => q.elim (fun q => ⟨by omega, q.2⟩) (fun q => ⟨by omega, q.2⟩)⟩
    have nxt : ∀ δ3 (y : Int), y = (mk 14 (fun x => x < c + 1 ∧ P x) : Int) → (∀ b j, b ≠ 48 → δ3 b j = δ2 b j) → Go E (d + 12) (0, 0) mx_X11_next go_φ 9 [(0, vv_A 0), (1, vv_I y), (2, vv_I ((c + 1 : Nat) : Int))] [] δ3 Q := fun δ3 y hy f =>
      ih δ3 ⟨by omega, xk_48 i2 (fun b j _ q => f b j q), by rw [f 0 17 (by decide), f 0 16 (by decide)]; exact i3, fc_tr i4 (fun b hb j => f b j (by omega))⟩ _ (by rw [hy])
    have hbit : (mk 62 (bgn S.1.1 (plw (S.1.2.2 ++ [c])) 0 (S.1.2.2.length + 1))).testBit S.1.2.1 = true ↔ P c := by rw [mk_bit]; exact ⟨fun q => ⟨i1, q.2⟩, fun q => ⟨by omega, q.2⟩⟩
    refine go_iload_n (i := 2) dx_X11_next_9 rfl rfl ?_
    refine go_bipush dx_X11_next_10 rfl ?_
    refine go_icmp_ge (tgt := 65) dx_X11_next_12 rfl (by omega) (by omega) (fun c12 => by exact absurd c12 (by omega)) (fun c12 => ?_)
    refine go_aload_n (i := 0) dx_X11_next_15 rfl rfl ?_
    refine go_getA (b := 44) fs_X11_42 rfl (go_ok rfl rfl) rfl dx_X11_next_16 ?_
    refine go_aload_n (i := 0) dx_X11_next_19 rfl rfl ?_
    refine go_getA (b := 33) fs_X11_33 rfl (go_ok rfl rfl) rfl dx_X11_next_20 ?_
    refine go_aload_n (i := 0) dx_X11_next_23 rfl rfl ?_
    refine go_getA (b := 3) fs_X11_19 rfl (go_ok rfl rfl) rfl dx_X11_next_24 ?_
    refine go_getI fs_X11_239 (Or.inl rfl) (go_ok rfl rfl) dx_X11_next_27 ?_
    refine go_asI (y := (S.1.2.2.length : Int)) (by exact e3) ?_
    refine go_lconst (x := 1) dx_X11_next_30 rfl ?_
    refine go_iload_n (i := 2) dx_X11_next_31 rfl rfl ?_
    refine go_lshl dx_X11_next_32 ?_
    refine go_asL (y := ((2 ^ c : Nat) : Int)) (by exact bw_bit (by omega)) ?_
    refine go_cV3 sv_X11_328 (go_ok rfl rfl) dx_X11_next_33 (Nat.le_of_ble_eq_true rfl) (Nat.le_of_ble_eq_true rfl) (g_Chart_beginnersOf (pl' := plw (S.1.2.2 ++ [c])) ch_ok44 bi_ok33 (by omega) hb hm.1.2 hc44 (Nat.le_refl _) (Nat.pow_lt_pow_right (by decide) (by omega)) (fun i c' hi => by unfold plw; rw [List.getElem?_append_left hi]) (fun c' => by rw [bt_one]; unfold plw; rw [List.getElem?_append_right (Nat.le_refl _), Nat.sub_self]; exact ⟨fun q => congrArg _ q, fun q => Option.some.inj q⟩) (fun i c' _ q => by
      rcases List.mem_append.mp (List.mem_of_getElem? q) with w | w
      · exact hlet c' w
      · rw [List.mem_singleton.mp w]; exact ⟨i1, hc⟩) (fun δ3 f3 => ?_))
    refine go_lstore_n (i := 3) (lv' := [(0, vv_A 0), (1, vv_I (M : Int)), (2, vv_I (c : Int)), (3, vv_L (mk 62 (bgn S.1.1 (plw (S.1.2.2 ++ [c])) 0 (S.1.2.2.length + 1)) : Int))]) dx_X11_next_36 rfl (by decide) rfl ?_
    refine go_lload_n (i := 3) dx_X11_next_37 rfl rfl ?_
    refine go_aload_n (i := 0) dx_X11_next_38 rfl rfl ?_
    refine go_getA (b := 3) fs_X11_19 rfl (go_ok rfl rfl) rfl dx_X11_next_39 ?_
    refine go_getI fs_X11_170 (Or.inl rfl) (go_ok rfl rfl) dx_X11_next_42 ?_
    refine go_asI (y := (S.1.2.1 : Int)) (by rw [f3 3 1 (by decide)]; exact et) ?_
    refine go_lushr dx_X11_next_45 ?_
    refine go_lconst (x := 1) dx_X11_next_46 rfl ?_
    refine go_land dx_X11_next_47 ?_
    refine go_asL (y := (b01 ((mk 62 (bgn S.1.1 (plw (S.1.2.2 ++ [c])) 0 (S.1.2.2.length + 1))).testBit S.1.2.1 = true))) (by exact bw_tstb (bt_m63 (mk_lt 62 _) (by decide)) (by omega)) ?_
    refine go_lconst (x := 0) dx_X11_next_48 rfl ?_
    refine go_bl_eq (tgt := 59) dx_X11_next_49 dx_X11_next_50 rfl (fun c49 => ?_) (fun c49 => ?_)
    · refine go_iinc (lv' := [(0, vv_A 0), (1, vv_I (M : Int)), (2, vv_I ((c : Int) + 1)), (3, vv_L (mk 62 (bgn S.1.1 (plw (S.1.2.2 ++ [c])) 0 (S.1.2.2.length + 1)) : Int))]) dx_X11_next_59 rfl (by decide) rfl ?_
      refine go_goto (tgt := 9) dx_X11_next_62 rfl ?_
      refine go_keep [0, 1, 2] rfl ?_
      first
      | exact nxt δ3 _ rfl f3
      | exact nxt δ3 _ (by rw [hM]; exact congrArg _ (mk_congr (fun x _ => by rw [hs x]; exact ⟨Or.inl, fun q => q.elim id (fun e => absurd (hbit.mpr (by rw [← e.1]; exact e.2)) c49)⟩))) f3
    · refine go_iload_n (i := 1) dx_X11_next_53 rfl rfl ?_
      refine go_iconst dx_X11_next_54 ?_
      refine go_iload_n (i := 2) dx_X11_next_55 rfl rfl ?_
      refine go_ishl dx_X11_next_56 ?_
      refine go_asI (y := ((2 ^ c : Nat) : Int)) (by exact bv_bit (by omega)) ?_
      refine go_ior dx_X11_next_57 ?_
      refine go_asI (y := (mk 14 (fun x => x < c + 1 ∧ P x) : Int)) (by rw [bv_orN M31 (bt_p31 (show c < 14 by omega) (by decide)), hM, mk_one hc, mk_or]; exact congrArg _ (mk_congr (fun x _ => by rw [hs x]; exact ⟨fun q => q.elim Or.inl (fun e => Or.inr ⟨e.symm, by rw [← e]; exact hbit.mp c49⟩), fun q => q.elim Or.inl (fun e => Or.inr e.1.symm)⟩))) ?_
      refine go_istore_n (i := 1) (lv' := [(0, vv_A 0), (1, vv_I (mk 14 (fun x => x < c + 1 ∧ P x) : Int)), (2, vv_I (c : Int)), (3, vv_L (mk 62 (bgn S.1.1 (plw (S.1.2.2 ++ [c])) 0 (S.1.2.2.length + 1)) : Int))]) dx_X11_next_58 rfl (by decide) rfl ?_
      refine go_iinc (lv' := [(0, vv_A 0), (1, vv_I (mk 14 (fun x => x < c + 1 ∧ P x) : Int)), (2, vv_I ((c : Int) + 1)), (3, vv_L (mk 62 (bgn S.1.1 (plw (S.1.2.2 ++ [c])) 0 (S.1.2.2.length + 1)) : Int))]) dx_X11_next_59 rfl (by decide) rfl ?_
      refine go_goto (tgt := 9) dx_X11_next_62 rfl ?_
      refine go_keep [0, 1, 2] rfl ?_
      first
      | exact nxt δ3 _ rfl f3
      | exact nxt δ3 _ (by rw [hM]; exact congrArg _ (mk_congr (fun x _ => by rw [hs x]; exact ⟨Or.inl, fun q => q.elim id (fun e => absurd (hbit.mpr (by rw [← e.1]; exact e.2)) c49)⟩))) f3
  · subst e0
    obtain ⟨i1, i2, i3, i4⟩ := hI
    have hQ := hQ δ2 i2 i4
    rw [← mk_congr (P := fun x => x < 14 ∧ P x) (fun x hx => ⟨fun q => q.2, fun q => ⟨hx, q⟩⟩)] at hQ
    refine go_iload_n (i := 2) dx_X11_next_9 rfl rfl ?_
    refine go_bipush dx_X11_next_10 rfl ?_
    refine go_icmp_ge (tgt := 65) dx_X11_next_12 rfl (by omega) (by omega) (fun c12 => ?_) (fun c12 => by exact absurd c12 (by omega))
    refine go_iload_n (i := 1) dx_X11_next_65 rfl rfl ?_
    refine go_ireturn dx_X11_next_66 rfl (Nat.le_refl _) (Nat.le_refl _) ?_
    exact hQ
theorem x_pieces {q : Int} (hq : go_iI q) (h : xk_at Tm δ S) (hQ : ∀ δ', xk_at Tm δ' S → fc δ δ' → Q [vv_I (oq_pieces S.1 q)] go_φ δ') : Go E (d + 12) (0, 0) mx_X11_pieces go_φ 0 [(0, vv_A 0), (1, vv_I q)] [] δ Q := by
  unfold oq_pieces lcK dK at hQ
  refine go_iload_n (i := 1) dx_X11_pieces_0 rfl rfl ?_
  refine go_iconst dx_X11_pieces_1 ?_
  refine go_icmp_ge (tgt := 8) dx_X11_pieces_2 rfl (by omega) (by omega) (fun c2 => ?_) (fun c2 => ?_)
  · refine go_aload_n (i := 0) dx_X11_pieces_8 rfl rfl ?_
    refine go_cV0 sv_X11_183 (go_ok rfl rfl) dx_X11_pieces_9 (Nat.le_of_ble_eq_true rfl) (Nat.le_of_ble_eq_true rfl) (g_freshen h (fun δ1 h1 e1 f1 => ?_))
    obtain ⟨hb, hm, hc⟩ := h1.2.2.2.1 e1
    have hR := hb.2.2.2.2.2.2
    have htd := h1.1.1
    have et := htd.2.1
    have ht8 := htd.2.2.2.2.2.2.2.1
    have h14 := htd.2.2.2.2.2.2.2.2.1
    refine go_aload_n (i := 0) dx_X11_pieces_12 rfl rfl ?_
    refine go_getA (b := 44) fs_X11_42 rfl (go_ok rfl rfl) rfl dx_X11_pieces_13 ?_
    refine go_aload_n (i := 0) dx_X11_pieces_16 rfl rfl ?_
    refine go_getA (b := 3) fs_X11_19 rfl (go_ok rfl rfl) rfl dx_X11_pieces_17 ?_
    refine go_getI fs_X11_170 (Or.inl rfl) (go_ok rfl rfl) dx_X11_pieces_20 ?_
    refine go_asI (y := (S.1.2.1 : Int)) (by exact et) ?_
    refine go_cV1 sv_X11_319 (go_ok rfl rfl) dx_X11_pieces_23 (Nat.le_of_ble_eq_true rfl) (Nat.le_of_ble_eq_true rfl) (g_Chart_countPieces ch_ok44 hR hc (by omega) (fun δ2 b2 f2 => ?_))
    have h2 : xk_at Tm δ2 S := xk_48 h1 (fun c j q _ => f2 c j q)
    have hQ := hQ δ2 h2 (fc_tr f1 (fun b hb j => f2 b j (by omega)))
    obtain ⟨v, hv⟩ : ∃ v, v = (if S.1.2.2.length = 0 then -1 else lch (dp S.1.1 (plw S.1.2.2) S.1.2.1) S.1.2.2.length 0) := ⟨_, rfl⟩
    have hcv : cif (S.1.2.2.length = 0) (-1) (lch (dp S.1.1 (plw S.1.2.2) S.1.2.1) S.1.2.2.length 0) = v := by
      rw [hv]
      by_cases z : S.1.2.2.length = 0
      · rw [cif_t z, if_pos z]
      · rw [cif_f z, if_neg z]
    have hlr := lch_le (dp S.1.1 (plw S.1.2.2) S.1.2.1) S.1.2.2.length 0
    have hvr : -1 ≤ v ∧ v ≤ 14 := by rw [hv]; split <;> omega
    rw [hcv, if_neg (by omega)] at hQ
    rw [← hv]
    have hc2 := ct_fr hc (fun c j q => f2 c j (by omega))
    refine go_istore_n (i := 2) (lv' := [(0, vv_A 0), (1, vv_I q), (2, vv_I v)]) dx_X11_pieces_26 rfl (by decide) rfl ?_
    refine go_iload_n (i := 1) dx_X11_pieces_27 rfl rfl ?_
    refine go_iconst dx_X11_pieces_28 ?_
    refine go_icmp_eq (tgt := 37) dx_X11_pieces_29 rfl (by omega) (by omega) (fun c29 => ?_) (fun c29 => ?_)
    · refine go_iload_n (i := 1) dx_X11_pieces_37 rfl rfl ?_
      refine go_iconst dx_X11_pieces_38 ?_
      refine go_icmp_ne (tgt := 46) dx_X11_pieces_39 rfl (by omega) (by omega) (fun c39 => ?_) (fun c39 => ?_)
      · refine go_iconst dx_X11_pieces_46 ?_
        refine go_ireturn dx_X11_pieces_47 rfl (Nat.le_refl _) (Nat.le_refl _) ?_
        first | (rw [if_pos (by omega)] at hQ; exact hQ) | (rw [if_neg (by omega), cif_f (by omega)] at hQ; exact hQ)
      · refine go_iload_n (i := 2) dx_X11_pieces_42 rfl rfl ?_
        refine go_goto (tgt := 47) dx_X11_pieces_43 rfl ?_
        refine go_ireturn dx_X11_pieces_47 rfl (Nat.le_refl _) (Nat.le_refl _) ?_
        first | (rw [if_pos (by omega)] at hQ; exact hQ) | (rw [if_neg (by omega), cif_f (by omega)] at hQ; exact hQ)
    · refine go_iload_n (i := 1) dx_X11_pieces_32 rfl rfl ?_
      refine go_iload_n (i := 2) dx_X11_pieces_33 rfl rfl ?_
      refine go_icmp_lt (tgt := 48) dx_X11_pieces_34 rfl (by omega) (by omega) (fun c34 => ?_) (fun c34 => ?_)
      · obtain ⟨p, rfl⟩ : ∃ p : Nat, q = (p : Int) := ⟨q.toNat, by omega⟩
        rw [if_neg (by omega), cif_t (by omega), Int.toNat_natCast] at hQ
        have hpv : (p : Int) < lch (dp S.1.1 (plw S.1.2.2) S.1.2.1) S.1.2.2.length 0 := by
          have c34 : (p : Int) < v := by omega
          rw [hv] at c34
          split at c34
          · omega
          · exact c34
        refine go_aload_n (i := 0) dx_X11_pieces_48 rfl rfl ?_
        refine go_getA (b := 44) fs_X11_42 rfl (go_ok rfl rfl) rfl dx_X11_pieces_49 ?_
        refine go_aload_n (i := 0) dx_X11_pieces_52 rfl rfl ?_
        refine go_getA (b := 3) fs_X11_19 rfl (go_ok rfl rfl) rfl dx_X11_pieces_53 ?_
        refine go_getI fs_X11_170 (Or.inl rfl) (go_ok rfl rfl) dx_X11_pieces_56 ?_
        refine go_asI (y := (S.1.2.1 : Int)) (by rw [f2 3 1 (by decide)]; exact et) ?_
        refine go_iload_n (i := 1) dx_X11_pieces_59 rfl rfl ?_
        refine go_cV2 sv_X11_322 (go_ok rfl rfl) dx_X11_pieces_60 (Nat.le_of_ble_eq_true rfl) (Nat.le_of_ble_eq_true rfl) (g_Chart_endOfPiece ch_ok44 hR hc2 (by omega) b2 hpv ?_)
        refine go_ireturn dx_X11_pieces_63 rfl (Nat.le_refl _) (Nat.le_refl _) ?_
        exact hQ
      · refine go_iload_n (i := 1) dx_X11_pieces_37 rfl rfl ?_
        refine go_iconst dx_X11_pieces_38 ?_
        refine go_icmp_ne (tgt := 46) dx_X11_pieces_39 rfl (by omega) (by omega) (fun c39 => ?_) (fun c39 => ?_)
        · refine go_iconst dx_X11_pieces_46 ?_
          refine go_ireturn dx_X11_pieces_47 rfl (Nat.le_refl _) (Nat.le_refl _) ?_
          first | (rw [if_pos (by omega)] at hQ; exact hQ) | (rw [if_neg (by omega), cif_f (by omega)] at hQ; exact hQ)
        · refine go_iload_n (i := 2) dx_X11_pieces_42 rfl rfl ?_
          refine go_goto (tgt := 47) dx_X11_pieces_43 rfl ?_
          refine go_ireturn dx_X11_pieces_47 rfl (Nat.le_refl _) (Nat.le_refl _) ?_
          first | (rw [if_pos (by omega)] at hQ; exact hQ) | (rw [if_neg (by omega), cif_f (by omega)] at hQ; exact hQ)
  · refine go_bipush dx_X11_pieces_5 rfl ?_
    refine go_ireturn dx_X11_pieces_7 rfl (Nat.le_refl _) (Nat.le_refl _) ?_
    have hQ := hQ δ h fc_rf
    rw [if_pos (by omega)] at hQ
    exact hQ
theorem x_product {x y i : Int} (hx : go_iI x) (hy : go_iI y) (hi : go_iI i) (h : xk_at Tm δ S) (hQ : ∀ δ', xk_at Tm δ' S → fc δ δ' → Q [vv_I (oq_product S.1 x y i)] go_φ δ') : Go E (d + 12) (0, 0) mx_X11_product go_φ 0 [(0, vv_A 0), (1, vv_I x), (2, vv_I y), (3, vv_I i)] [] δ Q := by
  unfold oq_product isy ipl pdp dK at hQ
  refine go_aload_n (i := 0) dx_X11_product_0 rfl rfl ?_
  refine go_cV0 sv_X11_183 (go_ok rfl rfl) dx_X11_product_1 (Nat.le_of_ble_eq_true rfl) (Nat.le_of_ble_eq_true rfl) (g_freshen h (fun δ1 h1 e1 f1 => ?_))
  obtain ⟨hb, hm, hc⟩ := h1.2.2.2.1 e1
  have hQ := hQ δ1 h1 f1
  have hR := hb.2.2.2.2.2.2
  have htd := h1.1.1
  have e3 := htd.2.2.2.1
  have h14 := htd.2.2.2.2.2.2.2.2.1
  have h62 := nsy_le hR
  refine go_aload_n (i := 0) dx_X11_product_4 rfl rfl ?_
  refine go_iload_n (i := 1) dx_X11_product_5 rfl rfl ?_
  refine go_cV1 sv_X11_205 (go_ok rfl rfl) dx_X11_product_6 (Nat.le_of_ble_eq_true rfl) (Nat.le_of_ble_eq_true rfl) (g_isSymbol hx hb ?_)
  refine go_b_eq (tgt := 28) dx_X11_product_9 rfl (fun c9 => ?_) (fun c9 => ?_)
  · refine go_bipush dx_X11_product_28 rfl ?_
    refine go_ireturn dx_X11_product_30 rfl (Nat.le_refl _) (Nat.le_refl _) ?_
    first | (rw [cif_f (fun q => c9 q.1)] at hQ; exact hQ) | (rw [cif_f (fun q => c17 q.2.1)] at hQ; exact hQ) | (rw [cif_f (fun q => p1 q.2.2)] at hQ; exact hQ)
  · refine go_aload_n (i := 0) dx_X11_product_12 rfl rfl ?_
    refine go_iload_n (i := 2) dx_X11_product_13 rfl rfl ?_
    refine go_cV1 sv_X11_205 (go_ok rfl rfl) dx_X11_product_14 (Nat.le_of_ble_eq_true rfl) (Nat.le_of_ble_eq_true rfl) (g_isSymbol hy hb ?_)
    refine go_b_eq (tgt := 28) dx_X11_product_17 rfl (fun c17 => ?_) (fun c17 => ?_)
    · refine go_bipush dx_X11_product_28 rfl ?_
      refine go_ireturn dx_X11_product_30 rfl (Nat.le_refl _) (Nat.le_refl _) ?_
      first | (rw [cif_f (fun q => c9 q.1)] at hQ; exact hQ) | (rw [cif_f (fun q => c17 q.2.1)] at hQ; exact hQ) | (rw [cif_f (fun q => p1 q.2.2)] at hQ; exact hQ)
    · refine go_aload_n (i := 0) dx_X11_product_20 rfl rfl ?_
      refine go_iload_n (i := 3) dx_X11_product_21 rfl rfl ?_
      refine go_cV1 sv_X11_264 (go_ok rfl rfl) dx_X11_product_22 (Nat.le_of_ble_eq_true rfl) (Nat.le_of_ble_eq_true rfl) (g_isPlace hi htd (fun p1 p2 => ?_) (fun p1 => ?_))
      · refine go_if_ne (tgt := 31) dx_X11_product_25 rfl (by omega) (fun c25 => ?_) (fun c25 => absurd c25 (by decide))
        obtain ⟨p, rfl⟩ : ∃ p : Nat, x = (p : Int) := ⟨x.toNat, by omega⟩
        obtain ⟨q, rfl⟩ : ∃ q : Nat, y = (q : Int) := ⟨y.toNat, by omega⟩
        obtain ⟨a, rfl⟩ : ∃ a : Nat, i = (a : Int) := ⟨i.toNat, by omega⟩
        rw [cif_t ⟨c9, c17, p1, p2⟩, Int.toNat_natCast, Int.toNat_natCast, Int.toNat_natCast] at hQ
        obtain ⟨n, hn⟩ : ∃ n, n = S.1.2.2.length := ⟨_, rfl⟩
        rw [← hn] at hQ hc e3 p2 h14
        obtain ⟨H, hH1, hH2, hH3⟩ : ∃ H, a + 1 ≤ H ∧ n ≤ H ∧ (H = a + 1 ∨ H = n) := ⟨max (a + 1) n, by omega, by omega, by omega⟩
        obtain ⟨F, hF⟩ : ∃ F, F = mk 15 (fun j => j ≤ n ∧ dp S.1.1 (plw S.1.2.2) p a j) := ⟨_, rfl⟩
        have F31 : F < 2147483648 := by rw [hF]; exact mk_31 15 _ (by decide)
        have loop := lp_up (X := Unit) (hi := H) (I := fun k _ => a < k)
          (G := fun k _ => ∀ lv0, lv0 = [(0, vv_A 0), (1, vv_I (p : Int)), (2, vv_I (q : Int)), (3, vv_I (a : Int)), (4, vv_I (F : Int)), (5, vv_I (mk 15 (fun j => j ≤ n ∧ ∃ z, a < z ∧ z < k ∧ z < n ∧ dp S.1.1 (plw S.1.2.2) p a z ∧ dp S.1.1 (plw S.1.2.2) q z j) : Int)), (6, vv_I (k : Int))] → Go E (d + 12) (0, 0) mx_X11_product go_φ 50 lv0 [] δ1 Q)
          (fun k _ hk hI ih lv0 e0 => by
            subst e0
            have ih := ih () (by omega)
            have hs : ∀ j, (∃ z, a < z ∧ z < k + 1 ∧ z < n ∧ dp S.1.1 (plw S.1.2.2) p a z ∧ dp S.1.1 (plw S.1.2.2) q z j) ↔ (∃ z, a < z ∧ z < k ∧ z < n ∧ dp S.1.1 (plw S.1.2.2) p a z ∧ dp S.1.1 (plw S.1.2.2) q z j) ∨ (dp S.1.1 (plw S.1.2.2) p a k ∧ dp S.1.1 (plw S.1.2.2) q k j) := fun j => by
              constructor
              · rintro ⟨z, z1, z2, z3, z4, z5⟩
                by_cases e : z = k
                · subst e; exact Or.inr ⟨z4, z5⟩
                · exact Or.inl ⟨z, z1, by omega, z3, z4, z5⟩
              · rintro (⟨z, z1, z2, z3, z4, z5⟩ | ⟨z4, z5⟩)
                · exact ⟨z, z1, by omega, z3, z4, z5⟩
                · exact ⟨k, hI, by omega, by omega, z4, z5⟩
            have hbit : F.testBit k = true ↔ dp S.1.1 (plw S.1.2.2) p a k := by rw [hF, mk_bit]; exact ⟨fun z => z.2.2, fun z => ⟨by omega, by omega, z⟩⟩
            refine go_iload dx_X11_product_50 rfl ?_
            refine go_aload_n (i := 0) dx_X11_product_52 rfl rfl ?_
            refine go_getA (b := 3) fs_X11_19 rfl (go_ok rfl rfl) rfl dx_X11_product_53 ?_
            refine go_getI fs_X11_239 (Or.inl rfl) (go_ok rfl rfl) dx_X11_product_56 ?_
            refine go_asI (y := (n : Int)) (by exact e3) ?_
            refine go_icmp_ge (tgt := 93) dx_X11_product_59 rfl (by omega) (by omega) (fun c59 => by exact absurd c59 (by omega)) (fun c59 => ?_)
            refine go_iload dx_X11_product_62 rfl ?_
            refine go_iload dx_X11_product_64 rfl ?_
            refine go_iushr dx_X11_product_66 ?_
            refine go_iconst dx_X11_product_67 ?_
            refine go_iand dx_X11_product_68 ?_
            refine go_asI (y := (b01 (F.testBit k = true))) (by exact bv_tstb F31 (by omega)) ?_
            refine go_b_eq (tgt := 87) dx_X11_product_69 rfl (fun c69 => ?_) (fun c69 => ?_)
            · refine go_iinc (lv' := [(0, vv_A 0), (1, vv_I (p : Int)), (2, vv_I (q : Int)), (3, vv_I (a : Int)), (4, vv_I (F : Int)), (5, vv_I (mk 15 (fun j => j ≤ n ∧ ∃ z, a < z ∧ z < k ∧ z < n ∧ dp S.1.1 (plw S.1.2.2) p a z ∧ dp S.1.1 (plw S.1.2.2) q z j) : Int)), (6, vv_I ((k : Int) + 1))]) dx_X11_product_87 rfl (by decide) rfl ?_
              refine go_goto (tgt := 50) dx_X11_product_90 rfl ?_
              first
              | exact ih _ rfl
              | exact ih _ (by rw [mk_congr (P' := fun j => j ≤ n ∧ ∃ z, a < z ∧ z < k + 1 ∧ z < n ∧ dp S.1.1 (plw S.1.2.2) p a z ∧ dp S.1.1 (plw S.1.2.2) q z j) (fun j _ => by rw [hs j]; exact ⟨fun z => ⟨z.1, Or.inl z.2⟩, fun z => ⟨z.1, z.2.elim id (fun g => absurd (hbit.mpr g.1) c69)⟩⟩)]; rfl)
            · refine go_iload dx_X11_product_72 rfl ?_
              refine go_aload_n (i := 0) dx_X11_product_74 rfl rfl ?_
              refine go_getA (b := 44) fs_X11_42 rfl (go_ok rfl rfl) rfl dx_X11_product_75 ?_
              refine go_iload_n (i := 2) dx_X11_product_78 rfl rfl ?_
              refine go_iload dx_X11_product_79 rfl ?_
              refine go_cV2 sv_X11_267 (go_ok rfl rfl) dx_X11_product_81 (Nat.le_of_ble_eq_true rfl) (Nat.le_of_ble_eq_true rfl) (g_Chart_endsFrom ch_ok44 hR hc (by omega) (by omega) ?_)
              refine go_ior dx_X11_product_84 ?_
              refine go_asI (y := (mk 15 (fun j => j ≤ n ∧ ∃ z, a < z ∧ z < k + 1 ∧ z < n ∧ dp S.1.1 (plw S.1.2.2) p a z ∧ dp S.1.1 (plw S.1.2.2) q z j) : Int)) (by rw [bv_orN (mk_31 15 _ (by decide)) (mk_31 15 _ (by decide)), mk_or]; exact congrArg _ (mk_congr (fun j _ => by rw [hs j]; exact ⟨fun z => z.elim (fun z => ⟨z.1, Or.inl z.2⟩) (fun z => ⟨z.1, Or.inr ⟨hbit.mp c69, z.2⟩⟩), fun z => z.2.elim (fun g => Or.inl ⟨z.1, g⟩) (fun g => Or.inr ⟨z.1, g.2⟩)⟩))) ?_
              refine go_istore (lv' := [(0, vv_A 0), (1, vv_I (p : Int)), (2, vv_I (q : Int)), (3, vv_I (a : Int)), (4, vv_I (F : Int)), (5, vv_I (mk 15 (fun j => j ≤ n ∧ ∃ z, a < z ∧ z < k + 1 ∧ z < n ∧ dp S.1.1 (plw S.1.2.2) p a z ∧ dp S.1.1 (plw S.1.2.2) q z j) : Int)), (6, vv_I (k : Int))]) dx_X11_product_85 (by decide) rfl ?_
              refine go_iinc (lv' := [(0, vv_A 0), (1, vv_I (p : Int)), (2, vv_I (q : Int)), (3, vv_I (a : Int)), (4, vv_I (F : Int)), (5, vv_I (mk 15 (fun j => j ≤ n ∧ ∃ z, a < z ∧ z < k + 1 ∧ z < n ∧ dp S.1.1 (plw S.1.2.2) p a z ∧ dp S.1.1 (plw S.1.2.2) q z j) : Int)), (6, vv_I ((k : Int) + 1))]) dx_X11_product_87 rfl (by decide) rfl ?_
              refine go_goto (tgt := 50) dx_X11_product_90 rfl ?_
              first
              | exact ih _ rfl
              | exact ih _ (by rw [mk_congr (P' := fun j => j ≤ n ∧ ∃ z, a < z ∧ z < k + 1 ∧ z < n ∧ dp S.1.1 (plw S.1.2.2) p a z ∧ dp S.1.1 (plw S.1.2.2) q z j) (fun j _ => by rw [hs j]; exact ⟨fun z => ⟨z.1, Or.inl z.2⟩, fun z => ⟨z.1, z.2.elim id (fun g => absurd (hbit.mpr g.1) c69)⟩⟩)]; rfl)
          ) (fun _ hI lv0 e0 => by
            subst e0
            rw [mk_congr (P' := fun j => j ≤ n ∧ ∃ k, a < k ∧ k < j ∧ dp S.1.1 (plw S.1.2.2) p a k ∧ dp S.1.1 (plw S.1.2.2) q k j) (fun j _ => ⟨fun ⟨z1, z, z2, _, _, z4, z5⟩ => ⟨z1, z, z2, dp_lt z5, z4, z5⟩, fun ⟨z1, z, z2, z3, z4, z5⟩ => ⟨z1, z, z2, by omega, by omega, z4, z5⟩⟩)]
            refine go_iload dx_X11_product_50 rfl ?_
            refine go_aload_n (i := 0) dx_X11_product_52 rfl rfl ?_
            refine go_getA (b := 3) fs_X11_19 rfl (go_ok rfl rfl) rfl dx_X11_product_53 ?_
            refine go_getI fs_X11_239 (Or.inl rfl) (go_ok rfl rfl) dx_X11_product_56 ?_
            refine go_asI (y := (n : Int)) (by exact e3) ?_
            refine go_icmp_ge (tgt := 93) dx_X11_product_59 rfl (by omega) (by omega) (fun c59 => ?_) (fun c59 => by exact absurd c59 (by omega))
            refine go_iload dx_X11_product_93 rfl ?_
            refine go_ireturn dx_X11_product_95 rfl (Nat.le_refl _) (Nat.le_refl _) ?_
            exact hQ
          )
        refine go_aload_n (i := 0) dx_X11_product_31 rfl rfl ?_
        refine go_getA (b := 44) fs_X11_42 rfl (go_ok rfl rfl) rfl dx_X11_product_32 ?_
        refine go_iload_n (i := 1) dx_X11_product_35 rfl rfl ?_
        refine go_iload_n (i := 3) dx_X11_product_36 rfl rfl ?_
        refine go_cV2 sv_X11_267 (go_ok rfl rfl) dx_X11_product_37 (Nat.le_of_ble_eq_true rfl) (Nat.le_of_ble_eq_true rfl) (g_Chart_endsFrom ch_ok44 hR hc (by omega) (by omega) ?_)
        refine go_asI (y := (F : Int)) (by rw [hF]) ?_
        refine go_istore (lv' := [(0, vv_A 0), (1, vv_I (p : Int)), (2, vv_I (q : Int)), (3, vv_I (a : Int)), (4, vv_I (F : Int))]) dx_X11_product_40 (by decide) rfl ?_
        refine go_iconst dx_X11_product_42 ?_
        refine go_istore (lv' := [(0, vv_A 0), (1, vv_I (p : Int)), (2, vv_I (q : Int)), (3, vv_I (a : Int)), (4, vv_I (F : Int)), (5, vv_I 0)]) dx_X11_product_43 (by decide) rfl ?_
        refine go_iload_n (i := 3) dx_X11_product_45 rfl rfl ?_
        refine go_iconst dx_X11_product_46 ?_
        refine go_iadd dx_X11_product_47 ?_
        refine go_asI (y := ((a + 1 : Nat) : Int)) (by rfl) ?_
        refine go_istore (lv' := [(0, vv_A 0), (1, vv_I (p : Int)), (2, vv_I (q : Int)), (3, vv_I (a : Int)), (4, vv_I (F : Int)), (5, vv_I 0), (6, vv_I ((a + 1 : Nat) : Int))]) dx_X11_product_48 (by decide) rfl ?_
        exact loop (a + 1) () (by omega) (Nat.lt_succ_self _) _ (by rw [mk_zero (fun j _ ⟨_, z, z1, z2, _⟩ => by omega)]; rfl)
      · refine go_if_ne (tgt := 31) dx_X11_product_25 rfl (by omega) (fun c25 => absurd c25 (by decide)) (fun c25 => ?_)
        refine go_bipush dx_X11_product_28 rfl ?_
        refine go_ireturn dx_X11_product_30 rfl (Nat.le_refl _) (Nat.le_refl _) ?_
        first | (rw [cif_f (fun q => c9 q.1)] at hQ; exact hQ) | (rw [cif_f (fun q => c17 q.2.1)] at hQ; exact hQ) | (rw [cif_f (fun q => p1 q.2.2)] at hQ; exact hQ)
end GXC7
