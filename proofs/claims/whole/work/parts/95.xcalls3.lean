/-! the class's calls: rounds, reached, pieces, viable, next, cuts -/
section GXC6
variable {E : go_E} {d : Nat} {δ : Nat → Nat → Int} {Q : List go_V → go_F → (Nat → Nat → Int) → Prop} {S : sS} {K : sK} {Tm : Int}
theorem x_rounds (h : xk_at Tm δ S) (hQ : ∀ δ', xk_at Tm δ' S → fc δ δ' → Q [vv_I (oq_rounds S.1)] go_φ δ') : Go E (d + 12) (0, 0) mx_X11_rounds go_φ 0 [(0, vv_A 0)] [] δ Q := by
  have l39 : go_ln 39 = 8 := rfl
  unfold oq_rounds at hQ
  refine go_aload_n (i := 0) dx_X11_rounds_0 rfl rfl ?_
  refine go_cV0 sv_X11_183 (go_ok rfl rfl) dx_X11_rounds_1 (Nat.le_of_ble_eq_true rfl) (Nat.le_of_ble_eq_true rfl) (g_freshen h (fun δ1 h1 e1 f1 => ?_))
  obtain ⟨hb, hm, hc⟩ := h1.2.2.2.1 e1
  have hQ := hQ δ1 h1 f1
  have loop := lp_up (X := Unit) (hi := 8) (I := fun _ _ => True)
    (G := fun x _ => ∀ lv0, lv0 = [(0, vv_A 0), (1, vv_I (mk 8 (fun y => y < x ∧ ut S.1.1 y y) : Int)), (2, vv_I (x : Int))] → Go E (d + 12) (0, 0) mx_X11_rounds go_φ 8 lv0 [] δ1 Q)
    (fun x _ hx _ ih lv0 e0 => by
      subst e0
      have ex := hb.2.2.2.2.2.1 x hx
      have t31 := mk_31 14 (ut S.1.1 x) (by decide)
      refine go_iload_n (i := 2) dx_X11_rounds_8 rfl rfl ?_
      refine go_bipush dx_X11_rounds_9 rfl ?_
      refine go_icmp_ge (tgt := 38) dx_X11_rounds_11 rfl (by omega) (by omega) (fun c11 => by exact absurd c11 (by omega)) (fun c11 => ?_)
      refine go_iload_n (i := 1) dx_X11_rounds_14 rfl rfl ?_
      refine go_aload_n (i := 0) dx_X11_rounds_15 rfl rfl ?_
      refine go_getA (b := 33) fs_X11_33 rfl (go_ok rfl rfl) rfl dx_X11_rounds_16 ?_
      refine go_getA (b := 39) fs_X11_214 rfl (go_ok rfl rfl) rfl dx_X11_rounds_19 ?_
      refine go_iload_n (i := 2) dx_X11_rounds_22 rfl rfl ?_
      refine go_cS2 ss_X11_192 dx_X11_rounds_23 (Nat.le_of_ble_eq_true rfl) (Nat.le_of_ble_eq_true rfl) (g_intAtV (i := x) (v := ((mk 14 (ut S.1.1 x) : Int))) (go_ok rfl rfl) (by omega) (show x < 8 by omega) (by exact ex) ?_)
      refine go_iconst dx_X11_rounds_26 ?_
      refine go_iload_n (i := 2) dx_X11_rounds_27 rfl rfl ?_
      refine go_ishl dx_X11_rounds_28 ?_
      refine go_asI (y := ((2 ^ x : Nat) : Int)) (by exact bv_bit (by omega)) ?_
      refine go_iand dx_X11_rounds_29 ?_
      refine go_asI (y := ((mk 14 (ut S.1.1 x) &&& 2 ^ x : Nat) : Int)) (by exact bv_andN t31 (bt_p31 (show x < 14 by omega) (by decide))) ?_
      refine go_ior dx_X11_rounds_30 ?_
      refine go_asI (y := (mk 8 (fun y => y < x + 1 ∧ ut S.1.1 y y) : Int)) (by rw [bv_orN (mk_31 8 _ (by decide)) (Nat.lt_of_le_of_lt Nat.and_le_left t31)]; refine congrArg _ (mk_eq (Nat.or_lt_two_pow (mk_lt 8 _) (Nat.lt_of_le_of_lt Nat.and_le_right (Nat.pow_lt_pow_right (by decide) hx))) (fun y hy => ?_)); rw [bt_orb, bt_andb, bt_one, mk_bit, mk_bit]; exact ⟨fun q => q.elim (fun q => ⟨by omega, q.2.2⟩) (fun ⟨q1, q2⟩ => by subst q2; exact ⟨by omega, q1.2⟩), fun ⟨q1, q2⟩ => by
        by_cases e : y = x
        · subst e; exact Or.inr ⟨⟨by omega, q2⟩, rfl⟩
        · exact Or.inl ⟨hy, by omega, q2⟩⟩) ?_
      refine go_istore_n (i := 1) (lv' := [(0, vv_A 0), (1, vv_I (mk 8 (fun y => y < x + 1 ∧ ut S.1.1 y y) : Int)), (2, vv_I (x : Int))]) dx_X11_rounds_31 rfl (by decide) rfl ?_
      refine go_iinc (lv' := [(0, vv_A 0), (1, vv_I (mk 8 (fun y => y < x + 1 ∧ ut S.1.1 y y) : Int)), (2, vv_I ((x : Int) + 1))]) dx_X11_rounds_32 rfl (by decide) rfl ?_
      refine go_goto (tgt := 8) dx_X11_rounds_35 rfl ?_
      exact ih () trivial _ rfl
    ) (fun _ _ lv0 e0 => by
      subst e0
      refine go_iload_n (i := 2) dx_X11_rounds_8 rfl rfl ?_
      refine go_bipush dx_X11_rounds_9 rfl ?_
      refine go_icmp_ge (tgt := 38) dx_X11_rounds_11 rfl (by omega) (by omega) (fun c11 => ?_) (fun c11 => by exact absurd c11 (by omega))
      refine go_iload_n (i := 1) dx_X11_rounds_38 rfl rfl ?_
      refine go_ireturn dx_X11_rounds_39 rfl (Nat.le_refl _) (Nat.le_refl _) ?_
      rw [mk_congr (P' := fun x => ut S.1.1 x x) (fun y hy => ⟨fun q => q.2, fun q => ⟨hy, q⟩⟩)]
      exact hQ
    )
  refine go_iconst dx_X11_rounds_4 ?_
  refine go_istore_n (i := 1) (lv' := [(0, vv_A 0), (1, vv_I 0)]) dx_X11_rounds_5 rfl (by decide) rfl ?_
  refine go_iconst dx_X11_rounds_6 ?_
  refine go_istore_n (i := 2) (lv' := [(0, vv_A 0), (1, vv_I 0), (2, vv_I 0)]) dx_X11_rounds_7 rfl (by decide) rfl ?_
  exact loop 0 () (Nat.zero_le _) trivial _ (by rw [mk_zero (fun y _ q => absurd q.1 (Nat.not_lt_zero _))]; rfl)
theorem x_reached {q : Int} (hq : go_iI q) (h : xk_at Tm δ S) (hQ : ∀ δ', xk_at Tm δ' S → fc δ δ' → Q [vv_I (oq_reached S.1 q)] go_φ δ') : Go E (d + 12) (0, 0) mx_X11_reached go_φ 0 [(0, vv_A 0), (1, vv_I q)] [] δ Q := by
  unfold oq_reached at hQ
  refine go_iload_n (i := 1) dx_X11_reached_0 rfl rfl ?_
  refine go_if_lt (tgt := 9) dx_X11_reached_1 rfl (by omega) (fun c1 => ?_) (fun c1 => ?_)
  · refine go_bipush dx_X11_reached_9 rfl ?_
    refine go_ireturn dx_X11_reached_11 rfl (Nat.le_refl _) (Nat.le_refl _) ?_
    have hQ := hQ δ h fc_rf
    rw [if_neg (by omega), if_neg (by omega)] at hQ
    exact hQ
  · refine go_iload_n (i := 1) dx_X11_reached_4 rfl rfl ?_
    refine go_iconst dx_X11_reached_5 ?_
    refine go_icmp_le (tgt := 12) dx_X11_reached_6 rfl (by omega) (by omega) (fun c6 => ?_) (fun c6 => ?_)
    · refine go_aload_n (i := 0) dx_X11_reached_12 rfl rfl ?_
      refine go_cV0 sv_X11_183 (go_ok rfl rfl) dx_X11_reached_13 (Nat.le_of_ble_eq_true rfl) (Nat.le_of_ble_eq_true rfl) (g_freshen h (fun δ1 h1 e1 f1 => ?_))
      obtain ⟨hb, hm, hc⟩ := h1.2.2.2.1 e1
      have hQ := hQ δ1 h1 f1
      have htd := h1.1.1
      have et := htd.2.1
      have ht8 := htd.2.2.2.2.2.2.2.1
      have ef := hm.1.2
      have hr31 := mk_31 8 (rc S.1.1 S.1.2.1) (by decide)
      have e255 : bw_and (mk 62 (frt S.1.1) : Int) 255 = (mk 8 (frt S.1.1) : Int) := by
        rw [show (255 : Int) = ((255 : Nat) : Int) from rfl, bw_andN (bt_m63 (mk_lt 62 _) (by decide)) (by decide)]
        refine congrArg _ (mk_eq (Nat.lt_of_le_of_lt Nat.and_le_right (by decide)) (fun x hx => ?_))
        rw [bt_andb, mk_bit, show (255 : Nat) = 2 ^ 8 - 1 from rfl, Nat.testBit_two_pow_sub_one, decide_eq_true_eq]
        exact ⟨fun z => z.1.2, fun z => ⟨⟨by omega, z⟩, hx⟩⟩
      have h8 := mk_31 8 (frt S.1.1) (by decide)
      refine go_aload_n (i := 0) dx_X11_reached_16 rfl rfl ?_
      refine go_getA (b := 33) fs_X11_33 rfl (go_ok rfl rfl) rfl dx_X11_reached_17 ?_
      refine go_aload_n (i := 0) dx_X11_reached_20 rfl rfl ?_
      refine go_getA (b := 3) fs_X11_19 rfl (go_ok rfl rfl) rfl dx_X11_reached_21 ?_
      refine go_getI fs_X11_170 (Or.inl rfl) (go_ok rfl rfl) dx_X11_reached_24 ?_
      refine go_asI (y := (S.1.2.1 : Int)) (by exact et) ?_
      refine go_cV1 sv_X11_220 (go_ok rfl rfl) dx_X11_reached_27 (Nat.le_of_ble_eq_true rfl) (Nat.le_of_ble_eq_true rfl) (g_Binary_reachedFrom bi_ok33 hb ht8 ?_)
      refine go_istore_n (i := 2) (lv' := [(0, vv_A 0), (1, vv_I q), (2, vv_I (mk 8 (rc S.1.1 S.1.2.1) : Int))]) dx_X11_reached_30 rfl (by decide) rfl ?_
      refine go_iload_n (i := 1) dx_X11_reached_31 rfl rfl ?_
      refine go_if_ne (tgt := 39) dx_X11_reached_32 rfl (by omega) (fun c32 => ?_) (fun c32 => ?_)
      · refine go_iload_n (i := 2) dx_X11_reached_39 rfl rfl ?_
        refine go_aload_n (i := 0) dx_X11_reached_40 rfl rfl ?_
        refine go_getA (b := 33) fs_X11_33 rfl (go_ok rfl rfl) rfl dx_X11_reached_41 ?_
        refine go_getL fs_X11_223 rfl (go_ok rfl rfl) dx_X11_reached_44 ?_
        refine go_asL (y := (mk 62 (frt S.1.1) : Int)) (by exact ef) ?_
        refine go_ldc2 (x := 255) kx_X11_227 dx_X11_reached_47 ?_
        refine go_land dx_X11_reached_50 ?_
        refine go_asL (y := (mk 8 (frt S.1.1) : Int)) (by exact e255) ?_
        refine go_l2i dx_X11_reached_51 ?_
        refine go_iand dx_X11_reached_52 ?_
        refine go_asI (y := (mk 8 (fun y => rc S.1.1 S.1.2.1 y ∧ frt S.1.1 y) : Int)) (by rw [bv_andN hr31 h8, mk_and]) ?_
        refine go_ireturn dx_X11_reached_53 rfl (Nat.le_refl _) (Nat.le_refl _) ?_
        first | (rw [if_pos (by omega)] at hQ; exact hQ) | (rw [if_neg (by omega), if_pos (by omega)] at hQ; exact hQ)
      · refine go_iload_n (i := 2) dx_X11_reached_35 rfl rfl ?_
        refine go_goto (tgt := 53) dx_X11_reached_36 rfl ?_
        refine go_ireturn dx_X11_reached_53 rfl (Nat.le_refl _) (Nat.le_refl _) ?_
        first | (rw [if_pos (by omega)] at hQ; exact hQ) | (rw [if_neg (by omega), if_pos (by omega)] at hQ; exact hQ)
    · refine go_bipush dx_X11_reached_9 rfl ?_
      refine go_ireturn dx_X11_reached_11 rfl (Nat.le_refl _) (Nat.le_refl _) ?_
      have hQ := hQ δ h fc_rf
      rw [if_neg (by omega), if_neg (by omega)] at hQ
      exact hQ
theorem x_viable (h : xk_at Tm δ S) (hQ : ∀ δ', xk_at Tm δ' S → fc δ δ' → Q [vv_I (oq_viable S.1)] go_φ δ') : Go E (d + 12) (0, 0) mx_X11_viable go_φ 0 [(0, vv_A 0)] [] δ Q := by
  unfold oq_viable at hQ
  refine go_aload_n (i := 0) dx_X11_viable_0 rfl rfl ?_
  refine go_cV0 sv_X11_183 (go_ok rfl rfl) dx_X11_viable_1 (Nat.le_of_ble_eq_true rfl) (Nat.le_of_ble_eq_true rfl) (g_freshen h (fun δ1 h1 e1 f1 => ?_))
  obtain ⟨a1, a2, a3, a4, a5, a6, a7, a8, a9, a10, a11⟩ := id h1
  obtain ⟨hb, hm, hc⟩ := a4 e1
  have htd := a1.1
  have hR := hb.2.2.2.2.2.2
  have e3 := htd.2.2.2.1
  have et := htd.2.1
  have ht8 := htd.2.2.2.2.2.2.2.1
  have h14 := htd.2.2.2.2.2.2.2.2.1
  have hlet := htd.2.2.2.2.2.2.2.2.2
  have ef := hm.1.2
  have tail : ∀ δ2 (P : Nat → Prop), xk_at Tm δ2 S → fc δ δ2 → (P S.1.2.1 ↔ bgn S.1.1 (plw S.1.2.2) 0 S.1.2.2.length S.1.2.1) → Go E (d + 12) (0, 0) mx_X11_viable go_φ 55 [(0, vv_A 0), (1, vv_L (mk 62 P : Int))] [] δ2 Q := fun δ2 P h2 f2 hP => by
    have hQ := hQ δ2 h2 f2
    have et2 := h2.1.1.2.1
    have hbit : (mk 62 P).testBit S.1.2.1 = true ↔ bgn S.1.1 (plw S.1.2.2) 0 S.1.2.2.length S.1.2.1 := by rw [mk_bit]; exact ⟨fun q => hP.mp q.2, fun q => ⟨by omega, hP.mpr q⟩⟩
    rw [← b01_c hbit] at hQ
    refine go_lload_n (i := 1) dx_X11_viable_55 rfl rfl ?_
    refine go_aload_n (i := 0) dx_X11_viable_56 rfl rfl ?_
    refine go_getA (b := 3) fs_X11_19 rfl (go_ok rfl rfl) rfl dx_X11_viable_57 ?_
    refine go_getI fs_X11_170 (Or.inl rfl) (go_ok rfl rfl) dx_X11_viable_60 ?_
    refine go_asI (y := (S.1.2.1 : Int)) (by exact et2) ?_
    refine go_lushr dx_X11_viable_63 ?_
    refine go_lconst (x := 1) dx_X11_viable_64 rfl ?_
    refine go_land dx_X11_viable_65 ?_
    refine go_asL (y := (b01 ((mk 62 P).testBit S.1.2.1 = true))) (by exact bw_tstb (bt_m63 (mk_lt 62 _) (by decide)) (by omega)) ?_
    refine go_l2i dx_X11_viable_66 ?_
    refine go_ireturn dx_X11_viable_67 rfl (Nat.le_refl _) (Nat.le_refl _) ?_
    exact hQ
  by_cases hn : S.1.2.2.length = 0
  · have hw0 : S.1.2.2 = [] := List.eq_nil_of_length_eq_zero hn
    have hiff : frt S.1.1 S.1.2.1 ↔ bgn S.1.1 (plw S.1.2.2) 0 S.1.2.2.length S.1.2.1 := by
      rw [bgn_w (Nat.zero_le _), hw0]
      exact Iff.rfl
    refine go_aload_n (i := 0) dx_X11_viable_4 rfl rfl ?_
    refine go_getA (b := 33) fs_X11_33 rfl (go_ok rfl rfl) rfl dx_X11_viable_5 ?_
    refine go_getL fs_X11_223 rfl (go_ok rfl rfl) dx_X11_viable_8 ?_
    refine go_asL (y := (mk 62 (frt S.1.1) : Int)) (by exact ef) ?_
    refine go_lstore_n (i := 1) (lv' := [(0, vv_A 0), (1, vv_L (mk 62 (frt S.1.1) : Int))]) dx_X11_viable_11 rfl (by decide) rfl ?_
    refine go_aload_n (i := 0) dx_X11_viable_12 rfl rfl ?_
    refine go_getA (b := 3) fs_X11_19 rfl (go_ok rfl rfl) rfl dx_X11_viable_13 ?_
    refine go_getI fs_X11_239 (Or.inl rfl) (go_ok rfl rfl) dx_X11_viable_16 ?_
    refine go_asI (y := (S.1.2.2.length : Int)) (by exact e3) ?_
    refine go_if_le (tgt := 55) dx_X11_viable_19 rfl (by omega) (fun c19 => ?_) (fun c19 => by exact absurd hn (by omega))
    exact tail δ1 _ h1 f1 hiff
  · obtain ⟨l, hl⟩ : ∃ l, l = S.1.2.2.length - 1 := ⟨_, rfl⟩
    have hll : l < S.1.2.2.length := by omega
    have hcb := hlet _ (List.getElem_mem hll)
    refine go_aload_n (i := 0) dx_X11_viable_4 rfl rfl ?_
    refine go_getA (b := 33) fs_X11_33 rfl (go_ok rfl rfl) rfl dx_X11_viable_5 ?_
    refine go_getL fs_X11_223 rfl (go_ok rfl rfl) dx_X11_viable_8 ?_
    refine go_asL (y := (mk 62 (frt S.1.1) : Int)) (by exact ef) ?_
    refine go_lstore_n (i := 1) (lv' := [(0, vv_A 0), (1, vv_L (mk 62 (frt S.1.1) : Int))]) dx_X11_viable_11 rfl (by decide) rfl ?_
    refine go_aload_n (i := 0) dx_X11_viable_12 rfl rfl ?_
    refine go_getA (b := 3) fs_X11_19 rfl (go_ok rfl rfl) rfl dx_X11_viable_13 ?_
    refine go_getI fs_X11_239 (Or.inl rfl) (go_ok rfl rfl) dx_X11_viable_16 ?_
    refine go_asI (y := (S.1.2.2.length : Int)) (by exact e3) ?_
    refine go_if_le (tgt := 55) dx_X11_viable_19 rfl (by omega) (fun c19 => by exact absurd c19 (by omega)) (fun c19 => ?_)
    refine go_aload_n (i := 0) dx_X11_viable_22 rfl rfl ?_
    refine go_getA (b := 3) fs_X11_19 rfl (go_ok rfl rfl) rfl dx_X11_viable_23 ?_
    refine go_getI fs_X11_239 (Or.inl rfl) (go_ok rfl rfl) dx_X11_viable_26 ?_
    refine go_asI (y := (S.1.2.2.length : Int)) (by exact e3) ?_
    refine go_iconst dx_X11_viable_29 ?_
    refine go_isub dx_X11_viable_30 ?_
    refine go_asI (y := (l : Int)) (by omega) ?_
    refine go_istore_n (i := 3) (lv' := [(0, vv_A 0), (1, vv_L (mk 62 (frt S.1.1) : Int)), (3, vv_I (l : Int))]) dx_X11_viable_31 rfl (by decide) rfl ?_
    refine go_aload_n (i := 0) dx_X11_viable_32 rfl rfl ?_
    refine go_getA (b := 44) fs_X11_42 rfl (go_ok rfl rfl) rfl dx_X11_viable_33 ?_
    refine go_aload_n (i := 0) dx_X11_viable_36 rfl rfl ?_
    refine go_getA (b := 33) fs_X11_33 rfl (go_ok rfl rfl) rfl dx_X11_viable_37 ?_
    refine go_iload_n (i := 3) dx_X11_viable_40 rfl rfl ?_
    refine go_lconst (x := 1) dx_X11_viable_41 rfl ?_
    refine go_aload_n (i := 0) dx_X11_viable_42 rfl rfl ?_
    refine go_getA (b := 3) fs_X11_19 rfl (go_ok rfl rfl) rfl dx_X11_viable_43 ?_
    refine go_iload_n (i := 3) dx_X11_viable_46 rfl rfl ?_
    refine go_cV1 sv_X11_325 (go_ok rfl rfl) dx_X11_viable_47 (Nat.le_of_ble_eq_true rfl) (Nat.le_of_ble_eq_true rfl) (g_Told_letterAt (i := l) td_ok3 htd hll ?_)
    refine go_lshl dx_X11_viable_50 ?_
    refine go_asL (y := ((2 ^ (S.1.2.2[l]'hll) : Nat) : Int)) (by exact bw_bit (by omega)) ?_
    refine go_cV3 sv_X11_328 (go_ok rfl rfl) dx_X11_viable_51 (Nat.le_of_ble_eq_true rfl) (Nat.le_of_ble_eq_true rfl) (g_Chart_beginnersOf (pl' := plw S.1.2.2) ch_ok44 bi_ok33 (by omega) hb ef hc (by omega) (Nat.pow_lt_pow_right (by decide) (by omega)) (fun i c _ => Iff.rfl) (fun c => by rw [bt_one]; unfold plw; rw [List.getElem?_eq_getElem hll]; exact ⟨fun q => congrArg _ q, fun q => Option.some.inj q⟩) (fun i c _ q => hlet c (List.mem_of_getElem? q)) (fun δ2 f2 => ?_))
    refine go_lstore_n (i := 1) (lv' := [(0, vv_A 0), (1, vv_L (mk 62 (bgn S.1.1 (plw S.1.2.2) 0 (l + 1)) : Int)), (3, vv_I (l : Int))]) dx_X11_viable_54 rfl (by decide) rfl ?_
    refine go_keep [0, 1] rfl ?_
    have h2 : xk_at Tm δ2 S := ⟨xs_fr a1 (fun b h1 h2 j => f2 b j (by omega)), kts_fr a2 0 0 (f2 0 16 (by decide)) (fun b j h => Or.inl (f2 b j (by omega))), kno_fr a3 (fun b j h => f2 b j (by omega)), k17_fr a4 (fun b j h => f2 b j (by omega)), k49_fr a5 (fun b j h => f2 b j (by omega)), k52_fr a6 (fun b j h => f2 b j (by omega)), k56_fr a7 (fun b j h => f2 b j (by omega)), k62_fr a8 (fun b j h => f2 b j (by omega)), k67_fr a9 (fun b j h => f2 b j (by omega)), k71_fr a10 (fun b j h => f2 b j (by omega)), k74_fr a11 (fun b j h => f2 b j (by omega))⟩
    exact tail δ2 _ h2 (fc_tr f1 (fun b hb j => f2 b j (by omega))) (by rw [show l + 1 = S.1.2.2.length by omega])
theorem x_cuts {x y i j : Int} (hx : go_iI x) (hy : go_iI y) (hi : go_iI i) (hj : go_iI j) (h : xk_at Tm δ S) (hQ : ∀ δ', xk_at Tm δ' S → fc δ δ' → Q [vv_I (oq_cuts S.1 x y i j)] go_φ δ') : Go E (d + 12) (0, 0) mx_X11_cuts go_φ 0 [(0, vv_A 0), (1, vv_I x), (2, vv_I y), (3, vv_I i), (4, vv_I j)] [] δ Q := by
  unfold oq_cuts isy isp cutn dK at hQ
  refine go_aload_n (i := 0) dx_X11_cuts_0 rfl rfl ?_
  refine go_cV0 sv_X11_183 (go_ok rfl rfl) dx_X11_cuts_1 (Nat.le_of_ble_eq_true rfl) (Nat.le_of_ble_eq_true rfl) (g_freshen h (fun δ1 h1 e1 f1 => ?_))
  obtain ⟨hb, hm, hc⟩ := h1.2.2.2.1 e1
  have hQ := hQ δ1 h1 f1
  have hR := hb.2.2.2.2.2.2
  have h14 := h1.1.1.2.2.2.2.2.2.2.2.1
  have h62 := nsy_le hR
  refine go_aload_n (i := 0) dx_X11_cuts_4 rfl rfl ?_
  refine go_iload_n (i := 1) dx_X11_cuts_5 rfl rfl ?_
  refine go_cV1 sv_X11_205 (go_ok rfl rfl) dx_X11_cuts_6 (Nat.le_of_ble_eq_true rfl) (Nat.le_of_ble_eq_true rfl) (g_isSymbol hx hb ?_)
  refine go_b_eq (tgt := 33) dx_X11_cuts_9 rfl (fun c9 => ?_) (fun c9 => ?_)
  · refine go_bipush dx_X11_cuts_33 rfl ?_
    refine go_ireturn dx_X11_cuts_35 rfl (Nat.le_refl _) (Nat.le_refl _) ?_
    first | (rw [cif_f (fun q => c9 q.1)] at hQ; exact hQ) | (rw [cif_f (fun q => c17 q.2.1)] at hQ; exact hQ) | (rw [cif_f (fun q => c30 q.2.2)] at hQ; exact hQ)
  · refine go_aload_n (i := 0) dx_X11_cuts_12 rfl rfl ?_
    refine go_iload_n (i := 2) dx_X11_cuts_13 rfl rfl ?_
    refine go_cV1 sv_X11_205 (go_ok rfl rfl) dx_X11_cuts_14 (Nat.le_of_ble_eq_true rfl) (Nat.le_of_ble_eq_true rfl) (g_isSymbol hy hb ?_)
    refine go_b_eq (tgt := 33) dx_X11_cuts_17 rfl (fun c17 => ?_) (fun c17 => ?_)
    · refine go_bipush dx_X11_cuts_33 rfl ?_
      refine go_ireturn dx_X11_cuts_35 rfl (Nat.le_refl _) (Nat.le_refl _) ?_
      first | (rw [cif_f (fun q => c9 q.1)] at hQ; exact hQ) | (rw [cif_f (fun q => c17 q.2.1)] at hQ; exact hQ) | (rw [cif_f (fun q => c30 q.2.2)] at hQ; exact hQ)
    · refine go_aload_n (i := 0) dx_X11_cuts_20 rfl rfl ?_
      refine go_getA (b := 44) fs_X11_42 rfl (go_ok rfl rfl) rfl dx_X11_cuts_21 ?_
      refine go_iload_n (i := 3) dx_X11_cuts_24 rfl rfl ?_
      refine go_iload dx_X11_cuts_25 rfl ?_
      refine go_cV2 sv_X11_229 (go_ok rfl rfl) dx_X11_cuts_27 (Nat.le_of_ble_eq_true rfl) (Nat.le_of_ble_eq_true rfl) (g_Chart_hasSpan ch_ok44 hc.2.1 hc.2.2.1 hi hj ?_)
      refine go_b_ne (tgt := 36) dx_X11_cuts_30 rfl (fun c30 => ?_) (fun c30 => ?_)
      · obtain ⟨p, rfl⟩ : ∃ p : Nat, x = (p : Int) := ⟨x.toNat, by omega⟩
        obtain ⟨q, rfl⟩ : ∃ q : Nat, y = (q : Int) := ⟨y.toNat, by omega⟩
        obtain ⟨a, rfl⟩ : ∃ a : Nat, i = (a : Int) := ⟨i.toNat, by omega⟩
        obtain ⟨b, rfl⟩ : ∃ b : Nat, j = (b : Int) := ⟨j.toNat, by omega⟩
        rw [cif_t ⟨c9, c17, c30⟩, Int.toNat_natCast, Int.toNat_natCast, Int.toNat_natCast, Int.toNat_natCast] at hQ
        obtain ⟨P, hP⟩ : ∃ P : Nat → Prop, P = fun k => a < k ∧ dp S.1.1 (plw S.1.2.2) p a k ∧ dp S.1.1 (plw S.1.2.2) q k b := ⟨_, rfl⟩
        rw [← hP] at hQ
        have loop := lp_up (X := Unit) (hi := b) (I := fun k _ => a < k)
          (G := fun k _ => ∀ lv0, lv0 = [(0, vv_A 0), (1, vv_I (p : Int)), (2, vv_I (q : Int)), (3, vv_I (a : Int)), (4, vv_I (b : Int)), (5, vv_I (cn k P : Int)), (6, vv_I (k : Int))] → Go E (d + 12) (0, 0) mx_X11_cuts go_φ 44 lv0 [] δ1 Q)
          (fun k _ hk hI ih lv0 e0 => by
            subst e0
            have ih := ih () (by omega)
            have hcl := cn_le k P
            refine go_iload dx_X11_cuts_44 rfl ?_
            refine go_iload dx_X11_cuts_46 rfl ?_
            refine go_icmp_ge (tgt := 89) dx_X11_cuts_48 rfl (by omega) (by omega) (fun c48 => by exact absurd c48 (by omega)) (fun c48 => ?_)
            refine go_aload_n (i := 0) dx_X11_cuts_51 rfl rfl ?_
            refine go_getA (b := 44) fs_X11_42 rfl (go_ok rfl rfl) rfl dx_X11_cuts_52 ?_
            refine go_iload_n (i := 1) dx_X11_cuts_55 rfl rfl ?_
            refine go_iload_n (i := 3) dx_X11_cuts_56 rfl rfl ?_
            refine go_iload dx_X11_cuts_57 rfl ?_
            refine go_cV3 sv_X11_242 (go_ok rfl rfl) dx_X11_cuts_59 (Nat.le_of_ble_eq_true rfl) (Nat.le_of_ble_eq_true rfl) (g_Chart_derives ch_ok44 hR hc (by omega) (by omega) (by omega) ?_)
            refine go_b_eq (tgt := 83) dx_X11_cuts_62 rfl (fun c62 => ?_) (fun c62 => ?_)
            · refine go_iinc (lv' := [(0, vv_A 0), (1, vv_I (p : Int)), (2, vv_I (q : Int)), (3, vv_I (a : Int)), (4, vv_I (b : Int)), (5, vv_I (cn k P : Int)), (6, vv_I ((k : Int) + 1))]) dx_X11_cuts_83 rfl (by decide) rfl ?_
              refine go_goto (tgt := 44) dx_X11_cuts_86 rfl ?_
              first
              | (rw [cn_st (P := P) (by rw [hP]; exact ⟨hI, c62, c77⟩)] at ih; exact ih _ rfl)
              | (rw [cn_sf (P := P) (by rw [hP]; exact fun z => c77 z.2.2)] at ih; exact ih _ rfl)
              | (rw [cn_sf (P := P) (by rw [hP]; exact fun z => c62 z.2.1)] at ih; exact ih _ rfl)
            · refine go_aload_n (i := 0) dx_X11_cuts_65 rfl rfl ?_
              refine go_getA (b := 44) fs_X11_42 rfl (go_ok rfl rfl) rfl dx_X11_cuts_66 ?_
              refine go_iload_n (i := 2) dx_X11_cuts_69 rfl rfl ?_
              refine go_iload dx_X11_cuts_70 rfl ?_
              refine go_iload dx_X11_cuts_72 rfl ?_
              refine go_cV3 sv_X11_242 (go_ok rfl rfl) dx_X11_cuts_74 (Nat.le_of_ble_eq_true rfl) (Nat.le_of_ble_eq_true rfl) (g_Chart_derives ch_ok44 hR hc (by omega) (by omega) (by omega) ?_)
              refine go_b_eq (tgt := 83) dx_X11_cuts_77 rfl (fun c77 => ?_) (fun c77 => ?_)
              · refine go_iinc (lv' := [(0, vv_A 0), (1, vv_I (p : Int)), (2, vv_I (q : Int)), (3, vv_I (a : Int)), (4, vv_I (b : Int)), (5, vv_I (cn k P : Int)), (6, vv_I ((k : Int) + 1))]) dx_X11_cuts_83 rfl (by decide) rfl ?_
                refine go_goto (tgt := 44) dx_X11_cuts_86 rfl ?_
                first
                | (rw [cn_st (P := P) (by rw [hP]; exact ⟨hI, c62, c77⟩)] at ih; exact ih _ rfl)
                | (rw [cn_sf (P := P) (by rw [hP]; exact fun z => c77 z.2.2)] at ih; exact ih _ rfl)
                | (rw [cn_sf (P := P) (by rw [hP]; exact fun z => c62 z.2.1)] at ih; exact ih _ rfl)
              · refine go_iinc (lv' := [(0, vv_A 0), (1, vv_I (p : Int)), (2, vv_I (q : Int)), (3, vv_I (a : Int)), (4, vv_I (b : Int)), (5, vv_I ((cn k P : Int) + 1)), (6, vv_I (k : Int))]) dx_X11_cuts_80 rfl (by decide) rfl ?_
                refine go_iinc (lv' := [(0, vv_A 0), (1, vv_I (p : Int)), (2, vv_I (q : Int)), (3, vv_I (a : Int)), (4, vv_I (b : Int)), (5, vv_I ((cn k P : Int) + 1)), (6, vv_I ((k : Int) + 1))]) dx_X11_cuts_83 rfl (by decide) rfl ?_
                refine go_goto (tgt := 44) dx_X11_cuts_86 rfl ?_
                first
                | (rw [cn_st (P := P) (by rw [hP]; exact ⟨hI, c62, c77⟩)] at ih; exact ih _ rfl)
                | (rw [cn_sf (P := P) (by rw [hP]; exact fun z => c77 z.2.2)] at ih; exact ih _ rfl)
                | (rw [cn_sf (P := P) (by rw [hP]; exact fun z => c62 z.2.1)] at ih; exact ih _ rfl)
          ) (fun _ hI lv0 e0 => by
            subst e0
            refine go_iload dx_X11_cuts_44 rfl ?_
            refine go_iload dx_X11_cuts_46 rfl ?_
            refine go_icmp_ge (tgt := 89) dx_X11_cuts_48 rfl (by omega) (by omega) (fun c48 => ?_) (fun c48 => by exact absurd c48 (by omega))
            refine go_iload dx_X11_cuts_89 rfl ?_
            refine go_ireturn dx_X11_cuts_91 rfl (Nat.le_refl _) (Nat.le_refl _) ?_
            exact hQ
          )
        refine go_iconst dx_X11_cuts_36 ?_
        refine go_istore (lv' := [(0, vv_A 0), (1, vv_I (p : Int)), (2, vv_I (q : Int)), (3, vv_I (a : Int)), (4, vv_I (b : Int)), (5, vv_I 0)]) dx_X11_cuts_37 (by decide) rfl ?_
        refine go_iload_n (i := 3) dx_X11_cuts_39 rfl rfl ?_
        refine go_iconst dx_X11_cuts_40 ?_
        refine go_iadd dx_X11_cuts_41 ?_
        refine go_asI (y := ((a + 1 : Nat) : Int)) (by rfl) ?_
        refine go_istore (lv' := [(0, vv_A 0), (1, vv_I (p : Int)), (2, vv_I (q : Int)), (3, vv_I (a : Int)), (4, vv_I (b : Int)), (5, vv_I 0), (6, vv_I ((a + 1 : Nat) : Int))]) dx_X11_cuts_42 (by decide) rfl ?_
        exact loop (a + 1) () (by omega) (Nat.lt_succ_self _) _ (by rw [cn_0 (P := P) (fun k hk z => by rw [hP] at z; have := z.1; omega)]; rfl)
      · refine go_bipush dx_X11_cuts_33 rfl ?_
        refine go_ireturn dx_X11_cuts_35 rfl (Nat.le_refl _) (Nat.le_refl _) ?_
        first | (rw [cif_f (fun q => c9 q.1)] at hQ; exact hQ) | (rw [cif_f (fun q => c17 q.2.1)] at hQ; exact hQ) | (rw [cif_f (fun q => c30 q.2.2)] at hQ; exact hQ)
end GXC6
