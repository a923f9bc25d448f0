/-! the class's calls: copy -/
section GXC9
variable {E : go_E} {d : Nat} {δ : Nat → Nat → Int} {Q : List go_V → go_F → (Nat → Nat → Int) → Prop} {S : sS} {K : sK} {Tm : Int}
theorem x_copy {t p i : Int} (ht : go_iI t) (hp : go_iI p) (hi : go_iI i) (h : xk_at Tm δ S) (hQ : ∀ δ', xk_at Tm δ' (op_copy S t p i).2 → fc δ δ' → Q [vv_I (op_copy S t p i).1] go_φ δ') : Go E (d + 12) (0, 0) mx_X11_copy go_φ 0 [(0, vv_A 0), (1, vv_I t), (2, vv_I p), (3, vv_I i)] [] δ Q := by
  have hb := h.1.1
  by_cases hc : 0 ≤ t ∧ t < 3 ∧ ipl S.1 i
  · rw [op_copy_y hc] at hQ
    obtain ⟨hc1, hc2, hc3, hc4⟩ := hc
    obtain ⟨u, rfl⟩ : ∃ u : Nat, t = (u : Int) := ⟨t.toNat, by omega⟩
    obtain ⟨a, rfl⟩ : ∃ a : Nat, i = (a : Int) := ⟨i.toNat, by omega⟩
    rw [Int.toNat_natCast, Int.toNat_natCast] at hQ
    have h14 := hb.2.2.2.2.2.2.2.2.1
    have e3 := hb.2.2.2.1
    have l92 : go_ln 92 = 60 := rfl
    have l93 : go_ln 93 = 3 := rfl
    have hy := h.1.2.2.2.2 u (by omega)
    have hrng : -1 ≤ δ 93 u ∧ δ 93 u ≤ 20 := by
      rcases hy with ⟨_, y⟩ | ⟨l, _, y1, y2, _⟩ <;> omega
    obtain ⟨v, hv⟩ : ∃ v, v = δ 93 u := ⟨_, rfl⟩
    rw [← hv] at hrng
    refine go_aload_n (i := 0) dx_X11_copy_0 rfl rfl ?_
    refine go_iload_n (i := 1) dx_X11_copy_1 rfl rfl ?_
    refine go_cV1 sv_X11_362 (go_ok rfl rfl) dx_X11_copy_2 (Nat.le_of_ble_eq_true rfl) (Nat.le_of_ble_eq_true rfl) (g_isTray ht (fun p1 p2 => ?_) (fun p1 => absurd ⟨by omega, by omega⟩ p1))
    refine go_if_eq (tgt := 16) dx_X11_copy_5 rfl (by omega) (fun c5 => absurd c5 (by decide)) (fun c5 => ?_)
    refine go_aload_n (i := 0) dx_X11_copy_8 rfl rfl ?_
    refine go_iload_n (i := 3) dx_X11_copy_9 rfl rfl ?_
    refine go_cV1 sv_X11_264 (go_ok rfl rfl) dx_X11_copy_10 (Nat.le_of_ble_eq_true rfl) (Nat.le_of_ble_eq_true rfl) (g_isPlace hi hb (fun p1 p2 => ?_) (fun p1 => absurd ⟨by omega, hc4⟩ p1))
    refine go_if_ne (tgt := 19) dx_X11_copy_13 rfl (by omega) (fun c13 => ?_) (fun c13 => absurd c13 (by decide))
    refine go_aload_n (i := 0) dx_X11_copy_19 rfl rfl ?_
    refine go_getA (b := 93) fs_X11_105 rfl (go_ok rfl rfl) rfl dx_X11_copy_20 ?_
    refine go_iload_n (i := 1) dx_X11_copy_23 rfl rfl ?_
    refine go_cS2 ss_X11_192 dx_X11_copy_24 (Nat.le_of_ble_eq_true rfl) (Nat.le_of_ble_eq_true rfl) (g_intAtV (i := u) (v := v) (go_ok rfl rfl) (by omega) (show u < 3 by omega) (by exact hv.symm) ?_)
    refine go_istore (lv' := [(0, vv_A 0), (1, vv_I (u : Int)), (2, vv_I p), (3, vv_I (a : Int)), (4, vv_I v)]) dx_X11_copy_27 (by decide) rfl ?_
    refine go_iload dx_X11_copy_29 rfl ?_
    refine go_iconst dx_X11_copy_31 ?_
    refine go_icmp_ne (tgt := 38) dx_X11_copy_32 rfl (by omega) (by omega) (fun c32 => ?_) (fun c32 => ?_)
    · refine go_aload_n (i := 0) dx_X11_copy_38 rfl rfl ?_
      refine go_getA (b := 3) fs_X11_19 rfl (go_ok rfl rfl) rfl dx_X11_copy_39 ?_
      refine go_getI fs_X11_239 (Or.inl rfl) (go_ok rfl rfl) dx_X11_copy_42 ?_
      refine go_asI (y := (S.1.2.2.length : Int)) (by exact e3) ?_
      refine go_iload_n (i := 3) dx_X11_copy_45 rfl rfl ?_
      refine go_isub dx_X11_copy_46 ?_
      refine go_asI (y := ((S.1.2.2.length - a : Nat) : Int)) (by omega) ?_
      refine go_istore (lv' := [(0, vv_A 0), (1, vv_I (u : Int)), (2, vv_I p), (3, vv_I (a : Int)), (4, vv_I v), (5, vv_I ((S.1.2.2.length - a : Nat) : Int))]) dx_X11_copy_47 (by decide) rfl ?_
      rcases hy with ⟨y, z⟩ | ⟨l, y0, y1, y2, _⟩
      · omega
      · rw [y0] at hQ
        dsimp only at hQ
        have hvl : v = (l.length : Int) := by omega
        by_cases hrange : p < 0 ∨ (l.length : Int) - ((S.1.2.2.length : Int) - (a : Int)) < p
        · rw [if_pos hrange] at hQ
          refine go_iload_n (i := 2) dx_X11_copy_49 rfl rfl ?_
          refine go_if_lt (tgt := 62) dx_X11_copy_50 rfl (by omega) (fun c50 => ?_) (fun c50 => ?_)
          · refine go_bipush dx_X11_copy_62 rfl ?_
            refine go_ireturn dx_X11_copy_64 rfl (Nat.le_refl _) (Nat.le_refl _) ?_
            exact hQ δ h fc_rf
          · refine go_iload_n (i := 2) dx_X11_copy_53 rfl rfl ?_
            refine go_iload dx_X11_copy_54 rfl ?_
            refine go_iload dx_X11_copy_56 rfl ?_
            refine go_isub dx_X11_copy_58 ?_
            refine go_icmp_le (tgt := 65) dx_X11_copy_59 rfl (by omega) (by omega) (fun c59 => ?_) (fun c59 => ?_)
            · omega
            · refine go_bipush dx_X11_copy_62 rfl ?_
              refine go_ireturn dx_X11_copy_64 rfl (Nat.le_refl _) (Nat.le_refl _) ?_
              exact hQ δ h fc_rf
        · rw [if_neg hrange] at hQ
          obtain ⟨b, rfl⟩ : ∃ b : Nat, p = (b : Int) := ⟨p.toNat, by omega⟩
          rw [Int.toNat_natCast] at hQ
          refine go_iload_n (i := 2) dx_X11_copy_49 rfl rfl ?_
          refine go_if_lt (tgt := 62) dx_X11_copy_50 rfl (by omega) (fun c50 => ?_) (fun c50 => ?_)
          · refine go_bipush dx_X11_copy_62 rfl ?_
            refine go_ireturn dx_X11_copy_64 rfl (Nat.le_refl _) (Nat.le_refl _) ?_
            omega
          · refine go_iload_n (i := 2) dx_X11_copy_53 rfl rfl ?_
            refine go_iload dx_X11_copy_54 rfl ?_
            refine go_iload dx_X11_copy_56 rfl ?_
            refine go_isub dx_X11_copy_58 ?_
            refine go_icmp_le (tgt := 65) dx_X11_copy_59 rfl (by omega) (by omega) (fun c59 => ?_) (fun c59 => ?_)
            · refine go_aload_n (i := 0) dx_X11_copy_65 rfl rfl ?_
              refine go_cV0 sv_X11_183 (go_ok rfl rfl) dx_X11_copy_66 (Nat.le_of_ble_eq_true rfl) (Nat.le_of_ble_eq_true rfl) (g_freshen h (fun δ3 h3 e3' f3 => ?_))
              obtain ⟨hbi, hm, hct⟩ := h3.2.2.2.1 e3'
              have hR := hbi.2.2.2.2.2.2
              rcases h3.1.2.2.2.2 u (by omega) with ⟨y, _⟩ | ⟨l', w0, w1, w2, w3, w4⟩
              · rw [y0] at y; cases y
              have hll : l' = l := by rw [y0] at w0; exact (Option.some.inj w0).symm
              subst hll
              have loop := lp_up (X := Nat → Nat → Int) (hi := S.1.2.2.length - a) (I := fun k δ4 => (∀ c j, c ≠ 92 → δ4 c j = δ3 c j) ∧ (∀ q, q < k → δ4 92 (20 * u + b + q) = (mk 62 (fun x => dK S.1 x a (a + 1 + q)) : Int)) ∧ (∀ q, ¬ (20 * u + b ≤ q ∧ q < 20 * u + b + (S.1.2.2.length - a)) → δ4 92 q = δ3 92 q))
                (G := fun k δ4 => Go E (d + 12) (0, 0) mx_X11_copy go_φ 72 [(0, vv_A 0), (1, vv_I (u : Int)), (2, vv_I (b : Int)), (3, vv_I (a : Int)), (4, vv_I v), (5, vv_I ((S.1.2.2.length - a : Nat) : Int)), (6, vv_I (k : Int))] [] δ4 Q) (fun k δ4 hk hI ih => ?_) (fun δ4 hI => ?_)
              · refine go_iconst dx_X11_copy_69 ?_
                refine go_istore (lv' := [(0, vv_A 0), (1, vv_I (u : Int)), (2, vv_I (b : Int)), (3, vv_I (a : Int)), (4, vv_I v), (5, vv_I ((S.1.2.2.length - a : Nat) : Int)), (6, vv_I 0)]) dx_X11_copy_70 (by decide) rfl ?_
                exact loop 0 δ3 (Nat.zero_le _) ⟨fun _ _ _ => rfl, fun q hq => absurd hq (Nat.not_lt_zero _), fun q _ => rfl⟩
              · obtain ⟨i1, i2, i3⟩ := hI
                refine go_iload dx_X11_copy_72 rfl ?_
                refine go_iload dx_X11_copy_74 rfl ?_
                refine go_icmp_ge (tgt := 115) dx_X11_copy_76 rfl (by omega) (by omega) (fun c76 => by exact absurd c76 (by omega)) (fun c76 => ?_)
                refine go_aload_n (i := 0) dx_X11_copy_79 rfl rfl ?_
                refine go_getA (b := 92) fs_X11_101 rfl (go_ok rfl rfl) rfl dx_X11_copy_80 ?_
                refine go_iload_n (i := 1) dx_X11_copy_83 rfl rfl ?_
                refine go_bipush dx_X11_copy_84 rfl ?_
                refine go_imul dx_X11_copy_86 ?_
                refine go_iload_n (i := 2) dx_X11_copy_87 rfl rfl ?_
                refine go_iadd dx_X11_copy_88 ?_
                refine go_iload dx_X11_copy_89 rfl ?_
                refine go_iadd dx_X11_copy_91 ?_
                refine go_aload_n (i := 0) dx_X11_copy_92 rfl rfl ?_
                refine go_getA (b := 44) fs_X11_42 rfl (go_ok rfl rfl) rfl dx_X11_copy_93 ?_
                refine go_iload_n (i := 3) dx_X11_copy_96 rfl rfl ?_
                refine go_iload_n (i := 3) dx_X11_copy_97 rfl rfl ?_
                refine go_iconst dx_X11_copy_98 ?_
                refine go_iadd dx_X11_copy_99 ?_
                refine go_iload dx_X11_copy_100 rfl ?_
                refine go_iadd dx_X11_copy_102 ?_
                refine go_asI (y := ((a + 1 + k : Nat) : Int)) (by rfl) ?_
                refine go_cV2 sv_X11_233 (go_ok rfl rfl) dx_X11_copy_103 (Nat.le_of_ble_eq_true rfl) (Nat.le_of_ble_eq_true rfl) (g_Chart_cellAt ch_ok44 (ct_fr hct (fun c j q => i1 c j (by omega))) (by omega) (by omega) ?_)
                refine go_cS3 ss_X11_365 dx_X11_copy_106 (Nat.le_of_ble_eq_true rfl) (Nat.le_of_ble_eq_true rfl) (g_putLongN (i := 20 * u + b + k) (go_ok rfl rfl) (by omega) (show 20 * u + b + k < 60 by omega) ?_)
                refine go_iinc (lv' := [(0, vv_A 0), (1, vv_I (u : Int)), (2, vv_I (b : Int)), (3, vv_I (a : Int)), (4, vv_I v), (5, vv_I ((S.1.2.2.length - a : Nat) : Int)), (6, vv_I ((k : Int) + 1))]) dx_X11_copy_109 rfl (by decide) rfl ?_
                refine go_goto (tgt := 72) dx_X11_copy_112 rfl ?_
                refine ih _ ⟨fun c j hc => by rw [wr_n (by omega)]; exact i1 c j hc, fun q hq => ?_, fun q hq => by rw [wr_n (by omega)]; exact i3 q hq⟩
                by_cases z : q = k
                · subst z; rw [wr_eq]; rfl
                · rw [wr_n (by omega)]; exact i2 q (by omega)
              · obtain ⟨i1, i2, i3⟩ := hI
                have hlen : b + (cpl S.1 a).length ≤ l'.length := by rw [cpl_len]; omega
                have f92 : fr [92] δ3 δ4 := fun c hc j => i1 c j (fun e => hc (by rw [e]; exact List.mem_singleton.mpr rfl))
                obtain ⟨a1, a2, a3, a4, a5, a6, a7, a8, a9, a10, a11⟩ := id h3
                obtain ⟨b1, b2, b3, b4, b5⟩ := a1
                refine go_iload dx_X11_copy_72 rfl ?_
                refine go_iload dx_X11_copy_74 rfl ?_
                refine go_icmp_ge (tgt := 115) dx_X11_copy_76 rfl (by omega) (by omega) (fun c76 => ?_) (fun c76 => by exact absurd c76 (by omega))
                refine go_iload dx_X11_copy_115 rfl ?_
                refine go_ireturn dx_X11_copy_117 rfl (Nat.le_refl _) (Nat.le_refl _) ?_
                rw [show (S.1.2.2.length : Int) - (a : Int) = ((S.1.2.2.length - a : Nat) : Int) by omega] at hQ
                refine hQ δ4 ⟨⟨td_fr b1 f92 (by decide) (by decide), tp_fr b2 f92 (by decide) (by decide), pa_fr b3 f92 (by decide), im_fr b4 f92 (by decide), fun z hz => ?_⟩, kts_fr a2 0 0 (i1 0 16 (by decide)) (fun b j h => Or.inl (i1 b j (by omega))), kno_fr a3 (fun b j h => i1 b j (by omega)), k17_fr a4 (fun b j h => i1 b j (by omega)), k49_fr a5 (fun b j h => i1 b j (by omega)), k52_fr a6 (fun b j h => i1 b j (by omega)), k56_fr a7 (fun b j h => i1 b j (by omega)), k62_fr a8 (fun b j h => i1 b j (by omega)), k67_fr a9 (fun b j h => i1 b j (by omega)), k71_fr a10 (fun b j h => i1 b j (by omega)), k74_fr a11 (fun b j h => i1 b j (by omega))⟩ (fc_tr f3 (fun c hc j => i1 c j (by omega)))
                by_cases e : z = u
                · subst e
                  refine Or.inr ⟨puts l' b (cpl S.1 a), if_pos rfl, by rw [puts_len hlen]; exact y1, by rw [puts_len hlen, i1 93 z (by decide)]; exact w2, cpy_row (f := fun k => δ4 92 (20 * z + k)) (by omega) (fun k hk => by rw [← i2 k hk, Nat.add_assoc]) (fun k hk hn => by rw [← w3 k hk]; exact i3 _ (by omega)), puts_rng w4 cpl_rng⟩
                · rcases b5 z hz with ⟨g1, g2⟩ | ⟨l2, g1, g2, g3, g4, g5⟩
                  · exact Or.inl ⟨by show (if z = u then _ else _) = _; rw [if_neg e]; exact g1, by rw [i1 93 z (by decide)]; exact g2⟩
                  · exact Or.inr ⟨l2, by show (if z = u then _ else _) = _; rw [if_neg e]; exact g1, g2, by rw [i1 93 z (by decide)]; exact g3, fun k hk => by rw [i3 _ (by omega)]; exact g4 k hk, g5⟩
            · refine go_bipush dx_X11_copy_62 rfl ?_
              refine go_ireturn dx_X11_copy_64 rfl (Nat.le_refl _) (Nat.le_refl _) ?_
              omega
    · refine go_bipush dx_X11_copy_35 rfl ?_
      refine go_ireturn dx_X11_copy_37 rfl (Nat.le_refl _) (Nat.le_refl _) ?_
      rcases hy with ⟨y, _⟩ | ⟨l, _, y1, y2, _⟩
      · rw [y] at hQ; exact hQ δ h fc_rf
      · omega
  · rw [op_copy_n hc] at hQ
    have hQ := hQ δ h fc_rf
    refine go_aload_n (i := 0) dx_X11_copy_0 rfl rfl ?_
    refine go_iload_n (i := 1) dx_X11_copy_1 rfl rfl ?_
    refine go_cV1 sv_X11_362 (go_ok rfl rfl) dx_X11_copy_2 (Nat.le_of_ble_eq_true rfl) (Nat.le_of_ble_eq_true rfl) (g_isTray ht (fun p1 p2 => ?_) (fun p1 => ?_))
    · refine go_if_eq (tgt := 16) dx_X11_copy_5 rfl (by omega) (fun c5 => absurd c5 (by decide)) (fun c5 => ?_)
      refine go_aload_n (i := 0) dx_X11_copy_8 rfl rfl ?_
      refine go_iload_n (i := 3) dx_X11_copy_9 rfl rfl ?_
      refine go_cV1 sv_X11_264 (go_ok rfl rfl) dx_X11_copy_10 (Nat.le_of_ble_eq_true rfl) (Nat.le_of_ble_eq_true rfl) (g_isPlace hi hb (fun p3 p4 => absurd ⟨p1, by omega, p3, p4⟩ hc) (fun p1 => ?_))
      refine go_if_ne (tgt := 19) dx_X11_copy_13 rfl (by omega) (fun c13 => absurd c13 (by decide)) (fun c13 => ?_)
      refine go_bipush dx_X11_copy_16 rfl ?_
      refine go_ireturn dx_X11_copy_18 rfl (Nat.le_refl _) (Nat.le_refl _) ?_
      exact hQ
    · refine go_if_eq (tgt := 16) dx_X11_copy_5 rfl (by omega) (fun c5 => ?_) (fun c5 => absurd c5 (by decide))
      refine go_bipush dx_X11_copy_16 rfl ?_
      refine go_ireturn dx_X11_copy_18 rfl (Nat.le_refl _) (Nat.le_refl _) ?_
      exact hQ
end GXC9
