/-! the class's calls: spans -/
theorem mk_top (n : Nat) (P : Nat → Prop) : (P n → mk (n + 1) P = mk n P + 2 ^ n * 1) ∧ (¬ P n → mk (n + 1) P = mk n P + 2 ^ n * 0) := by
  have key : ∀ b, b < 2 → (b = 1 ↔ P n) → mk (n + 1) P = mk n P + 2 ^ n * b := fun b hb he => by
    refine (mk_eq (n := n + 1) (m := mk n P + 2 ^ n * b) ?_ (fun x hx => ?_)).symm
    · have := mk_lt n P
      rw [Nat.pow_succ]
      have : 2 ^ n * b ≤ 2 ^ n * 1 := Nat.mul_le_mul_left _ (by omega)
      omega
    · rw [Nat.add_comm, Nat.testBit_two_pow_mul_add _ (mk_lt n P)]
      by_cases z : x < n
      · rw [if_pos z, mk_bit]
        exact ⟨fun q => q.2, fun q => ⟨z, q⟩⟩
      · have e : x = n := by omega
        subst e
        rw [if_neg z, Nat.sub_self, ← he]
        rcases (show b = 0 ∨ b = 1 by omega) with w | w <;> subst w <;> simp
  exact ⟨fun h => key 1 (by decide) ⟨fun _ => h, fun _ => rfl⟩, fun h => key 0 (by decide) ⟨fun q => absurd q (by decide), fun q => absurd q h⟩⟩
theorem pop_mk (P : Nat → Prop) : ∀ n, bt_pop n (mk n P) = cn n P
  | 0 => rfl
  | n + 1 => by
    by_cases h : P n
    · rw [(mk_top n P).1 h, pop_cut n 1 _ _ (mk_lt n P), pop_mk P n, cn_st h]; rfl
    · rw [(mk_top n P).2 h, pop_cut n 1 _ _ (mk_lt n P), pop_mk P n, cn_sf h]; rfl
section GXCC
variable {E : go_E} {d : Nat} {δ : Nat → Nat → Int} {Q : List go_V → go_F → (Nat → Nat → Int) → Prop} {S : sS} {K : sK} {Tm : Int}
theorem cn_cut {n m : Nat} {P : Nat → Prop} (h : n ≤ m) : cn m (fun j => j < n ∧ P j) = cn n P := by
  induction m with
  | zero => have : n = 0 := by omega
            subst this; rfl
  | succ m ih =>
    by_cases e : n = m + 1
    · subst e
      exact cn_congr (fun x hx => ⟨fun q => q.2, fun q => ⟨hx, q⟩⟩)
    · rw [cn_sf (fun q => by have := q.1; omega)]
      exact ih (by omega)
theorem x_spans {x q : Int} (hx : go_iI x) (hq : go_iI q) (h : xk_at Tm δ S) (hQ : ∀ δ', xk_at Tm δ' S → fc δ δ' → Q [vv_I (oq_spans S.1 x q)] go_φ δ') : Go E (d + 12) (0, 0) mx_X11_spans go_φ 0 [(0, vv_A 0), (1, vv_I x), (2, vv_I q)] [] δ Q := by
  unfold oq_spans isy at hQ
  refine go_aload_n (i := 0) dx_X11_spans_0 rfl rfl ?_
  refine go_cV0 sv_X11_183 (go_ok rfl rfl) dx_X11_spans_1 (Nat.le_of_ble_eq_true rfl) (Nat.le_of_ble_eq_true rfl) (g_freshen h (fun δ1 h1 e1 f1 => ?_))
  obtain ⟨hb, hm, hc⟩ := h1.2.2.2.1 e1
  have hQ := hQ δ1 h1 f1
  have hR := hb.2.2.2.2.2.2
  have htd := h1.1.1
  have e3 := htd.2.2.2.1
  have h14 := htd.2.2.2.2.2.2.2.2.1
  have h62 := nsy_le hR
  refine go_aload_n (i := 0) dx_X11_spans_4 rfl rfl ?_
  refine go_iload_n (i := 1) dx_X11_spans_5 rfl rfl ?_
  refine go_cV1 sv_X11_205 (go_ok rfl rfl) dx_X11_spans_6 (Nat.le_of_ble_eq_true rfl) (Nat.le_of_ble_eq_true rfl) (g_isSymbol hx hb ?_)
  refine go_b_eq (tgt := 21) dx_X11_spans_9 rfl (fun c9 => ?_) (fun c9 => ?_)
  · refine go_bipush dx_X11_spans_21 rfl ?_
    refine go_ireturn dx_X11_spans_23 rfl (Nat.le_refl _) (Nat.le_refl _) ?_
    first | (rw [cif_f (fun w => c9 w.1)] at hQ; exact hQ) | (rw [cif_f (fun w => by omega)] at hQ; exact hQ)
  · refine go_iload_n (i := 2) dx_X11_spans_12 rfl rfl ?_
    refine go_if_lt (tgt := 21) dx_X11_spans_13 rfl (by omega) (fun c13 => ?_) (fun c13 => ?_)
    · refine go_bipush dx_X11_spans_21 rfl ?_
      refine go_ireturn dx_X11_spans_23 rfl (Nat.le_refl _) (Nat.le_refl _) ?_
      first | (rw [cif_f (fun w => c9 w.1)] at hQ; exact hQ) | (rw [cif_f (fun w => by omega)] at hQ; exact hQ)
    · refine go_iload_n (i := 2) dx_X11_spans_16 rfl rfl ?_
      refine go_iconst dx_X11_spans_17 ?_
      refine go_icmp_le (tgt := 24) dx_X11_spans_18 rfl (by omega) (by omega) (fun c18 => ?_) (fun c18 => ?_)
      · obtain ⟨p, rfl⟩ : ∃ p : Nat, x = (p : Int) := ⟨x.toNat, by omega⟩
        rw [cif_t ⟨c9, by omega, by omega⟩, Int.toNat_natCast] at hQ
        obtain ⟨n, hn⟩ : ∃ n, n = S.1.2.2.length := ⟨_, rfl⟩
        have hrg := fun i hi => spf_rng S.1 p i hi
        rw [← hn] at hQ hc e3 h14 hrg
        have hsr : ∀ i, i ≤ n → su i (fun i => cn (n + 1) (fun j => dK S.1 p i j)) ≤ i * 15 := fun i => by
          induction i with
          | zero => intro _; exact Nat.le_refl _
          | succ i ih =>
            intro hi
            have := ih (by omega)
            have := cn_le (n + 1) (fun j => dK S.1 p i j)
            rw [su_s]
            omega
        have loop := lp_up (X := Unit) (hi := n) (I := fun _ _ => True)
          (G := fun i _ => ∀ lv0, lv0 = [(0, vv_A 0), (1, vv_I (p : Int)), (2, vv_I q), (3, vv_I (su i (fun i => cn (n + 1) (fun j => dK S.1 p i j)) : Int)), (4, vv_I ((spf S.1 p i).1 : Int)), (5, vv_I (spf S.1 p i).2), (6, vv_I (i : Int))] → Go E (d + 12) (0, 0) mx_X11_spans go_φ 35 lv0 [] δ1 Q)
          (fun i _ hi _ ih lv0 e0 => ?_) (fun _ _ lv0 e0 => ?_)
        · refine go_iconst dx_X11_spans_24 ?_
          refine go_istore_n (i := 3) (lv' := [(0, vv_A 0), (1, vv_I (p : Int)), (2, vv_I q), (3, vv_I 0)]) dx_X11_spans_25 rfl (by decide) rfl ?_
          refine go_iconst dx_X11_spans_26 ?_
          refine go_istore (lv' := [(0, vv_A 0), (1, vv_I (p : Int)), (2, vv_I q), (3, vv_I 0), (4, vv_I 0)]) dx_X11_spans_27 (by decide) rfl ?_
          refine go_iconst dx_X11_spans_29 ?_
          refine go_istore (lv' := [(0, vv_A 0), (1, vv_I (p : Int)), (2, vv_I q), (3, vv_I 0), (4, vv_I 0), (5, vv_I (-1))]) dx_X11_spans_30 (by decide) rfl ?_
          refine go_iconst dx_X11_spans_32 ?_
          refine go_istore (lv' := [(0, vv_A 0), (1, vv_I (p : Int)), (2, vv_I q), (3, vv_I 0), (4, vv_I 0), (5, vv_I (-1)), (6, vv_I 0)]) dx_X11_spans_33 (by decide) rfl ?_
          exact loop 0 () (Nat.zero_le _) trivial _ rfl
        · subst e0
          have ih := ih () trivial
          obtain ⟨F, hF⟩ : ∃ F, F = mk 15 (fun j => j ≤ n ∧ dp S.1.1 (plw S.1.2.2) p i j) := ⟨_, rfl⟩
          have F15 : F < 2 ^ 15 := by rw [hF]; exact mk_lt 15 _
          have F16 : F < 65536 := Nat.lt_of_lt_of_le F15 (by decide)
          have hpop : bt_pop 32 F = cn (n + 1) (fun j => dK S.1 p i j) := by
            rw [pop_up (k := 15) (m := 17) F15, hF, pop_mk, ← cn_cut (n := n + 1) (m := 15) (by omega)]
            exact cn_congr (fun j _ => ⟨fun w => ⟨by omega, w.2⟩, fun w => ⟨by omega, w.2⟩⟩)
          have hbit : ∀ j, F.testBit j = true ↔ j ≤ n ∧ dK S.1 p i j := fun j => by rw [hF, mk_bit]; exact ⟨fun w => w.2, fun w => ⟨by omega, w⟩⟩
          have hT := hsr i (by omega)
          have hcl := cn_le (n + 1) (fun j => dK S.1 p i j)
          obtain ⟨T, eT⟩ : ∃ T, T = su i (fun i => cn (n + 1) (fun j => dK S.1 p i j)) := ⟨_, rfl⟩
          obtain ⟨L, eL⟩ : ∃ L, L = (spf S.1 p i).1 := ⟨_, rfl⟩
          obtain ⟨B, eB⟩ : ∃ B, B = (spf S.1 p i).2 := ⟨_, rfl⟩
          have eLB : spf S.1 p i = (L, B) := by rw [eL, eB]
          have hr := hrg i (by omega)
          rw [spf_s, eLB, su_s, ← eT, ← hn] at ih
          rw [← eT, ← eL, ← eB]
          rw [← eT] at hT
          rw [← eL, ← eB] at hr
          obtain ⟨C, eC⟩ : ∃ C, C = cn (n + 1) (fun j => dK S.1 p i j) := ⟨_, rfl⟩
          rw [← eC] at ih hcl hpop
          have skip : ∀ H, H = hib (fun j => dK S.1 p i j) (n + 1) → ¬ L < H - i → Go E (d + 12) (0, 0) mx_X11_spans go_φ 35 [(0, vv_A 0), (1, vv_I (p : Int)), (2, vv_I q), (3, vv_I ((T + C : Nat) : Int)), (4, vv_I (L : Int)), (5, vv_I B), (6, vv_I ((i + 1 : Nat) : Int))] [] δ1 Q := fun H hH hl => by
            refine ih _ ?_
            unfold spu
            rw [← hH, if_neg hl]
          have take : ∀ H, H = hib (fun j => dK S.1 p i j) (n + 1) → L < H - i → Go E (d + 12) (0, 0) mx_X11_spans go_φ 35 [(0, vv_A 0), (1, vv_I (p : Int)), (2, vv_I q), (3, vv_I ((T + C : Nat) : Int)), (4, vv_I ((H - i : Nat) : Int)), (5, vv_I (i : Int)), (6, vv_I ((i + 1 : Nat) : Int))] [] δ1 Q := fun H hH hl => by
            refine ih _ ?_
            unfold spu
            rw [← hH, if_pos hl]
          by_cases hz : F = 0
          · have hH : 0 = hib (fun j => dK S.1 p i j) (n + 1) := (hib_0 (fun k hk w => by have := (hbit k).mpr ⟨by omega, w⟩; rw [hz, Nat.zero_testBit] at this; cases this)).symm
            refine go_iload dx_X11_spans_35 rfl ?_
            refine go_aload_n (i := 0) dx_X11_spans_37 rfl rfl ?_
            refine go_getA (b := 3) fs_X11_19 rfl (go_ok rfl rfl) rfl dx_X11_spans_38 ?_
            refine go_getI fs_X11_239 (Or.inl rfl) (go_ok rfl rfl) dx_X11_spans_41 ?_
            refine go_asI (y := (n : Int)) (by exact e3) ?_
            refine go_icmp_ge (tgt := 104) dx_X11_spans_44 rfl (by omega) (by omega) (fun c44 => by exact absurd c44 (by omega)) (fun c44 => ?_)
            refine go_aload_n (i := 0) dx_X11_spans_47 rfl rfl ?_
            refine go_getA (b := 44) fs_X11_42 rfl (go_ok rfl rfl) rfl dx_X11_spans_48 ?_
            refine go_iload_n (i := 1) dx_X11_spans_51 rfl rfl ?_
            refine go_iload dx_X11_spans_52 rfl ?_
            refine go_cV2 sv_X11_267 (go_ok rfl rfl) dx_X11_spans_54 (Nat.le_of_ble_eq_true rfl) (Nat.le_of_ble_eq_true rfl) (g_Chart_endsFrom ch_ok44 hR hc (by omega) (by omega) ?_)
            refine go_asI (y := (F : Int)) (by rw [hF]) ?_
            refine go_istore (lv' := [(0, vv_A 0), (1, vv_I (p : Int)), (2, vv_I q), (3, vv_I (T : Int)), (4, vv_I (L : Int)), (5, vv_I B), (6, vv_I (i : Int)), (7, vv_I (F : Int))]) dx_X11_spans_57 (by decide) rfl ?_
            refine go_iload_n (i := 3) dx_X11_spans_59 rfl rfl ?_
            refine go_iload dx_X11_spans_60 rfl ?_
            refine go_cS1 ss_X11_162 dx_X11_spans_62 (Nat.le_of_ble_eq_true rfl) (Nat.le_of_ble_eq_true rfl) (g_J6_bitCount F16 ?_)
            refine go_asI (y := (C : Int)) (by rw [hpop]) ?_
            refine go_iadd dx_X11_spans_65 ?_
            refine go_asI (y := ((T + C : Nat) : Int)) (by rfl) ?_
            refine go_istore_n (i := 3) (lv' := [(0, vv_A 0), (1, vv_I (p : Int)), (2, vv_I q), (3, vv_I ((T + C : Nat) : Int)), (4, vv_I (L : Int)), (5, vv_I B), (6, vv_I (i : Int)), (7, vv_I (F : Int))]) dx_X11_spans_66 rfl (by decide) rfl ?_
            refine go_bipush dx_X11_spans_67 rfl ?_
            refine go_iload dx_X11_spans_69 rfl ?_
            refine go_asI (y := 0) (by rw [hz]; rfl) ?_
            refine go_cS1 ss_X11_270 dx_X11_spans_71 (Nat.le_of_ble_eq_true rfl) (Nat.le_of_ble_eq_true rfl) (g_J6_nlz0 ?_)
            refine go_isub dx_X11_spans_74 ?_
            refine go_nmI (fun x75_1 ex75_1 => ?_)
            refine go_istore (lv' := [(0, vv_A 0), (1, vv_I (p : Int)), (2, vv_I q), (3, vv_I ((T + C : Nat) : Int)), (4, vv_I (L : Int)), (5, vv_I B), (6, vv_I (i : Int)), (7, vv_I (F : Int)), (8, vv_I x75_1)]) dx_X11_spans_75 (by decide) rfl ?_
            refine go_iload dx_X11_spans_77 rfl ?_
            refine go_iload dx_X11_spans_79 rfl ?_
            refine go_isub dx_X11_spans_81 ?_
            refine go_iload dx_X11_spans_82 rfl ?_
            refine go_icmp_le (tgt := 98) dx_X11_spans_84 rfl (by omega) (by omega) (fun c84 => ?_) (fun c84 => by exact absurd c84 (by omega))
            refine go_iinc (lv' := [(0, vv_A 0), (1, vv_I (p : Int)), (2, vv_I q), (3, vv_I ((T + C : Nat) : Int)), (4, vv_I (L : Int)), (5, vv_I B), (6, vv_I ((i : Int) + 1)), (7, vv_I (F : Int)), (8, vv_I x75_1)]) dx_X11_spans_98 rfl (by decide) rfl ?_
            refine go_goto (tgt := 35) dx_X11_spans_101 rfl ?_
            refine go_keep [0, 1, 2, 3, 4, 5, 6] rfl ?_
            exact skip 0 hH (by omega)
          · refine go_iload dx_X11_spans_35 rfl ?_
            refine go_aload_n (i := 0) dx_X11_spans_37 rfl rfl ?_
            refine go_getA (b := 3) fs_X11_19 rfl (go_ok rfl rfl) rfl dx_X11_spans_38 ?_
            refine go_getI fs_X11_239 (Or.inl rfl) (go_ok rfl rfl) dx_X11_spans_41 ?_
            refine go_asI (y := (n : Int)) (by exact e3) ?_
            refine go_icmp_ge (tgt := 104) dx_X11_spans_44 rfl (by omega) (by omega) (fun c44 => by exact absurd c44 (by omega)) (fun c44 => ?_)
            refine go_aload_n (i := 0) dx_X11_spans_47 rfl rfl ?_
            refine go_getA (b := 44) fs_X11_42 rfl (go_ok rfl rfl) rfl dx_X11_spans_48 ?_
            refine go_iload_n (i := 1) dx_X11_spans_51 rfl rfl ?_
            refine go_iload dx_X11_spans_52 rfl ?_
            refine go_cV2 sv_X11_267 (go_ok rfl rfl) dx_X11_spans_54 (Nat.le_of_ble_eq_true rfl) (Nat.le_of_ble_eq_true rfl) (g_Chart_endsFrom ch_ok44 hR hc (by omega) (by omega) ?_)
            refine go_asI (y := (F : Int)) (by rw [hF]) ?_
            refine go_istore (lv' := [(0, vv_A 0), (1, vv_I (p : Int)), (2, vv_I q), (3, vv_I (T : Int)), (4, vv_I (L : Int)), (5, vv_I B), (6, vv_I (i : Int)), (7, vv_I (F : Int))]) dx_X11_spans_57 (by decide) rfl ?_
            refine go_iload_n (i := 3) dx_X11_spans_59 rfl rfl ?_
            refine go_iload dx_X11_spans_60 rfl ?_
            refine go_cS1 ss_X11_162 dx_X11_spans_62 (Nat.le_of_ble_eq_true rfl) (Nat.le_of_ble_eq_true rfl) (g_J6_bitCount F16 ?_)
            refine go_asI (y := (C : Int)) (by rw [hpop]) ?_
            refine go_iadd dx_X11_spans_65 ?_
            refine go_asI (y := ((T + C : Nat) : Int)) (by rfl) ?_
            refine go_istore_n (i := 3) (lv' := [(0, vv_A 0), (1, vv_I (p : Int)), (2, vv_I q), (3, vv_I ((T + C : Nat) : Int)), (4, vv_I (L : Int)), (5, vv_I B), (6, vv_I (i : Int)), (7, vv_I (F : Int))]) dx_X11_spans_66 rfl (by decide) rfl ?_
            refine go_bipush dx_X11_spans_67 rfl ?_
            refine go_iload dx_X11_spans_69 rfl ?_
            refine go_cS1 ss_X11_270 dx_X11_spans_71 (Nat.le_of_ble_eq_true rfl) (Nat.le_of_ble_eq_true rfl) (g_J6_nlz (Nat.pos_of_ne_zero hz) F16 (fun t t16 ht => ?_))
            refine go_isub dx_X11_spans_74 ?_
            refine go_asI (y := (t : Int)) (by omega) ?_
            refine go_istore (lv' := [(0, vv_A 0), (1, vv_I (p : Int)), (2, vv_I q), (3, vv_I ((T + C : Nat) : Int)), (4, vv_I (L : Int)), (5, vv_I B), (6, vv_I (i : Int)), (7, vv_I (F : Int)), (8, vv_I (t : Int))]) dx_X11_spans_75 (by decide) rfl ?_
            refine go_iload dx_X11_spans_77 rfl ?_
            refine go_iload dx_X11_spans_79 rfl ?_
            refine go_isub dx_X11_spans_81 ?_
            refine go_iload dx_X11_spans_82 rfl ?_
            refine go_icmp_le (tgt := 98) dx_X11_spans_84 rfl (by omega) (by omega) (fun c84 => ?_) (fun c84 => ?_)
            · refine go_iinc (lv' := [(0, vv_A 0), (1, vv_I (p : Int)), (2, vv_I q), (3, vv_I ((T + C : Nat) : Int)), (4, vv_I (L : Int)), (5, vv_I B), (6, vv_I ((i : Int) + 1)), (7, vv_I (F : Int)), (8, vv_I (t : Int))]) dx_X11_spans_98 rfl (by decide) rfl ?_
              refine go_goto (tgt := 35) dx_X11_spans_101 rfl ?_
              refine go_keep [0, 1, 2, 3, 4, 5, 6] rfl ?_
              have hbt : F.testBit t = true := by rw [Nat.testBit_eq_decide_div_mod_eq, ht]; rfl
              have hft : F < 2 ^ (t + 1) := by rw [Nat.pow_succ, Nat.mul_comm]; exact (Nat.div_lt_iff_lt_mul (Nat.pow_pos (by decide))).mp (by omega)
              have tk := (hbit t).mp hbt
              have hlt : i < t := dp_lt tk.2
              have hH : t = hib (fun j => dK S.1 p i j) (n + 1) := (hib_eq (by omega) tk.2 (fun k a b w => by have := (hbit k).mpr ⟨by omega, w⟩; rw [mk_hi hft (by omega)] at this; cases this)).symm
              first
                | exact skip t hH (by omega)
                | exact take t hH (by omega)
            · refine go_iload dx_X11_spans_87 rfl ?_
              refine go_iload dx_X11_spans_89 rfl ?_
              refine go_isub dx_X11_spans_91 ?_
              refine go_asI (y := ((t - i : Nat) : Int)) (by (have hbt : F.testBit t = true := (by rw [Nat.testBit_eq_decide_div_mod_eq, ht]; rfl); have := dp_lt ((hbit t).mp hbt).2; omega)) ?_
              refine go_istore (lv' := [(0, vv_A 0), (1, vv_I (p : Int)), (2, vv_I q), (3, vv_I ((T + C : Nat) : Int)), (4, vv_I ((t - i : Nat) : Int)), (5, vv_I B), (6, vv_I (i : Int)), (7, vv_I (F : Int)), (8, vv_I (t : Int))]) dx_X11_spans_92 (by decide) rfl ?_
              refine go_iload dx_X11_spans_94 rfl ?_
              refine go_istore (lv' := [(0, vv_A 0), (1, vv_I (p : Int)), (2, vv_I q), (3, vv_I ((T + C : Nat) : Int)), (4, vv_I ((t - i : Nat) : Int)), (5, vv_I (i : Int)), (6, vv_I (i : Int)), (7, vv_I (F : Int)), (8, vv_I (t : Int))]) dx_X11_spans_96 (by decide) rfl ?_
              refine go_iinc (lv' := [(0, vv_A 0), (1, vv_I (p : Int)), (2, vv_I q), (3, vv_I ((T + C : Nat) : Int)), (4, vv_I ((t - i : Nat) : Int)), (5, vv_I (i : Int)), (6, vv_I ((i : Int) + 1)), (7, vv_I (F : Int)), (8, vv_I (t : Int))]) dx_X11_spans_98 rfl (by decide) rfl ?_
              refine go_goto (tgt := 35) dx_X11_spans_101 rfl ?_
              refine go_keep [0, 1, 2, 3, 4, 5, 6] rfl ?_
              have hbt : F.testBit t = true := by rw [Nat.testBit_eq_decide_div_mod_eq, ht]; rfl
              have hft : F < 2 ^ (t + 1) := by rw [Nat.pow_succ, Nat.mul_comm]; exact (Nat.div_lt_iff_lt_mul (Nat.pow_pos (by decide))).mp (by omega)
              have tk := (hbit t).mp hbt
              have hlt : i < t := dp_lt tk.2
              have hH : t = hib (fun j => dK S.1 p i j) (n + 1) := (hib_eq (by omega) tk.2 (fun k a b w => by have := (hbit k).mpr ⟨by omega, w⟩; rw [mk_hi hft (by omega)] at this; cases this)).symm
              first
                | exact skip t hH (by omega)
                | exact take t hH (by omega)
        · subst e0
          have hT := hsr n (Nat.le_refl _)
          have hr := hrg n (Nat.le_refl _)
          refine go_iload dx_X11_spans_35 rfl ?_
          refine go_aload_n (i := 0) dx_X11_spans_37 rfl rfl ?_
          refine go_getA (b := 3) fs_X11_19 rfl (go_ok rfl rfl) rfl dx_X11_spans_38 ?_
          refine go_getI fs_X11_239 (Or.inl rfl) (go_ok rfl rfl) dx_X11_spans_41 ?_
          refine go_asI (y := (n : Int)) (by exact e3) ?_
          refine go_icmp_ge (tgt := 104) dx_X11_spans_44 rfl (by omega) (by omega) (fun c44 => ?_) (fun c44 => by exact absurd c44 (by omega))
          refine go_iload_n (i := 2) dx_X11_spans_104 rfl rfl ?_
          refine go_if_ne (tgt := 110) dx_X11_spans_105 rfl (by omega) (fun c105 => ?_) (fun c105 => ?_)
          · refine go_iload_n (i := 2) dx_X11_spans_110 rfl rfl ?_
            refine go_iconst dx_X11_spans_111 ?_
            refine go_icmp_ne (tgt := 120) dx_X11_spans_112 rfl (by omega) (by omega) (fun c112 => ?_) (fun c112 => ?_)
            · refine go_iload dx_X11_spans_120 rfl ?_
              refine go_ireturn dx_X11_spans_122 rfl (Nat.le_refl _) (Nat.le_refl _) ?_
              first | (rw [if_pos (by omega)] at hQ; exact hQ) | (rw [if_neg (by omega), if_pos (by omega)] at hQ; exact hQ) | (rw [if_neg (by omega), if_neg (by omega)] at hQ; exact hQ)
            · refine go_iload dx_X11_spans_115 rfl ?_
              refine go_goto (tgt := 122) dx_X11_spans_117 rfl ?_
              refine go_ireturn dx_X11_spans_122 rfl (Nat.le_refl _) (Nat.le_refl _) ?_
              first | (rw [if_pos (by omega)] at hQ; exact hQ) | (rw [if_neg (by omega), if_pos (by omega)] at hQ; exact hQ) | (rw [if_neg (by omega), if_neg (by omega)] at hQ; exact hQ)
          · refine go_iload_n (i := 3) dx_X11_spans_108 rfl rfl ?_
            refine go_ireturn dx_X11_spans_109 rfl (Nat.le_refl _) (Nat.le_refl _) ?_
            first | (rw [if_pos (by omega)] at hQ; exact hQ) | (rw [if_neg (by omega), if_pos (by omega)] at hQ; exact hQ) | (rw [if_neg (by omega), if_neg (by omega)] at hQ; exact hQ)
      · refine go_bipush dx_X11_spans_21 rfl ?_
        refine go_ireturn dx_X11_spans_23 rfl (Nat.le_refl _) (Nat.le_refl _) ?_
        first | (rw [cif_f (fun w => c9 w.1)] at hQ; exact hQ) | (rw [cif_f (fun w => by omega)] at hQ; exact hQ)
end GXCC
