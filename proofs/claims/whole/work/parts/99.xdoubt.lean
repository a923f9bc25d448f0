/-! the class's calls: doubtful -/
section GXCA
variable {E : go_E} {d : Nat} {δ : Nat → Nat → Int} {Q : List go_V → go_F → (Nat → Nat → Int) → Prop} {S : sS} {K : sK} {Tm : Int}
theorem dba_cases {R : Nat → List Nat} {pl : Nat → Nat → Prop} {i j : Nat} : ((∃ x, x < 8 ∧ ¬ Tn R pl x i j ≤ MX) ∧ dba R pl i j = -7) ∨ ((∀ x, x < 8 → Tn R pl x i j ≤ MX) ∧ dba R pl i j = li (fun x => x < 8 ∧ 2 ≤ Tn R pl x i j)) := by
  unfold dba
  by_cases h : ∃ x, x < 8 ∧ ¬ Tn R pl x i j ≤ MX
  · exact Or.inl ⟨h, if_pos h⟩
  · exact Or.inr ⟨fun x hx => Classical.byContradiction (fun q => h ⟨x, hx, q⟩), if_neg h⟩
def dql (K : sK) (c k : Nat) : Prop := dbk K k ∧ c ≤ k
def dqn (K : sK) (c : Nat) : Prop := ∀ s i x, 1 ≤ s → i + s ≤ K.2.2.length → x < 8 → c ≤ (s * 16 + i) * 8 → tK K x i (i + s) ≤ MX
theorem dql_s {s i c : Nat} (h14 : K.2.2.length ≤ 14) (hs : 1 ≤ s) (hi : i + s ≤ K.2.2.length) (hc : c = (s * 16 + i) * 8) : li (dql K c) = cif (li (fun x => x < 8 ∧ 2 ≤ tK K x i (i + s)) = -1) (li (dql K (c + 8))) ((c : Int) + li (fun x => x < 8 ∧ 2 ≤ tK K x i (i + s))) := by
  have up : ∀ k, dql K c k ↔ dql K (c + 8) k ∨ ∃ x, k = c + x ∧ x < 8 ∧ 2 ≤ tK K x i (i + s) := fun k => by
    constructor
    · rintro ⟨⟨s', i', x', e, a, b, x8, t⟩, g⟩
      by_cases z : c + 8 ≤ k
      · exact Or.inl ⟨⟨s', i', x', e, a, b, x8, t⟩, z⟩
      · have e1 : s' = s := by omega
        have e2 : i' = i := by omega
        subst e1 e2
        exact Or.inr ⟨x', by omega, x8, t⟩
    · rintro (⟨h, g⟩ | ⟨x, e, x8, t⟩)
      · exact ⟨h, by omega⟩
      · exact ⟨⟨s, i, x, by omega, hs, hi, x8, t⟩, by omega⟩
  rcases li_cases (fun x => x < 8 ∧ 2 ≤ tK K x i (i + s)) with ⟨a, b⟩ | ⟨x, a, b, b2⟩
  · rw [cif_t a]
    exact li_congr (fun k => (up k).trans ⟨fun q => q.elim id (fun ⟨x, _, q⟩ => absurd q (b x)), Or.inl⟩)
  · rw [cif_f (by omega), a]
    refine li_t (n := c + x) ((up _).mpr (Or.inr ⟨x, rfl, b⟩)) (fun m hm => ?_)
    rcases (up m).mp hm with ⟨_, g⟩ | ⟨y, e, q⟩
    · have := b.1; omega
    · have := b2 y q; omega
theorem x_doubtful {q : Int} (hq : go_iI q) (h : xk_at Tm δ S) (hQ : ∀ δ', xk_at Tm δ' S → fc δ δ' → Q [vv_I (oq_doubtful S.1 q)] go_φ δ') : Go E (d + 12) (0, 0) mx_X11_doubtful go_φ 0 [(0, vv_A 0), (1, vv_I q)] [] δ Q := by
  unfold oq_doubtful at hQ
  refine go_iload_n (i := 1) dx_X11_doubtful_0 rfl rfl ?_
  refine go_if_lt (tgt := 9) dx_X11_doubtful_1 rfl (by omega) (fun c1 => ?_) (fun c1 => ?_)
  · refine go_bipush dx_X11_doubtful_9 rfl ?_
    refine go_ireturn dx_X11_doubtful_11 rfl (Nat.le_refl _) (Nat.le_refl _) ?_
    have hQ := hQ δ h fc_rf
    rw [if_pos (by omega)] at hQ
    exact hQ
  · refine go_iload_n (i := 1) dx_X11_doubtful_4 rfl rfl ?_
    refine go_iconst dx_X11_doubtful_5 ?_
    refine go_icmp_le (tgt := 12) dx_X11_doubtful_6 rfl (by omega) (by omega) (fun c6 => ?_) (fun c6 => ?_)
    · refine go_aload_n (i := 0) dx_X11_doubtful_12 rfl rfl ?_
      refine go_cV0 sv_X11_183 (go_ok rfl rfl) dx_X11_doubtful_13 (Nat.le_of_ble_eq_true rfl) (Nat.le_of_ble_eq_true rfl) (g_freshen h (fun δ1 h1 e1 f1 => ?_))
      refine go_aload_n (i := 0) dx_X11_doubtful_16 rfl rfl ?_
      refine go_cV0 sv_X11_273 (go_ok rfl rfl) dx_X11_doubtful_17 (Nat.le_of_ble_eq_true rfl) (Nat.le_of_ble_eq_true rfl) (g_readyForest h1 e1 (fun δ2 h2 e2 r2 f2 => ?_))
      have hQ := hQ δ2 h2 (fc_tr f1 (fun b hb j => f2 b j (by omega)))
      rw [if_neg (by omega)] at hQ
      have htd := h2.1.1
      have e3 := htd.2.2.2.1
      have h14 := htd.2.2.2.2.2.2.2.2.1
      have ft := h2.2.2.2.2.2.1 r2
      have z2 := h2.2.2.1.2.2.2.2.2.1
      have dbr : ∀ k : Nat, k < 2048 → -1 ≤ dbv (k : Int) q ∧ dbv (k : Int) q ≤ 40 := fun k hk => by
        unfold dbv
        rw [if_neg (by omega)]
        split
        · omega
        · split <;> omega
      have outer := lp_dn (X := Int) (I := fun s F => s ≤ S.1.2.2.length ∧ dqn S.1 ((s + 1) * 128) ∧ F = dbv (li (dql S.1 ((s + 1) * 128))) q)
        (G := fun s F => Go E (d + 12) (0, 0) mx_X11_doubtful go_φ 30 [(0, vv_A 0), (1, vv_I q), (2, vv_I F), (3, vv_I (s : Int))] [] δ2 Q) (fun s F hI ih => ?_) (fun F hI => ?_)
      · refine go_iconst dx_X11_doubtful_20 ?_
        refine go_istore_n (i := 2) (lv' := [(0, vv_A 0), (1, vv_I q), (2, vv_I (-1))]) dx_X11_doubtful_21 rfl (by decide) rfl ?_
        refine go_aload_n (i := 0) dx_X11_doubtful_22 rfl rfl ?_
        refine go_getA (b := 3) fs_X11_19 rfl (go_ok rfl rfl) rfl dx_X11_doubtful_23 ?_
        refine go_getI fs_X11_239 (Or.inl rfl) (go_ok rfl rfl) dx_X11_doubtful_26 ?_
        refine go_asI (y := (S.1.2.2.length : Int)) (by exact e3) ?_
        refine go_istore_n (i := 3) (lv' := [(0, vv_A 0), (1, vv_I q), (2, vv_I (-1)), (3, vv_I (S.1.2.2.length : Int))]) dx_X11_doubtful_29 rfl (by decide) rfl ?_
        exact outer S.1.2.2.length (-1) ⟨Nat.le_refl _, fun s i x a b c e => by omega, by rw [li_f (fun k ⟨⟨s, i, x, e, a, b, c, _⟩, g⟩ => by omega)]; rfl⟩
      · obtain ⟨s1, no1, hF⟩ := hI
        obtain ⟨t, ht⟩ : ∃ t, t = s + 1 := ⟨_, rfl⟩
        rw [← ht] at s1 no1 hF ⊢
        have ih2 : ∀ F, dqn S.1 (t * 128) → F = dbv (li (dql S.1 (t * 128))) q → Go E (d + 12) (0, 0) mx_X11_doubtful go_φ 30 [(0, vv_A 0), (1, vv_I q), (2, vv_I F), (3, vv_I ((t : Int) - 1))] [] δ2 Q := fun F a b => by
          have := ih F ⟨by omega, by rw [← ht]; exact a, by rw [← ht]; exact b⟩
          rw [show (t : Int) - 1 = (s : Int) by omega]
          exact this
        have inner := lp_dn (X := Int) (I := fun m F => m + t ≤ S.1.2.2.length + 1 ∧ dqn S.1 ((t * 16 + m) * 8) ∧ F = dbv (li (dql S.1 ((t * 16 + m) * 8))) q)
          (G := fun m F => Go E (d + 12) (0, 0) mx_X11_doubtful go_φ 46 [(0, vv_A 0), (1, vv_I q), (2, vv_I F), (3, vv_I (t : Int)), (4, vv_I ((m : Int) - 1))] [] δ2 Q) (fun i F hI2 ih3 => ?_) (fun F hI2 => ?_)
        · refine go_iload_n (i := 3) dx_X11_doubtful_30 rfl rfl ?_
          refine go_iconst dx_X11_doubtful_31 ?_
          refine go_icmp_lt (tgt := 118) dx_X11_doubtful_32 rfl (by omega) (by omega) (fun c32 => by exact absurd c32 (by omega)) (fun c32 => ?_)
          refine go_aload_n (i := 0) dx_X11_doubtful_35 rfl rfl ?_
          refine go_getA (b := 3) fs_X11_19 rfl (go_ok rfl rfl) rfl dx_X11_doubtful_36 ?_
          refine go_getI fs_X11_239 (Or.inl rfl) (go_ok rfl rfl) dx_X11_doubtful_39 ?_
          refine go_asI (y := (S.1.2.2.length : Int)) (by exact e3) ?_
          refine go_iload_n (i := 3) dx_X11_doubtful_42 rfl rfl ?_
          refine go_isub dx_X11_doubtful_43 ?_
          refine go_asI (y := (((S.1.2.2.length - t + 1 : Nat) : Int) - 1)) (by omega) ?_
          refine go_istore (lv' := [(0, vv_A 0), (1, vv_I q), (2, vv_I F), (3, vv_I (t : Int)), (4, vv_I (((S.1.2.2.length - t + 1 : Nat) : Int) - 1))]) dx_X11_doubtful_44 (by decide) rfl ?_
          refine inner (S.1.2.2.length - t + 1) F ⟨by omega, fun s' i' x a b c e => no1 s' i' x a b c (by omega), ?_⟩
          rw [hF]
          congr 1
          exact li_congr (fun k => ⟨fun ⟨w, g⟩ => ⟨w, by omega⟩, fun ⟨w, g⟩ => ⟨w, by obtain ⟨s', i', x', e, a, b, c, _⟩ := w; omega⟩⟩)
        · obtain ⟨m1, no2, hF2⟩ := hI2
          obtain ⟨c, hc⟩ : ∃ c, c = (t * 16 + i) * 8 := ⟨_, rfl⟩
          rw [show (t * 16 + (i + 1)) * 8 = c + 8 by omega] at no2 hF2
          rw [show ((i + 1 : Nat) : Int) - 1 = (i : Int) by omega]
          have hstep := dql_s (K := S.1) (s := t) (i := i) h14 (by omega) (by omega) hc
          have ih4 : ∀ F, dqn S.1 c → F = dbv (li (dql S.1 c)) q → Go E (d + 12) (0, 0) mx_X11_doubtful go_φ 46 [(0, vv_A 0), (1, vv_I q), (2, vv_I F), (3, vv_I (t : Int)), (4, vv_I ((i : Int) - 1))] [] δ2 Q := fun F a b => ih3 F ⟨by omega, by rw [← hc]; exact a, by rw [← hc]; exact b⟩
          obtain ⟨D, hD⟩ : ∃ D, D = dba S.1.1 (plw S.1.2.2) i (i + t) := ⟨_, rfl⟩
          rcases dba_cases (R := S.1.1) (pl := plw S.1.2.2) (i := i) (j := i + t) with ⟨⟨x, x8, hx⟩, e⟩ | ⟨hall, e⟩
          · rw [← hD] at e
            rw [cif_t (show dbo S.1 from ⟨t, i, x, by omega, by omega, x8, hx⟩)] at hQ
            refine go_iload dx_X11_doubtful_46 rfl ?_
            refine go_if_lt (tgt := 112) dx_X11_doubtful_48 rfl (by omega) (fun c48 => by exact absurd c48 (by omega)) (fun c48 => ?_)
            refine go_aload_n (i := 0) dx_X11_doubtful_51 rfl rfl ?_
            refine go_getA (b := 52) fs_X11_60 rfl (go_ok rfl rfl) rfl dx_X11_doubtful_52 ?_
            refine go_iload dx_X11_doubtful_55 rfl ?_
            refine go_iload dx_X11_doubtful_57 rfl ?_
            refine go_iload_n (i := 3) dx_X11_doubtful_59 rfl rfl ?_
            refine go_iadd dx_X11_doubtful_60 ?_
            refine go_asI (y := ((i + t : Nat) : Int)) (by rfl) ?_
            refine go_cV2 sv_X11_277 (go_ok rfl rfl) dx_X11_doubtful_61 (Nat.le_of_ble_eq_true rfl) (Nat.le_of_ble_eq_true rfl) (g_Forest_doubtfulAt tb_ok52 tf_ok52 ft z2 h14 (by omega) (by omega) ?_)
            refine go_asI (y := (-7)) (by rw [← hD]; exact e) ?_
            refine go_istore (lv' := [(0, vv_A 0), (1, vv_I q), (2, vv_I F), (3, vv_I (t : Int)), (4, vv_I (i : Int)), (5, vv_I (-7))]) dx_X11_doubtful_64 (by decide) rfl ?_
            refine go_iload dx_X11_doubtful_66 rfl ?_
            refine go_bipush dx_X11_doubtful_68 rfl ?_
            refine go_icmp_ne (tgt := 76) dx_X11_doubtful_70 rfl (by omega) (by omega) (fun c70 => absurd c70 (by decide)) (fun c70 => ?_)
            refine go_bipush dx_X11_doubtful_73 rfl ?_
            refine go_ireturn dx_X11_doubtful_75 rfl (Nat.le_refl _) (Nat.le_refl _) ?_
            exact hQ
          · rw [← hD] at e
            have e' : D = li (fun x => x < 8 ∧ 2 ≤ tK S.1 x i (i + t)) := e
            have no3 : dqn S.1 c := fun s' i' x a b x8 g => by
              by_cases z : c + 8 ≤ (s' * 16 + i') * 8
              · exact no2 s' i' x a b x8 z
              · have z1 : s' = t := by omega
                have z2 : i' = i := by omega
                rw [z1, z2]
                exact hall x x8
            rw [← e'] at hstep
            have hDr : D = -1 ∨ (0 ≤ D ∧ D < 8) := by
              rcases li_cases (fun x => x < 8 ∧ 2 ≤ tK S.1 x i (i + t)) with ⟨a, _⟩ | ⟨x, a, b, _⟩
              · exact Or.inl (by rw [e', a])
              · exact Or.inr (by have := b.1; rw [e', a]; omega)
            by_cases hD1 : D = -1
            · rw [cif_t hD1] at hstep
              refine go_iload dx_X11_doubtful_46 rfl ?_
              refine go_if_lt (tgt := 112) dx_X11_doubtful_48 rfl (by omega) (fun c48 => by exact absurd c48 (by omega)) (fun c48 => ?_)
              refine go_aload_n (i := 0) dx_X11_doubtful_51 rfl rfl ?_
              refine go_getA (b := 52) fs_X11_60 rfl (go_ok rfl rfl) rfl dx_X11_doubtful_52 ?_
              refine go_iload dx_X11_doubtful_55 rfl ?_
              refine go_iload dx_X11_doubtful_57 rfl ?_
              refine go_iload_n (i := 3) dx_X11_doubtful_59 rfl rfl ?_
              refine go_iadd dx_X11_doubtful_60 ?_
              refine go_asI (y := ((i + t : Nat) : Int)) (by rfl) ?_
              refine go_cV2 sv_X11_277 (go_ok rfl rfl) dx_X11_doubtful_61 (Nat.le_of_ble_eq_true rfl) (Nat.le_of_ble_eq_true rfl) (g_Forest_doubtfulAt tb_ok52 tf_ok52 ft z2 h14 (by omega) (by omega) ?_)
              refine go_asI (y := (-1)) (by rw [← hD]; exact hD1) ?_
              refine go_istore (lv' := [(0, vv_A 0), (1, vv_I q), (2, vv_I F), (3, vv_I (t : Int)), (4, vv_I (i : Int)), (5, vv_I (-1))]) dx_X11_doubtful_64 (by decide) rfl ?_
              refine go_iload dx_X11_doubtful_66 rfl ?_
              refine go_bipush dx_X11_doubtful_68 rfl ?_
              refine go_icmp_ne (tgt := 76) dx_X11_doubtful_70 rfl (by omega) (by omega) (fun c70 => ?_) (fun c70 => absurd c70 (by decide))
              refine go_iload dx_X11_doubtful_76 rfl ?_
              refine go_iconst dx_X11_doubtful_78 ?_
              refine go_icmp_eq (tgt := 106) dx_X11_doubtful_79 rfl (by omega) (by omega) (fun c79 => ?_) (fun c79 => absurd c79 (by decide))
              refine go_iinc (lv' := [(0, vv_A 0), (1, vv_I q), (2, vv_I F), (3, vv_I (t : Int)), (4, vv_I ((i : Int) + (-1))), (5, vv_I (-1))]) dx_X11_doubtful_106 rfl (by decide) rfl ?_
              refine go_goto (tgt := 46) dx_X11_doubtful_109 rfl ?_
              refine go_keep [0, 1, 2, 3, 4] rfl ?_
              exact ih4 F no3 (by rw [hstep]; exact hF2)
            · rw [cif_f hD1] at hstep
              have hnew : ∀ v : Int, (q = 0 → v = D) → (q = 1 → v = (i : Int)) → (q = 2 → v = (i : Int) + (t : Int)) → v = dbv (li (dql S.1 c)) q := fun v g0 g1 g2 => by
                have d8 : ((c : Int) + D) / 8 = (t : Int) * 16 + (i : Int) := by omega
                have d128 : ((c : Int) + D) / 128 = (t : Int) := by omega
                have dm : ((t : Int) * 16 + (i : Int)) % 16 = (i : Int) := by omega
                rw [hstep]
                unfold dbv
                rw [if_neg (by omega)]
                by_cases q0 : q = 0
                · rw [if_pos q0, g0 q0]; omega
                · rw [if_neg q0]
                  by_cases q1 : q = 1
                  · rw [if_pos q1, g1 q1, d8, dm]
                  · rw [if_neg q1, g2 (by omega), d8, dm, d128]
              refine go_iload dx_X11_doubtful_46 rfl ?_
              refine go_if_lt (tgt := 112) dx_X11_doubtful_48 rfl (by omega) (fun c48 => by exact absurd c48 (by omega)) (fun c48 => ?_)
              refine go_aload_n (i := 0) dx_X11_doubtful_51 rfl rfl ?_
              refine go_getA (b := 52) fs_X11_60 rfl (go_ok rfl rfl) rfl dx_X11_doubtful_52 ?_
              refine go_iload dx_X11_doubtful_55 rfl ?_
              refine go_iload dx_X11_doubtful_57 rfl ?_
              refine go_iload_n (i := 3) dx_X11_doubtful_59 rfl rfl ?_
              refine go_iadd dx_X11_doubtful_60 ?_
              refine go_asI (y := ((i + t : Nat) : Int)) (by rfl) ?_
              refine go_cV2 sv_X11_277 (go_ok rfl rfl) dx_X11_doubtful_61 (Nat.le_of_ble_eq_true rfl) (Nat.le_of_ble_eq_true rfl) (g_Forest_doubtfulAt tb_ok52 tf_ok52 ft z2 h14 (by omega) (by omega) ?_)
              refine go_asI (y := D) (by rw [hD]) ?_
              refine go_istore (lv' := [(0, vv_A 0), (1, vv_I q), (2, vv_I F), (3, vv_I (t : Int)), (4, vv_I (i : Int)), (5, vv_I D)]) dx_X11_doubtful_64 (by decide) rfl ?_
              refine go_iload dx_X11_doubtful_66 rfl ?_
              refine go_bipush dx_X11_doubtful_68 rfl ?_
              refine go_icmp_ne (tgt := 76) dx_X11_doubtful_70 rfl (by omega) (by omega) (fun c70 => ?_) (fun c70 => by exact absurd c70 (by omega))
              refine go_iload dx_X11_doubtful_76 rfl ?_
              refine go_iconst dx_X11_doubtful_78 ?_
              refine go_icmp_eq (tgt := 106) dx_X11_doubtful_79 rfl (by omega) (by omega) (fun c79 => by exact absurd c79 hD1) (fun c79 => ?_)
              refine go_iload_n (i := 1) dx_X11_doubtful_82 rfl rfl ?_
              refine go_if_ne (tgt := 91) dx_X11_doubtful_83 rfl (by omega) (fun c83 => ?_) (fun c83 => ?_)
              · refine go_iload_n (i := 1) dx_X11_doubtful_91 rfl rfl ?_
                refine go_iconst dx_X11_doubtful_92 ?_
                refine go_icmp_ne (tgt := 101) dx_X11_doubtful_93 rfl (by omega) (by omega) (fun c93 => ?_) (fun c93 => ?_)
                · refine go_iload dx_X11_doubtful_101 rfl ?_
                  refine go_iload_n (i := 3) dx_X11_doubtful_103 rfl rfl ?_
                  refine go_iadd dx_X11_doubtful_104 ?_
                  refine go_nmI (fun x105_1 ex105_1 => ?_)
                  refine go_istore_n (i := 2) (lv' := [(0, vv_A 0), (1, vv_I q), (2, vv_I x105_1), (3, vv_I (t : Int)), (4, vv_I (i : Int)), (5, vv_I D)]) dx_X11_doubtful_105 rfl (by decide) rfl ?_
                  refine go_iinc (lv' := [(0, vv_A 0), (1, vv_I q), (2, vv_I x105_1), (3, vv_I (t : Int)), (4, vv_I ((i : Int) + (-1))), (5, vv_I D)]) dx_X11_doubtful_106 rfl (by decide) rfl ?_
                  refine go_goto (tgt := 46) dx_X11_doubtful_109 rfl ?_
                  refine go_keep [0, 1, 2, 3, 4] rfl ?_
                  exact ih4 _ no3 (hnew _ (fun _ => by first | rfl | omega) (fun _ => by first | rfl | omega) (fun _ => by first | rfl | omega))
                · refine go_iload dx_X11_doubtful_96 rfl ?_
                  refine go_goto (tgt := 105) dx_X11_doubtful_98 rfl ?_
                  refine go_istore_n (i := 2) (lv' := [(0, vv_A 0), (1, vv_I q), (2, vv_I (i : Int)), (3, vv_I (t : Int)), (4, vv_I (i : Int)), (5, vv_I D)]) dx_X11_doubtful_105 rfl (by decide) rfl ?_
                  refine go_iinc (lv' := [(0, vv_A 0), (1, vv_I q), (2, vv_I (i : Int)), (3, vv_I (t : Int)), (4, vv_I ((i : Int) + (-1))), (5, vv_I D)]) dx_X11_doubtful_106 rfl (by decide) rfl ?_
                  refine go_goto (tgt := 46) dx_X11_doubtful_109 rfl ?_
                  refine go_keep [0, 1, 2, 3, 4] rfl ?_
                  exact ih4 _ no3 (hnew _ (fun _ => by first | rfl | omega) (fun _ => by first | rfl | omega) (fun _ => by first | rfl | omega))
              · refine go_iload dx_X11_doubtful_86 rfl ?_
                refine go_goto (tgt := 105) dx_X11_doubtful_88 rfl ?_
                refine go_istore_n (i := 2) (lv' := [(0, vv_A 0), (1, vv_I q), (2, vv_I D), (3, vv_I (t : Int)), (4, vv_I (i : Int)), (5, vv_I D)]) dx_X11_doubtful_105 rfl (by decide) rfl ?_
                refine go_iinc (lv' := [(0, vv_A 0), (1, vv_I q), (2, vv_I D), (3, vv_I (t : Int)), (4, vv_I ((i : Int) + (-1))), (5, vv_I D)]) dx_X11_doubtful_106 rfl (by decide) rfl ?_
                refine go_goto (tgt := 46) dx_X11_doubtful_109 rfl ?_
                refine go_keep [0, 1, 2, 3, 4] rfl ?_
                exact ih4 _ no3 (hnew _ (fun _ => by first | rfl | omega) (fun _ => by first | rfl | omega) (fun _ => by first | rfl | omega))
        · obtain ⟨m1, no2, hF2⟩ := hI2
          refine go_iload dx_X11_doubtful_46 rfl ?_
          refine go_if_lt (tgt := 112) dx_X11_doubtful_48 rfl (by omega) (fun c48 => ?_) (fun c48 => by exact absurd c48 (by omega))
          refine go_iinc (lv' := [(0, vv_A 0), (1, vv_I q), (2, vv_I F), (3, vv_I ((t : Int) + (-1))), (4, vv_I (((0 : Nat) : Int) - 1))]) dx_X11_doubtful_112 rfl (by decide) rfl ?_
          refine go_goto (tgt := 30) dx_X11_doubtful_115 rfl ?_
          refine go_keep [0, 1, 2, 3] rfl ?_
          exact ih2 F (by rw [show t * 128 = (t * 16 + 0) * 8 by omega]; exact no2) (by rw [show t * 128 = (t * 16 + 0) * 8 by omega]; exact hF2)
      · obtain ⟨s1, no1, hF⟩ := hI
        have hno : ¬ dbo S.1 := fun ⟨s, i, x, a, b, c, e⟩ => e (no1 s i x a b c (by omega))
        have hli : li (dql S.1 ((0 + 1) * 128)) = li (dbk S.1) := li_congr (fun k => ⟨fun w => w.1, fun w => ⟨w, by obtain ⟨s, i, x, e, a, _⟩ := w; omega⟩⟩)
        rw [hli] at hF
        rw [cif_f hno, ← hF] at hQ
        refine go_iload_n (i := 3) dx_X11_doubtful_30 rfl rfl ?_
        refine go_iconst dx_X11_doubtful_31 ?_
        refine go_icmp_lt (tgt := 118) dx_X11_doubtful_32 rfl (by omega) (by omega) (fun c32 => ?_) (fun c32 => by exact absurd (by decide) c32)
        refine go_iload_n (i := 2) dx_X11_doubtful_118 rfl rfl ?_
        refine go_ireturn dx_X11_doubtful_119 rfl (Nat.le_refl _) (Nat.le_refl _) ?_
        exact hQ
    · refine go_bipush dx_X11_doubtful_9 rfl ?_
      refine go_ireturn dx_X11_doubtful_11 rfl (Nat.le_refl _) (Nat.le_refl _) ?_
      have hQ := hQ δ h fc_rf
      rw [if_pos (by omega)] at hQ
      exact hQ
end GXCA
