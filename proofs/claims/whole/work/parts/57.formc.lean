/-! the class's form -/
def fr_at (δ : Nat → Nat → Int) (l : List Nat) : Prop := δ 56 16 = (l.length : Int) ∧ ∀ k, k < l.length → δ 61 k = ((l.getD k 0 : Nat) : Int)
theorem fp_getD {l : List Nat} (h : ∀ y ∈ l, y < 14) (k : Nat) : l.getD k 0 < 14 := by
  by_cases e : k < l.length
  · rw [List.getD_eq_getElem?_getD, List.getElem?_eq_getElem e]; exact h _ (List.getElem_mem e)
  · rw [List.getD_eq_getElem?_getD, List.getElem?_eq_none (by omega)]; exact (by decide : (0 : Nat) < 14)
section GFORMC
variable {E : go_E} {d : Nat} {δ : Nat → Nat → Int} {Q : List go_V → go_F → (Nat → Nat → Int) → Prop} {K : sK}
theorem g_Listing_replaceLeftmost {c l : List Nat} {P : Nat} (hc : rl_ok c) (hne : c ≠ []) (h : fr_at δ l) (hl : l.length ≤ 14) (hy : ∀ y ∈ l, y < 14) (hP : P < l.length) (h1 : l.getD P 0 < 8) (h2 : ∀ q, q < P → 8 ≤ l.getD q 0)
    (hQ : ∀ δ', fr_at δ' (rpl (c.drop 1) l) → (∀ c q, c ≠ 61 → (c = 56 → q ≠ 16) → δ' c q = δ c q) → Q [] go_φ δ') :
    Go E (d + 2) (0, 0) mx_X3_replaceLeftmost go_φ 0 [(0, vv_A 56), (1, vv_I (rl_enc c : Int))] [] δ Q := by
  obtain ⟨g1, g2⟩ := h
  have hc2 : 2 ≤ c.length ∧ c.length ≤ 6 := by
    rcases hc with q | q
    · exact absurd q hne
    · exact ⟨q.1, q.2.1⟩
  have hdl : (c.drop 1).length = c.length - 1 := List.length_drop
  obtain ⟨p1, p2, p3, p4⟩ := rpl_get (ps := c.drop 1) hP h1 h2 (by omega)
  rw [hdl] at p1 p3 p4
  -- the parts
  have fill := lp_up (X := Nat → Nat → Int) (hi := c.length - 1) (I := fun i δ1 => (∀ k, k < P → δ1 61 k = ((l.getD k 0 : Nat) : Int)) ∧ (∀ k, k < i → δ1 61 (P + k) = ((c.getD (k + 1) 0 : Nat) : Int)) ∧ (∀ k, P < k → k < l.length → δ1 61 (k + (c.length - 2)) = ((l.getD k 0 : Nat) : Int)) ∧ (∀ a b, a ≠ 61 → δ1 a b = δ a b))
    (G := fun i δ1 => ∀ lv0, lv0 = [(0, vv_A 56), (1, vv_I (rl_enc c : Int)), (2, vv_I (P : Int)), (3, vv_I ((c.length - 2 : Nat) : Int)), (4, vv_I (i : Int))] → Go E (d + 2) (0, 0) mx_X3_replaceLeftmost go_φ 79 lv0 [] δ1 Q)
    (fun i δ1 hi hI ih lv0 e0 => by
      subst e0
      obtain ⟨i1, i2, i3, i4⟩ := hI
      refine go_iload dx_X3_replaceLeftmost_79 rfl ?_
      refine go_iload_n (i := 3) dx_X3_replaceLeftmost_81 rfl rfl ?_
      refine go_icmp_gt (tgt := 108) dx_X3_replaceLeftmost_82 rfl (by omega) (by omega) (fun c82 => by exact absurd c82 (by omega)) (fun c82 => ?_)
      refine go_aload_n (i := 0) dx_X3_replaceLeftmost_85 rfl rfl ?_
      refine go_getA (b := 61) fs_X3_37 rfl (go_ok rfl rfl) rfl dx_X3_replaceLeftmost_86 ?_
      refine go_iload_n (i := 2) dx_X3_replaceLeftmost_89 rfl rfl ?_
      refine go_iload dx_X3_replaceLeftmost_90 rfl ?_
      refine go_iadd dx_X3_replaceLeftmost_92 ?_
      refine go_iload_n (i := 1) dx_X3_replaceLeftmost_93 rfl rfl ?_
      refine go_iload dx_X3_replaceLeftmost_94 rfl ?_
      refine go_cS2 ss_X3_126 dx_X3_replaceLeftmost_96 (Nat.le_of_ble_eq_true rfl) (Nat.le_of_ble_eq_true rfl) (g_partOf hc (by omega) ?_)
      refine go_cS3 ss_X3_89 dx_X3_replaceLeftmost_99 (Nat.le_of_ble_eq_true rfl) (Nat.le_of_ble_eq_true rfl) (g_putIntN (i := P + i) (go_ok rfl rfl) (by omega) (show P + i < 19 by omega) ?_)
      refine go_iinc (lv' := [(0, vv_A 56), (1, vv_I (rl_enc c : Int)), (2, vv_I (P : Int)), (3, vv_I ((c.length - 2 : Nat) : Int)), (4, vv_I ((i : Int) + 1))]) dx_X3_replaceLeftmost_102 rfl (by decide) rfl ?_
      refine go_goto (tgt := 79) dx_X3_replaceLeftmost_105 rfl ?_
      refine go_keep [0, 1, 2, 3, 4] rfl ?_
      refine ih _ ⟨fun k hk => ?_, fun k hk => ?_, fun k hk hk2 => ?_, fun a b ha => by rw [wr_a _ _ _ _ ha]; exact i4 a b ha⟩ _ rfl
      · rw [wr_i _ _ _ _ (by omega)]; exact i1 k hk
      · by_cases e : k = i
        · subst e; exact wr_eq _ _ _ _
        · rw [wr_i _ _ _ _ (by omega)]; exact i2 k (by omega)
      · rw [wr_i _ _ _ _ (by omega)]; exact i3 k hk hk2
    ) (fun δ1 hI lv0 e0 => by
      subst e0
      obtain ⟨i1, i2, i3, i4⟩ := hI
      refine go_iload dx_X3_replaceLeftmost_79 rfl ?_
      refine go_iload_n (i := 3) dx_X3_replaceLeftmost_81 rfl rfl ?_
      refine go_icmp_gt (tgt := 108) dx_X3_replaceLeftmost_82 rfl (by omega) (by omega) (fun c82 => ?_) (fun c82 => by exact absurd c82 (by omega))
      refine go_aload_n (i := 0) dx_X3_replaceLeftmost_108 rfl rfl ?_
      refine go_dup dx_X3_replaceLeftmost_109 rfl ?_
      refine go_getI fs_X3_175 (Or.inl rfl) (go_ok rfl rfl) dx_X3_replaceLeftmost_110 ?_
      refine go_asI (y := (l.length : Int)) (by rw [i4 _ _ (by decide)]; exact g1) ?_
      refine go_iload_n (i := 3) dx_X3_replaceLeftmost_113 rfl rfl ?_
      refine go_iadd dx_X3_replaceLeftmost_114 ?_
      refine go_putI fp_X3_175 rfl rfl (go_ok rfl rfl) dx_X3_replaceLeftmost_115 ?_
      refine go_vreturn dx_X3_replaceLeftmost_118 rfl (Nat.le_refl _) (Nat.le_refl _) ?_
      refine hQ _ ⟨?_, fun k hk => ?_⟩ (fun a b h1 h2 => by rw [wr_n (by omega)]; exact i4 a b h1)
      · rw [wr_eq, p1]; omega
      · rw [p1] at hk
        rw [wr_a _ _ _ _ (by decide)]
        by_cases e1 : k < P
        · rw [i1 k e1, p2 k e1]
        · by_cases e2 : k < P + (c.length - 1)
          · obtain ⟨q, rfl⟩ : ∃ q, k = P + q := ⟨k - P, by omega⟩
            rw [i2 q (by omega), p3 q (by omega)]
            congr 1
            simp only [List.getD_eq_getElem?_getD, List.getElem?_drop, Nat.add_comm 1 q]
          · obtain ⟨q, rfl⟩ : ∃ q, k = q + (c.length - 2) := ⟨k - (c.length - 2), by omega⟩
            rw [i3 q (by omega) (by omega)]
            have := p4 q (by omega)
            rw [show c.length - 1 - 1 = c.length - 2 by omega] at this
            rw [this]
    )
  -- the shift
  have shift := lp_dn (X := Nat → Nat → Int) (I := fun t δ1 => P + t < l.length ∧ (∀ k, k ≤ P + t → δ1 61 k = ((l.getD k 0 : Nat) : Int)) ∧ (∀ k, P + t < k → k < l.length → δ1 61 (k + (c.length - 2)) = ((l.getD k 0 : Nat) : Int)) ∧ (∀ a b, a ≠ 61 → δ1 a b = δ a b))
    (G := fun t δ1 => Go E (d + 2) (0, 0) mx_X3_replaceLeftmost go_φ 44 [(0, vv_A 56), (1, vv_I (rl_enc c : Int)), (2, vv_I (P : Int)), (3, vv_I ((c.length - 2 : Nat) : Int)), (4, vv_I ((P : Int) + t))] [] δ1 Q)
    (fun t δ1 hI ih => by
      obtain ⟨i0, i1, i2, i3⟩ := hI
      refine go_iload dx_X3_replaceLeftmost_44 rfl ?_
      refine go_iload_n (i := 2) dx_X3_replaceLeftmost_46 rfl rfl ?_
      refine go_icmp_le (tgt := 76) dx_X3_replaceLeftmost_47 rfl (by omega) (by omega) (fun c47 => by exact absurd c47 (by omega)) (fun c47 => ?_)
      refine go_aload_n (i := 0) dx_X3_replaceLeftmost_50 rfl rfl ?_
      refine go_getA (b := 61) fs_X3_37 rfl (go_ok rfl rfl) rfl dx_X3_replaceLeftmost_51 ?_
      refine go_iload dx_X3_replaceLeftmost_54 rfl ?_
      refine go_iload_n (i := 3) dx_X3_replaceLeftmost_56 rfl rfl ?_
      refine go_iadd dx_X3_replaceLeftmost_57 ?_
      refine go_aload_n (i := 0) dx_X3_replaceLeftmost_58 rfl rfl ?_
      refine go_getA (b := 61) fs_X3_37 rfl (go_ok rfl rfl) rfl dx_X3_replaceLeftmost_59 ?_
      refine go_iload dx_X3_replaceLeftmost_62 rfl ?_
      refine go_cS2 ss_X3_85 dx_X3_replaceLeftmost_64 (Nat.le_of_ble_eq_true rfl) (Nat.le_of_ble_eq_true rfl) (g_intAtV (i := (P + (t + 1))) (v := (((l.getD (P + (t + 1)) 0 : Nat) : Int))) (go_ok rfl rfl) (by omega) (show (P + (t + 1)) < 19 by omega) (by exact i1 _ (Nat.le_refl _)) ?_)
      refine go_cS3 ss_X3_89 dx_X3_replaceLeftmost_67 (Nat.le_of_ble_eq_true rfl) (Nat.le_of_ble_eq_true rfl) (g_putIntN (i := P + (t + 1) + (c.length - 2)) (go_ok rfl rfl) (by omega) (show P + (t + 1) + (c.length - 2) < 19 by omega) ?_)
      refine go_iinc (lv' := [(0, vv_A 56), (1, vv_I (rl_enc c : Int)), (2, vv_I (P : Int)), (3, vv_I ((c.length - 2 : Nat) : Int)), (4, vv_I (((P : Int) + ((t + 1 : Nat) : Int)) + (-1)))]) dx_X3_replaceLeftmost_70 rfl (by decide) rfl ?_
      refine go_goto (tgt := 44) dx_X3_replaceLeftmost_73 rfl ?_
      refine go_keep [0, 1, 2, 3, 4] rfl ?_
      rw [show (P : Int) + ((t + 1 : Nat) : Int) + (-1) = (P : Int) + t by omega]
      refine ih _ ⟨by omega, fun k hk => ?_, fun k hk hk2 => ?_, fun a b ha => by rw [wr_a _ _ _ _ ha]; exact i3 a b ha⟩
      · rw [wr_i _ _ _ _ (by omega)]; exact i1 k (by omega)
      · by_cases e : k = P + (t + 1)
        · subst e; exact wr_eq _ _ _ _
        · rw [wr_i _ _ _ _ (by omega)]; exact i2 k (by omega) hk2
    ) (fun δ1 hI => by
      obtain ⟨i0, i1, i2, i3⟩ := hI
      refine go_iload dx_X3_replaceLeftmost_44 rfl ?_
      refine go_iload_n (i := 2) dx_X3_replaceLeftmost_46 rfl rfl ?_
      refine go_icmp_le (tgt := 76) dx_X3_replaceLeftmost_47 rfl (by omega) (by omega) (fun c47 => ?_) (fun c47 => by exact absurd c47 (by omega))
      refine go_iconst dx_X3_replaceLeftmost_76 ?_
      refine go_istore (lv' := [(0, vv_A 56), (1, vv_I (rl_enc c : Int)), (2, vv_I (P : Int)), (3, vv_I ((c.length - 2 : Nat) : Int)), (4, vv_I 0)]) dx_X3_replaceLeftmost_77 (by decide) rfl ?_
      exact fill 0 δ1 (Nat.zero_le _) ⟨fun k hk => i1 k (by omega), fun k hk => absurd hk (Nat.not_lt_zero _), fun k hk hk2 => i2 k (by omega) hk2, i3⟩ _ rfl
    )
  -- the place
  have loop := lp_up (X := Unit) (hi := P) (I := fun _ _ => True)
    (G := fun p _ => ∀ lv0, lv0 = [(0, vv_A 56), (1, vv_I (rl_enc c : Int)), (2, vv_I (p : Int))] → Go E (d + 2) (0, 0) mx_X3_replaceLeftmost go_φ 2 lv0 [] δ Q)
    (fun p _ hp _ ih lv0 e0 => by
      subst e0
      have := h2 p hp
      have := fp_getD hy p
      refine go_iload_n (i := 2) dx_X3_replaceLeftmost_2 rfl rfl ?_
      refine go_aload_n (i := 0) dx_X3_replaceLeftmost_3 rfl rfl ?_
      refine go_getI fs_X3_175 (Or.inl rfl) (go_ok rfl rfl) dx_X3_replaceLeftmost_4 ?_
      refine go_asI (y := (l.length : Int)) (by exact g1) ?_
      refine go_icmp_ge (tgt := 29) dx_X3_replaceLeftmost_7 rfl (by omega) (by omega) (fun c7 => by exact absurd c7 (by omega)) (fun c7 => ?_)
      refine go_aload_n (i := 0) dx_X3_replaceLeftmost_10 rfl rfl ?_
      refine go_getA (b := 61) fs_X3_37 rfl (go_ok rfl rfl) rfl dx_X3_replaceLeftmost_11 ?_
      refine go_iload_n (i := 2) dx_X3_replaceLeftmost_14 rfl rfl ?_
      refine go_cS2 ss_X3_85 dx_X3_replaceLeftmost_15 (Nat.le_of_ble_eq_true rfl) (Nat.le_of_ble_eq_true rfl) (g_intAtV (i := p) (v := (((l.getD p 0 : Nat) : Int))) (go_ok rfl rfl) (by omega) (show p < 19 by omega) (by exact g2 p (by omega)) ?_)
      refine go_bipush dx_X3_replaceLeftmost_18 rfl ?_
      refine go_icmp_lt (tgt := 29) dx_X3_replaceLeftmost_20 rfl (by omega) (by omega) (fun c20 => by exact absurd c20 (by omega)) (fun c20 => ?_)
      refine go_iinc (lv' := [(0, vv_A 56), (1, vv_I (rl_enc c : Int)), (2, vv_I ((p : Int) + 1))]) dx_X3_replaceLeftmost_23 rfl (by decide) rfl ?_
      refine go_goto (tgt := 2) dx_X3_replaceLeftmost_26 rfl ?_
      refine go_keep [0, 1, 2] rfl ?_
      exact ih () trivial _ rfl
    ) (fun _ _ lv0 e0 => by
      subst e0
      refine go_iload_n (i := 2) dx_X3_replaceLeftmost_2 rfl rfl ?_
      refine go_aload_n (i := 0) dx_X3_replaceLeftmost_3 rfl rfl ?_
      refine go_getI fs_X3_175 (Or.inl rfl) (go_ok rfl rfl) dx_X3_replaceLeftmost_4 ?_
      refine go_asI (y := (l.length : Int)) (by exact g1) ?_
      refine go_icmp_ge (tgt := 29) dx_X3_replaceLeftmost_7 rfl (by omega) (by omega) (fun c7 => by exact absurd c7 (by omega)) (fun c7 => ?_)
      refine go_aload_n (i := 0) dx_X3_replaceLeftmost_10 rfl rfl ?_
      refine go_getA (b := 61) fs_X3_37 rfl (go_ok rfl rfl) rfl dx_X3_replaceLeftmost_11 ?_
      refine go_iload_n (i := 2) dx_X3_replaceLeftmost_14 rfl rfl ?_
      refine go_cS2 ss_X3_85 dx_X3_replaceLeftmost_15 (Nat.le_of_ble_eq_true rfl) (Nat.le_of_ble_eq_true rfl) (g_intAtV (i := P) (v := (((l.getD P 0 : Nat) : Int))) (go_ok rfl rfl) (by omega) (show P < 19 by omega) (by exact g2 P (by omega)) ?_)
      refine go_bipush dx_X3_replaceLeftmost_18 rfl ?_
      refine go_icmp_lt (tgt := 29) dx_X3_replaceLeftmost_20 rfl (by omega) (by omega) (fun c20 => ?_) (fun c20 => by exact absurd c20 (by omega))
      refine go_iload_n (i := 1) dx_X3_replaceLeftmost_29 rfl rfl ?_
      refine go_cS1 ss_X3_123 dx_X3_replaceLeftmost_30 (Nat.le_of_ble_eq_true rfl) (Nat.le_of_ble_eq_true rfl) (g_sizeOf hc ?_)
      refine go_iconst dx_X3_replaceLeftmost_33 ?_
      refine go_isub dx_X3_replaceLeftmost_34 ?_
      refine go_asI (y := ((c.length - 2 : Nat) : Int)) (by omega) ?_
      refine go_istore_n (i := 3) (lv' := [(0, vv_A 56), (1, vv_I (rl_enc c : Int)), (2, vv_I (P : Int)), (3, vv_I ((c.length - 2 : Nat) : Int))]) dx_X3_replaceLeftmost_35 rfl (by decide) rfl ?_
      refine go_aload_n (i := 0) dx_X3_replaceLeftmost_36 rfl rfl ?_
      refine go_getI fs_X3_175 (Or.inl rfl) (go_ok rfl rfl) dx_X3_replaceLeftmost_37 ?_
      refine go_asI (y := (l.length : Int)) (by exact g1) ?_
      refine go_iconst dx_X3_replaceLeftmost_40 ?_
      refine go_isub dx_X3_replaceLeftmost_41 ?_
      refine go_asI (y := ((P : Int) + ((l.length - 1 - P : Nat) : Int))) (by omega) ?_
      refine go_istore (lv' := [(0, vv_A 56), (1, vv_I (rl_enc c : Int)), (2, vv_I (P : Int)), (3, vv_I ((c.length - 2 : Nat) : Int)), (4, vv_I ((P : Int) + ((l.length - 1 - P : Nat) : Int)))]) dx_X3_replaceLeftmost_42 (by decide) rfl ?_
      exact shift (l.length - 1 - P) δ ⟨by omega, fun k hk => g2 k (by omega), fun k hk hk2 => absurd hk (by omega), fun _ _ _ => rfl⟩
    )
  refine go_iconst dx_X3_replaceLeftmost_0 ?_
  refine go_istore_n (i := 2) (lv' := [(0, vv_A 56), (1, vv_I (rl_enc c : Int)), (2, vv_I 0)]) dx_X3_replaceLeftmost_1 rfl (by decide) rfl ?_
  exact loop 0 () (Nat.zero_le _) trivial _ rfl
theorem fr_fr {δ δ' : Nat → Nat → Int} {l : List Nat} (h : fr_at δ l) (f : ∀ c q, c = 61 ∨ (c = 56 ∧ q = 16) → δ' c q = δ c q) : fr_at δ' l :=
  ⟨by rw [f _ _ (by omega)]; exact h.1, fun k hk => by rw [f _ _ (by omega)]; exact h.2 k hk⟩
theorem g_Listing_makeForm {m : Nat} (hb : td_at δ 3 K) (hn : 0 < K.2.2.length) (h1 : 0 < Tn K.1 (plw K.2.2) K.2.1 0 K.2.2.length) (hns : ln_at δ (ltr2 K 0)) (hm : m ≤ (ltr2 K 0).length)
    (hQ : ∀ δ', fr_at δ' (fmn K.1 K.2.1 (ltr2 K 0) m) → (∀ c q, c ≠ 61 → (c = 56 → q ≠ 16) → δ' c q = δ c q) → Q [] go_φ δ') :
    Go E (d + 4) (0, 0) mx_X3_makeForm go_φ 0 [(0, vv_A 56), (1, vv_I (m : Int))] [] δ Q := by
  have hK : sk_ok K := hb.2.2.2.2
  have hfm := fm_ok hK hn h1
  have hlo := ltr_ok (m := 0) hK hn h1 (by decide) (Or.inl rfl)
  have h216 : (ltr2 K 0).length ≤ 216 := by
    have := hlo.2.1
    omega
  have loop := lp_up (X := Nat → Nat → Int) (hi := m) (I := fun k δ1 => fr_at δ1 (fmn K.1 K.2.1 (ltr2 K 0) k) ∧ (∀ c q, c ≠ 61 → (c = 56 → q ≠ 16) → δ1 c q = δ c q))
    (G := fun k δ1 => ∀ lv0, lv0 = [(0, vv_A 56), (1, vv_I (m : Int)), (2, vv_I (k : Int))] → Go E (d + 4) (0, 0) mx_X3_makeForm go_φ 22 lv0 [] δ1 Q)
    (fun k δ1 hk hI ih lv0 e0 => by
      subst e0
      obtain ⟨i1, i2⟩ := hI
      have hkl : k < (ltr2 K 0).length := by omega
      obtain ⟨f1, f2⟩ := hfm k (by omega)
      obtain ⟨P, q1, q2, q3⟩ := f2 hkl
      have hnd := hlo.2.2.2 _ (List.getElem_mem hkl)
      have hb1 : td_at δ1 3 K := td_fr3 hb (fun c j hc => i2 c j (by omega) (by omega))
      have hn1 : ln_at δ1 (ltr2 K 0) := ln_fr hns (fun c j hc => i2 c j (by omega) (by omega))
      have e1 : (ltr2 K 0).getD k (0, 0, 0, 0, 0) = (ltr2 K 0)[k] := by rw [List.getD_eq_getElem?_getD, List.getElem?_eq_getElem hkl]; rfl
      refine go_iload_n (i := 2) dx_X3_makeForm_22 rfl rfl ?_
      refine go_iload_n (i := 1) dx_X3_makeForm_23 rfl rfl ?_
      refine go_icmp_ge (tgt := 50) dx_X3_makeForm_24 rfl (by omega) (by omega) (fun c24 => by exact absurd c24 (by omega)) (fun c24 => ?_)
      refine go_aload_n (i := 0) dx_X3_makeForm_27 rfl rfl ?_
      refine go_aload_n (i := 0) dx_X3_makeForm_28 rfl rfl ?_
      refine go_getA (b := 3) fs_X3_9 rfl (go_ok rfl rfl) rfl dx_X3_makeForm_29 ?_
      refine go_aload_n (i := 0) dx_X3_makeForm_32 rfl rfl ?_
      refine go_iload_n (i := 2) dx_X3_makeForm_33 rfl rfl ?_
      refine go_iconst dx_X3_makeForm_34 ?_
      refine go_cV2 sv_X3_116 (go_ok rfl rfl) dx_X3_makeForm_35 (Nat.le_of_ble_eq_true rfl) (Nat.le_of_ble_eq_true rfl) (g_Listing_tellN hn1 h216 hkl (b := 0) (by omega) ?_)
      refine go_cV1 sv_X3_78 (go_ok rfl rfl) dx_X3_makeForm_38 (Nat.le_of_ble_eq_true rfl) (Nat.le_of_ble_eq_true rfl) (g_Told_ruleAtN td_ok3 hb1 hnd.1 ?_)
      refine go_cV1 sv_X3_178 (go_ok rfl rfl) dx_X3_makeForm_41 (Nat.le_of_ble_eq_true rfl) (Nat.le_of_ble_eq_true rfl) (g_Listing_replaceLeftmost (hK.1 _) hnd.2 i1 f1.1 f1.2 q1 q2 q3 (fun δ2 h2 f2' => ?_))
      refine go_iinc (lv' := [(0, vv_A 56), (1, vv_I (m : Int)), (2, vv_I ((k : Int) + 1))]) dx_X3_makeForm_44 rfl (by decide) rfl ?_
      refine go_goto (tgt := 22) dx_X3_makeForm_47 rfl ?_
      refine go_keep [0, 1, 2] rfl ?_
      refine ih δ2 ⟨?_, fun c q a b => (f2' c q a b).trans (i2 c q a b)⟩ _ rfl
      show fr_at δ2 (rpl ((K.1 ((ltr2 K 0).getD k (0, 0, 0, 0, 0)).1).drop 1) (fmn K.1 K.2.1 (ltr2 K 0) k))
      rw [e1]
      exact h2
    ) (fun δ1 hI lv0 e0 => by
      subst e0
      obtain ⟨i1, i2⟩ := hI
      refine go_iload_n (i := 2) dx_X3_makeForm_22 rfl rfl ?_
      refine go_iload_n (i := 1) dx_X3_makeForm_23 rfl rfl ?_
      refine go_icmp_ge (tgt := 50) dx_X3_makeForm_24 rfl (by omega) (by omega) (fun c24 => ?_) (fun c24 => by exact absurd c24 (by omega))
      refine go_vreturn dx_X3_makeForm_50 rfl (Nat.le_refl _) (Nat.le_refl _) ?_
      exact hQ δ1 i1 i2
    )
  refine go_aload_n (i := 0) dx_X3_makeForm_0 rfl rfl ?_
  refine go_getA (b := 61) fs_X3_37 rfl (go_ok rfl rfl) rfl dx_X3_makeForm_1 ?_
  refine go_iconst dx_X3_makeForm_4 ?_
  refine go_aload_n (i := 0) dx_X3_makeForm_5 rfl rfl ?_
  refine go_getA (b := 3) fs_X3_9 rfl (go_ok rfl rfl) rfl dx_X3_makeForm_6 ?_
  refine go_getI fs_X3_51 (Or.inl rfl) (go_ok rfl rfl) dx_X3_makeForm_9 ?_
  refine go_asI (y := (K.2.1 : Int)) (by exact hb.2.1) ?_
  refine go_cS3 ss_X3_89 dx_X3_makeForm_12 (Nat.le_of_ble_eq_true rfl) (Nat.le_of_ble_eq_true rfl) (g_putIntN (i := 0) (go_ok rfl rfl) (by omega) (show 0 < 19 by omega) ?_)
  refine go_aload_n (i := 0) dx_X3_makeForm_15 rfl rfl ?_
  refine go_iconst dx_X3_makeForm_16 ?_
  refine go_putI fp_X3_175 rfl rfl (go_ok rfl rfl) dx_X3_makeForm_17 ?_
  refine go_iconst dx_X3_makeForm_20 ?_
  refine go_istore_n (i := 2) (lv' := [(0, vv_A 56), (1, vv_I (m : Int)), (2, vv_I 0)]) dx_X3_makeForm_21 rfl (by decide) rfl ?_
  refine loop 0 _ (Nat.zero_le _) ⟨⟨?_, fun k hk => ?_⟩, fun c q a b => by rw [wr_n (by omega), wr_a _ _ _ _ a]⟩ _ rfl
  · rw [wr_eq]; rfl
  · have hk : k < 1 := hk
    have : k = 0 := by omega
    subst this
    rw [wr_a _ _ _ _ (by decide), wr_eq]; rfl
end GFORMC
