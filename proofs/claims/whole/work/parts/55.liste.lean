/-! the class's listing: the tree of a number, its forms -/
noncomputable def ltr2 (K : sK) (m : Nat) : List tN := lrn K.1 (plw K.2.2) 216 [] [(K.2.1, 0, K.2.2.length, 0, -1, m)]
theorem lrn_nil {R : Nat → List Nat} {pl : Nat → Nat → Prop} (f : Nat) (ns : List tN) : lrn R pl f ns [] = ns := by cases f <;> rfl
/-- what a run leaves: all its nodes have rules; it has an end -/
theorem lrn_ok {R : Nat → List Nat} {pl : Nat → Nat → Prop} (hR : ∀ r, rl_ok (R r)) (hd : dstn R) {n : Nat} : ∀ (f : Nat) (ns : List tN) (s : List tI), ns.length + f = 216 → li_ok R pl n ns s → li_ok R pl n (lrn R pl f ns s) [] := by
  intro f
  induction f with
  | zero =>
    intro ns s hf h
    cases s with
    | nil => exact h
    | cons it s =>
      have h1 := it_phi_pos (h.1 it (List.mem_cons_self ..))
      have h2 : ns.length + (it_phi it + st_phi s) ≤ 216 := h.2.1
      omega
  | succ f ih =>
    intro ns s hf h
    cases s with
    | nil => exact h
    | cons it s => exact ih _ _ (by rw [List.length_append, List.length_singleton]; omega) (li_step hR hd h)
theorem ltr_ok {K : sK} (hK : sk_ok K) {m : Nat} (hn : 0 < K.2.2.length) (h1 : m < Tn K.1 (plw K.2.2) K.2.1 0 K.2.2.length) (h2 : m ≤ 2147483647) (h3 : m = 0 ∨ Tn K.1 (plw K.2.2) K.2.1 0 K.2.2.length ≤ MX) : li_ok K.1 (plw K.2.2) K.2.2.length (ltr2 K m) [] :=
  lrn_ok hK.1 hK.2.2.1 216 [] _ (by rfl) (li_init hK.2.2.2.1 hn hK.2.2.2.2.1 h1 h2 h3)
section GLISTE
variable {E : go_E} {d : Nat} {δ : Nat → Nat → Int} {Q : List go_V → go_F → (Nat → Nat → Int) → Prop} {K : sK}
theorem g_Listing_list {m : Nat} (hb : lb_at δ K) (hn : 0 < K.2.2.length) (h1 : m < Tn K.1 (plw K.2.2) K.2.1 0 K.2.2.length) (h2 : m ≤ 2147483647) (h3 : m = 0 ∨ Tn K.1 (plw K.2.2) K.2.1 0 K.2.2.length ≤ MX)
    (hQ : ∀ δ', ln_at δ' (ltr2 K m) → (∀ c q, c ≠ 43 → (c < 56 ∨ 60 < c) → δ' c q = δ c q) → (∀ q, q ≠ 4 → ¬ (7 ≤ q ∧ q ≤ 13) → δ' 56 q = δ 56 q) → Q [] go_φ δ') :
    Go E (d + 13) (0, 0) mx_X3_list go_φ 0 [(0, vv_A 56), (1, vv_I (m : Int))] [] δ Q := by
  have hK := hb.1.2.2.2.2
  have hR := hK.1
  have hd : dstn K.1 := hK.2.2.1
  have h14 := hK.2.2.2.2.1
  have hini := li_init (R := K.1) (pl := plw K.2.2) hK.2.2.2.1 hn h14 h1 h2 h3
  -- the loop
  have loop := lp_up (X := (Nat → Nat → Int) × List tN × List tI) (hi := 217) (I := fun t X => X.2.1.length = t ∧ t ≤ 216 ∧ li_ok K.1 (plw K.2.2) K.2.2.length X.2.1 X.2.2 ∧ lrn K.1 (plw K.2.2) (216 - t) X.2.1 X.2.2 = ltr2 K m ∧ ln_at X.1 X.2.1 ∧ ls_at X.1 X.2.2 ∧ (∀ c q, c ≠ 43 → (c < 56 ∨ 60 < c) → X.1 c q = δ c q) ∧ (∀ q, q ≠ 4 → ¬ (7 ≤ q ∧ q ≤ 13) → X.1 56 q = δ 56 q))
    (G := fun t X => ∀ lv0, lv0 = [(0, vv_A 56), (1, vv_I (m : Int)), (2, vv_I (t : Int))] → Go E (d + 13) (0, 0) mx_X3_list go_φ 39 lv0 [] X.1 Q)
    (fun t X ht hI ih lv0 e0 => by
      subst e0
      obtain ⟨δ1, ns, s⟩ := X
      obtain ⟨i1, i2, i3, i4, i5, i6, i7, i8⟩ := hI
      dsimp only at i1 i2 i3 i4 i5 i6 i7 i8 ⊢
      have fin : s = [] → Q [] go_φ δ1 := fun e => by
        subst e
        rw [lrn_nil] at i4
        rw [i4] at i5
        exact hQ δ1 i5 i7 i8
      have hb1 : lb_at δ1 K := lb_fr hb (fun c q a b => i7 c q b (by omega))
      have hlen := st_len_le i3.1
      cases s with
      | nil =>
        refine go_iload_n (i := 2) dx_X3_list_39 rfl rfl ?_
        refine go_sipush dx_X3_list_40 rfl ?_
        refine go_icmp_ge (tgt := 94) dx_X3_list_43 rfl (by omega) (by omega) (fun c43 => ?_) (fun c43 => ?_)
        · refine go_vreturn dx_X3_list_94 rfl (Nat.le_refl _) (Nat.le_refl _) ?_
          exact fin rfl
        · refine go_aload_n (i := 0) dx_X3_list_46 rfl rfl ?_
          refine go_getI fs_X3_44 (Or.inl rfl) (go_ok rfl rfl) dx_X3_list_47 ?_
          refine go_asI (y := 0) (by exact i6.1) ?_
          refine go_if_le (tgt := 94) dx_X3_list_50 rfl (by omega) (fun c50 => ?_) (fun c50 => absurd c50 (by decide))
          refine go_vreturn dx_X3_list_94 rfl (Nat.le_refl _) (Nat.le_refl _) ?_
          exact fin rfl
      | cons it s =>
        have hit := i3.1 it (List.mem_cons_self ..)
        have hph := it_phi_pos hit
        have hst : ns.length + (it_phi it + st_phi s) ≤ 216 := i3.2.1
        have hsl : s.length ≤ 13 := by
          have := i3.2.2.1
          rw [List.length_cons] at hlen
          omega
        obtain ⟨t1, t2, t3, t4, t5, t6, t7, t8, t9⟩ := id hit
        obtain ⟨r1, r2, r3, r4, r5, r6⟩ := lrl_spec hR hd hit
        have hstep := li_step hR hd i3
        refine go_iload_n (i := 2) dx_X3_list_39 rfl rfl ?_
        refine go_sipush dx_X3_list_40 rfl ?_
        refine go_icmp_ge (tgt := 94) dx_X3_list_43 rfl (by omega) (by omega) (fun c43 => by exact absurd c43 (by omega)) (fun c43 => ?_)
        refine go_aload_n (i := 0) dx_X3_list_46 rfl rfl ?_
        refine go_getI fs_X3_44 (Or.inl rfl) (go_ok rfl rfl) dx_X3_list_47 ?_
        refine go_asI (y := ((s.length + 1 : Nat) : Int)) (by exact i6.1) ?_
        refine go_if_le (tgt := 94) dx_X3_list_50 rfl (by omega) (fun c50 => by exact absurd c50 (by omega)) (fun c50 => ?_)
        refine go_aload_n (i := 0) dx_X3_list_53 rfl rfl ?_
        refine go_cV0 sv_X3_63 (go_ok rfl rfl) dx_X3_list_54 (Nat.le_of_ble_eq_true rfl) (Nat.le_of_ble_eq_true rfl) (g_Listing_takeWaiting i6 (by omega) t1 t4 (fun δ2 h2a h2b f2 => ?_))
        have hb2 : lb_at δ2 K := lb_fr hb1 (fun c q a b => f2 c q (by omega))
        refine go_aload_n (i := 0) dx_X3_list_57 rfl rfl ?_
        refine go_cV0 sv_X3_66 (go_ok rfl rfl) dx_X3_list_58 (Nat.le_of_ble_eq_true rfl) (Nat.le_of_ble_eq_true rfl) (g_Listing_chooseRule hb2 hd hit h2b (fun δ3 h3a f3 => ?_))
        have hb3 : lb_at δ3 K := lb_fr hb2 (fun c q a b => f3 c q b (by omega))
        have hn3 : ln_at δ3 ns := ln_fr i5 (fun c j hc => by rw [f3 _ _ (by omega) (by omega), f2 _ _ (by omega)])
        have hs3 : ls_at δ3 s := ⟨by rw [f3 _ _ (by decide) (by decide)]; exact h2a.1, lsx_fr h2a.2 (fun c j hc => f3 _ _ (by omega) (by omega))⟩
        refine go_istore_n (i := 3) (lv' := [(0, vv_A 56), (1, vv_I (m : Int)), (2, vv_I (t : Int)), (3, vv_I (lrl K.1 (plw K.2.2) it : Int))]) dx_X3_list_61 rfl (by decide) rfl ?_
        refine go_aload_n (i := 0) dx_X3_list_62 rfl rfl ?_
        refine go_iload_n (i := 3) dx_X3_list_63 rfl rfl ?_
        refine go_cV1 sv_X3_70 (go_ok rfl rfl) dx_X3_list_64 (Nat.le_of_ble_eq_true rfl) (Nat.le_of_ble_eq_true rfl) (g_Listing_putNode hn3 (by omega) h3a t9 (fun δ4 h4 f4 => ?_))
        refine go_istore (lv' := [(0, vv_A 56), (1, vv_I (m : Int)), (2, vv_I (t : Int)), (3, vv_I (lrl K.1 (plw K.2.2) it : Int)), (4, vv_I (ns.length : Int))]) dx_X3_list_67 (by decide) rfl ?_
        have hb4 : lb_at δ4 K := lb_fr hb3 (fun c q a b => f4 c q (by omega) (by omega))
        have hc4 := lc_fr h3a (δ' := δ4) (fun q a b => f4 _ _ (by decide) (by omega))
        have hs4 : ls_at δ4 s := ⟨by rw [f4 _ _ (by decide) (by decide)]; exact hs3.1, lsx_fr hs3.2 (fun c j hc => f4 _ _ (by omega) (by omega))⟩
        refine go_aload_n (i := 0) dx_X3_list_69 rfl rfl ?_
        refine go_iload_n (i := 3) dx_X3_list_70 rfl rfl ?_
        refine go_cV1 sv_X3_74 (go_ok rfl rfl) dx_X3_list_71 (Nat.le_of_ble_eq_true rfl) (Nat.le_of_ble_eq_true rfl) (g_Listing_chooseCuts hb4 r1 r2 hc4 (by omega) t2 t3 ?_ (fun δ5 h5a h5b f5 => ?_))
        rotate_left 1
        have hb5 : lb_at δ5 K := lb_fr hb4 (fun c q a b => f5 c q (by omega) (by omega))
        have hs5 : ls_at δ5 s := ⟨by rw [f5 _ _ (by decide) (by decide)]; exact hs4.1, lsx_fr hs4.2 (fun c j hc => f5 _ _ (by omega) (by omega))⟩
        refine go_aload_n (i := 0) dx_X3_list_74 rfl rfl ?_
        refine go_aload_n (i := 0) dx_X3_list_75 rfl rfl ?_
        refine go_getA (b := 3) fs_X3_9 rfl (go_ok rfl rfl) rfl dx_X3_list_76 ?_
        refine go_iload_n (i := 3) dx_X3_list_79 rfl rfl ?_
        refine go_cV1 sv_X3_78 (go_ok rfl rfl) dx_X3_list_80 (Nat.le_of_ble_eq_true rfl) (Nat.le_of_ble_eq_true rfl) (g_Told_ruleAtN td_ok3 hb5.1 r1 ?_)
        refine go_iload dx_X3_list_83 rfl ?_
        refine go_cV2 sv_X3_81 (go_ok rfl rfl) dx_X3_list_85 (Nat.le_of_ble_eq_true rfl) (Nat.le_of_ble_eq_true rfl) (g_Listing_putParts hb5 hd hit hs5 hsl h5a h5b (fun δ6 h6 f6 => ?_))
        refine go_iinc (lv' := [(0, vv_A 56), (1, vv_I (m : Int)), (2, vv_I ((t : Int) + 1)), (3, vv_I (lrl K.1 (plw K.2.2) it : Int)), (4, vv_I (ns.length : Int))]) dx_X3_list_88 rfl (by decide) rfl ?_
        refine go_goto (tgt := 39) dx_X3_list_91 rfl ?_
        refine go_keep [0, 1, 2] rfl ?_
        refine ih (δ6, _, _) ⟨?_, by omega, hstep, ?_, ?_, h6, fun c q a b => ?_, fun q a b => ?_⟩ _ rfl
        · show (ns ++ [_]).length = _
          rw [List.length_append, List.length_singleton]; omega
        · show lrn _ _ (216 - (t + 1)) _ _ = _
          rw [← i4, show 216 - t = 216 - (t + 1) + 1 by omega]
          rfl
        · exact ln_fr h4 (fun c j hc => by show δ6 c j = _; rw [f6 _ _ (by omega) (by omega) (by omega), f5 _ _ (by omega) (by omega)])
        · show δ6 c q = _
          rw [f6 _ _ (by omega) (by omega) (by omega), f5 _ _ (by omega) (by omega), f4 _ _ (by omega) (by omega), f3 _ _ a (by omega), f2 _ _ (by omega)]
          exact i7 c q a b
        · show δ6 56 q = _
          rw [f6 _ _ (by decide) (by decide) (by omega), f5 _ _ (by decide) (by omega), f4 _ _ (by decide) (by omega), f3 _ _ (by decide) (by omega), f2 _ _ (by omega)]
          exact i8 q a b
        · by_cases e2 : (K.1 (lrl K.1 (plw K.2.2) it)).length = 2
          · exact Or.inl e2
          · refine Or.inr ?_
            have hl2 : 2 ≤ (K.1 (lrl K.1 (plw K.2.2) it)).length := by
              rcases hR (lrl K.1 (plw K.2.2) it) with q | q
              · exact absurd q r2
              · exact q.1
            unfold wrr at r4
            rw [nif_t ⟨r3, hl2⟩, if_neg (fun w => e2 w.1)] at r4
            exact r4
    ) (fun X hI => absurd hI.2.1 (by omega))
  refine go_aload_n (i := 0) dx_X3_list_0 rfl rfl ?_
  refine go_iconst dx_X3_list_1 ?_
  refine go_putI fp_X3_40 rfl rfl (go_ok rfl rfl) dx_X3_list_2 ?_
  refine go_aload_n (i := 0) dx_X3_list_5 rfl rfl ?_
  refine go_iconst dx_X3_list_6 ?_
  refine go_putI fp_X3_44 rfl rfl (go_ok rfl rfl) dx_X3_list_7 ?_
  refine go_aload_n (i := 0) dx_X3_list_10 rfl rfl ?_
  refine go_iload_n (i := 1) dx_X3_list_11 rfl rfl ?_
  refine go_i2l dx_X3_list_12 (by omega) ?_
  refine go_putL fp_X3_47 rfl rfl (go_ok rfl rfl) dx_X3_list_13 ?_
  refine go_aload_n (i := 0) dx_X3_list_16 rfl rfl ?_
  refine go_aload_n (i := 0) dx_X3_list_17 rfl rfl ?_
  refine go_getA (b := 3) fs_X3_9 rfl (go_ok rfl rfl) rfl dx_X3_list_18 ?_
  refine go_getI fs_X3_51 (Or.inl rfl) (go_ok rfl rfl) dx_X3_list_21 ?_
  refine go_asI (y := (K.2.1 : Int)) (by simp only [wr]; exact hb.1.2.1) ?_
  refine go_iconst dx_X3_list_24 ?_
  refine go_asI (y := ((0 : Nat) : Int)) (by rfl) ?_
  refine go_aload_n (i := 0) dx_X3_list_25 rfl rfl ?_
  refine go_getA (b := 3) fs_X3_9 rfl (go_ok rfl rfl) rfl dx_X3_list_26 ?_
  refine go_getI fs_X3_56 (Or.inl rfl) (go_ok rfl rfl) dx_X3_list_29 ?_
  refine go_asI (y := (K.2.2.length : Int)) (by simp only [wr]; exact hb.1.2.2.2.1) ?_
  refine go_iconst dx_X3_list_32 ?_
  refine go_asI (y := ((0 : Nat) : Int)) (by rfl) ?_
  refine go_iconst dx_X3_list_33 ?_
  refine go_cV5 sv_X3_59 (go_ok rfl rfl) dx_X3_list_34 (Nat.le_of_ble_eq_true rfl) (Nat.le_of_ble_eq_true rfl) (g_Listing_putWaiting (s := []) (num := m) ⟨by simp [wr], trivial⟩ (Nat.zero_le _) (by simp [wr]) (fun δ1 h1' f1 => ?_))
  refine go_iconst dx_X3_list_37 ?_
  refine go_istore_n (i := 2) (lv' := [(0, vv_A 56), (1, vv_I (m : Int)), (2, vv_I 0)]) dx_X3_list_38 rfl (by decide) rfl ?_
  refine loop 0 (δ1, [], _) (Nat.zero_le _) ⟨rfl, Nat.zero_le _, hini, rfl, ⟨?_, fun k hk => absurd hk (Nat.not_lt_zero _)⟩, h1', fun c q a b => ?_, fun q a b => ?_⟩ _ rfl
  · show δ1 56 4 = _
    rw [f1 _ _ (by decide) (by decide) (fun _ => by decide)]; simp [wr]
  · show δ1 c q = _
    rw [f1 _ _ (by omega) (by omega) (by omega), wr_a _ _ _ _ (by omega), wr_a _ _ _ _ (by omega), wr_a _ _ _ _ (by omega)]
  · show δ1 56 q = _
    rw [f1 _ _ (by decide) (by decide) (by omega), wr_i _ _ _ _ (by omega), wr_i _ _ _ _ (by omega), wr_i _ _ _ _ (by omega)]
end GLISTE
