/-! the class's listing: rules, cuts, parts -/
theorem ck_last {R : Nat → List Nat} {pl : Nat → Nat → Prop} {ps : List Nat} {i j num : Nat} (hij : i ≤ j) (h : num < fit (Tn R pl) pl ps i j) {k : Nat} (hk : k + 1 = ps.length) : (ck R pl ps i j num ps.length).2.2 = (ck R pl ps i j num k).2.2 := by
  have hf := (ck_fin hij h).1
  rw [← hk] at hf ⊢
  have e1 : (ck R pl ps i j num (k + 1)).1 = cke R pl ps j k (ck R pl ps i j num k) := rfl
  rw [e1] at hf
  show (ck R pl ps i j num k).2.2 - su (cke R pl ps j k (ck R pl ps i j num k)) _ = _
  rw [hf, su_zero (fun e he => ?_), Nat.sub_zero]
  unfold ckf
  by_cases q : (ck R pl ps i j num k).1 < e
  · rw [nif_t q, List.drop_eq_nil_of_le (by omega), show fit (Tn R pl) pl [] e j = 0 from n01_f (by omega), Nat.mul_zero, Nat.mul_zero]
  · exact nif_f q
theorem dx_plw {w : List Nat} (hw : ∀ x ∈ w, 8 ≤ x ∧ x < 14) : ∀ i c, plw w i c → 8 ≤ c ∧ c < 14 := fun _ c h => hw c (List.mem_of_getElem? h)
section GLISTD
variable {E : go_E} {d : Nat} {δ : Nat → Nat → Int} {Q : List go_V → go_F → (Nat → Nat → Int) → Prop} {K : sK}
theorem g_Listing_treesByUnit {x i j S num y : Nat} {up : Int} (hb : lb_at δ K) (hc : lc_at δ x i j S up num) (hS : S < 256) (hy : y < 14) (hij : i < j) (hj : j ≤ K.2.2.length)
    (hQ : ∀ δ', (∀ c q, c ≠ 43 → δ' c q = δ c q) → Q [vv_L (st (if y < 8 then nif (¬ S.testBit y = true) (Tw K.1 (plw K.2.2) (S ||| 2 ^ y) y i j) else fit (Tn K.1 (plw K.2.2)) (plw K.2.2) [y] i j))] go_φ δ') :
    Go E (d + 11) (0, 0) mx_X3_treesByUnit go_φ 0 [(0, vv_A 56), (1, vv_I (y : Int))] [] δ Q := by
  obtain ⟨a1, a2, a3, a4, a5, a6⟩ := hc
  obtain ⟨b1, b2, b3, b4⟩ := hb
  have h14 := b1.2.2.2.2.2.2.2.2.1
  refine go_iload_n (i := 1) dx_X3_treesByUnit_0 rfl rfl ?_
  refine go_bipush dx_X3_treesByUnit_1 rfl ?_
  refine go_icmp_lt (tgt := 23) dx_X3_treesByUnit_3 rfl (by omega) (by omega) (fun c3 => ?_) (fun c3 => ?_)
  · refine go_aload_n (i := 0) dx_X3_treesByUnit_23 rfl rfl ?_
    refine go_getI fs_X3_106 (Or.inl rfl) (go_ok rfl rfl) dx_X3_treesByUnit_24 ?_
    refine go_asI (y := (S : Int)) (by exact a4) ?_
    refine go_iload_n (i := 1) dx_X3_treesByUnit_27 rfl rfl ?_
    refine go_iushr dx_X3_treesByUnit_28 ?_
    refine go_iconst dx_X3_treesByUnit_29 ?_
    refine go_iand dx_X3_treesByUnit_30 ?_
    refine go_asI (y := (b01 (S.testBit y = true))) (by exact bv_tstb (by omega) (by omega)) ?_
    refine go_b_eq (tgt := 38) dx_X3_treesByUnit_31 rfl (fun c31 => ?_) (fun c31 => ?_)
    · refine go_aload_n (i := 0) dx_X3_treesByUnit_38 rfl rfl ?_
      refine go_getA (b := 52) fs_X3_19 rfl (go_ok rfl rfl) rfl dx_X3_treesByUnit_39 ?_
      refine go_aload_n (i := 0) dx_X3_treesByUnit_42 rfl rfl ?_
      refine go_getI fs_X3_106 (Or.inl rfl) (go_ok rfl rfl) dx_X3_treesByUnit_43 ?_
      refine go_asI (y := (S : Int)) (by exact a4) ?_
      refine go_iload_n (i := 1) dx_X3_treesByUnit_46 rfl rfl ?_
      refine go_aload_n (i := 0) dx_X3_treesByUnit_47 rfl rfl ?_
      refine go_getI fs_X3_100 (Or.inl rfl) (go_ok rfl rfl) dx_X3_treesByUnit_48 ?_
      refine go_asI (y := (i : Int)) (by exact a2) ?_
      refine go_aload_n (i := 0) dx_X3_treesByUnit_51 rfl rfl ?_
      refine go_getI fs_X3_103 (Or.inl rfl) (go_ok rfl rfl) dx_X3_treesByUnit_52 ?_
      refine go_asI (y := (j : Int)) (by exact a3) ?_
      refine go_cV4 sv_X3_151 (go_ok rfl rfl) dx_X3_treesByUnit_55 (Nat.le_of_ble_eq_true rfl) (Nat.le_of_ble_eq_true rfl) (g_Forest_treesWithout tb_ok52 tf_ok52 b2 b3 b4 h14 (by omega) hS hij hj (fun δ1 f1 => ?_))
      refine go_lreturn dx_X3_treesByUnit_58 rfl (Nat.le_refl _) (Nat.le_refl _) ?_
      have e := hQ δ1 f1
      rw [if_pos (by omega), nif_t c31] at e
      exact e
    · refine go_lconst (x := 0) dx_X3_treesByUnit_34 rfl ?_
      refine go_goto (tgt := 58) dx_X3_treesByUnit_35 rfl ?_
      refine go_lreturn dx_X3_treesByUnit_58 rfl (Nat.le_refl _) (Nat.le_refl _) ?_
      have e := hQ δ (fun _ _ _ => rfl)
      rw [if_pos (by omega), nif_f (fun q => q c31), st_0] at e
      exact e
  · refine go_aload_n (i := 0) dx_X3_treesByUnit_6 rfl rfl ?_
    refine go_getA (b := 52) fs_X3_19 rfl (go_ok rfl rfl) rfl dx_X3_treesByUnit_7 ?_
    refine go_iload_n (i := 1) dx_X3_treesByUnit_10 rfl rfl ?_
    refine go_aload_n (i := 0) dx_X3_treesByUnit_11 rfl rfl ?_
    refine go_getI fs_X3_100 (Or.inl rfl) (go_ok rfl rfl) dx_X3_treesByUnit_12 ?_
    refine go_asI (y := (i : Int)) (by exact a2) ?_
    refine go_aload_n (i := 0) dx_X3_treesByUnit_15 rfl rfl ?_
    refine go_getI fs_X3_103 (Or.inl rfl) (go_ok rfl rfl) dx_X3_treesByUnit_16 ?_
    refine go_asI (y := (j : Int)) (by exact a3) ?_
    refine go_cV3 sv_X3_145 (go_ok rfl rfl) dx_X3_treesByUnit_19 (Nat.le_of_ble_eq_true rfl) (Nat.le_of_ble_eq_true rfl) (g_Forest_valueAll tb_ok52 tf_ok52 b3 b4 h14 (by omega) (by omega) hij hj ?_)
    refine go_lreturn dx_X3_treesByUnit_22 rfl (Nat.le_refl _) (Nat.le_refl _) ?_
    have e := hQ δ (fun _ _ _ => rfl)
    rw [if_neg (by omega)] at e
    unfold Vn
    rw [sm_lo hy]
    exact e
theorem g_Listing_treesByPair {x i j S num r : Nat} {up : Int} (hb : lb_at δ K) (hc : lc_at δ x i j S up num) (hr : r < 16) (hl : 3 ≤ (K.1 r).length) (hij : i < j) (hj : j ≤ K.2.2.length)
    (hQ : Q [vv_L (st (fit (Tn K.1 (plw K.2.2)) (plw K.2.2) ((K.1 r).drop 1) i j))] go_φ δ) :
    Go E (d + 2) (0, 0) mx_X3_treesByPair go_φ 0 [(0, vv_A 56), (1, vv_I ((gp K.1 r).length : Int))] [] δ Q := by
  obtain ⟨c1, c2, c3, c4, c5, c6⟩ := hc
  obtain ⟨b1, b2, b3, b4⟩ := hb
  have hR := b2.2.2.2.2.2.2
  have h14 := b1.2.2.2.2.2.2.2.2.1
  have hg := gP_get (R := K.1) (k := 0) hr (by omega)
  rw [Nat.add_zero] at hg
  obtain ⟨hp, he⟩ := List.getElem?_eq_some_iff.mp hg
  have hem := List.mem_of_getElem? hg
  obtain ⟨e, hee⟩ : ∃ e, pr_e (gh K.1 r).length r (K.1 r) 0 = e := ⟨_, rfl⟩
  have hps : pcs K.1 (plw K.2.2) e i j = fit (Tn K.1 (plw K.2.2)) (plw K.2.2) ((K.1 r).drop 1) i j := by rw [← hee]; exact pcs_eq hR hr (by omega)
  rw [hee] at he hem
  have hcode := b2.1.2.1 _ hp
  rw [he] at hcode
  have hpe := pe_ok_of hR hem
  have hlt := pr_lt hR hem
  have hpl := gP_le hR
  have h62 := pe_lt62 hR hem
  rw [← hps] at hQ
  have loop := lp_up (X := Unit) (hi := j) (I := fun k _ => i < k)
    (G := fun k _ => ∀ lv0, lv0 = [(0, vv_A 56), (1, vv_I ((gp K.1 r).length : Int)), (2, vv_I (pe e : Int)), (3, vv_L (st (su k (fun k => nif (i < k) (Vn K.1 (plw K.2.2) e.2.1 i k * Vn K.1 (plw K.2.2) e.2.2.1 k j))))), (5, vv_I (k : Int))] → Go E (d + 2) (0, 0) mx_X3_treesByPair go_φ 22 lv0 [] δ Q)
    (fun k _ hk hik ih lv0 e0 => by
      subst e0
      refine go_iload dx_X3_treesByPair_22 rfl ?_
      refine go_aload_n (i := 0) dx_X3_treesByPair_24 rfl rfl ?_
      refine go_getI fs_X3_103 (Or.inl rfl) (go_ok rfl rfl) dx_X3_treesByPair_25 ?_
      refine go_asI (y := (j : Int)) (by exact c3) ?_
      refine go_icmp_ge (tgt := 83) dx_X3_treesByPair_28 rfl (by omega) (by omega) (fun c28 => by exact absurd c28 (by omega)) (fun c28 => ?_)
      refine go_aload_n (i := 0) dx_X3_treesByPair_31 rfl rfl ?_
      refine go_getA (b := 52) fs_X3_19 rfl (go_ok rfl rfl) rfl dx_X3_treesByPair_32 ?_
      refine go_iload_n (i := 2) dx_X3_treesByPair_35 rfl rfl ?_
      refine go_cS1 ss_X3_158 dx_X3_treesByPair_36 (Nat.le_of_ble_eq_true rfl) (Nat.le_of_ble_eq_true rfl) (g_leftOf hpe ?_)
      refine go_aload_n (i := 0) dx_X3_treesByPair_39 rfl rfl ?_
      refine go_getI fs_X3_100 (Or.inl rfl) (go_ok rfl rfl) dx_X3_treesByPair_40 ?_
      refine go_asI (y := (i : Int)) (by exact c2) ?_
      refine go_iload dx_X3_treesByPair_43 rfl ?_
      refine go_cV3 sv_X3_145 (go_ok rfl rfl) dx_X3_treesByPair_45 (Nat.le_of_ble_eq_true rfl) (Nat.le_of_ble_eq_true rfl) (g_Forest_valueAll tb_ok52 tf_ok52 b3 b4 h14 (by omega) (by omega) hik (by omega) ?_)
      refine go_aload_n (i := 0) dx_X3_treesByPair_48 rfl rfl ?_
      refine go_getA (b := 52) fs_X3_19 rfl (go_ok rfl rfl) rfl dx_X3_treesByPair_49 ?_
      refine go_iload_n (i := 2) dx_X3_treesByPair_52 rfl rfl ?_
      refine go_cS1 ss_X3_161 dx_X3_treesByPair_53 (Nat.le_of_ble_eq_true rfl) (Nat.le_of_ble_eq_true rfl) (g_rightOf hpe ?_)
      refine go_iload dx_X3_treesByPair_56 rfl ?_
      refine go_aload_n (i := 0) dx_X3_treesByPair_58 rfl rfl ?_
      refine go_getI fs_X3_103 (Or.inl rfl) (go_ok rfl rfl) dx_X3_treesByPair_59 ?_
      refine go_asI (y := (j : Int)) (by exact c3) ?_
      refine go_cV3 sv_X3_145 (go_ok rfl rfl) dx_X3_treesByPair_62 (Nat.le_of_ble_eq_true rfl) (Nat.le_of_ble_eq_true rfl) (g_Forest_valueAll tb_ok52 tf_ok52 b3 b4 h14 (by omega) (by omega) hk hj ?_)
      refine go_cS2 ss_X3_164 dx_X3_treesByPair_65 (Nat.le_of_ble_eq_true rfl) (Nat.le_of_ble_eq_true rfl) (g_Forest_times (st_iL _) (st_iL _) ?_)
      refine go_asL (y := (st (Vn K.1 (plw K.2.2) e.2.1 i k * Vn K.1 (plw K.2.2) e.2.2.1 k j))) (by exact fo_mul_st _ _) ?_
      refine go_lstore (lv' := [(0, vv_A 56), (1, vv_I ((gp K.1 r).length : Int)), (2, vv_I (pe e : Int)), (3, vv_L (st (su k (fun k => nif (i < k) (Vn K.1 (plw K.2.2) e.2.1 i k * Vn K.1 (plw K.2.2) e.2.2.1 k j))))), (5, vv_I (k : Int)), (6, vv_L (st (Vn K.1 (plw K.2.2) e.2.1 i k * Vn K.1 (plw K.2.2) e.2.2.1 k j)))]) dx_X3_treesByPair_68 (by decide) rfl ?_
      refine go_lload_n (i := 3) dx_X3_treesByPair_70 rfl rfl ?_
      refine go_lload dx_X3_treesByPair_71 rfl ?_
      refine go_cS2 ss_X3_168 dx_X3_treesByPair_73 (Nat.le_of_ble_eq_true rfl) (Nat.le_of_ble_eq_true rfl) (g_Forest_plus (st_iL _) (st_iL _) ?_)
      refine go_asL (y := (st (su (k + 1) (fun k => nif (i < k) (Vn K.1 (plw K.2.2) e.2.1 i k * Vn K.1 (plw K.2.2) e.2.2.1 k j))))) (by rw [fo_add_st, su_s, nif_t hik]) ?_
      refine go_lstore_n (i := 3) (lv' := [(0, vv_A 56), (1, vv_I ((gp K.1 r).length : Int)), (2, vv_I (pe e : Int)), (3, vv_L (st (su (k + 1) (fun k => nif (i < k) (Vn K.1 (plw K.2.2) e.2.1 i k * Vn K.1 (plw K.2.2) e.2.2.1 k j))))), (5, vv_I (k : Int)), (6, vv_L (st (Vn K.1 (plw K.2.2) e.2.1 i k * Vn K.1 (plw K.2.2) e.2.2.1 k j)))]) dx_X3_treesByPair_76 rfl (by decide) rfl ?_
      refine go_iinc (lv' := [(0, vv_A 56), (1, vv_I ((gp K.1 r).length : Int)), (2, vv_I (pe e : Int)), (3, vv_L (st (su (k + 1) (fun k => nif (i < k) (Vn K.1 (plw K.2.2) e.2.1 i k * Vn K.1 (plw K.2.2) e.2.2.1 k j))))), (5, vv_I ((k : Int) + 1)), (6, vv_L (st (Vn K.1 (plw K.2.2) e.2.1 i k * Vn K.1 (plw K.2.2) e.2.2.1 k j)))]) dx_X3_treesByPair_77 rfl (by decide) rfl ?_
      refine go_goto (tgt := 22) dx_X3_treesByPair_80 rfl ?_
      refine go_keep [0, 1, 2, 3, 4] rfl ?_
      exact ih () (by omega) _ rfl
    ) (fun _ _ lv0 e0 => by
      subst e0
      refine go_iload dx_X3_treesByPair_22 rfl ?_
      refine go_aload_n (i := 0) dx_X3_treesByPair_24 rfl rfl ?_
      refine go_getI fs_X3_103 (Or.inl rfl) (go_ok rfl rfl) dx_X3_treesByPair_25 ?_
      refine go_asI (y := (j : Int)) (by exact c3) ?_
      refine go_icmp_ge (tgt := 83) dx_X3_treesByPair_28 rfl (by omega) (by omega) (fun c28 => ?_) (fun c28 => by exact absurd c28 (by omega))
      refine go_lload_n (i := 3) dx_X3_treesByPair_83 rfl rfl ?_
      refine go_lreturn dx_X3_treesByPair_84 rfl (Nat.le_refl _) (Nat.le_refl _) ?_
      exact hQ
    )
  refine go_aload_n (i := 0) dx_X3_treesByPair_0 rfl rfl ?_
  refine go_getA (b := 33) fs_X3_15 rfl (go_ok rfl rfl) rfl dx_X3_treesByPair_1 ?_
  refine go_getA (b := 34) fs_X3_155 rfl (go_ok rfl rfl) rfl dx_X3_treesByPair_4 ?_
  refine go_iload_n (i := 1) dx_X3_treesByPair_7 rfl rfl ?_
  refine go_cS2 ss_X3_85 dx_X3_treesByPair_8 (Nat.le_of_ble_eq_true rfl) (Nat.le_of_ble_eq_true rfl) (g_intAtV (i := ((gp K.1 r).length)) (v := ((pe e : Int))) (go_ok rfl rfl) (by omega) (show ((gp K.1 r).length) < 64 by omega) (by exact hcode) ?_)
  refine go_istore_n (i := 2) (lv' := [(0, vv_A 56), (1, vv_I ((gp K.1 r).length : Int)), (2, vv_I ((pe e : Int)))]) dx_X3_treesByPair_11 rfl (by decide) rfl ?_
  refine go_lconst (x := 0) dx_X3_treesByPair_12 rfl ?_
  refine go_lstore_n (i := 3) (lv' := [(0, vv_A 56), (1, vv_I ((gp K.1 r).length : Int)), (2, vv_I ((pe e : Int))), (3, vv_L 0)]) dx_X3_treesByPair_13 rfl (by decide) rfl ?_
  refine go_aload_n (i := 0) dx_X3_treesByPair_14 rfl rfl ?_
  refine go_getI fs_X3_100 (Or.inl rfl) (go_ok rfl rfl) dx_X3_treesByPair_15 ?_
  refine go_asI (y := (i : Int)) (by exact c2) ?_
  refine go_iconst dx_X3_treesByPair_18 ?_
  refine go_iadd dx_X3_treesByPair_19 ?_
  refine go_istore (lv' := [(0, vv_A 56), (1, vv_I ((gp K.1 r).length : Int)), (2, vv_I ((pe e : Int))), (3, vv_L 0), (5, vv_I ((i + 1 : Nat) : Int))]) dx_X3_treesByPair_20 (by decide) rfl ?_
  refine loop (i + 1) () (by omega) (Nat.lt_succ_self _) _ ?_
  rw [su_zero (n := i + 1) (fun k hk => nif_f (by omega)), st_0]
theorem g_Listing_chooseRule {it : tI} {nd : Nat} (hb : lb_at δ K) (hd : dstn K.1) (hit : it_ok K.1 (plw K.2.2) K.2.2.length nd it) (hc : lc_at δ it.1 it.2.1 it.2.2.1 (it.2.2.2.1 ||| 2 ^ it.1) it.2.2.2.2.1 it.2.2.2.2.2)
    (hQ : ∀ δ', lc_at δ' it.1 it.2.1 it.2.2.1 (it.2.2.2.1 ||| 2 ^ it.1) it.2.2.2.2.1 (lnm K.1 (plw K.2.2) it) → (∀ c q, c ≠ 43 → (c = 56 → q ≠ 13) → δ' c q = δ c q) → Q [vv_I (lrl K.1 (plw K.2.2) it : Int)] go_φ δ') :
    Go E (d + 12) (0, 0) mx_X3_chooseRule go_φ 0 [(0, vv_A 56)] [] δ Q := by
  have hR := hb.2.1.2.2.2.2.2.2
  obtain ⟨t1, t2, t3, t4, t5, t6, t7, t8, t9⟩ := id hit
  have hM := MX_eq
  have hS8 : it.2.2.2.1 ||| 2 ^ it.1 < 256 := Nat.or_lt_two_pow (n := 8) t4 (Nat.pow_lt_pow_right (by decide) t1)
  have hS : (it.2.2.2.1 ||| 2 ^ it.1).testBit it.1 = true := (bt_orb _ _ _).mpr (Or.inr ((bt_one _ _).mpr rfl))
  rw [Tw_wrr hR hd t1 hS] at t6
  obtain ⟨x, hx⟩ : ∃ x, it.1 = x := ⟨_, rfl⟩
  obtain ⟨i, hi⟩ : ∃ x, it.2.1 = x := ⟨_, rfl⟩
  obtain ⟨j, hj⟩ : ∃ x, it.2.2.1 = x := ⟨_, rfl⟩
  obtain ⟨num, hnum⟩ : ∃ x, it.2.2.2.2.2 = x := ⟨_, rfl⟩
  obtain ⟨up, hup⟩ : ∃ x, it.2.2.2.2.1 = x := ⟨_, rfl⟩
  obtain ⟨S, hSS⟩ : ∃ x, it.2.2.2.1 ||| 2 ^ it.1 = x := ⟨_, rfl⟩
  obtain ⟨f, hf⟩ : ∃ f : Nat → Nat, (fun r => wrr K.1 (plw K.2.2) S x i j (K.1 r)) = f := ⟨_, rfl⟩
  have hff : ∀ r, f r = wrr K.1 (plw K.2.2) S x i j (K.1 r) := fun r => by rw [← hf]
  have hlr : lrl K.1 (plw K.2.2) it = pickr f num := by unfold lrl; rw [hSS, hx, hi, hj, hnum, hf]
  have hln : lnm K.1 (plw K.2.2) it = num - su (pickr f num) f := by unfold lnm; rw [hlr, hSS, hx, hi, hj, hnum, hf]
  rw [hlr, hln] at hQ
  rw [hSS, hx, hi, hj, hnum, hup] at hc
  rw [hSS, hx, hi, hj, hup] at hQ
  rw [hSS, hx, hi, hj, hnum, hf] at t6
  rw [hSS] at hS8
  rw [hx] at t1
  rw [hi, hj] at t2
  rw [hj] at t3
  rw [hnum] at t7
  have loop := lp_up (X := Nat → Nat → Int) (hi := 16) (I := fun r δ1 => su r f ≤ num ∧ lc_at δ1 x i j S up (num - su r f) ∧ (∀ c q, c ≠ 43 → (c = 56 → q ≠ 13) → δ1 c q = δ c q))
    (G := fun r δ1 => ∀ lv0, lv0 = [(0, vv_A 56), (1, vv_I (r : Int))] → Go E (d + 12) (0, 0) mx_X3_chooseRule go_φ 2 lv0 [] δ1 Q)
    (fun r δ1 hr hI ih lv0 e0 => by
      subst e0
      obtain ⟨i1, i2, i3⟩ := hI
      have hb1 : lb_at δ1 K := lb_fr hb (fun c q a b => i3 c q b (by omega))
      have skip : f r = 0 → Go E (d + 12) (0, 0) mx_X3_chooseRule go_φ 2 [(0, vv_A 56), (1, vv_I ((r + 1 : Nat) : Int))] [] δ1 Q := fun h0 => ih δ1 ⟨by rw [su_s, h0]; omega, by rw [su_s, h0, Nat.add_zero]; exact i2, i3⟩ _ rfl
      have hrl := rl_enc_lt (hR r)
      -- behind the count
      have tail : K.1 r ≠ [] → ∀ δ2 : Nat → Nat → Int, (∀ c q, c ≠ 43 → δ2 c q = δ1 c q) → Go E (d + 12) (0, 0) mx_X3_chooseRule go_φ 70 [(0, vv_A 56), (1, vv_I (r : Int)), (2, vv_I (rl_enc (K.1 r) : Int))] [vv_L (st (f r))] δ2 Q := fun hne δ2 f2 => by
        have hc2 : lc_at δ2 x i j S up (num - su r f) := lc_fr i2 (fun q _ _ => f2 _ _ (by decide))
        refine go_lstore_n (i := 3) (lv' := [(0, vv_A 56), (1, vv_I (r : Int)), (2, vv_I (rl_enc (K.1 r) : Int)), (3, vv_L (st (f r)))]) dx_X3_chooseRule_70 rfl (by decide) rfl ?_
        refine go_aload_n (i := 0) dx_X3_chooseRule_71 rfl rfl ?_
        refine go_lload_n (i := 3) dx_X3_chooseRule_72 rfl rfl ?_
        refine go_cV1 sv_X3_141 (go_ok rfl rfl) dx_X3_chooseRule_73 (Nat.le_of_ble_eq_true rfl) (Nat.le_of_ble_eq_true rfl) (g_Listing_isHere hc2.2.2.2.2.2 (by omega) ?_)
        refine go_b_eq (tgt := 81) dx_X3_chooseRule_76 rfl (fun c76 => ?_) (fun c76 => ?_)
        · refine go_aload_n (i := 0) dx_X3_chooseRule_81 rfl rfl ?_
          refine go_dup dx_X3_chooseRule_82 rfl ?_
          refine go_getL fs_X3_47 rfl (go_ok rfl rfl) dx_X3_chooseRule_83 ?_
          refine go_asL (y := ((num - su r f : Nat) : Int)) (by exact hc2.2.2.2.2.2) ?_
          refine go_lload_n (i := 3) dx_X3_chooseRule_86 rfl rfl ?_
          refine go_lsub dx_X3_chooseRule_87 ?_
          refine go_asL (y := ((num - su (r + 1) f : Nat) : Int)) (by rw [st_le (by omega), su_s]; omega) ?_
          refine go_putL fp_X3_47 rfl rfl (go_ok rfl rfl) dx_X3_chooseRule_88 ?_
          refine go_iinc (lv' := [(0, vv_A 56), (1, vv_I ((r : Int) + 1)), (2, vv_I (rl_enc (K.1 r) : Int)), (3, vv_L (st (f r)))]) dx_X3_chooseRule_91 rfl (by decide) rfl ?_
          refine go_goto (tgt := 2) dx_X3_chooseRule_94 rfl ?_
          refine go_keep [0, 1] rfl ?_
          refine ih _ ⟨by rw [su_s]; omega, ?_, fun c q a b => by rw [wr_n b, f2 c q a]; exact i3 c q a b⟩ _ rfl
          obtain ⟨g1, g2, g3, g4, g5, g6⟩ := hc2
          exact ⟨by simp only [wr]; exact g1, by simp only [wr]; exact g2, by simp only [wr]; exact g3, by simp only [wr]; exact g4, by simp only [wr]; exact g5, wr_eq _ _ _ _⟩
        · refine go_iload_n (i := 1) dx_X3_chooseRule_79 rfl rfl ?_
          refine go_ireturn dx_X3_chooseRule_80 rfl (Nat.le_refl _) (Nat.le_refl _) ?_
          have e : pickr f num = r := pickr_eq i1 (by rw [su_s]; omega)
          rw [e] at hQ
          exact hQ δ2 hc2 (fun c q a b => (f2 c q a).trans (i3 c q a b))
      refine go_iload_n (i := 1) dx_X3_chooseRule_2 rfl rfl ?_
      refine go_bipush dx_X3_chooseRule_3 rfl ?_
      refine go_icmp_ge (tgt := 97) dx_X3_chooseRule_5 rfl (by omega) (by omega) (fun c5 => by exact absurd c5 (by omega)) (fun c5 => ?_)
      refine go_aload_n (i := 0) dx_X3_chooseRule_8 rfl rfl ?_
      refine go_getA (b := 3) fs_X3_9 rfl (go_ok rfl rfl) rfl dx_X3_chooseRule_9 ?_
      refine go_iload_n (i := 1) dx_X3_chooseRule_12 rfl rfl ?_
      refine go_cV1 sv_X3_78 (go_ok rfl rfl) dx_X3_chooseRule_13 (Nat.le_of_ble_eq_true rfl) (Nat.le_of_ble_eq_true rfl) (g_Told_ruleAtN td_ok3 hb1.1 hr ?_)
      refine go_istore_n (i := 2) (lv' := [(0, vv_A 56), (1, vv_I (r : Int)), (2, vv_I (rl_enc (K.1 r) : Int))]) dx_X3_chooseRule_16 rfl (by decide) rfl ?_
      refine go_iload_n (i := 2) dx_X3_chooseRule_17 rfl rfl ?_
      refine go_if_eq (tgt := 91) dx_X3_chooseRule_18 rfl (by omega) (fun c18 => ?_) (fun c18 => ?_)
      · refine go_keep [0, 1] rfl ?_
        refine go_iinc (lv' := [(0, vv_A 56), (1, vv_I ((r : Int) + 1))]) dx_X3_chooseRule_91 rfl (by decide) rfl ?_
        refine go_goto (tgt := 2) dx_X3_chooseRule_94 rfl ?_
        exact skip (by rw [hff, (rl_enc_eq0 hb.1.2.2.2.2 r).mp c18]; exact nif_f (fun q => absurd q.2 (by decide)))
      · have hne : K.1 r ≠ [] := fun q => c18 ((rl_enc_eq0 hb.1.2.2.2.2 r).mpr q)
        have hh8 := (rl_cons (hR r) (List.length_pos_iff.mpr hne)).2
        have hl2 : 2 ≤ (K.1 r).length := by
          rcases hR r with q | q
          · exact absurd q hne
          · exact q.1
        have hl6 := (hR r).len
        have h1d := rl_getD_lt (hR r) (k := 1) (by omega)
        refine go_iload_n (i := 2) dx_X3_chooseRule_21 rfl rfl ?_
        refine go_cS1 ss_X3_120 dx_X3_chooseRule_22 (Nat.le_of_ble_eq_true rfl) (Nat.le_of_ble_eq_true rfl) (g_headOf (hR r) ?_)
        refine go_aload_n (i := 0) dx_X3_chooseRule_25 rfl rfl ?_
        refine go_getI fs_X3_97 (Or.inl rfl) (go_ok rfl rfl) dx_X3_chooseRule_26 ?_
        refine go_asI (y := (x : Int)) (by exact i2.1) ?_
        refine go_icmp_eq (tgt := 35) dx_X3_chooseRule_29 rfl (by omega) (by omega) (fun c29 => ?_) (fun c29 => ?_)
        · have hhd : (K.1 r).getD 0 0 = x := by omega
          have hw : f r = (if (K.1 r).length = 2 ∧ (K.1 r).getD 1 0 < 8 then nif (¬ S.testBit ((K.1 r).getD 1 0) = true) (Tw K.1 (plw K.2.2) (S ||| 2 ^ (K.1 r).getD 1 0) ((K.1 r).getD 1 0) i j) else fit (Tn K.1 (plw K.2.2)) (plw K.2.2) ((K.1 r).drop 1) i j) := by rw [hff]; exact nif_t ⟨hhd, hl2⟩
          refine go_iload_n (i := 2) dx_X3_chooseRule_35 rfl rfl ?_
          refine go_cS1 ss_X3_123 dx_X3_chooseRule_36 (Nat.le_of_ble_eq_true rfl) (Nat.le_of_ble_eq_true rfl) (g_sizeOf (hR r) ?_)
          refine go_iconst dx_X3_chooseRule_39 ?_
          refine go_icmp_ne (tgt := 55) dx_X3_chooseRule_40 rfl (by omega) (by omega) (fun c40 => ?_) (fun c40 => ?_)
          · refine go_aload_n (i := 0) dx_X3_chooseRule_55 rfl rfl ?_
            refine go_aload_n (i := 0) dx_X3_chooseRule_56 rfl rfl ?_
            refine go_getA (b := 33) fs_X3_15 rfl (go_ok rfl rfl) rfl dx_X3_chooseRule_57 ?_
            refine go_getA (b := 35) fs_X3_133 rfl (go_ok rfl rfl) rfl dx_X3_chooseRule_60 ?_
            refine go_iload_n (i := 1) dx_X3_chooseRule_63 rfl rfl ?_
            refine go_cS2 ss_X3_85 dx_X3_chooseRule_64 (Nat.le_of_ble_eq_true rfl) (Nat.le_of_ble_eq_true rfl) (g_intAtV (i := r) (v := (((gp K.1 r).length : Int))) (go_ok rfl rfl) (by omega) (show r < 16 by omega) (by exact hb1.2.1.2.1 r hr (by omega)) ?_)
            refine go_cV1 sv_X3_138 (go_ok rfl rfl) dx_X3_chooseRule_67 (Nat.le_of_ble_eq_true rfl) (Nat.le_of_ble_eq_true rfl) (g_Listing_treesByPair hb1 i2 hr (by omega) t2 t3 ?_)
            rw [if_neg (fun w => by omega)] at hw
            rw [← hw]
            exact tail hne δ1 (fun _ _ _ => rfl)
          · refine go_aload_n (i := 0) dx_X3_chooseRule_43 rfl rfl ?_
            refine go_iload_n (i := 2) dx_X3_chooseRule_44 rfl rfl ?_
            refine go_iconst dx_X3_chooseRule_45 ?_
            refine go_asI (y := ((0 : Nat) : Int)) (by rfl) ?_
            refine go_cS2 ss_X3_126 dx_X3_chooseRule_46 (Nat.le_of_ble_eq_true rfl) (Nat.le_of_ble_eq_true rfl) (g_partOf (hR r) (by omega) ?_)
            refine go_asI (y := (((K.1 r).getD 1 0 : Nat) : Int)) (by rfl) ?_
            refine go_cV1 sv_X3_129 (go_ok rfl rfl) dx_X3_chooseRule_49 (Nat.le_of_ble_eq_true rfl) (Nat.le_of_ble_eq_true rfl) (g_Listing_treesByUnit hb1 i2 hS8 h1d t2 t3 (fun δ2 f2 => ?_))
            refine go_goto (tgt := 70) dx_X3_chooseRule_52 rfl ?_
            have e2 : (K.1 r).length = 2 := by omega
            have e3 : (if (K.1 r).getD 1 0 < 8 then nif (¬ S.testBit ((K.1 r).getD 1 0) = true) (Tw K.1 (plw K.2.2) (S ||| 2 ^ (K.1 r).getD 1 0) ((K.1 r).getD 1 0) i j) else fit (Tn K.1 (plw K.2.2)) (plw K.2.2) [(K.1 r).getD 1 0] i j) = f r := by
              rw [hw]
              by_cases p8 : (K.1 r).getD 1 0 < 8
              · rw [if_pos p8, if_pos ⟨e2, p8⟩]
              · rw [if_neg p8, if_neg (fun w => p8 w.2), li_drop1 (l := K.1 r) (k := 1) (by omega), List.drop_eq_nil_of_le (as := K.1 r) (by omega)]
            rw [e3]
            exact tail hne δ2 f2
        · refine go_goto (tgt := 91) dx_X3_chooseRule_32 rfl ?_
          refine go_keep [0, 1] rfl ?_
          refine go_iinc (lv' := [(0, vv_A 56), (1, vv_I ((r : Int) + 1))]) dx_X3_chooseRule_91 rfl (by decide) rfl ?_
          refine go_goto (tgt := 2) dx_X3_chooseRule_94 rfl ?_
          exact skip (by rw [hff]; exact nif_f (fun q => c29 (by rw [q.1])))
    ) (fun δ1 hI => absurd hI.1 (by omega))
  refine go_iconst dx_X3_chooseRule_0 ?_
  refine go_istore_n (i := 1) (lv' := [(0, vv_A 56), (1, vv_I 0)]) dx_X3_chooseRule_1 rfl (by decide) rfl ?_
  exact loop 0 δ (Nat.zero_le _) ⟨Nat.zero_le _, hc, fun _ _ _ _ => rfl⟩ _ rfl
/-- a part, and what a cut has: the pair of a rule at a place -/
theorem lp_pair {R : Nat → List Nat} {pl : Nat → Nat → Prop} (hR : ∀ r, rl_ok (R r)) {r k : Nat} (hr : r < 16) (hk : k + 2 < (R r).length) :
    ∃ e, (gP R)[(gp R r).length + k]? = some e ∧ e.2.1 = (R r).getD (k + 1) 0 ∧ (∀ a b, a < b → Vn R pl e.2.1 a b = pw (Tn R pl) pl (((R r).drop 1).getD k 0) a b) ∧ (∀ a b, Vn R pl e.2.2.1 a b = fit (Tn R pl) pl (((R r).drop 1).drop (k + 1)) a b) := by
  refine ⟨_, gP_get hr hk, rfl, fun a b hab => ?_, fun a b => ?_⟩
  · show Vn R pl ((R r).getD (k + 1) 0) a b = _
    rw [Vn_lo (rl_getD_lt (hR r) (by omega)) hab]
    simp only [List.getD_eq_getElem?_getD, List.getElem?_drop, Nat.add_comm 1 k]
  · show Vn R pl (pr_b (gh R r).length k (R r)) a b = _
    unfold Vn
    rw [pr_sm_b hR hr hk, List.drop_drop]
    congr 2
    omega
theorem g_Listing_chooseCut {x i j S r k at0 ah nu : Nat} {up : Int} {e : tP} (hb : lb_at δ K) (hr : r < 16) (hk : k + 2 < (K.1 r).length) (he : (gP K.1)[(gp K.1 r).length + k]? = some e) (hc : lc_at δ x i j S up nu) (hnu : nu ≤ 2147483647) (hat : at0 < j) (hj : j ≤ K.2.2.length)
    (hv1 : ∀ a b, a < b → Vn K.1 (plw K.2.2) e.2.1 a b = pw (Tn K.1 (plw K.2.2)) (plw K.2.2) (((K.1 r).drop 1).getD k 0) a b) (hv2 : ∀ a b, Vn K.1 (plw K.2.2) e.2.2.1 a b = fit (Tn K.1 (plw K.2.2)) (plw K.2.2) (((K.1 r).drop 1).drop (k + 1)) a b)
    (hlt : nu < su j (ckf K.1 (plw K.2.2) ((K.1 r).drop 1) j at0 ah k))
    (hQ : ∀ δ', lc_at δ' x i j S up (nu - su (pickr (ckf K.1 (plw K.2.2) ((K.1 r).drop 1) j at0 ah k) nu) (ckf K.1 (plw K.2.2) ((K.1 r).drop 1) j at0 ah k)) → (∀ c q, (c = 56 → q ≠ 13) → δ' c q = δ c q) → Q [vv_I (pickr (ckf K.1 (plw K.2.2) ((K.1 r).drop 1) j at0 ah k) nu : Int)] go_φ δ') :
    Go E (d + 2) (0, 0) mx_X3_chooseCut go_φ 0 [(0, vv_A 56), (1, vv_I (pe e : Int)), (2, vv_I (at0 : Int)), (3, vv_L (st ah))] [] δ Q := by
  have hR := hb.2.1.2.2.2.2.2.2
  have h14 := hb.1.2.2.2.2.2.2.2.2.1
  have hem := List.mem_of_getElem? he
  have hpe := pe_ok_of hR hem
  have hle := pr_lt hR hem
  have h62 := pe_lt62 hR hem
  have hM := MX_eq
  obtain ⟨f, hf⟩ : ∃ f : Nat → Nat, ckf K.1 (plw K.2.2) ((K.1 r).drop 1) j at0 ah k = f := ⟨_, rfl⟩
  have hff : ∀ e', at0 < e' → f e' = ah * Vn K.1 (plw K.2.2) e.2.1 at0 e' * Vn K.1 (plw K.2.2) e.2.2.1 e' j := fun e' h => by
    rw [← hf]
    unfold ckf
    rw [nif_t h, hv1 _ _ h, hv2, Nat.mul_assoc]
  have hf0 : su (at0 + 1) f = 0 := su_zero (fun e' h => by rw [← hf]; exact nif_f (by omega))
  rw [hf] at hlt hQ
  have loop := lp_up (X := Nat → Nat → Int) (hi := j) (I := fun e' δ1 => at0 < e' ∧ su e' f ≤ nu ∧ lc_at δ1 x i j S up (nu - su e' f) ∧ (∀ c q, (c = 56 → q ≠ 13) → δ1 c q = δ c q))
    (G := fun e' δ1 => ∀ lv0, lv0 = [(0, vv_A 56), (1, vv_I (pe e : Int)), (2, vv_I (at0 : Int)), (3, vv_L (st ah)), (5, vv_I (e' : Int))] → Go E (d + 2) (0, 0) mx_X3_chooseCut go_φ 5 lv0 [] δ1 Q)
    (fun e' δ1 he' hI ih lv0 e0 => by
      subst e0
      obtain ⟨i0, i1, i2, i3⟩ := hI
      have hb1 : lb_at δ1 K := lb_fr hb (fun c q a b => i3 c q (by omega))
      have hfe := hff e' i0
      refine go_iload dx_X3_chooseCut_5 rfl ?_
      refine go_aload_n (i := 0) dx_X3_chooseCut_7 rfl rfl ?_
      refine go_getI fs_X3_103 (Or.inl rfl) (go_ok rfl rfl) dx_X3_chooseCut_8 ?_
      refine go_asI (y := (j : Int)) (by exact i2.2.2.1) ?_
      refine go_icmp_ge (tgt := 87) dx_X3_chooseCut_11 rfl (by omega) (by omega) (fun c11 => by exact absurd c11 (by omega)) (fun c11 => ?_)
      refine go_lload_n (i := 3) dx_X3_chooseCut_14 rfl rfl ?_
      refine go_aload_n (i := 0) dx_X3_chooseCut_15 rfl rfl ?_
      refine go_getA (b := 52) fs_X3_19 rfl (go_ok rfl rfl) rfl dx_X3_chooseCut_16 ?_
      refine go_iload_n (i := 1) dx_X3_chooseCut_19 rfl rfl ?_
      refine go_cS1 ss_X3_158 dx_X3_chooseCut_20 (Nat.le_of_ble_eq_true rfl) (Nat.le_of_ble_eq_true rfl) (g_leftOf hpe ?_)
      refine go_iload_n (i := 2) dx_X3_chooseCut_23 rfl rfl ?_
      refine go_iload dx_X3_chooseCut_24 rfl ?_
      refine go_cV3 sv_X3_145 (go_ok rfl rfl) dx_X3_chooseCut_26 (Nat.le_of_ble_eq_true rfl) (Nat.le_of_ble_eq_true rfl) (g_Forest_valueAll tb_ok52 tf_ok52 hb1.2.2.1 hb1.2.2.2 h14 (by omega) (by omega) i0 (by omega) ?_)
      refine go_cS2 ss_X3_164 dx_X3_chooseCut_29 (Nat.le_of_ble_eq_true rfl) (Nat.le_of_ble_eq_true rfl) (g_Forest_times (st_iL _) (st_iL _) ?_)
      refine go_asL (y := (st (ah * Vn K.1 (plw K.2.2) e.2.1 at0 e'))) (by exact fo_mul_st _ _) ?_
      refine go_lstore (lv' := [(0, vv_A 56), (1, vv_I (pe e : Int)), (2, vv_I (at0 : Int)), (3, vv_L (st ah)), (5, vv_I (e' : Int)), (6, vv_L (st (ah * Vn K.1 (plw K.2.2) e.2.1 at0 e')))]) dx_X3_chooseCut_32 (by decide) rfl ?_
      refine go_lload dx_X3_chooseCut_34 rfl ?_
      refine go_aload_n (i := 0) dx_X3_chooseCut_36 rfl rfl ?_
      refine go_getA (b := 52) fs_X3_19 rfl (go_ok rfl rfl) rfl dx_X3_chooseCut_37 ?_
      refine go_iload_n (i := 1) dx_X3_chooseCut_40 rfl rfl ?_
      refine go_cS1 ss_X3_161 dx_X3_chooseCut_41 (Nat.le_of_ble_eq_true rfl) (Nat.le_of_ble_eq_true rfl) (g_rightOf hpe ?_)
      refine go_iload dx_X3_chooseCut_44 rfl ?_
      refine go_aload_n (i := 0) dx_X3_chooseCut_46 rfl rfl ?_
      refine go_getI fs_X3_103 (Or.inl rfl) (go_ok rfl rfl) dx_X3_chooseCut_47 ?_
      refine go_asI (y := (j : Int)) (by exact i2.2.2.1) ?_
      refine go_cV3 sv_X3_145 (go_ok rfl rfl) dx_X3_chooseCut_50 (Nat.le_of_ble_eq_true rfl) (Nat.le_of_ble_eq_true rfl) (g_Forest_valueAll tb_ok52 tf_ok52 hb1.2.2.1 hb1.2.2.2 h14 (by omega) (by omega) he' hj ?_)
      refine go_cS2 ss_X3_164 dx_X3_chooseCut_53 (Nat.le_of_ble_eq_true rfl) (Nat.le_of_ble_eq_true rfl) (g_Forest_times (st_iL _) (st_iL _) ?_)
      refine go_asL (y := (st (f e'))) (by rw [fo_mul_st, hfe]) ?_
      refine go_lstore (lv' := [(0, vv_A 56), (1, vv_I (pe e : Int)), (2, vv_I (at0 : Int)), (3, vv_L (st ah)), (5, vv_I (e' : Int)), (6, vv_L (st (ah * Vn K.1 (plw K.2.2) e.2.1 at0 e'))), (8, vv_L (st (f e')))]) dx_X3_chooseCut_56 (by decide) rfl ?_
      refine go_aload_n (i := 0) dx_X3_chooseCut_58 rfl rfl ?_
      refine go_lload dx_X3_chooseCut_59 rfl ?_
      refine go_cV1 sv_X3_141 (go_ok rfl rfl) dx_X3_chooseCut_61 (Nat.le_of_ble_eq_true rfl) (Nat.le_of_ble_eq_true rfl) (g_Listing_isHere i2.2.2.2.2.2 (by omega) ?_)
      refine go_b_eq (tgt := 70) dx_X3_chooseCut_64 rfl (fun c64 => ?_) (fun c64 => ?_)
      · refine go_aload_n (i := 0) dx_X3_chooseCut_70 rfl rfl ?_
        refine go_dup dx_X3_chooseCut_71 rfl ?_
        refine go_getL fs_X3_47 rfl (go_ok rfl rfl) dx_X3_chooseCut_72 ?_
        refine go_asL (y := ((nu - su e' f : Nat) : Int)) (by exact i2.2.2.2.2.2) ?_
        refine go_lload dx_X3_chooseCut_75 rfl ?_
        refine go_lsub dx_X3_chooseCut_77 ?_
        refine go_asL (y := ((nu - su (e' + 1) f : Nat) : Int)) (by rw [st_le (by omega), su_s]; omega) ?_
        refine go_putL fp_X3_47 rfl rfl (go_ok rfl rfl) dx_X3_chooseCut_78 ?_
        refine go_iinc (lv' := [(0, vv_A 56), (1, vv_I (pe e : Int)), (2, vv_I (at0 : Int)), (3, vv_L (st ah)), (5, vv_I ((e' : Int) + 1)), (6, vv_L (st (ah * Vn K.1 (plw K.2.2) e.2.1 at0 e'))), (8, vv_L (st (f e')))]) dx_X3_chooseCut_81 rfl (by decide) rfl ?_
        refine go_goto (tgt := 5) dx_X3_chooseCut_84 rfl ?_
        refine go_keep [0, 1, 2, 3, 4] rfl ?_
        refine ih _ ⟨by omega, by rw [su_s]; omega, ?_, fun c q a => by rw [wr_n a]; exact i3 c q a⟩ _ rfl
        obtain ⟨g1, g2, g3, g4, g5, g6⟩ := i2
        exact ⟨by simp only [wr]; exact g1, by simp only [wr]; exact g2, by simp only [wr]; exact g3, by simp only [wr]; exact g4, by simp only [wr]; exact g5, wr_eq _ _ _ _⟩
      · refine go_iload dx_X3_chooseCut_67 rfl ?_
        refine go_ireturn dx_X3_chooseCut_69 rfl (Nat.le_refl _) (Nat.le_refl _) ?_
        have e2 : pickr f nu = e' := pickr_eq i1 (by rw [su_s]; omega)
        rw [e2] at hQ
        exact hQ δ1 i2 i3
    ) (fun δ1 hI => absurd hI.2.1 (by omega))
  refine go_iload_n (i := 2) dx_X3_chooseCut_0 rfl rfl ?_
  refine go_iconst dx_X3_chooseCut_1 ?_
  refine go_iadd dx_X3_chooseCut_2 ?_
  refine go_istore (lv' := [(0, vv_A 56), (1, vv_I (pe e : Int)), (2, vv_I (at0 : Int)), (3, vv_L (st ah)), (5, vv_I ((at0 + 1 : Nat) : Int))]) dx_X3_chooseCut_3 (by decide) rfl ?_
  exact loop (at0 + 1) δ (by omega) ⟨Nat.lt_succ_self _, by omega, by rw [hf0, Nat.sub_zero]; exact hc, fun _ _ _ => rfl⟩ _ rfl
/-- bounds of the parts, as far as they are laid -/
def bd_at (δ : Nat → Nat → Int) (R : Nat → List Nat) (pl : Nat → Nat → Prop) (ps : List Nat) (i j num m : Nat) : Prop := ∀ k, k ≤ m → δ 60 k = ((ck R pl ps i j num k).1 : Int)
theorem g_Listing_chooseCuts {x i j S num r : Nat} {up : Int} (hb : lb_at δ K) (hr : r < 16) (hne : K.1 r ≠ []) (hc : lc_at δ x i j S up num) (hn : num ≤ 2147483647) (hij : i < j) (hj : j ≤ K.2.2.length)
    (hlt : (K.1 r).length = 2 ∨ num < fit (Tn K.1 (plw K.2.2)) (plw K.2.2) ((K.1 r).drop 1) i j)
    (hQ : ∀ δ', ((K.1 r).length = 2 → lc_at δ' x i j S up num) → ((K.1 r).length ≠ 2 → lc_at δ' x i j S up (lef K.1 (plw K.2.2) ((K.1 r).drop 1) i j num 0) ∧ bd_at δ' K.1 (plw K.2.2) ((K.1 r).drop 1) i j num ((K.1 r).length - 1)) → (∀ c q, c ≠ 60 → (c = 56 → q ≠ 13) → δ' c q = δ c q) → Q [] go_φ δ') :
    Go E (d + 3) (0, 0) mx_X3_chooseCuts go_φ 0 [(0, vv_A 56), (1, vv_I (r : Int))] [] δ Q := by
  have hR := hb.2.1.2.2.2.2.2.2
  have h14 := hb.1.2.2.2.2.2.2.2.2.1
  have hl2 : 2 ≤ (K.1 r).length := by
    rcases hR r with q | q
    · exact absurd q hne
    · exact q.1
  have hl6 := (hR r).len
  obtain ⟨ps, hps⟩ : ∃ ps, (K.1 r).drop 1 = ps := ⟨_, rfl⟩
  have hpl : ps.length = (K.1 r).length - 1 := by rw [← hps, List.length_drop]
  have hgb := gp_bound hR hr
  -- the loop, where there are cuts
  have loop : (K.1 r).length ≠ 2 → ∀ i0 (X : Nat → Nat → Int), i0 ≤ ps.length - 1 → (bd_at X K.1 (plw K.2.2) ps i j num i0 ∧ X 60 ps.length = (j : Int) ∧ lc_at X x i j S up (ck K.1 (plw K.2.2) ps i j num i0).2.2 ∧ (∀ c q, c ≠ 60 → (c = 56 → q ≠ 13) → X c q = δ c q)) →
      Go E (d + 3) (0, 0) mx_X3_chooseCuts go_φ 47 [(0, vv_A 56), (1, vv_I (r : Int)), (2, vv_I (((K.1 r).length - 1 : Nat) : Int)), (3, vv_L (st (ck K.1 (plw K.2.2) ps i j num i0).2.1)), (5, vv_I ((ck K.1 (plw K.2.2) ps i j num i0).1 : Int)), (6, vv_I (i0 : Int))] [] X Q := fun hne2 => by
    have hlt := hlt.resolve_left hne2
    rw [hps] at hlt
    refine lp_up (X := Nat → Nat → Int) (hi := ps.length - 1) (I := fun k δ1 => bd_at δ1 K.1 (plw K.2.2) ps i j num k ∧ δ1 60 ps.length = (j : Int) ∧ lc_at δ1 x i j S up (ck K.1 (plw K.2.2) ps i j num k).2.2 ∧ (∀ c q, c ≠ 60 → (c = 56 → q ≠ 13) → δ1 c q = δ c q))
      (G := fun k δ1 => Go E (d + 3) (0, 0) mx_X3_chooseCuts go_φ 47 [(0, vv_A 56), (1, vv_I (r : Int)), (2, vv_I (((K.1 r).length - 1 : Nat) : Int)), (3, vv_L (st (ck K.1 (plw K.2.2) ps i j num k).2.1)), (5, vv_I ((ck K.1 (plw K.2.2) ps i j num k).1 : Int)), (6, vv_I (k : Int))] [] δ1 Q) (fun k δ1 hk hI ih => ?_) (fun δ1 hI => ?_)
    · obtain ⟨i1, i2, i3, i4⟩ := hI
      have hb1 : lb_at δ1 K := lb_fr hb (fun c q a b => i4 c q (by omega) (by omega))
      obtain ⟨e, e1, e2, e3, e4⟩ := lp_pair (pl := plw K.2.2) hR hr (show k + 2 < (K.1 r).length by omega)
      obtain ⟨hpp, hpe2⟩ := List.getElem?_eq_some_iff.mp e1
      have hcode := hb1.2.1.1.2.1 _ hpp
      rw [hpe2] at hcode
      have hem := List.mem_of_getElem? e1
      have hpe := pe_ok_of hR hem
      have hle := pr_lt hR hem
      have hgPl := gP_le hR
      obtain ⟨v1, v2, v3, v4⟩ := ck_inv (by omega) hlt k (by omega)
      obtain ⟨w1, w2, w3, w4⟩ := ck_inv (by omega) hlt (k + 1) (by omega)
      have hcl := ck_lt (by omega) hlt (show k < ps.length by omega)
      have hcl2 := ck_lt (by omega) hlt (show k + 1 < ps.length by omega)
      obtain ⟨y1, y2, y3, y4⟩ := ck_inv (by omega) hlt (k + 1 + 1) (by omega)
      have hckj : (ck K.1 (plw K.2.2) ps i j num (k + 1)).1 < j := by omega
      -- the sum up to the end
      have hsum : (ck K.1 (plw K.2.2) ps i j num k).2.2 < su j (ckf K.1 (plw K.2.2) ps j (ck K.1 (plw K.2.2) ps i j num k).1 (ck K.1 (plw K.2.2) ps i j num k).2.1 k) := by
        have hz : ckf K.1 (plw K.2.2) ps j (ck K.1 (plw K.2.2) ps i j num k).1 (ck K.1 (plw K.2.2) ps i j num k).2.1 k j = 0 := by
          unfold ckf
          rw [fit_nil (i := j) (j := j) (Nat.le_refl _) (fun w => by have := congrArg List.length w; rw [List.length_drop] at this; simp at this; omega), Nat.mul_zero, Nat.mul_zero]
          exact Nat.le_zero.mp (nif_le _ _)
        have hs : su (j + 1) (ckf K.1 (plw K.2.2) ps j (ck K.1 (plw K.2.2) ps i j num k).1 (ck K.1 (plw K.2.2) ps i j num k).2.1 k) = (ck K.1 (plw K.2.2) ps i j num k).2.1 * fit (Tn K.1 (plw K.2.2)) (plw K.2.2) (ps.drop k) (ck K.1 (plw K.2.2) ps i j num k).1 j := by
          rw [li_drop1 (l := ps) (k := k) (by omega), fit_cons, ← su_mul]
          refine su_congr (fun e _ => ?_)
          unfold ckf
          by_cases q : (ck K.1 (plw K.2.2) ps i j num k).1 < e
          · rw [nif_t q, nif_t q]
          · rw [nif_f q, nif_f q, Nat.mul_zero]
        rw [su_s, hz, Nat.add_zero] at hs
        rw [hs]
        exact v1
      refine go_iload dx_X3_chooseCuts_47 rfl ?_
      refine go_iconst dx_X3_chooseCuts_49 ?_
      refine go_iadd dx_X3_chooseCuts_50 ?_
      refine go_iload_n (i := 2) dx_X3_chooseCuts_51 rfl rfl ?_
      refine go_icmp_ge (tgt := 136) dx_X3_chooseCuts_52 rfl (by omega) (by omega) (fun c52 => by exact absurd c52 (by omega)) (fun c52 => ?_)
      refine go_aload_n (i := 0) dx_X3_chooseCuts_55 rfl rfl ?_
      refine go_getA (b := 33) fs_X3_15 rfl (go_ok rfl rfl) rfl dx_X3_chooseCuts_56 ?_
      refine go_getA (b := 34) fs_X3_155 rfl (go_ok rfl rfl) rfl dx_X3_chooseCuts_59 ?_
      refine go_aload_n (i := 0) dx_X3_chooseCuts_62 rfl rfl ?_
      refine go_getA (b := 33) fs_X3_15 rfl (go_ok rfl rfl) rfl dx_X3_chooseCuts_63 ?_
      refine go_getA (b := 35) fs_X3_133 rfl (go_ok rfl rfl) rfl dx_X3_chooseCuts_66 ?_
      refine go_iload_n (i := 1) dx_X3_chooseCuts_69 rfl rfl ?_
      refine go_cS2 ss_X3_85 dx_X3_chooseCuts_70 (Nat.le_of_ble_eq_true rfl) (Nat.le_of_ble_eq_true rfl) (g_intAtV (i := r) (v := (((gp K.1 r).length : Int))) (go_ok rfl rfl) (by omega) (show r < 16 by omega) (by exact hb1.2.1.2.1 r hr (by omega)) ?_)
      refine go_iload dx_X3_chooseCuts_73 rfl ?_
      refine go_iadd dx_X3_chooseCuts_75 ?_
      refine go_cS2 ss_X3_85 dx_X3_chooseCuts_76 (Nat.le_of_ble_eq_true rfl) (Nat.le_of_ble_eq_true rfl) (g_intAtV (i := ((gp K.1 r).length + k)) (v := ((pe e : Int))) (go_ok rfl rfl) (by omega) (show ((gp K.1 r).length + k) < 64 by omega) (by exact hcode) ?_)
      refine go_istore (lv' := [(0, vv_A 56), (1, vv_I (r : Int)), (2, vv_I (((K.1 r).length - 1 : Nat) : Int)), (3, vv_L (st (ck K.1 (plw K.2.2) ps i j num k).2.1)), (5, vv_I ((ck K.1 (plw K.2.2) ps i j num k).1 : Int)), (6, vv_I (k : Int)), (7, vv_I ((pe e : Int)))]) dx_X3_chooseCuts_79 (by decide) rfl ?_
      refine go_aload_n (i := 0) dx_X3_chooseCuts_81 rfl rfl ?_
      refine go_iload dx_X3_chooseCuts_82 rfl ?_
      refine go_iload dx_X3_chooseCuts_84 rfl ?_
      refine go_lload_n (i := 3) dx_X3_chooseCuts_86 rfl rfl ?_
      refine go_cV3 sv_X3_171 (go_ok rfl rfl) dx_X3_chooseCuts_87 (Nat.le_of_ble_eq_true rfl) (Nat.le_of_ble_eq_true rfl) (g_Listing_chooseCut (r := r) (k := k) hb1 hr (by omega) e1 i3 (by omega) (by omega) hj e3 e4 (by rw [hps]; exact hsum) (fun δ2 h2 f2 => ?_))
      refine go_asI (y := ((ck K.1 (plw K.2.2) ps i j num (k + 1)).1 : Int)) (by rw [hps]; rfl) ?_
      refine go_istore (lv' := [(0, vv_A 56), (1, vv_I (r : Int)), (2, vv_I (((K.1 r).length - 1 : Nat) : Int)), (3, vv_L (st (ck K.1 (plw K.2.2) ps i j num k).2.1)), (5, vv_I ((ck K.1 (plw K.2.2) ps i j num k).1 : Int)), (6, vv_I (k : Int)), (7, vv_I ((pe e : Int))), (8, vv_I ((ck K.1 (plw K.2.2) ps i j num (k + 1)).1 : Int))]) dx_X3_chooseCuts_90 (by decide) rfl ?_
      refine go_lload_n (i := 3) dx_X3_chooseCuts_92 rfl rfl ?_
      refine go_aload_n (i := 0) dx_X3_chooseCuts_93 rfl rfl ?_
      refine go_getA (b := 52) fs_X3_19 rfl (go_ok rfl rfl) rfl dx_X3_chooseCuts_94 ?_
      refine go_iload dx_X3_chooseCuts_97 rfl ?_
      refine go_cS1 ss_X3_158 dx_X3_chooseCuts_99 (Nat.le_of_ble_eq_true rfl) (Nat.le_of_ble_eq_true rfl) (g_leftOf hpe ?_)
      refine go_iload dx_X3_chooseCuts_102 rfl ?_
      refine go_iload dx_X3_chooseCuts_104 rfl ?_
      refine go_cV3 sv_X3_145 (go_ok rfl rfl) dx_X3_chooseCuts_106 (Nat.le_of_ble_eq_true rfl) (Nat.le_of_ble_eq_true rfl) (g_Forest_valueAll tb_ok52 tf_ok52 (lb_fr hb1 (fun c q a b => f2 c q (by omega))).2.2.1 (by rw [f2 _ _ (by decide)]; exact hb1.2.2.2) h14 (by omega) (by omega) hcl (by omega) ?_)
      refine go_cS2 ss_X3_164 dx_X3_chooseCuts_109 (Nat.le_of_ble_eq_true rfl) (Nat.le_of_ble_eq_true rfl) (g_Forest_times (st_iL _) (st_iL _) ?_)
      refine go_asL (y := (st (ck K.1 (plw K.2.2) ps i j num (k + 1)).2.1)) (by rw [fo_mul_st, e3 _ _ hcl, hps]; rfl) ?_
      refine go_lstore_n (i := 3) (lv' := [(0, vv_A 56), (1, vv_I (r : Int)), (2, vv_I (((K.1 r).length - 1 : Nat) : Int)), (3, vv_L (st (ck K.1 (plw K.2.2) ps i j num (k + 1)).2.1)), (5, vv_I ((ck K.1 (plw K.2.2) ps i j num k).1 : Int)), (6, vv_I (k : Int)), (7, vv_I ((pe e : Int))), (8, vv_I ((ck K.1 (plw K.2.2) ps i j num (k + 1)).1 : Int))]) dx_X3_chooseCuts_112 rfl (by decide) rfl ?_
      refine go_aload_n (i := 0) dx_X3_chooseCuts_113 rfl rfl ?_
      refine go_getA (b := 60) fs_X3_34 rfl (go_ok rfl rfl) rfl dx_X3_chooseCuts_114 ?_
      refine go_iload dx_X3_chooseCuts_117 rfl ?_
      refine go_iconst dx_X3_chooseCuts_119 ?_
      refine go_iadd dx_X3_chooseCuts_120 ?_
      refine go_iload dx_X3_chooseCuts_121 rfl ?_
      refine go_cS3 ss_X3_89 dx_X3_chooseCuts_123 (Nat.le_of_ble_eq_true rfl) (Nat.le_of_ble_eq_true rfl) (g_putIntN (i := k + 1) (go_ok rfl rfl) (by omega) (show k + 1 < 6 by omega) ?_)
      refine go_iload dx_X3_chooseCuts_126 rfl ?_
      refine go_istore (lv' := [(0, vv_A 56), (1, vv_I (r : Int)), (2, vv_I (((K.1 r).length - 1 : Nat) : Int)), (3, vv_L (st (ck K.1 (plw K.2.2) ps i j num (k + 1)).2.1)), (5, vv_I ((ck K.1 (plw K.2.2) ps i j num (k + 1)).1 : Int)), (6, vv_I (k : Int)), (7, vv_I ((pe e : Int))), (8, vv_I ((ck K.1 (plw K.2.2) ps i j num (k + 1)).1 : Int))]) dx_X3_chooseCuts_128 (by decide) rfl ?_
      refine go_iinc (lv' := [(0, vv_A 56), (1, vv_I (r : Int)), (2, vv_I (((K.1 r).length - 1 : Nat) : Int)), (3, vv_L (st (ck K.1 (plw K.2.2) ps i j num (k + 1)).2.1)), (5, vv_I ((ck K.1 (plw K.2.2) ps i j num (k + 1)).1 : Int)), (6, vv_I ((k : Int) + 1)), (7, vv_I ((pe e : Int))), (8, vv_I ((ck K.1 (plw K.2.2) ps i j num (k + 1)).1 : Int))]) dx_X3_chooseCuts_130 rfl (by decide) rfl ?_
      refine go_goto (tgt := 47) dx_X3_chooseCuts_133 rfl ?_
      refine go_keep [0, 1, 2, 3, 4, 5] rfl ?_
      rw [hps] at h2
      refine ih _ ⟨fun t ht => ?_, ?_, ?_, fun c q a b => by rw [wr_a _ _ _ _ a, f2 c q b]; exact i4 c q a b⟩
      · by_cases w : t = k + 1
        · subst w; rw [wr_eq]
        · rw [wr_i _ _ _ _ w, f2 _ _ (fun w => absurd w (by decide))]; exact i1 t (by omega)
      · rw [wr_i _ _ _ _ (by omega), f2 _ _ (fun w => absurd w (by decide))]; exact i2
      · exact lc_fr h2 (fun q _ _ => wr_a _ _ _ _ (by decide) _)
    · obtain ⟨i1, i2, i3, i4⟩ := hI
      refine go_iload dx_X3_chooseCuts_47 rfl ?_
      refine go_iconst dx_X3_chooseCuts_49 ?_
      refine go_iadd dx_X3_chooseCuts_50 ?_
      refine go_iload_n (i := 2) dx_X3_chooseCuts_51 rfl rfl ?_
      refine go_icmp_ge (tgt := 136) dx_X3_chooseCuts_52 rfl (by omega) (by omega) (fun c52 => ?_) (fun c52 => by exact absurd c52 (by omega))
      refine go_vreturn dx_X3_chooseCuts_136 rfl (Nat.le_refl _) (Nat.le_refl _) ?_
      have hlast := ck_last (by omega) hlt (show ps.length - 1 + 1 = ps.length by omega)
      have hfin := (ck_fin (by omega) hlt).1
      refine hQ δ1 (fun q => absurd q hne2) (fun _ => ⟨?_, fun t ht => ?_⟩) i4
      · rw [hps]
        show lc_at δ1 x i j S up (ck K.1 (plw K.2.2) ps i j num ps.length).2.2
        rw [hlast]
        exact i3
      · rw [hps]
        by_cases w : t = ps.length
        · subst w; rw [i2, hfin]
        · exact i1 t (by omega)
  refine go_aload_n (i := 0) dx_X3_chooseCuts_0 rfl rfl ?_
  refine go_getA (b := 3) fs_X3_9 rfl (go_ok rfl rfl) rfl dx_X3_chooseCuts_1 ?_
  refine go_iload_n (i := 1) dx_X3_chooseCuts_4 rfl rfl ?_
  refine go_cV1 sv_X3_78 (go_ok rfl rfl) dx_X3_chooseCuts_5 (Nat.le_of_ble_eq_true rfl) (Nat.le_of_ble_eq_true rfl) (g_Told_ruleAtN td_ok3 hb.1 hr ?_)
  refine go_cS1 ss_X3_123 dx_X3_chooseCuts_8 (Nat.le_of_ble_eq_true rfl) (Nat.le_of_ble_eq_true rfl) (g_sizeOf (hR r) ?_)
  refine go_istore_n (i := 2) (lv' := [(0, vv_A 56), (1, vv_I (r : Int)), (2, vv_I (((K.1 r).length - 1 : Nat) : Int))]) dx_X3_chooseCuts_11 rfl (by decide) rfl ?_
  refine go_aload_n (i := 0) dx_X3_chooseCuts_12 rfl rfl ?_
  refine go_getA (b := 60) fs_X3_34 rfl (go_ok rfl rfl) rfl dx_X3_chooseCuts_13 ?_
  refine go_iconst dx_X3_chooseCuts_16 ?_
  refine go_aload_n (i := 0) dx_X3_chooseCuts_17 rfl rfl ?_
  refine go_getI fs_X3_100 (Or.inl rfl) (go_ok rfl rfl) dx_X3_chooseCuts_18 ?_
  refine go_asI (y := (i : Int)) (by exact hc.2.1) ?_
  refine go_cS3 ss_X3_89 dx_X3_chooseCuts_21 (Nat.le_of_ble_eq_true rfl) (Nat.le_of_ble_eq_true rfl) (g_putIntN (i := 0) (go_ok rfl rfl) (by omega) (show 0 < 6 by omega) ?_)
  refine go_aload_n (i := 0) dx_X3_chooseCuts_24 rfl rfl ?_
  refine go_getA (b := 60) fs_X3_34 rfl (go_ok rfl rfl) rfl dx_X3_chooseCuts_25 ?_
  refine go_iload_n (i := 2) dx_X3_chooseCuts_28 rfl rfl ?_
  refine go_aload_n (i := 0) dx_X3_chooseCuts_29 rfl rfl ?_
  refine go_getI fs_X3_103 (Or.inl rfl) (go_ok rfl rfl) dx_X3_chooseCuts_30 ?_
  refine go_asI (y := (j : Int)) (by simp only [wr]; exact hc.2.2.1) ?_
  refine go_cS3 ss_X3_89 dx_X3_chooseCuts_33 (Nat.le_of_ble_eq_true rfl) (Nat.le_of_ble_eq_true rfl) (g_putIntN (i := (K.1 r).length - 1) (go_ok rfl rfl) (by omega) (show (K.1 r).length - 1 < 6 by omega) ?_)
  refine go_lconst (x := 1) dx_X3_chooseCuts_36 rfl ?_
  refine go_lstore_n (i := 3) (lv' := [(0, vv_A 56), (1, vv_I (r : Int)), (2, vv_I (((K.1 r).length - 1 : Nat) : Int)), (3, vv_L 1)]) dx_X3_chooseCuts_37 rfl (by decide) rfl ?_
  refine go_aload_n (i := 0) dx_X3_chooseCuts_38 rfl rfl ?_
  refine go_getI fs_X3_100 (Or.inl rfl) (go_ok rfl rfl) dx_X3_chooseCuts_39 ?_
  refine go_asI (y := (i : Int)) (by simp only [wr]; exact hc.2.1) ?_
  refine go_istore (lv' := [(0, vv_A 56), (1, vv_I (r : Int)), (2, vv_I (((K.1 r).length - 1 : Nat) : Int)), (3, vv_L 1), (5, vv_I (i : Int))]) dx_X3_chooseCuts_42 (by decide) rfl ?_
  refine go_iconst dx_X3_chooseCuts_44 ?_
  refine go_istore (lv' := [(0, vv_A 56), (1, vv_I (r : Int)), (2, vv_I (((K.1 r).length - 1 : Nat) : Int)), (3, vv_L 1), (5, vv_I (i : Int)), (6, vv_I 0)]) dx_X3_chooseCuts_45 (by decide) rfl ?_
  have hc2 : lc_at (wr (wr δ 60 0 (i : Int)) 60 ((K.1 r).length - 1) (j : Int)) x i j S up num := lc_fr hc (fun q _ _ => by rw [wr_a _ _ _ _ (by decide), wr_a _ _ _ _ (by decide)])
  by_cases e2 : (K.1 r).length = 2
  · refine go_iload dx_X3_chooseCuts_47 rfl ?_
    refine go_iconst dx_X3_chooseCuts_49 ?_
    refine go_iadd dx_X3_chooseCuts_50 ?_
    refine go_iload_n (i := 2) dx_X3_chooseCuts_51 rfl rfl ?_
    refine go_icmp_ge (tgt := 136) dx_X3_chooseCuts_52 rfl (by omega) (by omega) (fun c52 => ?_) (fun c52 => by exact absurd c52 (by omega))
    refine go_vreturn dx_X3_chooseCuts_136 rfl (Nat.le_refl _) (Nat.le_refl _) ?_
    exact hQ _ (fun _ => hc2) (fun q => absurd e2 q) (fun c q a b => by rw [wr_a _ _ _ _ a, wr_a _ _ _ _ a])
  · have k0 := loop e2 0 (wr (wr δ 60 0 (i : Int)) 60 ((K.1 r).length - 1) (j : Int)) (Nat.zero_le _) ⟨fun t ht => ?_, ?_, hc2, fun c q a b => by rw [wr_a _ _ _ _ a, wr_a _ _ _ _ a]⟩
    · rw [show (ck K.1 (plw K.2.2) ps i j num 0).2.1 = 1 from rfl, st_small (by decide)] at k0
      exact k0
    · have : t = 0 := by omega
      subst this
      rw [wr_i _ _ _ _ (by omega), wr_eq]
      rfl
    · rw [hpl, wr_eq]
theorem g_Listing_putParts {it : tI} {s : List tI} {nd : Nat} (hb : lb_at δ K) (hd : dstn K.1) (hit : it_ok K.1 (plw K.2.2) K.2.2.length nd it) (hs : ls_at δ s) (hsl : s.length ≤ 13)
    (hc2 : (K.1 (lrl K.1 (plw K.2.2) it)).length = 2 → lc_at δ it.1 it.2.1 it.2.2.1 (it.2.2.2.1 ||| 2 ^ it.1) it.2.2.2.2.1 (lnm K.1 (plw K.2.2) it))
    (hc3 : (K.1 (lrl K.1 (plw K.2.2) it)).length ≠ 2 → lc_at δ it.1 it.2.1 it.2.2.1 (it.2.2.2.1 ||| 2 ^ it.1) it.2.2.2.2.1 (lef K.1 (plw K.2.2) ((K.1 (lrl K.1 (plw K.2.2) it)).drop 1) it.2.1 it.2.2.1 (lnm K.1 (plw K.2.2) it) 0) ∧ bd_at δ K.1 (plw K.2.2) ((K.1 (lrl K.1 (plw K.2.2) it)).drop 1) it.2.1 it.2.2.1 (lnm K.1 (plw K.2.2) it) ((K.1 (lrl K.1 (plw K.2.2) it)).length - 1))
    (hQ : ∀ δ', ls_at δ' (lch2 K.1 (plw K.2.2) it nd ++ s) → (∀ c q, c ≠ 58 → c ≠ 59 → (c = 56 → q ≠ 7 ∧ q ≠ 13) → δ' c q = δ c q) → Q [] go_φ δ') :
    Go E (d + 2) (0, 0) mx_X3_putParts go_φ 0 [(0, vv_A 56), (1, vv_I (rl_enc (K.1 (lrl K.1 (plw K.2.2) it)) : Int)), (2, vv_I (nd : Int))] [] δ Q := by
  have hR := hb.2.1.2.2.2.2.2.2
  have h14 := hb.1.2.2.2.2.2.2.2.2.1
  have hM := MX_eq
  obtain ⟨r1, r2, r3, r4, r5, r6⟩ := lrl_spec hR hd hit
  obtain ⟨t1, t2, t3, t4, t5, t6, t7, t8, t9⟩ := id hit
  obtain ⟨r, hr⟩ : ∃ r, lrl K.1 (plw K.2.2) it = r := ⟨_, rfl⟩
  obtain ⟨num, hnum⟩ : ∃ r, lnm K.1 (plw K.2.2) it = r := ⟨_, rfl⟩
  unfold lch2 at hQ
  rw [hr] at r1 r2 r3 r4 r5 hc2 hc3 hQ ⊢
  rw [hnum] at r4 r6 hc2 hc3 hQ
  obtain ⟨x, i, j, b, up, nm⟩ := it
  dsimp only at r1 r2 r3 r4 r5 r6 t1 t2 t3 t4 t5 t6 t7 t8 t9 hc2 hc3 hQ
  have hl2 : 2 ≤ (K.1 r).length := by
    rcases hR r with q | q
    · exact absurd q r2
    · exact q.1
  have hl6 := (hR r).len
  unfold wrr at r4 r5
  rw [nif_t ⟨r3, hl2⟩] at r4 r5
  refine go_iload_n (i := 1) dx_X3_putParts_0 rfl rfl ?_
  refine go_cS1 ss_X3_123 dx_X3_putParts_1 (Nat.le_of_ble_eq_true rfl) (Nat.le_of_ble_eq_true rfl) (g_sizeOf (hR r) ?_)
  refine go_iconst dx_X3_putParts_4 ?_
  refine go_icmp_ne (tgt := 41) dx_X3_putParts_5 rfl (by omega) (by omega) (fun c5 => ?_) (fun c5 => ?_)
  · have e2 : (K.1 r).length ≠ 2 := by omega
    obtain ⟨hc, hbd⟩ := hc3 e2
    rw [if_neg e2] at hQ
    rw [if_neg (fun w => e2 w.1)] at r4 r5
    obtain ⟨ps, hps⟩ : ∃ ps, (K.1 r).drop 1 = ps := ⟨_, rfl⟩
    have hpl : ps.length = (K.1 r).length - 1 := by rw [← hps, List.length_drop]
    rw [hps] at r4 r5 hc hbd hQ
    have hpg : ∀ k, ps.getD k 0 = (K.1 r).getD (k + 1) 0 := fun k => by rw [← hps]; simp only [List.getD_eq_getElem?_getD, List.getElem?_drop, Nat.add_comm 1 k]
    have hz : num = 0 ∨ fit (Tn K.1 (plw K.2.2)) (plw K.2.2) ps i j ≤ MX := by
      rcases t8 with q | q
      · exact Or.inl (by omega)
      · exact Or.inr (Nat.le_trans r5 q)
    have loop := lp_dn (X := Nat → Nat → Int) (I := fun k δ1 => k ≤ ps.length ∧ ls_at δ1 (chl K.1 (plw K.2.2) ps i j num nd k (ps.length - k) ++ s) ∧ (chl K.1 (plw K.2.2) ps i j num nd k (ps.length - k)).length ≤ ps.length - k ∧ (∀ c q, c ≠ 58 → c ≠ 59 → (c = 56 → q ≠ 7 ∧ q ≠ 13) → δ1 c q = δ c q))
      (G := fun k δ1 => ∀ lv0, lv0 = [(0, vv_A 56), (1, vv_I (rl_enc (K.1 r) : Int)), (2, vv_I (nd : Int)), (3, vv_L (lef K.1 (plw K.2.2) ps i j num (ps.length - k) : Int)), (5, vv_I ((k : Int) - 1))] → Go E (d + 2) (0, 0) mx_X3_putParts go_φ 54 lv0 [] δ1 Q)
      (fun k δ1 hI ih lv0 e0 => by
        subst e0
        obtain ⟨i0, i1, i2, i3⟩ := hI
        have hb1 : lb_at δ1 K := lb_fr hb (fun c q a b => i3 c q (by omega) (by omega) (by omega))
        have hk : k < ps.length := i0
        have h1d := rl_getD_lt (hR r) (k := k + 1) (by omega)
        have hcl := ck_lt (by omega) r4 hk
        obtain ⟨w1, w2, w3, w4⟩ := ck_inv (by omega) r4 (k + 1) (by omega)
        have hlv := (lef_inv (by omega) r4 (ps.length - (k + 1)) (by omega)).2
        have hcp := ckp_pos (by omega) r4 hk
        have hval : Vn K.1 (plw K.2.2) ((K.1 r).getD (k + 1) 0) (ck K.1 (plw K.2.2) ps i j num k).1 (ck K.1 (plw K.2.2) ps i j num (k + 1)).1 = ckp K.1 (plw K.2.2) ps i j num k := by
          rw [Vn_lo h1d hcl, ← hpg]
          rfl
        have hes : ps.length - k = ps.length - (k + 1) + 1 := by omega
        have hdg : dgt K.1 (plw K.2.2) ps i j num k = lef K.1 (plw K.2.2) ps i j num (ps.length - (k + 1)) % ckp K.1 (plw K.2.2) ps i j num k := by
          unfold dgt
          rw [show ps.length - 1 - k = ps.length - (k + 1) by omega]
        have hlf : lef K.1 (plw K.2.2) ps i j num (ps.length - k) = lef K.1 (plw K.2.2) ps i j num (ps.length - (k + 1)) / ckp K.1 (plw K.2.2) ps i j num k := by
          rw [hes]
          show _ / ckp K.1 (plw K.2.2) ps i j num (ps.length - 1 - (ps.length - (k + 1))) = _
          rw [show ps.length - 1 - (ps.length - (k + 1)) = k by omega]
        have hbig : ¬ ckp K.1 (plw K.2.2) ps i j num k ≤ MX → lef K.1 (plw K.2.2) ps i j num (ps.length - (k + 1)) = 0 := fun q => by
          rcases hz with w | w
          · omega
          · exfalso
            have hb2 := (ck_big (by omega) r4 (k + 1) hk).1
            have hp2 := (ck_big (by omega) r4 k (by omega)).2.1
            rw [ck_ah] at hb2
            exact q (Nat.le_trans (Nat.le_trans (Nat.le_mul_of_pos_left _ hp2) hb2) w)
        -- behind the two divisions
        have tail : Go E (d + 2) (0, 0) mx_X3_putParts go_φ 141 [(0, vv_A 56), (1, vv_I (rl_enc (K.1 r) : Int)), (2, vv_I (nd : Int)), (3, vv_L (lef K.1 (plw K.2.2) ps i j num (ps.length - k) : Int)), (5, vv_I (k : Int)), (6, vv_I (((K.1 r).getD (k + 1) 0 : Nat) : Int)), (7, vv_I ((ck K.1 (plw K.2.2) ps i j num k).1 : Int)), (8, vv_I ((ck K.1 (plw K.2.2) ps i j num (k + 1)).1 : Int)), (9, vv_L (st (ckp K.1 (plw K.2.2) ps i j num k)))] [] (wr δ1 56 13 (dgt K.1 (plw K.2.2) ps i j num k : Int)) Q := by
          have hls : ls_at (wr δ1 56 13 (dgt K.1 (plw K.2.2) ps i j num k : Int)) (chl K.1 (plw K.2.2) ps i j num nd (k + 1) (ps.length - (k + 1)) ++ s) := ⟨by simp only [wr]; exact i1.1, lsx_fr i1.2 (fun c q hc => wr_a _ _ _ _ (by omega) _)⟩
          have hll : (chl K.1 (plw K.2.2) ps i j num nd (k + 1) (ps.length - (k + 1)) ++ s).length ≤ 18 := by rw [List.length_append]; omega
          have hch : chl K.1 (plw K.2.2) ps i j num nd k (ps.length - k) = (if ps.getD k 0 < 8 then [(ps.getD k 0, (ck K.1 (plw K.2.2) ps i j num k).1, (ck K.1 (plw K.2.2) ps i j num (k + 1)).1, 0, (nd : Int), dgt K.1 (plw K.2.2) ps i j num k)] else []) ++ chl K.1 (plw K.2.2) ps i j num nd (k + 1) (ps.length - (k + 1)) := by rw [hes]; rfl
          refine go_iload dx_X3_putParts_141 rfl ?_
          refine go_bipush dx_X3_putParts_143 rfl ?_
          refine go_icmp_ge (tgt := 160) dx_X3_putParts_145 rfl (by omega) (by omega) (fun c145 => ?_) (fun c145 => ?_)
          · refine go_iinc (lv' := [(0, vv_A 56), (1, vv_I (rl_enc (K.1 r) : Int)), (2, vv_I (nd : Int)), (3, vv_L (lef K.1 (plw K.2.2) ps i j num (ps.length - k) : Int)), (5, vv_I ((k : Int) + (-1))), (6, vv_I (((K.1 r).getD (k + 1) 0 : Nat) : Int)), (7, vv_I ((ck K.1 (plw K.2.2) ps i j num k).1 : Int)), (8, vv_I ((ck K.1 (plw K.2.2) ps i j num (k + 1)).1 : Int)), (9, vv_L (st (ckp K.1 (plw K.2.2) ps i j num k)))]) dx_X3_putParts_160 rfl (by decide) rfl ?_
            refine go_goto (tgt := 54) dx_X3_putParts_163 rfl ?_
            refine go_keep [0, 1, 2, 3, 4] rfl ?_
            rw [show (k : Int) + -1 = (k : Int) - 1 by omega]
            refine ih _ ⟨by omega, ?_, ?_, fun c q a1 a2 a3 => by rw [wr_n (fun w => (a3 w).2)]; exact i3 c q a1 a2 a3⟩ _ rfl
            · rw [hch, if_neg (by rw [hpg]; omega)]; exact hls
            · rw [hch, if_neg (by rw [hpg]; omega)]; show (chl _ _ _ _ _ _ _ _ _).length ≤ _; omega
          · refine go_aload_n (i := 0) dx_X3_putParts_148 rfl rfl ?_
            refine go_iload dx_X3_putParts_149 rfl ?_
            refine go_iload dx_X3_putParts_151 rfl ?_
            refine go_iload dx_X3_putParts_153 rfl ?_
            refine go_iconst dx_X3_putParts_155 ?_
            refine go_asI (y := ((0 : Nat) : Int)) (by rfl) ?_
            refine go_iload_n (i := 2) dx_X3_putParts_156 rfl rfl ?_
            refine go_cV5 sv_X3_59 (go_ok rfl rfl) dx_X3_putParts_157 (Nat.le_of_ble_eq_true rfl) (Nat.le_of_ble_eq_true rfl) (g_Listing_putWaiting hls hll (wr_eq _ _ _ _) (fun δ2 h2 f2 => ?_))
            refine go_iinc (lv' := [(0, vv_A 56), (1, vv_I (rl_enc (K.1 r) : Int)), (2, vv_I (nd : Int)), (3, vv_L (lef K.1 (plw K.2.2) ps i j num (ps.length - k) : Int)), (5, vv_I ((k : Int) + (-1))), (6, vv_I (((K.1 r).getD (k + 1) 0 : Nat) : Int)), (7, vv_I ((ck K.1 (plw K.2.2) ps i j num k).1 : Int)), (8, vv_I ((ck K.1 (plw K.2.2) ps i j num (k + 1)).1 : Int)), (9, vv_L (st (ckp K.1 (plw K.2.2) ps i j num k)))]) dx_X3_putParts_160 rfl (by decide) rfl ?_
            refine go_goto (tgt := 54) dx_X3_putParts_163 rfl ?_
            refine go_keep [0, 1, 2, 3, 4] rfl ?_
            rw [show (k : Int) + -1 = (k : Int) - 1 by omega]
            refine ih δ2 ⟨by omega, ?_, ?_, fun c q a1 a2 a3 => by rw [f2 c q a1 a2 (fun w => (a3 w).1), wr_n (fun w => (a3 w).2)]; exact i3 c q a1 a2 a3⟩ _ rfl
            · rw [hch, if_pos (by rw [hpg]; omega), hpg]; exact h2
            · rw [hch, if_pos (by rw [hpg]; omega)]; show (chl _ _ _ _ _ _ _ _ _).length + 1 ≤ _; omega
        rw [show ((k + 1 : Nat) : Int) - 1 = (k : Int) by omega]
        refine go_iload dx_X3_putParts_54 rfl ?_
        refine go_if_lt (tgt := 166) dx_X3_putParts_56 rfl (by omega) (fun c56 => by exact absurd c56 (by omega)) (fun c56 => ?_)
        refine go_iload_n (i := 1) dx_X3_putParts_59 rfl rfl ?_
        refine go_iload dx_X3_putParts_60 rfl ?_
        refine go_cS2 ss_X3_126 dx_X3_putParts_62 (Nat.le_of_ble_eq_true rfl) (Nat.le_of_ble_eq_true rfl) (g_partOf (hR r) (by omega) ?_)
        refine go_istore (lv' := [(0, vv_A 56), (1, vv_I (rl_enc (K.1 r) : Int)), (2, vv_I (nd : Int)), (3, vv_L (lef K.1 (plw K.2.2) ps i j num (ps.length - (k + 1)) : Int)), (5, vv_I (k : Int)), (6, vv_I (((K.1 r).getD (k + 1) 0 : Nat) : Int))]) dx_X3_putParts_65 (by decide) rfl ?_
        refine go_aload_n (i := 0) dx_X3_putParts_67 rfl rfl ?_
        refine go_getA (b := 60) fs_X3_34 rfl (go_ok rfl rfl) rfl dx_X3_putParts_68 ?_
        refine go_iload dx_X3_putParts_71 rfl ?_
        refine go_cS2 ss_X3_85 dx_X3_putParts_73 (Nat.le_of_ble_eq_true rfl) (Nat.le_of_ble_eq_true rfl) (g_intAtV (i := k) (v := (((ck K.1 (plw K.2.2) ps i j num k).1 : Int))) (go_ok rfl rfl) (by omega) (show k < 6 by omega) (by rw [i3 _ _ (by decide) (by decide) (fun w => absurd w (by decide))]; exact hbd k (by omega)) ?_)
        refine go_istore (lv' := [(0, vv_A 56), (1, vv_I (rl_enc (K.1 r) : Int)), (2, vv_I (nd : Int)), (3, vv_L (lef K.1 (plw K.2.2) ps i j num (ps.length - (k + 1)) : Int)), (5, vv_I (k : Int)), (6, vv_I (((K.1 r).getD (k + 1) 0 : Nat) : Int)), (7, vv_I (((ck K.1 (plw K.2.2) ps i j num k).1 : Int)))]) dx_X3_putParts_76 (by decide) rfl ?_
        refine go_aload_n (i := 0) dx_X3_putParts_78 rfl rfl ?_
        refine go_getA (b := 60) fs_X3_34 rfl (go_ok rfl rfl) rfl dx_X3_putParts_79 ?_
        refine go_iload dx_X3_putParts_82 rfl ?_
        refine go_iconst dx_X3_putParts_84 ?_
        refine go_iadd dx_X3_putParts_85 ?_
        refine go_cS2 ss_X3_85 dx_X3_putParts_86 (Nat.le_of_ble_eq_true rfl) (Nat.le_of_ble_eq_true rfl) (g_intAtV (i := (k + 1)) (v := (((ck K.1 (plw K.2.2) ps i j num (k + 1)).1 : Int))) (go_ok rfl rfl) (by omega) (show (k + 1) < 6 by omega) (by rw [i3 _ _ (by decide) (by decide) (fun w => absurd w (by decide))]; exact hbd (k + 1) (by omega)) ?_)
        refine go_istore (lv' := [(0, vv_A 56), (1, vv_I (rl_enc (K.1 r) : Int)), (2, vv_I (nd : Int)), (3, vv_L (lef K.1 (plw K.2.2) ps i j num (ps.length - (k + 1)) : Int)), (5, vv_I (k : Int)), (6, vv_I (((K.1 r).getD (k + 1) 0 : Nat) : Int)), (7, vv_I (((ck K.1 (plw K.2.2) ps i j num k).1 : Int))), (8, vv_I (((ck K.1 (plw K.2.2) ps i j num (k + 1)).1 : Int)))]) dx_X3_putParts_89 (by decide) rfl ?_
        refine go_aload_n (i := 0) dx_X3_putParts_91 rfl rfl ?_
        refine go_getA (b := 52) fs_X3_19 rfl (go_ok rfl rfl) rfl dx_X3_putParts_92 ?_
        refine go_iload dx_X3_putParts_95 rfl ?_
        refine go_iload dx_X3_putParts_97 rfl ?_
        refine go_iload dx_X3_putParts_99 rfl ?_
        refine go_cV3 sv_X3_145 (go_ok rfl rfl) dx_X3_putParts_101 (Nat.le_of_ble_eq_true rfl) (Nat.le_of_ble_eq_true rfl) (g_Forest_valueAll tb_ok52 tf_ok52 hb1.2.2.1 hb1.2.2.2 h14 (by omega) (by omega) hcl (by omega) ?_)
        refine go_asL (y := (st (ckp K.1 (plw K.2.2) ps i j num k))) (by rw [hval]) ?_
        refine go_lstore (lv' := [(0, vv_A 56), (1, vv_I (rl_enc (K.1 r) : Int)), (2, vv_I (nd : Int)), (3, vv_L (lef K.1 (plw K.2.2) ps i j num (ps.length - (k + 1)) : Int)), (5, vv_I (k : Int)), (6, vv_I (((K.1 r).getD (k + 1) 0 : Nat) : Int)), (7, vv_I (((ck K.1 (plw K.2.2) ps i j num k).1 : Int))), (8, vv_I (((ck K.1 (plw K.2.2) ps i j num (k + 1)).1 : Int))), (9, vv_L (st (ckp K.1 (plw K.2.2) ps i j num k)))]) dx_X3_putParts_104 (by decide) rfl ?_
        by_cases hcM : ckp K.1 (plw K.2.2) ps i j num k ≤ MX
        · have hst := st_le hcM
          rw [hst] at tail ⊢
          refine go_aload_n (i := 0) dx_X3_putParts_106 rfl rfl ?_
          refine go_lload dx_X3_putParts_107 rfl ?_
          refine go_lconst (x := 0) dx_X3_putParts_109 rfl ?_
          refine go_lcmp_le (tgt := 121) dx_X3_putParts_110 dx_X3_putParts_111 rfl (by omega) (by omega) (fun c110 => by exact absurd c110 (by omega)) (fun c110 => ?_)
          refine go_lload_n (i := 3) dx_X3_putParts_114 rfl rfl ?_
          refine go_lload dx_X3_putParts_115 rfl ?_
          refine go_lrem dx_X3_putParts_117 (by omega) (by omega) (by omega) (by omega) ?_
          refine go_asL (y := (dgt K.1 (plw K.2.2) ps i j num k : Int)) (by rw [hdg]; rfl) ?_
          refine go_goto (tgt := 122) dx_X3_putParts_118 rfl ?_
          refine go_putL fp_X3_47 rfl rfl (go_ok rfl rfl) dx_X3_putParts_122 ?_
          refine go_lload dx_X3_putParts_125 rfl ?_
          refine go_lconst (x := 0) dx_X3_putParts_127 rfl ?_
          refine go_lcmp_le (tgt := 139) dx_X3_putParts_128 dx_X3_putParts_129 rfl (by omega) (by omega) (fun c128 => by exact absurd c128 (by omega)) (fun c128 => ?_)
          refine go_lload_n (i := 3) dx_X3_putParts_132 rfl rfl ?_
          refine go_lload dx_X3_putParts_133 rfl ?_
          refine go_ldiv dx_X3_putParts_135 (by omega) (by omega) (by omega) (by omega) ?_
          refine go_asL (y := (lef K.1 (plw K.2.2) ps i j num (ps.length - k) : Int)) (by rw [hlf]; rfl) ?_
          refine go_goto (tgt := 140) dx_X3_putParts_136 rfl ?_
          refine go_lstore_n (i := 3) (lv' := [(0, vv_A 56), (1, vv_I (rl_enc (K.1 r) : Int)), (2, vv_I (nd : Int)), (3, vv_L (lef K.1 (plw K.2.2) ps i j num (ps.length - k) : Int)), (5, vv_I (k : Int)), (6, vv_I (((K.1 r).getD (k + 1) 0 : Nat) : Int)), (7, vv_I ((ck K.1 (plw K.2.2) ps i j num k).1 : Int)), (8, vv_I ((ck K.1 (plw K.2.2) ps i j num (k + 1)).1 : Int)), (9, vv_L (ckp K.1 (plw K.2.2) ps i j num k : Int))]) dx_X3_putParts_140 rfl (by decide) rfl ?_
          exact tail
        · have hst := st_gt hcM
          have h0 := hbig hcM
          rw [hlf, hdg, h0, Nat.zero_div, Nat.zero_mod, hst] at tail
          rw [h0, hst]
          refine go_aload_n (i := 0) dx_X3_putParts_106 rfl rfl ?_
          refine go_lload dx_X3_putParts_107 rfl ?_
          refine go_lconst (x := 0) dx_X3_putParts_109 rfl ?_
          refine go_lcmp_le (tgt := 121) dx_X3_putParts_110 dx_X3_putParts_111 rfl (by omega) (by omega) (fun c110 => ?_) (fun c110 => by exact absurd c110 (by decide))
          refine go_lconst (x := 0) dx_X3_putParts_121 rfl ?_
          refine go_asL (y := ((0 : Nat) : Int)) (by rfl) ?_
          refine go_putL fp_X3_47 rfl rfl (go_ok rfl rfl) dx_X3_putParts_122 ?_
          refine go_lload dx_X3_putParts_125 rfl ?_
          refine go_lconst (x := 0) dx_X3_putParts_127 rfl ?_
          refine go_lcmp_le (tgt := 139) dx_X3_putParts_128 dx_X3_putParts_129 rfl (by omega) (by omega) (fun c128 => ?_) (fun c128 => by exact absurd c128 (by decide))
          refine go_lconst (x := 0) dx_X3_putParts_139 rfl ?_
          refine go_asL (y := ((0 : Nat) : Int)) (by rfl) ?_
          refine go_lstore_n (i := 3) (lv' := [(0, vv_A 56), (1, vv_I (rl_enc (K.1 r) : Int)), (2, vv_I (nd : Int)), (3, vv_L ((0 : Nat) : Int)), (5, vv_I (k : Int)), (6, vv_I (((K.1 r).getD (k + 1) 0 : Nat) : Int)), (7, vv_I ((ck K.1 (plw K.2.2) ps i j num k).1 : Int)), (8, vv_I ((ck K.1 (plw K.2.2) ps i j num (k + 1)).1 : Int)), (9, vv_L (-7))]) dx_X3_putParts_140 rfl (by decide) rfl ?_
          exact tail
      ) (fun δ1 hI lv0 e0 => by
        subst e0
        refine go_iload dx_X3_putParts_54 rfl ?_
        refine go_if_lt (tgt := 166) dx_X3_putParts_56 rfl (by omega) (fun c56 => ?_) (fun c56 => by exact absurd c56 (by omega))
        refine go_vreturn dx_X3_putParts_166 rfl (Nat.le_refl _) (Nat.le_refl _) ?_
        have e := hI.2.1
        rw [Nat.sub_zero, hpl] at e
        exact hQ δ1 e hI.2.2.2
      )
    refine go_aload_n (i := 0) dx_X3_putParts_41 rfl rfl ?_
    refine go_getL fs_X3_47 rfl (go_ok rfl rfl) dx_X3_putParts_42 ?_
    refine go_asL (y := (lef K.1 (plw K.2.2) ps i j num 0 : Int)) (by exact hc.2.2.2.2.2) ?_
    refine go_lstore_n (i := 3) (lv' := [(0, vv_A 56), (1, vv_I (rl_enc (K.1 r) : Int)), (2, vv_I (nd : Int)), (3, vv_L (lef K.1 (plw K.2.2) ps i j num 0 : Int))]) dx_X3_putParts_45 rfl (by decide) rfl ?_
    refine go_iload_n (i := 1) dx_X3_putParts_46 rfl rfl ?_
    refine go_cS1 ss_X3_123 dx_X3_putParts_47 (Nat.le_of_ble_eq_true rfl) (Nat.le_of_ble_eq_true rfl) (g_sizeOf (hR r) ?_)
    refine go_iconst dx_X3_putParts_50 ?_
    refine go_isub dx_X3_putParts_51 ?_
    rw [← hpl]
    refine go_istore (lv' := [(0, vv_A 56), (1, vv_I (rl_enc (K.1 r) : Int)), (2, vv_I (nd : Int)), (3, vv_L (lef K.1 (plw K.2.2) ps i j num 0 : Int)), (5, vv_I ((ps.length : Int) - 1))]) dx_X3_putParts_52 (by decide) rfl ?_
    refine loop ps.length δ ⟨Nat.le_refl _, ?_, ?_, fun _ _ _ _ _ => rfl⟩ _ (by rw [Nat.sub_self])
    · rw [Nat.sub_self]; exact hs
    · rw [Nat.sub_self]; exact Nat.le_refl _
  · have e2 : (K.1 r).length = 2 := by omega
    have hc := hc2 e2
    rw [if_pos e2] at hQ
    have h1d := rl_getD_lt (hR r) (k := 1) (by omega)
    refine go_iload_n (i := 1) dx_X3_putParts_8 rfl rfl ?_
    refine go_iconst dx_X3_putParts_9 ?_
    refine go_asI (y := ((0 : Nat) : Int)) (by rfl) ?_
    refine go_cS2 ss_X3_126 dx_X3_putParts_10 (Nat.le_of_ble_eq_true rfl) (Nat.le_of_ble_eq_true rfl) (g_partOf (hR r) (by omega) ?_)
    refine go_asI (y := (((K.1 r).getD 1 0 : Nat) : Int)) (by rfl) ?_
    refine go_bipush dx_X3_putParts_13 rfl ?_
    refine go_icmp_ge (tgt := 40) dx_X3_putParts_15 rfl (by omega) (by omega) (fun c15 => ?_) (fun c15 => ?_)
    · refine go_vreturn dx_X3_putParts_40 rfl (Nat.le_refl _) (Nat.le_refl _) ?_
      rw [if_neg (by omega)] at hQ
      exact hQ δ hs (fun _ _ _ _ _ => rfl)
    · refine go_aload_n (i := 0) dx_X3_putParts_18 rfl rfl ?_
      refine go_iload_n (i := 1) dx_X3_putParts_19 rfl rfl ?_
      refine go_iconst dx_X3_putParts_20 ?_
      refine go_asI (y := ((0 : Nat) : Int)) (by rfl) ?_
      refine go_cS2 ss_X3_126 dx_X3_putParts_21 (Nat.le_of_ble_eq_true rfl) (Nat.le_of_ble_eq_true rfl) (g_partOf (hR r) (by omega) ?_)
      refine go_asI (y := (((K.1 r).getD 1 0 : Nat) : Int)) (by rfl) ?_
      refine go_aload_n (i := 0) dx_X3_putParts_24 rfl rfl ?_
      refine go_getI fs_X3_100 (Or.inl rfl) (go_ok rfl rfl) dx_X3_putParts_25 ?_
      refine go_asI (y := (i : Int)) (by exact hc.2.1) ?_
      refine go_aload_n (i := 0) dx_X3_putParts_28 rfl rfl ?_
      refine go_getI fs_X3_103 (Or.inl rfl) (go_ok rfl rfl) dx_X3_putParts_29 ?_
      refine go_asI (y := (j : Int)) (by exact hc.2.2.1) ?_
      refine go_aload_n (i := 0) dx_X3_putParts_32 rfl rfl ?_
      refine go_getI fs_X3_106 (Or.inl rfl) (go_ok rfl rfl) dx_X3_putParts_33 ?_
      refine go_asI (y := ((b ||| 2 ^ x : Nat) : Int)) (by exact hc.2.2.2.1) ?_
      refine go_iload_n (i := 2) dx_X3_putParts_36 rfl rfl ?_
      refine go_cV5 sv_X3_59 (go_ok rfl rfl) dx_X3_putParts_37 (Nat.le_of_ble_eq_true rfl) (Nat.le_of_ble_eq_true rfl) (g_Listing_putWaiting hs (by omega) hc.2.2.2.2.2 (fun δ1 h1 f1 => ?_))
      refine go_vreturn dx_X3_putParts_40 rfl (Nat.le_refl _) (Nat.le_refl _) ?_
      rw [if_pos (by omega)] at hQ
      exact hQ δ1 h1 (fun c q a1 a2 a3 => f1 c q a1 a2 (fun w => (a3 w).1))
end GLISTD
