/-! states to go back to -/
def pa_at (δ : Nat → Nat → Int) (ps : List sK) : Prop := ps.length ≤ 10 ∧ ∃ nw : Nat, nw < 10 ∧ δ 5 3 = (nw : Int) ∧ δ 5 4 = (ps.length : Int) ∧ ∀ k (h : k < ps.length), td_at δ (7 + 2 * ((nw + 10 - k) % 10)) ps[k]
def im_at (δ : Nat → Nat → Int) (im : Nat → Option sK) : Prop := ∀ i, i < 2 → (im i = none ∧ δ 32 i = 0) ∨ ∃ K, im i = some K ∧ δ 32 i = 1 ∧ td_at δ (28 + 2 * i) K
theorem pa_tok : ∀ i, i < 10 → td_ok (7 + 2 * i) := by unfold td_ok; decide +kernel
theorem im_tok : ∀ i, i < 2 → td_ok (28 + 2 * i) := by unfold td_ok; decide +kernel
theorem td_ok3 : td_ok 3 := by unfold td_ok; decide +kernel
theorem pa_rf : ∀ i, i < 10 → go_rf 6 i = 7 + 2 * i + 1 := by decide +kernel
theorem im_rf : ∀ i, i < 2 → go_rf 27 i = 28 + 2 * i + 1 := by decide +kernel
/-- the cells that pa_at speaks of -/
def pa_S : List Nat := [5, 7, 8, 9, 10, 11, 12, 13, 14, 15, 16, 17, 18, 19, 20, 21, 22, 23, 24, 25, 26]
theorem pa_in : ∀ i, i < 10 → 7 + 2 * i ∈ pa_S ∧ 7 + 2 * i + 1 ∈ pa_S := by decide +kernel
theorem pa_fr {δ δ' : Nat → Nat → Int} {ps : List sK} {S : List Nat} (h : pa_at δ ps) (f : fr S δ δ') (hd : ∀ c ∈ pa_S, c ∉ S) : pa_at δ' ps := by
  obtain ⟨h1, nw, h2, h3, h4, h5⟩ := h
  have h5' := hd 5 (by decide)
  refine ⟨h1, nw, h2, by rw [f _ h5']; exact h3, by rw [f _ h5']; exact h4, fun k hk => ?_⟩
  have hi := pa_in ((nw + 10 - k) % 10) (Nat.mod_lt _ (by decide))
  exact td_fr (h5 k hk) f (hd _ hi.1) (hd _ hi.2)
theorem im_fr {δ δ' : Nat → Nat → Int} {im : Nat → Option sK} {S : List Nat} (h : im_at δ im) (f : fr S δ δ') (hd : ∀ c ∈ [28, 29, 30, 31, 32], c ∉ S) : im_at δ' im := by
  intro i hi
  have h32 := hd 32 (by decide)
  have : 28 + 2 * i ∈ [28, 29, 30, 31, 32] ∧ 28 + 2 * i + 1 ∈ [28, 29, 30, 31, 32] := by
    rcases (show i = 0 ∨ i = 1 by omega) with rfl | rfl <;> decide
  rcases h i hi with ⟨h1, h2⟩ | ⟨K, h1, h2, h3⟩
  · exact Or.inl ⟨h1, by rw [f _ h32]; exact h2⟩
  · exact Or.inr ⟨K, h1, by rw [f _ h32]; exact h2, td_fr h3 f (hd _ this.1) (hd _ this.2)⟩
section GPAST
variable {E : go_E} {d : Nat} {δ : Nat → Nat → Int} {Q : List go_V → go_F → (Nat → Nat → Int) → Prop} {K : sK} {ps : List sK}
theorem g_Past_stateAt {a b : Nat} {i : Int} (ha : go_kd a = 23 ∧ a < go_φ.1) (h0 : 0 ≤ i) (h1 : i < go_ln a) (hb : go_rf a i.toNat = b + 1) (hQ : Q [vv_A b] go_φ δ) :
    Go E d (0, 0) mx_X5_stateAt go_φ 0 [(0, vv_A a), (1, vv_I i)] [] δ Q := by
  have hl := go_ln_small a
  have ha' : (go_kd a = 20 ∨ go_kd a = 21 ∨ go_kd a = 22 ∨ go_kd a = 23) ∧ a < go_φ.1 := ⟨Or.inr (Or.inr (Or.inr ha.1)), ha.2⟩
  refine go_iload_n (i := 1) dx_X5_stateAt_0 rfl rfl ?_
  refine go_if_lt (tgt := 16) dx_X5_stateAt_1 rfl (by omega) (fun c1 => by exact absurd c1 (by omega)) (fun c1 => ?_)
  refine go_iload_n (i := 1) dx_X5_stateAt_4 rfl rfl ?_
  refine go_aload_n (i := 0) dx_X5_stateAt_5 rfl rfl ?_
  refine go_arraylength dx_X5_stateAt_6 (by assumption) ?_
  refine go_icmp_ge (tgt := 16) dx_X5_stateAt_7 rfl (by omega) (by omega) (fun c7 => by exact absurd c7 (by omega)) (fun c7 => ?_)
  refine go_aload_n (i := 0) dx_X5_stateAt_10 rfl rfl ?_
  refine go_iload_n (i := 1) dx_X5_stateAt_11 rfl rfl ?_
  refine go_aaload dx_X5_stateAt_12 ha h0 h1 hb ?_
  refine go_goto (tgt := 17) dx_X5_stateAt_13 rfl ?_
  refine go_areturn dx_X5_stateAt_17 rfl (Nat.le_refl _) (Nat.le_refl _) ?_
  exact hQ
theorem g_Past_keep (h : pa_at δ ps) (ht : td_at δ 3 K) (hQ : ∀ δ', pa_at δ' ((K :: ps).take 10) → fr pa_S δ δ' → Q [] go_φ δ') :
    Go E (d + 3) (0, 0) mx_X5_keep go_φ 0 [(0, vv_A 5), (1, vv_A 3)] [] δ Q := by
  obtain ⟨h1, nw, h2, h3, h4, h5⟩ := h
  have key : ∀ (v : Int) (m : Nat), v = (m : Int) → m = (nw + 1) % 10 → Go E (d + 3) (0, 0) mx_X5_keep go_φ 22 [(0, vv_A 5), (1, vv_A 3)] [vv_I v, vv_A 5] δ Q := by
    intro v m hv hm
    have hm10 : m < 10 := by omega
    subst hv
    have hln : go_ln 6 = 10 := rfl
    have hkk := (pa_tok m hm10).1
    refine go_putI fp_X5_25 rfl rfl (go_ok rfl rfl) dx_X5_keep_22 ?_
    refine go_aload_n (i := 0) dx_X5_keep_25 rfl rfl ?_
    refine go_getA (b := 6) fs_X5_11 rfl (go_ok rfl rfl) rfl dx_X5_keep_26 ?_
    refine go_aload_n (i := 0) dx_X5_keep_29 rfl rfl ?_
    refine go_getI fs_X5_25 (Or.inl rfl) (go_ok rfl rfl) dx_X5_keep_30 ?_
    refine go_cS2 ss_X5_29 dx_X5_keep_33 (Nat.le_of_ble_eq_true rfl) (Nat.le_of_ble_eq_true rfl) (g_Past_stateAt (b := 7 + 2 * m) (go_ok rfl rfl) (by rw [wr_eq]; omega) (by rw [wr_eq]; omega) (by rw [wr_eq]; exact pa_rf m hm10) ?_)
    refine go_astore_n (i := 2) (lv' := [(0, vv_A 5), (1, vv_A 3), (2, vv_A (7 + 2 * m))]) dx_X5_keep_36 rfl (by decide) rfl ?_
    refine go_aload_n (i := 2) dx_X5_keep_37 rfl rfl ?_
    refine go_ifnull dx_X5_keep_38 ?_
    refine go_aload_n (i := 2) dx_X5_keep_41 rfl rfl ?_
    refine go_aload_n (i := 1) dx_X5_keep_42 rfl rfl ?_
    refine go_cV1 sv_X5_33 (by assumption) dx_X5_keep_43 (Nat.le_of_ble_eq_true rfl) (Nat.le_of_ble_eq_true rfl) (g_Told_takeFrom (K := K) (pa_tok m hm10) td_ok3 (by omega) (td_fr ht (fr_wr (S := [5]) (by decide)) (by decide) (by decide)) (fun δ2 h6 f6 => ?_))
    refine go_aload_n (i := 0) dx_X5_keep_46 rfl rfl ?_
    refine go_aload_n (i := 0) dx_X5_keep_47 rfl rfl ?_
    refine go_getI fs_X5_37 (Or.inl rfl) (go_ok rfl rfl) dx_X5_keep_48 ?_
    refine go_iconst dx_X5_keep_51 ?_
    refine go_iadd dx_X5_keep_52 ?_
    refine go_bipush dx_X5_keep_53 rfl ?_
    refine go_mminI mm_X5_40 dx_X5_keep_55 (by first | omega | ((first | omega | (rw [f6 5 (by simp; omega) 4, wr_i _ _ _ _ (by decide), h4]; omega)))) (by first | omega | ((first | omega | (rw [f6 5 (by simp; omega) 4, wr_i _ _ _ _ (by decide), h4]; omega)))) (Nat.le_of_ble_eq_true rfl) (Nat.le_refl _) (Nat.le_refl _) ?_
    refine go_putI fp_X5_37 rfl rfl (go_ok rfl rfl) dx_X5_keep_58 ?_
    refine go_vreturn dx_X5_keep_61 rfl (Nat.le_refl _) (Nat.le_refl _) ?_
    have e4 : δ2 5 4 = (ps.length : Int) := by rw [f6 5 (by simp; omega) 4, wr_i _ _ _ _ (by decide), h4]
    have fin : fr pa_S δ δ2 := fr_trs (fr_wr (by decide)) (fr_up f6 (fun b hb => by
      rcases List.mem_cons.mp hb with rfl | hb
      · exact (pa_in m hm10).1
      · rw [List.mem_singleton.mp hb]; exact (pa_in m hm10).2))
    refine hQ _ ⟨by simp; omega, m, hm10, ?_, ?_, fun k hk => ?_⟩ (fr_trs fin (fr_wr (by decide)))
    · rw [wr_i _ _ _ _ (by decide), f6 5 (by simp; omega) 3, wr_eq]
    · rw [wr_eq, e4, List.length_take, List.length_cons]
      split <;> omega
    · rw [List.length_take, List.length_cons] at hk
      refine td_fr ?_ (fr_wr (S := [5]) (by decide)) (by simp; omega) (by simp; omega)
      cases k with
      | zero =>
        have : (m + 10 - 0) % 10 = m := by omega
        rw [this]
        simpa using h6
      | succ k =>
        have hk' : k < ps.length := by omega
        have e : ((K :: ps).take 10)[k + 1]'(by simp; omega) = ps[k] := by simp
        rw [e]
        have e2 : (m + 10 - (k + 1)) % 10 = (nw + 10 - k) % 10 := by omega
        rw [e2]
        have hlt : (nw + 10 - k) % 10 < 10 := Nat.mod_lt _ (by decide)
        have hne : (nw + 10 - k) % 10 ≠ m := by omega
        refine td_fr (td_fr (h5 k hk') (fr_wr (S := [5]) (by decide)) (by simp; omega) (by simp; omega)) f6 ?_ ?_
        · simp; omega
        · simp; omega
  refine go_aload_n (i := 0) dx_X5_keep_0 rfl rfl ?_
  refine go_aload_n (i := 0) dx_X5_keep_1 rfl rfl ?_
  refine go_getI fs_X5_25 (Or.inl rfl) (go_ok rfl rfl) dx_X5_keep_2 ?_
  refine go_iconst dx_X5_keep_5 ?_
  refine go_iadd dx_X5_keep_6 ?_
  refine go_bipush dx_X5_keep_7 rfl ?_
  refine go_icmp_ge (tgt := 21) dx_X5_keep_9 rfl (by omega) (by omega) (fun c9 => ?_) (fun c9 => ?_)
  · refine go_iconst dx_X5_keep_21 ?_
    first | exact key _ (nw + 1) (by rw [h3]; omega) (by rw [h3] at c9; omega) | exact key _ 0 rfl (by rw [h3] at c9; omega)
  · refine go_aload_n (i := 0) dx_X5_keep_12 rfl rfl ?_
    refine go_getI fs_X5_25 (Or.inl rfl) (go_ok rfl rfl) dx_X5_keep_13 ?_
    refine go_iconst dx_X5_keep_16 ?_
    refine go_iadd dx_X5_keep_17 ?_
    refine go_goto (tgt := 22) dx_X5_keep_18 rfl ?_
    first | exact key _ (nw + 1) (by rw [h3]; omega) (by rw [h3] at c9; omega) | exact key _ 0 rfl (by rw [h3] at c9; omega)
theorem g_Past_goBack {n : Nat} (h : pa_at δ ps) (ht : td_at δ 3 K) (h1 : 1 ≤ n) (hn : n ≤ ps.length) (hQ : ∀ δ', td_at δ' 3 (ps[n - 1]'(by omega)) → pa_at δ' (ps.drop n) → fr [3, 4, 5] δ δ' → Q [] go_φ δ') :
    Go E (d + 3) (0, 0) mx_X5_goBack go_φ 0 [(0, vv_A 5), (1, vv_A 3), (2, vv_I (n : Int))] [] δ Q := by
  obtain ⟨h2, nw, h3, h4, h5, h6⟩ := h
  have key : ∀ (v : Int) (m : Nat), v = (m : Int) → m = (nw + 10 - (n - 1)) % 10 → ∀ w, Go E (d + 3) (0, 0) mx_X5_goBack go_φ 21 [(0, vv_A 5), (1, vv_A 3), (2, vv_I (n : Int)), (3, vv_I w)] [vv_I v] δ Q := by
    intro v m hv hm w
    have hm10 : m < 10 := by omega
    subst hv
    have hln : go_ln 6 = 10 := rfl
    have hsrc := h6 (n - 1) (by omega)
    rw [← hm] at hsrc
    have fin : ∀ (δ2 : Nat → Nat → Int) (z : Int), td_at δ2 3 (ps[n - 1]'(by omega)) → fr [3, 4] δ δ2 → z = ((nw + 10 - n) % 10 : Nat) → Q [] go_φ (wr (wr δ2 5 3 z) 5 4 (δ2 5 4 - (n : Int))) := by
      intro δ2 z g1 g2 g3
      refine hQ _ (td_fr (td_fr g1 (fr_wr (S := [5]) (by decide)) (by decide) (by decide)) (fr_wr (S := [5]) (by decide)) (by decide) (by decide)) ⟨by rw [List.length_drop]; omega, (nw + 10 - n) % 10, Nat.mod_lt _ (by decide), ?_, ?_, fun k hk => ?_⟩ (fr_trs (fr_trs (fr_up g2 (by decide)) (fr_wr (by decide))) (fr_wr (by decide)))
      · rw [wr_i _ _ _ _ (by decide), wr_eq, g3]
      · rw [wr_eq, List.length_drop, g2 5 (by decide), h5]; omega
      · rw [List.length_drop] at hk
        have hk' : n + k < ps.length := by omega
        have e2 : ((nw + 10 - n) % 10 + 10 - k) % 10 = (nw + 10 - (n + k)) % 10 := by omega
        have e : (ps.drop n)[k]'(by rw [List.length_drop]; omega) = ps[n + k] := by simp
        rw [e, e2]
        refine td_fr (td_fr (td_fr (h6 (n + k) hk') g2 ?_ ?_) (fr_wr (S := [5]) (by decide)) ?_ ?_) (fr_wr (S := [5]) (by decide)) ?_ ?_ <;> simp <;> omega
    refine go_istore_n (i := 3) (lv' := [(0, vv_A 5), (1, vv_A 3), (2, vv_I (n : Int)), (3, vv_I (m : Int))]) dx_X5_goBack_21 rfl (by decide) rfl ?_
    refine go_aload_n (i := 0) dx_X5_goBack_22 rfl rfl ?_
    refine go_getA (b := 6) fs_X5_11 rfl (go_ok rfl rfl) rfl dx_X5_goBack_23 ?_
    refine go_iload_n (i := 3) dx_X5_goBack_26 rfl rfl ?_
    refine go_cS2 ss_X5_29 dx_X5_goBack_27 (Nat.le_of_ble_eq_true rfl) (Nat.le_of_ble_eq_true rfl) (g_Past_stateAt (b := 7 + 2 * m) (go_ok rfl rfl) (by omega) (by omega) (pa_rf m hm10) ?_)
    refine go_astore (lv' := [(0, vv_A 5), (1, vv_A 3), (2, vv_I (n : Int)), (3, vv_I (m : Int)), (4, vv_A (7 + 2 * m))]) dx_X5_goBack_30 (by decide) rfl ?_
    refine go_aload dx_X5_goBack_32 rfl ?_
    refine go_ifnonnull (tgt := 38) dx_X5_goBack_34 rfl ?_
    refine go_aload_n (i := 1) dx_X5_goBack_38 rfl rfl ?_
    refine go_aload dx_X5_goBack_39 rfl ?_
    refine go_cV1 sv_X5_33 (go_ok rfl rfl) dx_X5_goBack_41 (Nat.le_of_ble_eq_true rfl) (Nat.le_of_ble_eq_true rfl) (g_Told_takeFrom (K := ps[n - 1]'(by omega)) td_ok3 (pa_tok m hm10) (by omega) hsrc (fun δ2 h7 f7 => ?_))
    refine go_aload_n (i := 0) dx_X5_goBack_44 rfl rfl ?_
    refine go_iload_n (i := 3) dx_X5_goBack_45 rfl rfl ?_
    refine go_if_le (tgt := 55) dx_X5_goBack_46 rfl (by omega) (fun c46 => ?_) (fun c46 => ?_)
    · refine go_bipush dx_X5_goBack_55 rfl ?_
      refine go_putI fp_X5_25 rfl rfl (go_ok rfl rfl) dx_X5_goBack_57 ?_
      refine go_aload_n (i := 0) dx_X5_goBack_60 rfl rfl ?_
      refine go_dup dx_X5_goBack_61 rfl ?_
      refine go_getI fs_X5_37 (Or.inl rfl) (go_ok rfl rfl) dx_X5_goBack_62 ?_
      refine go_iload_n (i := 2) dx_X5_goBack_65 rfl rfl ?_
      refine go_isub dx_X5_goBack_66 ?_
      refine go_putI fp_X5_37 rfl rfl (go_ok rfl rfl) dx_X5_goBack_67 ?_
      refine go_vreturn dx_X5_goBack_70 rfl (Nat.le_refl _) (Nat.le_refl _) ?_
      rw [show (wr δ2 5 3 _) 5 4 = δ2 5 4 from wr_i _ _ _ _ (by decide)]
      exact fin δ2 _ h7 f7 (by omega)
    · refine go_iload_n (i := 3) dx_X5_goBack_49 rfl rfl ?_
      refine go_iconst dx_X5_goBack_50 ?_
      refine go_isub dx_X5_goBack_51 ?_
      refine go_goto (tgt := 57) dx_X5_goBack_52 rfl ?_
      refine go_putI fp_X5_25 rfl rfl (go_ok rfl rfl) dx_X5_goBack_57 ?_
      refine go_aload_n (i := 0) dx_X5_goBack_60 rfl rfl ?_
      refine go_dup dx_X5_goBack_61 rfl ?_
      refine go_getI fs_X5_37 (Or.inl rfl) (go_ok rfl rfl) dx_X5_goBack_62 ?_
      refine go_iload_n (i := 2) dx_X5_goBack_65 rfl rfl ?_
      refine go_isub dx_X5_goBack_66 ?_
      refine go_putI fp_X5_37 rfl rfl (go_ok rfl rfl) dx_X5_goBack_67 ?_
      refine go_vreturn dx_X5_goBack_70 rfl (Nat.le_refl _) (Nat.le_refl _) ?_
      rw [show (wr δ2 5 3 _) 5 4 = δ2 5 4 from wr_i _ _ _ _ (by decide)]
      exact fin δ2 _ h7 f7 (by omega)
  refine go_aload_n (i := 0) dx_X5_goBack_0 rfl rfl ?_
  refine go_getI fs_X5_25 (Or.inl rfl) (go_ok rfl rfl) dx_X5_goBack_1 ?_
  refine go_iload_n (i := 2) dx_X5_goBack_4 rfl rfl ?_
  refine go_iconst dx_X5_goBack_5 ?_
  refine go_isub dx_X5_goBack_6 ?_
  refine go_isub dx_X5_goBack_7 ?_
  refine go_nmI (fun x8_1 ex8_1 => ?_)
  refine go_istore_n (i := 3) (lv' := [(0, vv_A 5), (1, vv_A 3), (2, vv_I (n : Int)), (3, vv_I x8_1)]) dx_X5_goBack_8 rfl (by decide) rfl ?_
  refine go_iload_n (i := 3) dx_X5_goBack_9 rfl rfl ?_
  refine go_if_ge (tgt := 20) dx_X5_goBack_10 rfl (by first | omega | (rw [ex8_1, h4]; omega)) (fun c10 => ?_) (fun c10 => ?_)
  · refine go_iload_n (i := 3) dx_X5_goBack_20 rfl rfl ?_
    first | exact key _ (nw + 10 - (n - 1)) (by rw [ex8_1, h4]; omega) (by rw [ex8_1, h4] at c10; omega) _ | exact key _ (nw - (n - 1)) (by rw [ex8_1, h4] at c10 ⊢; omega) (by rw [ex8_1, h4] at c10; omega) _
  · refine go_iload_n (i := 3) dx_X5_goBack_13 rfl rfl ?_
    refine go_bipush dx_X5_goBack_14 rfl ?_
    refine go_iadd dx_X5_goBack_16 ?_
    refine go_goto (tgt := 21) dx_X5_goBack_17 rfl ?_
    first | exact key _ (nw + 10 - (n - 1)) (by rw [ex8_1, h4]; omega) (by rw [ex8_1, h4] at c10; omega) _ | exact key _ (nw - (n - 1)) (by rw [ex8_1, h4] at c10 ⊢; omega) (by rw [ex8_1, h4] at c10; omega) _
theorem g_Past_makeImage {i : Nat} {im : Nat → Option sK} (h : im_at δ im) (ht : td_at δ 3 K) (hi : i < 2) (hQ : ∀ δ', im_at δ' (fun j => if j = i then some K else im j) → fr [28, 29, 30, 31, 32] δ δ' → Q [] go_φ δ') :
    Go E (d + 3) (0, 0) mx_X5_makeImage go_φ 0 [(0, vv_A 5), (1, vv_A 3), (2, vv_I (i : Int))] [] δ Q := by
  have hln : go_ln 27 = 2 := rfl
  have hlm : go_ln 32 = 2 := rfl
  have hkk := (im_tok i hi).1
  have hin : ∀ i, i < 2 → 28 + 2 * i ∈ [28, 29, 30, 31, 32] ∧ 28 + 2 * i + 1 ∈ [28, 29, 30, 31, 32] := by decide
  refine go_aload_n (i := 0) dx_X5_makeImage_0 rfl rfl ?_
  refine go_getA (b := 27) fs_X5_18 rfl (go_ok rfl rfl) rfl dx_X5_makeImage_1 ?_
  refine go_iload_n (i := 2) dx_X5_makeImage_4 rfl rfl ?_
  refine go_cS2 ss_X5_29 dx_X5_makeImage_5 (Nat.le_of_ble_eq_true rfl) (Nat.le_of_ble_eq_true rfl) (g_Past_stateAt (b := 28 + 2 * i) (go_ok rfl rfl) (by omega) (by omega) (im_rf i hi) ?_)
  refine go_astore_n (i := 3) (lv' := [(0, vv_A 5), (1, vv_A 3), (2, vv_I (i : Int)), (3, vv_A (28 + 2 * i))]) dx_X5_makeImage_8 rfl (by decide) rfl ?_
  refine go_aload_n (i := 3) dx_X5_makeImage_9 rfl rfl ?_
  refine go_ifnull dx_X5_makeImage_10 ?_
  refine go_iload_n (i := 2) dx_X5_makeImage_13 rfl rfl ?_
  refine go_aload_n (i := 0) dx_X5_makeImage_14 rfl rfl ?_
  refine go_getA (b := 32) fs_X5_21 rfl (go_ok rfl rfl) rfl dx_X5_makeImage_15 ?_
  refine go_arraylength dx_X5_makeImage_18 ⟨(Or.inr (Or.inr (Or.inl rfl))), by decide⟩ ?_
  refine go_icmp_ge (tgt := 34) dx_X5_makeImage_19 rfl (by omega) (by omega) (fun c19 => by exact absurd c19 (by omega)) (fun c19 => ?_)
  refine go_aload_n (i := 3) dx_X5_makeImage_22 rfl rfl ?_
  refine go_aload_n (i := 1) dx_X5_makeImage_23 rfl rfl ?_
  refine go_cV1 sv_X5_33 (by assumption) dx_X5_makeImage_24 (Nat.le_of_ble_eq_true rfl) (Nat.le_of_ble_eq_true rfl) (g_Told_takeFrom (K := K) (im_tok i hi) td_ok3 (by omega) ht (fun δ2 h7 f7 => ?_))
  refine go_aload_n (i := 0) dx_X5_makeImage_27 rfl rfl ?_
  refine go_getA (b := 32) fs_X5_21 rfl (go_ok rfl rfl) rfl dx_X5_makeImage_28 ?_
  refine go_iload_n (i := 2) dx_X5_makeImage_31 rfl rfl ?_
  refine go_iconst dx_X5_makeImage_32 ?_
  refine go_bastore dx_X5_makeImage_33 (go_ok rfl rfl) (by first | omega | (first | omega | exact Or.inr rfl)) (by first | omega | (first | omega | exact Or.inr rfl)) (by first | omega | (first | omega | exact Or.inr rfl)) ?_
  refine go_vreturn dx_X5_makeImage_34 rfl (Nat.le_refl _) (Nat.le_refl _) ?_
  refine hQ _ (fun j hj => ?_) (fr_trs (fr_up f7 (fun b hb => by
    rcases List.mem_cons.mp hb with rfl | hb
    · exact (hin i hi).1
    · rw [List.mem_singleton.mp hb]; exact (hin i hi).2)) (fr_wr (by decide)))
  rw [Int.toNat_natCast]
  by_cases e : j = i
  · subst e
    exact Or.inr ⟨K, by simp, wr_eq _ _ _ _, td_fr h7 (fr_wr (S := [32]) (by decide)) (by simp; omega) (by simp; omega)⟩
  · rcases h j hj with ⟨g1, g2⟩ | ⟨K', g1, g2, g3⟩
    · exact Or.inl ⟨by simp [e, g1], by rw [wr_i _ _ _ _ e, f7 32 (by simp; omega)]; exact g2⟩
    · refine Or.inr ⟨K', by simp [e, g1], by rw [wr_i _ _ _ _ e, f7 32 (by simp; omega)]; exact g2, td_fr (td_fr g3 f7 (by simp; omega) (by simp; omega)) (fr_wr (S := [32]) (by decide)) (by simp; omega) (by simp; omega)⟩
theorem g_Past_takeImage {i : Nat} {im : Nat → Option sK} (h : im_at δ im) (hp : pa_at δ ps) (hi : i < 2) (h0 : im i = none → Q [vv_I 0] go_φ δ)
    (hQ : ∀ K δ', im i = some K → td_at δ' 3 K → pa_at δ' [] → fr [3, 4, 5] δ δ' → Q [vv_I 1] go_φ δ') :
    Go E (d + 3) (0, 0) mx_X5_takeImage go_φ 0 [(0, vv_A 5), (1, vv_A 3), (2, vv_I (i : Int))] [] δ Q := by
  have hln : go_ln 27 = 2 := rfl
  have hlm : go_ln 32 = 2 := rfl
  have hc := h i hi
  refine go_aload_n (i := 0) dx_X5_takeImage_0 rfl rfl ?_
  refine go_getA (b := 27) fs_X5_18 rfl (go_ok rfl rfl) rfl dx_X5_takeImage_1 ?_
  refine go_iload_n (i := 2) dx_X5_takeImage_4 rfl rfl ?_
  refine go_cS2 ss_X5_29 dx_X5_takeImage_5 (Nat.le_of_ble_eq_true rfl) (Nat.le_of_ble_eq_true rfl) (g_Past_stateAt (b := 28 + 2 * i) (go_ok rfl rfl) (by omega) (by omega) (im_rf i hi) ?_)
  refine go_astore_n (i := 3) (lv' := [(0, vv_A 5), (1, vv_A 3), (2, vv_I (i : Int)), (3, vv_A (28 + 2 * i))]) dx_X5_takeImage_8 rfl (by decide) rfl ?_
  refine go_aload_n (i := 3) dx_X5_takeImage_9 rfl rfl ?_
  refine go_ifnull dx_X5_takeImage_10 ?_
  refine go_iload_n (i := 2) dx_X5_takeImage_13 rfl rfl ?_
  refine go_aload_n (i := 0) dx_X5_takeImage_14 rfl rfl ?_
  refine go_getA (b := 32) fs_X5_21 rfl (go_ok rfl rfl) rfl dx_X5_takeImage_15 ?_
  refine go_arraylength dx_X5_takeImage_18 ⟨(Or.inr (Or.inr (Or.inl rfl))), by decide⟩ ?_
  refine go_icmp_ge (tgt := 31) dx_X5_takeImage_19 rfl (by omega) (by omega) (fun c19 => by exact absurd c19 (by omega)) (fun c19 => ?_)
  refine go_aload_n (i := 0) dx_X5_takeImage_22 rfl rfl ?_
  refine go_getA (b := 32) fs_X5_21 rfl (go_ok rfl rfl) rfl dx_X5_takeImage_23 ?_
  refine go_iload_n (i := 2) dx_X5_takeImage_26 rfl rfl ?_
  refine go_baload dx_X5_takeImage_27 (go_ok rfl rfl) (by omega) (by omega) ?_
  refine go_if_ne (tgt := 33) dx_X5_takeImage_28 rfl (by first | omega | (rw [Int.toNat_natCast]; rcases hc with ⟨g1, g2⟩ | ⟨K, g1, g2, g3⟩ <;> omega)) (fun c28 => ?_) (fun c28 => ?_)
  · rw [Int.toNat_natCast] at c28
    rcases hc with ⟨g1, g2⟩ | ⟨K, g1, g2, g3⟩
    · exact absurd g2 c28
    refine go_aload_n (i := 1) dx_X5_takeImage_33 rfl rfl ?_
    refine go_aload_n (i := 3) dx_X5_takeImage_34 rfl rfl ?_
    refine go_cV1 sv_X5_33 (go_ok rfl rfl) dx_X5_takeImage_35 (Nat.le_of_ble_eq_true rfl) (Nat.le_of_ble_eq_true rfl) (g_Told_takeFrom (K := K) td_ok3 (im_tok i hi) (by omega) g3 (fun δ2 h7 f7 => ?_))
    refine go_aload_n (i := 0) dx_X5_takeImage_38 rfl rfl ?_
    refine go_iconst dx_X5_takeImage_39 ?_
    refine go_putI fp_X5_37 rfl rfl (go_ok rfl rfl) dx_X5_takeImage_40 ?_
    refine go_iconst dx_X5_takeImage_43 ?_
    refine go_zreturn dx_X5_takeImage_44 rfl (by first | omega | (exact Or.inr rfl)) (Nat.le_refl _) (Nat.le_refl _) ?_
    obtain ⟨p1, nw, p2, p3, p4, p5⟩ := hp
    exact hQ K _ g1 (td_fr h7 (fr_wr (S := [5]) (by decide)) (by decide) (by decide)) ⟨by simp, nw, p2, by rw [wr_i _ _ _ _ (by decide), f7 5 (by decide)]; exact p3, by rw [wr_eq]; rfl, fun k hk => by simp at hk⟩ (fr_trs (fr_up f7 (by decide)) (fr_wr (by decide)))
  · refine go_iconst dx_X5_takeImage_31 ?_
    refine go_zreturn dx_X5_takeImage_32 rfl (by first | omega | (exact Or.inl rfl)) (Nat.le_refl _) (Nat.le_refl _) ?_
    rw [Int.toNat_natCast] at c28
    rcases hc with ⟨g1, g2⟩ | ⟨K, g1, g2, g3⟩
    · exact h0 g1
    · rw [g2] at c28; exact absurd c28 (by decide)
end GPAST
