/-! the class's calls: pair, back, rounds, reached, round, last, trees -/
section GXC2
variable {E : go_E} {d : Nat} {δ : Nat → Nat → Int} {Q : List go_V → go_F → (Nat → Nat → Int) → Prop} {S : sS} {R : Nat → List Nat} {Tm : Int}
theorem x_pair {i q : Int} (hi : go_iI i) (hq : go_iI q) (h : xk_at Tm δ S) (hQ : ∀ δ', xk_at Tm δ' S → fc δ δ' → Q [vv_I (oq_pair S.1 i q)] go_φ δ') : Go E (d + 12) (0, 0) mx_X11_pair go_φ 0 [(0, vv_A 0), (1, vv_I i), (2, vv_I q)] [] δ Q := by
  have l34 : go_ln 34 = 64 := rfl
  unfold oq_pair at hQ
  refine go_aload_n (i := 0) dx_X11_pair_0 rfl rfl ?_
  refine go_cV0 sv_X11_183 (go_ok rfl rfl) dx_X11_pair_1 (Nat.le_of_ble_eq_true rfl) (Nat.le_of_ble_eq_true rfl) (g_freshen h (fun δ1 h1 e1 f1 => ?_))
  obtain ⟨hb, hm, hc⟩ := h1.2.2.2.1 e1
  have hQ := hQ δ1 h1 f1
  have hR := hb.2.2.2.2.2.2
  have h64 := gP_le hR
  refine go_iload_n (i := 1) dx_X11_pair_4 rfl rfl ?_
  refine go_if_lt (tgt := 19) dx_X11_pair_5 rfl (by omega) (fun c5 => ?_) (fun c5 => ?_)
  · refine go_bipush dx_X11_pair_19 rfl ?_
    refine go_ireturn dx_X11_pair_21 rfl (Nat.le_refl _) (Nat.le_refl _) ?_
    rw [cif_f (by omega)] at hQ
    exact hQ
  · refine go_iload_n (i := 1) dx_X11_pair_8 rfl rfl ?_
    refine go_aload_n (i := 0) dx_X11_pair_9 rfl rfl ?_
    refine go_getA (b := 33) fs_X11_33 rfl (go_ok rfl rfl) rfl dx_X11_pair_10 ?_
    refine go_getI fs_X11_186 (Or.inl rfl) (go_ok rfl rfl) dx_X11_pair_13 ?_
    refine go_asI (y := ((gP S.1.1).length : Int)) (by exact hb.1.1) ?_
    refine go_icmp_lt (tgt := 22) dx_X11_pair_16 rfl (by omega) (by omega) (fun c16 => ?_) (fun c16 => ?_)
    · obtain ⟨m, rfl⟩ : ∃ m : Nat, i = (m : Int) := ⟨i.toNat, by omega⟩
      have hm : m < (gP S.1.1).length := by omega
      rw [Int.toNat_natCast, List.getD_eq_getElem?_getD, List.getElem?_eq_getElem hm, Option.getD_some] at hQ
      obtain ⟨e, he⟩ : ∃ e, (gP S.1.1)[m]'hm = e := ⟨_, rfl⟩
      have hv := hb.1.2.1 m hm
      rw [he] at hv hQ
      have hem : e ∈ gP S.1.1 := by rw [← he]; exact List.getElem_mem hm
      have hpe := pr_lt hR hem
      have h48 := gH_le hR
      have hok : pe_ok e := ⟨by omega, by omega, by omega, hpe.2.2.2.1⟩
      have hpeb : pe e < 2147483648 := by unfold pe; omega
      unfold oq_pr at hQ
      refine go_aload_n (i := 0) dx_X11_pair_22 rfl rfl ?_
      refine go_getA (b := 33) fs_X11_33 rfl (go_ok rfl rfl) rfl dx_X11_pair_23 ?_
      refine go_getA (b := 34) fs_X11_189 rfl (go_ok rfl rfl) rfl dx_X11_pair_26 ?_
      refine go_iload_n (i := 1) dx_X11_pair_29 rfl rfl ?_
      refine go_cS2 ss_X11_192 dx_X11_pair_30 (Nat.le_of_ble_eq_true rfl) (Nat.le_of_ble_eq_true rfl) (g_intAtV (i := m) (v := ((pe e : Int))) (go_ok rfl rfl) (by omega) (show m < 64 by omega) (by exact hv) ?_)
      refine go_istore_n (i := 3) (lv' := [(0, vv_A 0), (1, vv_I (m : Int)), (2, vv_I q), (3, vv_I ((pe e : Int)))]) dx_X11_pair_33 rfl (by decide) rfl ?_
      refine go_iload_n (i := 2) dx_X11_pair_34 rfl rfl ?_
      by_cases z : 0 ≤ q ∧ q ≤ 3
      · rw [cif_t ⟨by omega, by omega, z⟩] at hQ
        by_cases q0 : q = 0
        · subst q0
          refine go_tableIn (off := 29) (tgt := 64) dx_X11_pair_35 hq (by omega) (by omega) rfl (by decide) ?_
          refine go_iload_n (i := 3) dx_X11_pair_64 rfl rfl ?_
          refine go_cS1 ss_X11_196 dx_X11_pair_65 (Nat.le_of_ble_eq_true rfl) (Nat.le_of_ble_eq_true rfl) (g_madeOf hok ?_)
          refine go_ireturn dx_X11_pair_68 rfl (Nat.le_refl _) (Nat.le_refl _) ?_
          exact hQ
        by_cases q1 : q = 1
        · subst q1
          refine go_tableIn (off := 34) (tgt := 69) dx_X11_pair_35 hq (by omega) (by omega) rfl (by decide) ?_
          refine go_iload_n (i := 3) dx_X11_pair_69 rfl rfl ?_
          refine go_cS1 ss_X11_199 dx_X11_pair_70 (Nat.le_of_ble_eq_true rfl) (Nat.le_of_ble_eq_true rfl) (g_leftOf hok ?_)
          refine go_ireturn dx_X11_pair_73 rfl (Nat.le_refl _) (Nat.le_refl _) ?_
          exact hQ
        by_cases q2 : q = 2
        · subst q2
          refine go_tableIn (off := 39) (tgt := 74) dx_X11_pair_35 hq (by omega) (by omega) rfl (by decide) ?_
          refine go_iload_n (i := 3) dx_X11_pair_74 rfl rfl ?_
          refine go_cS1 ss_X11_202 dx_X11_pair_75 (Nat.le_of_ble_eq_true rfl) (Nat.le_of_ble_eq_true rfl) (g_rightOf hok ?_)
          refine go_ireturn dx_X11_pair_78 rfl (Nat.le_refl _) (Nat.le_refl _) ?_
          exact hQ
        · have q3 : q = 3 := by omega
          subst q3
          refine go_tableIn (off := 44) (tgt := 79) dx_X11_pair_35 hq (by omega) (by omega) rfl (by decide) ?_
          refine go_iload_n (i := 3) dx_X11_pair_79 rfl rfl ?_
          refine go_bipush dx_X11_pair_80 rfl ?_
          refine go_iushr dx_X11_pair_82 ?_
          refine go_asI (y := (e.2.2.2 : Int)) (by rw [show (18 : Int) = ((18 : Nat) : Int) from rfl, bv_ushrN hpeb (by decide)]; have : pe e / 2 ^ 18 = e.2.2.2 := (by obtain ⟨p1, p2, p3, p4⟩ := hok; unfold pe; omega); rw [this]) ?_
          refine go_ireturn dx_X11_pair_83 rfl (Nat.le_refl _) (Nat.le_refl _) ?_
          exact hQ
      · rw [cif_f (by omega)] at hQ
        refine go_tableOut (tgt := 84) dx_X11_pair_35 hq (by omega) (by decide) ?_
        refine go_bipush dx_X11_pair_84 rfl ?_
        refine go_ireturn dx_X11_pair_86 rfl (Nat.le_refl _) (Nat.le_refl _) ?_
        exact hQ
    · refine go_bipush dx_X11_pair_19 rfl ?_
      refine go_ireturn dx_X11_pair_21 rfl (Nat.le_refl _) (Nat.le_refl _) ?_
      rw [cif_f (by omega)] at hQ
      exact hQ
theorem x_back {x q : Int} (hx : go_iI x) (hq : go_iI q) (h : xk_at Tm δ S) (hQ : ∀ δ', xk_at Tm δ' S → fc δ δ' → Q [vv_I (oq_back S.1 x q)] go_φ δ') : Go E (d + 12) (0, 0) mx_X11_back go_φ 0 [(0, vv_A 0), (1, vv_I x), (2, vv_I q)] [] δ Q := by
  have l36 : go_ln 36 = 48 := rfl
  have l37 : go_ln 37 = 48 := rfl
  unfold oq_back at hQ
  refine go_aload_n (i := 0) dx_X11_back_0 rfl rfl ?_
  refine go_cV0 sv_X11_183 (go_ok rfl rfl) dx_X11_back_1 (Nat.le_of_ble_eq_true rfl) (Nat.le_of_ble_eq_true rfl) (g_freshen h (fun δ1 h1 e1 f1 => ?_))
  obtain ⟨hb, hm, hc⟩ := h1.2.2.2.1 e1
  have hQ := hQ δ1 h1 f1
  have hR := hb.2.2.2.2.2.2
  have h48 := gH_le hR
  have hn := nsy_eq S.1.1
  refine go_iload_n (i := 1) dx_X11_back_4 rfl rfl ?_
  refine go_bipush dx_X11_back_5 rfl ?_
  refine go_icmp_lt (tgt := 18) dx_X11_back_7 rfl (by omega) (by omega) (fun c7 => ?_) (fun c7 => ?_)
  · refine go_bipush dx_X11_back_18 rfl ?_
    refine go_ireturn dx_X11_back_20 rfl (Nat.le_refl _) (Nat.le_refl _) ?_
    rw [cif_f (by omega)] at hQ
    exact hQ
  · refine go_aload_n (i := 0) dx_X11_back_10 rfl rfl ?_
    refine go_iload_n (i := 1) dx_X11_back_11 rfl rfl ?_
    refine go_cV1 sv_X11_205 (go_ok rfl rfl) dx_X11_back_12 (Nat.le_of_ble_eq_true rfl) (Nat.le_of_ble_eq_true rfl) (g_isSymbol hx hb ?_)
    refine go_b_ne (tgt := 21) dx_X11_back_15 rfl (fun c15 => ?_) (fun c15 => ?_)
    · obtain ⟨m, rfl⟩ : ∃ m : Nat, x = (m : Int) := ⟨x.toNat, by omega⟩
      have hm : m - 14 < (gH S.1.1).length := by omega
      rw [Int.toNat_natCast, List.getD_eq_getElem?_getD, List.getElem?_eq_getElem hm, Option.getD_some] at hQ
      have hv := hb.1.2.2.2 (m - 14) hm
      refine go_iload_n (i := 2) dx_X11_back_21 rfl rfl ?_
      refine go_if_ne (tgt := 40) dx_X11_back_22 rfl (by omega) (fun c22 => ?_) (fun c22 => ?_)
      · refine go_iload_n (i := 2) dx_X11_back_40 rfl rfl ?_
        refine go_iconst dx_X11_back_41 ?_
        refine go_icmp_ne (tgt := 62) dx_X11_back_42 rfl (by omega) (by omega) (fun c42 => ?_) (fun c42 => ?_)
        · refine go_bipush dx_X11_back_62 rfl ?_
          refine go_ireturn dx_X11_back_64 rfl (Nat.le_refl _) (Nat.le_refl _) ?_
          first | (rw [cif_t (by omega), if_pos (by omega)] at hQ; exact hQ) | (rw [cif_t (by omega), if_neg (by omega)] at hQ; exact hQ) | (rw [cif_f (by omega)] at hQ; exact hQ)
        · refine go_aload_n (i := 0) dx_X11_back_45 rfl rfl ?_
          refine go_getA (b := 33) fs_X11_33 rfl (go_ok rfl rfl) rfl dx_X11_back_46 ?_
          refine go_getA (b := 37) fs_X11_211 rfl (go_ok rfl rfl) rfl dx_X11_back_49 ?_
          refine go_iload_n (i := 1) dx_X11_back_52 rfl rfl ?_
          refine go_bipush dx_X11_back_53 rfl ?_
          refine go_isub dx_X11_back_55 ?_
          refine go_cS2 ss_X11_192 dx_X11_back_56 (Nat.le_of_ble_eq_true rfl) (Nat.le_of_ble_eq_true rfl) (g_intAtV (i := (m - 14)) (v := ((((gH S.1.1)[m - 14]'hm).2 : Int))) (go_ok rfl rfl) (by omega) (show (m - 14) < 48 by omega) (by exact hv.2) ?_)
          refine go_goto (tgt := 64) dx_X11_back_59 rfl ?_
          refine go_ireturn dx_X11_back_64 rfl (Nat.le_refl _) (Nat.le_refl _) ?_
          first | (rw [cif_t (by omega), if_pos (by omega)] at hQ; exact hQ) | (rw [cif_t (by omega), if_neg (by omega)] at hQ; exact hQ) | (rw [cif_f (by omega)] at hQ; exact hQ)
      · refine go_aload_n (i := 0) dx_X11_back_25 rfl rfl ?_
        refine go_getA (b := 33) fs_X11_33 rfl (go_ok rfl rfl) rfl dx_X11_back_26 ?_
        refine go_getA (b := 36) fs_X11_208 rfl (go_ok rfl rfl) rfl dx_X11_back_29 ?_
        refine go_iload_n (i := 1) dx_X11_back_32 rfl rfl ?_
        refine go_bipush dx_X11_back_33 rfl ?_
        refine go_isub dx_X11_back_35 ?_
        refine go_cS2 ss_X11_192 dx_X11_back_36 (Nat.le_of_ble_eq_true rfl) (Nat.le_of_ble_eq_true rfl) (g_intAtV (i := (m - 14)) (v := ((((gH S.1.1)[m - 14]'hm).1 : Int))) (go_ok rfl rfl) (by omega) (show (m - 14) < 48 by omega) (by exact hv.1) ?_)
        refine go_ireturn dx_X11_back_39 rfl (Nat.le_refl _) (Nat.le_refl _) ?_
        first | (rw [cif_t (by omega), if_pos (by omega)] at hQ; exact hQ) | (rw [cif_t (by omega), if_neg (by omega)] at hQ; exact hQ) | (rw [cif_f (by omega)] at hQ; exact hQ)
    · refine go_bipush dx_X11_back_18 rfl ?_
      refine go_ireturn dx_X11_back_20 rfl (Nat.le_refl _) (Nat.le_refl _) ?_
      rw [cif_f (by omega)] at hQ
      exact hQ
theorem x_round {x i j : Int} (hx : go_iI x) (hi : go_iI i) (hj : go_iI j) (h : xk_at Tm δ S) (hQ : ∀ δ', xk_at Tm δ' S → fc δ δ' → Q [vv_I (oq_round S.1 x i j)] go_φ δ') : Go E (d + 12) (0, 0) mx_X11_round go_φ 0 [(0, vv_A 0), (1, vv_I x), (2, vv_I i), (3, vv_I j)] [] δ Q := by
  unfold oq_round isp isy at hQ
  refine go_aload_n (i := 0) dx_X11_round_0 rfl rfl ?_
  refine go_cV0 sv_X11_183 (go_ok rfl rfl) dx_X11_round_1 (Nat.le_of_ble_eq_true rfl) (Nat.le_of_ble_eq_true rfl) (g_freshen h (fun δ1 h1 e1 f1 => ?_))
  obtain ⟨hb, hm, hc⟩ := h1.2.2.2.1 e1
  have hQ1 := hQ δ1 h1 f1
  have hR := hb.2.2.2.2.2.2
  have h14 := h1.1.1.2.2.2.2.2.2.2.2.1
  have h62 := nsy_le hR
  refine go_aload_n (i := 0) dx_X11_round_4 rfl rfl ?_
  refine go_iload_n (i := 1) dx_X11_round_5 rfl rfl ?_
  refine go_cV1 sv_X11_205 (go_ok rfl rfl) dx_X11_round_6 (Nat.le_of_ble_eq_true rfl) (Nat.le_of_ble_eq_true rfl) (g_isSymbol hx hb ?_)
  refine go_b_eq (tgt := 24) dx_X11_round_9 rfl (fun c9 => ?_) (fun c9 => ?_)
  · refine go_bipush dx_X11_round_24 rfl ?_
    refine go_ireturn dx_X11_round_26 rfl (Nat.le_refl _) (Nat.le_refl _) ?_
    first | (rw [cif_f (fun q => c9 q.1)] at hQ1; exact hQ1) | (rw [cif_f (fun q => c21 q.2)] at hQ1; exact hQ1)
  · refine go_aload_n (i := 0) dx_X11_round_12 rfl rfl ?_
    refine go_getA (b := 44) fs_X11_42 rfl (go_ok rfl rfl) rfl dx_X11_round_13 ?_
    refine go_iload_n (i := 2) dx_X11_round_16 rfl rfl ?_
    refine go_iload_n (i := 3) dx_X11_round_17 rfl rfl ?_
    refine go_cV2 sv_X11_229 (go_ok rfl rfl) dx_X11_round_18 (Nat.le_of_ble_eq_true rfl) (Nat.le_of_ble_eq_true rfl) (g_Chart_hasSpan ch_ok44 hc.2.1 hc.2.2.1 hi hj ?_)
    refine go_b_ne (tgt := 27) dx_X11_round_21 rfl (fun c21 => ?_) (fun c21 => ?_)
    · obtain ⟨p, rfl⟩ : ∃ p : Nat, x = (p : Int) := ⟨x.toNat, by omega⟩
      obtain ⟨a, rfl⟩ : ∃ a : Nat, i = (a : Int) := ⟨i.toNat, by omega⟩
      obtain ⟨b, rfl⟩ : ∃ b : Nat, j = (b : Int) := ⟨j.toNat, by omega⟩
      rw [cif_t ⟨c9, c21⟩, Int.toNat_natCast, Int.toNat_natCast, Int.toNat_natCast] at hQ1
      have hx62 : p < 62 := by omega
      refine go_aload_n (i := 0) dx_X11_round_27 rfl rfl ?_
      refine go_getA (b := 44) fs_X11_42 rfl (go_ok rfl rfl) rfl dx_X11_round_28 ?_
      refine go_iload_n (i := 1) dx_X11_round_31 rfl rfl ?_
      refine go_iload_n (i := 2) dx_X11_round_32 rfl rfl ?_
      refine go_iload_n (i := 3) dx_X11_round_33 rfl rfl ?_
      refine go_cV3 sv_X11_242 (go_ok rfl rfl) dx_X11_round_34 (Nat.le_of_ble_eq_true rfl) (Nat.le_of_ble_eq_true rfl) (g_Chart_derives ch_ok44 hR hc (by omega) (by omega) (by omega) ?_)
      refine go_b_ne (tgt := 42) dx_X11_round_37 rfl (fun c37 => ?_) (fun c37 => ?_)
      · refine go_aload_n (i := 0) dx_X11_round_42 rfl rfl ?_
        refine go_cV0 sv_X11_246 (go_ok rfl rfl) dx_X11_round_43 (Nat.le_of_ble_eq_true rfl) (Nat.le_of_ble_eq_true rfl) (g_readyRounds h1 e1 (fun δ2 h2 e2 r2 f2 => ?_))
        have hQ2 := hQ δ2 h2 (fc_tr f1 (fun b hb j => f2 b j (by omega)))
        rw [cif_t ⟨c9, c21⟩, Int.toNat_natCast, Int.toNat_natCast, Int.toNat_natCast] at hQ2
        have hrv := rv_le hR p (sl S.1.2.2 a b)
        refine go_aload_n (i := 0) dx_X11_round_46 rfl rfl ?_
        refine go_getA (b := 49) fs_X11_51 rfl (go_ok rfl rfl) rfl dx_X11_round_47 ?_
        refine go_iload_n (i := 1) dx_X11_round_50 rfl rfl ?_
        refine go_iload_n (i := 2) dx_X11_round_51 rfl rfl ?_
        refine go_iload_n (i := 3) dx_X11_round_52 rfl rfl ?_
        refine go_cV3 sv_X11_249 (go_ok rfl rfl) dx_X11_round_53 (Nat.le_of_ble_eq_true rfl) (Nat.le_of_ble_eq_true rfl) (g_Rounds_valueAll (h2.2.2.2.2.1 r2) h2.2.2.1.2.2.2.1 (by omega) (by rw [nsy_eq] at c9; omega) hx62 (by omega) (by omega) ?_)
        refine go_l2i dx_X11_round_56 ?_
        refine go_ireturn dx_X11_round_57 rfl (Nat.le_refl _) (Nat.le_refl _) ?_
        exact hQ2
      · refine go_iconst dx_X11_round_40 ?_
        refine go_ireturn dx_X11_round_41 rfl (Nat.le_refl _) (Nat.le_refl _) ?_
        have hno : rv S.1.1 p (sl S.1.2.2 a b) = -1 := li_f (fun n hn => c37 ((dp_w (by omega) (by omega)).mpr (rd_dx hR hn)))
        rw [hno] at hQ1
        exact hQ1
    · refine go_bipush dx_X11_round_24 rfl ?_
      refine go_ireturn dx_X11_round_26 rfl (Nat.le_refl _) (Nat.le_refl _) ?_
      first | (rw [cif_f (fun q => c9 q.1)] at hQ1; exact hQ1) | (rw [cif_f (fun q => c21 q.2)] at hQ1; exact hQ1)
theorem x_trees {x i j : Int} (hx : go_iI x) (hi : go_iI i) (hj : go_iI j) (h : xk_at Tm δ S) (hQ : ∀ δ', xk_at Tm δ' S → fc δ δ' → Q [vv_L (oq_trees S.1 x i j)] go_φ δ') : Go E (d + 12) (0, 0) mx_X11_trees go_φ 0 [(0, vv_A 0), (1, vv_I x), (2, vv_I i), (3, vv_I j)] [] δ Q := by
  unfold oq_trees isp tK at hQ
  refine go_aload_n (i := 0) dx_X11_trees_0 rfl rfl ?_
  refine go_cV0 sv_X11_183 (go_ok rfl rfl) dx_X11_trees_1 (Nat.le_of_ble_eq_true rfl) (Nat.le_of_ble_eq_true rfl) (g_freshen h (fun δ1 h1 e1 f1 => ?_))
  obtain ⟨hb, hm, hc⟩ := h1.2.2.2.1 e1
  have hQ1 := hQ δ1 h1 f1
  have hR := hb.2.2.2.2.2.2
  have h14 := h1.1.1.2.2.2.2.2.2.2.2.1
  refine go_aload_n (i := 0) dx_X11_trees_4 rfl rfl ?_
  refine go_iload_n (i := 1) dx_X11_trees_5 rfl rfl ?_
  refine go_cV1 sv_X11_167 (go_ok rfl rfl) dx_X11_trees_6 (Nat.le_of_ble_eq_true rfl) (Nat.le_of_ble_eq_true rfl) (g_isName hx (fun a1 a2 => ?_) (fun a1 => ?_))
  · refine go_if_eq (tgt := 24) dx_X11_trees_9 rfl (by omega) (fun c9 => absurd c9 (by decide)) (fun c9 => ?_)
    refine go_aload_n (i := 0) dx_X11_trees_12 rfl rfl ?_
    refine go_getA (b := 44) fs_X11_42 rfl (go_ok rfl rfl) rfl dx_X11_trees_13 ?_
    refine go_iload_n (i := 2) dx_X11_trees_16 rfl rfl ?_
    refine go_iload_n (i := 3) dx_X11_trees_17 rfl rfl ?_
    refine go_cV2 sv_X11_229 (go_ok rfl rfl) dx_X11_trees_18 (Nat.le_of_ble_eq_true rfl) (Nat.le_of_ble_eq_true rfl) (g_Chart_hasSpan ch_ok44 hc.2.1 hc.2.2.1 hi hj ?_)
    refine go_b_ne (tgt := 28) dx_X11_trees_21 rfl (fun c21 => ?_) (fun c21 => ?_)
    · obtain ⟨p, rfl⟩ : ∃ p : Nat, x = (p : Int) := ⟨x.toNat, by omega⟩
      obtain ⟨a, rfl⟩ : ∃ a : Nat, i = (a : Int) := ⟨i.toNat, by omega⟩
      obtain ⟨b, rfl⟩ : ∃ b : Nat, j = (b : Int) := ⟨j.toNat, by omega⟩
      refine go_aload_n (i := 0) dx_X11_trees_28 rfl rfl ?_
      refine go_cV0 sv_X11_273 (go_ok rfl rfl) dx_X11_trees_29 (Nat.le_of_ble_eq_true rfl) (Nat.le_of_ble_eq_true rfl) (g_readyForest h1 e1 (fun δ2 h2 e2 r2 f2 => ?_))
      have hQ2 := hQ δ2 h2 (fc_tr f1 (fun b hb j => f2 b j (by omega)))
      rw [cif_t ⟨⟨a1, a2⟩, c21⟩, Int.toNat_natCast, Int.toNat_natCast, Int.toNat_natCast] at hQ2
      refine go_aload_n (i := 0) dx_X11_trees_32 rfl rfl ?_
      refine go_getA (b := 52) fs_X11_60 rfl (go_ok rfl rfl) rfl dx_X11_trees_33 ?_
      refine go_iload_n (i := 1) dx_X11_trees_36 rfl rfl ?_
      refine go_iload_n (i := 2) dx_X11_trees_37 rfl rfl ?_
      refine go_iload_n (i := 3) dx_X11_trees_38 rfl rfl ?_
      refine go_cV3 sv_X11_276 (go_ok rfl rfl) dx_X11_trees_39 (Nat.le_of_ble_eq_true rfl) (Nat.le_of_ble_eq_true rfl) (g_Forest_valueAll tb_ok52 tf_ok52 (h2.2.2.2.2.2.1 r2) h2.2.2.1.2.2.2.2.2.1 (by omega) (by omega) (by omega) (by omega) (by omega) ?_)
      refine go_lreturn dx_X11_trees_42 rfl (Nat.le_refl _) (Nat.le_refl _) ?_
      rw [Vn_name (by omega) (by omega)]
      exact hQ2
    · refine go_ldc2 (x := (-2)) kx_X11_237 dx_X11_trees_24 ?_
      refine go_lreturn dx_X11_trees_27 rfl (Nat.le_refl _) (Nat.le_refl _) ?_
      first | (rw [cif_f (fun q => a1 q.1)] at hQ1; exact hQ1) | (rw [cif_f (fun q => c21 q.2)] at hQ1; exact hQ1)
  · refine go_if_eq (tgt := 24) dx_X11_trees_9 rfl (by omega) (fun c9 => ?_) (fun c9 => absurd c9 (by decide))
    refine go_ldc2 (x := (-2)) kx_X11_237 dx_X11_trees_24 ?_
    refine go_lreturn dx_X11_trees_27 rfl (Nat.le_refl _) (Nat.le_refl _) ?_
    first | (rw [cif_f (fun q => a1 q.1)] at hQ1; exact hQ1) | (rw [cif_f (fun q => c21 q.2)] at hQ1; exact hQ1)
end GXC2
