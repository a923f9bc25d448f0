/-! the reference's calls: cell to spans -/
theorem ml_1 {δ : Nat → Nat → Int} {K : sK} (h1 : δ 94 20 = 1) (h2 : mw_at δ K.2.2) (h3 : me_at δ K.1 K.2.2) : ml_at δ K := Or.inr ⟨h1, h2, h3⟩
theorem rv_new {R : Nat → List Nat} {n x : Nat} {u : List Nat} (h1 : rd R (n + 1) x u) (h2 : ¬ rd R n x u) : rv R x u = ((n + 1 : Nat) : Int) := li_t h1 (fun m hm => Nat.lt_of_not_le (fun q => h2 (rd_mono q hm)))
section GMCC
variable {E : go_E} {d : Nat} {δ : Nat → Nat → Int} {Q : List go_V → go_F → (Nat → Nat → Int) → Prop} {S : sS} {K : sK}
theorem m_cell {i j : Int} (hi : go_iI i) (hj : go_iI j) (h : mx_at δ S) (hQ : ∀ δ', mx_at δ' S → fl δ δ' → Q [vv_L (oq_cell S.1 i j)] go_φ δ') : Go E (d + 4) (0, 0) mx_X12_cell go_φ 0 [(0, vv_A 94), (1, vv_I i), (2, vv_I j)] [] δ Q := by
  refine go_aload_n (i := 0) dx_X12_cell_0 rfl rfl ?_
  refine go_iconst dx_X12_cell_1 ?_
  refine go_putI fp_X12_139 rfl rfl (go_ok rfl rfl) dx_X12_cell_2 ?_
  have h := mx_thr (v := 0) h
  have f0 : fl δ (wr δ 94 0 0) := fl_thr
  generalize wr δ 94 0 0 = δ0 at h f0 ⊢
  have hQ := fun δ' a (b : fl δ0 δ') => hQ δ' a (fl_tr f0 b)
  have hsc := @mx_of δ0 S h
  have hb := h.1.1
  have hlaid := h.2
  have ho := bo_of hb
  have hR := ho.1
  have l107 : go_ln 107 = 256 := rfl
  have h14 := hb.2.2.2.2.2.2.2.2.1
  unfold oq_cell isp at hQ
  refine go_aload_n (i := 0) dx_X12_cell_5 rfl rfl ?_
  refine go_iload_n (i := 1) dx_X12_cell_6 rfl rfl ?_
  refine go_iload_n (i := 2) dx_X12_cell_7 rfl rfl ?_
  refine go_cV2 sv_X12_260 (go_ok rfl rfl) dx_X12_cell_8 (Nat.le_of_ble_eq_true rfl) (Nat.le_of_ble_eq_true rfl) (m_isSpan hb hi hj ?_)
  refine go_b_ne (tgt := 18) dx_X12_cell_11 rfl (fun c11 => ?_) (fun c11 => ?_)
  · obtain ⟨a, rfl⟩ : ∃ a : Nat, i = (a : Int) := ⟨i.toNat, by omega⟩
    obtain ⟨b, rfl⟩ : ∃ b : Nat, j = (b : Int) := ⟨j.toNat, by omega⟩
    refine go_aload_n (i := 0) dx_X12_cell_18 rfl rfl ?_
    refine go_cV0 sv_X12_265 (go_ok rfl rfl) dx_X12_cell_19 (Nat.le_of_ble_eq_true rfl) (Nat.le_of_ble_eq_true rfl) (m_lays hb hlaid (fun δ1 w1 w2 w3 w4 f1 => ?_))
    refine go_aload_n (i := 0) dx_X12_cell_22 rfl rfl ?_
    refine go_getA (b := 107) fs_X12_51 rfl (go_ok rfl rfl) rfl dx_X12_cell_23 ?_
    refine go_bipush dx_X12_cell_26 rfl ?_
    refine go_iload_n (i := 1) dx_X12_cell_28 rfl rfl ?_
    refine go_imul dx_X12_cell_29 ?_
    refine go_iload_n (i := 2) dx_X12_cell_30 rfl rfl ?_
    refine go_iadd dx_X12_cell_31 ?_
    refine go_laloadV (i := (16 * a + b)) (v := ((mk 62 (fun x => dK S.1 x a b) : Int))) dx_X12_cell_32 (go_ok rfl rfl) (by omega) (show (16 * a + b) < 256 by omega) (by exact w3 a b (by omega) (by omega)) ?_
    refine go_lreturn dx_X12_cell_33 rfl (Nat.le_refl _) (Nat.le_refl _) ?_
    obtain ⟨a1, b1⟩ := hsc (δ' := δ1) (fun c j hc => f1 c j (by unfold mfP mqP; unfold sc at hc; omega) (by unfold sc at hc; omega) (by unfold sc at hc; omega)) (ml_1 w1 w2 w3)
    have hQ := hQ δ1 a1 b1
    rw [cif_t c11, Int.toNat_natCast, Int.toNat_natCast] at hQ
    exact hQ
  · refine go_ldc2 (x := (-2)) kx_X12_263 dx_X12_cell_14 ?_
    refine go_lreturn dx_X12_cell_17 rfl (Nat.le_refl _) (Nat.le_refl _) ?_
    have hQ := hQ δ0 h fl_rf
    rw [cif_f c11] at hQ
    exact hQ
theorem m_isAccepted (hb : bk_at δ 95 0 K) (h : ml_at δ K) (hQ : ∀ δ', δ' 94 20 = 1 → mw_at δ' K.2.2 → me_at δ' K.1 K.2.2 → (mq_at δ (gP K.1) (gH K.1) → mq_at δ' (gP K.1) (gH K.1)) → (∀ c j, ¬ mfP c j → c ≠ 106 → (c = 94 → j ≠ 20) → δ' c j = δ c j) → Q [vv_I (b01 (acK K))] go_φ δ') :
    Go E (d + 4) (0, 0) mx_X12_isAccepted go_φ 0 [(0, vv_A 94)] [] δ Q := by
  have l95 : go_ln 95 = 384 := rfl
  have h14 := hb.2.2.2.2.2.2.2.2.1
  have ht8 := hb.2.2.2.2.2.2.2.1
  refine go_aload_n (i := 0) dx_X12_isAccepted_0 rfl rfl ?_
  refine go_cV0 sv_X12_265 (go_ok rfl rfl) dx_X12_isAccepted_1 (Nat.le_of_ble_eq_true rfl) (Nat.le_of_ble_eq_true rfl) (m_lays hb h (fun δ1 w1 w2 w3 w4 f1 => ?_))
  have hb1 : bk_at δ1 95 0 K := bk_fr hb (fun j => f1 95 j (by unfold mfP mqP; omega) (by decide) (by omega))
  have hQ := hQ δ1 w1 w2 w3 w4 f1
  have e112 : δ1 95 112 = (K.2.1 : Int) := by have := hb1.2.1; rwa [Nat.zero_add] at this
  refine go_aload_n (i := 0) dx_X12_isAccepted_4 rfl rfl ?_
  refine go_cV0 sv_X12_253 (go_ok rfl rfl) dx_X12_isAccepted_5 (Nat.le_of_ble_eq_true rfl) (Nat.le_of_ble_eq_true rfl) (m_letters hb1 ?_)
  refine go_if_le (tgt := 34) dx_X12_isAccepted_8 rfl (by omega) (fun c8 => ?_) (fun c8 => ?_)
  · refine go_iconst dx_X12_isAccepted_34 ?_
    refine go_zreturn dx_X12_isAccepted_35 rfl (by first | exact Or.inl rfl | exact Or.inr rfl | assumption | omega) (Nat.le_refl _) (Nat.le_refl _) ?_
    first | (rw [b01_t (P := acK K) c27] at hQ; exact hQ) | (rw [b01_f (P := acK K) c27] at hQ; exact hQ) | (rw [b01_f (P := acK K) (fun q => by have := dp_lt q; omega)] at hQ; exact hQ)
  · refine go_aload_n (i := 0) dx_X12_isAccepted_11 rfl rfl ?_
    refine go_aload_n (i := 0) dx_X12_isAccepted_12 rfl rfl ?_
    refine go_getA (b := 95) fs_X12_7 rfl (go_ok rfl rfl) rfl dx_X12_isAccepted_13 ?_
    refine go_bipush dx_X12_isAccepted_16 rfl ?_
    refine go_ialoadV (i := 112) (v := ((K.2.1 : Int))) dx_X12_isAccepted_18 (go_ok rfl rfl) (by omega) (show 112 < 384 by omega) (by exact e112) ?_
    refine go_iconst dx_X12_isAccepted_19 ?_
    refine go_asI (y := ((0 : Nat) : Int)) (by rfl) ?_
    refine go_aload_n (i := 0) dx_X12_isAccepted_20 rfl rfl ?_
    refine go_cV0 sv_X12_253 (go_ok rfl rfl) dx_X12_isAccepted_21 (Nat.le_of_ble_eq_true rfl) (Nat.le_of_ble_eq_true rfl) (m_letters hb1 ?_)
    refine go_cV3 sv_X12_268 (go_ok rfl rfl) dx_X12_isAccepted_24 (Nat.le_of_ble_eq_true rfl) (Nat.le_of_ble_eq_true rfl) (m_doesDerive (bo_of hb1).1 w3 (by omega) (by omega) (by omega) (Nat.le_refl _) ?_)
    refine go_b_eq (tgt := 34) dx_X12_isAccepted_27 rfl (fun c27 => ?_) (fun c27 => ?_)
    · refine go_iconst dx_X12_isAccepted_34 ?_
      refine go_zreturn dx_X12_isAccepted_35 rfl (by first | exact Or.inl rfl | exact Or.inr rfl | assumption | omega) (Nat.le_refl _) (Nat.le_refl _) ?_
      first | (rw [b01_t (P := acK K) c27] at hQ; exact hQ) | (rw [b01_f (P := acK K) c27] at hQ; exact hQ) | (rw [b01_f (P := acK K) (fun q => by have := dp_lt q; omega)] at hQ; exact hQ)
    · refine go_iconst dx_X12_isAccepted_30 ?_
      refine go_goto (tgt := 35) dx_X12_isAccepted_31 rfl ?_
      refine go_zreturn dx_X12_isAccepted_35 rfl (by first | exact Or.inl rfl | exact Or.inr rfl | assumption | omega) (Nat.le_refl _) (Nat.le_refl _) ?_
      first | (rw [b01_t (P := acK K) c27] at hQ; exact hQ) | (rw [b01_f (P := acK K) c27] at hQ; exact hQ) | (rw [b01_f (P := acK K) (fun q => by have := dp_lt q; omega)] at hQ; exact hQ)
theorem m_accepted (h : mx_at δ S) (hQ : ∀ δ', mx_at δ' S → fl δ δ' → Q [vv_I (oq_accepted S.1)] go_φ δ') : Go E (d + 5) (0, 0) mx_X12_accepted go_φ 0 [(0, vv_A 94)] [] δ Q := by
  refine go_aload_n (i := 0) dx_X12_accepted_0 rfl rfl ?_
  refine go_iconst dx_X12_accepted_1 ?_
  refine go_putI fp_X12_139 rfl rfl (go_ok rfl rfl) dx_X12_accepted_2 ?_
  have h := mx_thr (v := 0) h
  have f0 : fl δ (wr δ 94 0 0) := fl_thr
  generalize wr δ 94 0 0 = δ0 at h f0 ⊢
  have hQ := fun δ' a (b : fl δ0 δ') => hQ δ' a (fl_tr f0 b)
  have hsc := @mx_of δ0 S h
  have hb := h.1.1
  have hlaid := h.2
  have ho := bo_of hb
  have hR := ho.1
  unfold oq_accepted at hQ
  refine go_aload_n (i := 0) dx_X12_accepted_5 rfl rfl ?_
  refine go_cV0 sv_X12_272 (go_ok rfl rfl) dx_X12_accepted_6 (Nat.le_of_ble_eq_true rfl) (Nat.le_of_ble_eq_true rfl) (m_isAccepted hb hlaid (fun δ1 w1 w2 w3 w4 f1 => ?_))
  refine go_b_eq (tgt := 16) dx_X12_accepted_9 rfl (fun c9 => ?_) (fun c9 => ?_)
  · refine go_iconst dx_X12_accepted_16 ?_
    refine go_ireturn dx_X12_accepted_17 rfl (Nat.le_refl _) (Nat.le_refl _) ?_
    obtain ⟨a1, b1⟩ := hsc (δ' := δ1) (fun c j hc => f1 c j (by unfold mfP mqP; unfold sc at hc; omega) (by unfold sc at hc; omega) (by unfold sc at hc; omega)) (ml_1 w1 w2 w3)
    have hQ := hQ δ1 a1 b1
    first | (rw [b01_t (P := dK S.1 S.1.2.1 0 S.1.2.2.length) c9] at hQ; exact hQ) | (rw [b01_f (P := dK S.1 S.1.2.1 0 S.1.2.2.length) c9] at hQ; exact hQ)
  · refine go_iconst dx_X12_accepted_12 ?_
    refine go_goto (tgt := 17) dx_X12_accepted_13 rfl ?_
    refine go_ireturn dx_X12_accepted_17 rfl (Nat.le_refl _) (Nat.le_refl _) ?_
    obtain ⟨a1, b1⟩ := hsc (δ' := δ1) (fun c j hc => f1 c j (by unfold mfP mqP; unfold sc at hc; omega) (by unfold sc at hc; omega) (by unfold sc at hc; omega)) (ml_1 w1 w2 w3)
    have hQ := hQ δ1 a1 b1
    first | (rw [b01_t (P := dK S.1 S.1.2.1 0 S.1.2.2.length) c9] at hQ; exact hQ) | (rw [b01_f (P := dK S.1 S.1.2.1 0 S.1.2.2.length) c9] at hQ; exact hQ)
theorem m_round {x i j : Int} (hx : go_iI x) (hi : go_iI i) (hj : go_iI j) (h : mx_at δ S) (hQ : ∀ δ', mx_at δ' S → fl δ δ' → Q [vv_I (oq_round S.1 x i j)] go_φ δ') : Go E (d + 4) (0, 0) mx_X12_round go_φ 0 [(0, vv_A 94), (1, vv_I x), (2, vv_I i), (3, vv_I j)] [] δ Q := by
  refine go_aload_n (i := 0) dx_X12_round_0 rfl rfl ?_
  refine go_iconst dx_X12_round_1 ?_
  refine go_putI fp_X12_139 rfl rfl (go_ok rfl rfl) dx_X12_round_2 ?_
  have h := mx_thr (v := 0) h
  have f0 : fl δ (wr δ 94 0 0) := fl_thr
  generalize wr δ 94 0 0 = δ0 at h f0 ⊢
  have hQ := fun δ' a (b : fl δ0 δ') => hQ δ' a (fl_tr f0 b)
  have hsc := @mx_of δ0 S h
  have hb := h.1.1
  have hlaid := h.2
  have ho := bo_of hb
  have hR := ho.1
  have l108 : go_ln 108 = 256 := rfl
  have h14 := hb.2.2.2.2.2.2.2.2.1
  have hns := nsy_le hR
  unfold oq_round isp isy at hQ
  refine go_aload_n (i := 0) dx_X12_round_5 rfl rfl ?_
  refine go_iload_n (i := 1) dx_X12_round_6 rfl rfl ?_
  refine go_cV1 sv_X12_235 (go_ok rfl rfl) dx_X12_round_7 (Nat.le_of_ble_eq_true rfl) (Nat.le_of_ble_eq_true rfl) (m_isAny hx ho (fun δ1 q1 f1 => ?_))
  refine go_b_eq (tgt := 22) dx_X12_round_10 rfl (fun c10 => ?_) (fun c10 => ?_)
  · obtain ⟨a1, b1⟩ := hsc (δ' := δ1) (fun c j hc => f1 c j (by unfold mqP; unfold sc at hc; omega)) (ml_fr hlaid (fun c j hc => f1 c j (by unfold mqP; omega)))
    have hQ := hQ δ1 a1 b1
    rw [cif_f (fun q => c10 q.1)] at hQ
    refine go_bipush dx_X12_round_22 rfl ?_
    refine go_ireturn dx_X12_round_24 rfl (Nat.le_refl _) (Nat.le_refl _) ?_
    exact hQ
  · have hb1 : bk_at δ1 95 0 S.1 := bk_fr hb (fun j => f1 95 j (by unfold mqP; omega))
    have hlaid1 : ml_at δ1 S.1 := ml_fr hlaid (fun c j hc => f1 c j (by unfold mqP; omega))
    refine go_aload_n (i := 0) dx_X12_round_13 rfl rfl ?_
    refine go_iload_n (i := 2) dx_X12_round_14 rfl rfl ?_
    refine go_iload_n (i := 3) dx_X12_round_15 rfl rfl ?_
    refine go_cV2 sv_X12_260 (go_ok rfl rfl) dx_X12_round_16 (Nat.le_of_ble_eq_true rfl) (Nat.le_of_ble_eq_true rfl) (m_isSpan hb1 hi hj ?_)
    refine go_b_ne (tgt := 25) dx_X12_round_19 rfl (fun c19 => ?_) (fun c19 => ?_)
    · obtain ⟨p, rfl⟩ : ∃ p : Nat, x = (p : Int) := ⟨x.toNat, by omega⟩
      obtain ⟨a, rfl⟩ : ∃ a : Nat, i = (a : Int) := ⟨i.toNat, by omega⟩
      obtain ⟨b, rfl⟩ : ∃ b : Nat, j = (b : Int) := ⟨j.toNat, by omega⟩
      have hp62 : p < 62 := by rw [nsy_eq] at hns; omega
      refine go_aload_n (i := 0) dx_X12_round_25 rfl rfl ?_
      refine go_cV0 sv_X12_265 (go_ok rfl rfl) dx_X12_round_26 (Nat.le_of_ble_eq_true rfl) (Nat.le_of_ble_eq_true rfl) (m_lays hb1 hlaid1 (fun δ2 w1 w2 w3 w4 f2 => ?_))
      refine go_aload_n (i := 0) dx_X12_round_29 rfl rfl ?_
      refine go_iload_n (i := 1) dx_X12_round_30 rfl rfl ?_
      refine go_iload_n (i := 2) dx_X12_round_31 rfl rfl ?_
      refine go_iload_n (i := 3) dx_X12_round_32 rfl rfl ?_
      refine go_cV3 sv_X12_268 (go_ok rfl rfl) dx_X12_round_33 (Nat.le_of_ble_eq_true rfl) (Nat.le_of_ble_eq_true rfl) (m_doesDerive hR w3 (by omega) (by omega) (by omega) (by omega) ?_)
      refine go_b_ne (tgt := 41) dx_X12_round_36 rfl (fun c36 => ?_) (fun c36 => ?_)
      · have hdx : dx S.1.1 p (sl S.1.2.2 a b) := (dp_w (by omega) (by omega)).mp c36
        have hb2 : bk_at δ2 95 0 S.1 := bk_fr hb1 (fun j => f2 95 j (by unfold mfP mqP; omega) (by decide) (by omega))
        have hm2 := w4 q1
        have fr2 : ∀ c j, ¬ sc c j → δ2 c j = δ0 c j := fun c j hc => by unfold sc at hc; rw [f2 c j (by unfold mfP mqP; omega) (by omega) (by omega), f1 c j (by unfold mqP; omega)]
        have loop := lp_wf (X := (Nat → Nat → Int) × Nat) (fun X => 15 - X.2) (I := fun X => rr_at X.1 108 S.1 X.2 ∧ (∀ c j, c ≠ 108 → c ≠ 109 → X.1 c j = δ2 c j) ∧ X.2 ≤ 14 ∧ ∀ m, m < X.2 → ¬ rd S.1.1 m p (sl S.1.2.2 a b))
          (G := fun X => Go E (d + 4) (0, 0) mx_X12_round go_φ 50 [(0, vv_A 94), (1, vv_I (p : Int)), (2, vv_I (a : Int)), (3, vv_I (b : Int)), (4, vv_I (X.2 : Int))] [] X.1 Q) (fun X hI ih => ?_)
        · refine go_iconst dx_X12_round_41 ?_
          refine go_istore (lv' := [(0, vv_A 94), (1, vv_I (p : Int)), (2, vv_I (a : Int)), (3, vv_I (b : Int)), (4, vv_I 0)]) dx_X12_round_42 (by decide) rfl ?_
          refine go_aload_n (i := 0) dx_X12_round_44 rfl rfl ?_
          refine go_iconst dx_X12_round_45 ?_
          refine go_asI (y := ((0 : Nat) : Int)) (by rfl) ?_
          refine go_cV1 sv_X12_276 (go_ok rfl rfl) dx_X12_round_46 (Nat.le_of_ble_eq_true rfl) (Nat.le_of_ble_eq_true rfl) (m_goesRound hb2 hm2 (by decide) (fun q => absurd q (by decide)) (fun δ3 g1 g2 => ?_))
          refine go_pop dx_X12_round_49 rfl ?_
          exact loop (δ3, 0) ⟨g1, g2, Nat.zero_le _, fun m hm => absurd hm (Nat.not_lt_zero _)⟩
        · obtain ⟨δ3, n⟩ := X
          obtain ⟨g1, g2, g3, g4⟩ := hI
          dsimp only at g1 g2 g3 g4 ⊢
          have ih2 : ∀ δ4, rr_at δ4 108 S.1 (n + 1) → (∀ c j, c ≠ 108 → c ≠ 109 → δ4 c j = δ2 c j) → n + 1 ≤ 14 → (∀ m, m < n + 1 → ¬ rd S.1.1 m p (sl S.1.2.2 a b)) → Go E (d + 4) (0, 0) mx_X12_round go_φ 50 [(0, vv_A 94), (1, vv_I (p : Int)), (2, vv_I (a : Int)), (3, vv_I (b : Int)), (4, vv_I ((n + 1 : Nat) : Int))] [] δ4 Q := fun δ4 a1 a2 a3 a4 => ih (δ4, n + 1) ⟨a1, a2, a3, a4⟩ (by show 15 - (n + 1) < 15 - n; omega)
          have hb3 : bk_at δ3 95 0 S.1 := bk_fr hb2 (fun j => g2 95 j (by decide) (by decide))
          have hm3 : mq_at δ3 (gP S.1.1) (gH S.1.1) := mq_fr hm2 (fun c j hc => by unfold mqP at hc; exact g2 c j (by omega) (by omega))
          have r31 := mk_63 62 (fun x => rd S.1.1 n x (sl S.1.2.2 a b)) (by decide)
          refine go_aload_n (i := 0) dx_X12_round_50 rfl rfl ?_
          refine go_getA (b := 108) fs_X12_55 rfl (go_ok rfl rfl) rfl dx_X12_round_51 ?_
          refine go_bipush dx_X12_round_54 rfl ?_
          refine go_iload_n (i := 2) dx_X12_round_56 rfl rfl ?_
          refine go_imul dx_X12_round_57 ?_
          refine go_iload_n (i := 3) dx_X12_round_58 rfl rfl ?_
          refine go_iadd dx_X12_round_59 ?_
          refine go_laloadV (i := (16 * a + b)) (v := ((mk 62 (fun x => rd S.1.1 n x (sl S.1.2.2 a b)) : Int))) dx_X12_round_60 (go_ok rfl rfl) (by omega) (show (16 * a + b) < 256 by omega) (by exact g1 a b (by omega) (by omega)) ?_
          refine go_iload_n (i := 1) dx_X12_round_61 rfl rfl ?_
          refine go_cS2 ss_X12_241 dx_X12_round_62 (Nat.le_of_ble_eq_true rfl) (Nat.le_of_ble_eq_true rfl) (m_has r31 (by omega) ?_)
          refine go_b_ne (tgt := 81) dx_X12_round_65 rfl (fun c65 => ?_) (fun c65 => ?_)
          · refine go_iload dx_X12_round_81 rfl ?_
            refine go_ireturn dx_X12_round_83 rfl (Nat.le_refl _) (Nat.le_refl _) ?_
            obtain ⟨a1, b1⟩ := hsc (δ' := δ3) (fun c j hc => by have := fr2 c j hc; unfold sc at hc; rw [g2 c j (by omega) (by omega), this]) (ml_fr (ml_1 w1 w2 w3) (fun c j hc => g2 c j (by omega) (by omega)))
            have hQ := hQ δ3 a1 b1
            rw [cif_t ⟨c10, c19⟩, Int.toNat_natCast, Int.toNat_natCast, Int.toNat_natCast, show rv S.1.1 p (sl S.1.2.2 a b) = (n : Int) from li_t ((rd_bit hR).mp c65) (fun m hm => Nat.le_of_not_lt (fun q => g4 m q hm))] at hQ
            exact hQ
          · refine go_iinc (lv' := [(0, vv_A 94), (1, vv_I (p : Int)), (2, vv_I (a : Int)), (3, vv_I (b : Int)), (4, vv_I ((n : Int) + 1))]) dx_X12_round_68 rfl (by decide) rfl ?_
            refine go_aload_n (i := 0) dx_X12_round_71 rfl rfl ?_
            refine go_iload dx_X12_round_72 rfl ?_
            refine go_asI (y := ((n + 1 : Nat) : Int)) (by rfl) ?_
            refine go_cV1 sv_X12_276 (go_ok rfl rfl) dx_X12_round_74 (Nat.le_of_ble_eq_true rfl) (Nat.le_of_ble_eq_true rfl) (m_goesRound hb3 hm3 (by omega) (fun _ => g1) (fun δ4 k1 k2 => ?_))
            refine go_pop dx_X12_round_77 rfl ?_
            refine go_goto (tgt := 50) dx_X12_round_78 rfl ?_
            have hnot : ¬ rd S.1.1 n p (sl S.1.2.2 a b) := fun q => c65 ((rd_bit hR).mpr q)
            have hlt : n < 14 := Nat.lt_of_not_le (fun q => hnot (rd_mono (by rw [sl_len (by omega)]; omega) (rd_len hR hdx)))
            refine ih2 δ4 k1 (fun c j h1 h2 => by rw [k2 c j h1 h2, g2 c j h1 h2]) hlt (fun m hm => ?_)
            by_cases z : m = n
            · subst z; exact hnot
            · exact g4 m (by omega)
      · refine go_iconst dx_X12_round_39 ?_
        refine go_ireturn dx_X12_round_40 rfl (Nat.le_refl _) (Nat.le_refl _) ?_
        obtain ⟨a1, b1⟩ := hsc (δ' := δ2) (fun c j hc => by unfold sc at hc; rw [f2 c j (by unfold mfP mqP; omega) (by omega) (by omega), f1 c j (by unfold mqP; omega)]) (ml_1 w1 w2 w3)
        have hQ := hQ δ2 a1 b1
        rw [cif_t ⟨c10, c19⟩, Int.toNat_natCast, Int.toNat_natCast, Int.toNat_natCast, show rv S.1.1 p (sl S.1.2.2 a b) = -1 from li_f (fun n hn => c36 ((dp_w (by omega) (by omega)).mpr (rd_dx hR hn)))] at hQ
        exact hQ
    · refine go_bipush dx_X12_round_22 rfl ?_
      refine go_ireturn dx_X12_round_24 rfl (Nat.le_refl _) (Nat.le_refl _) ?_
      obtain ⟨a1, b1⟩ := hsc (δ' := δ1) (fun c j hc => f1 c j (by unfold mqP; unfold sc at hc; omega)) hlaid1
      have hQ := hQ δ1 a1 b1
      rw [cif_f (fun q => c19 q.2)] at hQ
      exact hQ
theorem rd_stat {n : Nat} (hR : ∀ r, rl_ok (K.1 r)) (h : ¬ rnp K (n + 1) K.2.2.length 0) : ∀ m x i j, i < j → j ≤ K.2.2.length → rd K.1 m x (sl K.2.2 i j) → rd K.1 n x (sl K.2.2 i j) := by
  have step : ∀ x i j, i < j → j ≤ K.2.2.length → rd K.1 (n + 1) x (sl K.2.2 i j) → rd K.1 n x (sl K.2.2 i j) := fun x i j h1 h2 h3 => Classical.byContradiction (fun q => h ⟨i, j, h1, h2, by omega, Or.inr ⟨x, h3, q⟩⟩)
  intro m
  induction m with
  | zero => intro x i j _ _ hm; exact rd_mono (Nat.zero_le _) hm
  | succ m ih =>
    intro x i j h1 h2 hm
    refine step x i j h1 h2 ?_
    have hS : ∀ y, rdS K.1 (rd K.1 m) y (sl K.2.2 i j) → rdS K.1 (rd K.1 n) y (sl K.2.2 i j) := fun y hy => by
      rcases hy with hy | ⟨e, he, e1, a, b, e2, h3, h4⟩
      · exact Or.inl (ih y i j h1 h2 hy)
      · obtain ⟨k, k1, k2, rfl, rfl⟩ := sl_cut e2 h2 (rd_dx hR h3).1 (rd_dx hR h4).1
        exact Or.inr ⟨e, he, e1, _, _, e2, ih _ _ _ k1 (by omega) h3, ih _ _ _ k2 h2 h4⟩
    exact hm.imp (hS x) (fun ⟨y, y1, y2⟩ => ⟨y, y1, hS y y2⟩)
theorem m_last (h : mx_at δ S) (hQ : ∀ δ', mx_at δ' S → fl δ δ' → Q [vv_I (oq_last S.1)] go_φ δ') : Go E (d + 4) (0, 0) mx_X12_last go_φ 0 [(0, vv_A 94)] [] δ Q := by
  refine go_aload_n (i := 0) dx_X12_last_0 rfl rfl ?_
  refine go_iconst dx_X12_last_1 ?_
  refine go_putI fp_X12_139 rfl rfl (go_ok rfl rfl) dx_X12_last_2 ?_
  have h := mx_thr (v := 0) h
  have f0 : fl δ (wr δ 94 0 0) := fl_thr
  generalize wr δ 94 0 0 = δ0 at h f0 ⊢
  have hQ := fun δ' a (b : fl δ0 δ') => hQ δ' a (fl_tr f0 b)
  have hsc := @mx_of δ0 S h
  have hb := h.1.1
  have hlaid := h.2
  have ho := bo_of hb
  have hR := ho.1
  have h14 := hb.2.2.2.2.2.2.2.2.1
  unfold oq_last at hQ
  refine go_aload_n (i := 0) dx_X12_last_5 rfl rfl ?_
  refine go_cV0 sv_X12_253 (go_ok rfl rfl) dx_X12_last_6 (Nat.le_of_ble_eq_true rfl) (Nat.le_of_ble_eq_true rfl) (m_letters hb ?_)
  refine go_if_ne (tgt := 14) dx_X12_last_9 rfl (by omega) (fun c9 => ?_) (fun c9 => ?_)
  · refine go_aload_n (i := 0) dx_X12_last_14 rfl rfl ?_
    refine go_cV0 sv_X12_221 (go_ok rfl rfl) dx_X12_last_15 (Nat.le_of_ble_eq_true rfl) (Nat.le_of_ble_eq_true rfl) (m_laysPairs ho (fun δ1 q1 f1 => ?_))
    have hb1 : bk_at δ1 95 0 S.1 := bk_fr hb (fun j => f1 95 j (by unfold mqP; omega))
    have loop := lp_wf (X := (Nat → Nat → Int) × Nat) (fun X => 15 - X.2) (I := fun X => rr_at X.1 108 S.1 X.2 ∧ (∀ c j, c ≠ 108 → c ≠ 109 → X.1 c j = δ1 c j) ∧ X.2 ≤ 14 ∧ ∀ m, m < X.2 → rnp S.1 (m + 1) S.1.2.2.length 0)
      (G := fun X => Go E (d + 4) (0, 0) mx_X12_last go_φ 26 [(0, vv_A 94), (1, vv_I (X.2 : Int))] [] X.1 Q) (fun X hI ih => ?_)
    · refine go_iconst dx_X12_last_18 ?_
      refine go_istore_n (i := 1) (lv' := [(0, vv_A 94), (1, vv_I 0)]) dx_X12_last_19 rfl (by decide) rfl ?_
      refine go_aload_n (i := 0) dx_X12_last_20 rfl rfl ?_
      refine go_iconst dx_X12_last_21 ?_
      refine go_asI (y := ((0 : Nat) : Int)) (by rfl) ?_
      refine go_cV1 sv_X12_276 (go_ok rfl rfl) dx_X12_last_22 (Nat.le_of_ble_eq_true rfl) (Nat.le_of_ble_eq_true rfl) (m_goesRound hb1 q1 (by decide) (fun q => absurd q (by decide)) (fun δ3 g1 g2 => ?_))
      refine go_pop dx_X12_last_25 rfl ?_
      exact loop (δ3, 0) ⟨g1, g2, Nat.zero_le _, fun m hm => absurd hm (Nat.not_lt_zero _)⟩
    · obtain ⟨δ3, n⟩ := X
      obtain ⟨g1, g2, g3, g4⟩ := hI
      dsimp only at g1 g2 g3 g4 ⊢
      have ih2 : ∀ δ4, rr_at δ4 108 S.1 (n + 1) → (∀ c j, c ≠ 108 → c ≠ 109 → δ4 c j = δ1 c j) → n + 1 ≤ 14 → (∀ m, m < n + 1 → rnp S.1 (m + 1) S.1.2.2.length 0) → Go E (d + 4) (0, 0) mx_X12_last go_φ 26 [(0, vv_A 94), (1, vv_I ((n + 1 : Nat) : Int))] [] δ4 Q := fun δ4 a1 a2 a3 a4 => ih (δ4, n + 1) ⟨a1, a2, a3, a4⟩ (by show 15 - (n + 1) < 15 - n; omega)
      have hb3 : bk_at δ3 95 0 S.1 := bk_fr hb1 (fun j => g2 95 j (by decide) (by decide))
      have hm3 : mq_at δ3 (gP S.1.1) (gH S.1.1) := mq_fr q1 (fun c j hc => by unfold mqP at hc; exact g2 c j (by omega) (by omega))
      refine go_aload_n (i := 0) dx_X12_last_26 rfl rfl ?_
      refine go_iload_n (i := 1) dx_X12_last_27 rfl rfl ?_
      refine go_iconst dx_X12_last_28 ?_
      refine go_iadd dx_X12_last_29 ?_
      refine go_asI (y := ((n + 1 : Nat) : Int)) (by rfl) ?_
      refine go_cV1 sv_X12_276 (go_ok rfl rfl) dx_X12_last_30 (Nat.le_of_ble_eq_true rfl) (Nat.le_of_ble_eq_true rfl) (m_goesRound hb3 hm3 (by omega) (fun _ => g1) (fun δ4 k1 k2 => ?_))
      refine go_b_eq (tgt := 42) dx_X12_last_33 rfl (fun c33 => ?_) (fun c33 => ?_)
      · refine go_iload_n (i := 1) dx_X12_last_42 rfl rfl ?_
        refine go_ireturn dx_X12_last_43 rfl (Nat.le_refl _) (Nat.le_refl _) ?_
        obtain ⟨a1, b1⟩ := hsc (δ' := δ4) (fun c j hc => by unfold sc at hc; rw [k2 c j (by omega) (by omega), g2 c j (by omega) (by omega), f1 c j (by unfold mqP; omega)]) (ml_fr hlaid (fun c j hc => by rw [k2 c j (by omega) (by omega), g2 c j (by omega) (by omega), f1 c j (by unfold mqP; omega)]))
        have hQ := hQ δ4 a1 b1
        have hup : ∀ x i j, i < j → j ≤ S.1.2.2.length → rv S.1.1 x (sl S.1.2.2 i j) ≤ (n : Int) := fun x i j h1 h2 => by
          unfold rv
          rcases li_cases (fun n => rd S.1.1 n x (sl S.1.2.2 i j)) with ⟨e, _⟩ | ⟨k, e, k3, k4⟩
          · rw [e]; omega
          · rw [e]
            have := k4 n (rd_stat hR c33 k x i j h1 h2 k3)
            omega
        have hlow : ∀ m : Nat, (0 < S.1.2.2.length ∧ ∀ x i j, i < j → j ≤ S.1.2.2.length → rv S.1.1 x (sl S.1.2.2 i j) ≤ (m : Int)) → n ≤ m := fun m hm => Nat.le_of_not_lt (fun q => by
          obtain ⟨i, j, h1, h2, _, h3⟩ := g4 m q
          rcases h3 with z | ⟨x, x1, x2⟩
          · omega
          · have e := rv_new x1 x2
            have := hm.2 x i j h1 h2
            omega)
        rw [li_t (n := n) ⟨by omega, hup⟩ hlow] at hQ
        exact hQ
      · refine go_iinc (lv' := [(0, vv_A 94), (1, vv_I ((n : Int) + 1))]) dx_X12_last_36 rfl (by decide) rfl ?_
        refine go_goto (tgt := 26) dx_X12_last_39 rfl ?_
        obtain ⟨i, j, h1, h2, _, h3⟩ := c33
        have hlt : n + 1 ≤ 14 := by
          rcases h3 with q | ⟨x, x1, x2⟩
          · omega
          · have e := rv_new x1 x2
            have := (rv_le hR x (sl S.1.2.2 i j)).2
            rw [e, sl_len h2] at this
            omega
        refine ih2 δ4 k1 (fun c j h1 h2 => by rw [k2 c j h1 h2, g2 c j h1 h2]) hlt (fun m hm => ?_)
        by_cases z : m = n
        · subst z; exact ⟨i, j, h1, h2, by omega, h3⟩
        · exact g4 m (by omega)
  · refine go_iconst dx_X12_last_12 ?_
    refine go_ireturn dx_X12_last_13 rfl (Nat.le_refl _) (Nat.le_refl _) ?_
    have hQ := hQ δ0 h fl_rf
    rw [li_f (fun n hn => by omega)] at hQ
    exact hQ
end GMCC
