/-! the reference's calls: products, cuts, rows, spans, beginnings, pieces -/
theorem mk15_s {n i : Nat} {D : Nat → Prop} {j : Nat} (h1 : j < 15) (hD : D j) : bv_or (mk 15 (fun q => q < j ∧ D q) : Int) ((2 ^ j : Nat) : Int) = (mk 15 (fun q => q < j + 1 ∧ D q) : Int) := by
  rw [bv_orN (mk_31 15 _ (by decide)) (bt_p31 h1 (by decide)), mk_one h1, mk_or]
  refine congrArg _ (mk_congr (fun q _ => ⟨fun z => z.elim (fun w => ⟨by omega, w.2⟩) (fun w => by subst w; exact ⟨by omega, hD⟩), fun z => ?_⟩))
  by_cases e : j = q
  · exact Or.inr e
  · exact Or.inl ⟨by omega, z.2⟩
theorem mk15_n {D : Nat → Prop} {j : Nat} (hD : ¬ D j) : mk 15 (fun q => q < j ∧ D q) = mk 15 (fun q => q < j + 1 ∧ D q) := mk_congr (fun q _ => ⟨fun z => ⟨by omega, z.2⟩, fun z => ⟨by
  by_cases e : q = j
  · subst e; exact absurd z.2 hD
  · omega, z.2⟩⟩)
theorem mk15_z {D : Nat → Prop} {i : Nat} (h : ∀ q, D q → i < q) : mk 15 (fun q => q < i + 1 ∧ D q) = 0 := mk_zero (fun q _ z => by have := h q z.2; omega)
theorem bv_or_0 {m : Nat} (h : m < 2147483648) : bv_or (m : Int) 0 = (m : Int) := by
  have := bv_orN (n := 0) h (by decide)
  rw [Nat.or_zero] at this
  exact this
section GMCD
variable {E : go_E} {d : Nat} {δ : Nat → Nat → Int} {Q : List go_V → go_F → (Nat → Nat → Int) → Prop} {S : sS} {K : sK}
theorem m_cutMany {x y i j : Nat} (hR : ∀ r, rl_ok (K.1 r)) (h : me_at δ K.1 K.2.2) (h14 : K.2.2.length ≤ 14) (hx : x < 62) (hy : y < 62) (hij : i < j) (hj : j ≤ K.2.2.length) (hQ : Q [vv_I (cutn K x y i j j : Int)] go_φ δ) :
    Go E (d + 2) (0, 0) mx_X12_cutMany go_φ 0 [(0, vv_A 94), (1, vv_I (x : Int)), (2, vv_I (y : Int)), (3, vv_I (i : Int)), (4, vv_I (j : Int))] [] δ Q := by
  have hle : ∀ m, cutn K x y i j m ≤ m := fun m => cn_le m _
  have loop := lp_up (X := Unit) (hi := j - (i + 1)) (I := fun _ _ => True)
    (G := fun k _ => ∀ lv0, lv0 = [(0, vv_A 94), (1, vv_I (x : Int)), (2, vv_I (y : Int)), (3, vv_I (i : Int)), (4, vv_I (j : Int)), (5, vv_I (cutn K x y i j (i + 1 + k) : Int)), (6, vv_I ((i + 1 + k : Nat) : Int))] → Go E (d + 2) (0, 0) mx_X12_cutMany go_φ 8 lv0 [] δ Q)
    (fun k _ hk _ ih lv0 e0 => by
      subst e0
      have hc := hle (i + 1 + k)
      refine go_iload dx_X12_cutMany_8 rfl ?_
      refine go_iload dx_X12_cutMany_10 rfl ?_
      refine go_icmp_ge (tgt := 54) dx_X12_cutMany_12 rfl (by omega) (by omega) (fun c12 => by exact absurd c12 (by omega)) (fun c12 => ?_)
      refine go_iload dx_X12_cutMany_15 rfl ?_
      refine go_aload_n (i := 0) dx_X12_cutMany_17 rfl rfl ?_
      refine go_iload_n (i := 1) dx_X12_cutMany_18 rfl rfl ?_
      refine go_iload_n (i := 3) dx_X12_cutMany_19 rfl rfl ?_
      refine go_iload dx_X12_cutMany_20 rfl ?_
      refine go_cV3 sv_X12_268 (go_ok rfl rfl) dx_X12_cutMany_22 (Nat.le_of_ble_eq_true rfl) (Nat.le_of_ble_eq_true rfl) (m_doesDerive hR h (by omega) (by omega) (by omega) (by omega) ?_)
      refine go_b_eq (tgt := 44) dx_X12_cutMany_25 rfl (fun c25 => ?_) (fun c25 => ?_)
      · refine go_iconst dx_X12_cutMany_44 ?_
        refine go_iadd dx_X12_cutMany_45 ?_
        refine go_nmI (fun v ev => ?_)
        refine go_istore (lv' := [(0, vv_A 94), (1, vv_I (x : Int)), (2, vv_I (y : Int)), (3, vv_I (i : Int)), (4, vv_I (j : Int)), (5, vv_I v), (6, vv_I ((i + 1 + k : Nat) : Int))]) dx_X12_cutMany_46 (by decide) rfl ?_
        refine go_iinc (lv' := [(0, vv_A 94), (1, vv_I (x : Int)), (2, vv_I (y : Int)), (3, vv_I (i : Int)), (4, vv_I (j : Int)), (5, vv_I v), (6, vv_I (((i + 1 + k : Nat) : Int) + 1))]) dx_X12_cutMany_48 rfl (by decide) rfl ?_
        refine go_goto (tgt := 8) dx_X12_cutMany_51 rfl ?_
        rw [ev, show (cutn K x y i j (i + 1 + k) : Int) + 0 = (cutn K x y i j (i + 1 + (k + 1)) : Int) by unfold cutn; rw [show i + 1 + (k + 1) = i + 1 + k + 1 by omega, cn_sf (fun q => c25 q.2.1)]; omega]
        exact ih () trivial _ rfl
      · refine go_aload_n (i := 0) dx_X12_cutMany_28 rfl rfl ?_
        refine go_iload_n (i := 2) dx_X12_cutMany_29 rfl rfl ?_
        refine go_iload dx_X12_cutMany_30 rfl ?_
        refine go_iload dx_X12_cutMany_32 rfl ?_
        refine go_cV3 sv_X12_268 (go_ok rfl rfl) dx_X12_cutMany_34 (Nat.le_of_ble_eq_true rfl) (Nat.le_of_ble_eq_true rfl) (m_doesDerive hR h (by omega) (by omega) (by omega) (by omega) ?_)
        refine go_b_eq (tgt := 44) dx_X12_cutMany_37 rfl (fun c37 => ?_) (fun c37 => ?_)
        · refine go_iconst dx_X12_cutMany_44 ?_
          refine go_iadd dx_X12_cutMany_45 ?_
          refine go_nmI (fun v ev => ?_)
          refine go_istore (lv' := [(0, vv_A 94), (1, vv_I (x : Int)), (2, vv_I (y : Int)), (3, vv_I (i : Int)), (4, vv_I (j : Int)), (5, vv_I v), (6, vv_I ((i + 1 + k : Nat) : Int))]) dx_X12_cutMany_46 (by decide) rfl ?_
          refine go_iinc (lv' := [(0, vv_A 94), (1, vv_I (x : Int)), (2, vv_I (y : Int)), (3, vv_I (i : Int)), (4, vv_I (j : Int)), (5, vv_I v), (6, vv_I (((i + 1 + k : Nat) : Int) + 1))]) dx_X12_cutMany_48 rfl (by decide) rfl ?_
          refine go_goto (tgt := 8) dx_X12_cutMany_51 rfl ?_
          rw [ev, show (cutn K x y i j (i + 1 + k) : Int) + 0 = (cutn K x y i j (i + 1 + (k + 1)) : Int) by unfold cutn; rw [show i + 1 + (k + 1) = i + 1 + k + 1 by omega, cn_sf (fun q => c37 q.2.2)]; omega]
          exact ih () trivial _ rfl
        · refine go_iconst dx_X12_cutMany_40 ?_
          refine go_goto (tgt := 45) dx_X12_cutMany_41 rfl ?_
          refine go_iadd dx_X12_cutMany_45 ?_
          refine go_nmI (fun v ev => ?_)
          refine go_istore (lv' := [(0, vv_A 94), (1, vv_I (x : Int)), (2, vv_I (y : Int)), (3, vv_I (i : Int)), (4, vv_I (j : Int)), (5, vv_I v), (6, vv_I ((i + 1 + k : Nat) : Int))]) dx_X12_cutMany_46 (by decide) rfl ?_
          refine go_iinc (lv' := [(0, vv_A 94), (1, vv_I (x : Int)), (2, vv_I (y : Int)), (3, vv_I (i : Int)), (4, vv_I (j : Int)), (5, vv_I v), (6, vv_I (((i + 1 + k : Nat) : Int) + 1))]) dx_X12_cutMany_48 rfl (by decide) rfl ?_
          refine go_goto (tgt := 8) dx_X12_cutMany_51 rfl ?_
          rw [ev, show (cutn K x y i j (i + 1 + k) : Int) + 1 = (cutn K x y i j (i + 1 + (k + 1)) : Int) by unfold cutn; rw [show i + 1 + (k + 1) = i + 1 + k + 1 by omega, cn_st ⟨by omega, c25, c37⟩]; omega]
          exact ih () trivial _ rfl
    ) (fun _ _ lv0 e0 => by
      subst e0
      refine go_iload dx_X12_cutMany_8 rfl ?_
      refine go_iload dx_X12_cutMany_10 rfl ?_
      refine go_icmp_ge (tgt := 54) dx_X12_cutMany_12 rfl (by omega) (by omega) (fun c12 => ?_) (fun c12 => by exact absurd c12 (by omega))
      refine go_iload dx_X12_cutMany_54 rfl ?_
      refine go_ireturn dx_X12_cutMany_56 rfl (Nat.le_refl _) (Nat.le_refl _) ?_
      rw [show i + 1 + (j - (i + 1)) = j by omega]
      exact hQ
    )
  refine go_iconst dx_X12_cutMany_0 ?_
  refine go_istore (lv' := [(0, vv_A 94), (1, vv_I (x : Int)), (2, vv_I (y : Int)), (3, vv_I (i : Int)), (4, vv_I (j : Int)), (5, vv_I 0)]) dx_X12_cutMany_1 (by decide) rfl ?_
  refine go_iload_n (i := 3) dx_X12_cutMany_3 rfl rfl ?_
  refine go_iconst dx_X12_cutMany_4 ?_
  refine go_iadd dx_X12_cutMany_5 ?_
  refine go_istore (lv' := [(0, vv_A 94), (1, vv_I (x : Int)), (2, vv_I (y : Int)), (3, vv_I (i : Int)), (4, vv_I (j : Int)), (5, vv_I 0), (6, vv_I ((i + 1 + 0 : Nat) : Int))]) dx_X12_cutMany_6 (by decide) rfl ?_
  have k := loop 0 () (Nat.zero_le _) trivial _ rfl
  rw [show cutn K x y i j (i + 1 + 0) = 0 from cn_0 (fun q hq z => by omega)] at k
  exact k
theorem m_cuts {x y i j : Int} (hx : go_iI x) (hy : go_iI y) (hi : go_iI i) (hj : go_iI j) (h : mx_at δ S) (hQ : ∀ δ', mx_at δ' S → fl δ δ' → Q [vv_I (oq_cuts S.1 x y i j)] go_φ δ') : Go E (d + 4) (0, 0) mx_X12_cuts go_φ 0 [(0, vv_A 94), (1, vv_I x), (2, vv_I y), (3, vv_I i), (4, vv_I j)] [] δ Q := by
  refine go_aload_n (i := 0) dx_X12_cuts_0 rfl rfl ?_
  refine go_iconst dx_X12_cuts_1 ?_
  refine go_putI fp_X12_139 rfl rfl (go_ok rfl rfl) dx_X12_cuts_2 ?_
  have h := mx_thr (v := 0) h
  have f0 : fl δ (wr δ 94 0 0) := fl_thr
  generalize wr δ 94 0 0 = δ0 at h f0 ⊢
  have hQ := fun δ' a (b : fl δ0 δ') => hQ δ' a (fl_tr f0 b)
  have hsc := @mx_of δ0 S h
  have hb := h.1.1
  have hlaid := h.2
  have ho := bo_of hb
  have hR := ho.1
  have h14 := hb.2.2.2.2.2.2.2.2.1
  have hns := nsy_le hR
  unfold oq_cuts isp isy at hQ
  rw [nsy_eq] at hQ hns
  refine go_aload_n (i := 0) dx_X12_cuts_5 rfl rfl ?_
  refine go_iload_n (i := 1) dx_X12_cuts_6 rfl rfl ?_
  refine go_cV1 sv_X12_235 (go_ok rfl rfl) dx_X12_cuts_7 (Nat.le_of_ble_eq_true rfl) (Nat.le_of_ble_eq_true rfl) (m_isAny hx ho (fun δ1 q1 f1 => ?_))
  refine go_b_eq (tgt := 31) dx_X12_cuts_10 rfl (fun c10 => ?_) (fun c10 => ?_)
  · obtain ⟨a1, b1⟩ := hsc (δ' := δ1) (fun c j hc => f1 c j (by unfold mqP; unfold sc at hc; omega)) (ml_fr hlaid (fun c j hc => f1 c j (by unfold mqP; omega)))
    have hQ := hQ δ1 a1 b1
    rw [cif_f (fun q => c10 q.1)] at hQ
    refine go_bipush dx_X12_cuts_31 rfl ?_
    refine go_ireturn dx_X12_cuts_33 rfl (Nat.le_refl _) (Nat.le_refl _) ?_
    exact hQ
  · have ho1 : bo_at δ1 S.1.1 := bo_fr ho (fun j _ => f1 95 j (by unfold mqP; omega))
    refine go_aload_n (i := 0) dx_X12_cuts_13 rfl rfl ?_
    refine go_iload_n (i := 2) dx_X12_cuts_14 rfl rfl ?_
    refine go_cV1 sv_X12_235 (go_ok rfl rfl) dx_X12_cuts_15 (Nat.le_of_ble_eq_true rfl) (Nat.le_of_ble_eq_true rfl) (m_isAny hy ho1 (fun δ2 q2 f2 => ?_))
    refine go_b_eq (tgt := 31) dx_X12_cuts_18 rfl (fun c18 => ?_) (fun c18 => ?_)
    · obtain ⟨a1, b1⟩ := hsc (δ' := δ2) (fun c j hc => by unfold sc at hc; rw [f2 c j (by unfold mqP; omega), f1 c j (by unfold mqP; omega)]) (ml_fr hlaid (fun c j hc => by rw [f2 c j (by unfold mqP; omega), f1 c j (by unfold mqP; omega)]))
      have hQ := hQ δ2 a1 b1
      rw [cif_f (fun q => c18 q.2.1)] at hQ
      refine go_bipush dx_X12_cuts_31 rfl ?_
      refine go_ireturn dx_X12_cuts_33 rfl (Nat.le_refl _) (Nat.le_refl _) ?_
      exact hQ
    · have hb2 : bk_at δ2 95 0 S.1 := bk_fr hb (fun j => by rw [f2 95 j (by unfold mqP; omega), f1 95 j (by unfold mqP; omega)])
      have hlaid2 : ml_at δ2 S.1 := ml_fr hlaid (fun c j hc => by rw [f2 c j (by unfold mqP; omega), f1 c j (by unfold mqP; omega)])
      have fr2 : ∀ c j, ¬ sc c j → δ2 c j = δ0 c j := fun c j hc => by unfold sc at hc; rw [f2 c j (by unfold mqP; omega), f1 c j (by unfold mqP; omega)]
      refine go_aload_n (i := 0) dx_X12_cuts_21 rfl rfl ?_
      refine go_iload_n (i := 3) dx_X12_cuts_22 rfl rfl ?_
      refine go_iload dx_X12_cuts_23 rfl ?_
      refine go_cV2 sv_X12_260 (go_ok rfl rfl) dx_X12_cuts_25 (Nat.le_of_ble_eq_true rfl) (Nat.le_of_ble_eq_true rfl) (m_isSpan hb2 hi hj ?_)
      refine go_b_ne (tgt := 34) dx_X12_cuts_28 rfl (fun c28 => ?_) (fun c28 => ?_)
      · obtain ⟨p, rfl⟩ : ∃ p : Nat, x = (p : Int) := ⟨x.toNat, by omega⟩
        obtain ⟨q, rfl⟩ : ∃ q : Nat, y = (q : Int) := ⟨y.toNat, by omega⟩
        obtain ⟨a, rfl⟩ : ∃ a : Nat, i = (a : Int) := ⟨i.toNat, by omega⟩
        obtain ⟨b, rfl⟩ : ∃ b : Nat, j = (b : Int) := ⟨j.toNat, by omega⟩
        refine go_aload_n (i := 0) dx_X12_cuts_34 rfl rfl ?_
        refine go_cV0 sv_X12_265 (go_ok rfl rfl) dx_X12_cuts_35 (Nat.le_of_ble_eq_true rfl) (Nat.le_of_ble_eq_true rfl) (m_lays hb2 hlaid2 (fun δ3 w1 w2 w3 w4 f3 => ?_))
        refine go_aload_n (i := 0) dx_X12_cuts_38 rfl rfl ?_
        refine go_iload_n (i := 1) dx_X12_cuts_39 rfl rfl ?_
        refine go_iload_n (i := 2) dx_X12_cuts_40 rfl rfl ?_
        refine go_iload_n (i := 3) dx_X12_cuts_41 rfl rfl ?_
        refine go_iload dx_X12_cuts_42 rfl ?_
        refine go_cV4 sv_X12_282 (go_ok rfl rfl) dx_X12_cuts_44 (Nat.le_of_ble_eq_true rfl) (Nat.le_of_ble_eq_true rfl) (m_cutMany hR w3 h14 (by omega) (by omega) (by omega) (by omega) ?_)
        refine go_ireturn dx_X12_cuts_47 rfl (Nat.le_refl _) (Nat.le_refl _) ?_
        obtain ⟨a1, b1⟩ := hsc (δ' := δ3) (fun c j hc => by have := fr2 c j hc; unfold sc at hc; rw [f3 c j (by unfold mfP mqP; omega) (by omega) (by omega), this]) (ml_1 w1 w2 w3)
        have hQ := hQ δ3 a1 b1
        rw [cif_t ⟨c10, c18, c28⟩, Int.toNat_natCast, Int.toNat_natCast, Int.toNat_natCast, Int.toNat_natCast] at hQ
        exact hQ
      · refine go_bipush dx_X12_cuts_31 rfl ?_
        refine go_ireturn dx_X12_cuts_33 rfl (Nat.le_refl _) (Nat.le_refl _) ?_
        obtain ⟨a1, b1⟩ := hsc (δ' := δ2) fr2 hlaid2
        have hQ := hQ δ2 a1 b1
        rw [cif_f (fun q => c28 q.2.2)] at hQ
        exact hQ
theorem m_product {x y i : Int} (hx : go_iI x) (hy : go_iI y) (hi : go_iI i) (h : mx_at δ S) (hQ : ∀ δ', mx_at δ' S → fl δ δ' → Q [vv_I (oq_product S.1 x y i)] go_φ δ') : Go E (d + 4) (0, 0) mx_X12_product go_φ 0 [(0, vv_A 94), (1, vv_I x), (2, vv_I y), (3, vv_I i)] [] δ Q := by
  refine go_aload_n (i := 0) dx_X12_product_0 rfl rfl ?_
  refine go_iconst dx_X12_product_1 ?_
  refine go_putI fp_X12_139 rfl rfl (go_ok rfl rfl) dx_X12_product_2 ?_
  have h := mx_thr (v := 0) h
  have f0 : fl δ (wr δ 94 0 0) := fl_thr
  generalize wr δ 94 0 0 = δ0 at h f0 ⊢
  have hQ := fun δ' a (b : fl δ0 δ') => hQ δ' a (fl_tr f0 b)
  have hsc := @mx_of δ0 S h
  have hb := h.1.1
  have hlaid := h.2
  have ho := bo_of hb
  have hR := ho.1
  have h14 := hb.2.2.2.2.2.2.2.2.1
  have hns := nsy_le hR
  unfold oq_product ipl isy at hQ
  rw [nsy_eq] at hQ hns
  refine go_aload_n (i := 0) dx_X12_product_5 rfl rfl ?_
  refine go_iload_n (i := 1) dx_X12_product_6 rfl rfl ?_
  refine go_cV1 sv_X12_235 (go_ok rfl rfl) dx_X12_product_7 (Nat.le_of_ble_eq_true rfl) (Nat.le_of_ble_eq_true rfl) (m_isAny hx ho (fun δ1 q1 f1 => ?_))
  refine go_b_eq (tgt := 29) dx_X12_product_10 rfl (fun c10 => ?_) (fun c10 => ?_)
  · obtain ⟨a1, b1⟩ := hsc (δ' := δ1) (fun c j hc => f1 c j (by unfold mqP; unfold sc at hc; omega)) (ml_fr hlaid (fun c j hc => f1 c j (by unfold mqP; omega)))
    have hQ := hQ δ1 a1 b1
    rw [cif_f (fun q => c10 q.1)] at hQ
    refine go_bipush dx_X12_product_29 rfl ?_
    refine go_ireturn dx_X12_product_31 rfl (Nat.le_refl _) (Nat.le_refl _) ?_
    exact hQ
  · have ho1 : bo_at δ1 S.1.1 := bo_fr ho (fun j _ => f1 95 j (by unfold mqP; omega))
    refine go_aload_n (i := 0) dx_X12_product_13 rfl rfl ?_
    refine go_iload_n (i := 2) dx_X12_product_14 rfl rfl ?_
    refine go_cV1 sv_X12_235 (go_ok rfl rfl) dx_X12_product_15 (Nat.le_of_ble_eq_true rfl) (Nat.le_of_ble_eq_true rfl) (m_isAny hy ho1 (fun δ2 q2 f2 => ?_))
    refine go_b_eq (tgt := 29) dx_X12_product_18 rfl (fun c18 => ?_) (fun c18 => ?_)
    · obtain ⟨a1, b1⟩ := hsc (δ' := δ2) (fun c j hc => by unfold sc at hc; rw [f2 c j (by unfold mqP; omega), f1 c j (by unfold mqP; omega)]) (ml_fr hlaid (fun c j hc => by rw [f2 c j (by unfold mqP; omega), f1 c j (by unfold mqP; omega)]))
      have hQ := hQ δ2 a1 b1
      rw [cif_f (fun q => c18 q.2.1)] at hQ
      refine go_bipush dx_X12_product_29 rfl ?_
      refine go_ireturn dx_X12_product_31 rfl (Nat.le_refl _) (Nat.le_refl _) ?_
      exact hQ
    · have hb2 : bk_at δ2 95 0 S.1 := bk_fr hb (fun j => by rw [f2 95 j (by unfold mqP; omega), f1 95 j (by unfold mqP; omega)])
      have hlaid2 : ml_at δ2 S.1 := ml_fr hlaid (fun c j hc => by rw [f2 c j (by unfold mqP; omega), f1 c j (by unfold mqP; omega)])
      have fr2 : ∀ c j, ¬ sc c j → δ2 c j = δ0 c j := fun c j hc => by unfold sc at hc; rw [f2 c j (by unfold mqP; omega), f1 c j (by unfold mqP; omega)]
      refine go_aload_n (i := 0) dx_X12_product_21 rfl rfl ?_
      refine go_iload_n (i := 3) dx_X12_product_22 rfl rfl ?_
      refine go_cV1 sv_X12_279 (go_ok rfl rfl) dx_X12_product_23 (Nat.le_of_ble_eq_true rfl) (Nat.le_of_ble_eq_true rfl) (m_isPlace hi hb2 (fun p1 p2 => ?_) (fun p1 => ?_))
      · refine go_if_ne (tgt := 32) dx_X12_product_26 rfl (by omega) (fun c26 => ?_) (fun c26 => absurd c26 (by decide))
        obtain ⟨p, rfl⟩ : ∃ p : Nat, x = (p : Int) := ⟨x.toNat, by omega⟩
        obtain ⟨q, rfl⟩ : ∃ q : Nat, y = (q : Int) := ⟨y.toNat, by omega⟩
        obtain ⟨a, rfl⟩ : ∃ a : Nat, i = (a : Int) := ⟨i.toNat, by omega⟩
        refine go_aload_n (i := 0) dx_X12_product_32 rfl rfl ?_
        refine go_cV0 sv_X12_265 (go_ok rfl rfl) dx_X12_product_33 (Nat.le_of_ble_eq_true rfl) (Nat.le_of_ble_eq_true rfl) (m_lays hb2 hlaid2 (fun δ3 w1 w2 w3 w4 f3 => ?_))
        obtain ⟨a1, b1⟩ := hsc (δ' := δ3) (fun c j hc => by have := fr2 c j hc; unfold sc at hc; rw [f3 c j (by unfold mfP mqP; omega) (by omega) (by omega), this]) (ml_1 w1 w2 w3)
        have hb3 : bk_at δ3 95 0 S.1 := bk_fr hb2 (fun j => f3 95 j (by unfold mfP mqP; omega) (by decide) (by omega))
        have hQ := hQ δ3 a1 b1
        rw [cif_t ⟨c10, c18, p1, p2⟩, Int.toNat_natCast, Int.toNat_natCast, Int.toNat_natCast] at hQ
        have cutp : ∀ j, 0 < cutn S.1 p q a j j ↔ pdp S.1 p q a j := fun j => by
          constructor
          · intro w
            refine Classical.byContradiction (fun z => ?_)
            rw [show cutn S.1 p q a j j = 0 from cn_0 (fun k hk u => z ⟨k, u.1, hk, u.2⟩)] at w
            exact absurd w (Nat.lt_irrefl _)
          · rintro ⟨k, k1, k2, k3⟩
            have := cn_lt (n := j) (P := fun _ => False) (P' := fun k => a < k ∧ dK S.1 p a k ∧ dK S.1 q k j) (fun _ _ z => z.elim) k2 ⟨k1, k3⟩ id
            exact Nat.lt_of_le_of_lt (Nat.zero_le _) this
        have loop := lp_up (X := Unit) (hi := S.1.2.2.length - a) (I := fun _ _ => True)
          (G := fun k _ => ∀ lv0, lv0 = [(0, vv_A 94), (1, vv_I (p : Int)), (2, vv_I (q : Int)), (3, vv_I (a : Int)), (4, vv_I (mk 15 (fun j => j < a + 1 + k ∧ pdp S.1 p q a j) : Int)), (5, vv_I ((a + 1 + k : Nat) : Int))] → Go E (d + 4) (0, 0) mx_X12_product go_φ 44 lv0 [] δ3 Q)
          (fun k _ hk _ ih lv0 e0 => by
            subst e0
            have m31 := mk_31 15 (fun j => j < a + 1 + k ∧ pdp S.1 p q a j) (by decide)
            have hcl := cn_le (a + 1 + k) (fun k' => a < k' ∧ dK S.1 p a k' ∧ dK S.1 q k' (a + 1 + k))
            have hcp := cutp (a + 1 + k)
            have ih2 := ih () trivial
            rw [show a + 1 + (k + 1) = a + 1 + k + 1 by omega] at ih2
            change cutn S.1 p q a (a + 1 + k) (a + 1 + k) ≤ _ at hcl
            refine go_iload dx_X12_product_44 rfl ?_
            refine go_aload_n (i := 0) dx_X12_product_46 rfl rfl ?_
            refine go_cV0 sv_X12_253 (go_ok rfl rfl) dx_X12_product_47 (Nat.le_of_ble_eq_true rfl) (Nat.le_of_ble_eq_true rfl) (m_letters hb3 ?_)
            refine go_icmp_gt (tgt := 84) dx_X12_product_50 rfl (by omega) (by omega) (fun c50 => by exact absurd c50 (by omega)) (fun c50 => ?_)
            refine go_iload dx_X12_product_53 rfl ?_
            refine go_aload_n (i := 0) dx_X12_product_55 rfl rfl ?_
            refine go_iload_n (i := 1) dx_X12_product_56 rfl rfl ?_
            refine go_iload_n (i := 2) dx_X12_product_57 rfl rfl ?_
            refine go_iload_n (i := 3) dx_X12_product_58 rfl rfl ?_
            refine go_iload dx_X12_product_59 rfl ?_
            refine go_cV4 sv_X12_282 (go_ok rfl rfl) dx_X12_product_61 (Nat.le_of_ble_eq_true rfl) (Nat.le_of_ble_eq_true rfl) (m_cutMany hR w3 h14 (by omega) (by omega) (by omega) (by omega) ?_)
            refine go_if_le (tgt := 74) dx_X12_product_64 rfl (by omega) (fun c64 => ?_) (fun c64 => ?_)
            · refine go_iconst dx_X12_product_74 ?_
              refine go_ior dx_X12_product_75 ?_
              refine go_nmI (fun v ev => ?_)
              refine go_istore (lv' := [(0, vv_A 94), (1, vv_I (p : Int)), (2, vv_I (q : Int)), (3, vv_I (a : Int)), (4, vv_I v), (5, vv_I ((a + 1 + k : Nat) : Int))]) dx_X12_product_76 (by decide) rfl ?_
              refine go_iinc (lv' := [(0, vv_A 94), (1, vv_I (p : Int)), (2, vv_I (q : Int)), (3, vv_I (a : Int)), (4, vv_I v), (5, vv_I (((a + 1 + k : Nat) : Int) + 1))]) dx_X12_product_78 rfl (by decide) rfl ?_
              refine go_goto (tgt := 44) dx_X12_product_81 rfl ?_
              rw [ev, bv_or_0 m31, mk15_n (fun z => by have := hcp.mpr z; omega)]
              exact ih2 _ rfl
            · refine go_iconst dx_X12_product_67 ?_
              refine go_iload dx_X12_product_68 rfl ?_
              refine go_ishl dx_X12_product_70 ?_
              refine go_asI (y := ((2 ^ (a + 1 + k) : Nat) : Int)) (by exact bv_bit (by omega)) ?_
              refine go_goto (tgt := 75) dx_X12_product_71 rfl ?_
              refine go_ior dx_X12_product_75 ?_
              refine go_nmI (fun v ev => ?_)
              refine go_istore (lv' := [(0, vv_A 94), (1, vv_I (p : Int)), (2, vv_I (q : Int)), (3, vv_I (a : Int)), (4, vv_I v), (5, vv_I ((a + 1 + k : Nat) : Int))]) dx_X12_product_76 (by decide) rfl ?_
              refine go_iinc (lv' := [(0, vv_A 94), (1, vv_I (p : Int)), (2, vv_I (q : Int)), (3, vv_I (a : Int)), (4, vv_I v), (5, vv_I (((a + 1 + k : Nat) : Int) + 1))]) dx_X12_product_78 rfl (by decide) rfl ?_
              refine go_goto (tgt := 44) dx_X12_product_81 rfl ?_
              rw [ev, mk15_s (n := 0) (i := 0) (by omega) (hcp.mp (by omega))]
              exact ih2 _ rfl
          ) (fun _ _ lv0 e0 => by
            subst e0
            refine go_iload dx_X12_product_44 rfl ?_
            refine go_aload_n (i := 0) dx_X12_product_46 rfl rfl ?_
            refine go_cV0 sv_X12_253 (go_ok rfl rfl) dx_X12_product_47 (Nat.le_of_ble_eq_true rfl) (Nat.le_of_ble_eq_true rfl) (m_letters hb3 ?_)
            refine go_icmp_gt (tgt := 84) dx_X12_product_50 rfl (by omega) (by omega) (fun c50 => ?_) (fun c50 => by exact absurd c50 (by omega))
            refine go_iload dx_X12_product_84 rfl ?_
            refine go_ireturn dx_X12_product_86 rfl (Nat.le_refl _) (Nat.le_refl _) ?_
            rw [mk_congr (P' := fun j => j ≤ S.1.2.2.length ∧ pdp S.1 p q a j) (fun j _ => ⟨fun z => ⟨by omega, z.2⟩, fun z => ⟨by omega, z.2⟩⟩)]
            exact hQ
          )
        refine go_iconst dx_X12_product_36 ?_
        refine go_istore (lv' := [(0, vv_A 94), (1, vv_I (p : Int)), (2, vv_I (q : Int)), (3, vv_I (a : Int)), (4, vv_I 0)]) dx_X12_product_37 (by decide) rfl ?_
        refine go_iload_n (i := 3) dx_X12_product_39 rfl rfl ?_
        refine go_iconst dx_X12_product_40 ?_
        refine go_iadd dx_X12_product_41 ?_
        refine go_istore (lv' := [(0, vv_A 94), (1, vv_I (p : Int)), (2, vv_I (q : Int)), (3, vv_I (a : Int)), (4, vv_I 0), (5, vv_I ((a + 1 + 0 : Nat) : Int))]) dx_X12_product_42 (by decide) rfl ?_
        have k := loop 0 () (Nat.zero_le _) trivial _ rfl
        rw [Nat.add_zero, mk15_z (fun j z => by obtain ⟨k, k1, k2, _⟩ := z; omega)] at k
        exact k
      · refine go_if_ne (tgt := 32) dx_X12_product_26 rfl (by omega) (fun c26 => absurd c26 (by decide)) (fun c26 => ?_)
        refine go_bipush dx_X12_product_29 rfl ?_
        refine go_ireturn dx_X12_product_31 rfl (Nat.le_refl _) (Nat.le_refl _) ?_
        obtain ⟨a1, b1⟩ := hsc (δ' := δ2) fr2 hlaid2
        have hQ := hQ δ2 a1 b1
        rw [cif_f (fun q => p1 q.2.2)] at hQ
        exact hQ
theorem m_row {x i : Int} (hx : go_iI x) (hi : go_iI i) (h : mx_at δ S) (hQ : ∀ δ', mx_at δ' S → fl δ δ' → Q [vv_I (oq_row S.1 x i)] go_φ δ') : Go E (d + 4) (0, 0) mx_X12_row go_φ 0 [(0, vv_A 94), (1, vv_I x), (2, vv_I i)] [] δ Q := by
  refine go_aload_n (i := 0) dx_X12_row_0 rfl rfl ?_
  refine go_iconst dx_X12_row_1 ?_
  refine go_putI fp_X12_139 rfl rfl (go_ok rfl rfl) dx_X12_row_2 ?_
  have h := mx_thr (v := 0) h
  have f0 : fl δ (wr δ 94 0 0) := fl_thr
  generalize wr δ 94 0 0 = δ0 at h f0 ⊢
  have hQ := fun δ' a (b : fl δ0 δ') => hQ δ' a (fl_tr f0 b)
  have hsc := @mx_of δ0 S h
  have hb := h.1.1
  have hlaid := h.2
  have ho := bo_of hb
  have hR := ho.1
  have h14 := hb.2.2.2.2.2.2.2.2.1
  have hns := nsy_le hR
  unfold oq_row ipl isy at hQ
  rw [nsy_eq] at hQ hns
  refine go_aload_n (i := 0) dx_X12_row_5 rfl rfl ?_
  refine go_iload_n (i := 1) dx_X12_row_6 rfl rfl ?_
  refine go_cV1 sv_X12_235 (go_ok rfl rfl) dx_X12_row_7 (Nat.le_of_ble_eq_true rfl) (Nat.le_of_ble_eq_true rfl) (m_isAny hx ho (fun δ2 q1 f1 => ?_))
  refine go_b_eq (tgt := 21) dx_X12_row_10 rfl (fun c10 => ?_) (fun c10 => ?_)
  · obtain ⟨a1, b1⟩ := hsc (δ' := δ2) (fun c j hc => f1 c j (by unfold mqP; unfold sc at hc; omega)) (ml_fr hlaid (fun c j hc => f1 c j (by unfold mqP; omega)))
    have hQ := hQ δ2 a1 b1
    rw [cif_f (fun q => c10 q.1)] at hQ
    refine go_bipush dx_X12_row_21 rfl ?_
    refine go_ireturn dx_X12_row_23 rfl (Nat.le_refl _) (Nat.le_refl _) ?_
    exact hQ
  · have hb2 : bk_at δ2 95 0 S.1 := bk_fr hb (fun j => f1 95 j (by unfold mqP; omega))
    have hlaid2 : ml_at δ2 S.1 := ml_fr hlaid (fun c j hc => f1 c j (by unfold mqP; omega))
    have fr2 : ∀ c j, ¬ sc c j → δ2 c j = δ0 c j := fun c j hc => by unfold sc at hc; rw [f1 c j (by unfold mqP; omega)]
    refine go_aload_n (i := 0) dx_X12_row_13 rfl rfl ?_
    refine go_iload_n (i := 2) dx_X12_row_14 rfl rfl ?_
    refine go_cV1 sv_X12_279 (go_ok rfl rfl) dx_X12_row_15 (Nat.le_of_ble_eq_true rfl) (Nat.le_of_ble_eq_true rfl) (m_isPlace hi hb2 (fun p1 p2 => ?_) (fun p1 => ?_))
    · refine go_if_ne (tgt := 24) dx_X12_row_18 rfl (by omega) (fun c18 => ?_) (fun c18 => absurd c18 (by decide))
      obtain ⟨p, rfl⟩ : ∃ p : Nat, x = (p : Int) := ⟨x.toNat, by omega⟩
      obtain ⟨a, rfl⟩ : ∃ a : Nat, i = (a : Int) := ⟨i.toNat, by omega⟩
      refine go_aload_n (i := 0) dx_X12_row_24 rfl rfl ?_
      refine go_cV0 sv_X12_265 (go_ok rfl rfl) dx_X12_row_25 (Nat.le_of_ble_eq_true rfl) (Nat.le_of_ble_eq_true rfl) (m_lays hb2 hlaid2 (fun δ3 w1 w2 w3 w4 f3 => ?_))
      obtain ⟨a1, b1⟩ := hsc (δ' := δ3) (fun c j hc => by have := fr2 c j hc; unfold sc at hc; rw [f3 c j (by unfold mfP mqP; omega) (by omega) (by omega), this]) (ml_1 w1 w2 w3)
      have hb3 : bk_at δ3 95 0 S.1 := bk_fr hb2 (fun j => f3 95 j (by unfold mfP mqP; omega) (by decide) (by omega))
      have hQ := hQ δ3 a1 b1
      rw [cif_t ⟨c10, p1, p2⟩, Int.toNat_natCast, Int.toNat_natCast] at hQ
      have loop := lp_up (X := Unit) (hi := S.1.2.2.length - a) (I := fun _ _ => True)
        (G := fun k _ => ∀ lv0, lv0 = [(0, vv_A 94), (1, vv_I (p : Int)), (2, vv_I (a : Int)), (3, vv_I (mk 15 (fun j => j < a + 1 + k ∧ dK S.1 p a j) : Int)), (4, vv_I ((a + 1 + k : Nat) : Int))] → Go E (d + 4) (0, 0) mx_X12_row go_φ 35 lv0 [] δ3 Q)
        (fun k _ hk _ ih lv0 e0 => by
          subst e0
          have m31 := mk_31 15 (fun j => j < a + 1 + k ∧ dK S.1 p a j) (by decide)
          have ih2 := ih () trivial
          rw [show a + 1 + (k + 1) = a + 1 + k + 1 by omega] at ih2
          refine go_iload dx_X12_row_35 rfl ?_
          refine go_aload_n (i := 0) dx_X12_row_37 rfl rfl ?_
          refine go_cV0 sv_X12_253 (go_ok rfl rfl) dx_X12_row_38 (Nat.le_of_ble_eq_true rfl) (Nat.le_of_ble_eq_true rfl) (m_letters hb3 ?_)
          refine go_icmp_gt (tgt := 72) dx_X12_row_41 rfl (by omega) (by omega) (fun c41 => by exact absurd c41 (by omega)) (fun c41 => ?_)
          refine go_iload_n (i := 3) dx_X12_row_44 rfl rfl ?_
          refine go_aload_n (i := 0) dx_X12_row_45 rfl rfl ?_
          refine go_iload_n (i := 1) dx_X12_row_46 rfl rfl ?_
          refine go_iload_n (i := 2) dx_X12_row_47 rfl rfl ?_
          refine go_iload dx_X12_row_48 rfl ?_
          refine go_cV3 sv_X12_268 (go_ok rfl rfl) dx_X12_row_50 (Nat.le_of_ble_eq_true rfl) (Nat.le_of_ble_eq_true rfl) (m_doesDerive hR w3 (by omega) (by omega) (by omega) (by omega) ?_)
          refine go_b_eq (tgt := 63) dx_X12_row_53 rfl (fun c53 => ?_) (fun c53 => ?_)
          · refine go_iconst dx_X12_row_63 ?_
            refine go_ior dx_X12_row_64 ?_
            refine go_nmI (fun v ev => ?_)
            refine go_istore_n (i := 3) (lv' := [(0, vv_A 94), (1, vv_I (p : Int)), (2, vv_I (a : Int)), (3, vv_I v), (4, vv_I ((a + 1 + k : Nat) : Int))]) dx_X12_row_65 rfl (by decide) rfl ?_
            refine go_iinc (lv' := [(0, vv_A 94), (1, vv_I (p : Int)), (2, vv_I (a : Int)), (3, vv_I v), (4, vv_I (((a + 1 + k : Nat) : Int) + 1))]) dx_X12_row_66 rfl (by decide) rfl ?_
            refine go_goto (tgt := 35) dx_X12_row_69 rfl ?_
            rw [ev, bv_or_0 m31, mk15_n (D := dK S.1 p a) (fun z => c53 z)]
            exact ih2 _ rfl
          · refine go_iconst dx_X12_row_56 ?_
            refine go_iload dx_X12_row_57 rfl ?_
            refine go_ishl dx_X12_row_59 ?_
            refine go_asI (y := ((2 ^ (a + 1 + k) : Nat) : Int)) (by exact bv_bit (by omega)) ?_
            refine go_goto (tgt := 64) dx_X12_row_60 rfl ?_
            refine go_ior dx_X12_row_64 ?_
            refine go_nmI (fun v ev => ?_)
            refine go_istore_n (i := 3) (lv' := [(0, vv_A 94), (1, vv_I (p : Int)), (2, vv_I (a : Int)), (3, vv_I v), (4, vv_I ((a + 1 + k : Nat) : Int))]) dx_X12_row_65 rfl (by decide) rfl ?_
            refine go_iinc (lv' := [(0, vv_A 94), (1, vv_I (p : Int)), (2, vv_I (a : Int)), (3, vv_I v), (4, vv_I (((a + 1 + k : Nat) : Int) + 1))]) dx_X12_row_66 rfl (by decide) rfl ?_
            refine go_goto (tgt := 35) dx_X12_row_69 rfl ?_
            rw [ev, mk15_s (n := 0) (i := 0) (D := dK S.1 p a) (by omega) c53]
            exact ih2 _ rfl
        ) (fun _ _ lv0 e0 => by
          subst e0
          refine go_iload dx_X12_row_35 rfl ?_
          refine go_aload_n (i := 0) dx_X12_row_37 rfl rfl ?_
          refine go_cV0 sv_X12_253 (go_ok rfl rfl) dx_X12_row_38 (Nat.le_of_ble_eq_true rfl) (Nat.le_of_ble_eq_true rfl) (m_letters hb3 ?_)
          refine go_icmp_gt (tgt := 72) dx_X12_row_41 rfl (by omega) (by omega) (fun c41 => ?_) (fun c41 => by exact absurd c41 (by omega))
          refine go_iload_n (i := 3) dx_X12_row_72 rfl rfl ?_
          refine go_ireturn dx_X12_row_73 rfl (Nat.le_refl _) (Nat.le_refl _) ?_
          rw [mk_congr (P' := fun j => j ≤ S.1.2.2.length ∧ dK S.1 p a j) (fun j _ => ⟨fun z => ⟨by omega, z.2⟩, fun z => ⟨by omega, z.2⟩⟩)]
          exact hQ
        )
      refine go_iconst dx_X12_row_28 ?_
      refine go_istore_n (i := 3) (lv' := [(0, vv_A 94), (1, vv_I (p : Int)), (2, vv_I (a : Int)), (3, vv_I 0)]) dx_X12_row_29 rfl (by decide) rfl ?_
      refine go_iload_n (i := 2) dx_X12_row_30 rfl rfl ?_
      refine go_iconst dx_X12_row_31 ?_
      refine go_iadd dx_X12_row_32 ?_
      refine go_istore (lv' := [(0, vv_A 94), (1, vv_I (p : Int)), (2, vv_I (a : Int)), (3, vv_I 0), (4, vv_I ((a + 1 + 0 : Nat) : Int))]) dx_X12_row_33 (by decide) rfl ?_
      have k := loop 0 () (Nat.zero_le _) trivial _ rfl
      rw [Nat.add_zero, mk15_z (D := dK S.1 p a) (fun j z => dp_lt z)] at k
      exact k
    · refine go_if_ne (tgt := 24) dx_X12_row_18 rfl (by omega) (fun c18 => absurd c18 (by decide)) (fun c18 => ?_)
      refine go_bipush dx_X12_row_21 rfl ?_
      refine go_ireturn dx_X12_row_23 rfl (Nat.le_refl _) (Nat.le_refl _) ?_
      obtain ⟨a1, b1⟩ := hsc (δ' := δ2) fr2 hlaid2
      have hQ := hQ δ2 a1 b1
      rw [cif_f (fun q => p1 q.2)] at hQ
      exact hQ
theorem m_beginnings (h : mx_at δ S) (hQ : ∀ δ', mx_at δ' S → fl δ δ' → Q [vv_I (oq_beginnings S.1)] go_φ δ') : Go E (d + 4) (0, 0) mx_X12_beginnings go_φ 0 [(0, vv_A 94)] [] δ Q := by
  refine go_aload_n (i := 0) dx_X12_beginnings_0 rfl rfl ?_
  refine go_iconst dx_X12_beginnings_1 ?_
  refine go_putI fp_X12_139 rfl rfl (go_ok rfl rfl) dx_X12_beginnings_2 ?_
  have h := mx_thr (v := 0) h
  have f0 : fl δ (wr δ 94 0 0) := fl_thr
  generalize wr δ 94 0 0 = δ0 at h f0 ⊢
  have hQ := fun δ' a (b : fl δ0 δ') => hQ δ' a (fl_tr f0 b)
  have hsc := @mx_of δ0 S h
  have hb := h.1.1
  have hlaid := h.2
  have ho := bo_of hb
  have hR := ho.1
  have h14 := hb.2.2.2.2.2.2.2.2.1
  have ht8 := hb.2.2.2.2.2.2.2.1
  have l95 : go_ln 95 = 384 := rfl
  unfold oq_beginnings at hQ
  refine go_aload_n (i := 0) dx_X12_beginnings_5 rfl rfl ?_
  refine go_cV0 sv_X12_265 (go_ok rfl rfl) dx_X12_beginnings_6 (Nat.le_of_ble_eq_true rfl) (Nat.le_of_ble_eq_true rfl) (m_lays hb hlaid (fun δ3 w1 w2 w3 w4 f3 => ?_))
  obtain ⟨a1, b1⟩ := hsc (δ' := δ3) (fun c j hc => by unfold sc at hc; rw [f3 c j (by unfold mfP mqP; omega) (by omega) (by omega)]) (ml_1 w1 w2 w3)
  have hb3 : bk_at δ3 95 0 S.1 := bk_fr hb (fun j => f3 95 j (by unfold mfP mqP; omega) (by decide) (by omega))
  have e112 : δ3 95 112 = (S.1.2.1 : Int) := by have := hb3.2.1; rwa [Nat.zero_add] at this
  have hQ := hQ δ3 a1 b1
  have loop := lp_up (X := Unit) (hi := S.1.2.2.length) (I := fun _ _ => True)
    (G := fun k _ => ∀ lv0, lv0 = [(0, vv_A 94), (1, vv_I (mk 15 (fun j => j < 0 + 1 + k ∧ dK S.1 S.1.2.1 0 j) : Int)), (2, vv_I ((0 + 1 + k : Nat) : Int))] → Go E (d + 4) (0, 0) mx_X12_beginnings go_φ 13 lv0 [] δ3 Q)
    (fun k _ hk _ ih lv0 e0 => by
      subst e0
      have m31 := mk_31 15 (fun j => j < 0 + 1 + k ∧ dK S.1 S.1.2.1 0 j) (by decide)
      have ih2 := ih () trivial
      rw [show 0 + 1 + (k + 1) = 0 + 1 + k + 1 by omega] at ih2
      refine go_iload_n (i := 2) dx_X12_beginnings_13 rfl rfl ?_
      refine go_aload_n (i := 0) dx_X12_beginnings_14 rfl rfl ?_
      refine go_cV0 sv_X12_253 (go_ok rfl rfl) dx_X12_beginnings_15 (Nat.le_of_ble_eq_true rfl) (Nat.le_of_ble_eq_true rfl) (m_letters hb3 ?_)
      refine go_icmp_gt (tgt := 53) dx_X12_beginnings_18 rfl (by omega) (by omega) (fun c18 => by exact absurd c18 (by omega)) (fun c18 => ?_)
      refine go_iload_n (i := 1) dx_X12_beginnings_21 rfl rfl ?_
      refine go_aload_n (i := 0) dx_X12_beginnings_22 rfl rfl ?_
      refine go_aload_n (i := 0) dx_X12_beginnings_23 rfl rfl ?_
      refine go_getA (b := 95) fs_X12_7 rfl (go_ok rfl rfl) rfl dx_X12_beginnings_24 ?_
      refine go_bipush dx_X12_beginnings_27 rfl ?_
      refine go_ialoadV (i := 112) (v := ((S.1.2.1 : Int))) dx_X12_beginnings_29 (go_ok rfl rfl) (by omega) (show 112 < 384 by omega) (by exact e112) ?_
      refine go_iconst dx_X12_beginnings_30 ?_
      refine go_asI (y := ((0 : Nat) : Int)) (by rfl) ?_
      refine go_iload_n (i := 2) dx_X12_beginnings_31 rfl rfl ?_
      refine go_cV3 sv_X12_268 (go_ok rfl rfl) dx_X12_beginnings_32 (Nat.le_of_ble_eq_true rfl) (Nat.le_of_ble_eq_true rfl) (m_doesDerive hR w3 (by omega) (by omega) (by omega) (by omega) ?_)
      refine go_b_eq (tgt := 44) dx_X12_beginnings_35 rfl (fun c35 => ?_) (fun c35 => ?_)
      · refine go_iconst dx_X12_beginnings_44 ?_
        refine go_ior dx_X12_beginnings_45 ?_
        refine go_nmI (fun v ev => ?_)
        refine go_istore_n (i := 1) (lv' := [(0, vv_A 94), (1, vv_I v), (2, vv_I ((0 + 1 + k : Nat) : Int))]) dx_X12_beginnings_46 rfl (by decide) rfl ?_
        refine go_iinc (lv' := [(0, vv_A 94), (1, vv_I v), (2, vv_I (((0 + 1 + k : Nat) : Int) + 1))]) dx_X12_beginnings_47 rfl (by decide) rfl ?_
        refine go_goto (tgt := 13) dx_X12_beginnings_50 rfl ?_
        rw [ev, bv_or_0 m31, mk15_n (D := dK S.1 S.1.2.1 0) (fun z => c35 z)]
        exact ih2 _ rfl
      · refine go_iconst dx_X12_beginnings_38 ?_
        refine go_iload_n (i := 2) dx_X12_beginnings_39 rfl rfl ?_
        refine go_ishl dx_X12_beginnings_40 ?_
        refine go_asI (y := ((2 ^ (0 + 1 + k) : Nat) : Int)) (by exact bv_bit (by omega)) ?_
        refine go_goto (tgt := 45) dx_X12_beginnings_41 rfl ?_
        refine go_ior dx_X12_beginnings_45 ?_
        refine go_nmI (fun v ev => ?_)
        refine go_istore_n (i := 1) (lv' := [(0, vv_A 94), (1, vv_I v), (2, vv_I ((0 + 1 + k : Nat) : Int))]) dx_X12_beginnings_46 rfl (by decide) rfl ?_
        refine go_iinc (lv' := [(0, vv_A 94), (1, vv_I v), (2, vv_I (((0 + 1 + k : Nat) : Int) + 1))]) dx_X12_beginnings_47 rfl (by decide) rfl ?_
        refine go_goto (tgt := 13) dx_X12_beginnings_50 rfl ?_
        rw [ev, mk15_s (n := 0) (i := 0) (D := dK S.1 S.1.2.1 0) (by omega) c35]
        exact ih2 _ rfl
    ) (fun _ _ lv0 e0 => by
      subst e0
      refine go_iload_n (i := 2) dx_X12_beginnings_13 rfl rfl ?_
      refine go_aload_n (i := 0) dx_X12_beginnings_14 rfl rfl ?_
      refine go_cV0 sv_X12_253 (go_ok rfl rfl) dx_X12_beginnings_15 (Nat.le_of_ble_eq_true rfl) (Nat.le_of_ble_eq_true rfl) (m_letters hb3 ?_)
      refine go_icmp_gt (tgt := 53) dx_X12_beginnings_18 rfl (by omega) (by omega) (fun c18 => ?_) (fun c18 => by exact absurd c18 (by omega))
      refine go_iload_n (i := 1) dx_X12_beginnings_53 rfl rfl ?_
      refine go_ireturn dx_X12_beginnings_54 rfl (Nat.le_refl _) (Nat.le_refl _) ?_
      rw [mk_congr (P' := fun j => j ≤ S.1.2.2.length ∧ dK S.1 S.1.2.1 0 j) (fun j _ => ⟨fun z => ⟨by omega, z.2⟩, fun z => ⟨by omega, z.2⟩⟩)]
      exact hQ
    )
  refine go_iconst dx_X12_beginnings_9 ?_
  refine go_istore_n (i := 1) (lv' := [(0, vv_A 94), (1, vv_I 0)]) dx_X12_beginnings_10 rfl (by decide) rfl ?_
  refine go_iconst dx_X12_beginnings_11 ?_
  refine go_istore_n (i := 2) (lv' := [(0, vv_A 94), (1, vv_I 0), (2, vv_I 1)]) dx_X12_beginnings_12 rfl (by decide) rfl ?_
  have k := loop 0 () (Nat.zero_le _) trivial _ rfl
  rw [Nat.add_zero, mk15_z (D := dK S.1 S.1.2.1 0) (fun j z => dp_lt z)] at k
  exact k
end GMCD
