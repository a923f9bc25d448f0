/-! the reference: what is lost without a rule; what waits, ways with a rule -/
noncomputable def dmn (R : Nat → List Nat) (w : List Nat) : Nat := su w.length (fun i => su (w.length + 1) (fun j => cn 8 (fun x => dp R (plw w) x i j)))
noncomputable def oq_loss (K : sK) (r : Int) : Int := cif (0 ≤ r ∧ r < 16 ∧ K.1 r.toNat ≠ []) ((dmn K.1 K.2.2 : Int) - (dmn (rl_wo K.1 r) K.2.2 : Int)) (-2)
section GMLO
variable {E : go_E} {d : Nat} {δ : Nat → Nat → Int} {Q : List go_V → go_F → (Nat → Nat → Int) → Prop} {K : sK} {S : sS} {R : Nat → List Nat} {w : List Nat}
theorem o_letters {n : Nat} (e : δ 95 113 = (n : Int)) (hQ : Q [vv_I (n : Int)] go_φ δ) : Go E d (0, 0) mx_X12_letters go_φ 0 [(0, vv_A 94)] [] δ Q := by
  have hl : go_ln 95 = 384 := rfl
  refine go_aload_n (i := 0) dx_X12_letters_0 rfl rfl ?_
  refine go_getA (b := 95) fs_X12_7 rfl (go_ok rfl rfl) rfl dx_X12_letters_1 ?_
  refine go_bipush dx_X12_letters_4 rfl ?_
  refine go_iaload dx_X12_letters_6 (go_ok rfl rfl) (by omega) (by omega) ?_
  refine go_ireturn dx_X12_letters_7 rfl (Nat.le_refl _) (Nat.le_refl _) ?_
  rw [show (113 : Int).toNat = 113 from rfl, e]
  exact hQ
theorem m_derivedMany (hR : ∀ r, rl_ok (R r)) (e : δ 95 113 = (w.length : Int)) (h14 : w.length ≤ 14) (hm : me_at δ R w) (hQ : Q [vv_I (dmn R w : Int)] go_φ δ) : Go E (d + 2) (0, 0) mx_X12_derivedMany go_φ 0 [(0, vv_A 94)] [] δ Q := by
  obtain ⟨G, hG⟩ : ∃ G : Nat → Nat, G = fun i => su (w.length + 1) (fun j => cn 8 (fun x => dp R (plw w) x i j)) := ⟨_, rfl⟩
  have hGb : ∀ i, G i ≤ 15 * 8 := fun i => by
    rw [hG]
    have := su_le (n := w.length + 1) (f := fun j => cn 8 (fun x => dp R (plw w) x i j)) (g := fun _ => 8) (fun j _ => cn_le 8 _)
    rw [su_const] at this
    exact Nat.le_trans this (Nat.mul_le_mul_right _ (by omega))
  have hQ : Q [vv_I (su w.length G : Int)] go_φ δ := by rw [hG]; exact hQ
  have hsb : ∀ i, i ≤ 14 → su i G ≤ 14 * 120 := fun i hi => by
    have := su_le (n := i) (f := G) (g := fun _ => 120) (fun j _ => hGb j)
    rw [su_const] at this
    exact Nat.le_trans this (Nat.mul_le_mul_right _ hi)
  have outer := lp_up (X := Unit) (hi := w.length) (I := fun _ _ => True)
    (G := fun i _ => ∀ lv0, lv0 = [(0, vv_A 94), (1, vv_I (su i G : Int)), (2, vv_I (i : Int))] → Go E (d + 2) (0, 0) mx_X12_derivedMany go_φ 4 lv0 [] δ Q)
    (fun i _ hi _ ih lv0 e0 => by
      subst e0
      have ih := ih () trivial
      rw [su_s] at ih
      obtain ⟨C, hC⟩ : ∃ C, C = su i G := ⟨_, rfl⟩
      have hCb := hsb i (by omega)
      rw [← hC] at ih hCb ⊢
      have hGi : G i = su (w.length + 1) (fun j => cn 8 (fun x => dp R (plw w) x i j)) := by rw [hG]
      rw [hGi] at ih
      have hjb : ∀ j, j ≤ 15 → su j (fun j => cn 8 (fun x => dp R (plw w) x i j)) ≤ 15 * 8 := fun j hj => by
        have := su_le (n := j) (f := fun j => cn 8 (fun x => dp R (plw w) x i j)) (g := fun _ => 8) (fun j _ => cn_le 8 _)
        rw [su_const] at this
        exact Nat.le_trans this (Nat.mul_le_mul_right _ hj)
      have inner := lp_up (X := Unit) (hi := w.length - i) (I := fun _ _ => True)
        (G := fun k _ => ∀ lv0, lv0 = [(0, vv_A 94), (1, vv_I ((C + su (i + 1 + k) (fun j => cn 8 (fun x => dp R (plw w) x i j)) : Nat) : Int)), (2, vv_I (i : Int)), (3, vv_I ((i + 1 + k : Nat) : Int))] → Go E (d + 2) (0, 0) mx_X12_derivedMany go_φ 16 lv0 [] δ Q)
        (fun k _ hk _ ih2 lv0 e0 => by
          subst e0
          have ih2 := ih2 () trivial
          rw [show i + 1 + (k + 1) = i + 1 + k + 1 by omega, su_s] at ih2
          obtain ⟨j, hj⟩ : ∃ j, j = i + 1 + k := ⟨_, rfl⟩
          have hDb := hjb (i + 1 + k) (by omega)
          rw [← hj] at ih2 hDb ⊢
          obtain ⟨D, hD⟩ : ∃ D, D = C + su j (fun j => cn 8 (fun x => dp R (plw w) x i j)) := ⟨_, rfl⟩
          rw [← Nat.add_assoc, ← hD] at ih2
          rw [← hD]
          have names := lp_up (X := Unit) (hi := 8) (I := fun _ _ => True)
            (G := fun x _ => ∀ lv0, lv0 = [(0, vv_A 94), (1, vv_I ((D + cn x (fun x => dp R (plw w) x i j) : Nat) : Int)), (2, vv_I (i : Int)), (3, vv_I (j : Int)), (4, vv_I (x : Int))] → Go E (d + 2) (0, 0) mx_X12_derivedMany go_φ 27 lv0 [] δ Q)
            (fun x _ hx _ ih3 lv0 e0 => by
              subst e0
              have ih3 := ih3 () trivial
              have hcl := cn_le x (fun x => dp R (plw w) x i j)
              refine go_iload dx_X12_derivedMany_27 rfl ?_
              refine go_bipush dx_X12_derivedMany_29 rfl ?_
              refine go_icmp_ge (tgt := 59) dx_X12_derivedMany_31 rfl (by omega) (by omega) (fun c31 => by exact absurd c31 (by omega)) (fun c31 => ?_)
              refine go_iload_n (i := 1) dx_X12_derivedMany_34 rfl rfl ?_
              refine go_aload_n (i := 0) dx_X12_derivedMany_35 rfl rfl ?_
              refine go_iload dx_X12_derivedMany_36 rfl ?_
              refine go_iload_n (i := 2) dx_X12_derivedMany_38 rfl rfl ?_
              refine go_iload_n (i := 3) dx_X12_derivedMany_39 rfl rfl ?_
              refine go_cV3 sv_X12_268 (go_ok rfl rfl) dx_X12_derivedMany_40 (Nat.le_of_ble_eq_true rfl) (Nat.le_of_ble_eq_true rfl) (m_doesDerive hR hm (by omega) (by omega) (by omega) (by omega) ?_)
              refine go_b_eq (tgt := 50) dx_X12_derivedMany_43 rfl (fun c43 => ?_) (fun c43 => ?_)
              · refine go_iconst dx_X12_derivedMany_50 ?_
                refine go_iadd dx_X12_derivedMany_51 ?_
                refine go_nmI (fun v ev => ?_)
                refine go_istore_n (i := 1) (lv' := [(0, vv_A 94), (1, vv_I v), (2, vv_I (i : Int)), (3, vv_I (j : Int)), (4, vv_I (x : Int))]) dx_X12_derivedMany_52 rfl (by decide) rfl ?_
                refine go_iinc (lv' := [(0, vv_A 94), (1, vv_I v), (2, vv_I (i : Int)), (3, vv_I (j : Int)), (4, vv_I ((x : Int) + 1))]) dx_X12_derivedMany_53 rfl (by decide) rfl ?_
                refine go_goto (tgt := 27) dx_X12_derivedMany_56 rfl ?_
                rw [cn_sf (P := fun x => dp R (plw w) x i j) c43] at ih3
                rw [ev, Int.add_zero]
                exact ih3 _ rfl
              · refine go_iconst dx_X12_derivedMany_46 ?_
                refine go_goto (tgt := 51) dx_X12_derivedMany_47 rfl ?_
                refine go_iadd dx_X12_derivedMany_51 ?_
                refine go_nmI (fun v ev => ?_)
                refine go_istore_n (i := 1) (lv' := [(0, vv_A 94), (1, vv_I v), (2, vv_I (i : Int)), (3, vv_I (j : Int)), (4, vv_I (x : Int))]) dx_X12_derivedMany_52 rfl (by decide) rfl ?_
                refine go_iinc (lv' := [(0, vv_A 94), (1, vv_I v), (2, vv_I (i : Int)), (3, vv_I (j : Int)), (4, vv_I ((x : Int) + 1))]) dx_X12_derivedMany_53 rfl (by decide) rfl ?_
                refine go_goto (tgt := 27) dx_X12_derivedMany_56 rfl ?_
                rw [cn_st (P := fun x => dp R (plw w) x i j) c43] at ih3
                rw [ev, show ((D + cn x (fun x => dp R (plw w) x i j) : Nat) : Int) + 1 = ((D + (cn x (fun x => dp R (plw w) x i j) + 1) : Nat) : Int) by omega]
                exact ih3 _ rfl
            ) (fun _ _ lv0 e0 => by
              subst e0
              refine go_iload dx_X12_derivedMany_27 rfl ?_
              refine go_bipush dx_X12_derivedMany_29 rfl ?_
              refine go_icmp_ge (tgt := 59) dx_X12_derivedMany_31 rfl (by omega) (by omega) (fun c31 => ?_) (fun c31 => by exact absurd c31 (by omega))
              refine go_iinc (lv' := [(0, vv_A 94), (1, vv_I ((D + cn 8 (fun x => dp R (plw w) x i j) : Nat) : Int)), (2, vv_I (i : Int)), (3, vv_I ((j : Int) + 1)), (4, vv_I ((8 : Nat) : Int))]) dx_X12_derivedMany_59 rfl (by decide) rfl ?_
              refine go_goto (tgt := 16) dx_X12_derivedMany_62 rfl ?_
              refine go_keep [0, 1, 2, 3] rfl ?_
              exact ih2 _ rfl
            )
          refine go_iload_n (i := 3) dx_X12_derivedMany_16 rfl rfl ?_
          refine go_aload_n (i := 0) dx_X12_derivedMany_17 rfl rfl ?_
          refine go_cV0 sv_X12_253 (go_ok rfl rfl) dx_X12_derivedMany_18 (Nat.le_of_ble_eq_true rfl) (Nat.le_of_ble_eq_true rfl) (o_letters e ?_)
          refine go_icmp_gt (tgt := 65) dx_X12_derivedMany_21 rfl (by omega) (by omega) (fun c21 => by exact absurd c21 (by omega)) (fun c21 => ?_)
          refine go_iconst dx_X12_derivedMany_24 ?_
          refine go_istore (lv' := [(0, vv_A 94), (1, vv_I (D : Int)), (2, vv_I (i : Int)), (3, vv_I (j : Int)), (4, vv_I 0)]) dx_X12_derivedMany_25 (by decide) rfl ?_
          exact names 0 () (Nat.zero_le _) trivial _ rfl
        ) (fun _ _ lv0 e0 => by
          subst e0
          rw [show i + 1 + (w.length - i) = w.length + 1 by omega]
          refine go_iload_n (i := 3) dx_X12_derivedMany_16 rfl rfl ?_
          refine go_aload_n (i := 0) dx_X12_derivedMany_17 rfl rfl ?_
          refine go_cV0 sv_X12_253 (go_ok rfl rfl) dx_X12_derivedMany_18 (Nat.le_of_ble_eq_true rfl) (Nat.le_of_ble_eq_true rfl) (o_letters e ?_)
          refine go_icmp_gt (tgt := 65) dx_X12_derivedMany_21 rfl (by omega) (by omega) (fun c21 => ?_) (fun c21 => by exact absurd c21 (by omega))
          refine go_iinc (lv' := [(0, vv_A 94), (1, vv_I ((C + su (w.length + 1) (fun j => cn 8 (fun x => dp R (plw w) x i j)) : Nat) : Int)), (2, vv_I ((i : Int) + 1)), (3, vv_I ((w.length + 1 : Nat) : Int))]) dx_X12_derivedMany_65 rfl (by decide) rfl ?_
          refine go_goto (tgt := 4) dx_X12_derivedMany_68 rfl ?_
          refine go_keep [0, 1, 2] rfl ?_
          exact ih _ rfl
        )
      refine go_iload_n (i := 2) dx_X12_derivedMany_4 rfl rfl ?_
      refine go_aload_n (i := 0) dx_X12_derivedMany_5 rfl rfl ?_
      refine go_cV0 sv_X12_253 (go_ok rfl rfl) dx_X12_derivedMany_6 (Nat.le_of_ble_eq_true rfl) (Nat.le_of_ble_eq_true rfl) (o_letters e ?_)
      refine go_icmp_ge (tgt := 71) dx_X12_derivedMany_9 rfl (by omega) (by omega) (fun c9 => by exact absurd c9 (by omega)) (fun c9 => ?_)
      refine go_iload_n (i := 2) dx_X12_derivedMany_12 rfl rfl ?_
      refine go_iconst dx_X12_derivedMany_13 ?_
      refine go_iadd dx_X12_derivedMany_14 ?_
      refine go_istore_n (i := 3) (lv' := [(0, vv_A 94), (1, vv_I (C : Int)), (2, vv_I (i : Int)), (3, vv_I ((i + 1 + 0 : Nat) : Int))]) dx_X12_derivedMany_15 rfl (by decide) rfl ?_
      have t := inner 0 () (Nat.zero_le _) trivial _ rfl
      rw [su_zero (n := i + 1 + 0) (f := fun j => cn 8 (fun x => dp R (plw w) x i j)) (fun j hj => cn_0 (fun x _ z => by have := dp_lt z; omega)), Nat.add_zero] at t
      exact t
    ) (fun _ _ lv0 e0 => by
      subst e0
      refine go_iload_n (i := 2) dx_X12_derivedMany_4 rfl rfl ?_
      refine go_aload_n (i := 0) dx_X12_derivedMany_5 rfl rfl ?_
      refine go_cV0 sv_X12_253 (go_ok rfl rfl) dx_X12_derivedMany_6 (Nat.le_of_ble_eq_true rfl) (Nat.le_of_ble_eq_true rfl) (o_letters e ?_)
      refine go_icmp_ge (tgt := 71) dx_X12_derivedMany_9 rfl (by omega) (by omega) (fun c9 => ?_) (fun c9 => by exact absurd c9 (by omega))
      refine go_iload_n (i := 1) dx_X12_derivedMany_71 rfl rfl ?_
      refine go_ireturn dx_X12_derivedMany_72 rfl (Nat.le_refl _) (Nat.le_refl _) ?_
      exact hQ
    )
  refine go_iconst dx_X12_derivedMany_0 ?_
  refine go_istore_n (i := 1) (lv' := [(0, vv_A 94), (1, vv_I 0)]) dx_X12_derivedMany_1 rfl (by decide) rfl ?_
  refine go_iconst dx_X12_derivedMany_2 ?_
  refine go_istore_n (i := 2) (lv' := [(0, vv_A 94), (1, vv_I 0), (2, vv_I 0)]) dx_X12_derivedMany_3 rfl (by decide) rfl ?_
  exact outer 0 () (Nat.zero_le _) trivial _ rfl
theorem m_loss {r : Int} (hr : go_iI r) (h : mx_at δ S) (hQ : ∀ δ', mx_at δ' S → fl δ δ' → Q [vv_I (oq_loss S.1 r)] go_φ δ') : Go E (d + 4) (0, 0) mx_X12_loss go_φ 0 [(0, vv_A 94), (1, vv_I r)] [] δ Q := by
  refine go_aload_n (i := 0) dx_X12_loss_0 rfl rfl ?_
  refine go_iconst dx_X12_loss_1 ?_
  refine go_putI fp_X12_139 rfl rfl (go_ok rfl rfl) dx_X12_loss_2 ?_
  have h := mx_thr (v := 0) h
  have f0 : fl δ (wr δ 94 0 0) := fl_thr
  generalize wr δ 94 0 0 = δ0 at h f0 ⊢
  have hQ := fun δ' a (b : fl δ0 δ') => hQ δ' a (fl_tr f0 b)
  have hsc := @mx_of δ0 S h
  have hb := h.1.1
  have hlaid := h.2
  have ho := bo_of hb
  have hR := ho.1
  have h14 := hb.2.2.2.2.2.2.2.2.1
  have hlet := hb.2.2.2.2.2.2.2.2.2
  have l95 : go_ln 95 = 384 := rfl
  unfold oq_loss at hQ
  refine go_aload_n (i := 0) dx_X12_loss_5 rfl rfl ?_
  refine go_iload_n (i := 1) dx_X12_loss_6 rfl rfl ?_
  refine go_cV1 sv_X12_203 (go_ok rfl rfl) dx_X12_loss_7 (Nat.le_of_ble_eq_true rfl) (Nat.le_of_ble_eq_true rfl) (m_isRule hr hb (fun a1 a2 a3 => ?_) (fun b1 => ?_))
  · refine go_if_ne (tgt := 16) dx_X12_loss_10 rfl (by omega) (fun c10 => ?_) (fun c10 => absurd c10 (by decide))
    obtain ⟨m, rfl⟩ : ∃ m : Nat, r = (m : Int) := ⟨r.toNat, by omega⟩
    have hm16 : m < 16 := by omega
    refine go_aload_n (i := 0) dx_X12_loss_16 rfl rfl ?_
    refine go_cV0 sv_X12_265 (go_ok rfl rfl) dx_X12_loss_17 (Nat.le_of_ble_eq_true rfl) (Nat.le_of_ble_eq_true rfl) (m_lays hb hlaid (fun δ1 w1 w2 w3 w4 f1 => ?_))
    have hb1 : bk_at δ1 95 0 S.1 := bk_fr hb (fun j => f1 95 j (by unfold mfP mqP; omega) (by decide) (by omega))
    have e113 : δ1 95 113 = (S.1.2.2.length : Int) := by have := hb1.2.2.1; rwa [Nat.zero_add] at this
    have hlen := ((bo_of hb1).2 m hm16).1
    have hR2 : ∀ s, rl_ok (rl_wo S.1.1 (m : Int) s) := rl_wo_ok hR
    refine go_aload_n (i := 0) dx_X12_loss_20 rfl rfl ?_
    refine go_cV0 sv_X12_322 (go_ok rfl rfl) dx_X12_loss_21 (Nat.le_of_ble_eq_true rfl) (Nat.le_of_ble_eq_true rfl) (m_derivedMany hR e113 h14 w3 ?_)
    refine go_istore_n (i := 2) (lv' := [(0, vv_A 94), (1, vv_I (m : Int)), (2, vv_I (dmn S.1.1 S.1.2.2 : Int))]) dx_X12_loss_24 rfl (by decide) rfl ?_
    refine go_aload_n (i := 0) dx_X12_loss_25 rfl rfl ?_
    refine go_iload_n (i := 1) dx_X12_loss_26 rfl rfl ?_
    refine go_cV1 sv_X12_148 (go_ok rfl rfl) dx_X12_loss_27 (Nat.le_of_ble_eq_true rfl) (Nat.le_of_ble_eq_true rfl) (o_longOf (bo_of hb1) hm16 ?_)
    refine go_istore_n (i := 3) (lv' := [(0, vv_A 94), (1, vv_I (m : Int)), (2, vv_I (dmn S.1.1 S.1.2.2 : Int)), (3, vv_I (((S.1.1 m).length - 1 : Nat) : Int))]) dx_X12_loss_30 rfl (by decide) rfl ?_
    refine go_aload_n (i := 0) dx_X12_loss_31 rfl rfl ?_
    refine go_getA (b := 95) fs_X12_7 rfl (go_ok rfl rfl) rfl dx_X12_loss_32 ?_
    refine go_bipush dx_X12_loss_35 rfl ?_
    refine go_iload_n (i := 1) dx_X12_loss_37 rfl rfl ?_
    refine go_imul dx_X12_loss_38 ?_
    refine go_iconst dx_X12_loss_39 ?_
    refine go_iadd dx_X12_loss_40 ?_
    refine go_iconst dx_X12_loss_41 ?_
    refine go_iastoreV (i := 7 * m) dx_X12_loss_42 (go_ok rfl rfl) (by omega) (show 7 * m < 384 by omega) ?_
    have ho2 : bo_at (wr δ1 95 (7 * m) 0) (rl_wo S.1.1 (m : Int)) := ⟨hR2, fun s hs => by
      by_cases z : s = m
      · subst z
        have e : rl_wo S.1.1 (s : Int) s = [] := if_pos rfl
        rw [e]
        exact ⟨wr_eq _ _ _ _, fun i hi => absurd hi (Nat.not_lt_zero _)⟩
      · have e : rl_wo S.1.1 (m : Int) s = S.1.1 s := if_neg (by omega)
        have hl := (hR s).len
        rw [e]
        have g := (bo_of hb1).2 s hs
        exact ⟨by rw [wr_n (by omega)]; exact g.1, fun i hi => by rw [wr_n (by omega)]; exact g.2 i hi⟩⟩
    refine go_aload_n (i := 0) dx_X12_loss_43 rfl rfl ?_
    refine go_aload_n (i := 0) dx_X12_loss_44 rfl rfl ?_
    refine go_cV0 sv_X12_253 (go_ok rfl rfl) dx_X12_loss_45 (Nat.le_of_ble_eq_true rfl) (Nat.le_of_ble_eq_true rfl) (o_letters (n := S.1.2.2.length) (by rw [wr_n (by omega)]; exact e113) ?_)
    refine go_cV1 sv_X12_256 (go_ok rfl rfl) dx_X12_loss_48 (Nat.le_of_ble_eq_true rfl) (Nat.le_of_ble_eq_true rfl) (m_laysCells ho2 hlet rfl (by omega) (mw_fr w2 (fun q => wr_n (by omega))) (fun δ2 q1 q2 f2 => ?_))
    refine go_aload_n (i := 0) dx_X12_loss_51 rfl rfl ?_
    refine go_cV0 sv_X12_322 (go_ok rfl rfl) dx_X12_loss_52 (Nat.le_of_ble_eq_true rfl) (Nat.le_of_ble_eq_true rfl) (m_derivedMany hR2 (by rw [f2 95 _ (by unfold mfP mqP; omega), wr_n (by omega)]; exact e113) h14 q2 ?_)
    refine go_istore (lv' := [(0, vv_A 94), (1, vv_I (m : Int)), (2, vv_I (dmn S.1.1 S.1.2.2 : Int)), (3, vv_I (((S.1.1 m).length - 1 : Nat) : Int)), (4, vv_I (dmn (rl_wo S.1.1 (m : Int)) S.1.2.2 : Int))]) dx_X12_loss_55 (by decide) rfl ?_
    refine go_aload_n (i := 0) dx_X12_loss_57 rfl rfl ?_
    refine go_getA (b := 95) fs_X12_7 rfl (go_ok rfl rfl) rfl dx_X12_loss_58 ?_
    refine go_bipush dx_X12_loss_61 rfl ?_
    refine go_iload_n (i := 1) dx_X12_loss_63 rfl rfl ?_
    refine go_imul dx_X12_loss_64 ?_
    refine go_iconst dx_X12_loss_65 ?_
    refine go_iadd dx_X12_loss_66 ?_
    refine go_iload_n (i := 3) dx_X12_loss_67 rfl rfl ?_
    refine go_iastoreV (i := 7 * m) dx_X12_loss_68 (go_ok rfl rfl) (by omega) (show 7 * m < 384 by omega) ?_
    refine go_aload_n (i := 0) dx_X12_loss_69 rfl rfl ?_
    refine go_iconst dx_X12_loss_70 ?_
    refine go_putZ fp_X12_155 rfl rfl (go_ok rfl rfl) (by first | omega | (exact Or.inl rfl)) dx_X12_loss_71 ?_
    refine go_iload_n (i := 2) dx_X12_loss_74 rfl rfl ?_
    refine go_iload dx_X12_loss_75 rfl ?_
    refine go_isub dx_X12_loss_77 ?_
    refine go_ireturn dx_X12_loss_78 rfl (Nat.le_refl _) (Nat.le_refl _) ?_
    obtain ⟨g1, g2⟩ := hsc (δ' := wr (wr δ2 95 (7 * m) (((S.1.1 m).length - 1 : Nat) : Int)) 94 20 0) (fun c j hc => by
      unfold sc at hc
      rw [wr_n (by omega)]
      by_cases z : c = 95 ∧ j = 7 * m
      · obtain ⟨z1, z2⟩ := z
        subst z1 z2
        rw [wr_eq, ← hlen]
        exact f1 95 _ (by unfold mfP mqP; omega) (by decide) (by omega)
      · rw [wr_n (by omega), f2 c j (by unfold mfP mqP; omega), wr_n (by omega), f1 c j (by unfold mfP mqP; omega) (by omega) (by omega)]) (Or.inl (wr_eq _ _ _ _))
    have hQ := hQ _ g1 g2
    rw [cif_t ⟨a1, a2, a3⟩] at hQ
    exact hQ
  · refine go_if_ne (tgt := 16) dx_X12_loss_10 rfl (by omega) (fun c10 => absurd c10 (by decide)) (fun c10 => ?_)
    refine go_bipush dx_X12_loss_13 rfl ?_
    refine go_ireturn dx_X12_loss_15 rfl (Nat.le_refl _) (Nat.le_refl _) ?_
    have hQ := hQ δ0 h fl_rf
    rw [cif_f b1] at hQ
    exact hQ
theorem m_isPast {n v : Nat} (hn : n ≤ 2147483647) (hQ : Q [vv_I (b01 (v ≤ n))] go_φ δ) : Go E d (0, 0) mx_X12_isPast go_φ 0 [(0, vv_L (n : Int)), (2, vv_L (st v))] [] δ Q := by
  have hM := MX_eq
  by_cases h : v ≤ MX
  · rw [st_le h]
    refine go_lload_n (i := 2) dx_X12_isPast_0 rfl rfl ?_
    refine go_ldc2 (x := (-7)) kx_X12_288 dx_X12_isPast_1 ?_
    refine go_lcmp_eq (tgt := 18) dx_X12_isPast_4 dx_X12_isPast_5 rfl (by omega) (by omega) (fun c4 => ?_) (fun c4 => ?_)
    · refine go_iconst dx_X12_isPast_18 ?_
      refine go_zreturn dx_X12_isPast_19 rfl (by first | exact Or.inl rfl | exact Or.inr rfl | assumption | omega) (Nat.le_refl _) (Nat.le_refl _) ?_
      first | (rw [b01_t (by omega)] at hQ; exact hQ) | (rw [b01_f (by omega)] at hQ; exact hQ)
    · refine go_lload_n (i := 0) dx_X12_isPast_8 rfl rfl ?_
      refine go_lload_n (i := 2) dx_X12_isPast_9 rfl rfl ?_
      refine go_lcmp_lt (tgt := 18) dx_X12_isPast_10 dx_X12_isPast_11 rfl (by omega) (by omega) (fun c10 => ?_) (fun c10 => ?_)
      · refine go_iconst dx_X12_isPast_18 ?_
        refine go_zreturn dx_X12_isPast_19 rfl (by first | exact Or.inl rfl | exact Or.inr rfl | assumption | omega) (Nat.le_refl _) (Nat.le_refl _) ?_
        first | (rw [b01_t (by omega)] at hQ; exact hQ) | (rw [b01_f (by omega)] at hQ; exact hQ)
      · refine go_iconst dx_X12_isPast_14 ?_
        refine go_goto (tgt := 19) dx_X12_isPast_15 rfl ?_
        refine go_zreturn dx_X12_isPast_19 rfl (by first | exact Or.inl rfl | exact Or.inr rfl | assumption | omega) (Nat.le_refl _) (Nat.le_refl _) ?_
        first | (rw [b01_t (by omega)] at hQ; exact hQ) | (rw [b01_f (by omega)] at hQ; exact hQ)
  · rw [st_gt h, b01_f (by omega)] at *
    refine go_lload_n (i := 2) dx_X12_isPast_0 rfl rfl ?_
    refine go_ldc2 (x := (-7)) kx_X12_288 dx_X12_isPast_1 ?_
    refine go_lcmp_eq (tgt := 18) dx_X12_isPast_4 dx_X12_isPast_5 rfl (by omega) (by omega) (fun c4 => ?_) (fun c4 => ?_)
    · refine go_iconst dx_X12_isPast_18 ?_
      refine go_zreturn dx_X12_isPast_19 rfl (by first | exact Or.inl rfl | exact Or.inr rfl | assumption | omega) (Nat.le_refl _) (Nat.le_refl _) ?_
      first | exact hQ | (exfalso; omega)
    · refine go_lload_n (i := 0) dx_X12_isPast_8 rfl rfl ?_
      refine go_lload_n (i := 2) dx_X12_isPast_9 rfl rfl ?_
      refine go_lcmp_lt (tgt := 18) dx_X12_isPast_10 dx_X12_isPast_11 rfl (by omega) (by omega) (fun c10 => ?_) (fun c10 => ?_)
      · refine go_iconst dx_X12_isPast_18 ?_
        refine go_zreturn dx_X12_isPast_19 rfl (by first | exact Or.inl rfl | exact Or.inr rfl | assumption | omega) (Nat.le_refl _) (Nat.le_refl _) ?_
        first | exact hQ | (exfalso; omega)
      · refine go_iconst dx_X12_isPast_14 ?_
        refine go_goto (tgt := 19) dx_X12_isPast_15 rfl ?_
        refine go_zreturn dx_X12_isPast_19 rfl (by first | exact Or.inl rfl | exact Or.inr rfl | assumption | omega) (Nat.le_refl _) (Nat.le_refl _) ?_
        first | exact hQ | (exfalso; omega)
/-- tables that a tree is listed by -/
def mb_at (δ : Nat → Nat → Int) (K : sK) : Prop := bo_at δ K.1 ∧ mw_at δ K.2.2 ∧ tr_at δ K 15 0 ∧ gr_at δ K 15 0 ∧ sk_ok K
theorem mb_fr {δ δ' : Nat → Nat → Int} (h : mb_at δ K) (f : ∀ c j, (c = 95 ∨ c = 106 ∨ c = 110 ∨ c = 111) → δ' c j = δ c j) : mb_at δ' K :=
  ⟨bo_fr h.1 (fun j _ => f _ _ (by omega)), mw_fr h.2.1 (fun j => f _ _ (by omega)), fun x a b e g p q => by rw [f _ _ (by omega)]; exact h.2.2.1 x a b e g p q, fun x a b e g p q => by rw [f _ _ (by omega)]; exact h.2.2.2.1 x a b e g p q, h.2.2.2.2⟩
theorem m_waysWith {r x i j S : Nat} (h : mb_at δ K) (hr : r < 16) (hl2 : 2 ≤ (K.1 r).length) (hx : (K.1 r).getD 0 0 = x) (hS : S < 256) (hij : i < j) (hj : j ≤ K.2.2.length)
    (hQ : ∀ δ', (∀ c q, c ≠ 112 → c ≠ 113 → c ≠ 114 → δ' c q = δ c q) → Q [vv_L (st (wrr K.1 (plw K.2.2) S x i j (K.1 r)))] go_φ δ') :
    Go E (d + 4) (0, 0) mx_X12_waysWith go_φ 0 [(0, vv_A 94), (1, vv_I (r : Int)), (2, vv_I (i : Int)), (3, vv_I (j : Int)), (4, vv_I (S : Int))] [] δ Q := by
  obtain ⟨h1, h2, h3, h4, h5⟩ := h
  have hR := h1.1
  have hd : dstn K.1 := h5.2.2.1
  have h14 := h5.2.2.2.2.1
  have hlet := h5.2.2.2.2.2
  have l110 : go_ln 110 = 2048 := rfl
  have l112 : go_ln 112 = 96 := rfl
  have hlen := (hR r).len
  have hw : wrr K.1 (plw K.2.2) S x i j (K.1 r) = (if (K.1 r).length = 2 ∧ (K.1 r).getD 1 0 < 8 then nif (¬ S.testBit ((K.1 r).getD 1 0) = true) (Tw K.1 (plw K.2.2) (S ||| 2 ^ (K.1 r).getD 1 0) ((K.1 r).getD 1 0) i j) else fit (Tn K.1 (plw K.2.2)) (plw K.2.2) ((K.1 r).drop 1) i j) := nif_t ⟨hx, hl2⟩
  have hp14 := rl_getD_lt (hR r) (k := 1) (by omega)
  obtain ⟨p, hp⟩ : ∃ p, p = (K.1 r).getD 1 0 := ⟨_, rfl⟩
  rw [← hp] at hw hp14
  have ht : tr_at δ K (j - i) 15 := fun x a b e f g q => h3 x a b e f g (by omega)
  by_cases hu : (K.1 r).length = 2 ∧ p < 8
  · rw [if_pos hu] at hw
    rw [hw] at hQ
    have hSp : S ||| 2 ^ p < 256 := bt_or62 (n := 8) hS hu.2
    refine go_aload_n (i := 0) dx_X12_waysWith_0 rfl rfl ?_
    refine go_iload_n (i := 1) dx_X12_waysWith_1 rfl rfl ?_
    refine go_cV1 sv_X12_148 (go_ok rfl rfl) dx_X12_waysWith_2 (Nat.le_of_ble_eq_true rfl) (Nat.le_of_ble_eq_true rfl) (o_longOf h1 hr ?_)
    refine go_iconst dx_X12_waysWith_5 ?_
    refine go_icmp_ne (tgt := 68) dx_X12_waysWith_6 rfl (by omega) (by omega) (fun c6 => by exact absurd c6 (by omega)) (fun c6 => ?_)
    refine go_aload_n (i := 0) dx_X12_waysWith_9 rfl rfl ?_
    refine go_iload_n (i := 1) dx_X12_waysWith_10 rfl rfl ?_
    refine go_iconst dx_X12_waysWith_11 ?_
    refine go_asI (y := ((0 : Nat) : Int)) (by rfl) ?_
    refine go_cV2 sv_X12_190 (go_ok rfl rfl) dx_X12_waysWith_12 (Nat.le_of_ble_eq_true rfl) (Nat.le_of_ble_eq_true rfl) (o_partOf h1 hr (by omega) ?_)
    refine go_asI (y := (p : Int)) (by rw [hp]) ?_
    refine go_cS1 ss_X12_212 dx_X12_waysWith_15 (Nat.le_of_ble_eq_true rfl) (Nat.le_of_ble_eq_true rfl) (m_isSymbol (by omega) (fun a1 a2 => ?_) (fun b1 => absurd ⟨by omega, by omega⟩ b1))
    refine go_if_eq (tgt := 68) dx_X12_waysWith_18 rfl (by omega) (fun c18 => absurd c18 (by decide)) (fun c18 => ?_)
    refine go_iload dx_X12_waysWith_21 rfl ?_
    refine go_aload_n (i := 0) dx_X12_waysWith_23 rfl rfl ?_
    refine go_iload_n (i := 1) dx_X12_waysWith_24 rfl rfl ?_
    refine go_iconst dx_X12_waysWith_25 ?_
    refine go_asI (y := ((0 : Nat) : Int)) (by rfl) ?_
    refine go_cV2 sv_X12_190 (go_ok rfl rfl) dx_X12_waysWith_26 (Nat.le_of_ble_eq_true rfl) (Nat.le_of_ble_eq_true rfl) (o_partOf h1 hr (by omega) ?_)
    refine go_asI (y := (p : Int)) (by rw [hp]) ?_
    refine go_ishr dx_X12_waysWith_29 ?_
    refine go_iconst dx_X12_waysWith_30 ?_
    refine go_iand dx_X12_waysWith_31 ?_
    refine go_asI (y := (b01 (S.testBit p = true))) (by exact bv_tstbS (by omega) (by omega)) ?_
    refine go_iconst dx_X12_waysWith_32 ?_
    refine go_icmp_ne (tgt := 38) dx_X12_waysWith_33 rfl (by first | omega | (have := b01_iI (S.testBit p = true); omega)) (by first | omega | (have := b01_iI (S.testBit p = true); omega)) (fun c33 => ?_) (fun c33 => ?_)
    · refine go_aload_n (i := 0) dx_X12_waysWith_38 rfl rfl ?_
      refine go_aload_n (i := 0) dx_X12_waysWith_39 rfl rfl ?_
      refine go_iload_n (i := 1) dx_X12_waysWith_40 rfl rfl ?_
      refine go_iconst dx_X12_waysWith_41 ?_
      refine go_asI (y := ((0 : Nat) : Int)) (by rfl) ?_
      refine go_cV2 sv_X12_190 (go_ok rfl rfl) dx_X12_waysWith_42 (Nat.le_of_ble_eq_true rfl) (Nat.le_of_ble_eq_true rfl) (o_partOf h1 hr (by omega) ?_)
      refine go_asI (y := (p : Int)) (by rw [hp]) ?_
      refine go_iload dx_X12_waysWith_45 rfl ?_
      refine go_cV2 sv_X12_311 (go_ok rfl rfl) dx_X12_waysWith_47 (Nat.le_of_ble_eq_true rfl) (Nat.le_of_ble_eq_true rfl) (m_laysPaths h1 hd hu.2 hS (fun δ1 p1 p2 => ?_))
      refine go_aload_n (i := 0) dx_X12_waysWith_50 rfl rfl ?_
      refine go_aload_n (i := 0) dx_X12_waysWith_51 rfl rfl ?_
      refine go_getA (b := 110) fs_X12_61 rfl (go_ok rfl rfl) rfl dx_X12_waysWith_52 ?_
      refine go_bipush dx_X12_waysWith_55 rfl ?_
      refine go_iload_n (i := 2) dx_X12_waysWith_57 rfl rfl ?_
      refine go_imul dx_X12_waysWith_58 ?_
      refine go_iload_n (i := 3) dx_X12_waysWith_59 rfl rfl ?_
      refine go_iadd dx_X12_waysWith_60 ?_
      refine go_asI (y := ((16 * i + j : Nat) : Int)) (by omega) ?_
      refine go_sipush dx_X12_waysWith_61 rfl ?_
      refine go_asI (y := ((256 : Nat) : Int)) (by rfl) ?_
      refine go_cV3 sv_X12_315 (go_ok rfl rfl) dx_X12_waysWith_64 (Nat.le_of_ble_eq_true rfl) (Nat.le_of_ble_eq_true rfl) (m_sumOfPaths (g := fun y => wy (un K.1) 8 (S ||| 2 ^ p) p y) (G := fun y => gK K y i j) (go_ok rfl rfl) (by omega) (by omega) (by omega) p1 (fun y _ => wy_lt) (fun y hy => by rw [p2 110 _ (by decide) (by decide), show 16 * i + j + 256 * y = 256 * y + 16 * i + j by omega]; exact h4 y i j hy hij hj (by omega)) ?_)
      refine go_lreturn dx_X12_waysWith_67 rfl (Nat.le_refl _) (Nat.le_refl _) ?_
      rw [nif_t (fun q => c33 (b01_1.mpr q))] at hQ
      exact hQ δ1 (fun c q a b e => p2 c q b e)
    · refine go_lconst (x := 0) dx_X12_waysWith_36 rfl ?_
      refine go_lreturn dx_X12_waysWith_37 rfl (Nat.le_refl _) (Nat.le_refl _) ?_
      rw [nif_f (fun q => q (b01_1.mp (by omega))), st_0] at hQ
      exact hQ δ (fun _ _ _ _ _ => rfl)
  · rw [if_neg hu] at hw
    rw [hw] at hQ
    have tail : Go E (d + 4) (0, 0) mx_X12_waysWith go_φ 68 [(0, vv_A 94), (1, vv_I (r : Int)), (2, vv_I (i : Int)), (3, vv_I (j : Int)), (4, vv_I (S : Int))] [] δ Q := by
      refine go_aload_n (i := 0) dx_X12_waysWith_68 rfl rfl ?_
      refine go_iload_n (i := 1) dx_X12_waysWith_69 rfl rfl ?_
      refine go_iload_n (i := 2) dx_X12_waysWith_70 rfl rfl ?_
      refine go_iload_n (i := 3) dx_X12_waysWith_71 rfl rfl ?_
      refine go_cV3 sv_X12_307 (go_ok rfl rfl) dx_X12_waysWith_72 (Nat.le_of_ble_eq_true rfl) (Nat.le_of_ble_eq_true rfl) (m_laysFit hlet h1 h2 ht h14 hr hl2 (fun q => Nat.le_of_not_lt (fun z => hu ⟨q, by rw [hp]; exact z⟩)) hij hj (fun δ1 p1 p2 => ?_))
      refine go_aload_n (i := 0) dx_X12_waysWith_75 rfl rfl ?_
      refine go_getA (b := 112) fs_X12_67 rfl (go_ok rfl rfl) rfl dx_X12_waysWith_76 ?_
      refine go_iload_n (i := 2) dx_X12_waysWith_79 rfl rfl ?_
      refine go_laloadV (i := i) (v := ((st (fK K ((K.1 r).drop 1) i j)))) dx_X12_waysWith_80 (go_ok rfl rfl) (by omega) (show i < 96 by omega) (by have := p1 0 i (Nat.zero_le _) (Nat.le_refl _) (by omega) (Or.inr rfl) (Or.inr ⟨rfl, by omega⟩); rw [List.drop_zero, Nat.mul_zero, Nat.zero_add] at this; exact this) ?_
      refine go_lreturn dx_X12_waysWith_81 rfl (Nat.le_refl _) (Nat.le_refl _) ?_
      exact hQ δ1 (fun c q a _ _ => p2 c q a)
    refine go_aload_n (i := 0) dx_X12_waysWith_0 rfl rfl ?_
    refine go_iload_n (i := 1) dx_X12_waysWith_1 rfl rfl ?_
    refine go_cV1 sv_X12_148 (go_ok rfl rfl) dx_X12_waysWith_2 (Nat.le_of_ble_eq_true rfl) (Nat.le_of_ble_eq_true rfl) (o_longOf h1 hr ?_)
    refine go_iconst dx_X12_waysWith_5 ?_
    refine go_icmp_ne (tgt := 68) dx_X12_waysWith_6 rfl (by omega) (by omega) (fun c6 => ?_) (fun c6 => ?_)
    · exact tail
    · refine go_aload_n (i := 0) dx_X12_waysWith_9 rfl rfl ?_
      refine go_iload_n (i := 1) dx_X12_waysWith_10 rfl rfl ?_
      refine go_iconst dx_X12_waysWith_11 ?_
      refine go_asI (y := ((0 : Nat) : Int)) (by rfl) ?_
      refine go_cV2 sv_X12_190 (go_ok rfl rfl) dx_X12_waysWith_12 (Nat.le_of_ble_eq_true rfl) (Nat.le_of_ble_eq_true rfl) (o_partOf h1 hr (by omega) ?_)
      refine go_asI (y := (p : Int)) (by rw [hp]) ?_
      refine go_cS1 ss_X12_212 dx_X12_waysWith_15 (Nat.le_of_ble_eq_true rfl) (Nat.le_of_ble_eq_true rfl) (m_isSymbol (by omega) (fun a1 a2 => absurd ⟨by omega, by omega⟩ hu) (fun b1 => ?_))
      refine go_if_eq (tgt := 68) dx_X12_waysWith_18 rfl (by omega) (fun c18 => ?_) (fun c18 => absurd c18 (by decide))
      exact tail
end GMLO
