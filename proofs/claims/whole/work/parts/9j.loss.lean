/-! the class's calls: loss -/
theorem dp_wo {R : Nat → List Nat} {pl : Nat → Nat → Prop} {wo : Int} {x i j : Nat} (hx : x < 14) (h : dp (rl_wo R wo) pl x i j) : dp R pl x i j := by
  obtain ⟨u, h1, h2, h3⟩ := h
  refine ⟨u, h1, h2, (dx_lo hx).mpr (ds_mono (fun r hr => ?_) ((dx_lo hx).mp h3))⟩
  unfold rl_wo at hr ⊢
  by_cases q : (r : Int) = wo
  · rw [if_pos q] at hr; exact absurd rfl hr
  · rw [if_neg q]
theorem cn_dif {n : Nat} {P P' : Nat → Prop} (h : ∀ x, x < n → P' x → P x) : cn n P = cn n P' + cn n (fun x => P x ∧ ¬ P' x) := by
  induction n with
  | zero => rfl
  | succ n ih =>
    have ih := ih (fun x hx => h x (by omega))
    by_cases q : P n
    · by_cases q' : P' n
      · rw [cn_st q, cn_st q', cn_sf (P := fun x => P x ∧ ¬ P' x) (fun w => w.2 q')]; omega
      · rw [cn_st q, cn_sf q', cn_st (P := fun x => P x ∧ ¬ P' x) ⟨q, q'⟩]; omega
    · rw [cn_sf q, cn_sf (fun w => q (h n (Nat.lt_succ_self _) w)), cn_sf (P := fun x => P x ∧ ¬ P' x) (fun w => q w.1)]; exact ih
theorem dmn_tri (R : Nat → List Nat) (w : List Nat) : dmn R w = su (w.length + 1) (fun j => su j (fun i => cn 8 (fun x => dp R (plw w) x i j))) := by
  unfold dmn
  rw [su_comm]
  refine su_congr (fun j hj => ?_)
  exact su_skip (by omega) (fun k h1 _ => cn_0 (fun x _ hd => by have := dp_lt hd; omega))
theorem mk_dif8 {R : Nat → List Nat} {P P' : Nat → Prop} : (bt_dif (mk 62 P) (mk 62 P') &&& 255) = mk 8 (fun x => P x ∧ ¬ P' x) := by
  have e := Nat.and_two_pow_sub_one_eq_mod (bt_dif (mk 62 P) (mk 62 P')) 8
  have e2 : bt_dif (mk 62 P) (mk 62 P') &&& 255 = bt_dif (mk 62 P) (mk 62 P') % 2 ^ 8 := e
  rw [e2]
  refine mk_eq (Nat.mod_lt _ (Nat.two_pow_pos 8)) (fun x hx => ?_)
  rw [Nat.testBit_mod_two_pow, bt_dif_bit]
  simp only [hx, decide_true, Bool.true_and, Bool.and_eq_true, Bool.not_eq_true']
  rw [bt_fls, mk_bit, mk_bit]
  exact ⟨fun q => ⟨q.1.2, fun w => q.2 ⟨by omega, w⟩⟩, fun q => ⟨⟨by omega, q.1⟩, fun w => q.2 w.2⟩⟩
section GXLOSS
variable {E : go_E} {d : Nat} {δ : Nat → Nat → Int} {Q : List go_V → go_F → (Nat → Nat → Int) → Prop} {S : sS} {K : sK} {Tm : Int}
theorem x_lossGo {m n : Nat} {R R' : Nat → List Nat} {w : List Nat} (hn : n = w.length) (h14 : n ≤ 14) (e3 : δ 3 3 = (n : Int)) (hc : ct_at δ 44 false R (plw w) n) (hc' : ct_at δ 87 false R' (plw w) n) (hQ : Q [vv_I ((su (n + 1) (fun j => su j (fun i => cn 8 (fun x => dp R (plw w) x i j ∧ ¬ dp R' (plw w) x i j))) : Nat) : Int)] go_φ δ) :
    Go E (d + 12) (0, 0) mx_X11_loss go_φ 60 [(0, vv_A 0), (1, vv_I (m : Int))] [] δ Q := by
  obtain ⟨D, hD⟩ : ∃ D : Nat → Nat → Nat, ∀ i j, D i j = cn 8 (fun x => dp R (plw w) x i j ∧ ¬ dp R' (plw w) x i j) := ⟨_, fun _ _ => rfl⟩
  have eS : su (n + 1) (fun j => su j (fun i => cn 8 (fun x => dp R (plw w) x i j ∧ ¬ dp R' (plw w) x i j))) = su (n + 1) (fun j => su j (fun i => D i j)) := su_congr (fun j _ => su_congr (fun i _ => (hD i j).symm))
  rw [eS] at hQ
  have inner : ∀ j, 1 ≤ j → j ≤ n → (Go E (d + 12) (0, 0) mx_X11_loss go_φ 64 [(0, vv_A 0), (1, vv_I (m : Int)), (2, vv_I ((su (j + 1) (fun j => su j (fun i => D i j)) : Nat) : Int)), (3, vv_I ((j + 1 : Nat) : Int))] [] δ Q) →
      Go E (d + 12) (0, 0) mx_X11_loss go_φ 78 [(0, vv_A 0), (1, vv_I (m : Int)), (2, vv_I ((su j (fun j => su j (fun i => D i j)) : Nat) : Int)), (3, vv_I (j : Int)), (4, vv_I 0)] [] δ Q := fun j hj1 hjn KK => by
    have loop := lp_up (X := Unit) (hi := j) (I := fun _ _ => True)
      (G := fun i _ => Go E (d + 12) (0, 0) mx_X11_loss go_φ 78 [(0, vv_A 0), (1, vv_I (m : Int)), (2, vv_I ((su j (fun j => su j (fun i => D i j)) + su i (fun i => D i j) : Nat) : Int)), (3, vv_I (j : Int)), (4, vv_I (i : Int))] [] δ Q)
      (fun i _ hi _ ih => by
        have e8 := mk_lt 8 (fun x => dp R (plw w) x i j ∧ ¬ dp R' (plw w) x i j)
        have h63 := bt_m63 (mk_lt 62 (fun x => dp R (plw w) x i j)) (by decide)
        have h63' := bt_m63 (mk_lt 62 (fun x => dp R' (plw w) x i j)) (by decide)
        have hle := bt_dif_le (mk 62 (fun x => dp R (plw w) x i j)) (mk 62 (fun x => dp R' (plw w) x i j))
        have es := su_s i (fun i => D i j)
        refine go_iload dx_X11_loss_78 rfl ?_
        refine go_iload_n (i := 3) dx_X11_loss_80 rfl rfl ?_
        refine go_icmp_ge (tgt := 125) dx_X11_loss_81 rfl (by omega) (by omega) (fun c81 => by exact absurd c81 (by omega)) (fun c81 => ?_)
        refine go_iload_n (i := 2) dx_X11_loss_84 rfl rfl ?_
        refine go_aload_n (i := 0) dx_X11_loss_85 rfl rfl ?_
        refine go_getA (b := 44) fs_X11_42 rfl (go_ok rfl rfl) rfl dx_X11_loss_86 ?_
        refine go_iload dx_X11_loss_89 rfl ?_
        refine go_iload_n (i := 3) dx_X11_loss_91 rfl rfl ?_
        refine go_cV2 sv_X11_233 (go_ok rfl rfl) dx_X11_loss_92 (Nat.le_of_ble_eq_true rfl) (Nat.le_of_ble_eq_true rfl) (g_Chart_cellAt ch_ok44 hc (by omega) (by omega) ?_)
        refine go_aload_n (i := 0) dx_X11_loss_95 rfl rfl ?_
        refine go_getA (b := 87) fs_X11_98 rfl (go_ok rfl rfl) rfl dx_X11_loss_96 ?_
        refine go_iload dx_X11_loss_99 rfl ?_
        refine go_iload_n (i := 3) dx_X11_loss_101 rfl rfl ?_
        refine go_cV2 sv_X11_233 (go_ok rfl rfl) dx_X11_loss_102 (Nat.le_of_ble_eq_true rfl) (Nat.le_of_ble_eq_true rfl) (g_Chart_cellAt ch_ok87 hc' (by omega) (by omega) ?_)
        refine go_ldc2 (x := (-1)) kx_X11_253 dx_X11_loss_105 ?_
        refine go_lxor dx_X11_loss_108 ?_
        refine go_land dx_X11_loss_109 ?_
        refine go_asL (y := ((bt_dif (mk 62 (fun x => dp R (plw w) x i j)) (mk 62 (fun x => dp R' (plw w) x i j)) : Nat) : Int)) (by exact bw_andnot h63 h63') ?_
        refine go_ldc2 (x := 255) kx_X11_227 dx_X11_loss_110 ?_
        refine go_land dx_X11_loss_113 ?_
        refine go_asL (y := ((mk 8 (fun x => dp R (plw w) x i j ∧ ¬ dp R' (plw w) x i j) : Nat) : Int)) (by rw [show (255 : Int) = ((255 : Nat) : Int) from rfl, bw_andN (by omega) (by decide), mk_dif8 (R := R)]) ?_
        refine go_cS1 ss_X11_305 dx_X11_loss_114 (Nat.le_of_ble_eq_true rfl) (Nat.le_of_ble_eq_true rfl) (g_J13_bitCount (by omega) ?_)
        refine go_iadd dx_X11_loss_117 ?_
        refine go_asI (y := ((su j (fun j => su j (fun i => D i j)) + su (i + 1) (fun i => D i j) : Nat) : Int)) (by rw [show (64 : Nat) = 8 + 56 from rfl, pop_up (k := 8) (m := 56) e8, pop_mk, ← hD i j, es]; omega) ?_
        refine go_istore_n (i := 2) (lv' := [(0, vv_A 0), (1, vv_I (m : Int)), (2, vv_I ((su j (fun j => su j (fun i => D i j)) + su (i + 1) (fun i => D i j) : Nat) : Int)), (3, vv_I (j : Int)), (4, vv_I (i : Int))]) dx_X11_loss_118 rfl (by decide) rfl ?_
        refine go_iinc (lv' := [(0, vv_A 0), (1, vv_I (m : Int)), (2, vv_I ((su j (fun j => su j (fun i => D i j)) + su (i + 1) (fun i => D i j) : Nat) : Int)), (3, vv_I (j : Int)), (4, vv_I ((i : Int) + 1))]) dx_X11_loss_119 rfl (by decide) rfl ?_
        refine go_goto (tgt := 78) dx_X11_loss_122 rfl ?_
        exact ih () trivial
      ) (fun _ _ => by
        have es := su_s j (fun j => su j (fun i => D i j))
        rw [es] at KK
        refine go_iload dx_X11_loss_78 rfl ?_
        refine go_iload_n (i := 3) dx_X11_loss_80 rfl rfl ?_
        refine go_icmp_ge (tgt := 125) dx_X11_loss_81 rfl (by omega) (by omega) (fun c81 => ?_) (fun c81 => by exact absurd c81 (by omega))
        refine go_iinc (lv' := [(0, vv_A 0), (1, vv_I (m : Int)), (2, vv_I ((su j (fun j => su j (fun i => D i j)) + su j (fun i => D i j) : Nat) : Int)), (3, vv_I ((j : Int) + 1)), (4, vv_I (j : Int))]) dx_X11_loss_125 rfl (by decide) rfl ?_
        refine go_goto (tgt := 64) dx_X11_loss_128 rfl ?_
        refine go_keep [0, 1, 2, 3] rfl ?_
        exact KK
      )
    exact loop 0 () (Nat.zero_le _) trivial
  have outer := lp_up (X := Unit) (hi := n + 1) (I := fun j _ => 1 ≤ j)
    (G := fun j _ => Go E (d + 12) (0, 0) mx_X11_loss go_φ 64 [(0, vv_A 0), (1, vv_I (m : Int)), (2, vv_I ((su j (fun j => su j (fun i => D i j)) : Nat) : Int)), (3, vv_I (j : Int))] [] δ Q)
    (fun j _ hj hI ih => by
      have KK := inner j hI (by omega) (ih () (by omega))
      refine go_iload_n (i := 3) dx_X11_loss_64 rfl rfl ?_
      refine go_aload_n (i := 0) dx_X11_loss_65 rfl rfl ?_
      refine go_getA (b := 3) fs_X11_19 rfl (go_ok rfl rfl) rfl dx_X11_loss_66 ?_
      refine go_getI fs_X11_239 (Or.inl rfl) (go_ok rfl rfl) dx_X11_loss_69 ?_
      refine go_asI (y := (n : Int)) (by exact e3) ?_
      refine go_icmp_gt (tgt := 131) dx_X11_loss_72 rfl (by omega) (by omega) (fun c72 => by exact absurd c72 (by omega)) (fun c72 => ?_)
      refine go_iconst dx_X11_loss_75 ?_
      refine go_istore (lv' := [(0, vv_A 0), (1, vv_I (m : Int)), (2, vv_I ((su j (fun j => su j (fun i => D i j)) : Nat) : Int)), (3, vv_I (j : Int)), (4, vv_I 0)]) dx_X11_loss_76 (by decide) rfl ?_
      exact KK
    ) (fun _ _ => by
      refine go_iload_n (i := 3) dx_X11_loss_64 rfl rfl ?_
      refine go_aload_n (i := 0) dx_X11_loss_65 rfl rfl ?_
      refine go_getA (b := 3) fs_X11_19 rfl (go_ok rfl rfl) rfl dx_X11_loss_66 ?_
      refine go_getI fs_X11_239 (Or.inl rfl) (go_ok rfl rfl) dx_X11_loss_69 ?_
      refine go_asI (y := (n : Int)) (by exact e3) ?_
      refine go_icmp_gt (tgt := 131) dx_X11_loss_72 rfl (by omega) (by omega) (fun c72 => ?_) (fun c72 => by exact absurd c72 (by omega))
      refine go_iload_n (i := 2) dx_X11_loss_131 rfl rfl ?_
      refine go_ireturn dx_X11_loss_132 rfl (Nat.le_refl _) (Nat.le_refl _) ?_
      exact hQ
    )
  refine go_iconst dx_X11_loss_60 ?_
  refine go_istore_n (i := 2) (lv' := [(0, vv_A 0), (1, vv_I (m : Int)), (2, vv_I 0)]) dx_X11_loss_61 rfl (by decide) rfl ?_
  refine go_iconst dx_X11_loss_62 ?_
  refine go_istore_n (i := 3) (lv' := [(0, vv_A 0), (1, vv_I (m : Int)), (2, vv_I 0), (3, vv_I 1)]) dx_X11_loss_63 rfl (by decide) rfl ?_
  exact outer 1 () (by omega) (Nat.le_refl _)
theorem x_loss {r : Int} (hr : go_iI r) (h : xk_at Tm δ S) (hQ : ∀ δ', xk_at Tm δ' S → fc δ δ' → Q [vv_I (oq_loss S.1 r)] go_φ δ') : Go E (d + 12) (0, 0) mx_X11_loss go_φ 0 [(0, vv_A 0), (1, vv_I r)] [] δ Q := by
  have htd0 := h.1.1
  have hR0 : ∀ r, rl_ok (S.1.1 r) := htd0.2.2.2.2.1
  unfold oq_loss at hQ
  by_cases hb : 0 ≤ r ∧ r < 16 ∧ S.1.1 r.toNat ≠ []
  · obtain ⟨m, rfl⟩ : ∃ m : Nat, r = (m : Int) := ⟨r.toNat, by omega⟩
    have hm16 : m < 16 := by omega
    have hne : (rl_enc (S.1.1 m) : Int) ≠ 0 := by
      have := rl_enc_ne (hR0 m)
      have hb2 : S.1.1 m ≠ [] := hb.2.2
      intro q
      exact hb2 (this.mp (by omega))
    rw [cif_t hb] at hQ
    have hlt := rl_enc_lt (hR0 m)
    refine go_aload_n (i := 0) dx_X11_loss_0 rfl rfl ?_
    refine go_getA (b := 3) fs_X11_19 rfl (go_ok rfl rfl) rfl dx_X11_loss_1 ?_
    refine go_iload_n (i := 1) dx_X11_loss_4 rfl rfl ?_
    refine go_cV1 sv_X11_156 (go_ok rfl rfl) dx_X11_loss_5 (Nat.le_of_ble_eq_true rfl) (Nat.le_of_ble_eq_true rfl) (g_Told_ruleAtN td_ok3 htd0 hm16 ?_)
    refine go_if_ne (tgt := 14) dx_X11_loss_8 rfl (by omega) (fun c8 => ?_) (fun c8 => by exact absurd c8 hne)
    refine go_aload_n (i := 0) dx_X11_loss_14 rfl rfl ?_
    refine go_cV0 sv_X11_183 (go_ok rfl rfl) dx_X11_loss_15 (Nat.le_of_ble_eq_true rfl) (Nat.le_of_ble_eq_true rfl) (g_freshen h (fun δ1 h1 e1 f1 => ?_))
    obtain ⟨a1, a2, a3, a4, a5, a6, a7, a8, a9, a10, a11⟩ := id h1
    obtain ⟨hb1, hm1, hc1⟩ := a4 e1
    have htd := a1.1
    have hR := hb1.2.2.2.2.2.2
    have e3 := htd.2.2.2.1
    have h14 := htd.2.2.2.2.2.2.2.2.1
    have hlet := htd.2.2.2.2.2.2.2.2.2
    refine go_aload_n (i := 0) dx_X11_loss_18 rfl rfl ?_
    refine go_getA (b := 76) fs_X11_95 rfl (go_ok rfl rfl) rfl dx_X11_loss_19 ?_
    refine go_aload_n (i := 0) dx_X11_loss_22 rfl rfl ?_
    refine go_getA (b := 3) fs_X11_19 rfl (go_ok rfl rfl) rfl dx_X11_loss_23 ?_
    refine go_iload_n (i := 1) dx_X11_loss_26 rfl rfl ?_
    refine go_cV2 sv_X11_293 (go_ok rfl rfl) dx_X11_loss_27 (Nat.le_of_ble_eq_true rfl) (Nat.le_of_ble_eq_true rfl) (g_Binary_build (wo := (m : Int)) bi_ok76 (by decide) htd (by omega) (fun δ2 b2 f2 => ?_))
    refine go_aload_n (i := 0) dx_X11_loss_30 rfl rfl ?_
    refine go_getA (b := 87) fs_X11_98 rfl (go_ok rfl rfl) rfl dx_X11_loss_31 ?_
    refine go_aload_n (i := 0) dx_X11_loss_34 rfl rfl ?_
    refine go_getA (b := 3) fs_X11_19 rfl (go_ok rfl rfl) rfl dx_X11_loss_35 ?_
    refine go_iconst dx_X11_loss_38 ?_
    refine go_cV2 sv_X11_297 (go_ok rfl rfl) dx_X11_loss_39 (Nat.le_of_ble_eq_true rfl) (Nat.le_of_ble_eq_true rfl) (g_Chart_readWord (rv := false) (w := S.1.2.2) ch_ok87 (by decide) (td_fr3 htd (fun c j hc => f2 c j (by omega) (by omega))) rfl (fun δ3 b3 f3 => ?_))
    have fr3 : ∀ c j, ¬ (76 ≤ c ∧ c ≤ 83) → c ≠ 88 → δ3 c j = δ1 c j := fun c j h1 h2 => by rw [f3 c j (by omega), f2 c j (by omega) (by omega)]
    have hb3 : bi_at δ3 76 (rl_wo S.1.1 (m : Int)) := bi_fr b2 (fun c j h1 h2 => f3 c j (by omega))
    have e33 : δ3 3 3 = (S.1.2.2.length : Int) := by rw [fr3 3 3 (by omega) (by omega)]; exact e3
    refine go_aload_n (i := 0) dx_X11_loss_42 rfl rfl ?_
    refine go_getA (b := 87) fs_X11_98 rfl (go_ok rfl rfl) rfl dx_X11_loss_43 ?_
    refine go_aload_n (i := 0) dx_X11_loss_46 rfl rfl ?_
    refine go_getA (b := 76) fs_X11_95 rfl (go_ok rfl rfl) rfl dx_X11_loss_47 ?_
    refine go_aload_n (i := 0) dx_X11_loss_50 rfl rfl ?_
    refine go_getA (b := 3) fs_X11_19 rfl (go_ok rfl rfl) rfl dx_X11_loss_51 ?_
    refine go_getI fs_X11_239 (Or.inl rfl) (go_ok rfl rfl) dx_X11_loss_54 ?_
    refine go_asI (y := (S.1.2.2.length : Int)) (by exact e33) ?_
    refine go_cV2 sv_X11_301 (go_ok rfl rfl) dx_X11_loss_57 (Nat.le_of_ble_eq_true rfl) (Nat.le_of_ble_eq_true rfl) (g_Chart_fill ch_ok87 bi_ok76 (by omega) hb3 (by rw [fr3 87 0 (by omega) (by omega)]; exact a3.2.2.1) h14 b3 (fun i c q => hlet c (List.mem_of_getElem? q)) (fun q => by cases q) (fun δ4 b4 f4 => ?_))
    have fr : ∀ b j, ¬ (76 ≤ b ∧ b ≤ 83) → b ≠ 88 → b ≠ 89 → ¬ (b = 87 ∧ j = 5) → δ4 b j = δ1 b j := fun b j h1 h2 h3 h4 => by rw [f4 b j (by omega) (by omega), fr3 b j h1 h2]
    have h4 : xk_at Tm δ4 S := ⟨xs_fr a1 (fun b h1 h2 j => fr b j (by omega) (by omega) (by omega) (by omega)), kts_fr a2 0 0 (fr 0 16 (by omega) (by omega) (by omega) (by omega)) (fun b j h => Or.inl (fr b j (by omega) (by omega) (by omega) (by omega))), kno_fr a3 (fun b j h => fr b j (by omega) (by omega) (by omega) (by omega)), k17_fr a4 (fun b j h => fr b j (by omega) (by omega) (by omega) (by omega)), k49_fr a5 (fun b j h => fr b j (by omega) (by omega) (by omega) (by omega)), k52_fr a6 (fun b j h => fr b j (by omega) (by omega) (by omega) (by omega)), k56_fr a7 (fun b j h => fr b j (by omega) (by omega) (by omega) (by omega)), k62_fr a8 (fun b j h => fr b j (by omega) (by omega) (by omega) (by omega)), k67_fr a9 (fun b j h => fr b j (by omega) (by omega) (by omega) (by omega)), k71_fr a10 (fun b j h => fr b j (by omega) (by omega) (by omega) (by omega)), k74_fr a11 (fun b j h => fr b j (by omega) (by omega) (by omega) (by omega))⟩
    have hQ := hQ δ4 h4 (fc_tr f1 (fun b hb j => fr b j (by omega) (by omega) (by omega) (by omega)))
    refine x_lossGo rfl h14 h4.1.1.2.2.2.1 (ct_fr hc1 (fun c j hc => fr c j (by omega) (by omega) (by omega) (by omega))) b4 ?_
    have ed : dmn S.1.1 S.1.2.2 = dmn (rl_wo S.1.1 (m : Int)) S.1.2.2 + su (S.1.2.2.length + 1) (fun j => su j (fun i => cn 8 (fun x => dp S.1.1 (plw S.1.2.2) x i j ∧ ¬ dp (rl_wo S.1.1 (m : Int)) (plw S.1.2.2) x i j))) := by
      rw [dmn_tri, dmn_tri, ← su_add]
      refine su_congr (fun j _ => ?_)
      rw [← su_add]
      exact su_congr (fun i _ => cn_dif (fun x hx q => dp_wo (by omega) q))
    rw [ed] at hQ
    rw [show ((dmn (rl_wo S.1.1 (m : Int)) S.1.2.2 + su (S.1.2.2.length + 1) (fun j => su j (fun i => cn 8 (fun x => dp S.1.1 (plw S.1.2.2) x i j ∧ ¬ dp (rl_wo S.1.1 (m : Int)) (plw S.1.2.2) x i j))) : Nat) : Int) - (dmn (rl_wo S.1.1 (m : Int)) S.1.2.2 : Int) = ((su (S.1.2.2.length + 1) (fun j => su j (fun i => cn 8 (fun x => dp S.1.1 (plw S.1.2.2) x i j ∧ ¬ dp (rl_wo S.1.1 (m : Int)) (plw S.1.2.2) x i j))) : Nat) : Int) by omega] at hQ
    exact hQ
  · rw [cif_f hb] at hQ
    have hQ := hQ δ h fc_rf
    have tell : ∀ c : Int, c = 0 → Go E (d + 12) (0, 0) mx_X11_loss go_φ 8 [(0, vv_A 0), (1, vv_I r)] [vv_I c] δ Q := fun c hc => by
      subst hc
      refine go_if_ne (tgt := 14) dx_X11_loss_8 rfl (by omega) (fun c8 => absurd c8 (by decide)) (fun c8 => ?_)
      refine go_bipush dx_X11_loss_11 rfl ?_
      refine go_ireturn dx_X11_loss_13 rfl (Nat.le_refl _) (Nat.le_refl _) ?_
      exact hQ
    refine go_aload_n (i := 0) dx_X11_loss_0 rfl rfl ?_
    refine go_getA (b := 3) fs_X11_19 rfl (go_ok rfl rfl) rfl dx_X11_loss_1 ?_
    refine go_iload_n (i := 1) dx_X11_loss_4 rfl rfl ?_
    refine go_cV1 sv_X11_156 (go_ok rfl rfl) dx_X11_loss_5 (Nat.le_of_ble_eq_true rfl) (Nat.le_of_ble_eq_true rfl) (g_Told_ruleAt td_ok3 htd0 hr (fun q1 q2 => ?_) (fun q1 => ?_))
    · refine tell _ ?_
      have q3 : S.1.1 r.toNat = [] := Classical.byContradiction (fun q => hb ⟨q1, q2, q⟩)
      rw [q3]
      rfl
    · exact tell 0 rfl
end GXLOSS
