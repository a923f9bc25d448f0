/-! the reference's calls: reached, cells, cuts, rows, spans -/
section GMCB
variable {E : go_E} {d : Nat} {δ : Nat → Nat → Int} {Q : List go_V → go_F → (Nat → Nat → Int) → Prop} {S : sS} {K : sK}
theorem m_reached {q : Int} (hq : go_iI q) (h : mx_at δ S) (hQ : ∀ δ', mx_at δ' S → fl δ δ' → Q [vv_I (oq_reached S.1 q)] go_φ δ') : Go E (d + 3) (0, 0) mx_X12_reached go_φ 0 [(0, vv_A 94), (1, vv_I q)] [] δ Q := by
  refine go_aload_n (i := 0) dx_X12_reached_0 rfl rfl ?_
  refine go_iconst dx_X12_reached_1 ?_
  refine go_putI fp_X12_139 rfl rfl (go_ok rfl rfl) dx_X12_reached_2 ?_
  have h := mx_thr (v := 0) h
  have f0 : fl δ (wr δ 94 0 0) := fl_thr
  generalize wr δ 94 0 0 = δ0 at h f0 ⊢
  have hQ := fun δ' a (b : fl δ0 δ') => hQ δ' a (fl_tr f0 b)
  have hsc := @mx_of δ0 S h
  have hb := h.1.1
  have hlaid := h.2
  have ho := bo_of hb
  have hR := ho.1
  have l95 : go_ln 95 = 384 := rfl
  have l105 : go_ln 105 = 14 := rfl
  have e112 : δ0 95 112 = (S.1.2.1 : Int) := by have := hb.2.1; rwa [Nat.zero_add] at this
  have ht8 := hb.2.2.2.2.2.2.2.1
  unfold oq_reached at hQ
  have head : ∀ r, (S.1.1 r).getD 0 0 < 8 := fun r => by
    rcases hR r with w | ⟨_, _, w, _⟩
    · rw [w]; decide
    · exact w
  -- one pass
  have pass : ∀ (n T0 : Nat), (q = 0 ∨ q = 1) → T0 < 2 ^ 14 → (∀ y, y < 8 → T0.testBit y = true → rc S.1.1 S.1.2.1 y) →
      (∀ T : Nat, T < 2 ^ 14 → (∀ y, T0.testBit y = true → T.testBit y = true) → (∀ y, y < 8 → T.testBit y = true → rc S.1.1 S.1.2.1 y) → (∀ a b, T0.testBit a = true → usp S.1.1 16 a b → T.testBit b = true) →
        Go E (d + 3) (0, 0) mx_X12_reached go_φ 30 [(0, vv_A 94), (1, vv_I q), (2, vv_I (T : Int)), (3, vv_I ((n + 1 : Nat) : Int))] [] δ0 Q) →
      Go E (d + 3) (0, 0) mx_X12_reached go_φ 39 [(0, vv_A 94), (1, vv_I q), (2, vv_I (T0 : Int)), (3, vv_I (n : Int)), (4, vv_I 0)] [] δ0 Q := by
    intro n T0 hq01 h0 hr0 KK
    refine lp_up (X := Nat) (hi := 16) (I := fun r T => T < 2 ^ 14 ∧ (∀ y, T0.testBit y = true → T.testBit y = true) ∧ (∀ y, y < 8 → T.testBit y = true → rc S.1.1 S.1.2.1 y) ∧ (∀ r', r' < r → ∀ a l, S.1.1 r' = a :: l → T0.testBit a = true → ∀ b, b ∈ l → T.testBit b = true))
      (G := fun r T => Go E (d + 3) (0, 0) mx_X12_reached go_φ 39 [(0, vv_A 94), (1, vv_I q), (2, vv_I (T : Int)), (3, vv_I (n : Int)), (4, vv_I (r : Int))] [] δ0 Q)
      (fun r T hr hI ih => ?_) (fun T hI => ?_) 0 T0 (Nat.zero_le _) ⟨h0, fun _ z => z, hr0, fun r' a => absurd a (Nat.not_lt_zero _)⟩
    · obtain ⟨i1, i2, i3, i4⟩ := hI
      have hT := bt_m31 i1 (by decide)
      have h8 := head r
      have hlen := (hR r).len
      have parts := lp_up (X := Nat) (hi := (S.1.1 r).length - 1) (I := fun i U => U < 2 ^ 14 ∧ (∀ y, T.testBit y = true → U.testBit y = true) ∧ (∀ y, y < 8 → U.testBit y = true → rc S.1.1 S.1.2.1 y) ∧ (∀ k, k < i → U.testBit ((S.1.1 r).getD (k + 1) 0) = true))
        (G := fun i U => T.testBit ((S.1.1 r).getD 0 0) = true → Go E (d + 3) (0, 0) mx_X12_reached go_φ 65 [(0, vv_A 94), (1, vv_I q), (2, vv_I (U : Int)), (3, vv_I (n : Int)), (4, vv_I (r : Int)), (5, vv_I (i : Int))] [] δ0 Q)
        (fun i U hi hI2 ih2 htb => ?_) (fun U hI2 htb => ?_)
      · refine go_iload dx_X12_reached_39 rfl ?_
        refine go_bipush dx_X12_reached_41 rfl ?_
        refine go_icmp_ge (tgt := 101) dx_X12_reached_43 rfl (by omega) (by omega) (fun c43 => by exact absurd c43 (by omega)) (fun c43 => ?_)
        refine go_iload_n (i := 2) dx_X12_reached_46 rfl rfl ?_
        refine go_aload_n (i := 0) dx_X12_reached_47 rfl rfl ?_
        refine go_iload dx_X12_reached_48 rfl ?_
        refine go_cV1 sv_X12_184 (go_ok rfl rfl) dx_X12_reached_50 (Nat.le_of_ble_eq_true rfl) (Nat.le_of_ble_eq_true rfl) (m_symbolOf hb hr ?_)
        refine go_ishr dx_X12_reached_53 ?_
        refine go_iconst dx_X12_reached_54 ?_
        refine go_iand dx_X12_reached_55 ?_
        refine go_asI (y := (b01 (T.testBit ((S.1.1 r).getD 0 0) = true))) (by exact bv_tstbS hT (by omega)) ?_
        refine go_b_ne (tgt := 62) dx_X12_reached_56 rfl (fun c56 => ?_) (fun c56 => ?_)
        · refine go_iconst dx_X12_reached_62 ?_
          refine go_istore (lv' := [(0, vv_A 94), (1, vv_I q), (2, vv_I (T : Int)), (3, vv_I (n : Int)), (4, vv_I (r : Int)), (5, vv_I 0)]) dx_X12_reached_63 (by decide) rfl ?_
          exact parts 0 T (Nat.zero_le _) ⟨i1, fun _ z => z, i3, fun k z => absurd z (Nat.not_lt_zero _)⟩ c56
        · refine go_goto (tgt := 95) dx_X12_reached_59 rfl ?_
          refine go_iinc (lv' := [(0, vv_A 94), (1, vv_I q), (2, vv_I (T : Int)), (3, vv_I (n : Int)), (4, vv_I ((r : Int) + 1))]) dx_X12_reached_95 rfl (by decide) rfl ?_
          refine go_goto (tgt := 39) dx_X12_reached_98 rfl ?_
          exact ih T ⟨i1, i2, i3, fun r' hr' a l e ha b hbl => by
          by_cases z : r' = r
          · subst z
            refine absurd (i2 a ha) ?_
            rw [e] at c56
            exact c56
          · exact i4 r' (by omega) a l e ha b hbl⟩
      · obtain ⟨j1, j2, j3, j4⟩ := hI2
        have hp := rl_getD_lt (hR r) (k := i + 1) (by omega)
        refine go_iload dx_X12_reached_65 rfl ?_
        refine go_aload_n (i := 0) dx_X12_reached_67 rfl rfl ?_
        refine go_iload dx_X12_reached_68 rfl ?_
        refine go_cV1 sv_X12_148 (go_ok rfl rfl) dx_X12_reached_70 (Nat.le_of_ble_eq_true rfl) (Nat.le_of_ble_eq_true rfl) (m_longOf hb hr ?_)
        refine go_icmp_ge (tgt := 95) dx_X12_reached_73 rfl (by omega) (by omega) (fun c73 => by exact absurd c73 (by omega)) (fun c73 => ?_)
        refine go_iload_n (i := 2) dx_X12_reached_76 rfl rfl ?_
        refine go_iconst dx_X12_reached_77 ?_
        refine go_aload_n (i := 0) dx_X12_reached_78 rfl rfl ?_
        refine go_iload dx_X12_reached_79 rfl ?_
        refine go_iload dx_X12_reached_81 rfl ?_
        refine go_cV2 sv_X12_190 (go_ok rfl rfl) dx_X12_reached_83 (Nat.le_of_ble_eq_true rfl) (Nat.le_of_ble_eq_true rfl) (m_partOf hb hr (by omega) ?_)
        refine go_ishl dx_X12_reached_86 ?_
        refine go_asI (y := ((2 ^ ((S.1.1 r).getD (i + 1) 0) : Nat) : Int)) (by exact bv_bit (by omega)) ?_
        refine go_ior dx_X12_reached_87 ?_
        refine go_asI (y := ((U ||| 2 ^ ((S.1.1 r).getD (i + 1) 0) : Nat) : Int)) (by exact bv_orN (bt_m31 j1 (by decide)) (bt_p31 hp (by decide))) ?_
        refine go_istore_n (i := 2) (lv' := [(0, vv_A 94), (1, vv_I q), (2, vv_I ((U ||| 2 ^ ((S.1.1 r).getD (i + 1) 0) : Nat) : Int)), (3, vv_I (n : Int)), (4, vv_I (r : Int)), (5, vv_I (i : Int))]) dx_X12_reached_88 rfl (by decide) rfl ?_
        refine go_iinc (lv' := [(0, vv_A 94), (1, vv_I q), (2, vv_I ((U ||| 2 ^ ((S.1.1 r).getD (i + 1) 0) : Nat) : Int)), (3, vv_I (n : Int)), (4, vv_I (r : Int)), (5, vv_I ((i : Int) + 1))]) dx_X12_reached_89 rfl (by decide) rfl ?_
        refine go_goto (tgt := 65) dx_X12_reached_92 rfl ?_
        refine ih2 _ ⟨bt_or62 j1 hp, fun y z => (bs_or1 _ _ _).mpr (Or.inl (j2 y z)), fun y hy z => ?_, fun k hk => ?_⟩ htb
        · rcases (bs_or1 _ _ _).mp z with w | w
          · exact j3 y hy w
          · obtain ⟨x, y2, l, hl, hx, _, _⟩ := rl_split hR (r := r) (fun w => by rw [w] at hi; simp at hi)
            refine rc_st (i3 _ h8 htb) ⟨r, hr, y2 :: l, by rw [hl]; rfl, ?_⟩ hy
            rw [← w, hl]
            rw [hl] at hi
            rw [List.getD_cons_succ, List.getD_eq_getElem?_getD, List.getElem?_eq_getElem (by simp only [List.length_cons] at hi ⊢; omega)]
            exact List.getElem_mem _
        · by_cases w : k = i
          · subst w; exact (bs_or1 _ _ _).mpr (Or.inr rfl)
          · exact (bs_or1 _ _ _).mpr (Or.inl (j4 k (by omega)))
      · obtain ⟨j1, j2, j3, j4⟩ := hI2
        refine go_iload dx_X12_reached_65 rfl ?_
        refine go_aload_n (i := 0) dx_X12_reached_67 rfl rfl ?_
        refine go_iload dx_X12_reached_68 rfl ?_
        refine go_cV1 sv_X12_148 (go_ok rfl rfl) dx_X12_reached_70 (Nat.le_of_ble_eq_true rfl) (Nat.le_of_ble_eq_true rfl) (m_longOf hb hr ?_)
        refine go_icmp_ge (tgt := 95) dx_X12_reached_73 rfl (by omega) (by omega) (fun c73 => ?_) (fun c73 => by exact absurd c73 (by omega))
        refine go_iinc (lv' := [(0, vv_A 94), (1, vv_I q), (2, vv_I (U : Int)), (3, vv_I (n : Int)), (4, vv_I ((r : Int) + 1)), (5, vv_I (((S.1.1 r).length - 1 : Nat) : Int))]) dx_X12_reached_95 rfl (by decide) rfl ?_
        refine go_goto (tgt := 39) dx_X12_reached_98 rfl ?_
        refine go_keep [0, 1, 2, 3, 4] rfl ?_
        refine ih U ⟨j1, fun y z => j2 y (i2 y z), j3, fun r' hr' a l e ha b hbl => ?_⟩
        by_cases z : r' = r
        · subst z
          obtain ⟨k, hk, e2⟩ := List.getElem_of_mem hbl
          have := j4 k (by rw [e, List.length_cons]; omega)
          rw [e, List.getD_cons_succ, List.getD_eq_getElem?_getD, List.getElem?_eq_getElem hk] at this
          rw [← e2]
          exact this
        · exact j2 b (i4 r' (by omega) a l e ha b hbl)
    · obtain ⟨i1, i2, i3, i4⟩ := hI
      refine go_iload dx_X12_reached_39 rfl ?_
      refine go_bipush dx_X12_reached_41 rfl ?_
      refine go_icmp_ge (tgt := 101) dx_X12_reached_43 rfl (by omega) (by omega) (fun c43 => ?_) (fun c43 => by exact absurd c43 (by omega))
      refine go_iinc (lv' := [(0, vv_A 94), (1, vv_I q), (2, vv_I (T : Int)), (3, vv_I ((n : Int) + 1)), (4, vv_I ((16 : Nat) : Int))]) dx_X12_reached_101 rfl (by decide) rfl ?_
      refine go_goto (tgt := 30) dx_X12_reached_104 rfl ?_
      refine go_keep [0, 1, 2, 3] rfl ?_
      exact KK T i1 i2 i3 (fun a b ha ⟨r, hr, l, e, hl⟩ => i4 r hr a l e ha b hl)
  have last : (q = 0 ∨ q = 1) → Go E (d + 3) (0, 0) mx_X12_reached go_φ 113 [(0, vv_A 94), (1, vv_I q), (2, vv_I (mk 8 (rc S.1.1 S.1.2.1) : Int)), (3, vv_I ((8 : Nat) : Int))] [] δ0 Q := fun hq01 => by
    refine go_aload_n (i := 0) dx_X12_reached_113 rfl rfl ?_
    refine go_cV0 sv_X12_238 (go_ok rfl rfl) dx_X12_reached_114 (Nat.le_of_ble_eq_true rfl) (Nat.le_of_ble_eq_true rfl) (m_laysLeast ho (fun δ2 v v1 v2 v3 f2 => ?_))
    refine go_iconst dx_X12_reached_117 ?_
    refine go_istore_n (i := 3) (lv' := [(0, vv_A 94), (1, vv_I q), (2, vv_I (mk 8 (rc S.1.1 S.1.2.1) : Int)), (3, vv_I 0)]) dx_X12_reached_118 rfl (by decide) rfl ?_
    obtain ⟨a, b⟩ := hsc (δ' := δ2) (fun c j hc => by unfold sc at hc; rw [f2 c j (by omega)]) (ml_fr hlaid (fun c j hc => by rw [f2 c j (by omega)]))
    have hQ := hQ δ2 a b
    rcases hq01 with w | w
    · subst w
      refine go_iload_n (i := 3) dx_X12_reached_119 rfl rfl ?_
      refine go_bipush dx_X12_reached_120 rfl ?_
      refine go_icmp_ge (tgt := 155) dx_X12_reached_122 rfl (by omega) (by omega) (fun c122 => absurd c122 (by decide)) (fun c122 => ?_)
      refine go_iload_n (i := 1) dx_X12_reached_125 rfl rfl ?_
      refine go_iconst dx_X12_reached_126 ?_
      refine go_icmp_ne (tgt := 155) dx_X12_reached_127 rfl (by omega) (by omega) (fun c127 => ?_) (fun c127 => absurd c127 (by decide))
      refine go_iload_n (i := 2) dx_X12_reached_155 rfl rfl ?_
      refine go_ireturn dx_X12_reached_156 rfl (Nat.le_refl _) (Nat.le_refl _) ?_
      exact hQ
    · subst w
      rw [if_neg (by decide), if_pos rfl] at hQ
      have loop := lp_up (X := Unit) (hi := 8) (I := fun _ _ => True)
        (G := fun x _ => ∀ lv0, lv0 = [(0, vv_A 94), (1, vv_I 1), (2, vv_I (mk 8 (fun y => rc S.1.1 S.1.2.1 y ∧ (y < x → frt S.1.1 y)) : Int)), (3, vv_I (x : Int))] → Go E (d + 3) (0, 0) mx_X12_reached go_φ 119 lv0 [] δ2 Q)
        (fun x _ hx _ ih lv0 e0 => by
          subst e0
          have hfr := lst_frt hR v2 v3 (show x < 14 by omega)
          have hvx := v2.1 x (by omega)
          refine go_iload_n (i := 3) dx_X12_reached_119 rfl rfl ?_
          refine go_bipush dx_X12_reached_120 rfl ?_
          refine go_icmp_ge (tgt := 155) dx_X12_reached_122 rfl (by omega) (by omega) (fun c122 => by exact absurd c122 (by omega)) (fun c122 => ?_)
          refine go_iload_n (i := 1) dx_X12_reached_125 rfl rfl ?_
          refine go_iconst dx_X12_reached_126 ?_
          refine go_icmp_ne (tgt := 155) dx_X12_reached_127 rfl (by omega) (by omega) (fun c127 => absurd c127 (by decide)) (fun c127 => ?_)
          refine go_aload_n (i := 0) dx_X12_reached_130 rfl rfl ?_
          refine go_getA (b := 105) fs_X12_45 rfl (go_ok rfl rfl) rfl dx_X12_reached_131 ?_
          refine go_iload_n (i := 3) dx_X12_reached_134 rfl rfl ?_
          refine go_ialoadV (i := x) (v := ((v x : Int))) dx_X12_reached_135 (go_ok rfl rfl) (by omega) (show x < 14 by omega) (by exact v1 x (by omega)) ?_
          refine go_ldc (x := 268435456) kx_X12_231 dx_X12_reached_136 ?_
          refine go_icmp_ne (tgt := 149) dx_X12_reached_138 rfl (by omega) (by omega) (fun c138 => ?_) (fun c138 => ?_)
          · refine go_iinc (lv' := [(0, vv_A 94), (1, vv_I 1), (2, vv_I (mk 8 (fun y => rc S.1.1 S.1.2.1 y ∧ (y < x → frt S.1.1 y)) : Int)), (3, vv_I ((x : Int) + 1))]) dx_X12_reached_149 rfl (by decide) rfl ?_
            refine go_goto (tgt := 119) dx_X12_reached_152 rfl ?_
            rw [mk_congr (P' := fun y => rc S.1.1 S.1.2.1 y ∧ (y < x + 1 → frt S.1.1 y)) (fun y _ => ⟨fun z => ⟨z.1, fun w => by
              by_cases e : y = x
              · subst e; exact hfr.mp (by omega)
              · exact z.2 (by omega)⟩, fun z => ⟨z.1, fun w => z.2 (by omega)⟩⟩)]
            exact ih () trivial _ rfl
          · refine go_iload_n (i := 2) dx_X12_reached_141 rfl rfl ?_
            refine go_iconst dx_X12_reached_142 ?_
            refine go_iload_n (i := 3) dx_X12_reached_143 rfl rfl ?_
            refine go_ishl dx_X12_reached_144 ?_
            refine go_asI (y := ((2 ^ x : Nat) : Int)) (by exact bv_bit (by omega)) ?_
            refine go_iconst dx_X12_reached_145 ?_
            refine go_ixor dx_X12_reached_146 ?_
            refine go_iand dx_X12_reached_147 ?_
            refine go_asI (y := ((bt_dif (mk 8 (fun y => rc S.1.1 S.1.2.1 y ∧ (y < x → frt S.1.1 y))) (2 ^ x) : Nat) : Int)) (by exact bv_andnot (mk_31 8 _ (by decide)) (bt_p31 (show x < 8 by omega) (by decide))) ?_
            refine go_istore_n (i := 2) (lv' := [(0, vv_A 94), (1, vv_I 1), (2, vv_I ((bt_dif (mk 8 (fun y => rc S.1.1 S.1.2.1 y ∧ (y < x → frt S.1.1 y))) (2 ^ x) : Nat) : Int)), (3, vv_I (x : Int))]) dx_X12_reached_148 rfl (by decide) rfl ?_
            refine go_iinc (lv' := [(0, vv_A 94), (1, vv_I 1), (2, vv_I ((bt_dif (mk 8 (fun y => rc S.1.1 S.1.2.1 y ∧ (y < x → frt S.1.1 y))) (2 ^ x) : Nat) : Int)), (3, vv_I ((x : Int) + 1))]) dx_X12_reached_149 rfl (by decide) rfl ?_
            refine go_goto (tgt := 119) dx_X12_reached_152 rfl ?_
            rw [show bt_dif (mk 8 (fun y => rc S.1.1 S.1.2.1 y ∧ (y < x → frt S.1.1 y))) (2 ^ x) = mk 8 (fun y => rc S.1.1 S.1.2.1 y ∧ (y < x + 1 → frt S.1.1 y)) from mk_eq (Nat.lt_of_le_of_lt (bt_dif_le _ _) (mk_lt 8 _)) (fun y hy => by
              rw [bt_dif_bit, Bool.and_eq_true, Bool.not_eq_true', mk_bit, bt_fls, bt_one]
              exact ⟨fun ⟨z, w⟩ => ⟨z.2.1, fun u => z.2.2 (by omega)⟩, fun ⟨z, w⟩ => ⟨⟨hy, z, fun u => w (by omega)⟩, fun u => by
                subst u
                exact absurd (hfr.mpr (w (by omega))) (by omega)⟩⟩)]
            exact ih () trivial _ rfl
        ) (fun _ _ lv0 e0 => by
          subst e0
          refine go_iload_n (i := 3) dx_X12_reached_119 rfl rfl ?_
          refine go_bipush dx_X12_reached_120 rfl ?_
          refine go_icmp_ge (tgt := 155) dx_X12_reached_122 rfl (by omega) (by omega) (fun c122 => ?_) (fun c122 => by exact absurd c122 (by omega))
          refine go_iload_n (i := 2) dx_X12_reached_155 rfl rfl ?_
          refine go_ireturn dx_X12_reached_156 rfl (Nat.le_refl _) (Nat.le_refl _) ?_
          rw [mk_congr (P' := fun y => rc S.1.1 S.1.2.1 y ∧ frt S.1.1 y) (fun y hy => ⟨fun z => ⟨z.1, z.2 hy⟩, fun z => ⟨z.1, fun _ => z.2⟩⟩)]
          exact hQ
        )
      have k := loop 0 () (Nat.zero_le _) trivial _ rfl
      rw [mk_congr (P' := rc S.1.1 S.1.2.1) (fun y _ => ⟨fun z => z.1, fun z => ⟨z, fun w => absurd w (Nat.not_lt_zero _)⟩⟩)] at k
      exact k
  have outer := lp_up (X := Nat) (hi := 8) (I := fun n T => T < 2 ^ 14 ∧ T.testBit S.1.2.1 = true ∧ (∀ y, y < 8 → T.testBit y = true → rc S.1.1 S.1.2.1 y) ∧ ((∀ a b, a < 8 → T.testBit a = true → usp S.1.1 16 a b → b < 8 → T.testBit b = true) ∨ n + 1 ≤ cn 8 (fun y => T.testBit y = true)))
      (G := fun n T => (q = 0 ∨ q = 1) → Go E (d + 3) (0, 0) mx_X12_reached go_φ 30 [(0, vv_A 94), (1, vv_I q), (2, vv_I (T : Int)), (3, vv_I (n : Int))] [] δ0 Q) (fun n T hn hI ih hq01 => by
        obtain ⟨i1, i2, i3, i4⟩ := hI
        refine go_iload_n (i := 3) dx_X12_reached_30 rfl rfl ?_
        refine go_bipush dx_X12_reached_31 rfl ?_
        refine go_icmp_ge (tgt := 107) dx_X12_reached_33 rfl (by omega) (by omega) (fun c33 => by exact absurd c33 (by omega)) (fun c33 => ?_)
        refine go_iconst dx_X12_reached_36 ?_
        refine go_istore (lv' := [(0, vv_A 94), (1, vv_I q), (2, vv_I (T : Int)), (3, vv_I (n : Int)), (4, vv_I 0)]) dx_X12_reached_37 (by decide) rfl ?_
        refine pass n T hq01 i1 i3 (fun U g1 g2 g3 g4 => ih U ⟨g1, g2 _ i2, g3, ?_⟩ hq01)
        by_cases z : ∀ a b, a < 8 → T.testBit a = true → usp S.1.1 16 a b → b < 8 → T.testBit b = true
        · refine Or.inl (fun a b ha8 ha hu hb8 => g4 a b ?_ hu)
          exact (g3 a ha8 ha (fun y => y < 8 ∧ T.testBit y = true) ⟨ht8, i2⟩ (fun a b w u v => ⟨v, z a b w.1 w.2 u v⟩)).2
        · refine Or.inr ?_
          have i5 := i4.resolve_left z
          have : ∃ b, b < 8 ∧ U.testBit b = true ∧ ¬ T.testBit b = true := Classical.byContradiction (fun w => z (fun a b _ ha hu hb8 => Classical.byContradiction (fun y => w ⟨b, hb8, g4 a b ha hu, y⟩)))
          obtain ⟨b, b1, b2, b3⟩ := this
          have := cn_lt (n := 8) (P := fun y => T.testBit y = true) (P' := fun y => U.testBit y = true) (fun y _ => g2 y) b1 b2 b3
          omega
      ) (fun T hI hq01 => by
        obtain ⟨i1, i2, i3, i4⟩ := hI
        have i5 := i4.resolve_right (fun z => by have := cn_le 8 (fun y => T.testBit y = true); omega)
        have e : T &&& 255 = mk 8 (rc S.1.1 S.1.2.1) := mk_eq (Nat.lt_of_le_of_lt Nat.and_le_right (by decide)) (fun y hy => by
          rw [bt_andb]
          exact ⟨fun z => i3 y hy z.1, fun z => ⟨(z (fun y => y < 8 ∧ T.testBit y = true) ⟨ht8, i2⟩ (fun a b w u v => ⟨v, i5 a b w.1 w.2 u v⟩)).2, by rw [show (255 : Nat) = 2 ^ 8 - 1 from rfl, Nat.testBit_two_pow_sub_one]; exact decide_eq_true hy⟩⟩)
        refine go_iload_n (i := 3) dx_X12_reached_30 rfl rfl ?_
        refine go_bipush dx_X12_reached_31 rfl ?_
        refine go_icmp_ge (tgt := 107) dx_X12_reached_33 rfl (by omega) (by omega) (fun c33 => ?_) (fun c33 => by exact absurd c33 (by omega))
        refine go_iload_n (i := 2) dx_X12_reached_107 rfl rfl ?_
        refine go_sipush dx_X12_reached_108 rfl ?_
        refine go_iand dx_X12_reached_111 ?_
        refine go_asI (y := (mk 8 (rc S.1.1 S.1.2.1) : Int)) (by rw [← e]; exact bv_andN (n := 255) (bt_m31 i1 (by decide)) (by decide)) ?_
        refine go_istore_n (i := 2) (lv' := [(0, vv_A 94), (1, vv_I q), (2, vv_I (mk 8 (rc S.1.1 S.1.2.1) : Int)), (3, vv_I ((8 : Nat) : Int))]) dx_X12_reached_112 rfl (by decide) rfl ?_
        exact last hq01
      )
  refine go_iload_n (i := 1) dx_X12_reached_5 rfl rfl ?_
  refine go_i2l dx_X12_reached_6 (by omega) ?_
  refine go_lconst (x := 0) dx_X12_reached_7 rfl ?_
  refine go_lconst (x := 1) dx_X12_reached_8 rfl ?_
  refine go_cS3 ss_X12_144 dx_X12_reached_9 (Nat.le_of_ble_eq_true rfl) (Nat.le_of_ble_eq_true rfl) (m_within (by omega) (by omega) (by omega) (fun a1 a2 => ?_) (fun b1 => ?_))
  · refine go_if_ne (tgt := 18) dx_X12_reached_12 rfl (by omega) (fun c12 => ?_) (fun c12 => absurd c12 (by decide))
    refine go_iconst dx_X12_reached_18 ?_
    refine go_aload_n (i := 0) dx_X12_reached_19 rfl rfl ?_
    refine go_getA (b := 95) fs_X12_7 rfl (go_ok rfl rfl) rfl dx_X12_reached_20 ?_
    refine go_bipush dx_X12_reached_23 rfl ?_
    refine go_ialoadV (i := 112) (v := ((S.1.2.1 : Int))) dx_X12_reached_25 (go_ok rfl rfl) (by omega) (show 112 < 384 by omega) (by exact e112) ?_
    refine go_ishl dx_X12_reached_26 ?_
    refine go_asI (y := ((2 ^ S.1.2.1 : Nat) : Int)) (by exact bv_bit (by omega)) ?_
    refine go_istore_n (i := 2) (lv' := [(0, vv_A 94), (1, vv_I q), (2, vv_I ((2 ^ S.1.2.1 : Nat) : Int))]) dx_X12_reached_27 rfl (by decide) rfl ?_
    refine go_iconst dx_X12_reached_28 ?_
    refine go_istore_n (i := 3) (lv' := [(0, vv_A 94), (1, vv_I q), (2, vv_I ((2 ^ S.1.2.1 : Nat) : Int)), (3, vv_I 0)]) dx_X12_reached_29 rfl (by decide) rfl ?_
    refine outer 0 (2 ^ S.1.2.1) (Nat.zero_le _) ⟨Nat.pow_lt_pow_right (by decide) (by omega), (bt_one _ _).mpr rfl, fun y _ hy => by rw [← (bt_one _ _).mp hy]; exact rc_rf, Or.inr ?_⟩ (by omega)
    have := cn_lt (n := 8) (P := fun _ => False) (P' := fun y => (2 ^ S.1.2.1).testBit y = true) (fun _ _ z => z.elim) ht8 ((bt_one _ _).mpr rfl) id
    omega
  · refine go_if_ne (tgt := 18) dx_X12_reached_12 rfl (by omega) (fun c12 => absurd c12 (by decide)) (fun c12 => ?_)
    refine go_bipush dx_X12_reached_15 rfl ?_
    refine go_ireturn dx_X12_reached_17 rfl (Nat.le_refl _) (Nat.le_refl _) ?_
    have hQ := hQ δ0 h fl_rf
    rw [if_neg (by omega), if_neg (by omega)] at hQ
    exact hQ
end GMCB
