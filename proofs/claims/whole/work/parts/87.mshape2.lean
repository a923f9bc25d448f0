/-! the reference's calls: shapes, whole -/
section GSH3
variable {E : go_E} {d : Nat} {δ : Nat → Nat → Int} {Q : List go_V → go_F → (Nat → Nat → Int) → Prop} {K : sK} {S : sS} {R : Nat → List Nat}
theorem m_shapesOf {s : Nat} {x n : Int} (ho : bo_at δ R) (hd : dstn R) (hs : 1 ≤ s) (h14 : s ≤ 14) (hn : (s : Int) ≤ n) (hn14 : n ≤ 14) (ht : tb_at δ R s)
    (hQ : ∀ δ', tb_at δ' R (s + 1) → (∀ c j, ¬ (c = 113 ∨ c = 114 ∨ (131 ≤ c ∧ c ≤ 133)) → δ' c j = δ c j) → Go E (d + 4) (0, 0) mx_X12_shapes go_φ 34 [(0, vv_A 94), (1, vv_I x), (2, vv_I n), (3, vv_I ((s + 1 : Nat) : Int))] [] δ' Q) :
    Go E (d + 4) (0, 0) mx_X12_shapes go_φ 34 [(0, vv_A 94), (1, vv_I x), (2, vv_I n), (3, vv_I (s : Int))] [] δ Q := by
  have hR := ho.1
  have l131 : go_ln 131 = 128 := rfl
  have l132 : go_ln 132 = 128 := rfl
  have trs := lp_up (X := Nat → Nat → Int) (hi := 8) (I := fun y δ1 => (∀ z, z < y → δ1 132 (16 * z + s) = st (tA R z s)) ∧ tb_at δ1 R s ∧ (∀ z, z < 8 → δ1 131 (16 * z + s) = st (gA R z s)) ∧ (∀ c j, ¬ (c = 113 ∨ c = 114 ∨ (131 ≤ c ∧ c ≤ 133)) → δ1 c j = δ c j))
    (G := fun y δ1 => Go E (d + 4) (0, 0) mx_X12_shapes go_φ 159 [(0, vv_A 94), (1, vv_I x), (2, vv_I n), (3, vv_I (s : Int)), (4, vv_I (y : Int))] [] δ1 Q)
    (fun y δ1 hy hI ih => by
      obtain ⟨i1, i2, i3, i4⟩ := hI
      have ho1 : bo_at δ1 R := bo_fr ho (fun j _ => i4 95 j (by omega))
      refine go_iload dx_X12_shapes_159 rfl ?_
      refine go_bipush dx_X12_shapes_161 rfl ?_
      refine go_icmp_ge (tgt := 202) dx_X12_shapes_163 rfl (by omega) (by omega) (fun c163 => by exact absurd c163 (by omega)) (fun c163 => ?_)
      refine go_aload_n (i := 0) dx_X12_shapes_166 rfl rfl ?_
      refine go_iload dx_X12_shapes_167 rfl ?_
      refine go_iconst dx_X12_shapes_169 ?_
      refine go_asI (y := ((0 : Nat) : Int)) (by rfl) ?_
      refine go_cV2 sv_X12_311 (go_ok rfl rfl) dx_X12_shapes_170 (Nat.le_of_ble_eq_true rfl) (Nat.le_of_ble_eq_true rfl) (m_laysPaths ho1 hd hy (by decide) (fun δ2 p1 p2 => ?_))
      refine go_aload_n (i := 0) dx_X12_shapes_173 rfl rfl ?_
      refine go_getA (b := 132) fs_X12_127 rfl (go_ok rfl rfl) rfl dx_X12_shapes_174 ?_
      refine go_bipush dx_X12_shapes_177 rfl ?_
      refine go_iload dx_X12_shapes_179 rfl ?_
      refine go_imul dx_X12_shapes_181 ?_
      refine go_iload_n (i := 3) dx_X12_shapes_182 rfl rfl ?_
      refine go_iadd dx_X12_shapes_183 ?_
      refine go_aload_n (i := 0) dx_X12_shapes_184 rfl rfl ?_
      refine go_aload_n (i := 0) dx_X12_shapes_185 rfl rfl ?_
      refine go_getA (b := 131) fs_X12_124 rfl (go_ok rfl rfl) rfl dx_X12_shapes_186 ?_
      refine go_iload_n (i := 3) dx_X12_shapes_189 rfl rfl ?_
      refine go_bipush dx_X12_shapes_190 rfl ?_
      refine go_asI (y := ((16 : Nat) : Int)) (by rfl) ?_
      refine go_cV3 sv_X12_315 (go_ok rfl rfl) dx_X12_shapes_192 (Nat.le_of_ble_eq_true rfl) (Nat.le_of_ble_eq_true rfl) (m_sumOfPaths (g := fun z => wy (un R) 8 (0 ||| 2 ^ y) y z) (G := fun z => gA R z s) (go_ok rfl rfl) (by omega) (by omega) (by omega) p1 (fun z _ => wy_lt) (fun z hz => by rw [p2 131 _ (by decide) (by decide), Nat.add_comm]; exact i3 z hz) ?_)
      refine go_lastoreV (i := 16 * y + s) dx_X12_shapes_195 (go_ok rfl rfl) (by omega) (show 16 * y + s < 128 by omega) ?_
      refine go_iinc (lv' := [(0, vv_A 94), (1, vv_I x), (2, vv_I n), (3, vv_I (s : Int)), (4, vv_I ((y : Int) + 1))]) dx_X12_shapes_196 rfl (by decide) rfl ?_
      refine go_goto (tgt := 159) dx_X12_shapes_199 rfl ?_
      rw [← tA_su]
      refine ih _ ⟨fun z hz => ?_, fun x' hx' a b c => by rw [wr_n (by omega), p2 132 _ (by decide) (by decide)]; exact i2 x' hx' a b c, fun z hz => by rw [wr_n (by omega), p2 131 _ (by decide) (by decide)]; exact i3 z hz, fun c' j hj => by rw [wr_n (by omega), p2 _ _ (by omega) (by omega)]; exact i4 c' j hj⟩
      by_cases q : z = y
      · subst q; rw [wr_eq]
      · rw [wr_n (by omega), p2 132 _ (by decide) (by decide)]; exact i1 z (by omega)
    ) (fun δ1 hI => by
      obtain ⟨i1, i2, i3, i4⟩ := hI
      refine go_iload dx_X12_shapes_159 rfl ?_
      refine go_bipush dx_X12_shapes_161 rfl ?_
      refine go_icmp_ge (tgt := 202) dx_X12_shapes_163 rfl (by omega) (by omega) (fun c163 => ?_) (fun c163 => by exact absurd c163 (by omega))
      refine go_iinc (lv' := [(0, vv_A 94), (1, vv_I x), (2, vv_I n), (3, vv_I ((s : Int) + 1)), (4, vv_I ((8 : Nat) : Int))]) dx_X12_shapes_202 rfl (by decide) rfl ?_
      refine go_goto (tgt := 34) dx_X12_shapes_205 rfl ?_
      refine go_keep [0, 1, 2, 3] rfl ?_
      refine hQ δ1 (fun z hz a b c => ?_) i4
      by_cases q : a = s
      · rw [q]; exact i1 z hz
      · exact i2 z hz a b (by omega)
    )
  have rules := lp_up (X := Nat → Nat → Int) (hi := 16) (I := fun r δ1 => (∀ z, z < 8 → δ1 131 (16 * z + s) = st (su r (gbA R z s))) ∧ (∀ c j, c ≠ 131 → c ≠ 133 → δ1 c j = δ c j))
    (G := fun r δ1 => Go E (d + 4) (0, 0) mx_X12_shapes go_φ 71 [(0, vv_A 94), (1, vv_I x), (2, vv_I n), (3, vv_I (s : Int)), (4, vv_I (r : Int))] [] δ1 Q)
    (fun r δ1 hr hI ih => by
      obtain ⟨i1, i3⟩ := hI
      have ho1 : bo_at δ1 R := bo_fr ho (fun j _ => i3 95 j (by decide) (by decide))
      have ht1 : tb_at δ1 R s := fun x' hx' a b c => by rw [i3 132 _ (by decide) (by decide)]; exact ht x' hx' a b c
      have hok := hR r
      have hlen := hok.len
      have skip : ¬ (2 ≤ (R r).length ∧ ¬ ((R r).length = 2 ∧ (R r).getD 1 0 < 8)) → Go E (d + 4) (0, 0) mx_X12_shapes go_φ 71 [(0, vv_A 94), (1, vv_I x), (2, vv_I n), (3, vv_I (s : Int)), (4, vv_I ((r + 1 : Nat) : Int))] [] δ1 Q := fun q => ih δ1 ⟨fun z hz => by rw [su_s, gbA_no q, Nat.add_zero]; exact i1 z hz, i3⟩
      have fits : (2 ≤ (R r).length ∧ ¬ ((R r).length = 2 ∧ (R r).getD 1 0 < 8)) → Go E (d + 4) (0, 0) mx_X12_shapes go_φ 113 [(0, vv_A 94), (1, vv_I x), (2, vv_I n), (3, vv_I (s : Int)), (4, vv_I (r : Int))] [] δ1 Q := fun q => by
        have hh8 : (R r).getD 0 0 < 8 := by
          rcases hok with w | ⟨_, _, w, _⟩
          · rw [w] at q; simp at q
          · exact w
        refine go_bipush dx_X12_shapes_113 rfl ?_
        refine go_aload_n (i := 0) dx_X12_shapes_115 rfl rfl ?_
        refine go_iload dx_X12_shapes_116 rfl ?_
        refine go_cV1 sv_X12_184 (go_ok rfl rfl) dx_X12_shapes_118 (Nat.le_of_ble_eq_true rfl) (Nat.le_of_ble_eq_true rfl) (o_symbolOf ho1 hr (by omega) ?_)
        refine go_imul dx_X12_shapes_121 ?_
        refine go_iload_n (i := 3) dx_X12_shapes_122 rfl rfl ?_
        refine go_iadd dx_X12_shapes_123 ?_
        refine go_asI (y := ((16 * (R r).getD 0 0 + s : Nat) : Int)) (by omega) ?_
        refine go_istore (lv' := [(0, vv_A 94), (1, vv_I x), (2, vv_I n), (3, vv_I (s : Int)), (4, vv_I (r : Int)), (5, vv_I ((16 * (R r).getD 0 0 + s : Nat) : Int))]) dx_X12_shapes_124 (by decide) rfl ?_
        refine go_aload_n (i := 0) dx_X12_shapes_126 rfl rfl ?_
        refine go_getA (b := 131) fs_X12_124 rfl (go_ok rfl rfl) rfl dx_X12_shapes_127 ?_
        refine go_iload dx_X12_shapes_130 rfl ?_
        refine go_aload_n (i := 0) dx_X12_shapes_132 rfl rfl ?_
        refine go_getA (b := 131) fs_X12_124 rfl (go_ok rfl rfl) rfl dx_X12_shapes_133 ?_
        refine go_iload dx_X12_shapes_136 rfl ?_
        refine go_laloadV (i := (16 * (R r).getD 0 0 + s)) (v := ((st (su r (gbA R ((R r).getD 0 0) s))))) dx_X12_shapes_138 (go_ok rfl rfl) (by omega) (show (16 * (R r).getD 0 0 + s) < 128 by omega) (by exact i1 _ hh8) ?_
        refine go_aload_n (i := 0) dx_X12_shapes_139 rfl rfl ?_
        refine go_iload dx_X12_shapes_140 rfl ?_
        refine go_iload_n (i := 3) dx_X12_shapes_142 rfl rfl ?_
        refine go_cV2 sv_X12_420 (go_ok rfl rfl) dx_X12_shapes_143 (Nat.le_of_ble_eq_true rfl) (Nat.le_of_ble_eq_true rfl) (m_ruleBy ho1 ht1 hr q.1 (fun w => Nat.le_of_not_lt (fun y => q.2 ⟨w, y⟩)) hs h14 (fun δ2 p2 => ?_))
        refine go_cS2 ss_X12_300 dx_X12_shapes_146 (Nat.le_of_ble_eq_true rfl) (Nat.le_of_ble_eq_true rfl) (m_plus ?_)
        refine go_lastoreV (i := 16 * (R r).getD 0 0 + s) dx_X12_shapes_149 (go_ok rfl rfl) (by omega) (show 16 * (R r).getD 0 0 + s < 128 by omega) ?_
        refine go_iinc (lv' := [(0, vv_A 94), (1, vv_I x), (2, vv_I n), (3, vv_I (s : Int)), (4, vv_I ((r : Int) + 1)), (5, vv_I ((16 * (R r).getD 0 0 + s : Nat) : Int))]) dx_X12_shapes_150 rfl (by decide) rfl ?_
        refine go_goto (tgt := 71) dx_X12_shapes_153 rfl ?_
        refine go_keep [0, 1, 2, 3, 4] rfl ?_
        refine ih _ ⟨fun z hz => ?_, fun c' j h1 h2 => by rw [wr_n (by omega), p2 _ _ h2]; exact i3 c' j h1 h2⟩
        by_cases e : z = (R r).getD 0 0
        · rw [e, wr_eq, su_s, gbA_yes q]
        · rw [wr_n (by omega), p2 131 _ (by decide), su_s, gbA_ne (fun w => e w.symm), Nat.add_zero]
          exact i1 z hz
      refine go_iload dx_X12_shapes_71 rfl ?_
      refine go_bipush dx_X12_shapes_73 rfl ?_
      refine go_icmp_ge (tgt := 156) dx_X12_shapes_75 rfl (by omega) (by omega) (fun c75 => by exact absurd c75 (by omega)) (fun c75 => ?_)
      refine go_aload_n (i := 0) dx_X12_shapes_78 rfl rfl ?_
      refine go_iload dx_X12_shapes_79 rfl ?_
      refine go_cV1 sv_X12_148 (go_ok rfl rfl) dx_X12_shapes_81 (Nat.le_of_ble_eq_true rfl) (Nat.le_of_ble_eq_true rfl) (o_longOf ho1 hr ?_)
      refine go_if_eq (tgt := 150) dx_X12_shapes_84 rfl (by omega) (fun c84 => ?_) (fun c84 => ?_)
      · refine go_iinc (lv' := [(0, vv_A 94), (1, vv_I x), (2, vv_I n), (3, vv_I (s : Int)), (4, vv_I ((r : Int) + 1))]) dx_X12_shapes_150 rfl (by decide) rfl ?_
        refine go_goto (tgt := 71) dx_X12_shapes_153 rfl ?_
        exact skip (fun q => by omega)
      · refine go_aload_n (i := 0) dx_X12_shapes_87 rfl rfl ?_
        refine go_iload dx_X12_shapes_88 rfl ?_
        refine go_cV1 sv_X12_148 (go_ok rfl rfl) dx_X12_shapes_90 (Nat.le_of_ble_eq_true rfl) (Nat.le_of_ble_eq_true rfl) (o_longOf ho1 hr ?_)
        refine go_iconst dx_X12_shapes_93 ?_
        refine go_icmp_ne (tgt := 113) dx_X12_shapes_94 rfl (by omega) (by omega) (fun c94 => ?_) (fun c94 => ?_)
        · exact fits ⟨by omega, fun q => by omega⟩
        · refine go_aload_n (i := 0) dx_X12_shapes_97 rfl rfl ?_
          refine go_iload dx_X12_shapes_98 rfl ?_
          refine go_iconst dx_X12_shapes_100 ?_
          refine go_asI (y := ((0 : Nat) : Int)) (by rfl) ?_
          refine go_cV2 sv_X12_190 (go_ok rfl rfl) dx_X12_shapes_101 (Nat.le_of_ble_eq_true rfl) (Nat.le_of_ble_eq_true rfl) (o_partOf ho1 hr (by omega) ?_)
          refine go_cS1 ss_X12_212 dx_X12_shapes_104 (Nat.le_of_ble_eq_true rfl) (Nat.le_of_ble_eq_true rfl) (m_isSymbol (by have := rl_getD_lt hok (k := 0 + 1) (by omega); omega) (fun a1 a2 => ?_) (fun b1 => ?_))
          · refine go_if_eq (tgt := 113) dx_X12_shapes_107 rfl (by omega) (fun c107 => absurd c107 (by decide)) (fun c107 => ?_)
            refine go_goto (tgt := 150) dx_X12_shapes_110 rfl ?_
            refine go_iinc (lv' := [(0, vv_A 94), (1, vv_I x), (2, vv_I n), (3, vv_I (s : Int)), (4, vv_I ((r : Int) + 1))]) dx_X12_shapes_150 rfl (by decide) rfl ?_
            refine go_goto (tgt := 71) dx_X12_shapes_153 rfl ?_
            exact skip (fun q => q.2 ⟨by omega, by rw [Nat.zero_add] at a2; omega⟩)
          · refine go_if_eq (tgt := 113) dx_X12_shapes_107 rfl (by omega) (fun c107 => ?_) (fun c107 => absurd c107 (by decide))
            exact fits ⟨by omega, fun q => by rw [Nat.zero_add] at b1; omega⟩
    ) (fun δ1 hI => by
      obtain ⟨i1, i3⟩ := hI
      refine go_iload dx_X12_shapes_71 rfl ?_
      refine go_bipush dx_X12_shapes_73 rfl ?_
      refine go_icmp_ge (tgt := 156) dx_X12_shapes_75 rfl (by omega) (by omega) (fun c75 => ?_) (fun c75 => by exact absurd c75 (by omega))
      refine go_iconst dx_X12_shapes_156 ?_
      refine go_istore (lv' := [(0, vv_A 94), (1, vv_I x), (2, vv_I n), (3, vv_I (s : Int)), (4, vv_I 0)]) dx_X12_shapes_157 (by decide) rfl ?_
      exact trs 0 δ1 (Nat.zero_le _) ⟨fun z hz => absurd hz (Nat.not_lt_zero _), fun x' hx' a b c => by rw [i3 132 _ (by decide) (by decide)]; exact ht x' hx' a b c, fun z hz => by rw [gA_su]; exact i1 z hz, fun c' j hj => i3 c' j (by omega) (by omega)⟩
    )
  have clr := lp_up (X := Nat → Nat → Int) (hi := 8) (I := fun y δ1 => (∀ z, z < y → δ1 131 (16 * z + s) = 0) ∧ (∀ c j, c ≠ 131 → δ1 c j = δ c j))
    (G := fun y δ1 => Go E (d + 4) (0, 0) mx_X12_shapes go_φ 42 [(0, vv_A 94), (1, vv_I x), (2, vv_I n), (3, vv_I (s : Int)), (4, vv_I (y : Int))] [] δ1 Q)
    (fun y δ1 hy hI ih => by
      obtain ⟨i1, i3⟩ := hI
      refine go_iload dx_X12_shapes_42 rfl ?_
      refine go_bipush dx_X12_shapes_44 rfl ?_
      refine go_icmp_ge (tgt := 68) dx_X12_shapes_46 rfl (by omega) (by omega) (fun c46 => by exact absurd c46 (by omega)) (fun c46 => ?_)
      refine go_aload_n (i := 0) dx_X12_shapes_49 rfl rfl ?_
      refine go_getA (b := 131) fs_X12_124 rfl (go_ok rfl rfl) rfl dx_X12_shapes_50 ?_
      refine go_bipush dx_X12_shapes_53 rfl ?_
      refine go_iload dx_X12_shapes_55 rfl ?_
      refine go_imul dx_X12_shapes_57 ?_
      refine go_iload_n (i := 3) dx_X12_shapes_58 rfl rfl ?_
      refine go_iadd dx_X12_shapes_59 ?_
      refine go_lconst (x := 0) dx_X12_shapes_60 rfl ?_
      refine go_lastoreV (i := 16 * y + s) dx_X12_shapes_61 (go_ok rfl rfl) (by omega) (show 16 * y + s < 128 by omega) ?_
      refine go_iinc (lv' := [(0, vv_A 94), (1, vv_I x), (2, vv_I n), (3, vv_I (s : Int)), (4, vv_I ((y : Int) + 1))]) dx_X12_shapes_62 rfl (by decide) rfl ?_
      refine go_goto (tgt := 42) dx_X12_shapes_65 rfl ?_
      refine ih _ ⟨fun z hz => ?_, fun c' j hj => by rw [wr_n (by omega)]; exact i3 c' j hj⟩
      by_cases q : z = y
      · subst q; rw [wr_eq]
      · rw [wr_n (by omega)]; exact i1 z (by omega)
    ) (fun δ1 hI => by
      obtain ⟨i1, i3⟩ := hI
      refine go_iload dx_X12_shapes_42 rfl ?_
      refine go_bipush dx_X12_shapes_44 rfl ?_
      refine go_icmp_ge (tgt := 68) dx_X12_shapes_46 rfl (by omega) (by omega) (fun c46 => ?_) (fun c46 => by exact absurd c46 (by omega))
      refine go_iconst dx_X12_shapes_68 ?_
      refine go_istore (lv' := [(0, vv_A 94), (1, vv_I x), (2, vv_I n), (3, vv_I (s : Int)), (4, vv_I 0)]) dx_X12_shapes_69 (by decide) rfl ?_
      exact rules 0 δ1 (Nat.zero_le _) ⟨fun z hz => by rw [i1 z hz, su_0, st_0], fun c j h1 _ => i3 c j h1⟩
    )
  refine go_iload_n (i := 3) dx_X12_shapes_34 rfl rfl ?_
  refine go_iload_n (i := 2) dx_X12_shapes_35 rfl rfl ?_
  refine go_icmp_gt (tgt := 208) dx_X12_shapes_36 rfl (by omega) (by omega) (fun c36 => by exact absurd c36 (by omega)) (fun c36 => ?_)
  refine go_iconst dx_X12_shapes_39 ?_
  refine go_istore (lv' := [(0, vv_A 94), (1, vv_I x), (2, vv_I n), (3, vv_I (s : Int)), (4, vv_I 0)]) dx_X12_shapes_40 (by decide) rfl ?_
  exact clr 0 δ (Nat.zero_le _) ⟨fun z hz => absurd hz (Nat.not_lt_zero _), fun _ _ _ => rfl⟩
theorem m_shapes {x n : Int} (hx : go_iI x) (hn : go_iI n) (h : mx_at δ S) (hQ : ∀ δ', mx_at δ' S → fl δ δ' → Q [vv_L (oq_shapes S.1 x n)] go_φ δ') : Go E (d + 4) (0, 0) mx_X12_shapes go_φ 0 [(0, vv_A 94), (1, vv_I x), (2, vv_I n)] [] δ Q := by
  refine go_aload_n (i := 0) dx_X12_shapes_0 rfl rfl ?_
  refine go_iconst dx_X12_shapes_1 ?_
  refine go_putI fp_X12_139 rfl rfl (go_ok rfl rfl) dx_X12_shapes_2 ?_
  have h := mx_thr (v := 0) h
  have f0 : fl δ (wr δ 94 0 0) := fl_thr
  generalize wr δ 94 0 0 = δ0 at h f0 ⊢
  have hQ := fun δ' a (b : fl δ0 δ') => hQ δ' a (fl_tr f0 b)
  have hsc := @mx_of δ0 S h
  have hb := h.1.1
  have hlaid := h.2
  have ho := bo_of hb
  have hR := ho.1
  have hd : dstn S.1.1 := hb.2.2.2.2.2.2.1
  have l132 : go_ln 132 = 128 := rfl
  unfold oq_shapes at hQ
  refine go_iload_n (i := 1) dx_X12_shapes_5 rfl rfl ?_
  refine go_cS1 ss_X12_212 dx_X12_shapes_6 (Nat.le_of_ble_eq_true rfl) (Nat.le_of_ble_eq_true rfl) (m_isSymbol hx (fun a1 a2 => ?_) (fun b1 => ?_))
  · refine go_if_ne (tgt := 16) dx_X12_shapes_9 rfl (by omega) (fun c9 => ?_) (fun c9 => absurd c9 (by decide))
    refine go_iload_n (i := 2) dx_X12_shapes_16 rfl rfl ?_
    refine go_i2l dx_X12_shapes_17 (by omega) ?_
    refine go_lconst (x := 1) dx_X12_shapes_18 rfl ?_
    refine go_ldc2 (x := 14) kx_X12_226 dx_X12_shapes_19 ?_
    refine go_cS3 ss_X12_144 dx_X12_shapes_22 (Nat.le_of_ble_eq_true rfl) (Nat.le_of_ble_eq_true rfl) (m_within (by omega) (by omega) (by omega) (fun p1 p2 => ?_) (fun p1 => ?_))
    · refine go_if_ne (tgt := 32) dx_X12_shapes_25 rfl (by omega) (fun c25 => ?_) (fun c25 => absurd c25 (by decide))
      obtain ⟨p, rfl⟩ : ∃ p : Nat, x = (p : Int) := ⟨x.toNat, by omega⟩
      obtain ⟨u, rfl⟩ : ∃ u : Nat, n = (u : Int) := ⟨n.toNat, by omega⟩
      rw [if_neg (by omega), if_neg (by omega), Int.toNat_natCast, Int.toNat_natCast] at hQ
      have loop := lp_up (X := Nat → Nat → Int) (hi := u + 1) (I := fun s δ1 => 1 ≤ s ∧ tb_at δ1 S.1.1 s ∧ (∀ c j, ¬ (c = 113 ∨ c = 114 ∨ (131 ≤ c ∧ c ≤ 133)) → δ1 c j = δ0 c j))
        (G := fun s δ1 => Go E (d + 4) (0, 0) mx_X12_shapes go_φ 34 [(0, vv_A 94), (1, vv_I (p : Int)), (2, vv_I (u : Int)), (3, vv_I (s : Int))] [] δ1 Q)
        (fun s δ1 hs hI ih => m_shapesOf (bo_fr ho (fun j _ => hI.2.2 95 j (by omega))) hd hI.1 (by omega) (by omega) (by omega) hI.2.1 (fun δ2 t2 f2 => ih δ2 ⟨by omega, t2, fun c j hc => by rw [f2 c j hc]; exact hI.2.2 c j hc⟩))
        (fun δ1 hI => by
          obtain ⟨i1, i2, i3⟩ := hI
          obtain ⟨a, b⟩ := hsc (δ' := δ1) (fun c j hc => i3 c j (by unfold sc at hc; omega)) (ml_fr hlaid (fun c j hc => i3 c j (by omega)))
          have hQ := hQ δ1 a b
          refine go_iload_n (i := 3) dx_X12_shapes_34 rfl rfl ?_
          refine go_iload_n (i := 2) dx_X12_shapes_35 rfl rfl ?_
          refine go_icmp_gt (tgt := 208) dx_X12_shapes_36 rfl (by omega) (by omega) (fun c36 => ?_) (fun c36 => by exact absurd c36 (by omega))
          refine go_aload_n (i := 0) dx_X12_shapes_208 rfl rfl ?_
          refine go_getA (b := 132) fs_X12_127 rfl (go_ok rfl rfl) rfl dx_X12_shapes_209 ?_
          refine go_bipush dx_X12_shapes_212 rfl ?_
          refine go_iload_n (i := 1) dx_X12_shapes_214 rfl rfl ?_
          refine go_imul dx_X12_shapes_215 ?_
          refine go_iload_n (i := 2) dx_X12_shapes_216 rfl rfl ?_
          refine go_iadd dx_X12_shapes_217 ?_
          refine go_laloadV (i := (16 * p + u)) (v := ((st (tA S.1.1 p u)))) dx_X12_shapes_218 (go_ok rfl rfl) (by omega) (show (16 * p + u) < 128 by omega) (by exact i2 p (by omega) u (by omega) (Nat.lt_succ_self _)) ?_
          refine go_lreturn dx_X12_shapes_219 rfl (Nat.le_refl _) (Nat.le_refl _) ?_
          exact hQ
        )
      refine go_iconst dx_X12_shapes_32 ?_
      refine go_istore_n (i := 3) (lv' := [(0, vv_A 94), (1, vv_I (p : Int)), (2, vv_I (u : Int)), (3, vv_I 1)]) dx_X12_shapes_33 rfl (by decide) rfl ?_
      exact loop 1 δ0 (by omega) ⟨Nat.le_refl _, fun x' hx' a b c => by omega, fun _ _ _ => rfl⟩
    · refine go_if_ne (tgt := 32) dx_X12_shapes_25 rfl (by omega) (fun c25 => absurd c25 (by decide)) (fun c25 => ?_)
      refine go_ldc2 (x := (-3)) kx_X12_418 dx_X12_shapes_28 ?_
      refine go_lreturn dx_X12_shapes_31 rfl (Nat.le_refl _) (Nat.le_refl _) ?_
      have hQ := hQ δ0 h fl_rf
      rw [if_neg (by omega), if_pos (by omega)] at hQ
      exact hQ
  · refine go_if_ne (tgt := 16) dx_X12_shapes_9 rfl (by omega) (fun c9 => absurd c9 (by decide)) (fun c9 => ?_)
    refine go_ldc2 (x := (-2)) kx_X12_263 dx_X12_shapes_12 ?_
    refine go_lreturn dx_X12_shapes_15 rfl (Nat.le_refl _) (Nat.le_refl _) ?_
    have hQ := hQ δ0 h fl_rf
    rw [if_pos (by omega)] at hQ
    exact hQ
end GSH3
