/-! the reference: tables of trees -/
def ltc (c j : Nat) : Prop := (99 ≤ c ∧ c ≤ 104) ∨ c = 106 ∨ c = 107 ∨ (110 ≤ c ∧ c ≤ 114) ∨ (c = 94 ∧ (j = 15 ∨ j = 16 ∨ j = 20))
noncomputable def gbK (K : sK) (z i j r : Nat) : Nat := gb (Tn K.1 (plw K.2.2)) (plw K.2.2) (K.1 r) z i j
section GMTS
variable {E : go_E} {d : Nat} {δ : Nat → Nat → Int} {Q : List go_V → go_F → (Nat → Nat → Int) → Prop} {K : sK} {S : sS}
theorem gbK_no {z i j r : Nat} (h : ¬ (2 ≤ (K.1 r).length ∧ ¬ ((K.1 r).length = 2 ∧ (K.1 r).getD 1 0 < 8))) : gbK K z i j r = 0 := nif_f (fun q => h q.2)
theorem gbK_yes {i j r : Nat} (h : 2 ≤ (K.1 r).length ∧ ¬ ((K.1 r).length = 2 ∧ (K.1 r).getD 1 0 < 8)) : gbK K ((K.1 r).getD 0 0) i j r = fK K ((K.1 r).drop 1) i j := nif_t ⟨rfl, h⟩
theorem gbK_ne {z i j r : Nat} (h : (K.1 r).getD 0 0 ≠ z) : gbK K z i j r = 0 := nif_f (fun q => h q.1)
theorem gK_su {z i j : Nat} : gK K z i j = su 16 (gbK K z i j) := rfl
theorem tK_su {x i j : Nat} : tK K x i j = su 8 (fun y => wy (un K.1) 8 (0 ||| 2 ^ x) x y * gK K y i j) := by rw [Nat.zero_or]; exact Tn_eq x i j
theorem m_laysSpan {i s : Nat} (hb : bk_at δ 95 0 K) (hw : mw_at δ K.2.2) (hs : 1 ≤ s) (hi : i + s ≤ K.2.2.length) (ht : tr_at δ K s i) (hg : gr_at δ K s i)
    (hQ : ∀ δ', tr_at δ' K s (i + 1) → gr_at δ' K s (i + 1) → (∀ c j, ¬ (110 ≤ c ∧ c ≤ 114) → δ' c j = δ c j) → Go E (d + 4) (0, 0) mx_X12_laysTrees go_φ 16 [(0, vv_A 94), (1, vv_I (s : Int)), (2, vv_I ((i + 1 : Nat) : Int))] [] δ' Q) :
    Go E (d + 4) (0, 0) mx_X12_laysTrees go_φ 26 [(0, vv_A 94), (1, vv_I (s : Int)), (2, vv_I (i : Int))] [] δ Q := by
  have ho := bo_of hb
  have hR := ho.1
  have hd : dstn K.1 := hb.2.2.2.2.2.2.1
  have h14 := hb.2.2.2.2.2.2.2.2.1
  have hlet := hb.2.2.2.2.2.2.2.2.2
  have l110 : go_ln 110 = 2048 := rfl
  have l111 : go_ln 111 = 2048 := rfl
  have l112 : go_ln 112 = 96 := rfl
  obtain ⟨c, hc⟩ : ∃ c, c = 16 * i + (i + s) := ⟨_, rfl⟩
  -- the last loop
  have trs := lp_up (X := Nat → Nat → Int) (hi := 8) (I := fun x δ1 => (∀ z, z < x → δ1 111 (256 * z + c) = st (tK K z i (i + s))) ∧ tr_at δ1 K s i ∧ gr_at δ1 K s (i + 1) ∧ (∀ c j, ¬ (110 ≤ c ∧ c ≤ 114) → δ1 c j = δ c j))
    (G := fun x δ1 => Go E (d + 4) (0, 0) mx_X12_laysTrees go_φ 166 [(0, vv_A 94), (1, vv_I (s : Int)), (2, vv_I (i : Int)), (3, vv_I (c : Int)), (4, vv_I (x : Int))] [] δ1 Q)
    (fun x δ1 hx hI ih => by
      obtain ⟨i1, i2, i3, i4⟩ := hI
      have ho1 : bo_at δ1 K.1 := bo_fr ho (fun j _ => i4 95 j (by omega))
      refine go_iload dx_X12_laysTrees_166 rfl ?_
      refine go_bipush dx_X12_laysTrees_168 rfl ?_
      refine go_icmp_ge (tgt := 211) dx_X12_laysTrees_170 rfl (by omega) (by omega) (fun c170 => by exact absurd c170 (by omega)) (fun c170 => ?_)
      refine go_aload_n (i := 0) dx_X12_laysTrees_173 rfl rfl ?_
      refine go_iload dx_X12_laysTrees_174 rfl ?_
      refine go_iconst dx_X12_laysTrees_176 ?_
      refine go_asI (y := ((0 : Nat) : Int)) (by rfl) ?_
      refine go_cV2 sv_X12_311 (go_ok rfl rfl) dx_X12_laysTrees_177 (Nat.le_of_ble_eq_true rfl) (Nat.le_of_ble_eq_true rfl) (m_laysPaths ho1 hd hx (by decide) (fun δ2 p1 p2 => ?_))
      refine go_aload_n (i := 0) dx_X12_laysTrees_180 rfl rfl ?_
      refine go_getA (b := 111) fs_X12_64 rfl (go_ok rfl rfl) rfl dx_X12_laysTrees_181 ?_
      refine go_sipush dx_X12_laysTrees_184 rfl ?_
      refine go_iload dx_X12_laysTrees_187 rfl ?_
      refine go_imul dx_X12_laysTrees_189 ?_
      refine go_iload_n (i := 3) dx_X12_laysTrees_190 rfl rfl ?_
      refine go_iadd dx_X12_laysTrees_191 ?_
      refine go_aload_n (i := 0) dx_X12_laysTrees_192 rfl rfl ?_
      refine go_aload_n (i := 0) dx_X12_laysTrees_193 rfl rfl ?_
      refine go_getA (b := 110) fs_X12_61 rfl (go_ok rfl rfl) rfl dx_X12_laysTrees_194 ?_
      refine go_iload_n (i := 3) dx_X12_laysTrees_197 rfl rfl ?_
      refine go_sipush dx_X12_laysTrees_198 rfl ?_
      refine go_asI (y := ((256 : Nat) : Int)) (by rfl) ?_
      refine go_cV3 sv_X12_315 (go_ok rfl rfl) dx_X12_laysTrees_201 (Nat.le_of_ble_eq_true rfl) (Nat.le_of_ble_eq_true rfl) (m_sumOfPaths (g := fun y => wy (un K.1) 8 (0 ||| 2 ^ x) x y) (G := fun y => gK K y i (i + s)) (go_ok rfl rfl) (by omega) (by omega) (by omega) p1 (fun y _ => wy_lt) (fun y hy => by rw [p2 110 _ (by decide) (by decide), show c + 256 * y = 256 * y + 16 * i + (i + s) by omega]; exact i3 y i (i + s) hy (by omega) hi (by omega)) ?_)
      refine go_lastoreV (i := 256 * x + c) dx_X12_laysTrees_204 (go_ok rfl rfl) (by omega) (show 256 * x + c < 2048 by omega) ?_
      refine go_iinc (lv' := [(0, vv_A 94), (1, vv_I (s : Int)), (2, vv_I (i : Int)), (3, vv_I (c : Int)), (4, vv_I ((x : Int) + 1))]) dx_X12_laysTrees_205 rfl (by decide) rfl ?_
      refine go_goto (tgt := 166) dx_X12_laysTrees_208 rfl ?_
      rw [← tK_su]
      refine ih _ ⟨fun z hz => ?_, fun x' a b e f g h => ?_, fun x' a b e f g h => by rw [wr_n (by omega), p2 110 _ (by decide) (by decide)]; exact i3 x' a b e f g h, fun c' j hj => by rw [wr_n (by omega), p2 _ _ (by omega) (by omega)]; exact i4 c' j hj⟩
      · by_cases q : z = x
        · subst q; rw [wr_eq]
        · rw [wr_n (by omega), p2 111 _ (by decide) (by decide)]; exact i1 z (by omega)
      · rw [wr_n (by omega), p2 111 _ (by decide) (by decide)]; exact i2 x' a b e f g h
    ) (fun δ1 hI => by
      obtain ⟨i1, i2, i3, i4⟩ := hI
      refine go_iload dx_X12_laysTrees_166 rfl ?_
      refine go_bipush dx_X12_laysTrees_168 rfl ?_
      refine go_icmp_ge (tgt := 211) dx_X12_laysTrees_170 rfl (by omega) (by omega) (fun c170 => ?_) (fun c170 => by exact absurd c170 (by omega))
      refine go_iinc (lv' := [(0, vv_A 94), (1, vv_I (s : Int)), (2, vv_I ((i : Int) + 1)), (3, vv_I (c : Int)), (4, vv_I ((8 : Nat) : Int))]) dx_X12_laysTrees_211 rfl (by decide) rfl ?_
      refine go_goto (tgt := 16) dx_X12_laysTrees_214 rfl ?_
      refine go_keep [0, 1, 2] rfl ?_
      refine hQ δ1 (fun x a b e f g h => ?_) i3 i4
      by_cases q : a = i ∧ b = i + s
      · obtain ⟨q1, q2⟩ := q
        rw [q1, q2, show 256 * x + 16 * i + (i + s) = 256 * x + c by omega]
        exact i1 x e
      · exact i2 x a b e f g (by omega)
    )
  have rules := lp_up (X := Nat → Nat → Int) (hi := 16) (I := fun r δ1 => (∀ z, z < 8 → δ1 110 (256 * z + c) = st (su r (gbK K z i (i + s)))) ∧ (∀ q, (∀ z, z < 8 → q ≠ 256 * z + c) → δ1 110 q = δ 110 q) ∧ (∀ c j, c ≠ 110 → c ≠ 112 → δ1 c j = δ c j))
    (G := fun r δ1 => Go E (d + 4) (0, 0) mx_X12_laysTrees go_φ 68 [(0, vv_A 94), (1, vv_I (s : Int)), (2, vv_I (i : Int)), (3, vv_I (c : Int)), (4, vv_I (r : Int))] [] δ1 Q)
    (fun r δ1 hr hI ih => by
      obtain ⟨i1, i2, i3⟩ := hI
      have ho1 : bo_at δ1 K.1 := bo_fr ho (fun j _ => i3 95 j (by decide) (by decide))
      have hw1 : mw_at δ1 K.2.2 := mw_fr hw (fun q => i3 106 q (by decide) (by decide))
      have ht1 : tr_at δ1 K (i + s - i) i := fun x a b e f g h => by rw [i3 111 _ (by decide) (by decide)]; exact ht x a b e f g (by omega)
      have hok := hR r
      have hlen := hok.len
      have skip : ¬ (2 ≤ (K.1 r).length ∧ ¬ ((K.1 r).length = 2 ∧ (K.1 r).getD 1 0 < 8)) → Go E (d + 4) (0, 0) mx_X12_laysTrees go_φ 68 [(0, vv_A 94), (1, vv_I (s : Int)), (2, vv_I (i : Int)), (3, vv_I (c : Int)), (4, vv_I ((r + 1 : Nat) : Int))] [] δ1 Q := fun q => ih δ1 ⟨fun z hz => by rw [su_s, gbK_no q, Nat.add_zero]; exact i1 z hz, i2, i3⟩
      have fits : (2 ≤ (K.1 r).length ∧ ¬ ((K.1 r).length = 2 ∧ (K.1 r).getD 1 0 < 8)) → Go E (d + 4) (0, 0) mx_X12_laysTrees go_φ 110 [(0, vv_A 94), (1, vv_I (s : Int)), (2, vv_I (i : Int)), (3, vv_I (c : Int)), (4, vv_I (r : Int))] [] δ1 Q := fun q => by
        have hh8 : (K.1 r).getD 0 0 < 8 := by
          rcases hok with w | ⟨_, _, w, _⟩
          · rw [w] at q; simp at q
          · exact w
        refine go_aload_n (i := 0) dx_X12_laysTrees_110 rfl rfl ?_
        refine go_iload dx_X12_laysTrees_111 rfl ?_
        refine go_iload_n (i := 2) dx_X12_laysTrees_113 rfl rfl ?_
        refine go_iload_n (i := 2) dx_X12_laysTrees_114 rfl rfl ?_
        refine go_iload_n (i := 1) dx_X12_laysTrees_115 rfl rfl ?_
        refine go_iadd dx_X12_laysTrees_116 ?_
        refine go_asI (y := ((i + s : Nat) : Int)) (by omega) ?_
        refine go_cV3 sv_X12_307 (go_ok rfl rfl) dx_X12_laysTrees_117 (Nat.le_of_ble_eq_true rfl) (Nat.le_of_ble_eq_true rfl) (m_laysFit hlet ho1 hw1 ht1 h14 hr q.1 (fun w => Nat.le_of_not_lt (fun y => q.2 ⟨w, y⟩)) (by omega) hi (fun δ2 p1 p2 => ?_))
        refine go_sipush dx_X12_laysTrees_120 rfl ?_
        refine go_aload_n (i := 0) dx_X12_laysTrees_123 rfl rfl ?_
        refine go_iload dx_X12_laysTrees_124 rfl ?_
        refine go_cV1 sv_X12_184 (go_ok rfl rfl) dx_X12_laysTrees_126 (Nat.le_of_ble_eq_true rfl) (Nat.le_of_ble_eq_true rfl) (o_symbolOf (bo_fr ho1 (fun j _ => p2 95 j (by decide))) hr (by omega) ?_)
        refine go_imul dx_X12_laysTrees_129 ?_
        refine go_iload_n (i := 3) dx_X12_laysTrees_130 rfl rfl ?_
        refine go_iadd dx_X12_laysTrees_131 ?_
        refine go_asI (y := ((256 * (K.1 r).getD 0 0 + c : Nat) : Int)) (by omega) ?_
        refine go_istore (lv' := [(0, vv_A 94), (1, vv_I (s : Int)), (2, vv_I (i : Int)), (3, vv_I (c : Int)), (4, vv_I (r : Int)), (5, vv_I ((256 * (K.1 r).getD 0 0 + c : Nat) : Int))]) dx_X12_laysTrees_132 (by decide) rfl ?_
        refine go_aload_n (i := 0) dx_X12_laysTrees_134 rfl rfl ?_
        refine go_getA (b := 110) fs_X12_61 rfl (go_ok rfl rfl) rfl dx_X12_laysTrees_135 ?_
        refine go_iload dx_X12_laysTrees_138 rfl ?_
        refine go_aload_n (i := 0) dx_X12_laysTrees_140 rfl rfl ?_
        refine go_getA (b := 110) fs_X12_61 rfl (go_ok rfl rfl) rfl dx_X12_laysTrees_141 ?_
        refine go_iload dx_X12_laysTrees_144 rfl ?_
        refine go_laloadV (i := (256 * (K.1 r).getD 0 0 + c)) (v := ((st (su r (gbK K ((K.1 r).getD 0 0) i (i + s)))))) dx_X12_laysTrees_146 (go_ok rfl rfl) (by omega) (show (256 * (K.1 r).getD 0 0 + c) < 2048 by omega) (by rw [p2 110 _ (by decide)]; exact i1 _ hh8) ?_
        refine go_aload_n (i := 0) dx_X12_laysTrees_147 rfl rfl ?_
        refine go_getA (b := 112) fs_X12_67 rfl (go_ok rfl rfl) rfl dx_X12_laysTrees_148 ?_
        refine go_iload_n (i := 2) dx_X12_laysTrees_151 rfl rfl ?_
        refine go_laloadV (i := i) (v := ((st (fK K ((K.1 r).drop 1) i (i + s))))) dx_X12_laysTrees_152 (go_ok rfl rfl) (by omega) (show i < 96 by omega) (by have := p1 0 i (Nat.zero_le _) (Nat.le_refl _) (by omega) (Or.inr rfl) (Or.inr ⟨rfl, by omega⟩); rw [List.drop_zero, Nat.mul_zero, Nat.zero_add] at this; exact this) ?_
        refine go_cS2 ss_X12_300 dx_X12_laysTrees_153 (Nat.le_of_ble_eq_true rfl) (Nat.le_of_ble_eq_true rfl) (m_plus ?_)
        refine go_lastoreV (i := 256 * (K.1 r).getD 0 0 + c) dx_X12_laysTrees_156 (go_ok rfl rfl) (by omega) (show 256 * (K.1 r).getD 0 0 + c < 2048 by omega) ?_
        refine go_iinc (lv' := [(0, vv_A 94), (1, vv_I (s : Int)), (2, vv_I (i : Int)), (3, vv_I (c : Int)), (4, vv_I ((r : Int) + 1)), (5, vv_I ((256 * (K.1 r).getD 0 0 + c : Nat) : Int))]) dx_X12_laysTrees_157 rfl (by decide) rfl ?_
        refine go_goto (tgt := 68) dx_X12_laysTrees_160 rfl ?_
        refine go_keep [0, 1, 2, 3, 4] rfl ?_
        refine ih _ ⟨fun z hz => ?_, fun y hy => by rw [wr_n (by have := hy _ hh8; omega), p2 110 _ (by decide)]; exact i2 y hy, fun c' j h1 h2 => by rw [wr_n (by omega), p2 _ _ h2]; exact i3 c' j h1 h2⟩
        by_cases e : z = (K.1 r).getD 0 0
        · rw [e, wr_eq, su_s, gbK_yes q]
        · rw [wr_n (by omega), p2 110 _ (by decide), su_s, gbK_ne (fun w => e w.symm), Nat.add_zero]
          exact i1 z hz
      refine go_iload dx_X12_laysTrees_68 rfl ?_
      refine go_bipush dx_X12_laysTrees_70 rfl ?_
      refine go_icmp_ge (tgt := 163) dx_X12_laysTrees_72 rfl (by omega) (by omega) (fun c72 => by exact absurd c72 (by omega)) (fun c72 => ?_)
      refine go_aload_n (i := 0) dx_X12_laysTrees_75 rfl rfl ?_
      refine go_iload dx_X12_laysTrees_76 rfl ?_
      refine go_cV1 sv_X12_148 (go_ok rfl rfl) dx_X12_laysTrees_78 (Nat.le_of_ble_eq_true rfl) (Nat.le_of_ble_eq_true rfl) (o_longOf ho1 hr ?_)
      refine go_if_eq (tgt := 157) dx_X12_laysTrees_81 rfl (by omega) (fun c81 => ?_) (fun c81 => ?_)
      · refine go_iinc (lv' := [(0, vv_A 94), (1, vv_I (s : Int)), (2, vv_I (i : Int)), (3, vv_I (c : Int)), (4, vv_I ((r : Int) + 1))]) dx_X12_laysTrees_157 rfl (by decide) rfl ?_
        refine go_goto (tgt := 68) dx_X12_laysTrees_160 rfl ?_
        exact skip (fun q => by omega)
      · refine go_aload_n (i := 0) dx_X12_laysTrees_84 rfl rfl ?_
        refine go_iload dx_X12_laysTrees_85 rfl ?_
        refine go_cV1 sv_X12_148 (go_ok rfl rfl) dx_X12_laysTrees_87 (Nat.le_of_ble_eq_true rfl) (Nat.le_of_ble_eq_true rfl) (o_longOf ho1 hr ?_)
        refine go_iconst dx_X12_laysTrees_90 ?_
        refine go_icmp_ne (tgt := 110) dx_X12_laysTrees_91 rfl (by omega) (by omega) (fun c91 => ?_) (fun c91 => ?_)
        · exact fits ⟨by omega, fun q => by omega⟩
        · refine go_aload_n (i := 0) dx_X12_laysTrees_94 rfl rfl ?_
          refine go_iload dx_X12_laysTrees_95 rfl ?_
          refine go_iconst dx_X12_laysTrees_97 ?_
          refine go_asI (y := ((0 : Nat) : Int)) (by rfl) ?_
          refine go_cV2 sv_X12_190 (go_ok rfl rfl) dx_X12_laysTrees_98 (Nat.le_of_ble_eq_true rfl) (Nat.le_of_ble_eq_true rfl) (o_partOf ho1 hr (by omega) ?_)
          refine go_cS1 ss_X12_212 dx_X12_laysTrees_101 (Nat.le_of_ble_eq_true rfl) (Nat.le_of_ble_eq_true rfl) (m_isSymbol (by have := rl_getD_lt hok (k := 0 + 1) (by omega); omega) (fun a1 a2 => ?_) (fun b1 => ?_))
          · refine go_if_eq (tgt := 110) dx_X12_laysTrees_104 rfl (by omega) (fun c104 => absurd c104 (by decide)) (fun c104 => ?_)
            refine go_goto (tgt := 157) dx_X12_laysTrees_107 rfl ?_
            refine go_iinc (lv' := [(0, vv_A 94), (1, vv_I (s : Int)), (2, vv_I (i : Int)), (3, vv_I (c : Int)), (4, vv_I ((r : Int) + 1))]) dx_X12_laysTrees_157 rfl (by decide) rfl ?_
            refine go_goto (tgt := 68) dx_X12_laysTrees_160 rfl ?_
            exact skip (fun q => q.2 ⟨by omega, by rw [Nat.zero_add] at a2; omega⟩)
          · refine go_if_eq (tgt := 110) dx_X12_laysTrees_104 rfl (by omega) (fun c104 => ?_) (fun c104 => absurd c104 (by decide))
            exact fits ⟨by omega, fun q => by rw [Nat.zero_add] at b1; omega⟩
    ) (fun δ1 hI => by
      obtain ⟨i1, i2, i3⟩ := hI
      refine go_iload dx_X12_laysTrees_68 rfl ?_
      refine go_bipush dx_X12_laysTrees_70 rfl ?_
      refine go_icmp_ge (tgt := 163) dx_X12_laysTrees_72 rfl (by omega) (by omega) (fun c72 => ?_) (fun c72 => by exact absurd c72 (by omega))
      refine go_iconst dx_X12_laysTrees_163 ?_
      refine go_istore (lv' := [(0, vv_A 94), (1, vv_I (s : Int)), (2, vv_I (i : Int)), (3, vv_I (c : Int)), (4, vv_I 0)]) dx_X12_laysTrees_164 (by decide) rfl ?_
      refine trs 0 δ1 (Nat.zero_le _) ⟨fun z hz => absurd hz (Nat.not_lt_zero _), fun x a b e f g h => by rw [i3 111 _ (by decide) (by decide)]; exact ht x a b e f g h, fun x a b e f g h => ?_, fun c' j hj => i3 c' j (by omega) (by omega)⟩
      by_cases q : a = i ∧ b = i + s
      · obtain ⟨q1, q2⟩ := q
        rw [q1, q2, show 256 * x + 16 * i + (i + s) = 256 * x + c by omega, gK_su]
        exact i1 x e
      · rw [i2 _ (fun z hz w => by
          have e1 : 16 * a + b < 240 := by omega
          have e2 : 16 * i + (i + s) < 240 := by omega
          have e3 : x = z := by omega
          have e4 : a = i := by omega
          exact q ⟨e4, by omega⟩)]
        exact hg x a b e f g (by omega)
    )
  have clr := lp_up (X := Nat → Nat → Int) (hi := 8) (I := fun x δ1 => (∀ z, z < x → δ1 110 (256 * z + c) = 0) ∧ (∀ q, (∀ z, z < 8 → q ≠ 256 * z + c) → δ1 110 q = δ 110 q) ∧ (∀ c j, c ≠ 110 → δ1 c j = δ c j))
    (G := fun x δ1 => Go E (d + 4) (0, 0) mx_X12_laysTrees go_φ 38 [(0, vv_A 94), (1, vv_I (s : Int)), (2, vv_I (i : Int)), (3, vv_I (c : Int)), (4, vv_I (x : Int))] [] δ1 Q)
    (fun x δ1 hx hI ih => by
      obtain ⟨i1, i2, i3⟩ := hI
      refine go_iload dx_X12_laysTrees_38 rfl ?_
      refine go_bipush dx_X12_laysTrees_40 rfl ?_
      refine go_icmp_ge (tgt := 65) dx_X12_laysTrees_42 rfl (by omega) (by omega) (fun c42 => by exact absurd c42 (by omega)) (fun c42 => ?_)
      refine go_aload_n (i := 0) dx_X12_laysTrees_45 rfl rfl ?_
      refine go_getA (b := 110) fs_X12_61 rfl (go_ok rfl rfl) rfl dx_X12_laysTrees_46 ?_
      refine go_sipush dx_X12_laysTrees_49 rfl ?_
      refine go_iload dx_X12_laysTrees_52 rfl ?_
      refine go_imul dx_X12_laysTrees_54 ?_
      refine go_iload_n (i := 3) dx_X12_laysTrees_55 rfl rfl ?_
      refine go_iadd dx_X12_laysTrees_56 ?_
      refine go_lconst (x := 0) dx_X12_laysTrees_57 rfl ?_
      refine go_lastoreV (i := 256 * x + c) dx_X12_laysTrees_58 (go_ok rfl rfl) (by omega) (show 256 * x + c < 2048 by omega) ?_
      refine go_iinc (lv' := [(0, vv_A 94), (1, vv_I (s : Int)), (2, vv_I (i : Int)), (3, vv_I (c : Int)), (4, vv_I ((x : Int) + 1))]) dx_X12_laysTrees_59 rfl (by decide) rfl ?_
      refine go_goto (tgt := 38) dx_X12_laysTrees_62 rfl ?_
      refine ih _ ⟨fun z hz => ?_, fun q hq => by rw [wr_n (by have := hq x hx; omega)]; exact i2 q hq, fun c' j hj => by rw [wr_n (by omega)]; exact i3 c' j hj⟩
      by_cases q : z = x
      · subst q; rw [wr_eq]
      · rw [wr_n (by omega)]; exact i1 z (by omega)
    ) (fun δ1 hI => by
      obtain ⟨i1, i2, i3⟩ := hI
      refine go_iload dx_X12_laysTrees_38 rfl ?_
      refine go_bipush dx_X12_laysTrees_40 rfl ?_
      refine go_icmp_ge (tgt := 65) dx_X12_laysTrees_42 rfl (by omega) (by omega) (fun c42 => ?_) (fun c42 => by exact absurd c42 (by omega))
      refine go_iconst dx_X12_laysTrees_65 ?_
      refine go_istore (lv' := [(0, vv_A 94), (1, vv_I (s : Int)), (2, vv_I (i : Int)), (3, vv_I (c : Int)), (4, vv_I 0)]) dx_X12_laysTrees_66 (by decide) rfl ?_
      exact rules 0 δ1 (Nat.zero_le _) ⟨fun z hz => by rw [i1 z hz, su_0, st_0], i2, fun c j h1 _ => i3 c j h1⟩
    )
  refine go_bipush dx_X12_laysTrees_26 rfl ?_
  refine go_iload_n (i := 2) dx_X12_laysTrees_28 rfl rfl ?_
  refine go_imul dx_X12_laysTrees_29 ?_
  refine go_iload_n (i := 2) dx_X12_laysTrees_30 rfl rfl ?_
  refine go_iadd dx_X12_laysTrees_31 ?_
  refine go_iload_n (i := 1) dx_X12_laysTrees_32 rfl rfl ?_
  refine go_iadd dx_X12_laysTrees_33 ?_
  refine go_asI (y := (c : Int)) (by omega) ?_
  refine go_istore_n (i := 3) (lv' := [(0, vv_A 94), (1, vv_I (s : Int)), (2, vv_I (i : Int)), (3, vv_I (c : Int))]) dx_X12_laysTrees_34 rfl (by decide) rfl ?_
  refine go_iconst dx_X12_laysTrees_35 ?_
  refine go_istore (lv' := [(0, vv_A 94), (1, vv_I (s : Int)), (2, vv_I (i : Int)), (3, vv_I (c : Int)), (4, vv_I 0)]) dx_X12_laysTrees_36 (by decide) rfl ?_
  exact clr 0 δ (Nat.zero_le _) ⟨fun z hz => absurd hz (Nat.not_lt_zero _), fun _ _ => rfl, fun _ _ _ => rfl⟩
theorem m_laysTrees (hb : bk_at δ 95 0 K) (hl : ml_at δ K) (hQ : ∀ δ', δ' 94 20 = 1 → mw_at δ' K.2.2 → me_at δ' K.1 K.2.2 → tr_at δ' K 15 0 → gr_at δ' K 15 0 → (∀ c j, ¬ ltc c j → δ' c j = δ c j) → Q [] go_φ δ') :
    Go E (d + 4) (0, 0) mx_X12_laysTrees go_φ 0 [(0, vv_A 94)] [] δ Q := by
  have h14 := hb.2.2.2.2.2.2.2.2.1
  refine go_aload_n (i := 0) dx_X12_laysTrees_0 rfl rfl ?_
  refine go_cV0 sv_X12_265 (go_ok rfl rfl) dx_X12_laysTrees_1 (Nat.le_of_ble_eq_true rfl) (Nat.le_of_ble_eq_true rfl) (m_lays hb hl (fun δ0 w1 w2 w3 w4 f0 => ?_))
  have hb0 : bk_at δ0 95 0 K := bk_fr hb (fun j => f0 95 j (by unfold mfP mqP; omega) (by decide) (by omega))
  have outer := lp_up (X := Nat → Nat → Int) (hi := K.2.2.length + 1) (I := fun s δ1 => 1 ≤ s ∧ tr_at δ1 K s 0 ∧ gr_at δ1 K s 0 ∧ (∀ c j, ¬ (110 ≤ c ∧ c ≤ 114) → δ1 c j = δ0 c j))
    (G := fun s δ1 => Go E (d + 4) (0, 0) mx_X12_laysTrees go_φ 6 [(0, vv_A 94), (1, vv_I (s : Int))] [] δ1 Q) (fun s δ1 hs hI ih => ?_) (fun δ1 hI => ?_)
  · refine go_iconst dx_X12_laysTrees_4 ?_
    refine go_istore_n (i := 1) (lv' := [(0, vv_A 94), (1, vv_I 1)]) dx_X12_laysTrees_5 rfl (by decide) rfl ?_
    exact outer 1 δ0 (by omega) ⟨Nat.le_refl _, fun x a b _ c _ f => by omega, fun x a b _ c _ f => by omega, fun _ _ _ => rfl⟩
  · obtain ⟨s1, i1, i2, i3⟩ := hI
    have hb1 : bk_at δ1 95 0 K := bk_fr hb0 (fun j => i3 95 j (by omega))
    have inner := lp_up (X := Nat → Nat → Int) (hi := K.2.2.length + 1 - s) (I := fun i δ2 => tr_at δ2 K s i ∧ gr_at δ2 K s i ∧ (∀ c j, ¬ (110 ≤ c ∧ c ≤ 114) → δ2 c j = δ0 c j))
      (G := fun i δ2 => Go E (d + 4) (0, 0) mx_X12_laysTrees go_φ 16 [(0, vv_A 94), (1, vv_I (s : Int)), (2, vv_I (i : Int))] [] δ2 Q) (fun i δ2 hi hI2 ih2 => ?_) (fun δ2 hI2 => ?_)
    · refine go_iload_n (i := 1) dx_X12_laysTrees_6 rfl rfl ?_
      refine go_aload_n (i := 0) dx_X12_laysTrees_7 rfl rfl ?_
      refine go_cV0 sv_X12_253 (go_ok rfl rfl) dx_X12_laysTrees_8 (Nat.le_of_ble_eq_true rfl) (Nat.le_of_ble_eq_true rfl) (m_letters hb1 ?_)
      refine go_icmp_gt (tgt := 223) dx_X12_laysTrees_11 rfl (by omega) (by omega) (fun c11 => by exact absurd c11 (by omega)) (fun c11 => ?_)
      refine go_iconst dx_X12_laysTrees_14 ?_
      refine go_istore_n (i := 2) (lv' := [(0, vv_A 94), (1, vv_I (s : Int)), (2, vv_I 0)]) dx_X12_laysTrees_15 rfl (by decide) rfl ?_
      exact inner 0 δ1 (Nat.zero_le _) ⟨i1, i2, i3⟩
    · obtain ⟨j1, j2, j3⟩ := hI2
      have hb2 : bk_at δ2 95 0 K := bk_fr hb0 (fun j => j3 95 j (by omega))
      refine go_iload_n (i := 2) dx_X12_laysTrees_16 rfl rfl ?_
      refine go_iload_n (i := 1) dx_X12_laysTrees_17 rfl rfl ?_
      refine go_iadd dx_X12_laysTrees_18 ?_
      refine go_aload_n (i := 0) dx_X12_laysTrees_19 rfl rfl ?_
      refine go_cV0 sv_X12_253 (go_ok rfl rfl) dx_X12_laysTrees_20 (Nat.le_of_ble_eq_true rfl) (Nat.le_of_ble_eq_true rfl) (m_letters hb2 ?_)
      refine go_icmp_gt (tgt := 217) dx_X12_laysTrees_23 rfl (by omega) (by omega) (fun c23 => by exact absurd c23 (by omega)) (fun c23 => ?_)
      exact m_laysSpan hb2 (mw_fr w2 (fun q => j3 106 q (by omega))) s1 (by omega) j1 j2 (fun δ3 a b c => ih2 δ3 ⟨a, b, fun c' j hj => by rw [c c' j hj]; exact j3 c' j hj⟩)
    · obtain ⟨j1, j2, j3⟩ := hI2
      have hb2 : bk_at δ2 95 0 K := bk_fr hb0 (fun j => j3 95 j (by omega))
      refine go_iload_n (i := 2) dx_X12_laysTrees_16 rfl rfl ?_
      refine go_iload_n (i := 1) dx_X12_laysTrees_17 rfl rfl ?_
      refine go_iadd dx_X12_laysTrees_18 ?_
      refine go_aload_n (i := 0) dx_X12_laysTrees_19 rfl rfl ?_
      refine go_cV0 sv_X12_253 (go_ok rfl rfl) dx_X12_laysTrees_20 (Nat.le_of_ble_eq_true rfl) (Nat.le_of_ble_eq_true rfl) (m_letters hb2 ?_)
      refine go_icmp_gt (tgt := 217) dx_X12_laysTrees_23 rfl (by omega) (by omega) (fun c23 => ?_) (fun c23 => by exact absurd c23 (by omega))
      refine go_iinc (lv' := [(0, vv_A 94), (1, vv_I ((s : Int) + 1)), (2, vv_I ((K.2.2.length + 1 - s : Nat) : Int))]) dx_X12_laysTrees_217 rfl (by decide) rfl ?_
      refine go_goto (tgt := 6) dx_X12_laysTrees_220 rfl ?_
      refine go_keep [0, 1] rfl ?_
      exact ih δ2 ⟨by omega, fun x a b e f g h => j1 x a b e f g (by omega), fun x a b e f g h => j2 x a b e f g (by omega), j3⟩
  · obtain ⟨s1, i1, i2, i3⟩ := hI
    have hb1 : bk_at δ1 95 0 K := bk_fr hb0 (fun j => i3 95 j (by omega))
    refine go_iload_n (i := 1) dx_X12_laysTrees_6 rfl rfl ?_
    refine go_aload_n (i := 0) dx_X12_laysTrees_7 rfl rfl ?_
    refine go_cV0 sv_X12_253 (go_ok rfl rfl) dx_X12_laysTrees_8 (Nat.le_of_ble_eq_true rfl) (Nat.le_of_ble_eq_true rfl) (m_letters hb1 ?_)
    refine go_icmp_gt (tgt := 223) dx_X12_laysTrees_11 rfl (by omega) (by omega) (fun c11 => ?_) (fun c11 => by exact absurd c11 (by omega))
    refine go_vreturn dx_X12_laysTrees_223 rfl (Nat.le_refl _) (Nat.le_refl _) ?_
    exact hQ δ1 (by rw [i3 _ _ (by omega)]; exact w1) (mw_fr w2 (fun q => i3 106 q (by omega))) (me_fr w3 (fun q => i3 107 q (by omega))) (fun x a b e f g h => i1 x a b e f g (by omega)) (fun x a b e f g h => i2 x a b e f g (by omega)) (fun c j hc => by unfold ltc at hc; rw [i3 c j (by omega), f0 c j (by unfold mfP mqP; omega) (by omega) (by omega)])
theorem m_trees {x i j : Int} (hx : go_iI x) (hi : go_iI i) (hj : go_iI j) (h : mx_at δ S) (hQ : ∀ δ', mx_at δ' S → fl δ δ' → Q [vv_L (oq_trees S.1 x i j)] go_φ δ') : Go E (d + 5) (0, 0) mx_X12_trees go_φ 0 [(0, vv_A 94), (1, vv_I x), (2, vv_I i), (3, vv_I j)] [] δ Q := by
  refine go_aload_n (i := 0) dx_X12_trees_0 rfl rfl ?_
  refine go_iconst dx_X12_trees_1 ?_
  refine go_putI fp_X12_139 rfl rfl (go_ok rfl rfl) dx_X12_trees_2 ?_
  have h := mx_thr (v := 0) h
  have f0 : fl δ (wr δ 94 0 0) := fl_thr
  generalize wr δ 94 0 0 = δ0 at h f0 ⊢
  have hQ := fun δ' a (b : fl δ0 δ') => hQ δ' a (fl_tr f0 b)
  have hsc := @mx_of δ0 S h
  have hb := h.1.1
  have hlaid := h.2
  have ho := bo_of hb
  have hR := ho.1
  have h14 := hb.2.2.2.2.2.2.2.2.1
  have l111 : go_ln 111 = 2048 := rfl
  unfold oq_trees isp at hQ
  refine go_iload_n (i := 1) dx_X12_trees_5 rfl rfl ?_
  refine go_cS1 ss_X12_212 dx_X12_trees_6 (Nat.le_of_ble_eq_true rfl) (Nat.le_of_ble_eq_true rfl) (m_isSymbol hx (fun a1 a2 => ?_) (fun b1 => ?_))
  · refine go_if_eq (tgt := 21) dx_X12_trees_9 rfl (by omega) (fun c9 => absurd c9 (by decide)) (fun c9 => ?_)
    refine go_aload_n (i := 0) dx_X12_trees_12 rfl rfl ?_
    refine go_iload_n (i := 2) dx_X12_trees_13 rfl rfl ?_
    refine go_iload_n (i := 3) dx_X12_trees_14 rfl rfl ?_
    refine go_cV2 sv_X12_260 (go_ok rfl rfl) dx_X12_trees_15 (Nat.le_of_ble_eq_true rfl) (Nat.le_of_ble_eq_true rfl) (m_isSpan hb hi hj ?_)
    refine go_b_ne (tgt := 25) dx_X12_trees_18 rfl (fun c18 => ?_) (fun c18 => ?_)
    · obtain ⟨p, rfl⟩ : ∃ p : Nat, x = (p : Int) := ⟨x.toNat, by omega⟩
      obtain ⟨a, rfl⟩ : ∃ a : Nat, i = (a : Int) := ⟨i.toNat, by omega⟩
      obtain ⟨b, rfl⟩ : ∃ b : Nat, j = (b : Int) := ⟨j.toNat, by omega⟩
      refine go_aload_n (i := 0) dx_X12_trees_25 rfl rfl ?_
      refine go_cV0 sv_X12_319 (go_ok rfl rfl) dx_X12_trees_26 (Nat.le_of_ble_eq_true rfl) (Nat.le_of_ble_eq_true rfl) (m_laysTrees hb hlaid (fun δ3 w1 w2 w3 w4 w5 f3 => ?_))
      refine go_aload_n (i := 0) dx_X12_trees_29 rfl rfl ?_
      refine go_getA (b := 111) fs_X12_64 rfl (go_ok rfl rfl) rfl dx_X12_trees_30 ?_
      refine go_sipush dx_X12_trees_33 rfl ?_
      refine go_iload_n (i := 1) dx_X12_trees_36 rfl rfl ?_
      refine go_imul dx_X12_trees_37 ?_
      refine go_bipush dx_X12_trees_38 rfl ?_
      refine go_iload_n (i := 2) dx_X12_trees_40 rfl rfl ?_
      refine go_imul dx_X12_trees_41 ?_
      refine go_iadd dx_X12_trees_42 ?_
      refine go_iload_n (i := 3) dx_X12_trees_43 rfl rfl ?_
      refine go_iadd dx_X12_trees_44 ?_
      refine go_laloadV (i := (256 * p + 16 * a + b)) (v := ((st (tK S.1 p a b)))) dx_X12_trees_45 (go_ok rfl rfl) (by omega) (show (256 * p + 16 * a + b) < 2048 by omega) (by exact w4 p a b (by omega) (by omega) (by omega) (by omega)) ?_
      refine go_lreturn dx_X12_trees_46 rfl (Nat.le_refl _) (Nat.le_refl _) ?_
      obtain ⟨m1, m2⟩ := hsc (δ' := δ3) (fun c j hc => f3 c j (by unfold ltc; unfold sc at hc; omega)) (ml_1 w1 w2 w3)
      have hQ := hQ δ3 m1 m2
      rw [cif_t ⟨⟨a1, a2⟩, c18⟩, Int.toNat_natCast, Int.toNat_natCast, Int.toNat_natCast] at hQ
      exact hQ
    · refine go_ldc2 (x := (-2)) kx_X12_263 dx_X12_trees_21 ?_
      refine go_lreturn dx_X12_trees_24 rfl (Nat.le_refl _) (Nat.le_refl _) ?_
      have hQ := hQ δ0 h fl_rf
      first | (rw [cif_f (fun q => b1 q.1)] at hQ; exact hQ) | (rw [cif_f (fun q => c18 q.2)] at hQ; exact hQ)
  · refine go_if_eq (tgt := 21) dx_X12_trees_9 rfl (by omega) (fun c9 => ?_) (fun c9 => absurd c9 (by decide))
    refine go_ldc2 (x := (-2)) kx_X12_263 dx_X12_trees_21 ?_
    refine go_lreturn dx_X12_trees_24 rfl (Nat.le_refl _) (Nat.le_refl _) ?_
    have hQ := hQ δ0 h fl_rf
    first | (rw [cif_f (fun q => b1 q.1)] at hQ; exact hQ) | (rw [cif_f (fun q => c18 q.2)] at hQ; exact hQ)
def dbq (K : sK) (c k : Nat) : Prop := dbk K k ∧ k < c
def dbp (K : sK) (c : Nat) : Prop := ∃ s i x, (s * 16 + i) * 8 + x < c ∧ 1 ≤ s ∧ i + s ≤ K.2.2.length ∧ x < 8 ∧ ¬ tK K x i (i + s) ≤ MX
theorem db_same {c c' : Nat} (hc : c ≤ c') (h : ∀ s i x, 1 ≤ s → i + s ≤ K.2.2.length → x < 8 → (s * 16 + i) * 8 + x < c' → (s * 16 + i) * 8 + x < c) : (∀ k, dbq K c k ↔ dbq K c' k) ∧ (dbp K c ↔ dbp K c') :=
  ⟨fun k => ⟨fun q => ⟨q.1, by have := q.2; omega⟩, fun ⟨⟨s, i, x, e, a, b, c1, f⟩, g⟩ => ⟨⟨s, i, x, e, a, b, c1, f⟩, by rw [e] at g ⊢; exact h s i x a b c1 g⟩⟩, fun ⟨s, i, x, e, a, b, c1, f⟩ => ⟨s, i, x, by omega, a, b, c1, f⟩, fun ⟨s, i, x, e, a, b, c1, f⟩ => ⟨s, i, x, h s i x a b c1 e, a, b, c1, f⟩⟩
theorem m_doubtful {q : Int} (hq : go_iI q) (h : mx_at δ S) (hQ : ∀ δ', mx_at δ' S → fl δ δ' → Q [vv_I (oq_doubtful S.1 q)] go_φ δ') : Go E (d + 5) (0, 0) mx_X12_doubtful go_φ 0 [(0, vv_A 94), (1, vv_I q)] [] δ Q := by
  refine go_aload_n (i := 0) dx_X12_doubtful_0 rfl rfl ?_
  refine go_iconst dx_X12_doubtful_1 ?_
  refine go_putI fp_X12_139 rfl rfl (go_ok rfl rfl) dx_X12_doubtful_2 ?_
  have h := mx_thr (v := 0) h
  have f0 : fl δ (wr δ 94 0 0) := fl_thr
  generalize wr δ 94 0 0 = δ0 at h f0 ⊢
  have hQ := fun δ' a (b : fl δ0 δ') => hQ δ' a (fl_tr f0 b)
  have hsc := @mx_of δ0 S h
  have hb := h.1.1
  have hlaid := h.2
  have ho := bo_of hb
  have hR := ho.1
  have h14 := hb.2.2.2.2.2.2.2.2.1
  have l111 : go_ln 111 = 2048 := rfl
  unfold oq_doubtful at hQ
  refine go_iload_n (i := 1) dx_X12_doubtful_5 rfl rfl ?_
  refine go_i2l dx_X12_doubtful_6 (by omega) ?_
  refine go_lconst (x := 0) dx_X12_doubtful_7 rfl ?_
  refine go_ldc2 (x := 2) kx_X12_286 dx_X12_doubtful_8 ?_
  refine go_cS3 ss_X12_144 dx_X12_doubtful_11 (Nat.le_of_ble_eq_true rfl) (Nat.le_of_ble_eq_true rfl) (m_within (by omega) (by omega) (by omega) (fun p1 p2 => ?_) (fun p1 => ?_))
  · refine go_if_ne (tgt := 20) dx_X12_doubtful_14 rfl (by omega) (fun c14 => ?_) (fun c14 => absurd c14 (by decide))
    refine go_aload_n (i := 0) dx_X12_doubtful_20 rfl rfl ?_
    refine go_cV0 sv_X12_319 (go_ok rfl rfl) dx_X12_doubtful_21 (Nat.le_of_ble_eq_true rfl) (Nat.le_of_ble_eq_true rfl) (m_laysTrees hb hlaid (fun δ3 w1 w2 w3 w4 w5 f3 => ?_))
    obtain ⟨m1, m2⟩ := hsc (δ' := δ3) (fun c j hc => f3 c j (by unfold ltc; unfold sc at hc; omega)) (ml_1 w1 w2 w3)
    have hb3 : bk_at δ3 95 0 S.1 := bk_fr hb (fun j => f3 95 j (by unfold ltc; omega))
    have hQ := hQ δ3 m1 m2
    rw [if_neg (fun w => w ⟨p1, p2⟩)] at hQ
    have dbr : ∀ k : Nat, k < 2048 → -1 ≤ dbv (k : Int) q ∧ dbv (k : Int) q ≤ 40 ∧ dbv (k : Int) q ≠ -1 := fun k hk => by
      unfold dbv
      rw [if_neg (by omega)]
      split
      · omega
      · split <;> omega
    have outer := lp_up (X := Int) (hi := S.1.2.2.length + 1) (I := fun s F => 1 ≤ s ∧ (-1 ≤ F ∧ F ≤ 40) ∧ (¬ dbp S.1 (s * 128) → F = dbv (li (dbq S.1 (s * 128))) q))
      (G := fun s F => Go E (d + 5) (0, 0) mx_X12_doubtful go_φ 31 [(0, vv_A 94), (1, vv_I q), (2, vv_I F), (3, vv_I (b01 (dbp S.1 (s * 128)))), (4, vv_I (s : Int))] [] δ3 Q) (fun s F hs hI ih => ?_) (fun F hI => ?_)
    · refine go_iconst dx_X12_doubtful_24 ?_
      refine go_istore_n (i := 2) (lv' := [(0, vv_A 94), (1, vv_I q), (2, vv_I (-1))]) dx_X12_doubtful_25 rfl (by decide) rfl ?_
      refine go_iconst dx_X12_doubtful_26 ?_
      refine go_istore_n (i := 3) (lv' := [(0, vv_A 94), (1, vv_I q), (2, vv_I (-1)), (3, vv_I 0)]) dx_X12_doubtful_27 rfl (by decide) rfl ?_
      refine go_iconst dx_X12_doubtful_28 ?_
      refine go_istore (lv' := [(0, vv_A 94), (1, vv_I q), (2, vv_I (-1)), (3, vv_I 0), (4, vv_I 1)]) dx_X12_doubtful_29 (by decide) rfl ?_
      have t := outer 1 (-1) (by omega) ⟨Nat.le_refl _, by omega, fun _ => by
        rw [li_f (fun k ⟨⟨s, i, x, e, a, _⟩, g⟩ => by omega)]
        rfl⟩
      rw [b01_f (P := dbp S.1 (1 * 128)) (fun ⟨s, i, x, e, a, _⟩ => by omega)] at t
      exact t
    · obtain ⟨s1, hF, hfo⟩ := hI
      have inner := lp_up (X := Int) (hi := S.1.2.2.length + 1 - s) (I := fun i F => (-1 ≤ F ∧ F ≤ 40) ∧ (¬ dbp S.1 ((s * 16 + i) * 8) → F = dbv (li (dbq S.1 ((s * 16 + i) * 8))) q))
        (G := fun i F => Go E (d + 5) (0, 0) mx_X12_doubtful go_φ 43 [(0, vv_A 94), (1, vv_I q), (2, vv_I F), (3, vv_I (b01 (dbp S.1 ((s * 16 + i) * 8)))), (4, vv_I (s : Int)), (5, vv_I (i : Int))] [] δ3 Q) (fun i F hi hI2 ih2 => ?_) (fun F hI2 => ?_)
      · refine go_iload dx_X12_doubtful_31 rfl ?_
        refine go_aload_n (i := 0) dx_X12_doubtful_33 rfl rfl ?_
        refine go_cV0 sv_X12_253 (go_ok rfl rfl) dx_X12_doubtful_34 (Nat.le_of_ble_eq_true rfl) (Nat.le_of_ble_eq_true rfl) (m_letters hb3 ?_)
        refine go_icmp_gt (tgt := 167) dx_X12_doubtful_37 rfl (by omega) (by omega) (fun c37 => by exact absurd c37 (by omega)) (fun c37 => ?_)
        refine go_iconst dx_X12_doubtful_40 ?_
        refine go_istore (lv' := [(0, vv_A 94), (1, vv_I q), (2, vv_I F), (3, vv_I (b01 (dbp S.1 (s * 128)))), (4, vv_I (s : Int)), (5, vv_I 0)]) dx_X12_doubtful_41 (by decide) rfl ?_
        rw [show s * 128 = (s * 16 + 0) * 8 by omega] at hfo ⊢
        exact inner 0 F (Nat.zero_le _) ⟨hF, hfo⟩
      · obtain ⟨hF2, hfo2⟩ := hI2
        have names := lp_up (X := Int) (hi := 8) (I := fun x F => (-1 ≤ F ∧ F ≤ 40) ∧ (¬ dbp S.1 ((s * 16 + i) * 8 + x) → F = dbv (li (dbq S.1 ((s * 16 + i) * 8 + x))) q))
          (G := fun x F => Go E (d + 5) (0, 0) mx_X12_doubtful go_φ 58 [(0, vv_A 94), (1, vv_I q), (2, vv_I F), (3, vv_I (b01 (dbp S.1 ((s * 16 + i) * 8 + x)))), (4, vv_I (s : Int)), (5, vv_I (i : Int)), (6, vv_I (x : Int))] [] δ3 Q) (fun x F hx hI3 ih3 => ?_) (fun F hI3 => ?_)
        · refine go_iload dx_X12_doubtful_43 rfl ?_
          refine go_iload dx_X12_doubtful_45 rfl ?_
          refine go_iadd dx_X12_doubtful_47 ?_
          refine go_aload_n (i := 0) dx_X12_doubtful_48 rfl rfl ?_
          refine go_cV0 sv_X12_253 (go_ok rfl rfl) dx_X12_doubtful_49 (Nat.le_of_ble_eq_true rfl) (Nat.le_of_ble_eq_true rfl) (m_letters hb3 ?_)
          refine go_icmp_gt (tgt := 161) dx_X12_doubtful_52 rfl (by omega) (by omega) (fun c52 => by exact absurd c52 (by omega)) (fun c52 => ?_)
          refine go_iconst dx_X12_doubtful_55 ?_
          refine go_istore (lv' := [(0, vv_A 94), (1, vv_I q), (2, vv_I F), (3, vv_I (b01 (dbp S.1 ((s * 16 + i) * 8)))), (4, vv_I (s : Int)), (5, vv_I (i : Int)), (6, vv_I 0)]) dx_X12_doubtful_56 (by decide) rfl ?_
          exact names 0 F (Nat.zero_le _) ⟨hF2, hfo2⟩
        · obtain ⟨hF3, hfo3⟩ := hI3
          have htr := w4 x i (i + s) hx (by omega) (by omega) (by omega)
          have hst := st_c (tK S.1 x i (i + s))
          have hgt : st (tK S.1 x i (i + s)) = -7 ↔ ¬ tK S.1 x i (i + s) ≤ MX := ⟨fun w y => by rw [st_le y] at w; omega, fun w => st_gt w⟩
          obtain ⟨c, hc⟩ : ∃ c, c = (s * 16 + i) * 8 + x := ⟨_, rfl⟩
          have ih3 : ∀ F : Int, (-1 ≤ F ∧ F ≤ 40) → (¬ dbp S.1 (c + 1) → F = dbv (li (dbq S.1 (c + 1))) q) → ∀ v : Int, v = b01 (dbp S.1 (c + 1)) → Go E (d + 5) (0, 0) mx_X12_doubtful go_φ 58 [(0, vv_A 94), (1, vv_I q), (2, vv_I F), (3, vv_I v), (4, vv_I (s : Int)), (5, vv_I (i : Int)), (6, vv_I ((x + 1 : Nat) : Int))] [] δ3 Q := fun F a b v e => by
            rw [e]
            rw [hc] at b ⊢
            exact ih3 F ⟨a, b⟩
          rw [← hc] at hfo3 ⊢
          have hcs : c < 2048 := by omega
          have uniq : ∀ s' i' x', 1 ≤ s' → i' + s' ≤ S.1.2.2.length → x' < 8 → (s' * 16 + i') * 8 + x' = c → s' = s ∧ i' = i ∧ x' = x := fun s' i' x' a1 a2 a3 a4 => by omega
          have hps : dbp S.1 (c + 1) ↔ dbp S.1 c ∨ ¬ tK S.1 x i (i + s) ≤ MX := ⟨fun ⟨s', i', x', e, a, b, c1, f⟩ => by
            by_cases z : (s' * 16 + i') * 8 + x' = c
            · obtain ⟨z1, z2, z3⟩ := uniq s' i' x' a b c1 z
              subst z1 z2 z3
              exact Or.inr f
            · exact Or.inl ⟨s', i', x', by omega, a, b, c1, f⟩, fun w => w.elim (fun ⟨s', i', x', e, a, b, c1, f⟩ => ⟨s', i', x', by omega, a, b, c1, f⟩) (fun f => ⟨s, i, x, by omega, s1, by omega, hx, f⟩)⟩
          have hqs : ∀ k, dbq S.1 (c + 1) k ↔ dbq S.1 c k ∨ (k = c ∧ 2 ≤ tK S.1 x i (i + s)) := fun k => ⟨fun ⟨⟨s', i', x', e, a, b, c1, f⟩, g⟩ => by
            by_cases z : k = c
            · obtain ⟨z1, z2, z3⟩ := uniq s' i' x' a b c1 (by omega)
              subst z1 z2 z3
              exact Or.inr ⟨z, f⟩
            · exact Or.inl ⟨⟨s', i', x', e, a, b, c1, f⟩, by omega⟩, fun w => w.elim (fun y => ⟨y.1, by have := y.2; omega⟩) (fun ⟨y1, y2⟩ => ⟨⟨s, i, x, by omega, s1, by omega, hx, y2⟩, by omega⟩)⟩
          have hno : ¬ 2 ≤ tK S.1 x i (i + s) → li (dbq S.1 (c + 1)) = li (dbq S.1 c) := fun w => li_congr (fun k => (hqs k).trans ⟨fun y => y.elim id (fun y => absurd y.2 w), Or.inl⟩)
          have hold : li (dbq S.1 c) ≠ -1 → li (dbq S.1 (c + 1)) = li (dbq S.1 c) := fun w => by
            rcases li_cases (dbq S.1 c) with ⟨y, _⟩ | ⟨k, y, y1, y2⟩
            · exact absurd y w
            · rw [y]
              exact li_t ((hqs k).mpr (Or.inl y1)) (fun m hm => ((hqs m).mp hm).elim (y2 m) (fun z => by have := y1.2; omega))
          have hnew : li (dbq S.1 c) = -1 → 2 ≤ tK S.1 x i (i + s) → li (dbq S.1 (c + 1)) = (c : Int) := fun w y => li_t ((hqs c).mpr (Or.inr ⟨rfl, y⟩)) (fun m hm => ((hqs m).mp hm).elim (fun z => by
            rcases li_cases (dbq S.1 c) with ⟨_, u⟩ | ⟨k, u, _⟩
            · exact absurd z (u m)
            · omega) (fun z => by omega))
          have hrng : ∀ k, dbq S.1 c k → k < 2048 := fun k hk => by have := hk.2; omega
          have hFv : ¬ dbp S.1 c → (F = -1 ↔ li (dbq S.1 c) = -1) := fun w => by
            have e := hfo3 w
            rcases li_cases (dbq S.1 c) with ⟨y, _⟩ | ⟨k, y, y1, _⟩
            · rw [y] at e ⊢
              exact ⟨fun _ => rfl, fun _ => by rw [e]; rfl⟩
            · rw [y] at e ⊢
              have := dbr k (hrng k y1)
              omega
          have fin : ∀ (F2 v : Int), (-1 ≤ F2 ∧ F2 ≤ 40) → v = b01 (dbp S.1 (c + 1)) → (¬ dbp S.1 c → ¬ st (tK S.1 x i (i + s)) = -7 → F2 = if 2 ≤ st (tK S.1 x i (i + s)) ∧ F = -1 then dbv (c : Int) q else F) →
              Go E (d + 5) (0, 0) mx_X12_doubtful go_φ 58 [(0, vv_A 94), (1, vv_I q), (2, vv_I F2), (3, vv_I v), (4, vv_I (s : Int)), (5, vv_I (i : Int)), (6, vv_I ((x + 1 : Nat) : Int))] [] δ3 Q := fun F2 v hr hv hf => by
            refine ih3 F2 hr (fun w => ?_) v hv
            have w1 : ¬ dbp S.1 c := fun y => w (hps.mpr (Or.inl y))
            have w2 : tK S.1 x i (i + s) ≤ MX := Classical.byContradiction (fun y => w (hps.mpr (Or.inr y)))
            have e := hf w1 (fun y => (hgt.mp y) w2)
            rw [st_le w2] at e
            rw [e]
            by_cases z : 2 ≤ (tK S.1 x i (i + s) : Int) ∧ F = -1
            · rw [if_pos z, hnew ((hFv w1).mp z.2) (by omega)]
            · rw [if_neg z, hfo3 w1]
              by_cases y : 2 ≤ tK S.1 x i (i + s)
              · rw [hold (fun u => z ⟨by omega, (hFv w1).mpr u⟩)]
              · rw [hno y]
          have hdc : dbv (c : Int) q = if q = 0 then (x : Int) else if q = 1 then (i : Int) else ((i + s : Nat) : Int) := by
            unfold dbv
            rw [if_neg (by omega)]
            split
            · omega
            · split <;> omega
          obtain ⟨T, hT⟩ : ∃ T, T = st (tK S.1 x i (i + s)) := ⟨_, rfl⟩
          rw [← hT] at htr hst hgt fin
          refine go_iload dx_X12_doubtful_58 rfl ?_
          refine go_bipush dx_X12_doubtful_60 rfl ?_
          refine go_icmp_ge (tgt := 155) dx_X12_doubtful_62 rfl (by omega) (by omega) (fun c62 => by exact absurd c62 (by omega)) (fun c62 => ?_)
          refine go_aload_n (i := 0) dx_X12_doubtful_65 rfl rfl ?_
          refine go_getA (b := 111) fs_X12_64 rfl (go_ok rfl rfl) rfl dx_X12_doubtful_66 ?_
          refine go_sipush dx_X12_doubtful_69 rfl ?_
          refine go_iload dx_X12_doubtful_72 rfl ?_
          refine go_imul dx_X12_doubtful_74 ?_
          refine go_bipush dx_X12_doubtful_75 rfl ?_
          refine go_iload dx_X12_doubtful_77 rfl ?_
          refine go_imul dx_X12_doubtful_79 ?_
          refine go_iadd dx_X12_doubtful_80 ?_
          refine go_iload dx_X12_doubtful_81 rfl ?_
          refine go_iadd dx_X12_doubtful_83 ?_
          refine go_iload dx_X12_doubtful_84 rfl ?_
          refine go_iadd dx_X12_doubtful_86 ?_
          refine go_laloadV (i := (256 * x + 16 * i + (i + s))) (v := T) dx_X12_doubtful_87 (go_ok rfl rfl) (by omega) (show (256 * x + 16 * i + (i + s)) < 2048 by omega) (by exact htr) ?_
          refine go_lstore (lv' := [(0, vv_A 94), (1, vv_I q), (2, vv_I F), (3, vv_I (b01 (dbp S.1 c))), (4, vv_I (s : Int)), (5, vv_I (i : Int)), (6, vv_I (x : Int)), (7, vv_L T)]) dx_X12_doubtful_88 (by decide) rfl ?_
          refine go_iload_n (i := 3) dx_X12_doubtful_90 rfl rfl ?_
          refine go_lload dx_X12_doubtful_91 rfl ?_
          refine go_ldc2 (x := (-7)) kx_X12_288 dx_X12_doubtful_93 ?_
          refine go_lcmp_ne (tgt := 104) dx_X12_doubtful_96 dx_X12_doubtful_97 rfl (by omega) (by omega) (fun c96 => ?_) (fun c96 => ?_)
          · refine go_iconst dx_X12_doubtful_104 ?_
            refine go_ior dx_X12_doubtful_105 ?_
            refine go_nmI (fun over eover => ?_)
            refine go_istore_n (i := 3) (lv' := [(0, vv_A 94), (1, vv_I q), (2, vv_I F), (3, vv_I over), (4, vv_I (s : Int)), (5, vv_I (i : Int)), (6, vv_I (x : Int)), (7, vv_L T)]) dx_X12_doubtful_106 rfl (by decide) rfl ?_
            refine go_lload dx_X12_doubtful_107 rfl ?_
            refine go_ldc2 (x := 2) kx_X12_286 dx_X12_doubtful_109 ?_
            refine go_lcmp_lt (tgt := 149) dx_X12_doubtful_112 dx_X12_doubtful_113 rfl (by omega) (by omega) (fun c112 => ?_) (fun c112 => ?_)
            · refine go_iinc (lv' := [(0, vv_A 94), (1, vv_I q), (2, vv_I F), (3, vv_I over), (4, vv_I (s : Int)), (5, vv_I (i : Int)), (6, vv_I ((x : Int) + 1)), (7, vv_L T)]) dx_X12_doubtful_149 rfl (by decide) rfl ?_
              refine go_goto (tgt := 58) dx_X12_doubtful_152 rfl ?_
              refine go_keep [0, 1, 2, 3, 4, 5, 6] rfl ?_
              by_cases zz : T = -7 ∧ 2 ≤ T
              · exfalso; omega
              · refine fin _ over (by omega) ?_ ?_
                · rw [eover]
                  first
                    | (rw [bv_or0]; exact b01_c ⟨fun w => hps.mpr (Or.inl w), fun w => (hps.mp w).elim id (fun y => absurd (hgt.mpr y) (by assumption))⟩)
                    | (rw [bv_or1, b01_t (hps.mpr (Or.inr (hgt.mp (by assumption))))])
                · intro _ w
                  first
                    | exact absurd (by assumption) w
                    | (rw [if_neg (by omega)])
                    | (rw [if_pos ⟨by omega, by omega⟩, hdc, if_pos (by omega)])
                    | (rw [if_pos ⟨by omega, by omega⟩, hdc, if_neg (by omega), if_pos (by omega)])
                    | (rw [if_pos ⟨by omega, by omega⟩, hdc, if_neg (by omega), if_neg (by omega)]; omega)
            · refine go_iload_n (i := 2) dx_X12_doubtful_116 rfl rfl ?_
              refine go_iconst dx_X12_doubtful_117 ?_
              refine go_icmp_eq (tgt := 124) dx_X12_doubtful_118 rfl (by omega) (by omega) (fun c118 => ?_) (fun c118 => ?_)
              · refine go_iload_n (i := 1) dx_X12_doubtful_124 rfl rfl ?_
                refine go_if_ne (tgt := 133) dx_X12_doubtful_125 rfl (by omega) (fun c125 => ?_) (fun c125 => ?_)
                · refine go_iload_n (i := 1) dx_X12_doubtful_133 rfl rfl ?_
                  refine go_iconst dx_X12_doubtful_134 ?_
                  refine go_icmp_ne (tgt := 143) dx_X12_doubtful_135 rfl (by omega) (by omega) (fun c135 => ?_) (fun c135 => ?_)
                  · refine go_iload dx_X12_doubtful_143 rfl ?_
                    refine go_iload dx_X12_doubtful_145 rfl ?_
                    refine go_iadd dx_X12_doubtful_147 ?_
                    refine go_nmI (fun x148_2 ex148_2 => ?_)
                    refine go_istore_n (i := 2) (lv' := [(0, vv_A 94), (1, vv_I q), (2, vv_I x148_2), (3, vv_I over), (4, vv_I (s : Int)), (5, vv_I (i : Int)), (6, vv_I (x : Int)), (7, vv_L T)]) dx_X12_doubtful_148 rfl (by decide) rfl ?_
                    refine go_iinc (lv' := [(0, vv_A 94), (1, vv_I q), (2, vv_I x148_2), (3, vv_I over), (4, vv_I (s : Int)), (5, vv_I (i : Int)), (6, vv_I ((x : Int) + 1)), (7, vv_L T)]) dx_X12_doubtful_149 rfl (by decide) rfl ?_
                    refine go_goto (tgt := 58) dx_X12_doubtful_152 rfl ?_
                    refine go_keep [0, 1, 2, 3, 4, 5, 6] rfl ?_
                    by_cases zz : T = -7 ∧ 2 ≤ T
                    · exfalso; omega
                    · refine fin _ over (by omega) ?_ ?_
                      · rw [eover]
                        first
                          | (rw [bv_or0]; exact b01_c ⟨fun w => hps.mpr (Or.inl w), fun w => (hps.mp w).elim id (fun y => absurd (hgt.mpr y) (by assumption))⟩)
                          | (rw [bv_or1, b01_t (hps.mpr (Or.inr (hgt.mp (by assumption))))])
                      · intro _ w
                        first
                          | exact absurd (by assumption) w
                          | (rw [if_neg (by omega)])
                          | (rw [if_pos ⟨by omega, by omega⟩, hdc, if_pos (by omega)])
                          | (rw [if_pos ⟨by omega, by omega⟩, hdc, if_neg (by omega), if_pos (by omega)])
                          | (rw [if_pos ⟨by omega, by omega⟩, hdc, if_neg (by omega), if_neg (by omega)]; omega)
                  · refine go_iload dx_X12_doubtful_138 rfl ?_
                    refine go_goto (tgt := 148) dx_X12_doubtful_140 rfl ?_
                    refine go_istore_n (i := 2) (lv' := [(0, vv_A 94), (1, vv_I q), (2, vv_I (i : Int)), (3, vv_I over), (4, vv_I (s : Int)), (5, vv_I (i : Int)), (6, vv_I (x : Int)), (7, vv_L T)]) dx_X12_doubtful_148 rfl (by decide) rfl ?_
                    refine go_iinc (lv' := [(0, vv_A 94), (1, vv_I q), (2, vv_I (i : Int)), (3, vv_I over), (4, vv_I (s : Int)), (5, vv_I (i : Int)), (6, vv_I ((x : Int) + 1)), (7, vv_L T)]) dx_X12_doubtful_149 rfl (by decide) rfl ?_
                    refine go_goto (tgt := 58) dx_X12_doubtful_152 rfl ?_
                    refine go_keep [0, 1, 2, 3, 4, 5, 6] rfl ?_
                    by_cases zz : T = -7 ∧ 2 ≤ T
                    · exfalso; omega
                    · refine fin _ over (by omega) ?_ ?_
                      · rw [eover]
                        first
                          | (rw [bv_or0]; exact b01_c ⟨fun w => hps.mpr (Or.inl w), fun w => (hps.mp w).elim id (fun y => absurd (hgt.mpr y) (by assumption))⟩)
                          | (rw [bv_or1, b01_t (hps.mpr (Or.inr (hgt.mp (by assumption))))])
                      · intro _ w
                        first
                          | exact absurd (by assumption) w
                          | (rw [if_neg (by omega)])
                          | (rw [if_pos ⟨by omega, by omega⟩, hdc, if_pos (by omega)])
                          | (rw [if_pos ⟨by omega, by omega⟩, hdc, if_neg (by omega), if_pos (by omega)])
                          | (rw [if_pos ⟨by omega, by omega⟩, hdc, if_neg (by omega), if_neg (by omega)]; omega)
                · refine go_iload dx_X12_doubtful_128 rfl ?_
                  refine go_goto (tgt := 148) dx_X12_doubtful_130 rfl ?_
                  refine go_istore_n (i := 2) (lv' := [(0, vv_A 94), (1, vv_I q), (2, vv_I (x : Int)), (3, vv_I over), (4, vv_I (s : Int)), (5, vv_I (i : Int)), (6, vv_I (x : Int)), (7, vv_L T)]) dx_X12_doubtful_148 rfl (by decide) rfl ?_
                  refine go_iinc (lv' := [(0, vv_A 94), (1, vv_I q), (2, vv_I (x : Int)), (3, vv_I over), (4, vv_I (s : Int)), (5, vv_I (i : Int)), (6, vv_I ((x : Int) + 1)), (7, vv_L T)]) dx_X12_doubtful_149 rfl (by decide) rfl ?_
                  refine go_goto (tgt := 58) dx_X12_doubtful_152 rfl ?_
                  refine go_keep [0, 1, 2, 3, 4, 5, 6] rfl ?_
                  by_cases zz : T = -7 ∧ 2 ≤ T
                  · exfalso; omega
                  · refine fin _ over (by omega) ?_ ?_
                    · rw [eover]
                      first
                        | (rw [bv_or0]; exact b01_c ⟨fun w => hps.mpr (Or.inl w), fun w => (hps.mp w).elim id (fun y => absurd (hgt.mpr y) (by assumption))⟩)
                        | (rw [bv_or1, b01_t (hps.mpr (Or.inr (hgt.mp (by assumption))))])
                    · intro _ w
                      first
                        | exact absurd (by assumption) w
                        | (rw [if_neg (by omega)])
                        | (rw [if_pos ⟨by omega, by omega⟩, hdc, if_pos (by omega)])
                        | (rw [if_pos ⟨by omega, by omega⟩, hdc, if_neg (by omega), if_pos (by omega)])
                        | (rw [if_pos ⟨by omega, by omega⟩, hdc, if_neg (by omega), if_neg (by omega)]; omega)
              · refine go_goto (tgt := 149) dx_X12_doubtful_121 rfl ?_
                refine go_iinc (lv' := [(0, vv_A 94), (1, vv_I q), (2, vv_I F), (3, vv_I over), (4, vv_I (s : Int)), (5, vv_I (i : Int)), (6, vv_I ((x : Int) + 1)), (7, vv_L T)]) dx_X12_doubtful_149 rfl (by decide) rfl ?_
                refine go_goto (tgt := 58) dx_X12_doubtful_152 rfl ?_
                refine go_keep [0, 1, 2, 3, 4, 5, 6] rfl ?_
                by_cases zz : T = -7 ∧ 2 ≤ T
                · exfalso; omega
                · refine fin _ over (by omega) ?_ ?_
                  · rw [eover]
                    first
                      | (rw [bv_or0]; exact b01_c ⟨fun w => hps.mpr (Or.inl w), fun w => (hps.mp w).elim id (fun y => absurd (hgt.mpr y) (by assumption))⟩)
                      | (rw [bv_or1, b01_t (hps.mpr (Or.inr (hgt.mp (by assumption))))])
                  · intro _ w
                    first
                      | exact absurd (by assumption) w
                      | (rw [if_neg (by omega)])
                      | (rw [if_pos ⟨by omega, by omega⟩, hdc, if_pos (by omega)])
                      | (rw [if_pos ⟨by omega, by omega⟩, hdc, if_neg (by omega), if_pos (by omega)])
                      | (rw [if_pos ⟨by omega, by omega⟩, hdc, if_neg (by omega), if_neg (by omega)]; omega)
          · refine go_iconst dx_X12_doubtful_100 ?_
            refine go_goto (tgt := 105) dx_X12_doubtful_101 rfl ?_
            refine go_ior dx_X12_doubtful_105 ?_
            refine go_nmI (fun over eover => ?_)
            refine go_istore_n (i := 3) (lv' := [(0, vv_A 94), (1, vv_I q), (2, vv_I F), (3, vv_I over), (4, vv_I (s : Int)), (5, vv_I (i : Int)), (6, vv_I (x : Int)), (7, vv_L T)]) dx_X12_doubtful_106 rfl (by decide) rfl ?_
            refine go_lload dx_X12_doubtful_107 rfl ?_
            refine go_ldc2 (x := 2) kx_X12_286 dx_X12_doubtful_109 ?_
            refine go_lcmp_lt (tgt := 149) dx_X12_doubtful_112 dx_X12_doubtful_113 rfl (by omega) (by omega) (fun c112 => ?_) (fun c112 => ?_)
            · refine go_iinc (lv' := [(0, vv_A 94), (1, vv_I q), (2, vv_I F), (3, vv_I over), (4, vv_I (s : Int)), (5, vv_I (i : Int)), (6, vv_I ((x : Int) + 1)), (7, vv_L T)]) dx_X12_doubtful_149 rfl (by decide) rfl ?_
              refine go_goto (tgt := 58) dx_X12_doubtful_152 rfl ?_
              refine go_keep [0, 1, 2, 3, 4, 5, 6] rfl ?_
              by_cases zz : T = -7 ∧ 2 ≤ T
              · exfalso; omega
              · refine fin _ over (by omega) ?_ ?_
                · rw [eover]
                  first
                    | (rw [bv_or0]; exact b01_c ⟨fun w => hps.mpr (Or.inl w), fun w => (hps.mp w).elim id (fun y => absurd (hgt.mpr y) (by assumption))⟩)
                    | (rw [bv_or1, b01_t (hps.mpr (Or.inr (hgt.mp (by assumption))))])
                · intro _ w
                  first
                    | exact absurd (by assumption) w
                    | (rw [if_neg (by omega)])
                    | (rw [if_pos ⟨by omega, by omega⟩, hdc, if_pos (by omega)])
                    | (rw [if_pos ⟨by omega, by omega⟩, hdc, if_neg (by omega), if_pos (by omega)])
                    | (rw [if_pos ⟨by omega, by omega⟩, hdc, if_neg (by omega), if_neg (by omega)]; omega)
            · refine go_iload_n (i := 2) dx_X12_doubtful_116 rfl rfl ?_
              refine go_iconst dx_X12_doubtful_117 ?_
              refine go_icmp_eq (tgt := 124) dx_X12_doubtful_118 rfl (by omega) (by omega) (fun c118 => ?_) (fun c118 => ?_)
              · refine go_iload_n (i := 1) dx_X12_doubtful_124 rfl rfl ?_
                refine go_if_ne (tgt := 133) dx_X12_doubtful_125 rfl (by omega) (fun c125 => ?_) (fun c125 => ?_)
                · refine go_iload_n (i := 1) dx_X12_doubtful_133 rfl rfl ?_
                  refine go_iconst dx_X12_doubtful_134 ?_
                  refine go_icmp_ne (tgt := 143) dx_X12_doubtful_135 rfl (by omega) (by omega) (fun c135 => ?_) (fun c135 => ?_)
                  · refine go_iload dx_X12_doubtful_143 rfl ?_
                    refine go_iload dx_X12_doubtful_145 rfl ?_
                    refine go_iadd dx_X12_doubtful_147 ?_
                    refine go_nmI (fun x148_4 ex148_4 => ?_)
                    refine go_istore_n (i := 2) (lv' := [(0, vv_A 94), (1, vv_I q), (2, vv_I x148_4), (3, vv_I over), (4, vv_I (s : Int)), (5, vv_I (i : Int)), (6, vv_I (x : Int)), (7, vv_L T)]) dx_X12_doubtful_148 rfl (by decide) rfl ?_
                    refine go_iinc (lv' := [(0, vv_A 94), (1, vv_I q), (2, vv_I x148_4), (3, vv_I over), (4, vv_I (s : Int)), (5, vv_I (i : Int)), (6, vv_I ((x : Int) + 1)), (7, vv_L T)]) dx_X12_doubtful_149 rfl (by decide) rfl ?_
                    refine go_goto (tgt := 58) dx_X12_doubtful_152 rfl ?_
                    refine go_keep [0, 1, 2, 3, 4, 5, 6] rfl ?_
                    by_cases zz : T = -7 ∧ 2 ≤ T
                    · exfalso; omega
                    · refine fin _ over (by omega) ?_ ?_
                      · rw [eover]
                        first
                          | (rw [bv_or0]; exact b01_c ⟨fun w => hps.mpr (Or.inl w), fun w => (hps.mp w).elim id (fun y => absurd (hgt.mpr y) (by assumption))⟩)
                          | (rw [bv_or1, b01_t (hps.mpr (Or.inr (hgt.mp (by assumption))))])
                      · intro _ w
                        first
                          | exact absurd (by assumption) w
                          | (rw [if_neg (by omega)])
                          | (rw [if_pos ⟨by omega, by omega⟩, hdc, if_pos (by omega)])
                          | (rw [if_pos ⟨by omega, by omega⟩, hdc, if_neg (by omega), if_pos (by omega)])
                          | (rw [if_pos ⟨by omega, by omega⟩, hdc, if_neg (by omega), if_neg (by omega)]; omega)
                  · refine go_iload dx_X12_doubtful_138 rfl ?_
                    refine go_goto (tgt := 148) dx_X12_doubtful_140 rfl ?_
                    refine go_istore_n (i := 2) (lv' := [(0, vv_A 94), (1, vv_I q), (2, vv_I (i : Int)), (3, vv_I over), (4, vv_I (s : Int)), (5, vv_I (i : Int)), (6, vv_I (x : Int)), (7, vv_L T)]) dx_X12_doubtful_148 rfl (by decide) rfl ?_
                    refine go_iinc (lv' := [(0, vv_A 94), (1, vv_I q), (2, vv_I (i : Int)), (3, vv_I over), (4, vv_I (s : Int)), (5, vv_I (i : Int)), (6, vv_I ((x : Int) + 1)), (7, vv_L T)]) dx_X12_doubtful_149 rfl (by decide) rfl ?_
                    refine go_goto (tgt := 58) dx_X12_doubtful_152 rfl ?_
                    refine go_keep [0, 1, 2, 3, 4, 5, 6] rfl ?_
                    by_cases zz : T = -7 ∧ 2 ≤ T
                    · exfalso; omega
                    · refine fin _ over (by omega) ?_ ?_
                      · rw [eover]
                        first
                          | (rw [bv_or0]; exact b01_c ⟨fun w => hps.mpr (Or.inl w), fun w => (hps.mp w).elim id (fun y => absurd (hgt.mpr y) (by assumption))⟩)
                          | (rw [bv_or1, b01_t (hps.mpr (Or.inr (hgt.mp (by assumption))))])
                      · intro _ w
                        first
                          | exact absurd (by assumption) w
                          | (rw [if_neg (by omega)])
                          | (rw [if_pos ⟨by omega, by omega⟩, hdc, if_pos (by omega)])
                          | (rw [if_pos ⟨by omega, by omega⟩, hdc, if_neg (by omega), if_pos (by omega)])
                          | (rw [if_pos ⟨by omega, by omega⟩, hdc, if_neg (by omega), if_neg (by omega)]; omega)
                · refine go_iload dx_X12_doubtful_128 rfl ?_
                  refine go_goto (tgt := 148) dx_X12_doubtful_130 rfl ?_
                  refine go_istore_n (i := 2) (lv' := [(0, vv_A 94), (1, vv_I q), (2, vv_I (x : Int)), (3, vv_I over), (4, vv_I (s : Int)), (5, vv_I (i : Int)), (6, vv_I (x : Int)), (7, vv_L T)]) dx_X12_doubtful_148 rfl (by decide) rfl ?_
                  refine go_iinc (lv' := [(0, vv_A 94), (1, vv_I q), (2, vv_I (x : Int)), (3, vv_I over), (4, vv_I (s : Int)), (5, vv_I (i : Int)), (6, vv_I ((x : Int) + 1)), (7, vv_L T)]) dx_X12_doubtful_149 rfl (by decide) rfl ?_
                  refine go_goto (tgt := 58) dx_X12_doubtful_152 rfl ?_
                  refine go_keep [0, 1, 2, 3, 4, 5, 6] rfl ?_
                  by_cases zz : T = -7 ∧ 2 ≤ T
                  · exfalso; omega
                  · refine fin _ over (by omega) ?_ ?_
                    · rw [eover]
                      first
                        | (rw [bv_or0]; exact b01_c ⟨fun w => hps.mpr (Or.inl w), fun w => (hps.mp w).elim id (fun y => absurd (hgt.mpr y) (by assumption))⟩)
                        | (rw [bv_or1, b01_t (hps.mpr (Or.inr (hgt.mp (by assumption))))])
                    · intro _ w
                      first
                        | exact absurd (by assumption) w
                        | (rw [if_neg (by omega)])
                        | (rw [if_pos ⟨by omega, by omega⟩, hdc, if_pos (by omega)])
                        | (rw [if_pos ⟨by omega, by omega⟩, hdc, if_neg (by omega), if_pos (by omega)])
                        | (rw [if_pos ⟨by omega, by omega⟩, hdc, if_neg (by omega), if_neg (by omega)]; omega)
              · refine go_goto (tgt := 149) dx_X12_doubtful_121 rfl ?_
                refine go_iinc (lv' := [(0, vv_A 94), (1, vv_I q), (2, vv_I F), (3, vv_I over), (4, vv_I (s : Int)), (5, vv_I (i : Int)), (6, vv_I ((x : Int) + 1)), (7, vv_L T)]) dx_X12_doubtful_149 rfl (by decide) rfl ?_
                refine go_goto (tgt := 58) dx_X12_doubtful_152 rfl ?_
                refine go_keep [0, 1, 2, 3, 4, 5, 6] rfl ?_
                by_cases zz : T = -7 ∧ 2 ≤ T
                · exfalso; omega
                · refine fin _ over (by omega) ?_ ?_
                  · rw [eover]
                    first
                      | (rw [bv_or0]; exact b01_c ⟨fun w => hps.mpr (Or.inl w), fun w => (hps.mp w).elim id (fun y => absurd (hgt.mpr y) (by assumption))⟩)
                      | (rw [bv_or1, b01_t (hps.mpr (Or.inr (hgt.mp (by assumption))))])
                  · intro _ w
                    first
                      | exact absurd (by assumption) w
                      | (rw [if_neg (by omega)])
                      | (rw [if_pos ⟨by omega, by omega⟩, hdc, if_pos (by omega)])
                      | (rw [if_pos ⟨by omega, by omega⟩, hdc, if_neg (by omega), if_pos (by omega)])
                      | (rw [if_pos ⟨by omega, by omega⟩, hdc, if_neg (by omega), if_neg (by omega)]; omega)
        · obtain ⟨hF3, hfo3⟩ := hI3
          refine go_iload dx_X12_doubtful_58 rfl ?_
          refine go_bipush dx_X12_doubtful_60 rfl ?_
          refine go_icmp_ge (tgt := 155) dx_X12_doubtful_62 rfl (by omega) (by omega) (fun c62 => ?_) (fun c62 => by exact absurd c62 (by omega))
          refine go_iinc (lv' := [(0, vv_A 94), (1, vv_I q), (2, vv_I F), (3, vv_I (b01 (dbp S.1 ((s * 16 + i) * 8 + 8)))), (4, vv_I (s : Int)), (5, vv_I ((i : Int) + 1)), (6, vv_I ((8 : Nat) : Int))]) dx_X12_doubtful_155 rfl (by decide) rfl ?_
          refine go_goto (tgt := 43) dx_X12_doubtful_158 rfl ?_
          refine go_keep [0, 1, 2, 3, 4, 5] rfl ?_
          rw [show (s * 16 + i) * 8 + 8 = (s * 16 + (i + 1)) * 8 by omega] at hfo3 ⊢
          exact ih2 F ⟨hF3, hfo3⟩
      · obtain ⟨hF2, hfo2⟩ := hI2
        obtain ⟨d1, d2⟩ := db_same (K := S.1) (c := (s * 16 + (S.1.2.2.length + 1 - s)) * 8) (c' := (s + 1) * 128) (by omega) (fun s' i' x' a b c e => by omega)
        refine go_iload dx_X12_doubtful_43 rfl ?_
        refine go_iload dx_X12_doubtful_45 rfl ?_
        refine go_iadd dx_X12_doubtful_47 ?_
        refine go_aload_n (i := 0) dx_X12_doubtful_48 rfl rfl ?_
        refine go_cV0 sv_X12_253 (go_ok rfl rfl) dx_X12_doubtful_49 (Nat.le_of_ble_eq_true rfl) (Nat.le_of_ble_eq_true rfl) (m_letters hb3 ?_)
        refine go_icmp_gt (tgt := 161) dx_X12_doubtful_52 rfl (by omega) (by omega) (fun c52 => ?_) (fun c52 => by exact absurd c52 (by omega))
        refine go_iinc (lv' := [(0, vv_A 94), (1, vv_I q), (2, vv_I F), (3, vv_I (b01 (dbp S.1 ((s * 16 + (S.1.2.2.length + 1 - s)) * 8)))), (4, vv_I ((s : Int) + 1)), (5, vv_I ((S.1.2.2.length + 1 - s : Nat) : Int))]) dx_X12_doubtful_161 rfl (by decide) rfl ?_
        refine go_goto (tgt := 31) dx_X12_doubtful_164 rfl ?_
        refine go_keep [0, 1, 2, 3, 4] rfl ?_
        rw [b01_c d2]
        exact ih F ⟨by omega, hF2, fun w => by rw [hfo2 (fun y => w (d2.mp y)), li_congr d1]⟩
    · obtain ⟨s1, hF, hfo⟩ := hI
      have e1 : dbp S.1 ((S.1.2.2.length + 1) * 128) ↔ dbo S.1 := ⟨fun ⟨s, i, x, e, a⟩ => ⟨s, i, x, a⟩, fun ⟨s, i, x, a, b, c⟩ => ⟨s, i, x, by have := c.1; omega, a, b, c⟩⟩
      have e2 : ∀ k, dbq S.1 ((S.1.2.2.length + 1) * 128) k ↔ dbk S.1 k := fun k => ⟨fun w => w.1, fun w => ⟨w, by obtain ⟨s, i, x, e, a, b, c, _⟩ := w; omega⟩⟩
      refine go_iload dx_X12_doubtful_31 rfl ?_
      refine go_aload_n (i := 0) dx_X12_doubtful_33 rfl rfl ?_
      refine go_cV0 sv_X12_253 (go_ok rfl rfl) dx_X12_doubtful_34 (Nat.le_of_ble_eq_true rfl) (Nat.le_of_ble_eq_true rfl) (m_letters hb3 ?_)
      refine go_icmp_gt (tgt := 167) dx_X12_doubtful_37 rfl (by omega) (by omega) (fun c37 => ?_) (fun c37 => by exact absurd c37 (by omega))
      refine go_iload_n (i := 3) dx_X12_doubtful_167 rfl rfl ?_
      refine go_b_eq (tgt := 176) dx_X12_doubtful_168 rfl (fun c168 => ?_) (fun c168 => ?_)
      · refine go_iload_n (i := 2) dx_X12_doubtful_176 rfl rfl ?_
        refine go_ireturn dx_X12_doubtful_177 rfl (Nat.le_refl _) (Nat.le_refl _) ?_
        first | (rw [cif_t (e1.mp c168)] at hQ; exact hQ) | (rw [cif_f (fun w => c168 (e1.mpr w)), ← li_congr e2, ← hfo c168] at hQ; exact hQ)
      · refine go_bipush dx_X12_doubtful_171 rfl ?_
        refine go_goto (tgt := 177) dx_X12_doubtful_173 rfl ?_
        refine go_ireturn dx_X12_doubtful_177 rfl (Nat.le_refl _) (Nat.le_refl _) ?_
        first | (rw [cif_t (e1.mp c168)] at hQ; exact hQ) | (rw [cif_f (fun w => c168 (e1.mpr w)), ← li_congr e2, ← hfo c168] at hQ; exact hQ)
  · refine go_if_ne (tgt := 20) dx_X12_doubtful_14 rfl (by omega) (fun c14 => absurd c14 (by decide)) (fun c14 => ?_)
    refine go_bipush dx_X12_doubtful_17 rfl ?_
    refine go_ireturn dx_X12_doubtful_19 rfl (Nat.le_refl _) (Nat.le_refl _) ?_
    have hQ := hQ δ0 h fl_rf
    rw [if_pos p1] at hQ
    exact hQ
end GMTS
