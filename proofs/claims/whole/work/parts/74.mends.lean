/-! the reference: cuts by a number, the number split -/
noncomputable def cK (K : sK) (ps : List Nat) (i j num k : Nat) : Nat × Nat × Nat := ck K.1 (plw K.2.2) ps i j num k
def en_at (δ : Nat → Nat → Int) (K : sK) (ps : List Nat) (i j num m : Nat) : Prop := ∀ k, k ≤ m → δ 121 k = ((cK K ps i j num k).1 : Int)
section GMEN
variable {E : go_E} {d : Nat} {δ : Nat → Nat → Int} {Q : List go_V → go_F → (Nat → Nat → Int) → Prop} {K : sK} {S : sS}
theorem ck_sum {ps : List Nat} {i j num k : Nat} (hk : k < ps.length) : su (j + 1) (ckf K.1 (plw K.2.2) ps j (cK K ps i j num k).1 (cK K ps i j num k).2.1 k) = (cK K ps i j num k).2.1 * fK K (ps.drop k) (cK K ps i j num k).1 j := by
  rw [fK_cons hk, ← su_mul]
  refine su_congr (fun e _ => ?_)
  unfold ckf
  by_cases q : (cK K ps i j num k).1 < e
  · rw [nif_t q, nif_t q]; rfl
  · rw [nif_f q, nif_f q, Nat.mul_zero]
theorem m_laysEnds {r i j num : Nat} (h : mb_at δ K) (hr : r < 16) (hl2 : 2 ≤ (K.1 r).length) (hij : i < j) (hj : j ≤ K.2.2.length) (hn : num ≤ 2147483647) (hnum : δ 94 37 = (num : Int)) (hlt : (K.1 r).length = 2 ∨ num < fK K ((K.1 r).drop 1) i j)
    (hQ : ∀ δ', ((K.1 r).length = 2 → δ' 121 0 = (i : Int) ∧ δ' 121 1 = (j : Int) ∧ δ' 94 37 = (num : Int)) → ((K.1 r).length ≠ 2 → en_at δ' K ((K.1 r).drop 1) i j num ((K.1 r).length - 1) ∧ δ' 94 37 = ((lef K.1 (plw K.2.2) ((K.1 r).drop 1) i j num 0 : Nat) : Int)) → (∀ c q, c ≠ 112 → c ≠ 121 → (c = 94 → q ≠ 37) → δ' c q = δ c q) → Q [] go_φ δ') :
    Go E (d + 3) (0, 0) mx_X12_laysEnds go_φ 0 [(0, vv_A 94), (1, vv_I (r : Int)), (2, vv_I (i : Int)), (3, vv_I (j : Int))] [] δ Q := by
  have hR := h.1.1
  have h5 := h.2.2.2.2
  have h14 := h5.2.2.2.2.1
  have hlet := h5.2.2.2.2.2
  have l112 : go_ln 112 = 96 := rfl
  have l121 : go_ln 121 = 6 := rfl
  have hlen := (hR r).len
  obtain ⟨ps, hps⟩ : ∃ ps, ps = (K.1 r).drop 1 := ⟨_, rfl⟩
  have hpl : ps.length = (K.1 r).length - 1 := by rw [hps, List.length_drop]
  have hpg : ∀ k, ps.getD k 0 = (K.1 r).getD (k + 1) 0 := fun k => by rw [hps, List.getD_eq_getElem?_getD, List.getD_eq_getElem?_getD, List.getElem?_drop, Nat.add_comm]
  have hp14 : ∀ k, k < ps.length → ps.getD k 0 < 14 := fun k hk => by rw [hpg]; exact rl_getD_lt (hR r) (by omega)
  rw [← hps] at hlt hQ
  have ht : tr_at δ K (j - i) 15 := fun x a b e f g q => h.2.2.1 x a b e f g (by omega)
  by_cases e2 : (K.1 r).length = 2
  · refine go_aload_n (i := 0) dx_X12_laysEnds_0 rfl rfl ?_
    refine go_getA (b := 121) fs_X12_94 rfl (go_ok rfl rfl) rfl dx_X12_laysEnds_1 ?_
    refine go_iconst dx_X12_laysEnds_4 ?_
    refine go_iload_n (i := 2) dx_X12_laysEnds_5 rfl rfl ?_
    refine go_iastoreV (i := 0) dx_X12_laysEnds_6 (go_ok rfl rfl) (by omega) (show 0 < 6 by omega) ?_
    refine go_aload_n (i := 0) dx_X12_laysEnds_7 rfl rfl ?_
    refine go_getA (b := 121) fs_X12_94 rfl (go_ok rfl rfl) rfl dx_X12_laysEnds_8 ?_
    refine go_iconst dx_X12_laysEnds_11 ?_
    refine go_iload_n (i := 3) dx_X12_laysEnds_12 rfl rfl ?_
    refine go_iastoreV (i := 1) dx_X12_laysEnds_13 (go_ok rfl rfl) (by omega) (show 1 < 6 by omega) ?_
    refine go_aload_n (i := 0) dx_X12_laysEnds_14 rfl rfl ?_
    refine go_iload_n (i := 1) dx_X12_laysEnds_15 rfl rfl ?_
    refine go_cV1 sv_X12_148 (go_ok rfl rfl) dx_X12_laysEnds_16 (Nat.le_of_ble_eq_true rfl) (Nat.le_of_ble_eq_true rfl) (o_longOf (bo_fr h.1 (fun q _ => by rw [wr_n (by omega), wr_n (by omega)])) hr ?_)
    refine go_iconst dx_X12_laysEnds_19 ?_
    refine go_icmp_ne (tgt := 24) dx_X12_laysEnds_20 rfl (by omega) (by omega) (fun c20 => by exact absurd c20 (by omega)) (fun c20 => ?_)
    refine go_vreturn dx_X12_laysEnds_23 rfl (Nat.le_refl _) (Nat.le_refl _) ?_
    exact hQ _ (fun _ => ⟨by rw [wr_n (by omega), wr_eq], wr_eq _ _ _ _, by rw [wr_n (by omega), wr_n (by omega)]; exact hnum⟩) (fun q => absurd e2 q) (fun c q a b _ => by rw [wr_n (by omega), wr_n (by omega)])
  · have hlt := hlt.resolve_left e2
    have cuts := lp_up (X := Nat → Nat → Int) (hi := ps.length) (I := fun k δ1 => en_at δ1 K ps i j num k ∧ δ1 94 37 = ((cK K ps i j num k).2.2 : Int) ∧ fi_at δ1 K ps i j 0 (j + 1) ∧ (∀ c q, c ≠ 112 → c ≠ 121 → (c = 94 → q ≠ 37) → δ1 c q = δ c q))
      (G := fun k δ1 => ∀ lv0, lv0 = [(0, vv_A 94), (1, vv_I (r : Int)), (2, vv_I (i : Int)), (3, vv_I (j : Int)), (4, vv_L (st (cK K ps i j num k).2.1)), (6, vv_I (k : Int))] → Go E (d + 3) (0, 0) mx_X12_laysEnds go_φ 37 lv0 [] δ1 Q)
      (fun k δ1 hk hI ih lv0 e0 => by
        subst e0
        obtain ⟨i1, i2, i3, i4⟩ := hI
        have hm1 : mb_at δ1 K := mb_fr h (fun c q hc => i4 c q (by omega) (by omega) (by omega))
        obtain ⟨v1, v2, v3, v4⟩ := ck_inv (R := K.1) (pl := plw K.2.2) (by omega) hlt k (by omega)
        obtain ⟨w1, w2, w3, w4⟩ := ck_inv (R := K.1) (pl := plw K.2.2) (by omega) hlt (k + 1) (by omega)
        have hcl := ck_lt (R := K.1) (pl := plw K.2.2) (by omega) hlt hk
        have hsum := ck_sum (K := K) (i := i) (j := j) (num := num) hk
        obtain ⟨a, ha⟩ : ∃ a, a = (cK K ps i j num k).1 := ⟨_, rfl⟩
        obtain ⟨ah, hah⟩ : ∃ a, a = (cK K ps i j num k).2.1 := ⟨_, rfl⟩
        obtain ⟨nu, hnu⟩ : ∃ a, a = (cK K ps i j num k).2.2 := ⟨_, rfl⟩
        obtain ⟨f, hf⟩ : ∃ f, f = ckf K.1 (plw K.2.2) ps j (cK K ps i j num k).1 (cK K ps i j num k).2.1 k := ⟨_, rfl⟩
        have hff : ∀ e, a < e → f e = ah * (pK K (ps.getD k 0) a e * fK K (ps.drop (k + 1)) e j) := fun e he => by
          rw [ha] at he
          rw [hf, ha, hah]
          exact nif_t he
        have hf0 : su (a + 1) f = 0 := su_zero (fun e he => by rw [hf]; exact nif_f (by rw [ha] at he; omega))
        have v1 : nu < ah * fK K (ps.drop k) a j := by rw [hnu, hah, ha]; exact v1
        rw [← hf, ← hah, ← ha] at hsum
        rw [← hsum] at v1
        have hnx : (cK K ps i j num (k + 1)).1 = pickr f nu := by rw [hf, hnu]; rfl
        have hna : (cK K ps i j num (k + 1)).2.1 = ah * pK K (ps.getD k 0) a (cK K ps i j num (k + 1)).1 := by rw [hah, ha]; rfl
        have hnn : (cK K ps i j num (k + 1)).2.2 = nu - su (pickr f nu) f := by rw [hf, hnu]; rfl
        have v2 : i + k ≤ a := by rw [ha]; exact v2
        have v3 : a ≤ j := by rw [ha]; exact v3
        have v4 : nu ≤ num := by rw [hnu]; exact v4
        have hea : δ1 121 k = (a : Int) := by rw [ha]; exact i1 k (Nat.le_refl _)
        have ih2 : ∀ δ2, en_at δ2 K ps i j num (k + 1) → δ2 94 37 = ((cK K ps i j num (k + 1)).2.2 : Int) → fi_at δ2 K ps i j 0 (j + 1) → (∀ c q, c ≠ 112 → c ≠ 121 → (c = 94 → q ≠ 37) → δ2 c q = δ c q) → Go E (d + 3) (0, 0) mx_X12_laysEnds go_φ 37 [(0, vv_A 94), (1, vv_I (r : Int)), (2, vv_I (i : Int)), (3, vv_I (j : Int)), (4, vv_L (st (cK K ps i j num (k + 1)).2.1)), (6, vv_I ((k + 1 : Nat) : Int))] [] δ2 Q := fun δ2 a b c e => ih δ2 ⟨a, b, c, e⟩ _ rfl
        rw [hna] at ih2
        rw [← hah]
        rw [← hnu] at i2
        have find := lp_up (X := Nat → Nat → Int) (hi := j + 1) (I := fun e δ2 => a < e ∧ su e f ≤ nu ∧ δ2 94 37 = ((nu - su e f : Nat) : Int) ∧ (∀ c q, (c = 94 → q ≠ 37) → δ2 c q = δ1 c q))
          (G := fun e δ2 => ∀ lv0, lv0 = [(0, vv_A 94), (1, vv_I (r : Int)), (2, vv_I (i : Int)), (3, vv_I (j : Int)), (4, vv_L (st ah)), (6, vv_I (k : Int)), (7, vv_I (e : Int)), (8, vv_L (st (f e)))] → e ≤ j → Go E (d + 3) (0, 0) mx_X12_laysEnds go_φ 103 lv0 [] δ2 Q)
          (fun e δ2 he hI2 ih3 lv0 e0 hej => by
            subst e0
            obtain ⟨j0, j1, j2, j3⟩ := hI2
            have hm2 : mb_at δ2 K := mb_fr hm1 (fun c q hc => j3 c q (by omega))
            have ht2 : tr_at δ2 K (j - i) 15 := fun x a b e f g q => hm2.2.2.1 x a b e f g (by omega)
            have hea2 : δ2 121 k = (a : Int) := by rw [j3 _ _ (by omega)]; exact hea
            refine go_aload_n (i := 0) dx_X12_laysEnds_103 rfl rfl ?_
            refine go_getL fs_X12_328 rfl (go_ok rfl rfl) dx_X12_laysEnds_104 ?_
            refine go_asL (y := ((nu - su e f : Nat) : Int)) (by exact j2) ?_
            refine go_lload dx_X12_laysEnds_107 rfl ?_
            refine go_cS2 ss_X12_332 dx_X12_laysEnds_109 (Nat.le_of_ble_eq_true rfl) (Nat.le_of_ble_eq_true rfl) (m_isPast (by omega) ?_)
            refine go_b_eq (tgt := 177) dx_X12_laysEnds_112 rfl (fun c112 => ?_) (fun c112 => ?_)
            · have he2 : pickr f nu = e := pickr_eq j1 (by rw [su_s]; omega)
              rw [he2] at hnx hnn
              rw [hnx] at ih2
              refine go_aload_n (i := 0) dx_X12_laysEnds_177 rfl rfl ?_
              refine go_getA (b := 121) fs_X12_94 rfl (go_ok rfl rfl) rfl dx_X12_laysEnds_178 ?_
              refine go_iload dx_X12_laysEnds_181 rfl ?_
              refine go_iconst dx_X12_laysEnds_183 ?_
              refine go_iadd dx_X12_laysEnds_184 ?_
              refine go_iload dx_X12_laysEnds_185 rfl ?_
              refine go_iastoreV (i := k + 1) dx_X12_laysEnds_187 (go_ok rfl rfl) (by omega) (show k + 1 < 6 by omega) ?_
              refine go_lload dx_X12_laysEnds_188 rfl ?_
              refine go_aload_n (i := 0) dx_X12_laysEnds_190 rfl rfl ?_
              refine go_aload_n (i := 0) dx_X12_laysEnds_191 rfl rfl ?_
              refine go_iload_n (i := 1) dx_X12_laysEnds_192 rfl rfl ?_
              refine go_iload dx_X12_laysEnds_193 rfl ?_
              refine go_cV2 sv_X12_190 (go_ok rfl rfl) dx_X12_laysEnds_195 (Nat.le_of_ble_eq_true rfl) (Nat.le_of_ble_eq_true rfl) (o_partOf (bo_fr hm2.1 (fun q _ => wr_n (by omega))) hr (by omega) ?_)
              refine go_asI (y := ((ps.getD k 0 : Nat) : Int)) (by rw [hpg]) ?_
              refine go_aload_n (i := 0) dx_X12_laysEnds_198 rfl rfl ?_
              refine go_getA (b := 121) fs_X12_94 rfl (go_ok rfl rfl) rfl dx_X12_laysEnds_199 ?_
              refine go_iload dx_X12_laysEnds_202 rfl ?_
              refine go_ialoadV (i := k) (v := ((a : Int))) dx_X12_laysEnds_204 (go_ok rfl rfl) (by omega) (show k < 6 by omega) (by rw [wr_n (by omega)]; exact hea2) ?_
              refine go_iload dx_X12_laysEnds_205 rfl ?_
              refine go_cV3 sv_X12_303 (go_ok rfl rfl) dx_X12_laysEnds_207 (Nat.le_of_ble_eq_true rfl) (Nat.le_of_ble_eq_true rfl) (m_partWays (K := K) (s := 15) (m := 0) hlet (mw_fr hm2.2.1 (fun q => wr_n (by omega))) (fun x a b e f g q => by rw [wr_n (by omega)]; exact hm2.2.2.1 x a b e f g q) h14 (hp14 k hk) (by omega) (by omega) (by omega) ?_)
              refine go_cS2 ss_X12_297 dx_X12_laysEnds_210 (Nat.le_of_ble_eq_true rfl) (Nat.le_of_ble_eq_true rfl) (m_times ?_)
              refine go_lstore (lv' := [(0, vv_A 94), (1, vv_I (r : Int)), (2, vv_I (i : Int)), (3, vv_I (j : Int)), (4, vv_L (st (ah * pK K (ps.getD k 0) a e))), (6, vv_I (k : Int)), (7, vv_I (e : Int)), (8, vv_L (st (f e)))]) dx_X12_laysEnds_213 (by decide) rfl ?_
              refine go_iinc (lv' := [(0, vv_A 94), (1, vv_I (r : Int)), (2, vv_I (i : Int)), (3, vv_I (j : Int)), (4, vv_L (st (ah * pK K (ps.getD k 0) a e))), (6, vv_I ((k : Int) + 1)), (7, vv_I (e : Int)), (8, vv_L (st (f e)))]) dx_X12_laysEnds_215 rfl (by decide) rfl ?_
              refine go_goto (tgt := 37) dx_X12_laysEnds_218 rfl ?_
              refine go_keep [0, 1, 2, 3, 4, 5] rfl ?_
              refine ih2 _ (fun t ht' => ?_) (by rw [wr_n (by omega), j2, hnn]) (fun k' p a b c e => by rw [wr_n (by omega), j3 _ _ (by omega)]; exact i3 k' p a b c e) (fun c q a b e => by rw [wr_n (by omega), j3 c q e]; exact i4 c q a b e)
              by_cases z : t = k + 1
              · rw [z, wr_eq, hnx]
              · rw [wr_n (by omega), j3 _ _ (by omega)]; exact i1 t (by omega)
            · have hM := MX_eq
              have hfe : st (f e) = (f e : Int) := st_le (by omega)
              have hlt2 : e < j := Nat.lt_of_le_of_ne hej (fun q => by subst q; rw [su_s] at v1; omega)
              have hfe1 := hff (e + 1) (by omega)
              refine go_aload_n (i := 0) dx_X12_laysEnds_115 rfl rfl ?_
              refine go_dup dx_X12_laysEnds_116 rfl ?_
              refine go_getL fs_X12_328 rfl (go_ok rfl rfl) dx_X12_laysEnds_117 ?_
              refine go_asL (y := ((nu - su e f : Nat) : Int)) (by exact j2) ?_
              refine go_lload dx_X12_laysEnds_120 rfl ?_
              refine go_lsub dx_X12_laysEnds_122 ?_
              refine go_asL (y := ((nu - su (e + 1) f : Nat) : Int)) (by rw [hfe, su_s]; omega) ?_
              refine go_putL fp_X12_328 rfl rfl (go_ok rfl rfl) dx_X12_laysEnds_123 ?_
              refine go_iinc (lv' := [(0, vv_A 94), (1, vv_I (r : Int)), (2, vv_I (i : Int)), (3, vv_I (j : Int)), (4, vv_L (st ah)), (6, vv_I (k : Int)), (7, vv_I ((e : Int) + 1)), (8, vv_L (st (f e)))]) dx_X12_laysEnds_126 rfl (by decide) rfl ?_
              refine go_lload dx_X12_laysEnds_129 rfl ?_
              refine go_aload_n (i := 0) dx_X12_laysEnds_131 rfl rfl ?_
              refine go_aload_n (i := 0) dx_X12_laysEnds_132 rfl rfl ?_
              refine go_iload_n (i := 1) dx_X12_laysEnds_133 rfl rfl ?_
              refine go_iload dx_X12_laysEnds_134 rfl ?_
              refine go_cV2 sv_X12_190 (go_ok rfl rfl) dx_X12_laysEnds_136 (Nat.le_of_ble_eq_true rfl) (Nat.le_of_ble_eq_true rfl) (o_partOf (bo_fr hm2.1 (fun q _ => wr_n (by omega))) hr (by omega) ?_)
              refine go_asI (y := ((ps.getD k 0 : Nat) : Int)) (by rw [hpg]) ?_
              refine go_aload_n (i := 0) dx_X12_laysEnds_139 rfl rfl ?_
              refine go_getA (b := 121) fs_X12_94 rfl (go_ok rfl rfl) rfl dx_X12_laysEnds_140 ?_
              refine go_iload dx_X12_laysEnds_143 rfl ?_
              refine go_ialoadV (i := k) (v := ((a : Int))) dx_X12_laysEnds_145 (go_ok rfl rfl) (by omega) (show k < 6 by omega) (by rw [wr_n (by omega)]; exact hea2) ?_
              refine go_iload dx_X12_laysEnds_146 rfl ?_
              refine go_cV3 sv_X12_303 (go_ok rfl rfl) dx_X12_laysEnds_148 (Nat.le_of_ble_eq_true rfl) (Nat.le_of_ble_eq_true rfl) (m_partWays (K := K) (a := a) (b := e + 1) (s := 15) (m := 0) hlet (mw_fr hm2.2.1 (fun q => wr_n (by omega))) (fun x a b e f g q => by rw [wr_n (by omega)]; exact hm2.2.2.1 x a b e f g q) h14 (hp14 k hk) (by omega) (by omega) (by omega) ?_)
              refine go_aload_n (i := 0) dx_X12_laysEnds_151 rfl rfl ?_
              refine go_getA (b := 112) fs_X12_67 rfl (go_ok rfl rfl) rfl dx_X12_laysEnds_152 ?_
              refine go_bipush dx_X12_laysEnds_155 rfl ?_
              refine go_iload dx_X12_laysEnds_157 rfl ?_
              refine go_iconst dx_X12_laysEnds_159 ?_
              refine go_iadd dx_X12_laysEnds_160 ?_
              refine go_imul dx_X12_laysEnds_161 ?_
              refine go_iload dx_X12_laysEnds_162 rfl ?_
              refine go_iadd dx_X12_laysEnds_164 ?_
              refine go_laloadV (i := (16 * (k + 1) + (e + 1))) (v := ((st (fK K (ps.drop (k + 1)) (e + 1) j)))) dx_X12_laysEnds_165 (go_ok rfl rfl) (by omega) (show (16 * (k + 1) + (e + 1)) < 96 by omega) (by rw [wr_n (by omega), j3 _ _ (by omega)]; exact i3 (k + 1) (e + 1) (by omega) (by omega) (by omega) (by omega) (by omega)) ?_
              refine go_cS2 ss_X12_297 dx_X12_laysEnds_166 (Nat.le_of_ble_eq_true rfl) (Nat.le_of_ble_eq_true rfl) (m_times ?_)
              refine go_cS2 ss_X12_297 dx_X12_laysEnds_169 (Nat.le_of_ble_eq_true rfl) (Nat.le_of_ble_eq_true rfl) (m_times ?_)
              refine go_asL (y := (st (f (e + 1)))) (by rw [hfe1]) ?_
              refine go_lstore (lv' := [(0, vv_A 94), (1, vv_I (r : Int)), (2, vv_I (i : Int)), (3, vv_I (j : Int)), (4, vv_L (st ah)), (6, vv_I (k : Int)), (7, vv_I ((e : Int) + 1)), (8, vv_L (st (f (e + 1))))]) dx_X12_laysEnds_172 (by decide) rfl ?_
              refine go_goto (tgt := 103) dx_X12_laysEnds_174 rfl ?_
              exact ih3 _ ⟨by omega, by rw [su_s]; omega, wr_eq _ _ _ _, fun c q hc => by rw [wr_n (by omega)]; exact j3 c q hc⟩ _ rfl (by omega)
          ) (fun δ2 hI2 lv0 e0 hej => absurd hej (by omega))
        refine go_iload dx_X12_laysEnds_37 rfl ?_
        refine go_aload_n (i := 0) dx_X12_laysEnds_39 rfl rfl ?_
        refine go_iload_n (i := 1) dx_X12_laysEnds_40 rfl rfl ?_
        refine go_cV1 sv_X12_148 (go_ok rfl rfl) dx_X12_laysEnds_41 (Nat.le_of_ble_eq_true rfl) (Nat.le_of_ble_eq_true rfl) (o_longOf hm1.1 hr ?_)
        refine go_icmp_ge (tgt := 221) dx_X12_laysEnds_44 rfl (by omega) (by omega) (fun c44 => by exact absurd c44 (by omega)) (fun c44 => ?_)
        refine go_aload_n (i := 0) dx_X12_laysEnds_47 rfl rfl ?_
        refine go_getA (b := 121) fs_X12_94 rfl (go_ok rfl rfl) rfl dx_X12_laysEnds_48 ?_
        refine go_iload dx_X12_laysEnds_51 rfl ?_
        refine go_ialoadV (i := k) (v := ((a : Int))) dx_X12_laysEnds_53 (go_ok rfl rfl) (by omega) (show k < 6 by omega) (by exact hea) ?_
        refine go_iconst dx_X12_laysEnds_54 ?_
        refine go_iadd dx_X12_laysEnds_55 ?_
        refine go_asI (y := ((a + 1 : Nat) : Int)) (by rfl) ?_
        refine go_istore (lv' := [(0, vv_A 94), (1, vv_I (r : Int)), (2, vv_I (i : Int)), (3, vv_I (j : Int)), (4, vv_L (st ah)), (6, vv_I (k : Int)), (7, vv_I ((a + 1 : Nat) : Int))]) dx_X12_laysEnds_56 (by decide) rfl ?_
        refine go_lload dx_X12_laysEnds_58 rfl ?_
        refine go_aload_n (i := 0) dx_X12_laysEnds_60 rfl rfl ?_
        refine go_aload_n (i := 0) dx_X12_laysEnds_61 rfl rfl ?_
        refine go_iload_n (i := 1) dx_X12_laysEnds_62 rfl rfl ?_
        refine go_iload dx_X12_laysEnds_63 rfl ?_
        refine go_cV2 sv_X12_190 (go_ok rfl rfl) dx_X12_laysEnds_65 (Nat.le_of_ble_eq_true rfl) (Nat.le_of_ble_eq_true rfl) (o_partOf hm1.1 hr (by omega) ?_)
        refine go_asI (y := ((ps.getD k 0 : Nat) : Int)) (by rw [hpg]) ?_
        refine go_aload_n (i := 0) dx_X12_laysEnds_68 rfl rfl ?_
        refine go_getA (b := 121) fs_X12_94 rfl (go_ok rfl rfl) rfl dx_X12_laysEnds_69 ?_
        refine go_iload dx_X12_laysEnds_72 rfl ?_
        refine go_ialoadV (i := k) (v := ((a : Int))) dx_X12_laysEnds_74 (go_ok rfl rfl) (by omega) (show k < 6 by omega) (by exact hea) ?_
        refine go_iload dx_X12_laysEnds_75 rfl ?_
        refine go_cV3 sv_X12_303 (go_ok rfl rfl) dx_X12_laysEnds_77 (Nat.le_of_ble_eq_true rfl) (Nat.le_of_ble_eq_true rfl) (m_partWays (K := K) (s := 15) (m := 0) hlet hm1.2.1 hm1.2.2.1 h14 (hp14 k hk) (by omega) (by rw [ha]; exact Nat.le_trans (Nat.lt_of_lt_of_le hcl w3) hj) (by omega) ?_)
        refine go_aload_n (i := 0) dx_X12_laysEnds_80 rfl rfl ?_
        refine go_getA (b := 112) fs_X12_67 rfl (go_ok rfl rfl) rfl dx_X12_laysEnds_81 ?_
        refine go_bipush dx_X12_laysEnds_84 rfl ?_
        refine go_iload dx_X12_laysEnds_86 rfl ?_
        refine go_iconst dx_X12_laysEnds_88 ?_
        refine go_iadd dx_X12_laysEnds_89 ?_
        refine go_imul dx_X12_laysEnds_90 ?_
        refine go_iload dx_X12_laysEnds_91 rfl ?_
        refine go_iadd dx_X12_laysEnds_93 ?_
        refine go_laloadV (i := (16 * (k + 1) + (a + 1))) (v := ((st (fK K (ps.drop (k + 1)) (a + 1) j)))) dx_X12_laysEnds_94 (go_ok rfl rfl) (by omega) (show (16 * (k + 1) + (a + 1)) < 96 by omega) (by exact i3 (k + 1) (a + 1) (by omega) (by omega) (by rw [ha]; exact Nat.lt_of_lt_of_le hcl w3) (by omega) (by omega)) ?_
        refine go_cS2 ss_X12_297 dx_X12_laysEnds_95 (Nat.le_of_ble_eq_true rfl) (Nat.le_of_ble_eq_true rfl) (m_times ?_)
        refine go_cS2 ss_X12_297 dx_X12_laysEnds_98 (Nat.le_of_ble_eq_true rfl) (Nat.le_of_ble_eq_true rfl) (m_times ?_)
        refine go_asL (y := (st (f (a + 1)))) (by rw [hff (a + 1) (by omega)]) ?_
        refine go_lstore (lv' := [(0, vv_A 94), (1, vv_I (r : Int)), (2, vv_I (i : Int)), (3, vv_I (j : Int)), (4, vv_L (st ah)), (6, vv_I (k : Int)), (7, vv_I ((a + 1 : Nat) : Int)), (8, vv_L (st (f (a + 1))))]) dx_X12_laysEnds_101 (by decide) rfl ?_
        have haj : a + 1 ≤ j := by rw [ha]; exact Nat.lt_of_lt_of_le hcl w3
        exact find (a + 1) δ1 (by omega) ⟨by omega, by rw [hf0]; omega, by rw [hf0, Nat.sub_zero]; exact i2, fun _ _ _ => rfl⟩ _ rfl haj
      ) (fun δ1 hI lv0 e0 => by
        subst e0
        obtain ⟨i1, i2, i3, i4⟩ := hI
        have hm1 : mb_at δ1 K := mb_fr h (fun c q hc => i4 c q (by omega) (by omega) (by omega))
        refine go_iload dx_X12_laysEnds_37 rfl ?_
        refine go_aload_n (i := 0) dx_X12_laysEnds_39 rfl rfl ?_
        refine go_iload_n (i := 1) dx_X12_laysEnds_40 rfl rfl ?_
        refine go_cV1 sv_X12_148 (go_ok rfl rfl) dx_X12_laysEnds_41 (Nat.le_of_ble_eq_true rfl) (Nat.le_of_ble_eq_true rfl) (o_longOf hm1.1 hr ?_)
        refine go_icmp_ge (tgt := 221) dx_X12_laysEnds_44 rfl (by omega) (by omega) (fun c44 => ?_) (fun c44 => by exact absurd c44 (by omega))
        refine go_vreturn dx_X12_laysEnds_221 rfl (Nat.le_refl _) (Nat.le_refl _) ?_
        exact hQ δ1 (fun q => absurd q e2) (fun _ => ⟨by rw [← hpl]; exact i1, i2⟩) i4
      )
    refine go_aload_n (i := 0) dx_X12_laysEnds_0 rfl rfl ?_
    refine go_getA (b := 121) fs_X12_94 rfl (go_ok rfl rfl) rfl dx_X12_laysEnds_1 ?_
    refine go_iconst dx_X12_laysEnds_4 ?_
    refine go_iload_n (i := 2) dx_X12_laysEnds_5 rfl rfl ?_
    refine go_iastoreV (i := 0) dx_X12_laysEnds_6 (go_ok rfl rfl) (by omega) (show 0 < 6 by omega) ?_
    refine go_aload_n (i := 0) dx_X12_laysEnds_7 rfl rfl ?_
    refine go_getA (b := 121) fs_X12_94 rfl (go_ok rfl rfl) rfl dx_X12_laysEnds_8 ?_
    refine go_iconst dx_X12_laysEnds_11 ?_
    refine go_iload_n (i := 3) dx_X12_laysEnds_12 rfl rfl ?_
    refine go_iastoreV (i := 1) dx_X12_laysEnds_13 (go_ok rfl rfl) (by omega) (show 1 < 6 by omega) ?_
    refine go_aload_n (i := 0) dx_X12_laysEnds_14 rfl rfl ?_
    refine go_iload_n (i := 1) dx_X12_laysEnds_15 rfl rfl ?_
    refine go_cV1 sv_X12_148 (go_ok rfl rfl) dx_X12_laysEnds_16 (Nat.le_of_ble_eq_true rfl) (Nat.le_of_ble_eq_true rfl) (o_longOf (bo_fr h.1 (fun q _ => by rw [wr_n (by omega), wr_n (by omega)])) hr ?_)
    refine go_iconst dx_X12_laysEnds_19 ?_
    refine go_icmp_ne (tgt := 24) dx_X12_laysEnds_20 rfl (by omega) (by omega) (fun c20 => ?_) (fun c20 => by exact absurd c20 (by omega))
    refine go_aload_n (i := 0) dx_X12_laysEnds_24 rfl rfl ?_
    refine go_iload_n (i := 1) dx_X12_laysEnds_25 rfl rfl ?_
    refine go_iload_n (i := 2) dx_X12_laysEnds_26 rfl rfl ?_
    refine go_iload_n (i := 3) dx_X12_laysEnds_27 rfl rfl ?_
    refine go_cV3 sv_X12_307 (go_ok rfl rfl) dx_X12_laysEnds_28 (Nat.le_of_ble_eq_true rfl) (Nat.le_of_ble_eq_true rfl) (m_laysFit (K := K) (m := 15) hlet (bo_fr h.1 (fun q _ => by rw [wr_n (by omega), wr_n (by omega)])) (mw_fr h.2.1 (fun q => by rw [wr_n (by omega), wr_n (by omega)])) (fun x a b e f g q => by rw [wr_n (by omega), wr_n (by omega)]; exact ht x a b e f g q) h14 hr hl2 (fun q => absurd q e2) hij hj (fun δ1 p1 p2 => ?_))
    refine go_lconst (x := 1) dx_X12_laysEnds_31 rfl ?_
    refine go_lstore (lv' := [(0, vv_A 94), (1, vv_I (r : Int)), (2, vv_I (i : Int)), (3, vv_I (j : Int)), (4, vv_L 1)]) dx_X12_laysEnds_32 (by decide) rfl ?_
    refine go_iconst dx_X12_laysEnds_34 ?_
    refine go_istore (lv' := [(0, vv_A 94), (1, vv_I (r : Int)), (2, vv_I (i : Int)), (3, vv_I (j : Int)), (4, vv_L 1), (6, vv_I 0)]) dx_X12_laysEnds_35 (by decide) rfl ?_
    rw [← hps] at p1
    have k0 := cuts 0 δ1 (Nat.zero_le _) ⟨fun t ht' => ?_, by rw [p2 _ _ (by decide), wr_n (by omega), wr_n (by omega)]; exact hnum, p1, fun c q a b e => by rw [p2 _ _ a, wr_n (by omega), wr_n (by omega)]⟩ _ rfl
    · rw [show (cK K ps i j num 0).2.1 = 1 from rfl, st_small (by decide)] at k0
      exact k0
    · have : t = 0 := by omega
      subst this
      rw [p2 _ _ (by decide), wr_n (by omega), wr_eq]
      rfl
theorem m_splits {r i j num : Nat} (h : mb_at δ K) (hr : r < 16) (hl2 : 2 ≤ (K.1 r).length) (hij : i < j) (hj : j ≤ K.2.2.length) (hn : num ≤ 2147483647)
    (h2 : (K.1 r).length = 2 → δ 94 37 = (num : Int)) (h3 : (K.1 r).length ≠ 2 → num < fK K ((K.1 r).drop 1) i j ∧ (num = 0 ∨ fK K ((K.1 r).drop 1) i j ≤ MX) ∧ en_at δ K ((K.1 r).drop 1) i j num ((K.1 r).length - 1) ∧ δ 94 37 = ((lef K.1 (plw K.2.2) ((K.1 r).drop 1) i j num 0 : Nat) : Int))
    (hQ : ∀ δ', ((K.1 r).length = 2 → δ' 122 0 = (num : Int)) → ((K.1 r).length ≠ 2 → ∀ k, k + 1 < (K.1 r).length → δ' 122 k = ((dgt K.1 (plw K.2.2) ((K.1 r).drop 1) i j num k : Nat) : Int)) → (∀ c q, c ≠ 122 → (c = 94 → q ≠ 37) → δ' c q = δ c q) → Q [] go_φ δ') :
    Go E (d + 1) (0, 0) mx_X12_splits go_φ 0 [(0, vv_A 94), (1, vv_I (r : Int))] [] δ Q := by
  have hR := h.1.1
  have h5 := h.2.2.2.2
  have h14 := h5.2.2.2.2.1
  have hlet := h5.2.2.2.2.2
  have l121 : go_ln 121 = 6 := rfl
  have l122 : go_ln 122 = 5 := rfl
  have hlen := (hR r).len
  have hM := MX_eq
  by_cases e2 : (K.1 r).length = 2
  · have hnum := h2 e2
    refine go_aload_n (i := 0) dx_X12_splits_0 rfl rfl ?_
    refine go_iload_n (i := 1) dx_X12_splits_1 rfl rfl ?_
    refine go_cV1 sv_X12_148 (go_ok rfl rfl) dx_X12_splits_2 (Nat.le_of_ble_eq_true rfl) (Nat.le_of_ble_eq_true rfl) (o_longOf h.1 hr ?_)
    refine go_iconst dx_X12_splits_5 ?_
    refine go_isub dx_X12_splits_6 ?_
    refine go_asI (y := ((0 : Nat) : Int)) (by omega) ?_
    refine go_istore_n (i := 2) (lv' := [(0, vv_A 94), (1, vv_I (r : Int)), (2, vv_I ((0 : Nat) : Int))]) dx_X12_splits_7 rfl (by decide) rfl ?_
    refine go_iload_n (i := 2) dx_X12_splits_8 rfl rfl ?_
    refine go_if_lt (tgt := 107) dx_X12_splits_9 rfl (by omega) (fun c9 => by exact absurd c9 (by omega)) (fun c9 => ?_)
    refine go_aload_n (i := 0) dx_X12_splits_12 rfl rfl ?_
    refine go_iload_n (i := 1) dx_X12_splits_13 rfl rfl ?_
    refine go_cV1 sv_X12_148 (go_ok rfl rfl) dx_X12_splits_14 (Nat.le_of_ble_eq_true rfl) (Nat.le_of_ble_eq_true rfl) (o_longOf h.1 hr ?_)
    refine go_iconst dx_X12_splits_17 ?_
    refine go_icmp_ne (tgt := 27) dx_X12_splits_18 rfl (by omega) (by omega) (fun c18 => by exact absurd (show (((K.1 r).length - 1 : Nat) : Int) = 1 by omega) c18) (fun c18 => ?_)
    refine go_ldc2 (x := (-7)) kx_X12_288 dx_X12_splits_21 ?_
    refine go_goto (tgt := 51) dx_X12_splits_24 rfl ?_
    refine go_lstore_n (i := 3) (lv' := [(0, vv_A 94), (1, vv_I (r : Int)), (2, vv_I ((0 : Nat) : Int)), (3, vv_L (-7))]) dx_X12_splits_51 rfl (by decide) rfl ?_
    refine go_aload_n (i := 0) dx_X12_splits_52 rfl rfl ?_
    refine go_getA (b := 122) fs_X12_97 rfl (go_ok rfl rfl) rfl dx_X12_splits_53 ?_
    refine go_iload_n (i := 2) dx_X12_splits_56 rfl rfl ?_
    refine go_lload_n (i := 3) dx_X12_splits_57 rfl rfl ?_
    refine go_ldc2 (x := (-7)) kx_X12_288 dx_X12_splits_58 ?_
    refine go_lcmp_ne (tgt := 72) dx_X12_splits_61 dx_X12_splits_62 rfl (by omega) (by omega) (fun c61 => by exact absurd rfl c61) (fun c61 => ?_)
    refine go_aload_n (i := 0) dx_X12_splits_65 rfl rfl ?_
    refine go_getL fs_X12_328 rfl (go_ok rfl rfl) dx_X12_splits_66 ?_
    refine go_asL (y := (num : Int)) (by exact hnum) ?_
    refine go_goto (tgt := 78) dx_X12_splits_69 rfl ?_
    refine go_lastoreV (i := 0) dx_X12_splits_78 (go_ok rfl rfl) (by omega) (show 0 < 5 by omega) ?_
    refine go_aload_n (i := 0) dx_X12_splits_79 rfl rfl ?_
    refine go_lload_n (i := 3) dx_X12_splits_80 rfl rfl ?_
    refine go_ldc2 (x := (-7)) kx_X12_288 dx_X12_splits_81 ?_
    refine go_lcmp_ne (tgt := 92) dx_X12_splits_84 dx_X12_splits_85 rfl (by omega) (by omega) (fun c84 => by exact absurd rfl c84) (fun c84 => ?_)
    refine go_lconst (x := 0) dx_X12_splits_88 rfl ?_
    refine go_goto (tgt := 98) dx_X12_splits_89 rfl ?_
    refine go_putL fp_X12_328 rfl rfl (go_ok rfl rfl) dx_X12_splits_98 ?_
    refine go_iinc (lv' := [(0, vv_A 94), (1, vv_I (r : Int)), (2, vv_I (((0 : Nat) : Int) + (-1))), (3, vv_L (-7))]) dx_X12_splits_101 rfl (by decide) rfl ?_
    refine go_goto (tgt := 8) dx_X12_splits_104 rfl ?_
    refine go_iload_n (i := 2) dx_X12_splits_8 rfl rfl ?_
    refine go_if_lt (tgt := 107) dx_X12_splits_9 rfl (by omega) (fun c9 => ?_) (fun c9 => by exact absurd c9 (by omega))
    refine go_vreturn dx_X12_splits_107 rfl (Nat.le_refl _) (Nat.le_refl _) ?_
    exact hQ _ (fun _ => by rw [wr_n (by omega), wr_eq]) (fun q => absurd e2 q) (fun c q a b => by rw [wr_n (by omega), wr_n (by omega)])
  · obtain ⟨g1, g2, g3, g4⟩ := h3 e2
    obtain ⟨ps, hps⟩ : ∃ ps, ps = (K.1 r).drop 1 := ⟨_, rfl⟩
    have hpl : ps.length = (K.1 r).length - 1 := by rw [hps, List.length_drop]
    have hpg : ∀ k, ps.getD k 0 = (K.1 r).getD (k + 1) 0 := fun k => by rw [hps, List.getD_eq_getElem?_getD, List.getD_eq_getElem?_getD, List.getElem?_drop, Nat.add_comm]
    have hp14 : ∀ k, k < ps.length → ps.getD k 0 < 14 := fun k hk => by rw [hpg]; exact rl_getD_lt (hR r) (by omega)
    rw [← hps] at g1 g2 g3 g4 hQ
    have loop := lp_dn (X := Nat → Nat → Int) (I := fun k δ1 => k ≤ ps.length ∧ δ1 94 37 = ((lef K.1 (plw K.2.2) ps i j num (ps.length - k) : Nat) : Int) ∧ (∀ t, k ≤ t → t < ps.length → δ1 122 t = ((dgt K.1 (plw K.2.2) ps i j num t : Nat) : Int)) ∧ (∀ c q, c ≠ 122 → (c = 94 → q ≠ 37) → δ1 c q = δ c q))
      (G := fun k δ1 => Go E (d + 1) (0, 0) mx_X12_splits go_φ 8 [(0, vv_A 94), (1, vv_I (r : Int)), (2, vv_I ((k : Int) - 1))] [] δ1 Q) (fun k δ1 hI ih => ?_) (fun δ1 hI => ?_)
    · refine go_aload_n (i := 0) dx_X12_splits_0 rfl rfl ?_
      refine go_iload_n (i := 1) dx_X12_splits_1 rfl rfl ?_
      refine go_cV1 sv_X12_148 (go_ok rfl rfl) dx_X12_splits_2 (Nat.le_of_ble_eq_true rfl) (Nat.le_of_ble_eq_true rfl) (o_longOf h.1 hr ?_)
      refine go_asI (y := (ps.length : Int)) (by rw [hpl]) ?_
      refine go_iconst dx_X12_splits_5 ?_
      refine go_isub dx_X12_splits_6 ?_
      refine go_istore_n (i := 2) (lv' := [(0, vv_A 94), (1, vv_I (r : Int)), (2, vv_I ((ps.length : Int) - 1))]) dx_X12_splits_7 rfl (by decide) rfl ?_
      exact loop ps.length δ ⟨Nat.le_refl _, by rw [Nat.sub_self]; exact g4, fun t a b => absurd b (by omega), fun _ _ _ _ => rfl⟩
    · obtain ⟨i0, i1, i2, i3⟩ := hI
      have ih2 : ∀ δ2, δ2 94 37 = ((lef K.1 (plw K.2.2) ps i j num (ps.length - k) : Nat) : Int) → (∀ t, k ≤ t → t < ps.length → δ2 122 t = ((dgt K.1 (plw K.2.2) ps i j num t : Nat) : Int)) → (∀ c q, c ≠ 122 → (c = 94 → q ≠ 37) → δ2 c q = δ c q) → Go E (d + 1) (0, 0) mx_X12_splits go_φ 8 [(0, vv_A 94), (1, vv_I (r : Int)), (2, vv_I ((k : Int) - 1))] [] δ2 Q := fun δ2 a b c => ih δ2 ⟨by omega, a, b, c⟩
      have hk : k < ps.length := i0
      have hm1 : mb_at δ1 K := mb_fr h (fun c q hc => i3 c q (by omega) (by omega))
      have hcl := ck_lt (R := K.1) (pl := plw K.2.2) (by omega) g1 hk
      obtain ⟨w1, w2, w3, w4⟩ := ck_inv (R := K.1) (pl := plw K.2.2) (by omega) g1 (k + 1) (by omega)
      have hlv := (lef_inv (R := K.1) (pl := plw K.2.2) (by omega) g1 (ps.length - (k + 1)) (by omega)).2
      have hcp := ckp_pos (R := K.1) (pl := plw K.2.2) (by omega) g1 hk
      have hes : ps.length - k = ps.length - (k + 1) + 1 := by omega
      have hdg : dgt K.1 (plw K.2.2) ps i j num k = lef K.1 (plw K.2.2) ps i j num (ps.length - (k + 1)) % ckp K.1 (plw K.2.2) ps i j num k := by
        unfold dgt
        rw [show ps.length - 1 - k = ps.length - (k + 1) by omega]
      have hlf : lef K.1 (plw K.2.2) ps i j num (ps.length - k) = lef K.1 (plw K.2.2) ps i j num (ps.length - (k + 1)) / ckp K.1 (plw K.2.2) ps i j num k := by
        rw [hes]
        show _ / ckp K.1 (plw K.2.2) ps i j num (ps.length - 1 - (ps.length - (k + 1))) = _
        rw [show ps.length - 1 - (ps.length - (k + 1)) = k by omega]
      have hbig : ¬ ckp K.1 (plw K.2.2) ps i j num k ≤ MX → lef K.1 (plw K.2.2) ps i j num (ps.length - (k + 1)) = 0 := fun q => by
        rcases g2 with w | w
        · omega
        · exfalso
          have hb2 := (ck_big (R := K.1) (pl := plw K.2.2) (by omega) g1 (k + 1) hk).1
          have hp2 := (ck_big (R := K.1) (pl := plw K.2.2) (by omega) g1 k (by omega)).2.1
          rw [ck_ah] at hb2
          exact q (Nat.le_trans (Nat.le_trans (Nat.le_mul_of_pos_left _ hp2) hb2) w)
      have hcl : (cK K ps i j num k).1 < (cK K ps i j num (k + 1)).1 := hcl
      have w3 : (cK K ps i j num (k + 1)).1 ≤ j := w3
      have hpe : pK K (ps.getD k 0) (cK K ps i j num k).1 (cK K ps i j num (k + 1)).1 = ckp K.1 (plw K.2.2) ps i j num k := rfl
      obtain ⟨V, hV⟩ : ∃ V, V = ckp K.1 (plw K.2.2) ps i j num k := ⟨_, rfl⟩
      obtain ⟨L, hL⟩ : ∃ L, L = lef K.1 (plw K.2.2) ps i j num (ps.length - (k + 1)) := ⟨_, rfl⟩
      rw [← hV] at hcp hdg hlf hbig hpe
      rw [← hL] at hlv hdg hlf hbig i1
      rw [show (((k + 1 : Nat) : Int) - 1) = (k : Int) by omega]
      refine go_iload_n (i := 2) dx_X12_splits_8 rfl rfl ?_
      refine go_if_lt (tgt := 107) dx_X12_splits_9 rfl (by omega) (fun c9 => by exact absurd c9 (by omega)) (fun c9 => ?_)
      refine go_aload_n (i := 0) dx_X12_splits_12 rfl rfl ?_
      refine go_iload_n (i := 1) dx_X12_splits_13 rfl rfl ?_
      refine go_cV1 sv_X12_148 (go_ok rfl rfl) dx_X12_splits_14 (Nat.le_of_ble_eq_true rfl) (Nat.le_of_ble_eq_true rfl) (o_longOf hm1.1 hr ?_)
      refine go_iconst dx_X12_splits_17 ?_
      refine go_icmp_ne (tgt := 27) dx_X12_splits_18 rfl (by omega) (by omega) (fun c18 => ?_) (fun c18 => by exact absurd c18 (by omega))
      refine go_aload_n (i := 0) dx_X12_splits_27 rfl rfl ?_
      refine go_aload_n (i := 0) dx_X12_splits_28 rfl rfl ?_
      refine go_iload_n (i := 1) dx_X12_splits_29 rfl rfl ?_
      refine go_iload_n (i := 2) dx_X12_splits_30 rfl rfl ?_
      refine go_cV2 sv_X12_190 (go_ok rfl rfl) dx_X12_splits_31 (Nat.le_of_ble_eq_true rfl) (Nat.le_of_ble_eq_true rfl) (o_partOf hm1.1 hr (by omega) ?_)
      refine go_asI (y := ((ps.getD k 0 : Nat) : Int)) (by rw [hpg]) ?_
      refine go_aload_n (i := 0) dx_X12_splits_34 rfl rfl ?_
      refine go_getA (b := 121) fs_X12_94 rfl (go_ok rfl rfl) rfl dx_X12_splits_35 ?_
      refine go_iload_n (i := 2) dx_X12_splits_38 rfl rfl ?_
      refine go_ialoadV (i := k) (v := (((cK K ps i j num k).1 : Int))) dx_X12_splits_39 (go_ok rfl rfl) (by omega) (show k < 6 by omega) (by rw [i3 _ _ (by decide) (by omega)]; exact g3 k (by omega)) ?_
      refine go_aload_n (i := 0) dx_X12_splits_40 rfl rfl ?_
      refine go_getA (b := 121) fs_X12_94 rfl (go_ok rfl rfl) rfl dx_X12_splits_41 ?_
      refine go_iload_n (i := 2) dx_X12_splits_44 rfl rfl ?_
      refine go_iconst dx_X12_splits_45 ?_
      refine go_iadd dx_X12_splits_46 ?_
      refine go_ialoadV (i := (k + 1)) (v := (((cK K ps i j num (k + 1)).1 : Int))) dx_X12_splits_47 (go_ok rfl rfl) (by omega) (show (k + 1) < 6 by omega) (by rw [i3 _ _ (by decide) (by omega)]; exact g3 (k + 1) (by omega)) ?_
      refine go_cV3 sv_X12_303 (go_ok rfl rfl) dx_X12_splits_48 (Nat.le_of_ble_eq_true rfl) (Nat.le_of_ble_eq_true rfl) (m_partWays (K := K) (s := 15) (m := 0) hlet hm1.2.1 hm1.2.2.1 h14 (hp14 k hk) hcl (by omega) (by omega) ?_)
      refine go_asL (y := (st V)) (by rw [hpe]) ?_
      refine go_lstore_n (i := 3) (lv' := [(0, vv_A 94), (1, vv_I (r : Int)), (2, vv_I (k : Int)), (3, vv_L (st V))]) dx_X12_splits_51 rfl (by decide) rfl ?_
      by_cases hcM : V ≤ MX
      · rw [st_le hcM]
        refine go_aload_n (i := 0) dx_X12_splits_52 rfl rfl ?_
        refine go_getA (b := 122) fs_X12_97 rfl (go_ok rfl rfl) rfl dx_X12_splits_53 ?_
        refine go_iload_n (i := 2) dx_X12_splits_56 rfl rfl ?_
        refine go_lload_n (i := 3) dx_X12_splits_57 rfl rfl ?_
        refine go_ldc2 (x := (-7)) kx_X12_288 dx_X12_splits_58 ?_
        refine go_lcmp_ne (tgt := 72) dx_X12_splits_61 dx_X12_splits_62 rfl (by omega) (by omega) (fun c61 => ?_) (fun c61 => by exact absurd c61 (by omega))
        refine go_aload_n (i := 0) dx_X12_splits_72 rfl rfl ?_
        refine go_getL fs_X12_328 rfl (go_ok rfl rfl) dx_X12_splits_73 ?_
        refine go_asL (y := (L : Int)) (by exact i1) ?_
        refine go_lload_n (i := 3) dx_X12_splits_76 rfl rfl ?_
        refine go_lrem dx_X12_splits_77 (by omega) (by omega) (by omega) (by omega) ?_
        refine go_asL (y := ((L % V : Nat) : Int)) (by rfl) ?_
        refine go_lastoreV (i := k) dx_X12_splits_78 (go_ok rfl rfl) (by omega) (show k < 5 by omega) ?_
        refine go_aload_n (i := 0) dx_X12_splits_79 rfl rfl ?_
        refine go_lload_n (i := 3) dx_X12_splits_80 rfl rfl ?_
        refine go_ldc2 (x := (-7)) kx_X12_288 dx_X12_splits_81 ?_
        refine go_lcmp_ne (tgt := 92) dx_X12_splits_84 dx_X12_splits_85 rfl (by omega) (by omega) (fun c84 => ?_) (fun c84 => by exact absurd c84 (by omega))
        refine go_aload_n (i := 0) dx_X12_splits_92 rfl rfl ?_
        refine go_getL fs_X12_328 rfl (go_ok rfl rfl) dx_X12_splits_93 ?_
        refine go_asL (y := (L : Int)) (by rw [wr_n (by omega)]; exact i1) ?_
        refine go_lload_n (i := 3) dx_X12_splits_96 rfl rfl ?_
        refine go_ldiv dx_X12_splits_97 (by omega) (by omega) (by omega) (by omega) ?_
        refine go_asL (y := ((L / V : Nat) : Int)) (by rfl) ?_
        refine go_putL fp_X12_328 rfl rfl (go_ok rfl rfl) dx_X12_splits_98 ?_
        refine go_iinc (lv' := [(0, vv_A 94), (1, vv_I (r : Int)), (2, vv_I ((k : Int) + (-1))), (3, vv_L (V : Int))]) dx_X12_splits_101 rfl (by decide) rfl ?_
        refine go_goto (tgt := 8) dx_X12_splits_104 rfl ?_
        refine go_keep [0, 1, 2] rfl ?_
        refine ih2 _ (by rw [wr_eq, hlf]) (fun t a b => ?_) (fun c q a b => by rw [wr_n (by omega), wr_n (by omega)]; exact i3 c q a b)
        by_cases z : t = k
        · rw [z, wr_n (by omega), wr_eq, hdg]
        · rw [wr_n (by omega), wr_n (by omega)]; exact i2 t (by omega) b
      · have h0 := hbig hcM
        rw [h0] at hdg hlf i1
        rw [Nat.zero_mod] at hdg
        rw [Nat.zero_div] at hlf
        rw [st_gt hcM]
        refine go_aload_n (i := 0) dx_X12_splits_52 rfl rfl ?_
        refine go_getA (b := 122) fs_X12_97 rfl (go_ok rfl rfl) rfl dx_X12_splits_53 ?_
        refine go_iload_n (i := 2) dx_X12_splits_56 rfl rfl ?_
        refine go_lload_n (i := 3) dx_X12_splits_57 rfl rfl ?_
        refine go_ldc2 (x := (-7)) kx_X12_288 dx_X12_splits_58 ?_
        refine go_lcmp_ne (tgt := 72) dx_X12_splits_61 dx_X12_splits_62 rfl (by omega) (by omega) (fun c61 => by exact absurd rfl c61) (fun c61 => ?_)
        refine go_aload_n (i := 0) dx_X12_splits_65 rfl rfl ?_
        refine go_getL fs_X12_328 rfl (go_ok rfl rfl) dx_X12_splits_66 ?_
        refine go_asL (y := ((0 : Nat) : Int)) (by exact i1) ?_
        refine go_goto (tgt := 78) dx_X12_splits_69 rfl ?_
        refine go_lastoreV (i := k) dx_X12_splits_78 (go_ok rfl rfl) (by omega) (show k < 5 by omega) ?_
        refine go_aload_n (i := 0) dx_X12_splits_79 rfl rfl ?_
        refine go_lload_n (i := 3) dx_X12_splits_80 rfl rfl ?_
        refine go_ldc2 (x := (-7)) kx_X12_288 dx_X12_splits_81 ?_
        refine go_lcmp_ne (tgt := 92) dx_X12_splits_84 dx_X12_splits_85 rfl (by omega) (by omega) (fun c84 => by exact absurd rfl c84) (fun c84 => ?_)
        refine go_lconst (x := 0) dx_X12_splits_88 rfl ?_
        refine go_goto (tgt := 98) dx_X12_splits_89 rfl ?_
        refine go_putL fp_X12_328 rfl rfl (go_ok rfl rfl) dx_X12_splits_98 ?_
        refine go_iinc (lv' := [(0, vv_A 94), (1, vv_I (r : Int)), (2, vv_I ((k : Int) + (-1))), (3, vv_L (-7))]) dx_X12_splits_101 rfl (by decide) rfl ?_
        refine go_goto (tgt := 8) dx_X12_splits_104 rfl ?_
        refine go_keep [0, 1, 2] rfl ?_
        refine ih2 _ (by rw [wr_eq, hlf]; rfl) (fun t a b => ?_) (fun c q a b => by rw [wr_n (by omega), wr_n (by omega)]; exact i3 c q a b)
        by_cases z : t = k
        · rw [z, wr_n (by omega), wr_eq, hdg]
        · rw [wr_n (by omega), wr_n (by omega)]; exact i2 t (by omega) b
    · obtain ⟨i0, i1, i2, i3⟩ := hI
      refine go_iload_n (i := 2) dx_X12_splits_8 rfl rfl ?_
      refine go_if_lt (tgt := 107) dx_X12_splits_9 rfl (by omega) (fun c9 => ?_) (fun c9 => by exact absurd c9 (by omega))
      refine go_vreturn dx_X12_splits_107 rfl (Nat.le_refl _) (Nat.le_refl _) ?_
      exact hQ δ1 (fun q => absurd q e2) (fun _ t ht' => i2 t (Nat.zero_le _) (by omega)) i3
end GMEN
