/-! the class's tables: Forest -/
section TB_Forest
variable {E : go_E} {d : Nat} {δ : Nat → Nat → Int} {Q : List go_V → go_F → (Nat → Nat → Int) → Prop} {o c n m ns : Nat} {al alc : Bool} {R : Nat → List Nat} {pl : Nat → Nat → Prop} {K : sK} {V : Nat → Nat → Nat → Int}
theorem g_Forest_valueAt {x i j : Nat} {v : Int} (ho : tb_ok 2 o c al) (hf3 : tf_ok o al) (hal : δ o 2 = bI al) (hi : i < j) (hj : j ≤ 14) (hx : x < 62) (e : δ (o + 1) (slt al i j * 62 + x) = v) (hQ : Q [vv_L v] go_φ δ) :
    Go E (d + 1) (0, 0) mx_X7_valueAt go_φ 0 [(0, vv_A o), (1, vv_I (x : Int)), (2, vv_I (i : Int)), (3, vv_I (j : Int))] [] δ Q := by
  refine go_aload_n (i := 0) dx_X7_valueAt_0 rfl rfl ?_
  refine go_getA (b := (o + 1)) fs_X7_27_2 rfl (tb_k0 ho) (tb_r4 ho) dx_X7_valueAt_1 ?_
  refine go_iload_n (i := 2) dx_X7_valueAt_4 rfl rfl ?_
  refine go_iload_n (i := 3) dx_X7_valueAt_5 rfl rfl ?_
  refine go_aload_n (i := 0) dx_X7_valueAt_6 rfl rfl ?_
  refine go_getI fs_X7_19_2 (Or.inr rfl) (tb_k0 ho) dx_X7_valueAt_7 ?_
  refine go_asI (y := (bI al)) (by exact hal) ?_
  refine go_cS3 ss_X7_56 dx_X7_valueAt_10 (Nat.le_of_ble_eq_true rfl) (Nat.le_of_ble_eq_true rfl) (g_slotOf hi (by omega) ?_)
  refine go_bipush dx_X7_valueAt_13 rfl ?_
  refine go_imul dx_X7_valueAt_15 ?_
  refine go_iload_n (i := 1) dx_X7_valueAt_16 rfl rfl ?_
  refine go_iadd dx_X7_valueAt_17 ?_
  refine go_cS2 ss_X7_63 dx_X7_valueAt_18 (Nat.le_of_ble_eq_true rfl) (Nat.le_of_ble_eq_true rfl) (g_longAtV (i := slt al i j * 62 + x) (tb_k1 ho) (by omega) (tb_idx ho hi hj hx) e ?_)
  refine go_lreturn dx_X7_valueAt_21 rfl (Nat.le_refl _) (Nat.le_refl _) ?_
  exact hQ
theorem g_Forest_takeLetters {i : Nat} {f : Nat → Int} (ho : tb_ok 2 o c al) (hf3 : tf_ok o al) (hco : ch_ok c alc) (hR : ∀ r, rl_ok (R r)) (ht : td_at δ 3 K) (hiK : i < K.2.2.length ∨ True) (hc : ct_at δ c alc R pl n) (hi : i + 1 ≤ n) (hns : 14 ≤ ns) (hf : tfr δ o ns f)
    (hQ : ∀ δ', tfr δ' o ns (tlf (fun x => dp R pl x i (i + 1)) (fun x => 1) f 14) → (∀ c j, c ≠ o + 2 → δ' c j = δ c j) → Q [] go_φ δ') :
    Go E (d + 3) (0, 0) mx_X7_takeLetters go_φ 0 [(0, vv_A o), (1, vv_I (i : Int))] [] δ Q := by
  have hoo := tb_o ho
  have h14 := hc.2.2.1
  have loop := lp_up (X := Nat → Nat → Int) (hi := 14) (I := fun l δ1 => 8 ≤ l ∧ tfr δ1 o ns (tlf (fun x => dp R pl x i (i + 1)) (fun x => 1) f l) ∧ (∀ c j, c ≠ o + 2 → δ1 c j = δ c j))
    (G := fun l δ1 => Go E (d + 3) (0, 0) mx_X7_takeLetters go_φ 3 [(0, vv_A o), (1, vv_I (i : Int)), (2, vv_I (l : Int))] [] δ1 Q) (fun l δ1 hl hI ih => by
      obtain ⟨i0, i1, i2⟩ := hI
      have hc1 : ct_at δ1 c alc R pl n := ct_fr hc (fun c' j hc' => i2 c' j (by omega))
      have ht1 : td_at δ1 3 K := td_fr3 ht (fun c' j hc' => i2 c' j (by omega))
      refine go_iload_n (i := 2) dx_X7_takeLetters_3 rfl rfl ?_
      refine go_bipush dx_X7_takeLetters_4 rfl ?_
      refine go_icmp_ge (tgt := 44) dx_X7_takeLetters_6 rfl (by omega) (by omega) (fun c6 => by exact absurd c6 (by omega)) (fun c6 => ?_)
      refine go_aload_n (i := 0) dx_X7_takeLetters_9 rfl rfl ?_
      refine go_getA (b := c) fs_X7_15_2 rfl (tb_k0 ho) (tb_r1 ho) dx_X7_takeLetters_10 ?_
      refine go_iload_n (i := 2) dx_X7_takeLetters_13 rfl rfl ?_
      refine go_iload_n (i := 1) dx_X7_takeLetters_14 rfl rfl ?_
      refine go_iload_n (i := 1) dx_X7_takeLetters_15 rfl rfl ?_
      refine go_iconst dx_X7_takeLetters_16 ?_
      refine go_iadd dx_X7_takeLetters_17 ?_
      refine go_asI (y := ((i + 1 : Nat) : Int)) (by omega) ?_
      refine go_cV3 sv_X7_67 (ch_k0 hco) dx_X7_takeLetters_18 (Nat.le_of_ble_eq_true rfl) (Nat.le_of_ble_eq_true rfl) (g_Chart_derives hco hR hc1 (by omega) hi (by omega) ?_)
      refine go_b_eq (tgt := 38) dx_X7_takeLetters_21 rfl (fun c21 => ?_) (fun c21 => ?_)
      · refine go_iinc (lv' := [(0, vv_A o), (1, vv_I (i : Int)), (2, vv_I ((l : Int) + 1))]) dx_X7_takeLetters_38 rfl (by decide) rfl ?_
        refine go_goto (tgt := 3) dx_X7_takeLetters_41 rfl ?_
        refine ih δ1 ⟨by omega, fun x hx => ?_, i2⟩
        by_cases e : x = l
        · subst e; rw [tlf_f (P := fun x => dp R pl x i (i + 1)) c21, i1 x hx, tlf_l]
        · rw [tlf_s e]; exact i1 x hx
      · refine go_aload_n (i := 0) dx_X7_takeLetters_24 rfl rfl ?_
        refine go_getA (b := (o + 2)) fs_X7_31_2 rfl (tb_k0 ho) (tb_r5 ho) dx_X7_takeLetters_25 ?_
        refine go_iload_n (i := 2) dx_X7_takeLetters_28 rfl rfl ?_
        refine go_aload_n (i := 0) dx_X7_takeLetters_29 rfl rfl ?_
        refine go_iload_n (i := 2) dx_X7_takeLetters_30 rfl rfl ?_
        refine go_iload_n (i := 1) dx_X7_takeLetters_31 rfl rfl ?_
        refine go_cV2 sv_X7_73_2 (tb_k0 ho) dx_X7_takeLetters_32 (Nat.le_of_ble_eq_true rfl) (Nat.le_of_ble_eq_true rfl) (g_Forest_ofLetter ?_)
        refine go_cS3 ss_X7_44 dx_X7_takeLetters_35 (Nat.le_of_ble_eq_true rfl) (Nat.le_of_ble_eq_true rfl) (g_putLongN (i := l) (tb_k2 ho) (by omega) (by rw [(tb_l2 ho)]; omega) ?_)
        refine go_iinc (lv' := [(0, vv_A o), (1, vv_I (i : Int)), (2, vv_I ((l : Int) + 1))]) dx_X7_takeLetters_38 rfl (by decide) rfl ?_
        refine go_goto (tgt := 3) dx_X7_takeLetters_41 rfl ?_
        refine ih _ ⟨by omega, fun x hx => ?_, fun c' j hc' => by rw [wr_a _ _ _ _ hc']; exact i2 c' j hc'⟩
        by_cases e : x = l
        · subst e; rw [wr_eq]; exact (tlf_t (P := fun x => dp R pl x i (i + 1)) (g := fun x => 1) i0 c21).symm
        · rw [tlf_s e, wr_i _ _ _ _ e]; exact i1 x hx
    ) (fun δ1 hI => by
      refine go_iload_n (i := 2) dx_X7_takeLetters_3 rfl rfl ?_
      refine go_bipush dx_X7_takeLetters_4 rfl ?_
      refine go_icmp_ge (tgt := 44) dx_X7_takeLetters_6 rfl (by omega) (by omega) (fun c6 => ?_) (fun c6 => by exact absurd c6 (by omega))
      refine go_vreturn dx_X7_takeLetters_44 rfl (Nat.le_refl _) (Nat.le_refl _) ?_
      exact hQ δ1 hI.2.1 hI.2.2
    )
  refine go_bipush dx_X7_takeLetters_0 rfl ?_
  refine go_istore_n (i := 2) (lv' := [(0, vv_A o), (1, vv_I (i : Int)), (2, vv_I 8)]) dx_X7_takeLetters_2 rfl (by decide) rfl ?_
  exact loop 8 δ (by decide) ⟨Nat.le_refl _, fun x hx => by rw [tlf_8]; exact hf x hx, fun _ _ _ => rfl⟩
theorem g_Forest_takeCut {i k j : Nat} {f : Nat → Int} {J : Nat → (Nat → Int) → Prop} (ho : tb_ok 2 o c al) (hf3 : tf_ok o al) (hco : ch_ok c alc) (hb : bi_at δ 33 R) (hns : ns = 14 + (gH R).length) (hc : ct_at δ c alc R pl n) (hal : δ o 2 = bI al) (h3 : δ o 3 = 0) (hik : i < k) (hkj : k < j) (hj : j ≤ n)
    (hV1 : ∀ x, x < ns → δ (o + 1) (slt al i k * 62 + x) = V x i k) (hV2 : ∀ x, x < ns → δ (o + 1) (slt al k j * 62 + x) = V x k j) (hf : tfr δ o ns f) (hJ : J 0 f)
    (hs : ∀ p e, (gP R)[p]? = some e → ∀ f, J p f → (¬ (dp R pl e.2.1 i k ∧ dp R pl e.2.2.1 k j) → J (p + 1) f) ∧ (dp R pl e.2.1 i k → dp R pl e.2.2.1 k j → (go_iL (V e.2.1 i k) ∧ go_iL (V e.2.2.1 k j)) ∧ go_iL (f e.1) ∧ go_iL (fo_mul (V e.2.1 i k) (V e.2.2.1 k j)) ∧ J (p + 1) (fup f e.1 (fo_add (f e.1) (fo_mul (V e.2.1 i k) (V e.2.2.1 k j))))))
    (hQ : ∀ δ' f', tfr δ' o ns f' → J (gP R).length f' → (∀ c j, c ≠ o + 2 → δ' c j = δ c j) → Q [] go_φ δ') :
    Go E (d + 3) (0, 0) mx_X7_takeCut go_φ 0 [(0, vv_A o), (1, vv_I (i : Int)), (2, vv_I (k : Int)), (3, vv_I (j : Int))] [] δ Q := by
  have hoo := tb_o ho
  have hR := hb.2.2.2.2.2.2
  have h14 := hc.2.2.1
  have hpl := gP_le hR
  have loop := lp_up (X := (Nat → Nat → Int) × (Nat → Int)) (hi := (gP R).length) (I := fun p X => tfr X.1 o ns X.2 ∧ J p X.2 ∧ (∀ c j, c ≠ o + 2 → X.1 c j = δ c j))
    (G := fun p X => ∀ lv0, lv0 = [(0, vv_A o), (1, vv_I (i : Int)), (2, vv_I (k : Int)), (3, vv_I (j : Int)), (4, vv_L (mk 62 (fun x => dp R pl x i k) : Int)), (6, vv_L (mk 62 (fun x => dp R pl x k j) : Int)), (8, vv_I (p : Int))] → Go E (d + 3) (0, 0) mx_X7_takeCut go_φ 25 lv0 [] X.1 Q)
    (fun p X hp hI ih lv0 e0 => by
      subst e0
      obtain ⟨δ1, f1⟩ := X
      obtain ⟨i1, i2, i3⟩ := hI
      dsimp only at i1 i2 i3 ⊢
      have hb1 : bi_at δ1 33 R := bi_fr hb (fun c' j a b => i3 c' j (by omega))
      have hcnt := hb1.1.1
      obtain ⟨e, he⟩ : ∃ e, (gP R)[p]'hp = e := ⟨_, rfl⟩
      have he2 : (gP R)[p]? = some e := by rw [List.getElem?_eq_getElem hp, he]
      have hem : e ∈ gP R := List.mem_of_getElem? he2
      have hpe := pe_ok_of hR hem
      have h62 := pe_lt62 hR hem
      have hlt := pr_lt hR hem
      have hcode := hb1.1.2.1 p hp
      rw [he] at hcode
      obtain ⟨s1, s2⟩ := hs p e he2 f1 i2
      refine go_iload dx_X7_takeCut_25 rfl ?_
      refine go_aload_n (i := 0) dx_X7_takeCut_27 rfl rfl ?_
      refine go_getA (b := 33) fs_X7_9_2 rfl (tb_k0 ho) (tb_r0 ho) dx_X7_takeCut_28 ?_
      refine go_getI fs_X7_80 (Or.inl rfl) (go_ok rfl rfl) dx_X7_takeCut_31 ?_
      refine go_asI (y := ((gP R).length : Int)) (by exact hcnt) ?_
      refine go_icmp_ge (tgt := 131) dx_X7_takeCut_34 rfl (by omega) (by omega) (fun c34 => by exact absurd c34 (by omega)) (fun c34 => ?_)
      refine go_aload_n (i := 0) dx_X7_takeCut_37 rfl rfl ?_
      refine go_getA (b := 33) fs_X7_9_2 rfl (tb_k0 ho) (tb_r0 ho) dx_X7_takeCut_38 ?_
      refine go_getA (b := 34) fs_X7_84 rfl (go_ok rfl rfl) rfl dx_X7_takeCut_41 ?_
      refine go_iload dx_X7_takeCut_44 rfl ?_
      refine go_cS2 ss_X7_88 dx_X7_takeCut_46 (Nat.le_of_ble_eq_true rfl) (Nat.le_of_ble_eq_true rfl) (g_intAtV (i := p) (v := ((pe e : Int))) (go_ok rfl rfl) (by omega) (show p < 64 by omega) (by exact hcode) ?_)
      refine go_istore (lv' := [(0, vv_A o), (1, vv_I (i : Int)), (2, vv_I (k : Int)), (3, vv_I (j : Int)), (4, vv_L (mk 62 (fun x => dp R pl x i k) : Int)), (6, vv_L (mk 62 (fun x => dp R pl x k j) : Int)), (8, vv_I (p : Int)), (9, vv_I ((pe e : Int)))]) dx_X7_takeCut_49 (by decide) rfl ?_
      refine go_iload dx_X7_takeCut_51 rfl ?_
      refine go_lload dx_X7_takeCut_53 rfl ?_
      refine go_lload dx_X7_takeCut_55 rfl ?_
      refine go_cS3 ss_X7_92 dx_X7_takeCut_57 (Nat.le_of_ble_eq_true rfl) (Nat.le_of_ble_eq_true rfl) (g_Binary_fits hpe (mk_63 62 _ (by decide)) (mk_63 62 _ (by decide)) ?_)
      refine go_b_eq (tgt := 125) dx_X7_takeCut_60 rfl (fun c60 => ?_) (fun c60 => ?_)
      · refine go_iinc (lv' := [(0, vv_A o), (1, vv_I (i : Int)), (2, vv_I (k : Int)), (3, vv_I (j : Int)), (4, vv_L (mk 62 (fun x => dp R pl x i k) : Int)), (6, vv_L (mk 62 (fun x => dp R pl x k j) : Int)), (8, vv_I ((p : Int) + 1)), (9, vv_I ((pe e : Int)))]) dx_X7_takeCut_125 rfl (by decide) rfl ?_
        refine go_goto (tgt := 25) dx_X7_takeCut_128 rfl ?_
        refine go_keep [0, 1, 2, 3, 4, 5, 6] rfl ?_
        exact ih (δ1, f1) ⟨i1, s1 (fun q => c60 ⟨(dp_bit hR).mpr q.1, (dp_bit hR).mpr q.2⟩), i3⟩ _ rfl
      · have q1 := (dp_bit hR).mp c60.1
        have q2 := (dp_bit hR).mp c60.2
        obtain ⟨s3, s4, s5, s6⟩ := s2 q1 q2
        refine go_aload_n (i := 0) dx_X7_takeCut_63 rfl rfl ?_
        refine go_aload_n (i := 0) dx_X7_takeCut_64 rfl rfl ?_
        refine go_iload dx_X7_takeCut_65 rfl ?_
        refine go_cS1 ss_X7_96 dx_X7_takeCut_67 (Nat.le_of_ble_eq_true rfl) (Nat.le_of_ble_eq_true rfl) (g_leftOf hpe ?_)
        refine go_iload_n (i := 1) dx_X7_takeCut_70 rfl rfl ?_
        refine go_iload_n (i := 2) dx_X7_takeCut_71 rfl rfl ?_
        refine go_cV3 sv_X7_100_2 (tb_k0 ho) dx_X7_takeCut_72 (Nat.le_of_ble_eq_true rfl) (Nat.le_of_ble_eq_true rfl) (g_Forest_valueAt (v := V e.2.1 i k) ho hf3 (by rw [i3 _ _ (by omega)]; exact hal) hik (by omega) (by omega) (by rw [i3 _ _ (by omega)]; exact hV1 e.2.1 (by omega)) ?_)
        refine go_aload_n (i := 0) dx_X7_takeCut_75 rfl rfl ?_
        refine go_iload dx_X7_takeCut_76 rfl ?_
        refine go_cS1 ss_X7_104 dx_X7_takeCut_78 (Nat.le_of_ble_eq_true rfl) (Nat.le_of_ble_eq_true rfl) (g_rightOf hpe ?_)
        refine go_iload_n (i := 2) dx_X7_takeCut_81 rfl rfl ?_
        refine go_iload_n (i := 3) dx_X7_takeCut_82 rfl rfl ?_
        refine go_cV3 sv_X7_100_2 (tb_k0 ho) dx_X7_takeCut_83 (Nat.le_of_ble_eq_true rfl) (Nat.le_of_ble_eq_true rfl) (g_Forest_valueAt (v := V e.2.2.1 k j) ho hf3 (by rw [i3 _ _ (by omega)]; exact hal) hkj (by omega) (by omega) (by rw [i3 _ _ (by omega)]; exact hV2 e.2.2.1 (by omega)) ?_)
        refine go_iload_n (i := 3) dx_X7_takeCut_86 rfl rfl ?_
        refine go_iload_n (i := 2) dx_X7_takeCut_87 rfl rfl ?_
        refine go_isub dx_X7_takeCut_88 ?_
        refine go_asI (y := ((j - k : Nat) : Int)) (by omega) ?_
        refine go_cV3 sv_X7_107_2 (tb_k0 ho) dx_X7_takeCut_89 (Nat.le_of_ble_eq_true rfl) (Nat.le_of_ble_eq_true rfl) (g_Forest_ofTwo  s3 ?_)
        refine go_lstore (lv' := [(0, vv_A o), (1, vv_I (i : Int)), (2, vv_I (k : Int)), (3, vv_I (j : Int)), (4, vv_L (mk 62 (fun x => dp R pl x i k) : Int)), (6, vv_L (mk 62 (fun x => dp R pl x k j) : Int)), (8, vv_I (p : Int)), (9, vv_I (pe e : Int)), (10, vv_L (fo_mul (V e.2.1 i k) (V e.2.2.1 k j)))]) dx_X7_takeCut_92 (by decide) rfl ?_
        refine go_iload dx_X7_takeCut_94 rfl ?_
        refine go_cS1 ss_X7_111 dx_X7_takeCut_96 (Nat.le_of_ble_eq_true rfl) (Nat.le_of_ble_eq_true rfl) (g_madeOf hpe ?_)
        refine go_istore (lv' := [(0, vv_A o), (1, vv_I (i : Int)), (2, vv_I (k : Int)), (3, vv_I (j : Int)), (4, vv_L (mk 62 (fun x => dp R pl x i k) : Int)), (6, vv_L (mk 62 (fun x => dp R pl x k j) : Int)), (8, vv_I (p : Int)), (9, vv_I (pe e : Int)), (10, vv_L (fo_mul (V e.2.1 i k) (V e.2.2.1 k j))), (12, vv_I (e.1 : Int))]) dx_X7_takeCut_99 (by decide) rfl ?_
        refine go_aload_n (i := 0) dx_X7_takeCut_101 rfl rfl ?_
        refine go_getA (b := (o + 2)) fs_X7_31_2 rfl (tb_k0 ho) (tb_r5 ho) dx_X7_takeCut_102 ?_
        refine go_iload dx_X7_takeCut_105 rfl ?_
        refine go_aload_n (i := 0) dx_X7_takeCut_107 rfl rfl ?_
        refine go_aload_n (i := 0) dx_X7_takeCut_108 rfl rfl ?_
        refine go_getA (b := (o + 2)) fs_X7_31_2 rfl (tb_k0 ho) (tb_r5 ho) dx_X7_takeCut_109 ?_
        refine go_iload dx_X7_takeCut_112 rfl ?_
        refine go_cS2 ss_X7_63 dx_X7_takeCut_114 (Nat.le_of_ble_eq_true rfl) (Nat.le_of_ble_eq_true rfl) (g_longAtV (i := e.1) (v := ((f1 e.1))) (tb_k2 ho) (by omega) (by rw [(tb_l2 ho)]; omega) (by exact i1 e.1 (by omega)) ?_)
        refine go_lload dx_X7_takeCut_117 rfl ?_
        refine go_cV2 sv_X7_114_2 (tb_k0 ho) dx_X7_takeCut_119 (Nat.le_of_ble_eq_true rfl) (Nat.le_of_ble_eq_true rfl) (g_Forest_merge ho (by rw [i3 _ _ (by omega)]; exact h3) s4 s5 ?_)
        refine go_cS3 ss_X7_44 dx_X7_takeCut_122 (Nat.le_of_ble_eq_true rfl) (Nat.le_of_ble_eq_true rfl) (g_putLongN (i := e.1) (tb_k2 ho) (by omega) (by rw [(tb_l2 ho)]; omega) ?_)
        refine go_iinc (lv' := [(0, vv_A o), (1, vv_I (i : Int)), (2, vv_I (k : Int)), (3, vv_I (j : Int)), (4, vv_L (mk 62 (fun x => dp R pl x i k) : Int)), (6, vv_L (mk 62 (fun x => dp R pl x k j) : Int)), (8, vv_I ((p : Int) + 1)), (9, vv_I (pe e : Int)), (10, vv_L (fo_mul (V e.2.1 i k) (V e.2.2.1 k j))), (12, vv_I (e.1 : Int))]) dx_X7_takeCut_125 rfl (by decide) rfl ?_
        refine go_goto (tgt := 25) dx_X7_takeCut_128 rfl ?_
        refine go_keep [0, 1, 2, 3, 4, 5, 6] rfl ?_
        exact ih (_, _) ⟨tfr_put i1, s6, fun c' j' hc' => (wr_a _ _ _ _ hc' _).trans (i3 c' j' hc')⟩ _ rfl
    ) (fun X hI lv0 e0 => by
      subst e0
      have hcnt : X.1 33 1 = ((gP R).length : Int) := by rw [hI.2.2 _ _ (by omega)]; exact hb.1.1
      refine go_iload dx_X7_takeCut_25 rfl ?_
      refine go_aload_n (i := 0) dx_X7_takeCut_27 rfl rfl ?_
      refine go_getA (b := 33) fs_X7_9_2 rfl (tb_k0 ho) (tb_r0 ho) dx_X7_takeCut_28 ?_
      refine go_getI fs_X7_80 (Or.inl rfl) (go_ok rfl rfl) dx_X7_takeCut_31 ?_
      refine go_asI (y := ((gP R).length : Int)) (by exact hcnt) ?_
      refine go_icmp_ge (tgt := 131) dx_X7_takeCut_34 rfl (by omega) (by omega) (fun c34 => ?_) (fun c34 => by exact absurd c34 (by omega))
      refine go_vreturn dx_X7_takeCut_131 rfl (Nat.le_refl _) (Nat.le_refl _) ?_
      exact hQ X.1 X.2 hI.1 hI.2.1 hI.2.2
    )
  refine go_aload_n (i := 0) dx_X7_takeCut_0 rfl rfl ?_
  refine go_getA (b := c) fs_X7_15_2 rfl (tb_k0 ho) (tb_r1 ho) dx_X7_takeCut_1 ?_
  refine go_iload_n (i := 1) dx_X7_takeCut_4 rfl rfl ?_
  refine go_iload_n (i := 2) dx_X7_takeCut_5 rfl rfl ?_
  refine go_cV2 sv_X7_77 (ch_k0 hco) dx_X7_takeCut_6 (Nat.le_of_ble_eq_true rfl) (Nat.le_of_ble_eq_true rfl) (g_Chart_cellAt hco hc (by omega) (by omega) ?_)
  refine go_lstore (lv' := [(0, vv_A o), (1, vv_I (i : Int)), (2, vv_I (k : Int)), (3, vv_I (j : Int)), (4, vv_L (mk 62 (fun x => dp R pl x i k) : Int))]) dx_X7_takeCut_9 (by decide) rfl ?_
  refine go_aload_n (i := 0) dx_X7_takeCut_11 rfl rfl ?_
  refine go_getA (b := c) fs_X7_15_2 rfl (tb_k0 ho) (tb_r1 ho) dx_X7_takeCut_12 ?_
  refine go_iload_n (i := 2) dx_X7_takeCut_15 rfl rfl ?_
  refine go_iload_n (i := 3) dx_X7_takeCut_16 rfl rfl ?_
  refine go_cV2 sv_X7_77 (ch_k0 hco) dx_X7_takeCut_17 (Nat.le_of_ble_eq_true rfl) (Nat.le_of_ble_eq_true rfl) (g_Chart_cellAt hco hc hj (by omega) ?_)
  refine go_lstore (lv' := [(0, vv_A o), (1, vv_I (i : Int)), (2, vv_I (k : Int)), (3, vv_I (j : Int)), (4, vv_L (mk 62 (fun x => dp R pl x i k) : Int)), (6, vv_L (mk 62 (fun x => dp R pl x k j) : Int))]) dx_X7_takeCut_20 (by decide) rfl ?_
  refine go_iconst dx_X7_takeCut_22 ?_
  refine go_istore (lv' := [(0, vv_A o), (1, vv_I (i : Int)), (2, vv_I (k : Int)), (3, vv_I (j : Int)), (4, vv_L (mk 62 (fun x => dp R pl x i k) : Int)), (6, vv_L (mk 62 (fun x => dp R pl x k j) : Int)), (8, vv_I 0)]) dx_X7_takeCut_23 (by decide) rfl ?_
  exact loop 0 (δ, f) (Nat.zero_le _) ⟨hf, hJ, fun _ _ _ => rfl⟩ _ rfl
end TB_Forest
