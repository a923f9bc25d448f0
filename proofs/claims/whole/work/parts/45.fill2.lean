/-! the class's tables: Nearest, spans -/

/-- values of spans, as far as they are filled -/
def tvNearest_at (δ : Nat → Nat → Int) (o : Nat) (al : Bool) (V : Nat → Nat → Nat → Int) (ns n w m : Nat) : Prop := ∀ i j, i < j → j ≤ n → (j - i < w ∨ (j - i = w ∧ i < m)) → (∀ x, x < ns → δ (o + 1) (slt al i j * 62 + x) = V x i j)
section TC_Nearest
variable {E : go_E} {d : Nat} {δ : Nat → Nat → Int} {Q : List go_V → go_F → (Nat → Nat → Int) → Prop} {o c n nc ns : Nat} {al alc : Bool} {R : Nat → List Nat} {pl : Nat → Nat → Prop} {K : sK} {V : Nat → Nat → Nat → Int}
theorem g_Nearest_fillSpan {i j : Nat} {J : Nat → Nat → (Nat → Int) → Prop} (ho : tb_ok 4 o c al) (hn7 : go_rf o 7 = 3 + 1) (hco : ch_ok c alc) (hb : bi_at δ 33 R) (ht : td_at δ 3 K) (hiK : j ≤ K.2.2.length ∨ False) (hns : ns = 14 + (gH R).length) (hc : ct_at δ c alc R pl nc) (hal : δ o 2 = bI al) (h3 : δ o 3 = -1) (hij : i < j) (hj : j ≤ nc)
    (hV : ∀ a b, a < b → b ≤ j → i ≤ a → b - a < j - i → ∀ x, x < ns → δ (o + 1) (slt al a b * 62 + x) = V x a b)
    (hJ0 : J (i + 1) 0 (@ite (Nat → Int) (j = i + 1) (Classical.propDecidable _) (tlf (fun x => dp R pl x i (i + 1)) (fun x => ne_let K.2.2 x i) (fun _ => -1) 14) (fun _ => -1)))
    (hs : ∀ k p e, i < k → k < j → (gP R)[p]? = some e → ∀ f, J k p f → (¬ (dp R pl e.2.1 i k ∧ dp R pl e.2.2.1 k j) → J k (p + 1) f) ∧ (dp R pl e.2.1 i k → dp R pl e.2.2.1 k j → (ne_pre (V e.2.1 i k) (V e.2.2.1 k j) (k - i) (j - k)) ∧ go_iL (f e.1) ∧ go_iL (ne_two (V e.2.1 i k) (V e.2.2.1 k j) (j - k)) ∧ J k (p + 1) (fup f e.1 (tb_min (f e.1) (ne_two (V e.2.1 i k) (V e.2.2.1 k j) (j - k))))))
    (hn : ∀ k f, i < k → k < j → J k (gP R).length f → J (k + 1) 0 f)
    (hU : ∀ (E : go_E) (d : Nat) (Q : List go_V → go_F → (Nat → Nat → Int) → Prop) (δ1 : Nat → Nat → Int) (f : Nat → Int), J j 0 f → tfr δ1 o ns f → (∀ c j, c ≠ o + 2 → δ1 c j = δ c j) →
      (∀ δ2, tfr δ2 o ns (fun x => V x i j) → (∀ c q, c ≠ o + 2 → True → δ2 c q = δ1 c q) → Q [] go_φ δ2) → Go E (d + 2) (0, 0) mx_X7_takeUnits go_φ 0 [(0, vv_A o), (1, vv_I (slt al i j : Int))] [] δ1 Q)
    (hQ : ∀ δ', (∀ x, x < ns → δ' (o + 1) (slt al i j * 62 + x) = V x i j) → (∀ c q, c ≠ o + 2 → True → (c = o + 1 → ∀ x, x < 62 → q ≠ slt al i j * 62 + x) → δ' c q = δ c q) → Q [] go_φ δ') :
    Go E (d + 4) (0, 0) mx_X7_fillSpan go_φ 0 [(0, vv_A o), (1, vv_I (i : Int)), (2, vv_I (j : Int))] [] δ Q := by
  have hoo := tb_o ho
  have hR := hb.2.2.2.2.2.2
  have hH := gH_le hR
  have h14 := hc.2.2.1
  have hsl := slt_lt2 (al := al) hij (show j ≤ 14 by omega)
  have hcnt := hb.1
  -- the last loop: what is fresh becomes the span's
  have fin : ∀ δ1 : Nat → Nat → Int, tfr δ1 o ns (fun x => V x i j) → (∀ c q, c ≠ o + 2 → True → δ1 c q = δ c q) →
      Go E (d + 4) (0, 0) mx_X7_fillSpan go_φ 103 [(0, vv_A o), (1, vv_I (i : Int)), (2, vv_I (j : Int)), (3, vv_I (ns : Int)), (4, vv_I ((slt al i j * 62 : Nat) : Int)), (5, vv_I 0)] [] δ1 Q := fun δ1 h1 f1 => by
    refine lp_up (X := Nat → Nat → Int) (hi := ns) (I := fun x δ2 => (∀ y, y < x → δ2 (o + 1) (slt al i j * 62 + y) = V y i j) ∧ (∀ c q, (c = o + 1 → ∀ y, y < 62 → q ≠ slt al i j * 62 + y) → δ2 c q = δ1 c q))
      (G := fun x δ2 => Go E (d + 4) (0, 0) mx_X7_fillSpan go_φ 103 [(0, vv_A o), (1, vv_I (i : Int)), (2, vv_I (j : Int)), (3, vv_I (ns : Int)), (4, vv_I ((slt al i j * 62 : Nat) : Int)), (5, vv_I (x : Int))] [] δ2 Q) (fun x δ2 hx hI ih => by
        refine go_iload dx_X7_fillSpan_103 rfl ?_
        refine go_iload_n (i := 3) dx_X7_fillSpan_105 rfl rfl ?_
        refine go_icmp_ge (tgt := 136) dx_X7_fillSpan_106 rfl (by omega) (by omega) (fun c106 => by exact absurd c106 (by omega)) (fun c106 => ?_)
        refine go_aload_n (i := 0) dx_X7_fillSpan_109 rfl rfl ?_
        refine go_getA (b := (o + 1)) fs_X7_27_4 rfl (tb_k0 ho) (tb_r4 ho) dx_X7_fillSpan_110 ?_
        refine go_iload dx_X7_fillSpan_113 rfl ?_
        refine go_iload dx_X7_fillSpan_115 rfl ?_
        refine go_iadd dx_X7_fillSpan_117 ?_
        refine go_aload_n (i := 0) dx_X7_fillSpan_118 rfl rfl ?_
        refine go_getA (b := (o + 2)) fs_X7_31_4 rfl (tb_k0 ho) (tb_r5 ho) dx_X7_fillSpan_119 ?_
        refine go_iload dx_X7_fillSpan_122 rfl ?_
        refine go_cS2 ss_X7_63 dx_X7_fillSpan_124 (Nat.le_of_ble_eq_true rfl) (Nat.le_of_ble_eq_true rfl) (g_longAtV (i := x) (v := ((V x i j))) (tb_k2 ho) (by omega) (by rw [(tb_l2 ho)]; omega) (by rw [hI.2 _ _ (by omega)]; exact h1 x hx) ?_)
        refine go_cS3 ss_X7_44 dx_X7_fillSpan_127 (Nat.le_of_ble_eq_true rfl) (Nat.le_of_ble_eq_true rfl) (g_putLongN (i := slt al i j * 62 + x) (tb_k1 ho) (by omega) (tb_idx ho hij (by omega) (by omega)) ?_)
        refine go_iinc (lv' := [(0, vv_A o), (1, vv_I (i : Int)), (2, vv_I (j : Int)), (3, vv_I (ns : Int)), (4, vv_I ((slt al i j * 62 : Nat) : Int)), (5, vv_I ((x : Int) + 1))]) dx_X7_fillSpan_130 rfl (by decide) rfl ?_
        refine go_goto (tgt := 103) dx_X7_fillSpan_133 rfl ?_
        exact ih _ ⟨fun y hy => by
          by_cases e : y = x
          · subst e; rw [wr_eq]
          · rw [wr_i _ _ _ _ (by omega)]; exact hI.1 y (by omega), fun c' q hq => by
            rw [wr_n (fun w z => hq w x (by omega) z)]; exact hI.2 c' q hq⟩
      ) (fun δ2 hI => by
        refine go_iload dx_X7_fillSpan_103 rfl ?_
        refine go_iload_n (i := 3) dx_X7_fillSpan_105 rfl rfl ?_
        refine go_icmp_ge (tgt := 136) dx_X7_fillSpan_106 rfl (by omega) (by omega) (fun c106 => ?_) (fun c106 => by exact absurd c106 (by omega))
        refine go_vreturn dx_X7_fillSpan_136 rfl (Nat.le_refl _) (Nat.le_refl _) ?_
        exact hQ δ2 hI.1 (fun c' q a _ b => by rw [hI.2 c' q b]; exact f1 c' q a trivial)
      ) 0 δ1 (Nat.zero_le _) ⟨fun y hy => absurd hy (Nat.not_lt_zero _), fun _ _ _ => rfl⟩
  -- the cuts
  have cuts := lp_up (X := (Nat → Nat → Int) × (Nat → Int)) (hi := j) (I := fun k X => i < k ∧ tfr X.1 o ns X.2 ∧ J k 0 X.2 ∧ (∀ c j, c ≠ o + 2 → X.1 c j = δ c j))
    (G := fun k X => ∀ lv0, lv0 = [(0, vv_A o), (1, vv_I (i : Int)), (2, vv_I (j : Int)), (3, vv_I (ns : Int)), (4, vv_I (k : Int))] → Go E (d + 4) (0, 0) mx_X7_fillSpan go_φ 53 lv0 [] X.1 Q)
    (fun k X hk hI ih lv0 e0 => by
      subst e0
      obtain ⟨δ1, f1⟩ := X
      obtain ⟨i0, i1, i2, i3⟩ := hI
      dsimp only at i1 i2 i3 ⊢
      have hb1 : bi_at δ1 33 R := bi_fr hb (fun c' j a b => i3 c' j (by omega))
      have hc1 : ct_at δ1 c alc R pl nc := ct_fr hc (fun c' j hc' => i3 c' j (by omega))
      refine go_iload dx_X7_fillSpan_53 rfl ?_
      refine go_iload_n (i := 2) dx_X7_fillSpan_55 rfl rfl ?_
      refine go_icmp_ge (tgt := 73) dx_X7_fillSpan_56 rfl (by omega) (by omega) (fun c56 => by exact absurd c56 (by omega)) (fun c56 => ?_)
      refine go_aload_n (i := 0) dx_X7_fillSpan_59 rfl rfl ?_
      refine go_iload_n (i := 1) dx_X7_fillSpan_60 rfl rfl ?_
      refine go_iload dx_X7_fillSpan_61 rfl ?_
      refine go_iload_n (i := 2) dx_X7_fillSpan_63 rfl rfl ?_
      refine go_cV3 sv_X7_52_4 (tb_k0 ho) dx_X7_fillSpan_64 (Nat.le_of_ble_eq_true rfl) (Nat.le_of_ble_eq_true rfl) (g_Nearest_takeCut (V := V) (J := J k) ho hn7 hco hb1 hns hc1 (by rw [i3 _ _ (by omega)]; exact hal) (by rw [i3 _ _ (by omega)]; exact h3) i0 hk hj (fun x hx => by rw [i3 _ _ (by omega)]; exact hV i k (by omega) (by omega) (by omega) (by omega) x hx) (fun x hx => by rw [i3 _ _ (by omega)]; exact hV k j (by omega) (by omega) (by omega) (by omega) x hx) i1 i2 (fun p e he f hf => hs k p e i0 hk he f hf) (fun δ2 f2 h2 j2 g2 => ?_))
      refine go_iinc (lv' := [(0, vv_A o), (1, vv_I (i : Int)), (2, vv_I (j : Int)), (3, vv_I (ns : Int)), (4, vv_I ((k : Int) + 1))]) dx_X7_fillSpan_67 rfl (by decide) rfl ?_
      refine go_goto (tgt := 53) dx_X7_fillSpan_70 rfl ?_
      exact ih (δ2, f2) ⟨by omega, h2, hn k f2 i0 hk j2, fun c' q hq => (g2 c' q hq).trans (i3 c' q hq)⟩ _ rfl
    ) (fun X hI lv0 e0 => by
      subst e0
      obtain ⟨δ1, f1⟩ := X
      obtain ⟨i0, i1, i2, i3⟩ := hI
      dsimp only at i1 i2 i3 ⊢
      refine go_iload dx_X7_fillSpan_53 rfl ?_
      refine go_iload_n (i := 2) dx_X7_fillSpan_55 rfl rfl ?_
      refine go_icmp_ge (tgt := 73) dx_X7_fillSpan_56 rfl (by omega) (by omega) (fun c56 => ?_) (fun c56 => by exact absurd c56 (by omega))
      refine go_aload_n (i := 0) dx_X7_fillSpan_73 rfl rfl ?_
      refine go_iload_n (i := 1) dx_X7_fillSpan_74 rfl rfl ?_
      refine go_iload_n (i := 2) dx_X7_fillSpan_75 rfl rfl ?_
      refine go_aload_n (i := 0) dx_X7_fillSpan_76 rfl rfl ?_
      refine go_getI fs_X7_19_4 (Or.inr rfl) (tb_k0 ho) dx_X7_fillSpan_77 ?_
      refine go_asI (y := (bI al)) (by rw [i3 _ _ (by omega)]; exact hal) ?_
      refine go_cS3 ss_X7_56 dx_X7_fillSpan_80 (Nat.le_of_ble_eq_true rfl) (Nat.le_of_ble_eq_true rfl) (g_slotOf hij (by omega) ?_)
      refine go_cV1 sv_X7_60_4 (tb_k0 ho) dx_X7_fillSpan_83 (Nat.le_of_ble_eq_true rfl) (Nat.le_of_ble_eq_true rfl) (hU _ _ _ δ1 f1 i2 i1 i3 (fun δ2 h2 f2 => ?_))
      refine go_iload_n (i := 1) dx_X7_fillSpan_86 rfl rfl ?_
      refine go_iload_n (i := 2) dx_X7_fillSpan_87 rfl rfl ?_
      refine go_aload_n (i := 0) dx_X7_fillSpan_88 rfl rfl ?_
      refine go_getI fs_X7_19_4 (Or.inr rfl) (tb_k0 ho) dx_X7_fillSpan_89 ?_
      refine go_asI (y := (bI al)) (by rw [f2 _ _ (by omega) trivial, i3 _ _ (by omega)]; exact hal) ?_
      refine go_cS3 ss_X7_56 dx_X7_fillSpan_92 (Nat.le_of_ble_eq_true rfl) (Nat.le_of_ble_eq_true rfl) (g_slotOf hij (by omega) ?_)
      refine go_bipush dx_X7_fillSpan_95 rfl ?_
      refine go_imul dx_X7_fillSpan_97 ?_
      refine go_istore (lv' := [(0, vv_A o), (1, vv_I (i : Int)), (2, vv_I (j : Int)), (3, vv_I (ns : Int)), (4, vv_I ((slt al i j * 62 : Nat) : Int))]) dx_X7_fillSpan_98 (by decide) rfl ?_
      refine go_iconst dx_X7_fillSpan_100 ?_
      refine go_istore (lv' := [(0, vv_A o), (1, vv_I (i : Int)), (2, vv_I (j : Int)), (3, vv_I (ns : Int)), (4, vv_I ((slt al i j * 62 : Nat) : Int)), (5, vv_I 0)]) dx_X7_fillSpan_101 (by decide) rfl ?_
      exact fin δ2 h2 (fun c' q a _ => (f2 c' q a trivial).trans (i3 c' q a))
    )
  -- letters
  have lets : ∀ δ1 : Nat → Nat → Int, tfr δ1 o ns (fun _ => -1) → (∀ c j, c ≠ o + 2 → δ1 c j = δ c j) → Go E (d + 4) (0, 0) mx_X7_fillSpan go_φ 36 [(0, vv_A o), (1, vv_I (i : Int)), (2, vv_I (j : Int)), (3, vv_I (ns : Int))] [] δ1 Q := fun δ1 h1 f1 => by
    have hc1 : ct_at δ1 c alc R pl nc := ct_fr hc (fun c' j hc' => f1 c' j (by omega))
    have ht1 : td_at δ1 3 K := td_fr3 ht (fun c' j hc' => f1 c' j (by omega))
    refine go_iload_n (i := 2) dx_X7_fillSpan_36 rfl rfl ?_
    refine go_iload_n (i := 1) dx_X7_fillSpan_37 rfl rfl ?_
    refine go_isub dx_X7_fillSpan_38 ?_
    refine go_iconst dx_X7_fillSpan_39 ?_
    refine go_icmp_ne (tgt := 48) dx_X7_fillSpan_40 rfl (by omega) (by omega) (fun c40 => ?_) (fun c40 => ?_)
    · refine go_iload_n (i := 1) dx_X7_fillSpan_48 rfl rfl ?_
      refine go_iconst dx_X7_fillSpan_49 ?_
      refine go_iadd dx_X7_fillSpan_50 ?_
      refine go_istore (lv' := [(0, vv_A o), (1, vv_I (i : Int)), (2, vv_I (j : Int)), (3, vv_I (ns : Int)), (4, vv_I ((i + 1 : Nat) : Int))]) dx_X7_fillSpan_51 (by decide) rfl ?_
      rw [if_neg (show ¬ j = i + 1 by omega)] at hJ0
      exact cuts (i + 1) (δ1, _) hij ⟨by omega, h1, hJ0, f1⟩ _ rfl
    · refine go_aload_n (i := 0) dx_X7_fillSpan_43 rfl rfl ?_
      refine go_iload_n (i := 1) dx_X7_fillSpan_44 rfl rfl ?_
      refine go_cV1 sv_X7_48_4 (tb_k0 ho) dx_X7_fillSpan_45 (Nat.le_of_ble_eq_true rfl) (Nat.le_of_ble_eq_true rfl) (g_Nearest_takeLetters ho hn7 hco hR ht1 (hiK.elim (fun z => Or.inl (by omega)) Or.inr) hc1 (by omega) (by omega) h1 (fun δ2 h2 f2 => ?_))
      refine go_iload_n (i := 1) dx_X7_fillSpan_48 rfl rfl ?_
      refine go_iconst dx_X7_fillSpan_49 ?_
      refine go_iadd dx_X7_fillSpan_50 ?_
      refine go_istore (lv' := [(0, vv_A o), (1, vv_I (i : Int)), (2, vv_I (j : Int)), (3, vv_I (ns : Int)), (4, vv_I ((i + 1 : Nat) : Int))]) dx_X7_fillSpan_51 (by decide) rfl ?_
      rw [if_pos (show j = i + 1 by omega)] at hJ0
      exact cuts (i + 1) (δ2, _) hij ⟨by omega, h2, hJ0, fun c' q hq => (f2 c' q hq).trans (f1 c' q hq)⟩ _ rfl
  have first := lp_up (X := Nat → Nat → Int) (hi := ns) (I := fun x δ1 => (∀ y, y < x → δ1 (o + 2) y = -1) ∧ (∀ c j, c ≠ o + 2 → δ1 c j = δ c j))
    (G := fun x δ1 => Go E (d + 4) (0, 0) mx_X7_fillSpan go_φ 11 [(0, vv_A o), (1, vv_I (i : Int)), (2, vv_I (j : Int)), (3, vv_I (ns : Int)), (4, vv_I (x : Int))] [] δ1 Q) (fun x δ1 hx hI ih => by
      refine go_iload dx_X7_fillSpan_11 rfl ?_
      refine go_iload_n (i := 3) dx_X7_fillSpan_13 rfl rfl ?_
      refine go_icmp_ge (tgt := 36) dx_X7_fillSpan_14 rfl (by omega) (by omega) (fun c14 => by exact absurd c14 (by omega)) (fun c14 => ?_)
      refine go_aload_n (i := 0) dx_X7_fillSpan_17 rfl rfl ?_
      refine go_getA (b := (o + 2)) fs_X7_31_4 rfl (tb_k0 ho) (tb_r5 ho) dx_X7_fillSpan_18 ?_
      refine go_iload dx_X7_fillSpan_21 rfl ?_
      refine go_aload_n (i := 0) dx_X7_fillSpan_23 rfl rfl ?_
      refine go_getL fs_X7_23_4 rfl (tb_k0 ho) dx_X7_fillSpan_24 ?_
      refine go_asL (y := (-1)) (by rw [hI.2 _ _ (by omega)]; exact h3) ?_
      refine go_cS3 ss_X7_44 dx_X7_fillSpan_27 (Nat.le_of_ble_eq_true rfl) (Nat.le_of_ble_eq_true rfl) (g_putLongN (i := x) (tb_k2 ho) (by omega) (by rw [(tb_l2 ho)]; omega) ?_)
      refine go_iinc (lv' := [(0, vv_A o), (1, vv_I (i : Int)), (2, vv_I (j : Int)), (3, vv_I (ns : Int)), (4, vv_I ((x : Int) + 1))]) dx_X7_fillSpan_30 rfl (by decide) rfl ?_
      refine go_goto (tgt := 11) dx_X7_fillSpan_33 rfl ?_
      exact ih _ ⟨fun y hy => by
        by_cases e : y = x
        · subst e; rw [wr_eq]
        · rw [wr_i _ _ _ _ e]; exact hI.1 y (by omega), fun c' q hq => by rw [wr_a _ _ _ _ hq]; exact hI.2 c' q hq⟩
    ) (fun δ1 hI => by
      refine go_iload dx_X7_fillSpan_11 rfl ?_
      refine go_iload_n (i := 3) dx_X7_fillSpan_13 rfl rfl ?_
      refine go_icmp_ge (tgt := 36) dx_X7_fillSpan_14 rfl (by omega) (by omega) (fun c14 => ?_) (fun c14 => by exact absurd c14 (by omega))
      refine go_keep [0, 1, 2, 3] rfl ?_
      exact lets δ1 hI.1 hI.2
    )
  refine go_aload_n (i := 0) dx_X7_fillSpan_0 rfl rfl ?_
  refine go_getA (b := 33) fs_X7_9_4 rfl (tb_k0 ho) (tb_r0 ho) dx_X7_fillSpan_1 ?_
  refine go_cV0 sv_X7_38 (go_ok rfl rfl) dx_X7_fillSpan_4 (Nat.le_of_ble_eq_true rfl) (Nat.le_of_ble_eq_true rfl) (g_Binary_symbolCount bi_ok33 hcnt ?_)
  refine go_asI (y := (ns : Int)) (by rw [hns]) ?_
  refine go_istore_n (i := 3) (lv' := [(0, vv_A o), (1, vv_I (i : Int)), (2, vv_I (j : Int)), (3, vv_I (ns : Int))]) dx_X7_fillSpan_7 rfl (by decide) rfl ?_
  refine go_iconst dx_X7_fillSpan_8 ?_
  refine go_istore (lv' := [(0, vv_A o), (1, vv_I (i : Int)), (2, vv_I (j : Int)), (3, vv_I (ns : Int)), (4, vv_I 0)]) dx_X7_fillSpan_9 (by decide) rfl ?_
  exact first 0 δ (Nat.zero_le _) ⟨fun y hy => absurd hy (Nat.not_lt_zero _), fun _ _ _ => rfl⟩
end TC_Nearest

section TD_Nearest
variable {E : go_E} {d : Nat} {δ : Nat → Nat → Int} {Q : List go_V → go_F → (Nat → Nat → Int) → Prop} {o c n ns : Nat} {al : Bool} {V : Nat → Nat → Nat → Int}
theorem g_Nearest_fill (ho : tb_ok 4 o c al) (hal : δ o 2 = bI al) (hn : n ≤ 14) (hns : ns ≤ 62) (hsh : al = true → ∀ x i j i' j', i < j → i' < j' → j - i = j' - i' → V x i j = V x i' j')
    (hS : ∀ (E : go_E) (d : Nat) (Q : List go_V → go_F → (Nat → Nat → Int) → Prop) (δ1 : Nat → Nat → Int) (i j : Nat), i < j → j ≤ n → (∀ c q, c ≠ o + 1 → c ≠ o + 2 → True → δ1 c q = δ c q) →
      (∀ a b, a < b → b ≤ j → i ≤ a → b - a < j - i → ∀ x, x < ns → δ1 (o + 1) (slt al a b * 62 + x) = V x a b) →
      (∀ δ2, (∀ x, x < ns → δ2 (o + 1) (slt al i j * 62 + x) = V x i j) → (∀ c q, c ≠ o + 2 → True → (c = o + 1 → ∀ x, x < 62 → q ≠ slt al i j * 62 + x) → δ2 c q = δ1 c q) → Q [] go_φ δ2) →
      Go E (d + 4) (0, 0) mx_X7_fillSpan go_φ 0 [(0, vv_A o), (1, vv_I (i : Int)), (2, vv_I (j : Int))] [] δ1 Q)
    (hQ : ∀ δ', tvNearest_at δ' o al V ns n (n + 1) 0 → (∀ c q, c ≠ o + 1 → c ≠ o + 2 → True → δ' c q = δ c q) → Q [] go_φ δ') :
    Go E (d + 4 + 1) (0, 0) mx_X7_fill go_φ 0 [(0, vv_A o), (1, vv_I (n : Int))] [] δ Q := by
  have inner : ∀ (w bg : Nat), 1 ≤ w → w ≤ n → (bg = if al = true then 1 else n - w + 1) → ∀ δ1, (tvNearest_at δ1 o al V ns n w 0 ∧ (∀ c q, c ≠ o + 1 → c ≠ o + 2 → True → δ1 c q = δ c q)) →
      (∀ δ1, (tvNearest_at δ1 o al V ns n (w + 1) 0 ∧ (∀ c q, c ≠ o + 1 → c ≠ o + 2 → True → δ1 c q = δ c q)) → Go E (d + 4 + 1) (0, 0) mx_X7_fill go_φ 2 [(0, vv_A o), (1, vv_I (n : Int)), (2, vv_I ((w + 1 : Nat) : Int))] [] δ1 Q) →
      Go E (d + 4 + 1) (0, 0) mx_X7_fill go_φ 27 [(0, vv_A o), (1, vv_I (n : Int)), (2, vv_I (w : Int)), (3, vv_I (bg : Int)), (4, vv_I 0)] [] δ1 Q := by
    intro w bg hw1 hwn hbg δ1 hI0 KK
    have hbg2 : bg ≤ n - w + 1 := by rw [hbg]; split <;> omega
    refine lp_up (X := Nat → Nat → Int) (hi := bg) (I := fun i δ1 => tvNearest_at δ1 o al V ns n w i ∧ (∀ c q, c ≠ o + 1 → c ≠ o + 2 → True → δ1 c q = δ c q))
      (G := fun i δ1 => Go E (d + 4 + 1) (0, 0) mx_X7_fill go_φ 27 [(0, vv_A o), (1, vv_I (n : Int)), (2, vv_I (w : Int)), (3, vv_I (bg : Int)), (4, vv_I (i : Int))] [] δ1 Q)
      (fun i δ1 hi hI ih => ?_) (fun δ1 hI => ?_) 0 δ1 (Nat.zero_le _) hI0
    · obtain ⟨i1, i2⟩ := hI
      have hi0 : al = true → i = 0 := fun q => by rw [hbg, if_pos q] at hi; omega
      refine go_iload dx_X7_fill_27 rfl ?_
      refine go_iload_n (i := 3) dx_X7_fill_29 rfl rfl ?_
      refine go_icmp_ge (tgt := 49) dx_X7_fill_30 rfl (by omega) (by omega) (fun c30 => by exact absurd c30 (by omega)) (fun c30 => ?_)
      refine go_aload_n (i := 0) dx_X7_fill_33 rfl rfl ?_
      refine go_iload dx_X7_fill_34 rfl ?_
      refine go_iload dx_X7_fill_36 rfl ?_
      refine go_iload_n (i := 2) dx_X7_fill_38 rfl rfl ?_
      refine go_iadd dx_X7_fill_39 ?_
      refine go_asI (y := ((i + w : Nat) : Int)) (by omega) ?_
      refine go_cV2 sv_X7_34_4 (tb_k0 ho) dx_X7_fill_40 (Nat.le_of_ble_eq_true rfl) (Nat.le_of_ble_eq_true rfl) (hS _ _ _ δ1 i (i + w) (by omega) (by omega) i2 (fun a b hab hb ha hlt x hx => (i1 a b hab (by omega) (Or.inl (by omega))) x hx) (fun δ2 h2 f2 => ?_))
      refine go_iinc (lv' := [(0, vv_A o), (1, vv_I (n : Int)), (2, vv_I (w : Int)), (3, vv_I (bg : Int)), (4, vv_I ((i : Int) + 1))]) dx_X7_fill_43 rfl (by decide) rfl ?_
      refine go_goto (tgt := 27) dx_X7_fill_46 rfl ?_
      refine ih δ2 ⟨fun a b hab hbn hor => ?_, fun c' q a1 a2 _ => (f2 c' q a2 trivial (fun w => absurd w a1)).trans (i2 c' q a1 a2 trivial)⟩
      by_cases q : slt al a b = slt al i (i + w)
      · have hh := slt_ne (n := n) (show i < i + w by omega) hab hi0 q
        rw [q]
        have hv : ∀ x, V x a b = V x i (i + w) := fun x => by
          cases al with
          | true => exact hsh rfl x a b i (i + w) hab (by omega) (by omega)
          | false => obtain ⟨e1, e2⟩ := hh.2 rfl; rw [e1, e2]
        exact fun x hx => by rw [hv x]; exact h2 x hx
      · have hold := i1 a b hab hbn (by
          rcases hor with z | ⟨z1, z2⟩
          · exact Or.inl z
          · by_cases ea : a = i
            · exact absurd (by rw [ea, show b = i + w by omega]) q
            · exact Or.inr ⟨z1, by omega⟩)
        exact fun x hx => by rw [f2 _ _ (by omega) trivial (fun _ y hy => by omega)]; exact hold x hx
    · obtain ⟨i1, i2⟩ := hI
      refine go_iload dx_X7_fill_27 rfl ?_
      refine go_iload_n (i := 3) dx_X7_fill_29 rfl rfl ?_
      refine go_icmp_ge (tgt := 49) dx_X7_fill_30 rfl (by omega) (by omega) (fun c30 => ?_) (fun c30 => by exact absurd c30 (by omega))
      refine go_iinc (lv' := [(0, vv_A o), (1, vv_I (n : Int)), (2, vv_I ((w : Int) + 1)), (3, vv_I (bg : Int)), (4, vv_I (bg : Int))]) dx_X7_fill_49 rfl (by decide) rfl ?_
      refine go_goto (tgt := 2) dx_X7_fill_52 rfl ?_
      refine go_keep [0, 1, 2] rfl ?_
      refine KK δ1 ⟨fun a b hab hbn hor => ?_, i2⟩
      have hd : b - a < w ∨ b - a = w := by omega
      rcases hd with q | q
      · exact i1 a b hab hbn (Or.inl q)
      · cases hq : al with
        | true =>
          have e0 := i1 0 w (by omega) hwn (Or.inr ⟨by omega, by rw [hbg, if_pos hq]; decide⟩)
          have es : slt al a b = slt al 0 w := by unfold slt; rw [if_pos hq, if_pos hq]; omega
          subst hq
          have hv := fun x => hsh rfl x a b 0 w hab (by omega) (by omega)
          rw [es]
          exact fun x hx => by rw [hv x]; exact e0 x hx
        | false =>
          subst hq
          rw [if_neg Bool.false_ne_true] at hbg
          exact i1 a b hab hbn (Or.inr ⟨q, by omega⟩)
  have outer := lp_up (X := Nat → Nat → Int) (hi := n + 1) (I := fun w δ1 => 1 ≤ w ∧ tvNearest_at δ1 o al V ns n w 0 ∧ (∀ c q, c ≠ o + 1 → c ≠ o + 2 → True → δ1 c q = δ c q))
    (G := fun w δ1 => Go E (d + 4 + 1) (0, 0) mx_X7_fill go_φ 2 [(0, vv_A o), (1, vv_I (n : Int)), (2, vv_I (w : Int))] [] δ1 Q)
    (fun w δ1 hw hI ih => by
      obtain ⟨h1, hI⟩ := hI
      have h01 : δ1 o 2 = bI al := by rw [hI.2 _ _ (by omega) (by omega) trivial]; exact hal
      have K2 := inner w (if al = true then 1 else n - w + 1) h1 (by omega) rfl δ1 hI (fun δ2 h2 => ih δ2 ⟨by omega, h2⟩)
      cases al with
      | true =>
        rw [if_pos rfl] at K2
        refine go_iload_n (i := 2) dx_X7_fill_2 rfl rfl ?_
        refine go_iload_n (i := 1) dx_X7_fill_3 rfl rfl ?_
        refine go_icmp_gt (tgt := 55) dx_X7_fill_4 rfl (by omega) (by omega) (fun c4 => by exact absurd c4 (by omega)) (fun c4 => ?_)
        refine go_aload_n (i := 0) dx_X7_fill_7 rfl rfl ?_
        refine go_getI fs_X7_19_4 (Or.inr rfl) (tb_k0 ho) dx_X7_fill_8 ?_
        refine go_asI (y := 1) (by exact h01) ?_
        refine go_if_eq (tgt := 18) dx_X7_fill_11 rfl (by omega) (fun c11 => absurd c11 (by decide)) (fun c11 => ?_)
        refine go_iconst dx_X7_fill_14 ?_
        refine go_goto (tgt := 23) dx_X7_fill_15 rfl ?_
        refine go_istore_n (i := 3) (lv' := [(0, vv_A o), (1, vv_I (n : Int)), (2, vv_I (w : Int)), (3, vv_I 1)]) dx_X7_fill_23 rfl (by decide) rfl ?_
        refine go_iconst dx_X7_fill_24 ?_
        refine go_istore (lv' := [(0, vv_A o), (1, vv_I (n : Int)), (2, vv_I (w : Int)), (3, vv_I 1), (4, vv_I 0)]) dx_X7_fill_25 (by decide) rfl ?_
        exact K2
      | false =>
        rw [if_neg Bool.false_ne_true] at K2
        refine go_iload_n (i := 2) dx_X7_fill_2 rfl rfl ?_
        refine go_iload_n (i := 1) dx_X7_fill_3 rfl rfl ?_
        refine go_icmp_gt (tgt := 55) dx_X7_fill_4 rfl (by omega) (by omega) (fun c4 => by exact absurd c4 (by omega)) (fun c4 => ?_)
        refine go_aload_n (i := 0) dx_X7_fill_7 rfl rfl ?_
        refine go_getI fs_X7_19_4 (Or.inr rfl) (tb_k0 ho) dx_X7_fill_8 ?_
        refine go_asI (y := 0) (by exact h01) ?_
        refine go_if_eq (tgt := 18) dx_X7_fill_11 rfl (by omega) (fun c11 => ?_) (fun c11 => absurd c11 (by decide))
        refine go_iload_n (i := 1) dx_X7_fill_18 rfl rfl ?_
        refine go_iload_n (i := 2) dx_X7_fill_19 rfl rfl ?_
        refine go_isub dx_X7_fill_20 ?_
        refine go_iconst dx_X7_fill_21 ?_
        refine go_iadd dx_X7_fill_22 ?_
        refine go_asI (y := ((n - w + 1 : Nat) : Int)) (by omega) ?_
        refine go_istore_n (i := 3) (lv' := [(0, vv_A o), (1, vv_I (n : Int)), (2, vv_I (w : Int)), (3, vv_I ((n - w + 1 : Nat) : Int))]) dx_X7_fill_23 rfl (by decide) rfl ?_
        refine go_iconst dx_X7_fill_24 ?_
        refine go_istore (lv' := [(0, vv_A o), (1, vv_I (n : Int)), (2, vv_I (w : Int)), (3, vv_I ((n - w + 1 : Nat) : Int)), (4, vv_I 0)]) dx_X7_fill_25 (by decide) rfl ?_
        exact K2
    ) (fun δ1 hI => by
      obtain ⟨h1, h2, h3⟩ := hI
      refine go_iload_n (i := 2) dx_X7_fill_2 rfl rfl ?_
      refine go_iload_n (i := 1) dx_X7_fill_3 rfl rfl ?_
      refine go_icmp_gt (tgt := 55) dx_X7_fill_4 rfl (by omega) (by omega) (fun c4 => ?_) (fun c4 => by exact absurd c4 (by omega))
      refine go_vreturn dx_X7_fill_55 rfl (Nat.le_refl _) (Nat.le_refl _) ?_
      exact hQ δ1 h2 h3
    )
  refine go_iconst dx_X7_fill_0 ?_
  refine go_istore_n (i := 2) (lv' := [(0, vv_A o), (1, vv_I (n : Int)), (2, vv_I 1)]) dx_X7_fill_1 rfl (by decide) rfl ?_
  exact outer 1 δ (by omega) ⟨Nat.le_refl _, fun a b hab hbn hor => by omega, fun _ _ _ _ _ => rfl⟩
end TD_Nearest
