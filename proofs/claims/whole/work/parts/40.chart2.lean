/-! the class's charts: filling, pieces, beginnings -/
def jcp (R : Nat → List Nat) (pl : Nat → Nat → Prop) (i j m x : Nat) : Prop := ∃ e, e ∈ gP R ∧ e.1 = x ∧ ∃ k, i < k ∧ k < m ∧ k < j ∧ dp R pl e.2.1 i k ∧ dp R pl e.2.2.1 k j
/-- a chain of pieces from a place to the end -/
def chn (D : Nat → Nat → Prop) (n : Nat) : Nat → Nat → Prop
  | 0, p => p = n
  | k + 1, p => ∃ e, p < e ∧ e ≤ n ∧ D p e ∧ chn D n k e
/-- could begin so: some word that is derived begins with the letters of a row from a place on, as far as another -/
def bgn (R : Nat → List Nat) (pl : Nat → Nat → Prop) (i j x : Nat) : Prop := ∃ u v, i + u.length = j ∧ dpw pl i u ∧ dx R x (u ++ v)
section GCHART2
variable {E : go_E} {d : Nat} {δ : Nat → Nat → Int} {Q : List go_V → go_F → (Nat → Nat → Int) → Prop} {o p n : Nat} {al : Bool} {R : Nat → List Nat} {pl : Nat → Nat → Prop} {K : sK}
theorem g_Chart_readWord {rv : Bool} {w : List Nat} (ho : ch_ok o al) (h4 : 4 < o) (ht : td_at δ 3 K) (hw : w = if rv = true then K.2.2.reverse else K.2.2)
    (hQ : ∀ δ', pl_at δ' o (plw w) K.2.2.length → (∀ c j, c ≠ o + 1 → δ' c j = δ c j) → Q [] go_φ δ') :
    Go E (d + 1) (0, 0) mx_X1_readWord go_φ 0 [(0, vv_A o), (1, vv_A 3), (2, vv_I (bI rv))] [] δ Q := by
  have h14 := ht.2.2.2.2.2.2.2.2.1
  have hle := ht.2.2.2.2.2.2.2.2.2
  have h3 := ht.2.2.2.1
  have hwl : w.length = K.2.2.length := by subst hw; split; exact List.length_reverse; rfl
  have hwm : ∀ x ∈ w, 8 ≤ x ∧ x < 14 := by subst hw; split; exact fun x hx => hle x (List.mem_reverse.mp hx); exact hle
  have loop := lp_up (X := Nat → Nat → Int) (hi := K.2.2.length) (I := fun i δ1 => pl_at δ1 o (plw w) i ∧ (∀ c j, c ≠ o + 1 → δ1 c j = δ c j))
    (G := fun i δ1 => Go E (d + 1) (0, 0) mx_X1_readWord go_φ 2 [(0, vv_A o), (1, vv_A 3), (2, vv_I (bI rv)), (3, vv_I (i : Int))] [] δ1 Q)
    (fun i δ1 hi hI ih => by
      have ht1 : td_at δ1 3 K := td_fr3 ht (fun c j hc => hI.2 c j (by omega))
      have h31 := ht1.2.2.2.1
      have hwi : (w[i]'(by omega)) < 14 := (hwm _ (List.getElem_mem _)).2
      have tail : ∀ k (hk : k < K.2.2.length), K.2.2[k] = w[i]'(by omega) → Go E (d + 1) (0, 0) mx_X1_readWord go_φ 33 [(0, vv_A o), (1, vv_A 3), (2, vv_I (bI rv)), (3, vv_I (i : Int))] [vv_I (k : Int), vv_A 3, vv_I 1, vv_I (i : Int), vv_A (o + 1)] δ1 Q := fun k hk e => by
        obtain ⟨y, hy⟩ : ∃ y, w[i]'(by omega) = y := ⟨_, rfl⟩
        rw [hy] at e hwi
        refine go_cV1 sv_X1_35 (go_ok rfl rfl) dx_X1_readWord_33 (Nat.le_of_ble_eq_true rfl) (Nat.le_of_ble_eq_true rfl) (g_Told_letterAt td_ok3 ht1 hk ?_)
        refine go_asI (y := (y : Int)) (by rw [e]) ?_
        refine go_ishl dx_X1_readWord_36 ?_
        refine go_asI (y := ((2 ^ y : Nat) : Int)) (by exact bv_bit (by omega)) ?_
        refine go_cS3 ss_X1_39 dx_X1_readWord_37 (Nat.le_of_ble_eq_true rfl) (Nat.le_of_ble_eq_true rfl) (g_putIntN (i := i) (ch_k1 ho) (by omega) (by rw [(ch_l1 ho)]; omega) ?_)
        refine go_iinc (lv' := [(0, vv_A o), (1, vv_A 3), (2, vv_I (bI rv)), (3, vv_I ((i : Int) + 1))]) dx_X1_readWord_40 rfl (by decide) rfl ?_
        refine go_goto (tgt := 2) dx_X1_readWord_43 rfl ?_
        refine ih _ ⟨fun z hz => ?_, fun c j hc => by rw [wr_a _ _ _ _ hc]; exact hI.2 c j hc⟩
        by_cases q : z = i
        · subst q
          rw [wr_eq, mk_one hwi]
          refine congrArg _ (mk_congr (fun c _ => ?_))
          unfold plw
          rw [List.getElem?_eq_getElem (by omega), hy]
          exact ⟨fun q => by rw [q], fun q => by injection q⟩
        · rw [wr_i _ _ _ _ q]; exact hI.1 z (by omega)
      cases rv with
      | true =>
        rw [if_pos rfl] at hw
        rw [show bI true = 1 from rfl] at tail ⊢
        refine go_iload_n (i := 3) dx_X1_readWord_2 rfl rfl ?_
        refine go_aload_n (i := 1) dx_X1_readWord_3 rfl rfl ?_
        refine go_getI fs_X1_29 (Or.inl rfl) (go_ok rfl rfl) dx_X1_readWord_4 ?_
        refine go_asI (y := (K.2.2.length : Int)) (by exact h31) ?_
        refine go_icmp_ge (tgt := 46) dx_X1_readWord_7 rfl (by omega) (by omega) (fun c7 => by exact absurd c7 (by omega)) (fun c7 => ?_)
        refine go_aload_n (i := 0) dx_X1_readWord_10 rfl rfl ?_
        refine go_getA (b := (o + 1)) fs_X1_15 rfl (ch_k0 ho) (ch_r1 ho) dx_X1_readWord_11 ?_
        refine go_iload_n (i := 3) dx_X1_readWord_14 rfl rfl ?_
        refine go_iconst dx_X1_readWord_15 ?_
        refine go_aload_n (i := 1) dx_X1_readWord_16 rfl rfl ?_
        refine go_iload_n (i := 2) dx_X1_readWord_17 rfl rfl ?_
        refine go_if_eq (tgt := 32) dx_X1_readWord_18 rfl (by omega) (fun c18 => absurd c18 (by decide)) (fun c18 => ?_)
        refine go_aload_n (i := 1) dx_X1_readWord_21 rfl rfl ?_
        refine go_getI fs_X1_29 (Or.inl rfl) (go_ok rfl rfl) dx_X1_readWord_22 ?_
        refine go_asI (y := (K.2.2.length : Int)) (by exact h31) ?_
        refine go_iconst dx_X1_readWord_25 ?_
        refine go_isub dx_X1_readWord_26 ?_
        refine go_iload_n (i := 3) dx_X1_readWord_27 rfl rfl ?_
        refine go_isub dx_X1_readWord_28 ?_
        refine go_asI (y := ((K.2.2.length - 1 - i : Nat) : Int)) (by omega) ?_
        refine go_goto (tgt := 33) dx_X1_readWord_29 rfl ?_
        exact tail (K.2.2.length - 1 - i) (by omega) (by subst hw; rw [List.getElem_reverse])
      | false =>
        rw [if_neg Bool.false_ne_true] at hw
        rw [show bI false = 0 from rfl] at tail ⊢
        refine go_iload_n (i := 3) dx_X1_readWord_2 rfl rfl ?_
        refine go_aload_n (i := 1) dx_X1_readWord_3 rfl rfl ?_
        refine go_getI fs_X1_29 (Or.inl rfl) (go_ok rfl rfl) dx_X1_readWord_4 ?_
        refine go_asI (y := (K.2.2.length : Int)) (by exact h31) ?_
        refine go_icmp_ge (tgt := 46) dx_X1_readWord_7 rfl (by omega) (by omega) (fun c7 => by exact absurd c7 (by omega)) (fun c7 => ?_)
        refine go_aload_n (i := 0) dx_X1_readWord_10 rfl rfl ?_
        refine go_getA (b := (o + 1)) fs_X1_15 rfl (ch_k0 ho) (ch_r1 ho) dx_X1_readWord_11 ?_
        refine go_iload_n (i := 3) dx_X1_readWord_14 rfl rfl ?_
        refine go_iconst dx_X1_readWord_15 ?_
        refine go_aload_n (i := 1) dx_X1_readWord_16 rfl rfl ?_
        refine go_iload_n (i := 2) dx_X1_readWord_17 rfl rfl ?_
        refine go_if_eq (tgt := 32) dx_X1_readWord_18 rfl (by omega) (fun c18 => ?_) (fun c18 => absurd c18 (by decide))
        refine go_iload_n (i := 3) dx_X1_readWord_32 rfl rfl ?_
        exact tail i hi (by subst hw; rfl)
    ) (fun δ1 hI => by
      have ht1 : td_at δ1 3 K := td_fr3 ht (fun c j hc => hI.2 c j (by omega))
      have h31 := ht1.2.2.2.1
      refine go_iload_n (i := 3) dx_X1_readWord_2 rfl rfl ?_
      refine go_aload_n (i := 1) dx_X1_readWord_3 rfl rfl ?_
      refine go_getI fs_X1_29 (Or.inl rfl) (go_ok rfl rfl) dx_X1_readWord_4 ?_
      refine go_asI (y := (K.2.2.length : Int)) (by exact h31) ?_
      refine go_icmp_ge (tgt := 46) dx_X1_readWord_7 rfl (by omega) (by omega) (fun c7 => ?_) (fun c7 => by exact absurd c7 (by omega))
      refine go_vreturn dx_X1_readWord_46 rfl (Nat.le_refl _) (Nat.le_refl _) ?_
      exact hQ δ1 hI.1 hI.2
    )
  refine go_iconst dx_X1_readWord_0 ?_
  refine go_istore_n (i := 3) (lv' := [(0, vv_A o), (1, vv_A 3), (2, vv_I (bI rv)), (3, vv_I 0)]) dx_X1_readWord_1 rfl (by decide) rfl ?_
  exact loop 0 δ (Nat.zero_le _) ⟨fun z hz => absurd hz (Nat.not_lt_zero _), fun _ _ _ => rfl⟩
theorem g_Chart_readAnything (ho : ch_ok o al) (hQ : ∀ δ', pl_at δ' o pla 14 → (∀ c j, c ≠ o + 1 → δ' c j = δ c j) → Q [] go_φ δ') :
    Go E d (0, 0) mx_X1_readAnything go_φ 0 [(0, vv_A o)] [] δ Q := by
  have ha : (go_kd (o + 1) = 20 ∨ go_kd (o + 1) = 21 ∨ go_kd (o + 1) = 22 ∨ go_kd (o + 1) = 23) ∧ o + 1 < go_φ.1 := ⟨Or.inl (ch_k1 ho).1, (ch_k1 ho).2⟩
  have hl := ch_l1 ho
  have e0 : (16128 : Nat) = mk 14 (fun c => 8 ≤ c ∧ c < 14) := mk_eq (by decide) (by decide)
  have loop := lp_up (X := Nat → Nat → Int) (hi := 14) (I := fun i δ1 => pl_at δ1 o pla i ∧ (∀ c j, c ≠ o + 1 → δ1 c j = δ c j))
    (G := fun i δ1 => Go E d (0, 0) mx_X1_readAnything go_φ 2 [(0, vv_A o), (1, vv_I (i : Int))] [] δ1 Q) (fun i δ1 hi hI ih => by
      refine go_iload_n (i := 1) dx_X1_readAnything_2 rfl rfl ?_
      refine go_aload_n (i := 0) dx_X1_readAnything_3 rfl rfl ?_
      refine go_getA (b := (o + 1)) fs_X1_15 rfl (ch_k0 ho) (ch_r1 ho) dx_X1_readAnything_4 ?_
      refine go_arraylength dx_X1_readAnything_7 (by assumption) ?_
      refine go_asI (y := ((14 : Nat) : Int)) (by rw [hl]) ?_
      refine go_icmp_ge (tgt := 26) dx_X1_readAnything_8 rfl (by omega) (by omega) (fun c8 => by exact absurd c8 (by omega)) (fun c8 => ?_)
      refine go_aload_n (i := 0) dx_X1_readAnything_11 rfl rfl ?_
      refine go_getA (b := (o + 1)) fs_X1_15 rfl (ch_k0 ho) (ch_r1 ho) dx_X1_readAnything_12 ?_
      refine go_iload_n (i := 1) dx_X1_readAnything_15 rfl rfl ?_
      refine go_sipush dx_X1_readAnything_16 rfl ?_
      refine go_iastoreV (i := i) dx_X1_readAnything_19 (ch_k1 ho) (by omega) (by rw [(ch_l1 ho)]; omega) ?_
      refine go_iinc (lv' := [(0, vv_A o), (1, vv_I ((i : Int) + 1))]) dx_X1_readAnything_20 rfl (by decide) rfl ?_
      refine go_goto (tgt := 2) dx_X1_readAnything_23 rfl ?_
      refine ih _ ⟨fun z hz => ?_, fun c j hc => by rw [wr_a _ _ _ _ hc]; exact hI.2 c j hc⟩
      by_cases e : z = i
      · subst e; rw [wr_eq, show pla z = fun c => 8 ≤ c ∧ c < 14 from rfl, ← e0]; rfl
      · rw [wr_i _ _ _ _ e]; exact hI.1 z (by omega)
    ) (fun δ1 hI => by
      refine go_iload_n (i := 1) dx_X1_readAnything_2 rfl rfl ?_
      refine go_aload_n (i := 0) dx_X1_readAnything_3 rfl rfl ?_
      refine go_getA (b := (o + 1)) fs_X1_15 rfl (ch_k0 ho) (ch_r1 ho) dx_X1_readAnything_4 ?_
      refine go_arraylength dx_X1_readAnything_7 (by assumption) ?_
      refine go_asI (y := ((14 : Nat) : Int)) (by rw [hl]) ?_
      refine go_icmp_ge (tgt := 26) dx_X1_readAnything_8 rfl (by omega) (by omega) (fun c8 => ?_) (fun c8 => by exact absurd c8 (by omega))
      refine go_vreturn dx_X1_readAnything_26 rfl (Nat.le_refl _) (Nat.le_refl _) ?_
      exact hQ δ1 hI.1 hI.2
    )
  refine go_iconst dx_X1_readAnything_0 ?_
  refine go_istore_n (i := 1) (lv' := [(0, vv_A o), (1, vv_I 0)]) dx_X1_readAnything_1 rfl (by decide) rfl ?_
  exact loop 0 δ (Nat.zero_le _) ⟨fun z hz => absurd hz (Nat.not_lt_zero _), fun _ _ _ => rfl⟩
theorem g_Chart_joinCuts {i w m : Nat} (ho : ch_ok o al) (hp : bi_ok p) (hb : bi_at δ p R) (h0 : δ o 0 = bI al) (h5 : δ o 5 = (n : Int)) (hn : n ≤ 14) (hcf : cf_at δ o al R pl n w m) (hw : i + w ≤ n)
    (hQ : Q [vv_L (mk 62 (jcp R pl i (i + w) (i + w)) : Int)] go_φ δ) : Go E (d + 3) (0, 0) mx_X1_joinCuts go_φ 0 [(0, vv_A o), (1, vv_A p), (2, vv_I (i : Int)), (3, vv_I ((i + w : Nat) : Int))] [] δ Q := by
  have cell : ∀ (E : go_E) (d : Nat) (Q : List go_V → go_F → (Nat → Nat → Int) → Prop) (a b : Nat), a < b → b ≤ n → b - a < w → Q [vv_L (mk 62 (fun x => dp R pl x a b) : Int)] go_φ δ → Go E (d + 1) (0, 0) mx_X1_cellAt go_φ 0 [(0, vv_A o), (1, vv_I (a : Int)), (2, vv_I (b : Int))] [] δ Q := fun E d Q a b ha hb hab hq => by
    refine go_aload_n (i := 0) dx_X1_cellAt_0 rfl rfl ?_
    refine go_iload_n (i := 1) dx_X1_cellAt_1 rfl rfl ?_
    refine go_iload_n (i := 2) dx_X1_cellAt_2 rfl rfl ?_
    refine go_cV2 sv_X1_76 (ch_k0 ho) dx_X1_cellAt_3 (Nat.le_of_ble_eq_true rfl) (Nat.le_of_ble_eq_true rfl) (g_Chart_hasSpan ho h5 hn (by omega) (by omega) ?_)
    refine go_b_eq (tgt := 28) dx_X1_cellAt_6 rfl (fun c6 => by exact absurd ⟨by omega, by omega, by omega⟩ c6) (fun c6 => ?_)
    refine go_aload_n (i := 0) dx_X1_cellAt_9 rfl rfl ?_
    refine go_getA (b := (o + 2)) fs_X1_19 rfl (ch_k0 ho) (ch_r2 ho) dx_X1_cellAt_10 ?_
    refine go_iload_n (i := 1) dx_X1_cellAt_13 rfl rfl ?_
    refine go_iload_n (i := 2) dx_X1_cellAt_14 rfl rfl ?_
    refine go_aload_n (i := 0) dx_X1_cellAt_15 rfl rfl ?_
    refine go_getI fs_X1_9 (Or.inr rfl) (ch_k0 ho) dx_X1_cellAt_16 ?_
    refine go_asI (y := (bI al)) (by exact h0) ?_
    refine go_cS3 ss_X1_54 dx_X1_cellAt_19 (Nat.le_of_ble_eq_true rfl) (Nat.le_of_ble_eq_true rfl) (g_slotOf (by omega) (by omega) ?_)
    refine go_cS2 ss_X1_80 dx_X1_cellAt_22 (Nat.le_of_ble_eq_true rfl) (Nat.le_of_ble_eq_true rfl) (g_longAtV (ch_k2 ho) rfl (slt_lt ho (by omega) (by omega)) (hcf a b ha hb (Or.inl hab)) ?_)
    refine go_goto (tgt := 29) dx_X1_cellAt_25 rfl ?_
    refine go_lreturn dx_X1_cellAt_29 rfl (Nat.le_refl _) (Nat.le_refl _) ?_
    exact hq
  have loop := lp_up (X := Unit) (hi := w - 1) (I := fun _ _ => True)
    (G := fun k _ => ∀ lv0, lv0 = [(0, vv_A o), (1, vv_A p), (2, vv_I (i : Int)), (3, vv_I ((i + w : Nat) : Int)), (4, vv_L (mk 62 (jcp R pl i (i + w) (i + 1 + k)) : Int)), (6, vv_I ((i + 1 + k : Nat) : Int))] → Go E (d + 3) (0, 0) mx_X1_joinCuts go_φ 8 lv0 [] δ Q)
    (fun k _ hk _ ih lv0 e0 => by
      subst e0
      have h63 := mk_63 62 (jcp R pl i (i + w) (i + 1 + k)) (by decide)
      refine go_iload dx_X1_joinCuts_8 rfl ?_
      refine go_iload_n (i := 3) dx_X1_joinCuts_10 rfl rfl ?_
      refine go_icmp_ge (tgt := 43) dx_X1_joinCuts_11 rfl (by omega) (by omega) (fun c11 => by exact absurd c11 (by omega)) (fun c11 => ?_)
      refine go_lload dx_X1_joinCuts_14 rfl ?_
      refine go_aload_n (i := 1) dx_X1_joinCuts_16 rfl rfl ?_
      refine go_aload_n (i := 0) dx_X1_joinCuts_17 rfl rfl ?_
      refine go_iload_n (i := 2) dx_X1_joinCuts_18 rfl rfl ?_
      refine go_iload dx_X1_joinCuts_19 rfl ?_
      refine go_cV2 sv_X1_68 (ch_k0 ho) dx_X1_joinCuts_21 (Nat.le_of_ble_eq_true rfl) (Nat.le_of_ble_eq_true rfl) (cell _ _ _ i (i + 1 + k) (by omega) (by omega) (by omega) ?_)
      refine go_aload_n (i := 0) dx_X1_joinCuts_24 rfl rfl ?_
      refine go_iload dx_X1_joinCuts_25 rfl ?_
      refine go_iload_n (i := 3) dx_X1_joinCuts_27 rfl rfl ?_
      refine go_cV2 sv_X1_68 (ch_k0 ho) dx_X1_joinCuts_28 (Nat.le_of_ble_eq_true rfl) (Nat.le_of_ble_eq_true rfl) (cell _ _ _ (i + 1 + k) (i + w) (by omega) (by omega) (by omega) ?_)
      refine go_cV2 sv_X1_72 (bi_k0 hp) dx_X1_joinCuts_31 (Nat.le_of_ble_eq_true rfl) (Nat.le_of_ble_eq_true rfl) (g_Binary_joinAll hp hb (mk_lt 62 _) (mk_lt 62 _) ?_)
      refine go_lor dx_X1_joinCuts_34 ?_
      refine go_asL (y := (mk 62 (jcp R pl i (i + w) (i + 1 + (k + 1))) : Int)) (by rw [bw_orN h63 (mk_63 62 _ (by decide)), mk_or]; refine congrArg _ (mk_congr (fun x _ => ⟨fun q => ?_, fun q => ?_⟩)); (· rcases q with ⟨e, he, e1, k', k1, k2, k3, k4, k5⟩ | ⟨e, he, e1, q1, q2⟩; (· exact ⟨e, he, e1, k', k1, by omega, k3, k4, k5⟩); (· exact ⟨e, he, e1, i + 1 + k, by omega, by omega, by omega, (dp_bit hb.2.2.2.2.2.2).mp q1, (dp_bit hb.2.2.2.2.2.2).mp q2⟩)); (· obtain ⟨e, he, e1, k', k1, k2, k3, k4, k5⟩ := q; by_cases z : k' = i + 1 + k; (· subst z; exact Or.inr ⟨e, he, e1, (dp_bit hb.2.2.2.2.2.2).mpr k4, (dp_bit hb.2.2.2.2.2.2).mpr k5⟩); (· exact Or.inl ⟨e, he, e1, k', k1, by omega, k3, k4, k5⟩))) ?_
      refine go_lstore (lv' := [(0, vv_A o), (1, vv_A p), (2, vv_I (i : Int)), (3, vv_I ((i + w : Nat) : Int)), (4, vv_L (mk 62 (jcp R pl i (i + w) (i + 1 + (k + 1))) : Int)), (6, vv_I ((i + 1 + k : Nat) : Int))]) dx_X1_joinCuts_35 (by decide) rfl ?_
      refine go_iinc (lv' := [(0, vv_A o), (1, vv_A p), (2, vv_I (i : Int)), (3, vv_I ((i + w : Nat) : Int)), (4, vv_L (mk 62 (jcp R pl i (i + w) (i + 1 + (k + 1))) : Int)), (6, vv_I (((i + 1 + k : Nat) : Int) + 1))]) dx_X1_joinCuts_37 rfl (by decide) rfl ?_
      refine go_goto (tgt := 8) dx_X1_joinCuts_40 rfl ?_
      exact ih () trivial _ rfl
    ) (fun _ _ lv0 e0 => by
      subst e0
      have e : mk 62 (jcp R pl i (i + w) (i + 1 + (w - 1))) = mk 62 (jcp R pl i (i + w) (i + w)) := mk_congr (fun x _ => ⟨fun ⟨e, he, e1, k', k1, k2, k3, k4⟩ => ⟨e, he, e1, k', k1, k3, k3, k4⟩, fun ⟨e, he, e1, k', k1, k2, k3, k4⟩ => ⟨e, he, e1, k', k1, by omega, k3, k4⟩⟩)
      refine go_iload dx_X1_joinCuts_8 rfl ?_
      refine go_iload_n (i := 3) dx_X1_joinCuts_10 rfl rfl ?_
      refine go_icmp_ge (tgt := 43) dx_X1_joinCuts_11 rfl (by omega) (by omega) (fun c11 => ?_) (fun c11 => by exact absurd c11 (by omega))
      refine go_lload dx_X1_joinCuts_43 rfl ?_
      refine go_lreturn dx_X1_joinCuts_45 rfl (Nat.le_refl _) (Nat.le_refl _) ?_
      rw [e]
      exact hQ
    )
  refine go_lconst (x := 0) dx_X1_joinCuts_0 rfl ?_
  refine go_lstore (lv' := [(0, vv_A o), (1, vv_A p), (2, vv_I (i : Int)), (3, vv_I ((i + w : Nat) : Int)), (4, vv_L 0)]) dx_X1_joinCuts_1 (by decide) rfl ?_
  refine go_iload_n (i := 2) dx_X1_joinCuts_3 rfl rfl ?_
  refine go_iconst dx_X1_joinCuts_4 ?_
  refine go_iadd dx_X1_joinCuts_5 ?_
  refine go_istore (lv' := [(0, vv_A o), (1, vv_A p), (2, vv_I (i : Int)), (3, vv_I ((i + w : Nat) : Int)), (4, vv_L 0), (6, vv_I ((i + 1 + 0 : Nat) : Int))]) dx_X1_joinCuts_6 (by decide) rfl ?_
  have e : mk 62 (jcp R pl i (i + w) (i + 1 + 0)) = 0 := mk_zero (fun y _ ⟨e, he, e1, k', k1, k2, k3, k4⟩ => by omega)
  have k := loop 0 () (Nat.zero_le _) trivial _ rfl
  rw [e] at k
  exact k
theorem slt_ne {i j i' j' n : Nat} (hi : i < j) (hi' : i' < j') (hal : al = true → i = 0) (h : slt al i' j' = slt al i j) : j' - i' = j - i ∧ (al = false → i' = i ∧ j' = j) := by
  unfold slt at h
  cases al with
  | true =>
    rw [if_pos rfl, if_pos rfl] at h
    exact ⟨by omega, fun q => by cases q⟩
  | false =>
    rw [if_neg Bool.false_ne_true, if_neg Bool.false_ne_true] at h
    obtain ⟨a, b⟩ := tri_inj hi' hi h
    exact ⟨by omega, fun _ => ⟨a, b⟩⟩
theorem g_Chart_fill (ho : ch_ok o al) (hp : bi_ok p) (hop : o + 4 < p ∨ p + 10 < o) (hb : bi_at δ p R) (h0 : δ o 0 = bI al) (hn : n ≤ 14) (hpl : pl_at δ o pl n) (hlet : ∀ i c, pl i c → 8 ≤ c ∧ c < 14) (hal : al = true → ∀ i c, pl i c ↔ pl 0 c)
    (hQ : ∀ δ', ct_at δ' o al R pl n → (∀ c j, c ≠ o + 2 → (c = o → j ≠ 5) → δ' c j = δ c j) → Q [] go_φ δ') :
    Go E (d + 4) (0, 0) mx_X1_fill go_φ 0 [(0, vv_A o), (1, vv_A p), (2, vv_I (n : Int))] [] δ Q := by
  have hR := hb.2.2.2.2.2.2
  have inner : ∀ (w bg : Nat), 1 ≤ w → w ≤ n → (bg = if al = true then 1 else n - w + 1) → ∀ δ1, (cf_at δ1 o al R pl n w 0 ∧ (∀ c j, c ≠ o + 2 → (c = o → j ≠ 5) → δ1 c j = δ c j) ∧ δ1 o 5 = (n : Int)) →
      (∀ δ1, (cf_at δ1 o al R pl n (w + 1) 0 ∧ (∀ c j, c ≠ o + 2 → (c = o → j ≠ 5) → δ1 c j = δ c j) ∧ δ1 o 5 = (n : Int)) → Go E (d + 4) (0, 0) mx_X1_fill go_φ 7 [(0, vv_A o), (1, vv_A p), (2, vv_I (n : Int)), (3, vv_I ((w + 1 : Nat) : Int))] [] δ1 Q) →
      Go E (d + 4) (0, 0) mx_X1_fill go_φ 33 [(0, vv_A o), (1, vv_A p), (2, vv_I (n : Int)), (3, vv_I (w : Int)), (4, vv_I (bg : Int)), (5, vv_I 0)] [] δ1 Q := by
    intro w bg hw1 hwn hbg δ1 hI0 KK
    have hbg2 : bg ≤ n - w + 1 := by rw [hbg]; split <;> omega
    refine lp_up (X := Nat → Nat → Int) (hi := bg) (I := fun i δ1 => cf_at δ1 o al R pl n w i ∧ (∀ c j, c ≠ o + 2 → (c = o → j ≠ 5) → δ1 c j = δ c j) ∧ δ1 o 5 = (n : Int))
      (G := fun i δ1 => Go E (d + 4) (0, 0) mx_X1_fill go_φ 33 [(0, vv_A o), (1, vv_A p), (2, vv_I (n : Int)), (3, vv_I (w : Int)), (4, vv_I (bg : Int)), (5, vv_I (i : Int))] [] δ1 Q)
      (fun i δ1 hi hI ih => ?_) (fun δ1 hI => ?_) 0 δ1 (Nat.zero_le _) hI0
    · obtain ⟨i1, i2, i3⟩ := hI
      have hb1 : bi_at δ1 p R := bi_fr hb (fun c j h1 h2 => i2 c j (by omega) (by omega))
      have h01 : δ1 o 0 = bI al := by rw [i2 _ _ (by omega) (by omega)]; exact h0
      have hi0 : al = true → i = 0 := fun q => by rw [hbg, if_pos q] at hi; omega
      have tail : ∀ s : Nat, s < 2 ^ 62 → (∀ x, lf R s x ↔ dp R pl x i (i + w)) → Go E (d + 4) (0, 0) mx_X1_fill go_φ 69 [(0, vv_A o), (1, vv_A p), (2, vv_I (n : Int)), (3, vv_I (w : Int)), (4, vv_I (bg : Int)), (5, vv_I (i : Int))] [vv_L (s : Int)] δ1 Q := fun s hs hlf => by
        refine go_lstore (lv' := [(0, vv_A o), (1, vv_A p), (2, vv_I (n : Int)), (3, vv_I (w : Int)), (4, vv_I (bg : Int)), (5, vv_I (i : Int)), (6, vv_L (s : Int))]) dx_X1_fill_69 (by decide) rfl ?_
        refine go_aload_n (i := 0) dx_X1_fill_71 rfl rfl ?_
        refine go_getA (b := (o + 2)) fs_X1_19 rfl (ch_k0 ho) (ch_r2 ho) dx_X1_fill_72 ?_
        refine go_iload dx_X1_fill_75 rfl ?_
        refine go_iload dx_X1_fill_77 rfl ?_
        refine go_iload_n (i := 3) dx_X1_fill_79 rfl rfl ?_
        refine go_iadd dx_X1_fill_80 ?_
        refine go_asI (y := ((i + w : Nat) : Int)) (by omega) ?_
        refine go_aload_n (i := 0) dx_X1_fill_81 rfl rfl ?_
        refine go_getI fs_X1_9 (Or.inr rfl) (ch_k0 ho) dx_X1_fill_82 ?_
        refine go_asI (y := (bI al)) (by exact h01) ?_
        refine go_cS3 ss_X1_54 dx_X1_fill_85 (Nat.le_of_ble_eq_true rfl) (Nat.le_of_ble_eq_true rfl) (g_slotOf (by omega) (by omega) ?_)
        refine go_aload_n (i := 1) dx_X1_fill_88 rfl rfl ?_
        refine go_lload dx_X1_fill_89 rfl ?_
        refine go_cV1 sv_X1_58 (bi_k0 hp) dx_X1_fill_91 (Nat.le_of_ble_eq_true rfl) (Nat.le_of_ble_eq_true rfl) (g_Binary_liftAll hp hb1 hs ?_)
        refine go_cS3 ss_X1_64 dx_X1_fill_94 (Nat.le_of_ble_eq_true rfl) (Nat.le_of_ble_eq_true rfl) (g_putLongN (ch_k2 ho) rfl (slt_lt ho (by omega) (by omega)) ?_)
        refine go_iinc (lv' := [(0, vv_A o), (1, vv_A p), (2, vv_I (n : Int)), (3, vv_I (w : Int)), (4, vv_I (bg : Int)), (5, vv_I ((i : Int) + 1)), (6, vv_L (s : Int))]) dx_X1_fill_97 rfl (by decide) rfl ?_
        refine go_goto (tgt := 33) dx_X1_fill_100 rfl ?_
        refine go_keep [0, 1, 2, 3, 4, 5] rfl ?_
        refine ih _ ⟨fun a b hab hbn hor => ?_, fun c j h1 h2 => by rw [wr_a _ _ _ _ h1]; exact i2 c j h1 h2, by rw [wr_n (by omega)]; exact i3⟩
        by_cases q : slt al a b = slt al i (i + w)
        · have h2 := slt_ne (n := n) (show i < i + w by omega) hab hi0 q
          rw [q, wr_eq]
          refine congrArg _ (mk_congr (fun x _ => (hlf x).trans ?_))
          cases al with
          | true => exact dp_shift (hal rfl) (by omega) (by omega) (by omega)
          | false => obtain ⟨e1, e2⟩ := h2.2 rfl; rw [e1, e2]
        · rw [wr_i _ _ _ _ q]
          refine i1 a b hab hbn ?_
          rcases hor with z | ⟨z1, z2⟩
          · exact Or.inl z
          · by_cases ea : a = i
            · exact absurd (by rw [ea, show b = i + w by omega]) q
            · exact Or.inr ⟨z1, by omega⟩
      refine go_iload dx_X1_fill_33 rfl ?_
      refine go_iload dx_X1_fill_35 rfl ?_
      refine go_icmp_ge (tgt := 103) dx_X1_fill_37 rfl (by omega) (by omega) (fun c37 => by exact absurd c37 (by omega)) (fun c37 => ?_)
      refine go_iload_n (i := 3) dx_X1_fill_40 rfl rfl ?_
      refine go_iconst dx_X1_fill_41 ?_
      refine go_icmp_ne (tgt := 58) dx_X1_fill_42 rfl (by omega) (by omega) (fun c42 => ?_) (fun c42 => ?_)
      · refine go_aload_n (i := 0) dx_X1_fill_58 rfl rfl ?_
        refine go_aload_n (i := 1) dx_X1_fill_59 rfl rfl ?_
        refine go_iload dx_X1_fill_60 rfl ?_
        refine go_iload dx_X1_fill_62 rfl ?_
        refine go_iload_n (i := 3) dx_X1_fill_64 rfl rfl ?_
        refine go_iadd dx_X1_fill_65 ?_
        refine go_asI (y := ((i + w : Nat) : Int)) (by omega) ?_
        refine go_cV3 sv_X1_50 (ch_k0 ho) dx_X1_fill_66 (Nat.le_of_ble_eq_true rfl) (Nat.le_of_ble_eq_true rfl) (g_Chart_joinCuts ho hp hb1 h01 i3 hn i1 (by omega) ?_)
        refine tail _ (mk_lt 62 _) (fun x => ?_)
        rw [dp_step hR]
        have key : ∀ y, (mk 62 (jcp R pl i (i + w) (i + w))).testBit y = true ↔ dpB R pl y i (i + w) := fun y => by
          rw [mk_bit]
          constructor
          · rintro ⟨_, e, he, rfl, k, k1, k2, k3, k4, k5⟩; exact Or.inr ⟨e, he, rfl, k, k1, k2, k4, k5⟩
          · rintro (⟨_, _, q, _⟩ | ⟨e, he, rfl, k, k1, k2, k4, k5⟩)
            · omega
            · exact ⟨(pe_lt62 hR he).1, e, he, rfl, k, k1, k2, k2, k4, k5⟩
        unfold lf
        rw [key]
        exact ⟨fun q => q.elim Or.inl (fun ⟨y, y1, y2⟩ => Or.inr ⟨y, y1, (key y).mp y2⟩), fun q => q.elim Or.inl (fun ⟨y, y1, y2⟩ => Or.inr ⟨y, y1, (key y).mpr y2⟩)⟩
      · refine go_aload_n (i := 0) dx_X1_fill_45 rfl rfl ?_
        refine go_getA (b := (o + 1)) fs_X1_15 rfl (ch_k0 ho) (ch_r1 ho) dx_X1_fill_46 ?_
        refine go_iload dx_X1_fill_49 rfl ?_
        refine go_cS2 ss_X1_46 dx_X1_fill_51 (Nat.le_of_ble_eq_true rfl) (Nat.le_of_ble_eq_true rfl) (g_intAtV (i := i) (v := ((mk 14 (pl i) : Int))) (ch_k1 ho) (by omega) (by rw [(ch_l1 ho)]; omega) (by rw [i2 _ _ (by omega) (by omega)]; exact hpl i (by omega)) ?_)
        refine go_i2l dx_X1_fill_54 (by first | omega | (have := mk_31 14 (pl i) (by decide); omega)) ?_
        refine go_goto (tgt := 69) dx_X1_fill_55 rfl ?_
        have hw : w = 1 := by omega
        refine tail _ (Nat.lt_trans (mk_lt 14 _) (by decide)) (fun x => ?_)
        rw [dp_step hR]
        have key : ∀ y, (mk 14 (pl i)).testBit y = true ↔ dpB R pl y i (i + w) := fun y => by
          rw [mk_bit]
          constructor
          · rintro ⟨_, q⟩; have := hlet i y q; exact Or.inl ⟨this.1, this.2, by omega, q⟩
          · rintro (⟨_, q, _, q2⟩ | ⟨e, he, rfl, k, k1, k2, k4, k5⟩)
            · exact ⟨q, q2⟩
            · omega
        unfold lf
        rw [key]
        exact ⟨fun q => q.elim Or.inl (fun ⟨y, y1, y2⟩ => Or.inr ⟨y, y1, (key y).mp y2⟩), fun q => q.elim Or.inl (fun ⟨y, y1, y2⟩ => Or.inr ⟨y, y1, (key y).mpr y2⟩)⟩
    · obtain ⟨i1, i2, i3⟩ := hI
      refine go_iload dx_X1_fill_33 rfl ?_
      refine go_iload dx_X1_fill_35 rfl ?_
      refine go_icmp_ge (tgt := 103) dx_X1_fill_37 rfl (by omega) (by omega) (fun c37 => ?_) (fun c37 => by exact absurd c37 (by omega))
      refine go_iinc (lv' := [(0, vv_A o), (1, vv_A p), (2, vv_I (n : Int)), (3, vv_I ((w : Int) + 1)), (4, vv_I (bg : Int)), (5, vv_I (bg : Int))]) dx_X1_fill_103 rfl (by decide) rfl ?_
      refine go_goto (tgt := 7) dx_X1_fill_106 rfl ?_
      refine go_keep [0, 1, 2, 3] rfl ?_
      refine KK δ1 ⟨fun a b hab hbn hor => ?_, i2, i3⟩
      have hd : b - a < w ∨ b - a = w := by omega
      rcases hd with q | q
      · exact i1 a b hab hbn (Or.inl q)
      · cases hq : al with
        | true =>
          have e0 := i1 0 w (by omega) hwn (Or.inr ⟨by omega, by rw [hbg, if_pos hq]; decide⟩)
          have es : slt al a b = slt al 0 w := by unfold slt; rw [if_pos hq, if_pos hq]; omega
          subst hq
          rw [es, e0]
          exact congrArg _ (mk_congr (fun x _ => dp_shift (hal rfl) (by omega) (by omega) (by omega)))
        | false =>
          subst hq
          rw [if_neg Bool.false_ne_true] at hbg
          exact i1 a b hab hbn (Or.inr ⟨q, by omega⟩)
  have outer := lp_up (X := Nat → Nat → Int) (hi := n + 1) (I := fun w δ1 => 1 ≤ w ∧ cf_at δ1 o al R pl n w 0 ∧ (∀ c j, c ≠ o + 2 → (c = o → j ≠ 5) → δ1 c j = δ c j) ∧ δ1 o 5 = (n : Int))
    (G := fun w δ1 => Go E (d + 4) (0, 0) mx_X1_fill go_φ 7 [(0, vv_A o), (1, vv_A p), (2, vv_I (n : Int)), (3, vv_I (w : Int))] [] δ1 Q)
    (fun w δ1 hw hI ih => by
      obtain ⟨h1, hI⟩ := hI
      have h01 : δ1 o 0 = bI al := by rw [hI.2.1 _ _ (by omega) (by omega)]; exact h0
      have K2 := inner w (if al = true then 1 else n - w + 1) h1 (by omega) rfl δ1 hI (fun δ2 h2 => ih δ2 ⟨by omega, h2⟩)
      cases al with
      | true =>
        rw [if_pos rfl] at K2
        refine go_iload_n (i := 3) dx_X1_fill_7 rfl rfl ?_
        refine go_iload_n (i := 2) dx_X1_fill_8 rfl rfl ?_
        refine go_icmp_gt (tgt := 109) dx_X1_fill_9 rfl (by omega) (by omega) (fun c9 => by exact absurd c9 (by omega)) (fun c9 => ?_)
        refine go_aload_n (i := 0) dx_X1_fill_12 rfl rfl ?_
        refine go_getI fs_X1_9 (Or.inr rfl) (ch_k0 ho) dx_X1_fill_13 ?_
        refine go_asI (y := 1) (by exact h01) ?_
        refine go_if_eq (tgt := 23) dx_X1_fill_16 rfl (by omega) (fun c16 => absurd c16 (by decide)) (fun c16 => ?_)
        refine go_iconst dx_X1_fill_19 ?_
        refine go_goto (tgt := 28) dx_X1_fill_20 rfl ?_
        refine go_istore (lv' := [(0, vv_A o), (1, vv_A p), (2, vv_I (n : Int)), (3, vv_I (w : Int)), (4, vv_I 1)]) dx_X1_fill_28 (by decide) rfl ?_
        refine go_iconst dx_X1_fill_30 ?_
        refine go_istore (lv' := [(0, vv_A o), (1, vv_A p), (2, vv_I (n : Int)), (3, vv_I (w : Int)), (4, vv_I 1), (5, vv_I 0)]) dx_X1_fill_31 (by decide) rfl ?_
        exact K2
      | false =>
        rw [if_neg Bool.false_ne_true] at K2
        refine go_iload_n (i := 3) dx_X1_fill_7 rfl rfl ?_
        refine go_iload_n (i := 2) dx_X1_fill_8 rfl rfl ?_
        refine go_icmp_gt (tgt := 109) dx_X1_fill_9 rfl (by omega) (by omega) (fun c9 => by exact absurd c9 (by omega)) (fun c9 => ?_)
        refine go_aload_n (i := 0) dx_X1_fill_12 rfl rfl ?_
        refine go_getI fs_X1_9 (Or.inr rfl) (ch_k0 ho) dx_X1_fill_13 ?_
        refine go_asI (y := 0) (by exact h01) ?_
        refine go_if_eq (tgt := 23) dx_X1_fill_16 rfl (by omega) (fun c16 => ?_) (fun c16 => absurd c16 (by decide))
        refine go_iload_n (i := 2) dx_X1_fill_23 rfl rfl ?_
        refine go_iload_n (i := 3) dx_X1_fill_24 rfl rfl ?_
        refine go_isub dx_X1_fill_25 ?_
        refine go_iconst dx_X1_fill_26 ?_
        refine go_iadd dx_X1_fill_27 ?_
        refine go_asI (y := ((n - w + 1 : Nat) : Int)) (by omega) ?_
        refine go_istore (lv' := [(0, vv_A o), (1, vv_A p), (2, vv_I (n : Int)), (3, vv_I (w : Int)), (4, vv_I ((n - w + 1 : Nat) : Int))]) dx_X1_fill_28 (by decide) rfl ?_
        refine go_iconst dx_X1_fill_30 ?_
        refine go_istore (lv' := [(0, vv_A o), (1, vv_A p), (2, vv_I (n : Int)), (3, vv_I (w : Int)), (4, vv_I ((n - w + 1 : Nat) : Int)), (5, vv_I 0)]) dx_X1_fill_31 (by decide) rfl ?_
        exact K2
    ) (fun δ1 hI => by
      obtain ⟨h1, h2, h3, h4⟩ := hI
      refine go_iload_n (i := 3) dx_X1_fill_7 rfl rfl ?_
      refine go_iload_n (i := 2) dx_X1_fill_8 rfl rfl ?_
      refine go_icmp_gt (tgt := 109) dx_X1_fill_9 rfl (by omega) (by omega) (fun c9 => ?_) (fun c9 => by exact absurd c9 (by omega))
      refine go_vreturn dx_X1_fill_109 rfl (Nat.le_refl _) (Nat.le_refl _) ?_
      exact hQ δ1 ⟨by rw [h3 _ _ (by omega) (by omega)]; exact h0, h4, hn, fun i j a b => h2 i j a b (Or.inl (by omega))⟩ h3
    )
  refine go_aload_n (i := 0) dx_X1_fill_0 rfl rfl ?_
  refine go_iload_n (i := 2) dx_X1_fill_1 rfl rfl ?_
  refine go_putI fp_X1_43 rfl rfl (ch_k0 ho) dx_X1_fill_2 ?_
  refine go_iconst dx_X1_fill_5 ?_
  refine go_istore_n (i := 3) (lv' := [(0, vv_A o), (1, vv_A p), (2, vv_I (n : Int)), (3, vv_I 1)]) dx_X1_fill_6 rfl (by decide) rfl ?_
  exact outer 1 _ (by omega) ⟨Nat.le_refl _, fun a b hab hbn hor => by omega, fun c j h1 h2 => wr_n h2, wr_eq _ _ _ _⟩
end GCHART2
