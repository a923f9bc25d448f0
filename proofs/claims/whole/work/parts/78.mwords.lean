/-! the reference's calls: turned, words, first -/
theorem wdn_len (n : Nat) : ∀ k, (wdn n k).length = n := by
  induction n with
  | zero => intro k; rfl
  | succ n ih => intro k; show (wdn n (k / 6) ++ [8 + k % 6]).length = n + 1; rw [List.length_append, ih, List.length_singleton]
theorem wdn_get (n : Nat) : ∀ k q, q < n → (wdn n k)[q]? = some (8 + k / 6 ^ (n - 1 - q) % 6) := by
  induction n with
  | zero => intro k q h; exact absurd h (Nat.not_lt_zero _)
  | succ n ih =>
    intro k q h
    show (wdn n (k / 6) ++ [8 + k % 6])[q]? = _
    by_cases e : q = n
    · subst e
      rw [List.getElem?_append_right (by rw [wdn_len]; exact Nat.le_refl _), wdn_len, Nat.sub_self, show q + 1 - 1 - q = 0 by omega, Nat.pow_zero, Nat.div_one]
      rfl
    · rw [List.getElem?_append_left (by rw [wdn_len]; omega), ih _ _ (by omega), Nat.div_div_eq_div_mul, show n + 1 - 1 - q = n - 1 - q + 1 by omega, Nat.pow_succ, Nat.mul_comm]
theorem wdn_let {n k : Nat} : ∀ x ∈ wdn n k, 8 ≤ x ∧ x < 14 := fun x hx => by
  obtain ⟨q, hq, e⟩ := List.getElem_of_mem hx
  have h := wdn_get n k q (by rw [wdn_len] at hq; exact hq)
  rw [List.getElem?_eq_getElem hq, e] at h
  have := Option.some.inj h
  have := Nat.mod_lt (k / 6 ^ (n - 1 - q)) (show 0 < 6 by decide)
  omega
theorem dp_all {R : Nat → List Nat} {x : Nat} {u : List Nat} (h : 0 < u.length) : dp R (plw u) x 0 u.length ↔ dx R x u := by rw [dp_w (Nat.le_refl _) h, sl_all]
section GMWO
variable {E : go_E} {d : Nat} {δ : Nat → Nat → Int} {Q : List go_V → go_F → (Nat → Nat → Int) → Prop} {K : sK} {S : sS}
theorem m_turned (h : mx_at δ S) (hQ : ∀ δ', mx_at δ' S → fl δ δ' → Q [vv_I (oq_turned S.1)] go_φ δ') : Go E (d + 3) (0, 0) mx_X12_turned go_φ 0 [(0, vv_A 94)] [] δ Q := by
  refine go_aload_n (i := 0) dx_X12_turned_0 rfl rfl ?_
  refine go_iconst dx_X12_turned_1 ?_
  refine go_putI fp_X12_139 rfl rfl (go_ok rfl rfl) dx_X12_turned_2 ?_
  have h := mx_thr (v := 0) h
  have f0 : fl δ (wr δ 94 0 0) := fl_thr
  generalize wr δ 94 0 0 = δ0 at h f0 ⊢
  have hQ := fun δ' a (b : fl δ0 δ') => hQ δ' a (fl_tr f0 b)
  have hsc := @mx_of δ0 S h
  have hb := h.1.1
  have hlaid := h.2
  have ho := bo_of hb
  have hR := ho.1
  have h14 := hb.2.2.2.2.2.2.2.2.1
  have ht8 := hb.2.2.2.2.2.2.2.1
  have hlet := hb.2.2.2.2.2.2.2.2.2
  have l95 : go_ln 95 = 384 := rfl
  have l106 : go_ln 106 = 15 := rfl
  unfold oq_turned at hQ
  obtain ⟨n, hn⟩ : ∃ n, n = S.1.2.2.length := ⟨_, rfl⟩
  have e113 : δ0 95 113 = (n : Int) := by have := hb.2.2.1; rw [Nat.zero_add] at this; rw [hn]; exact this
  have e112 : δ0 95 112 = (S.1.2.1 : Int) := by have := hb.2.1; rwa [Nat.zero_add] at this
  have loop := lp_up (X := Nat → Nat → Int) (hi := n) (I := fun k δ1 => (∀ q, q < k → δ1 106 q = ((S.1.2.2.getD (n - 1 - q) 0 : Nat) : Int)) ∧ (∀ c j, c ≠ 106 → δ1 c j = δ0 c j))
    (G := fun k δ1 => Go E (d + 3) (0, 0) mx_X12_turned go_φ 12 [(0, vv_A 94), (1, vv_I (n : Int)), (2, vv_I (k : Int))] [] δ1 Q)
    (fun k δ1 hk hI ih => by
      obtain ⟨i1, i2⟩ := hI
      have e := hb.2.2.2.1 (n - 1 - k) (by omega)
      rw [Nat.zero_add] at e
      refine go_iload_n (i := 2) dx_X12_turned_12 rfl rfl ?_
      refine go_iload_n (i := 1) dx_X12_turned_13 rfl rfl ?_
      refine go_icmp_ge (tgt := 42) dx_X12_turned_14 rfl (by omega) (by omega) (fun c14 => by exact absurd c14 (by omega)) (fun c14 => ?_)
      refine go_aload_n (i := 0) dx_X12_turned_17 rfl rfl ?_
      refine go_getA (b := 106) fs_X12_48 rfl (go_ok rfl rfl) rfl dx_X12_turned_18 ?_
      refine go_iload_n (i := 2) dx_X12_turned_21 rfl rfl ?_
      refine go_aload_n (i := 0) dx_X12_turned_22 rfl rfl ?_
      refine go_getA (b := 95) fs_X12_7 rfl (go_ok rfl rfl) rfl dx_X12_turned_23 ?_
      refine go_bipush dx_X12_turned_26 rfl ?_
      refine go_iload_n (i := 1) dx_X12_turned_28 rfl rfl ?_
      refine go_iadd dx_X12_turned_29 ?_
      refine go_iconst dx_X12_turned_30 ?_
      refine go_isub dx_X12_turned_31 ?_
      refine go_iload_n (i := 2) dx_X12_turned_32 rfl rfl ?_
      refine go_isub dx_X12_turned_33 ?_
      refine go_ialoadV (i := (114 + (n - 1 - k))) (v := (((S.1.2.2.getD (n - 1 - k) 0 : Nat) : Int))) dx_X12_turned_34 (go_ok rfl rfl) (by omega) (show (114 + (n - 1 - k)) < 384 by omega) (by rw [i2 _ _ (by decide)]; exact e) ?_
      refine go_iastoreV (i := k) dx_X12_turned_35 (go_ok rfl rfl) (by omega) (show k < 15 by omega) ?_
      refine go_iinc (lv' := [(0, vv_A 94), (1, vv_I (n : Int)), (2, vv_I ((k : Int) + 1))]) dx_X12_turned_36 rfl (by decide) rfl ?_
      refine go_goto (tgt := 12) dx_X12_turned_39 rfl ?_
      refine ih _ ⟨fun q hq => ?_, fun c j hc => by rw [wr_n (by omega)]; exact i2 c j hc⟩
      by_cases z : q = k
      · subst z; rw [wr_eq]
      · rw [wr_n (by omega)]; exact i1 q (by omega)
    ) (fun δ1 hI => by
      obtain ⟨i1, i2⟩ := hI
      have hw : mw_at (wr δ1 94 20 0) S.1.2.2.reverse := fun k hk => by
        rw [List.length_reverse] at hk
        rw [wr_n (by omega), i1 k (by omega), List.getElem_reverse, List.getD_eq_getElem?_getD, List.getElem?_eq_getElem (by omega)]
        congr 2
        rw [Option.getD_some]
        congr 1
        omega
      have hlr : ∀ x ∈ S.1.2.2.reverse, 8 ≤ x ∧ x < 14 := fun x hx => hlet x (List.mem_reverse.mp hx)
      refine go_iload_n (i := 2) dx_X12_turned_12 rfl rfl ?_
      refine go_iload_n (i := 1) dx_X12_turned_13 rfl rfl ?_
      refine go_icmp_ge (tgt := 42) dx_X12_turned_14 rfl (by omega) (by omega) (fun c14 => ?_) (fun c14 => by exact absurd c14 (by omega))
      refine go_aload_n (i := 0) dx_X12_turned_42 rfl rfl ?_
      refine go_iconst dx_X12_turned_43 ?_
      refine go_putZ fp_X12_155 rfl rfl (go_ok rfl rfl) (by first | omega | (exact Or.inl rfl)) dx_X12_turned_44 ?_
      refine go_aload_n (i := 0) dx_X12_turned_47 rfl rfl ?_
      refine go_iload_n (i := 1) dx_X12_turned_48 rfl rfl ?_
      refine go_cV1 sv_X12_256 (go_ok rfl rfl) dx_X12_turned_49 (Nat.le_of_ble_eq_true rfl) (Nat.le_of_ble_eq_true rfl) (m_laysCells (n := n) (w := S.1.2.2.reverse) (bo_fr ho (fun j _ => by rw [wr_n (by omega)]; exact i2 95 j (by decide))) hlr (by rw [List.length_reverse, hn]) (by omega) hw (fun δ2 q1 q2 f2 => ?_))
      obtain ⟨a, b⟩ := hsc (δ' := δ2) (fun c j hc => by unfold sc at hc; rw [f2 c j (by unfold mfP mqP; omega), wr_n (by omega), i2 _ _ (by omega)]) (Or.inl (by rw [f2 _ _ (by unfold mfP mqP; omega), wr_eq]))
      have hQ := hQ δ2 a b
      rw [← hn] at hQ
      refine go_iload_n (i := 1) dx_X12_turned_52 rfl rfl ?_
      refine go_if_le (tgt := 76) dx_X12_turned_53 rfl (by omega) (fun c53 => ?_) (fun c53 => ?_)
      · refine go_iconst dx_X12_turned_76 ?_
        refine go_ireturn dx_X12_turned_77 rfl (Nat.le_refl _) (Nat.le_refl _) ?_
        first | (rw [b01_t c69] at hQ; exact hQ) | (rw [b01_f c69] at hQ; exact hQ) | (rw [b01_f (fun q => by have := dp_lt q; omega)] at hQ; exact hQ)
      · refine go_aload_n (i := 0) dx_X12_turned_56 rfl rfl ?_
        refine go_aload_n (i := 0) dx_X12_turned_57 rfl rfl ?_
        refine go_getA (b := 95) fs_X12_7 rfl (go_ok rfl rfl) rfl dx_X12_turned_58 ?_
        refine go_bipush dx_X12_turned_61 rfl ?_
        refine go_ialoadV (i := 112) (v := ((S.1.2.1 : Int))) dx_X12_turned_63 (go_ok rfl rfl) (by omega) (show 112 < 384 by omega) (by rw [f2 _ _ (by unfold mfP mqP; omega), wr_n (by omega), i2 _ _ (by decide)]; exact e112) ?_
        refine go_iconst dx_X12_turned_64 ?_
        refine go_asI (y := ((0 : Nat) : Int)) (by rfl) ?_
        refine go_iload_n (i := 1) dx_X12_turned_65 rfl rfl ?_
        refine go_cV3 sv_X12_268 (go_ok rfl rfl) dx_X12_turned_66 (Nat.le_of_ble_eq_true rfl) (Nat.le_of_ble_eq_true rfl) (m_doesDerive hR q2 (by rw [List.length_reverse]; omega) (by omega) (by omega) (by rw [List.length_reverse]; omega) ?_)
        refine go_b_eq (tgt := 76) dx_X12_turned_69 rfl (fun c69 => ?_) (fun c69 => ?_)
        · refine go_iconst dx_X12_turned_76 ?_
          refine go_ireturn dx_X12_turned_77 rfl (Nat.le_refl _) (Nat.le_refl _) ?_
          first | (rw [b01_t c69] at hQ; exact hQ) | (rw [b01_f c69] at hQ; exact hQ) | (rw [b01_f (fun q => by have := dp_lt q; omega)] at hQ; exact hQ)
        · refine go_iconst dx_X12_turned_72 ?_
          refine go_goto (tgt := 77) dx_X12_turned_73 rfl ?_
          refine go_ireturn dx_X12_turned_77 rfl (Nat.le_refl _) (Nat.le_refl _) ?_
          first | (rw [b01_t c69] at hQ; exact hQ) | (rw [b01_f c69] at hQ; exact hQ) | (rw [b01_f (fun q => by have := dp_lt q; omega)] at hQ; exact hQ)
    )
  refine go_aload_n (i := 0) dx_X12_turned_5 rfl rfl ?_
  refine go_cV0 sv_X12_253 (go_ok rfl rfl) dx_X12_turned_6 (Nat.le_of_ble_eq_true rfl) (Nat.le_of_ble_eq_true rfl) (m_letters hb ?_)
  refine go_asI (y := (n : Int)) (by rw [hn]) ?_
  refine go_istore_n (i := 1) (lv' := [(0, vv_A 94), (1, vv_I (n : Int))]) dx_X12_turned_9 rfl (by decide) rfl ?_
  refine go_iconst dx_X12_turned_10 ?_
  refine go_istore_n (i := 2) (lv' := [(0, vv_A 94), (1, vv_I (n : Int)), (2, vv_I 0)]) dx_X12_turned_11 rfl (by decide) rfl ?_
  exact loop 0 δ0 (Nat.zero_le _) ⟨fun q hq => absurd hq (Nat.not_lt_zero _), fun _ _ _ => rfl⟩
theorem m_wordMany {n : Nat} (hn : n ≤ 4) (hQ : Q [vv_I ((6 ^ n : Nat) : Int)] go_φ δ) : Go E d (0, 0) mx_X12_wordMany go_φ 0 [(0, vv_I (n : Int))] [] δ Q := by
  have hp : ∀ k, k ≤ 4 → 6 ^ k ≤ 6 ^ 4 := fun k hk => Nat.pow_le_pow_right (by decide) hk
  have loop := lp_up (X := Unit) (hi := n) (I := fun _ _ => True)
    (G := fun k _ => ∀ lv0, lv0 = [(0, vv_I (n : Int)), (1, vv_I ((6 ^ k : Nat) : Int)), (2, vv_I (k : Int))] → Go E d (0, 0) mx_X12_wordMany go_φ 4 lv0 [] δ Q)
    (fun k _ hk _ ih lv0 e0 => by
      subst e0
      have := hp k (by omega)
      refine go_iload_n (i := 2) dx_X12_wordMany_4 rfl rfl ?_
      refine go_iload_n (i := 0) dx_X12_wordMany_5 rfl rfl ?_
      refine go_icmp_ge (tgt := 20) dx_X12_wordMany_6 rfl (by omega) (by omega) (fun c6 => by exact absurd c6 (by omega)) (fun c6 => ?_)
      refine go_iload_n (i := 1) dx_X12_wordMany_9 rfl rfl ?_
      refine go_bipush dx_X12_wordMany_10 rfl ?_
      refine go_imul dx_X12_wordMany_12 ?_
      refine go_asI (y := ((6 ^ (k + 1) : Nat) : Int)) (by rw [Nat.pow_succ]; rfl) ?_
      refine go_istore_n (i := 1) (lv' := [(0, vv_I (n : Int)), (1, vv_I ((6 ^ (k + 1) : Nat) : Int)), (2, vv_I (k : Int))]) dx_X12_wordMany_13 rfl (by decide) rfl ?_
      refine go_iinc (lv' := [(0, vv_I (n : Int)), (1, vv_I ((6 ^ (k + 1) : Nat) : Int)), (2, vv_I ((k : Int) + 1))]) dx_X12_wordMany_14 rfl (by decide) rfl ?_
      refine go_goto (tgt := 4) dx_X12_wordMany_17 rfl ?_
      exact ih () trivial _ rfl
    ) (fun _ _ lv0 e0 => by
      subst e0
      refine go_iload_n (i := 2) dx_X12_wordMany_4 rfl rfl ?_
      refine go_iload_n (i := 0) dx_X12_wordMany_5 rfl rfl ?_
      refine go_icmp_ge (tgt := 20) dx_X12_wordMany_6 rfl (by omega) (by omega) (fun c6 => ?_) (fun c6 => by exact absurd c6 (by omega))
      refine go_iload_n (i := 1) dx_X12_wordMany_20 rfl rfl ?_
      refine go_ireturn dx_X12_wordMany_21 rfl (Nat.le_refl _) (Nat.le_refl _) ?_
      exact hQ
    )
  refine go_iconst dx_X12_wordMany_0 ?_
  refine go_istore_n (i := 1) (lv' := [(0, vv_I (n : Int)), (1, vv_I 1)]) dx_X12_wordMany_1 rfl (by decide) rfl ?_
  refine go_iconst dx_X12_wordMany_2 ?_
  refine go_istore_n (i := 2) (lv' := [(0, vv_I (n : Int)), (1, vv_I 1), (2, vv_I 0)]) dx_X12_wordMany_3 rfl (by decide) rfl ?_
  exact loop 0 () (Nat.zero_le _) trivial _ rfl
theorem m_isWord {n t : Nat} (hb : bk_at δ 95 0 K) (h1 : 1 ≤ n) (h4 : n ≤ 4) (ht : t < 6 ^ n) (hQ : ∀ δ', ml_at δ' K → mw_at δ' (wdn n t) → (∀ c j, ¬ sc c j → δ' c j = δ c j) → Q [vv_I (b01 (dx K.1 K.2.1 (wdn n t)))] go_φ δ') :
    Go E (d + 3) (0, 0) mx_X12_isWord go_φ 0 [(0, vv_A 94), (1, vv_I (n : Int)), (2, vv_I (t : Int))] [] δ Q := by
  have hR := (bo_of hb).1
  have ht8 := hb.2.2.2.2.2.2.2.1
  have l95 : go_ln 95 = 384 := rfl
  have l106 : go_ln 106 = 15 := rfl
  have e112 : δ 95 112 = (K.2.1 : Int) := by have := hb.2.1; rwa [Nat.zero_add] at this
  have ht2 : t < 1296 := Nat.lt_of_lt_of_le ht (Nat.pow_le_pow_right (n := 6) (by decide) h4)
  have loop := lp_dn (X := Nat → Nat → Int) (I := fun k δ1 => k ≤ n ∧ (∀ q, k ≤ q → q < n → δ1 106 q = ((8 + t / 6 ^ (n - 1 - q) % 6 : Nat) : Int)) ∧ (∀ c j, c ≠ 106 → δ1 c j = δ c j))
    (G := fun k δ1 => ∀ lv0, lv0 = [(0, vv_A 94), (1, vv_I (n : Int)), (2, vv_I (t : Int)), (3, vv_I ((t / 6 ^ (n - k) : Nat) : Int)), (4, vv_I ((k : Int) - 1))] → Go E (d + 3) (0, 0) mx_X12_isWord go_φ 7 lv0 [] δ1 Q)
    (fun k δ1 hI ih lv0 e0 => by
      subst e0
      obtain ⟨i0, i1, i2⟩ := hI
      have hle := Nat.div_le_self t (6 ^ (n - (k + 1)))
      have hsp : 6 ^ (n - k) = 6 ^ (n - (k + 1)) * 6 := by rw [show n - k = n - (k + 1) + 1 by omega, Nat.pow_succ]
      have ih2 : ∀ δ2, (∀ q, k ≤ q → q < n → δ2 106 q = ((8 + t / 6 ^ (n - 1 - q) % 6 : Nat) : Int)) → (∀ c j, c ≠ 106 → δ2 c j = δ c j) → Go E (d + 3) (0, 0) mx_X12_isWord go_φ 7 [(0, vv_A 94), (1, vv_I (n : Int)), (2, vv_I (t : Int)), (3, vv_I ((t / 6 ^ (n - (k + 1)) / 6 : Nat) : Int)), (4, vv_I ((k : Int) - 1))] [] δ2 Q := fun δ2 a b => by
        have := ih δ2 ⟨by omega, a, b⟩ _ rfl
        rw [hsp, ← Nat.div_div_eq_div_mul] at this
        exact this
      obtain ⟨L, hL⟩ : ∃ L, L = t / 6 ^ (n - (k + 1)) := ⟨_, rfl⟩
      rw [← hL] at ih2 hle ⊢
      rw [show (((k + 1 : Nat) : Int) - 1) = (k : Int) by omega]
      refine go_iload dx_X12_isWord_7 rfl ?_
      refine go_if_lt (tgt := 37) dx_X12_isWord_9 rfl (by omega) (fun c9 => by exact absurd c9 (by omega)) (fun c9 => ?_)
      refine go_aload_n (i := 0) dx_X12_isWord_12 rfl rfl ?_
      refine go_getA (b := 106) fs_X12_48 rfl (go_ok rfl rfl) rfl dx_X12_isWord_13 ?_
      refine go_iload dx_X12_isWord_16 rfl ?_
      refine go_bipush dx_X12_isWord_18 rfl ?_
      refine go_iload_n (i := 3) dx_X12_isWord_20 rfl rfl ?_
      refine go_bipush dx_X12_isWord_21 rfl ?_
      refine go_irem dx_X12_isWord_23 (by omega) (by omega) (by omega) (by omega) ?_
      refine go_asI (y := ((L % 6 : Nat) : Int)) (by rfl) ?_
      refine go_iadd dx_X12_isWord_24 ?_
      refine go_iastoreV (i := k) dx_X12_isWord_25 (go_ok rfl rfl) (by omega) (show k < 15 by omega) ?_
      refine go_iload_n (i := 3) dx_X12_isWord_26 rfl rfl ?_
      refine go_bipush dx_X12_isWord_27 rfl ?_
      refine go_idiv dx_X12_isWord_29 (by omega) (by omega) (by omega) (by omega) ?_
      refine go_asI (y := ((L / 6 : Nat) : Int)) (by rfl) ?_
      refine go_istore_n (i := 3) (lv' := [(0, vv_A 94), (1, vv_I (n : Int)), (2, vv_I (t : Int)), (3, vv_I ((L / 6 : Nat) : Int)), (4, vv_I (k : Int))]) dx_X12_isWord_30 rfl (by decide) rfl ?_
      refine go_iinc (lv' := [(0, vv_A 94), (1, vv_I (n : Int)), (2, vv_I (t : Int)), (3, vv_I ((L / 6 : Nat) : Int)), (4, vv_I ((k : Int) + (-1)))]) dx_X12_isWord_31 rfl (by decide) rfl ?_
      refine go_goto (tgt := 7) dx_X12_isWord_34 rfl ?_
      refine ih2 _ (fun q a b => ?_) (fun c j hc => by rw [wr_n (by omega)]; exact i2 c j hc)
      by_cases z : q = k
      · rw [z, wr_eq, show n - 1 - k = n - (k + 1) by omega, ← hL]; omega
      · rw [wr_n (by omega)]; exact i1 q (by omega) b
    ) (fun δ1 hI lv0 e0 => by
      subst e0
      obtain ⟨i0, i1, i2⟩ := hI
      obtain ⟨L, hL⟩ : ∃ L, L = t / 6 ^ (n - 0) := ⟨_, rfl⟩
      rw [← hL]
      have hw : mw_at (wr δ1 94 20 0) (wdn n t) := fun k hk => by
        have hk2 := hk
        rw [wdn_len] at hk2
        have e := wdn_get n t k hk2
        rw [List.getElem?_eq_getElem hk] at e
        rw [wr_n (by omega), i1 k (Nat.zero_le _) hk2, Option.some.inj e]
      have hlen := wdn_len n t
      refine go_iload dx_X12_isWord_7 rfl ?_
      refine go_if_lt (tgt := 37) dx_X12_isWord_9 rfl (by omega) (fun c9 => ?_) (fun c9 => by exact absurd c9 (by omega))
      refine go_aload_n (i := 0) dx_X12_isWord_37 rfl rfl ?_
      refine go_iconst dx_X12_isWord_38 ?_
      refine go_putZ fp_X12_155 rfl rfl (go_ok rfl rfl) (by first | omega | (exact Or.inl rfl)) dx_X12_isWord_39 ?_
      refine go_aload_n (i := 0) dx_X12_isWord_42 rfl rfl ?_
      refine go_iload_n (i := 1) dx_X12_isWord_43 rfl rfl ?_
      refine go_cV1 sv_X12_256 (go_ok rfl rfl) dx_X12_isWord_44 (Nat.le_of_ble_eq_true rfl) (Nat.le_of_ble_eq_true rfl) (m_laysCells (n := n) (w := wdn n t) (bo_fr (bo_of hb) (fun j _ => by rw [wr_n (by omega)]; exact i2 95 j (by decide))) wdn_let hlen (by omega) hw (fun δ2 q1 q2 f2 => ?_))
      refine go_aload_n (i := 0) dx_X12_isWord_47 rfl rfl ?_
      refine go_aload_n (i := 0) dx_X12_isWord_48 rfl rfl ?_
      refine go_getA (b := 95) fs_X12_7 rfl (go_ok rfl rfl) rfl dx_X12_isWord_49 ?_
      refine go_bipush dx_X12_isWord_52 rfl ?_
      refine go_ialoadV (i := 112) (v := ((K.2.1 : Int))) dx_X12_isWord_54 (go_ok rfl rfl) (by omega) (show 112 < 384 by omega) (by rw [f2 _ _ (by unfold mfP mqP; omega), wr_n (by omega), i2 _ _ (by decide)]; exact e112) ?_
      refine go_iconst dx_X12_isWord_55 ?_
      refine go_asI (y := ((0 : Nat) : Int)) (by rfl) ?_
      refine go_iload_n (i := 1) dx_X12_isWord_56 rfl rfl ?_
      refine go_cV3 sv_X12_268 (go_ok rfl rfl) dx_X12_isWord_57 (Nat.le_of_ble_eq_true rfl) (Nat.le_of_ble_eq_true rfl) (m_doesDerive hR q2 (by omega) (by omega) (by omega) (by omega) ?_)
      refine go_zreturn dx_X12_isWord_60 rfl (b01_01 _)  (Nat.le_refl _) (Nat.le_refl _) ?_
      have hiff : dp K.1 (plw (wdn n t)) K.2.1 0 n ↔ dx K.1 K.2.1 (wdn n t) := by
        have := dp_all (R := K.1) (x := K.2.1) (u := wdn n t) (by omega)
        rw [hlen] at this
        exact this
      rw [b01_c hiff]
      exact hQ δ2 (Or.inl (by rw [f2 _ _ (by unfold mfP mqP; omega), wr_eq])) (fun k hk => by rw [f2 _ _ (by unfold mfP mqP; omega)]; exact hw k hk) (fun c j hc => by unfold sc at hc; rw [f2 c j (by unfold mfP mqP; omega), wr_n (by omega), i2 _ _ (by omega)])
    )
  refine go_iload_n (i := 2) dx_X12_isWord_0 rfl rfl ?_
  refine go_istore_n (i := 3) (lv' := [(0, vv_A 94), (1, vv_I (n : Int)), (2, vv_I (t : Int)), (3, vv_I (t : Int))]) dx_X12_isWord_1 rfl (by decide) rfl ?_
  refine go_iload_n (i := 1) dx_X12_isWord_2 rfl rfl ?_
  refine go_iconst dx_X12_isWord_3 ?_
  refine go_isub dx_X12_isWord_4 ?_
  refine go_istore (lv' := [(0, vv_A 94), (1, vv_I (n : Int)), (2, vv_I (t : Int)), (3, vv_I (t : Int)), (4, vv_I ((n : Int) - 1))]) dx_X12_isWord_5 (by decide) rfl ?_
  have k := loop n δ ⟨Nat.le_refl _, fun q a b => absurd b (by omega), fun _ _ _ => rfl⟩ _ rfl
  rw [Nat.sub_self, Nat.pow_zero, Nat.div_one] at k
  exact k
theorem m_words {n : Int} (hn : go_iI n) (h : mx_at δ S) (hQ : ∀ δ', mx_at δ' S → fl δ δ' → Q [vv_I (oq_words S.1 n)] go_φ δ') : Go E (d + 4) (0, 0) mx_X12_words go_φ 0 [(0, vv_A 94), (1, vv_I n)] [] δ Q := by
  refine go_aload_n (i := 0) dx_X12_words_0 rfl rfl ?_
  refine go_iconst dx_X12_words_1 ?_
  refine go_putI fp_X12_139 rfl rfl (go_ok rfl rfl) dx_X12_words_2 ?_
  have h := mx_thr (v := 0) h
  have f0 : fl δ (wr δ 94 0 0) := fl_thr
  generalize wr δ 94 0 0 = δ0 at h f0 ⊢
  have hQ := fun δ' a (b : fl δ0 δ') => hQ δ' a (fl_tr f0 b)
  have hsc := @mx_of δ0 S h
  have hb := h.1.1
  have hlaid := h.2
  have ho := bo_of hb
  have hR := ho.1
  unfold oq_words at hQ
  refine go_iload_n (i := 1) dx_X12_words_5 rfl rfl ?_
  refine go_i2l dx_X12_words_6 (by omega) ?_
  refine go_lconst (x := 1) dx_X12_words_7 rfl ?_
  refine go_ldc2 (x := 4) kx_X12_356 dx_X12_words_8 ?_
  refine go_cS3 ss_X12_144 dx_X12_words_11 (Nat.le_of_ble_eq_true rfl) (Nat.le_of_ble_eq_true rfl) (m_within (by omega) (by omega) (by omega) (fun a1 a2 => ?_) (fun b1 => ?_))
  · refine go_if_ne (tgt := 20) dx_X12_words_14 rfl (by omega) (fun c14 => ?_) (fun c14 => absurd c14 (by decide))
    obtain ⟨p, rfl⟩ : ∃ p : Nat, n = (p : Int) := ⟨n.toNat, by omega⟩
    have hp : 6 ^ p ≤ 1296 := Nat.pow_le_pow_right (n := 6) (i := p) (j := 4) (by decide) (by omega)
    rw [if_neg (by omega), Int.toNat_natCast] at hQ
    obtain ⟨N, hN⟩ : ∃ N, N = 6 ^ p := ⟨_, rfl⟩
    rw [← hN] at hp hQ
    have loop := lp_up (X := Nat → Nat → Int) (hi := N) (I := fun k δ1 => ml_at δ1 S.1 ∧ (∀ c j, ¬ sc c j → δ1 c j = δ0 c j))
      (G := fun k δ1 => ∀ lv0, lv0 = [(0, vv_A 94), (1, vv_I (p : Int)), (2, vv_I (cn k (fun k => dx S.1.1 S.1.2.1 (wdn p k)) : Int)), (3, vv_I (k : Int))] → Go E (d + 4) (0, 0) mx_X12_words go_φ 24 lv0 [] δ1 Q)
      (fun k δ1 hk hI ih lv0 e0 => by
        subst e0
        obtain ⟨i1, i2⟩ := hI
        have hcl := cn_le k (fun k => dx S.1.1 S.1.2.1 (wdn p k))
        have hb1 : bk_at δ1 95 0 S.1 := bk_fr hb (fun j => i2 95 j (by unfold sc; omega))
        refine go_iload_n (i := 3) dx_X12_words_24 rfl rfl ?_
        refine go_iload_n (i := 1) dx_X12_words_25 rfl rfl ?_
        refine go_cS1 ss_X12_390 dx_X12_words_26 (Nat.le_of_ble_eq_true rfl) (Nat.le_of_ble_eq_true rfl) (m_wordMany (by omega) ?_)
        refine go_asI (y := (N : Int)) (by rw [hN]) ?_
        refine go_icmp_ge (tgt := 55) dx_X12_words_29 rfl (by omega) (by omega) (fun c29 => by exact absurd c29 (by omega)) (fun c29 => ?_)
        refine go_iload_n (i := 2) dx_X12_words_32 rfl rfl ?_
        refine go_aload_n (i := 0) dx_X12_words_33 rfl rfl ?_
        refine go_iload_n (i := 1) dx_X12_words_34 rfl rfl ?_
        refine go_iload_n (i := 3) dx_X12_words_35 rfl rfl ?_
        refine go_cV2 sv_X12_393 (go_ok rfl rfl) dx_X12_words_36 (Nat.le_of_ble_eq_true rfl) (Nat.le_of_ble_eq_true rfl) (m_isWord hb1 (by omega) (by omega) (by rw [← hN]; exact hk) (fun δ2 w1 w2 f2 => ?_))
        refine go_b_eq (tgt := 46) dx_X12_words_39 rfl (fun c39 => ?_) (fun c39 => ?_)
        · refine go_iconst dx_X12_words_46 ?_
          refine go_iadd dx_X12_words_47 ?_
          refine go_nmI (fun v ev => ?_)
          refine go_istore_n (i := 2) (lv' := [(0, vv_A 94), (1, vv_I (p : Int)), (2, vv_I v), (3, vv_I (k : Int))]) dx_X12_words_48 rfl (by decide) rfl ?_
          refine go_iinc (lv' := [(0, vv_A 94), (1, vv_I (p : Int)), (2, vv_I v), (3, vv_I ((k : Int) + 1))]) dx_X12_words_49 rfl (by decide) rfl ?_
          refine go_goto (tgt := 24) dx_X12_words_52 rfl ?_
          have e : v = ((cn (k + 1) (fun k => dx S.1.1 S.1.2.1 (wdn p k)) : Nat) : Int) := by
            first | (rw [ev, cn_sf (P := fun k => dx S.1.1 S.1.2.1 (wdn p k)) c39]; omega) | (rw [ev, cn_st (P := fun k => dx S.1.1 S.1.2.1 (wdn p k)) c39]; omega)
          rw [e]
          exact ih δ2 ⟨w1, fun c j hc => by rw [f2 c j hc]; exact i2 c j hc⟩ _ rfl
        · refine go_iconst dx_X12_words_42 ?_
          refine go_goto (tgt := 47) dx_X12_words_43 rfl ?_
          refine go_iadd dx_X12_words_47 ?_
          refine go_nmI (fun v ev => ?_)
          refine go_istore_n (i := 2) (lv' := [(0, vv_A 94), (1, vv_I (p : Int)), (2, vv_I v), (3, vv_I (k : Int))]) dx_X12_words_48 rfl (by decide) rfl ?_
          refine go_iinc (lv' := [(0, vv_A 94), (1, vv_I (p : Int)), (2, vv_I v), (3, vv_I ((k : Int) + 1))]) dx_X12_words_49 rfl (by decide) rfl ?_
          refine go_goto (tgt := 24) dx_X12_words_52 rfl ?_
          have e : v = ((cn (k + 1) (fun k => dx S.1.1 S.1.2.1 (wdn p k)) : Nat) : Int) := by
            first | (rw [ev, cn_sf (P := fun k => dx S.1.1 S.1.2.1 (wdn p k)) c39]; omega) | (rw [ev, cn_st (P := fun k => dx S.1.1 S.1.2.1 (wdn p k)) c39]; omega)
          rw [e]
          exact ih δ2 ⟨w1, fun c j hc => by rw [f2 c j hc]; exact i2 c j hc⟩ _ rfl
      ) (fun δ1 hI lv0 e0 => by
        subst e0
        obtain ⟨a, b⟩ := hsc (δ' := δ1) hI.2 hI.1
        refine go_iload_n (i := 3) dx_X12_words_24 rfl rfl ?_
        refine go_iload_n (i := 1) dx_X12_words_25 rfl rfl ?_
        refine go_cS1 ss_X12_390 dx_X12_words_26 (Nat.le_of_ble_eq_true rfl) (Nat.le_of_ble_eq_true rfl) (m_wordMany (by omega) ?_)
        refine go_asI (y := (N : Int)) (by rw [hN]) ?_
        refine go_icmp_ge (tgt := 55) dx_X12_words_29 rfl (by omega) (by omega) (fun c29 => ?_) (fun c29 => by exact absurd c29 (by omega))
        refine go_iload_n (i := 2) dx_X12_words_55 rfl rfl ?_
        refine go_ireturn dx_X12_words_56 rfl (Nat.le_refl _) (Nat.le_refl _) ?_
        exact hQ δ1 a b
      )
    refine go_iconst dx_X12_words_20 ?_
    refine go_istore_n (i := 2) (lv' := [(0, vv_A 94), (1, vv_I (p : Int)), (2, vv_I 0)]) dx_X12_words_21 rfl (by decide) rfl ?_
    refine go_iconst dx_X12_words_22 ?_
    refine go_istore_n (i := 3) (lv' := [(0, vv_A 94), (1, vv_I (p : Int)), (2, vv_I 0), (3, vv_I 0)]) dx_X12_words_23 rfl (by decide) rfl ?_
    exact loop 0 δ0 (Nat.zero_le _) ⟨hlaid, fun _ _ _ => rfl⟩ _ rfl
  · refine go_if_ne (tgt := 20) dx_X12_words_14 rfl (by omega) (fun c14 => absurd c14 (by decide)) (fun c14 => ?_)
    refine go_bipush dx_X12_words_17 rfl ?_
    refine go_ireturn dx_X12_words_19 rfl (Nat.le_refl _) (Nat.le_refl _) ?_
    have hQ := hQ δ0 h fl_rf
    rw [if_pos (by omega)] at hQ
    exact hQ
theorem m_first {n i : Int} (hn : go_iI n) (hi : go_iI i) (h : mx_at δ S) (hQ : ∀ δ', mx_at δ' S → fl δ δ' → Q [vv_I (oq_first S.1 n i)] go_φ δ') : Go E (d + 4) (0, 0) mx_X12_first go_φ 0 [(0, vv_A 94), (1, vv_I n), (2, vv_I i)] [] δ Q := by
  refine go_aload_n (i := 0) dx_X12_first_0 rfl rfl ?_
  refine go_iconst dx_X12_first_1 ?_
  refine go_putI fp_X12_139 rfl rfl (go_ok rfl rfl) dx_X12_first_2 ?_
  have h := mx_thr (v := 0) h
  have f0 : fl δ (wr δ 94 0 0) := fl_thr
  generalize wr δ 94 0 0 = δ0 at h f0 ⊢
  have hQ := fun δ' a (b : fl δ0 δ') => hQ δ' a (fl_tr f0 b)
  have hsc := @mx_of δ0 S h
  have hb := h.1.1
  have hlaid := h.2
  have ho := bo_of hb
  have hR := ho.1
  have l106 : go_ln 106 = 15 := rfl
  unfold oq_first at hQ
  refine go_iload_n (i := 1) dx_X12_first_5 rfl rfl ?_
  refine go_i2l dx_X12_first_6 (by omega) ?_
  refine go_lconst (x := 1) dx_X12_first_7 rfl ?_
  refine go_ldc2 (x := 4) kx_X12_356 dx_X12_first_8 ?_
  refine go_cS3 ss_X12_144 dx_X12_first_11 (Nat.le_of_ble_eq_true rfl) (Nat.le_of_ble_eq_true rfl) (m_within (by omega) (by omega) (by omega) (fun a1 a2 => ?_) (fun b1 => ?_))
  · refine go_if_eq (tgt := 21) dx_X12_first_14 rfl (by omega) (fun c14 => absurd c14 (by decide)) (fun c14 => ?_)
    refine go_iload_n (i := 2) dx_X12_first_17 rfl rfl ?_
    refine go_if_ge (tgt := 24) dx_X12_first_18 rfl (by omega) (fun c18 => ?_) (fun c18 => ?_)
    · refine go_iload_n (i := 2) dx_X12_first_24 rfl rfl ?_
      refine go_iload_n (i := 1) dx_X12_first_25 rfl rfl ?_
      refine go_icmp_lt (tgt := 31) dx_X12_first_26 rfl (by omega) (by omega) (fun c26 => ?_) (fun c26 => ?_)
      · obtain ⟨p, rfl⟩ : ∃ p : Nat, n = (p : Int) := ⟨n.toNat, by omega⟩
        obtain ⟨u, rfl⟩ : ∃ u : Nat, i = (u : Int) := ⟨i.toNat, by omega⟩
        have hp : 6 ^ p ≤ 1296 := Nat.pow_le_pow_right (n := 6) (i := p) (j := 4) (by decide) (by omega)
        rw [if_neg (by omega), if_neg (by omega), Int.toNat_natCast, Int.toNat_natCast] at hQ
        obtain ⟨N, hN⟩ : ∃ N, N = 6 ^ p := ⟨_, rfl⟩
        rw [← hN] at hp hQ
        have loop := lp_up (X := Nat → Nat → Int) (hi := N) (I := fun k δ1 => ml_at δ1 S.1 ∧ (∀ c j, ¬ sc c j → δ1 c j = δ0 c j) ∧ ∀ q, q < k → ¬ dx S.1.1 S.1.2.1 (wdn p q))
          (G := fun k δ1 => Go E (d + 4) (0, 0) mx_X12_first go_φ 33 [(0, vv_A 94), (1, vv_I (p : Int)), (2, vv_I (u : Int)), (3, vv_I (k : Int))] [] δ1 Q)
          (fun k δ1 hk hI ih => by
            obtain ⟨i1, i2, i3⟩ := hI
            have hb1 : bk_at δ1 95 0 S.1 := bk_fr hb (fun j => i2 95 j (by unfold sc; omega))
            have hlen := wdn_len p k
            refine go_iload_n (i := 3) dx_X12_first_33 rfl rfl ?_
            refine go_iload_n (i := 1) dx_X12_first_34 rfl rfl ?_
            refine go_cS1 ss_X12_390 dx_X12_first_35 (Nat.le_of_ble_eq_true rfl) (Nat.le_of_ble_eq_true rfl) (m_wordMany (by omega) ?_)
            refine go_asI (y := (N : Int)) (by rw [hN]) ?_
            refine go_icmp_ge (tgt := 63) dx_X12_first_38 rfl (by omega) (by omega) (fun c38 => by exact absurd c38 (by omega)) (fun c38 => ?_)
            refine go_aload_n (i := 0) dx_X12_first_41 rfl rfl ?_
            refine go_iload_n (i := 1) dx_X12_first_42 rfl rfl ?_
            refine go_iload_n (i := 3) dx_X12_first_43 rfl rfl ?_
            refine go_cV2 sv_X12_393 (go_ok rfl rfl) dx_X12_first_44 (Nat.le_of_ble_eq_true rfl) (Nat.le_of_ble_eq_true rfl) (m_isWord hb1 (by omega) (by omega) (by rw [← hN]; exact hk) (fun δ2 w1 w2 f2 => ?_))
            refine go_b_eq (tgt := 57) dx_X12_first_47 rfl (fun c47 => ?_) (fun c47 => ?_)
            · refine go_iinc (lv' := [(0, vv_A 94), (1, vv_I (p : Int)), (2, vv_I (u : Int)), (3, vv_I ((k : Int) + 1))]) dx_X12_first_57 rfl (by decide) rfl ?_
              refine go_goto (tgt := 33) dx_X12_first_60 rfl ?_
              refine ih δ2 ⟨w1, fun c j hc => by rw [f2 c j hc]; exact i2 c j hc, fun q hq => ?_⟩
              by_cases z : q = k
              · subst z; exact c47
              · exact i3 q (by omega)
            · refine go_aload_n (i := 0) dx_X12_first_50 rfl rfl ?_
              refine go_getA (b := 106) fs_X12_48 rfl (go_ok rfl rfl) rfl dx_X12_first_51 ?_
              refine go_iload_n (i := 2) dx_X12_first_54 rfl rfl ?_
              refine go_ialoadV (i := u) (v := ((((wdn p k).getD u 0 : Nat) : Int))) dx_X12_first_55 (go_ok rfl rfl) (by omega) (show u < 15 by omega) (by rw [w2 u (by omega), List.getD_eq_getElem?_getD, List.getElem?_eq_getElem (by omega)]; rfl) ?_
              refine go_ireturn dx_X12_first_56 rfl (Nat.le_refl _) (Nat.le_refl _) ?_
              obtain ⟨a, b⟩ := hsc (δ' := δ2) (fun c j hc => by rw [f2 c j hc]; exact i2 c j hc) w1
              have hQ := hQ δ2 a b
              have e : li (fun k => k < N ∧ dx S.1.1 S.1.2.1 (wdn p k)) = (k : Int) := li_t ⟨hk, c47⟩ (fun q hq => Nat.le_of_not_lt (fun z => i3 q z hq.2))
              rw [e, cif_f (by omega), Int.toNat_natCast] at hQ
              exact hQ
          ) (fun δ1 hI => by
            obtain ⟨i1, i2, i3⟩ := hI
            obtain ⟨a, b⟩ := hsc (δ' := δ1) i2 i1
            have hQ := hQ δ1 a b
            rw [cif_t (li_f (fun k hk => i3 k hk.1 hk.2))] at hQ
            refine go_iload_n (i := 3) dx_X12_first_33 rfl rfl ?_
            refine go_iload_n (i := 1) dx_X12_first_34 rfl rfl ?_
            refine go_cS1 ss_X12_390 dx_X12_first_35 (Nat.le_of_ble_eq_true rfl) (Nat.le_of_ble_eq_true rfl) (m_wordMany (by omega) ?_)
            refine go_asI (y := (N : Int)) (by rw [hN]) ?_
            refine go_icmp_ge (tgt := 63) dx_X12_first_38 rfl (by omega) (by omega) (fun c38 => ?_) (fun c38 => by exact absurd c38 (by omega))
            refine go_iconst dx_X12_first_63 ?_
            refine go_ireturn dx_X12_first_64 rfl (Nat.le_refl _) (Nat.le_refl _) ?_
            exact hQ
          )
        refine go_iconst dx_X12_first_31 ?_
        refine go_istore_n (i := 3) (lv' := [(0, vv_A 94), (1, vv_I (p : Int)), (2, vv_I (u : Int)), (3, vv_I 0)]) dx_X12_first_32 rfl (by decide) rfl ?_
        exact loop 0 δ0 (Nat.zero_le _) ⟨hlaid, fun _ _ _ => rfl, fun q hq => absurd hq (Nat.not_lt_zero _)⟩
      · refine go_iconst dx_X12_first_29 ?_
        refine go_ireturn dx_X12_first_30 rfl (Nat.le_refl _) (Nat.le_refl _) ?_
        have hQ := hQ δ0 h fl_rf
        rw [if_neg (by omega), if_pos (by omega)] at hQ
        exact hQ
    · refine go_bipush dx_X12_first_21 rfl ?_
      refine go_ireturn dx_X12_first_23 rfl (Nat.le_refl _) (Nat.le_refl _) ?_
      have hQ := hQ δ0 h fl_rf
      rw [if_pos (by omega)] at hQ
      exact hQ
  · refine go_if_eq (tgt := 21) dx_X12_first_14 rfl (by omega) (fun c14 => ?_) (fun c14 => absurd c14 (by decide))
    refine go_bipush dx_X12_first_21 rfl ?_
    refine go_ireturn dx_X12_first_23 rfl (Nat.le_refl _) (Nat.le_refl _) ?_
    have hQ := hQ δ0 h fl_rf
    rw [if_pos (by omega)] at hQ
    exact hQ
end GMWO
