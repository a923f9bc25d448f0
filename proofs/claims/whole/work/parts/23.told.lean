/-! what is told: rules, START, the word; states to go back to -/
abbrev sK : Type := (Nat → List Nat) × Nat × List Nat
def sk_ok (K : sK) : Prop := (∀ r, rl_ok (K.1 r)) ∧ (∀ r, 16 ≤ r → K.1 r = []) ∧ (∀ r s, r ≠ s → K.1 r ≠ [] → K.1 r ≠ K.1 s) ∧ K.2.1 < 8 ∧ K.2.2.length ≤ 14 ∧ ∀ x ∈ K.2.2, 8 ≤ x ∧ x < 14
def wd_enc (w : List Nat) : Nat := dg 8 (w.map (fun x => x - 8))
theorem wd_lt8 {w : List Nat} (h : ∀ x ∈ w, 8 ≤ x ∧ x < 14) : ∀ x ∈ w.map (fun x => x - 8), x < 8 := by
  intro x hx
  obtain ⟨y, hy, rfl⟩ := List.mem_map.mp hx
  have := h y hy
  show y - 8 < 8
  omega
theorem wd_enc_lt {w : List Nat} (h : ∀ x ∈ w, 8 ≤ x ∧ x < 14) (hl : w.length ≤ 14) : wd_enc w < 8 ^ 14 := by
  have h1 := dg_lt (b := 8) (by decide) (wd_lt8 h)
  rw [List.length_map] at h1
  exact Nat.lt_of_lt_of_le h1 (Nat.pow_le_pow_right (by decide) hl)
def td_ok (o : Nat) : Prop := (go_kd o = 8 ∧ o < go_φ.1) ∧ (go_kd (o + 1) = 20 ∧ o + 1 < go_φ.1) ∧ go_ln (o + 1) = 16 ∧ go_rf o 0 = o + 1 + 1
def td_at (δ : Nat → Nat → Int) (o : Nat) (K : sK) : Prop := (∀ r, r < 16 → δ (o + 1) r = (rl_enc (K.1 r) : Int)) ∧ δ o 1 = (K.2.1 : Int) ∧ δ o 2 = (wd_enc K.2.2 : Int) ∧ δ o 3 = (K.2.2.length : Int) ∧ sk_ok K
theorem td_fr {δ δ' : Nat → Nat → Int} {o : Nat} {K : sK} {S : List Nat} (h : td_at δ o K) (f : fr S δ δ') (h1 : o ∉ S) (h2 : o + 1 ∉ S) : td_at δ' o K :=
  ⟨fun r hr => by rw [f _ h2 r]; exact h.1 r hr, by rw [f _ h1]; exact h.2.1, by rw [f _ h1]; exact h.2.2.1, by rw [f _ h1]; exact h.2.2.2.1, h.2.2.2.2⟩
section GTOLD
variable {E : go_E} {d : Nat} {δ : Nat → Nat → Int} {Q : List go_V → go_F → (Nat → Nat → Int) → Prop} {o : Nat} {K : sK}
theorem g_Told_ruleAt {r : Int} (ho : td_ok o) (h : td_at δ o K) (hr : go_iI r) (h1 : 0 ≤ r → r < 16 → Q [vv_I (rl_enc (K.1 r.toNat) : Int)] go_φ δ) (h2 : ¬ (0 ≤ r ∧ r < 16) → Q [vv_I 0] go_φ δ) :
    Go E (d + 1) (0, 0) mx_X9_ruleAt go_φ 0 [(0, vv_A o), (1, vv_I r)] [] δ Q := by
  obtain ⟨k0, k1, l1, r0⟩ := ho
  refine go_aload_n (i := 0) dx_X9_ruleAt_0 rfl rfl ?_
  refine go_getA (b := (o + 1)) fs_X9_9 rfl (by assumption) (by assumption) dx_X9_ruleAt_1 ?_
  refine go_iload_n (i := 1) dx_X9_ruleAt_4 rfl rfl ?_
  refine go_cS2 ss_X9_30 dx_X9_ruleAt_5 (Nat.le_of_ble_eq_true rfl) (Nat.le_of_ble_eq_true rfl) (g_intAt0 k1 hr (fun a1 a2 => ?_) (fun a1 => ?_))
  · refine go_ireturn dx_X9_ruleAt_8 rfl (Nat.le_refl _) (Nat.le_refl _) ?_
    first | exact h2 (by omega) | (rw [h.1 _ (by omega)]; exact h1 a1 (by omega))
  · refine go_ireturn dx_X9_ruleAt_8 rfl (Nat.le_refl _) (Nat.le_refl _) ?_
    first | exact h2 (by omega) | (rw [h.1 _ (by omega)]; exact h1 a1 (by omega))
theorem g_Told_ruleAtN {r : Nat} (ho : td_ok o) (h : td_at δ o K) (hr : r < 16) (h1 : Q [vv_I (rl_enc (K.1 r) : Int)] go_φ δ) :
    Go E (d + 1) (0, 0) mx_X9_ruleAt go_φ 0 [(0, vv_A o), (1, vv_I (r : Int))] [] δ Q :=
  g_Told_ruleAt ho h (by omega) (fun _ _ => h1) (fun q => absurd ⟨by omega, by omega⟩ q)
theorem g_Told_setRule {r : Nat} {l : List Nat} (ho : td_ok o) (h : td_at δ o K) (hr : r < 16) (hl : rl_ok l) (hd : l = [] ∨ ∀ s, s ≠ r → K.1 s ≠ l)
    (hQ : ∀ δ', td_at δ' o (fun s => if s = r then l else K.1 s, K.2) → fr [o, o + 1] δ δ' → Q [] go_φ δ') :
    Go E (d + 1) (0, 0) mx_X9_setRule go_φ 0 [(0, vv_A o), (1, vv_I (r : Int)), (2, vv_I (rl_enc l : Int))] [] δ Q := by
  obtain ⟨k0, k1, l1, r0⟩ := ho
  have key : td_at (wr δ (o + 1) r (rl_enc l : Int)) o (fun s => if s = r then l else K.1 s, K.2) := by
    obtain ⟨g1, g2, g3, g4, q1, q2, q3, q4, q5⟩ := h
    have hne : o ≠ o + 1 := by omega
    refine ⟨fun s hs => ?_, by rw [wr_a _ _ _ _ hne]; exact g2, by rw [wr_a _ _ _ _ hne]; exact g3, by rw [wr_a _ _ _ _ hne]; exact g4, fun s => ?_, fun s hs => ?_, fun s u hsu hs => ?_, q4, q5⟩
    · show wr δ (o + 1) r _ (o + 1) s = ((rl_enc (if s = r then l else K.1 s) : Nat) : Int)
      by_cases e : s = r
      · subst e; rw [wr_eq, if_pos rfl]
      · rw [wr_i _ _ _ _ e, if_neg e]; exact g1 s hs
    · show rl_ok (if s = r then l else K.1 s)
      split
      · exact hl
      · exact q1 s
    · show (if s = r then l else K.1 s) = []
      rw [if_neg (by omega)]; exact q2 s hs
    · have hs' : (if s = r then l else K.1 s) ≠ [] := hs
      show (if s = r then l else K.1 s) ≠ (if u = r then l else K.1 u)
      by_cases e : s = r
      · subst e
        rw [if_pos rfl] at hs' ⊢
        rw [if_neg (fun z => hsu z.symm)]
        rcases hd with rfl | hd
        · exact absurd rfl hs'
        · exact fun z => hd u (fun z => hsu z.symm) z.symm
      · rw [if_neg e] at hs' ⊢
        by_cases e2 : u = r
        · subst e2
          rw [if_pos rfl]
          rcases hd with rfl | hd
          · exact hs'
          · exact hd s e
        · rw [if_neg e2]
          exact q3 s u hsu hs'
  refine go_aload_n (i := 0) dx_X9_setRule_0 rfl rfl ?_
  refine go_getA (b := (o + 1)) fs_X9_9 rfl (by assumption) (by assumption) dx_X9_setRule_1 ?_
  refine go_iload_n (i := 1) dx_X9_setRule_4 rfl rfl ?_
  refine go_iload_n (i := 2) dx_X9_setRule_5 rfl rfl ?_
  refine go_cS3 ss_X9_34 dx_X9_setRule_6 (Nat.le_of_ble_eq_true rfl) (Nat.le_of_ble_eq_true rfl) (g_putInt k1 (by omega) (by rw [l1]; omega) ?_)
  refine go_vreturn dx_X9_setRule_9 rfl (Nat.le_refl _) (Nat.le_refl _) ?_
  exact hQ _ key (fr_wr (by simp))
theorem g_Told_setWord {w : List Nat} (ho : td_ok o) (h : td_at δ o K) (hw : ∀ x ∈ w, 8 ≤ x ∧ x < 14) (hl : w.length ≤ 14)
    (hQ : ∀ δ', td_at δ' o (K.1, K.2.1, w) → fr [o] δ δ' → Q [] go_φ δ') :
    Go E d (0, 0) mx_X9_setWord go_φ 0 [(0, vv_A o), (1, vv_L (wd_enc w : Int)), (3, vv_I (w.length : Int))] [] δ Q := by
  obtain ⟨k0, k1, l1, r0⟩ := ho
  refine go_aload_n (i := 0) dx_X9_setWord_0 rfl rfl ?_
  refine go_lload_n (i := 1) dx_X9_setWord_1 rfl rfl ?_
  refine go_putL fp_X9_23 rfl rfl (by assumption) dx_X9_setWord_2 ?_
  refine go_aload_n (i := 0) dx_X9_setWord_5 rfl rfl ?_
  refine go_iload_n (i := 3) dx_X9_setWord_6 rfl rfl ?_
  refine go_putI fp_X9_27 rfl rfl (by assumption) dx_X9_setWord_7 ?_
  refine go_vreturn dx_X9_setWord_10 rfl (Nat.le_refl _) (Nat.le_refl _) ?_
  obtain ⟨g1, g2, g3, g4, q1, q2, q3, q4, q5⟩ := h
  exact hQ _ ⟨fun r hr => by simp [wr]; exact g1 r hr, by simp [wr]; exact g2, by simp [wr], by simp [wr], q1, q2, q3, q4, hl, hw⟩ (fr_trs (fr_wr (by simp)) (fr_wr (by simp)))
theorem wd_get {w : List Nat} (hw : ∀ x ∈ w, 8 ≤ x ∧ x < 14) {i : Nat} (hi : i < w.length) : wd_enc w / 2 ^ (3 * i) % 8 = w[i] - 8 := by
  have h1 := dg_get (b := 8) (by decide) (wd_lt8 hw) i
  rw [Nat.pow_mul]
  unfold wd_enc
  rw [show (2 : Nat) ^ 3 = 8 from rfl, h1]
  simp [List.getD_eq_getElem?_getD, hi]
theorem g_Told_letterAt {i : Nat} (ho : td_ok o) (h : td_at δ o K) (hi : i < K.2.2.length) (hQ : Q [vv_I (K.2.2[i] : Int)] go_φ δ) :
    Go E d (0, 0) mx_X9_letterAt go_φ 0 [(0, vv_A o), (1, vv_I (i : Int))] [] δ Q := by
  obtain ⟨k0, k1, l1, r0⟩ := ho
  obtain ⟨g1, g2, g3, g4, q1, q2, q3, q4, q5, q6⟩ := h
  have hb := wd_enc_lt q6 q5
  have h8 : (8 : Nat) ^ 14 = 4398046511104 := by decide
  have e : (8 : Int) + bw_and (bw_ushr (δ o 2) (3 * (i : Int))) 7 = (K.2.2[i] : Int) := by
    rw [g3, show (3 : Int) * (i : Int) = ((3 * i : Nat) : Int) by omega, bw_ushrN (by omega) (by omega)]
    have hd : wd_enc K.2.2 / 2 ^ (3 * i) ≤ wd_enc K.2.2 := Nat.div_le_self _ _
    rw [show (7 : Int) = ((7 : Nat) : Int) from rfl, bw_andN (by omega) (by omega)]
    have e7 : wd_enc K.2.2 / 2 ^ (3 * i) &&& 7 = wd_enc K.2.2 / 2 ^ (3 * i) % 8 := Nat.and_two_pow_sub_one_eq_mod _ 3
    rw [e7, wd_get q6 hi]
    have := q6 _ (List.getElem_mem hi)
    omega
  refine go_bipush dx_X9_letterAt_0 rfl ?_
  refine go_aload_n (i := 0) dx_X9_letterAt_2 rfl rfl ?_
  refine go_getL fs_X9_23 rfl (by assumption) dx_X9_letterAt_3 ?_
  refine go_iconst dx_X9_letterAt_6 ?_
  refine go_iload_n (i := 1) dx_X9_letterAt_7 rfl rfl ?_
  refine go_imul dx_X9_letterAt_8 ?_
  refine go_lushr dx_X9_letterAt_9 ?_
  refine go_ldc2 (x := 7) kx_X9_38 dx_X9_letterAt_10 ?_
  refine go_land dx_X9_letterAt_13 ?_
  refine go_l2i dx_X9_letterAt_14 ?_
  refine go_iadd dx_X9_letterAt_15 ?_
  refine go_ireturn dx_X9_letterAt_16 rfl (Nat.le_refl _) (Nat.le_refl _) ?_
  rw [e]
  exact hQ
def rl_bits (R : Nat → List Nat) : Nat → Nat
  | 0 => 0
  | n + 1 => rl_bits R n ||| (if R n = [] then 0 else 2 ^ n)
theorem rl_bits_lt (R : Nat → List Nat) (n : Nat) : rl_bits R n < 2 ^ n := by
  induction n with
  | zero => exact Nat.zero_lt_one
  | succ n ih =>
    refine bt_or_lt (Nat.lt_of_lt_of_le ih (Nat.pow_le_pow_right (by decide) (by omega))) ?_
    split
    · exact Nat.two_pow_pos _
    · exact Nat.pow_lt_pow_right (by decide) (by omega)
theorem rl_bits_lt31 (R : Nat → List Nat) {n : Nat} (h : n ≤ 16) : rl_bits R n < 65536 := Nat.lt_of_lt_of_le (rl_bits_lt R n) (Nat.pow_le_pow_right (n := 2) (by decide) h)
theorem rl_enc_eq0 {K : sK} (h : sk_ok K) (r : Nat) : (rl_enc (K.1 r) : Int) = 0 ↔ K.1 r = [] := by
  rw [← rl_enc_ne (h.1 r)]; omega
theorem g_Told_ruleBits (ho : td_ok o) (h : td_at δ o K) (hQ : Q [vv_I (rl_bits K.1 16 : Int)] go_φ δ) : Go E d (0, 0) mx_X9_ruleBits go_φ 0 [(0, vv_A o)] [] δ Q := by
  obtain ⟨k0, k1, l1, r0⟩ := ho
  have k1' : (go_kd (o + 1) = 20 ∨ go_kd (o + 1) = 21 ∨ go_kd (o + 1) = 22 ∨ go_kd (o + 1) = 23) ∧ o + 1 < go_φ.1 := ⟨Or.inl k1.1, k1.2⟩
  have loop : ∀ (n i : Nat), 16 - i < n → i ≤ 16 → Go E d (0, 0) mx_X9_ruleBits go_φ 4 [(0, vv_A o), (1, vv_I (rl_bits K.1 i : Int)), (2, vv_I (i : Int))] [] δ Q := by
    intro n
    induction n with
    | zero => intros; omega
    | succ n ih =>
      intro i h1 h2
      have hb := rl_bits_lt31 K.1 h2
      have he := h.1
      have hs := rl_enc_eq0 h.2.2.2.2 i
      have hlt := rl_enc_lt (h.2.2.2.2.1 i)
      refine go_iload_n (i := 2) dx_X9_ruleBits_4 rfl rfl ?_
      refine go_aload_n (i := 0) dx_X9_ruleBits_5 rfl rfl ?_
      refine go_getA (b := (o + 1)) fs_X9_9 rfl (by assumption) (by assumption) dx_X9_ruleBits_6 ?_
      refine go_arraylength dx_X9_ruleBits_9 (by assumption) ?_
      refine go_icmp_ge (tgt := 34) dx_X9_ruleBits_10 rfl (by omega) (by omega) (fun c10 => ?_) (fun c10 => ?_)
      · refine go_iload_n (i := 1) dx_X9_ruleBits_34 rfl rfl ?_
        refine go_ireturn dx_X9_ruleBits_35 rfl (Nat.le_refl _) (Nat.le_refl _) ?_
        have : i = 16 := by omega
        subst this
        exact hQ
      · refine go_aload_n (i := 0) dx_X9_ruleBits_13 rfl rfl ?_
        refine go_getA (b := (o + 1)) fs_X9_9 rfl (by assumption) (by assumption) dx_X9_ruleBits_14 ?_
        refine go_iload_n (i := 2) dx_X9_ruleBits_17 rfl rfl ?_
        refine go_iaload dx_X9_ruleBits_18 (by assumption) (by omega) (by omega) ?_
        refine go_if_eq (tgt := 28) dx_X9_ruleBits_19 rfl (by first | omega | (have := he i (by omega); rw [Int.toNat_natCast, this]; omega)) (fun c19 => ?_) (fun c19 => ?_)
        · refine go_iinc (lv' := [(0, vv_A o), (1, vv_I (rl_bits K.1 i : Int)), (2, vv_I ((i : Int) + 1))]) dx_X9_ruleBits_28 rfl (by decide) rfl ?_
          refine go_goto (tgt := 4) dx_X9_ruleBits_31 rfl ?_
          rw [Int.toNat_natCast, he i (by omega)] at c19
          first | (have A := ih (i + 1) (by omega) (by omega); rw [rl_bits, if_pos (hs.mp c19), Nat.or_zero] at A; exact A) | skip
          all_goals (have B := ih (i + 1) (by omega) (by omega); rw [rl_bits, if_neg (fun z => c19 (hs.mpr z))] at B; have hp := Nat.pow_le_pow_right (n := 2) (by decide) (show i ≤ 15 by omega); have e1 : bv_shl 1 (i : Int) = ((1 * 2 ^ i : Nat) : Int) := bv_shlN (m := 1) (by omega) (by omega); rw [e1, bv_orN (by omega) (by omega), Nat.one_mul] at eb; subst eb; exact B)
        · refine go_iload_n (i := 1) dx_X9_ruleBits_22 rfl rfl ?_
          refine go_iconst dx_X9_ruleBits_23 ?_
          refine go_iload_n (i := 2) dx_X9_ruleBits_24 rfl rfl ?_
          refine go_ishl dx_X9_ruleBits_25 ?_
          refine go_ior dx_X9_ruleBits_26 ?_
          refine go_nmI (fun b eb => ?_)
          refine go_istore_n (i := 1) (lv' := [(0, vv_A o), (1, vv_I b), (2, vv_I (i : Int))]) dx_X9_ruleBits_27 rfl (by decide) rfl ?_
          refine go_iinc (lv' := [(0, vv_A o), (1, vv_I b), (2, vv_I ((i : Int) + 1))]) dx_X9_ruleBits_28 rfl (by decide) rfl ?_
          refine go_goto (tgt := 4) dx_X9_ruleBits_31 rfl ?_
          rw [Int.toNat_natCast, he i (by omega)] at c19
          first | (have A := ih (i + 1) (by omega) (by omega); rw [rl_bits, if_pos (hs.mp c19), Nat.or_zero] at A; exact A) | skip
          all_goals (have B := ih (i + 1) (by omega) (by omega); rw [rl_bits, if_neg (fun z => c19 (hs.mpr z))] at B; have hp := Nat.pow_le_pow_right (n := 2) (by decide) (show i ≤ 15 by omega); have e1 : bv_shl 1 (i : Int) = ((1 * 2 ^ i : Nat) : Int) := bv_shlN (m := 1) (by omega) (by omega); rw [e1, bv_orN (by omega) (by omega), Nat.one_mul] at eb; subst eb; exact B)
  refine go_iconst dx_X9_ruleBits_0 ?_
  refine go_istore_n (i := 1) (lv' := [(0, vv_A o), (1, vv_I 0)]) dx_X9_ruleBits_1 rfl (by decide) rfl ?_
  refine go_iconst dx_X9_ruleBits_2 ?_
  refine go_istore_n (i := 2) (lv' := [(0, vv_A o), (1, vv_I 0), (2, vv_I 0)]) dx_X9_ruleBits_3 rfl (by decide) rfl ?_
  exact loop 17 0 (by omega) (by omega)
theorem g_Told_lowestFree (ho : td_ok o) (h : td_at δ o K) (h1 : ∀ r, r < 16 → K.1 r = [] → (∀ s, s < r → K.1 s ≠ []) → Q [vv_I (r : Int)] go_φ δ) (h2 : (∀ r, r < 16 → K.1 r ≠ []) → Q [vv_I (-1)] go_φ δ) :
    Go E d (0, 0) mx_X9_lowestFree go_φ 0 [(0, vv_A o)] [] δ Q := by
  obtain ⟨k0, k1, l1, r0⟩ := ho
  have k1' : (go_kd (o + 1) = 20 ∨ go_kd (o + 1) = 21 ∨ go_kd (o + 1) = 22 ∨ go_kd (o + 1) = 23) ∧ o + 1 < go_φ.1 := ⟨Or.inl k1.1, k1.2⟩
  have loop : ∀ (n i : Nat), 16 - i < n → i ≤ 16 → (∀ s, s < i → K.1 s ≠ []) → Go E d (0, 0) mx_X9_lowestFree go_φ 2 [(0, vv_A o), (1, vv_I (i : Int))] [] δ Q := by
    intro n
    induction n with
    | zero => intros; omega
    | succ n ih =>
      intro i h3 h4 h5
      have he := h.1
      have hs := rl_enc_eq0 h.2.2.2.2 i
      have hlt := rl_enc_lt (h.2.2.2.2.1 i)
      refine go_iload_n (i := 1) dx_X9_lowestFree_2 rfl rfl ?_
      refine go_aload_n (i := 0) dx_X9_lowestFree_3 rfl rfl ?_
      refine go_getA (b := (o + 1)) fs_X9_9 rfl (by assumption) (by assumption) dx_X9_lowestFree_4 ?_
      refine go_arraylength dx_X9_lowestFree_7 (by assumption) ?_
      refine go_icmp_ge (tgt := 28) dx_X9_lowestFree_8 rfl (by omega) (by omega) (fun c8 => ?_) (fun c8 => ?_)
      · refine go_iconst dx_X9_lowestFree_28 ?_
        refine go_ireturn dx_X9_lowestFree_29 rfl (Nat.le_refl _) (Nat.le_refl _) ?_
        exact h2 (fun r hr => h5 r (by omega))
      · refine go_aload_n (i := 0) dx_X9_lowestFree_11 rfl rfl ?_
        refine go_getA (b := (o + 1)) fs_X9_9 rfl (by assumption) (by assumption) dx_X9_lowestFree_12 ?_
        refine go_iload_n (i := 1) dx_X9_lowestFree_15 rfl rfl ?_
        refine go_iaload dx_X9_lowestFree_16 (by assumption) (by omega) (by omega) ?_
        refine go_if_ne (tgt := 22) dx_X9_lowestFree_17 rfl (by first | omega | (have := he i (by omega); rw [Int.toNat_natCast, this]; omega)) (fun c17 => ?_) (fun c17 => ?_)
        · refine go_iinc (lv' := [(0, vv_A o), (1, vv_I ((i : Int) + 1))]) dx_X9_lowestFree_22 rfl (by decide) rfl ?_
          refine go_goto (tgt := 2) dx_X9_lowestFree_25 rfl ?_
          rw [Int.toNat_natCast, he i (by omega)] at c17
          refine ih (i + 1) (by omega) (by omega) (fun s hs2 => ?_)
          rcases Nat.lt_or_ge s i with q | q
          · exact h5 s q
          · have : s = i := by omega
            subst this
            exact fun z => c17 (hs.mpr z)
        · refine go_iload_n (i := 1) dx_X9_lowestFree_20 rfl rfl ?_
          refine go_ireturn dx_X9_lowestFree_21 rfl (Nat.le_refl _) (Nat.le_refl _) ?_
          rw [Int.toNat_natCast, he i (by omega)] at c17
          exact h1 i (by omega) (hs.mp c17) h5
  refine go_iconst dx_X9_lowestFree_0 ?_
  refine go_istore_n (i := 1) (lv' := [(0, vv_A o), (1, vv_I 0)]) dx_X9_lowestFree_1 rfl (by decide) rfl ?_
  exact loop 17 0 (by omega) (by omega) (fun s hs => by omega)
theorem g_Told_hasAlike {l : List Nat} (ho : td_ok o) (h : td_at δ o K) (hl : rl_ok l) (h1 : ∀ r, r < 16 → K.1 r = l → Q [vv_I 1] go_φ δ) (h2 : (∀ r, r < 16 → K.1 r ≠ l) → Q [vv_I 0] go_φ δ) :
    Go E d (0, 0) mx_X9_hasAlike go_φ 0 [(0, vv_A o), (1, vv_I (rl_enc l : Int))] [] δ Q := by
  obtain ⟨k0, k1, l1, r0⟩ := ho
  have k1' : (go_kd (o + 1) = 20 ∨ go_kd (o + 1) = 21 ∨ go_kd (o + 1) = 22 ∨ go_kd (o + 1) = 23) ∧ o + 1 < go_φ.1 := ⟨Or.inl k1.1, k1.2⟩
  have hll := rl_enc_lt hl
  have loop : ∀ (n i : Nat), 16 - i < n → i ≤ 16 → (∀ s, s < i → K.1 s ≠ l) → Go E d (0, 0) mx_X9_hasAlike go_φ 2 [(0, vv_A o), (1, vv_I (rl_enc l : Int)), (2, vv_I (i : Int))] [] δ Q := by
    intro n
    induction n with
    | zero => intros; omega
    | succ n ih =>
      intro i h3 h4 h5
      have he := h.1
      have hlt := rl_enc_lt (h.2.2.2.2.1 i)
      have hinj := @rl_inj _ _ (h.2.2.2.2.1 i) hl
      refine go_iload_n (i := 2) dx_X9_hasAlike_2 rfl rfl ?_
      refine go_aload_n (i := 0) dx_X9_hasAlike_3 rfl rfl ?_
      refine go_getA (b := (o + 1)) fs_X9_9 rfl (by assumption) (by assumption) dx_X9_hasAlike_4 ?_
      refine go_arraylength dx_X9_hasAlike_7 (by assumption) ?_
      refine go_icmp_ge (tgt := 29) dx_X9_hasAlike_8 rfl (by omega) (by omega) (fun c8 => ?_) (fun c8 => ?_)
      · refine go_iconst dx_X9_hasAlike_29 ?_
        refine go_zreturn dx_X9_hasAlike_30 rfl (by first | omega | (simp)) (Nat.le_refl _) (Nat.le_refl _) ?_
        exact h2 (fun r hr => h5 r (by omega))
      · refine go_aload_n (i := 0) dx_X9_hasAlike_11 rfl rfl ?_
        refine go_getA (b := (o + 1)) fs_X9_9 rfl (by assumption) (by assumption) dx_X9_hasAlike_12 ?_
        refine go_iload_n (i := 2) dx_X9_hasAlike_15 rfl rfl ?_
        refine go_iaload dx_X9_hasAlike_16 (by assumption) (by omega) (by omega) ?_
        refine go_iload_n (i := 1) dx_X9_hasAlike_17 rfl rfl ?_
        refine go_icmp_ne (tgt := 23) dx_X9_hasAlike_18 rfl (by first | omega | (have := he i (by omega); first | omega | (rw [Int.toNat_natCast, this]; omega))) (by first | omega | (have := he i (by omega); first | omega | (rw [Int.toNat_natCast, this]; omega))) (fun c18 => ?_) (fun c18 => ?_)
        · refine go_iinc (lv' := [(0, vv_A o), (1, vv_I (rl_enc l : Int)), (2, vv_I ((i : Int) + 1))]) dx_X9_hasAlike_23 rfl (by decide) rfl ?_
          refine go_goto (tgt := 2) dx_X9_hasAlike_26 rfl ?_
          rw [Int.toNat_natCast, he i (by omega)] at c18
          refine ih (i + 1) (by omega) (by omega) (fun s hs2 => ?_)
          rcases Nat.lt_or_ge s i with q | q
          · exact h5 s q
          · have : s = i := by omega
            subst this
            exact fun z => c18 (by rw [z])
        · refine go_iconst dx_X9_hasAlike_21 ?_
          refine go_zreturn dx_X9_hasAlike_22 rfl (by first | omega | (simp)) (Nat.le_refl _) (Nat.le_refl _) ?_
          rw [Int.toNat_natCast, he i (by omega)] at c18
          exact h1 i (by omega) (hinj (by omega))
  refine go_iconst dx_X9_hasAlike_0 ?_
  refine go_istore_n (i := 2) (lv' := [(0, vv_A o), (1, vv_I (rl_enc l : Int)), (2, vv_I 0)]) dx_X9_hasAlike_1 rfl (by decide) rfl ?_
  exact loop 17 0 (by omega) (by omega) (fun s hs => by omega)
theorem g_Told_takeFrom {o2 : Nat} (ho : td_ok o) (ho2 : td_ok o2) (hne : o + 1 < o2 ∨ o2 + 1 < o) (h : td_at δ o2 K) (hQ : ∀ δ', td_at δ' o K → fr [o, o + 1] δ δ' → Q [] go_φ δ') :
    Go E (d + 2) (0, 0) mx_X9_takeFrom go_φ 0 [(0, vv_A o), (1, vv_A o2)] [] δ Q := by
  have hoo := ho
  have hoo2 := ho2
  obtain ⟨k0, k1, l1, r0⟩ := ho
  obtain ⟨k02, k12, l12, r02⟩ := ho2
  have k1' : (go_kd (o + 1) = 20 ∨ go_kd (o + 1) = 21 ∨ go_kd (o + 1) = 22 ∨ go_kd (o + 1) = 23) ∧ o + 1 < go_φ.1 := ⟨Or.inl k1.1, k1.2⟩
  have loop : ∀ (n i : Nat) (δ1 : Nat → Nat → Int), 16 - i < n → i ≤ 16 → fr [o, o + 1] δ δ1 → (∀ r, r < i → δ1 (o + 1) r = (rl_enc (K.1 r) : Int)) → Go E (d + 2) (0, 0) mx_X9_takeFrom go_φ 2 [(0, vv_A o), (1, vv_A o2), (2, vv_I (i : Int))] [] δ1 Q := by
    intro n
    induction n with
    | zero => intros; omega
    | succ n ih =>
      intro i δ1 h3 h4 h5 h6
      have h2 := td_fr h h5 (by simp; omega) (by simp; omega)
      refine go_iload_n (i := 2) dx_X9_takeFrom_2 rfl rfl ?_
      refine go_aload_n (i := 0) dx_X9_takeFrom_3 rfl rfl ?_
      refine go_getA (b := (o + 1)) fs_X9_9 rfl (by assumption) (by assumption) dx_X9_takeFrom_4 ?_
      refine go_arraylength dx_X9_takeFrom_7 (by assumption) ?_
      refine go_icmp_ge (tgt := 28) dx_X9_takeFrom_8 rfl (by omega) (by omega) (fun c8 => ?_) (fun c8 => ?_)
      · refine go_aload_n (i := 0) dx_X9_takeFrom_28 rfl rfl ?_
        refine go_aload_n (i := 1) dx_X9_takeFrom_29 rfl rfl ?_
        refine go_getI fs_X9_19 (Or.inl rfl) (by assumption) dx_X9_takeFrom_30 ?_
        refine go_putI fp_X9_19 rfl rfl (by assumption) dx_X9_takeFrom_33 ?_
        refine go_aload_n (i := 0) dx_X9_takeFrom_36 rfl rfl ?_
        refine go_aload_n (i := 1) dx_X9_takeFrom_37 rfl rfl ?_
        refine go_getL fs_X9_23 rfl (by assumption) dx_X9_takeFrom_38 ?_
        refine go_putL fp_X9_23 rfl rfl (by assumption) dx_X9_takeFrom_41 ?_
        refine go_aload_n (i := 0) dx_X9_takeFrom_44 rfl rfl ?_
        refine go_aload_n (i := 1) dx_X9_takeFrom_45 rfl rfl ?_
        refine go_getI fs_X9_27 (Or.inl rfl) (by assumption) dx_X9_takeFrom_46 ?_
        refine go_putI fp_X9_27 rfl rfl (by assumption) dx_X9_takeFrom_49 ?_
        refine go_vreturn dx_X9_takeFrom_52 rfl (Nat.le_refl _) (Nat.le_refl _) ?_
        obtain ⟨g1, g2, g3, g4, g5⟩ := h2
        have hi : i = 16 := by omega
        subst hi
        have n1 : o2 ≠ o := by omega
        have n2 : o + 1 ≠ o := by omega
        exact hQ _ ⟨fun r hr => by simp [wr]; exact h6 r hr, by simp [wr]; exact g2, by simp [wr, n1]; exact g3, by simp [wr, n1]; exact g4, g5⟩ (fr_trs (fr_trs (fr_trs h5 (fr_wr (by simp))) (fr_wr (by simp))) (fr_wr (by simp)))
      · refine go_aload_n (i := 0) dx_X9_takeFrom_11 rfl rfl ?_
        refine go_getA (b := (o + 1)) fs_X9_9 rfl (by assumption) (by assumption) dx_X9_takeFrom_12 ?_
        refine go_iload_n (i := 2) dx_X9_takeFrom_15 rfl rfl ?_
        refine go_aload_n (i := 1) dx_X9_takeFrom_16 rfl rfl ?_
        refine go_iload_n (i := 2) dx_X9_takeFrom_17 rfl rfl ?_
        refine go_cV1 sv_X9_15 (by assumption) dx_X9_takeFrom_18 (Nat.le_of_ble_eq_true rfl) (Nat.le_of_ble_eq_true rfl) (g_Told_ruleAtN hoo2 h2 (by omega) ?_)
        refine go_iastore dx_X9_takeFrom_21 (by assumption) (by omega) (by omega) ?_
        refine go_iinc (lv' := [(0, vv_A o), (1, vv_A o2), (2, vv_I ((i : Int) + 1))]) dx_X9_takeFrom_22 rfl (by decide) rfl ?_
        refine go_goto (tgt := 2) dx_X9_takeFrom_25 rfl ?_
        refine ih (i + 1) _ (by omega) (by omega) (fr_trs h5 (fr_wr (by simp))) (fun r hr => ?_)
        rw [Int.toNat_natCast]
        by_cases e : r = i
        · subst e; rw [wr_eq]
        · rw [wr_i _ _ _ _ e]; exact h6 r (by omega)
  refine go_iconst dx_X9_takeFrom_0 ?_
  refine go_istore_n (i := 2) (lv' := [(0, vv_A o), (1, vv_A o2), (2, vv_I 0)]) dx_X9_takeFrom_1 rfl (by decide) rfl ?_
  exact loop 17 0 δ (by omega) (by omega) fr_rf (fun r hr => by omega)
end GTOLD
