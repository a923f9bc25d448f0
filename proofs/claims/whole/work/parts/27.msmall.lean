/-! the reference: how it keeps what is told; its small methods -/
def bk_at (δ : Nat → Nat → Int) (A p : Nat) (K : sK) : Prop := (∀ r, r < 16 → δ A (p + 7 * r) = (((K.1 r).length - 1 : Nat) : Int) ∧ ∀ i, i < 6 → δ A (p + (7 * r + 1 + i)) = (((K.1 r).getD i 0 : Nat) : Int)) ∧
  δ A (p + 112) = (K.2.1 : Int) ∧ δ A (p + 113) = (K.2.2.length : Int) ∧ (∀ i, i < 14 → δ A (p + (114 + i)) = ((K.2.2.getD i 0 : Nat) : Int)) ∧ sk_ok K
theorem bk_copy {δ δ' : Nat → Nat → Int} {A B p q : Nat} {K : sK} (h : bk_at δ A p K) (e : ∀ j, j < 128 → δ' B (q + j) = δ A (p + j)) : bk_at δ' B q K := by
  obtain ⟨h1, h2, h3, h4, h5⟩ := h
  exact ⟨fun r hr => ⟨by rw [e _ (by omega)]; exact (h1 r hr).1, fun i hi => by rw [e _ (by omega)]; exact (h1 r hr).2 i hi⟩, by rw [e _ (by omega)]; exact h2, by rw [e _ (by omega)]; exact h3, fun i hi => by rw [e _ (by omega)]; exact h4 i hi, h5⟩
def tm_at (δ : Nat → Nat → Int) (t : List Nat) (f : Int × Int) : Prop := t.length ≤ 40 ∧ δ 94 6 = (t.length : Int) ∧ (∀ k (h : k < t.length), δ 98 k = (t[k] : Int)) ∧ (∀ c ∈ t, c < 256) ∧ δ 94 7 = f.1 ∧ δ 94 8 = f.2
def pm_at (δ : Nat → Nat → Int) (ps : List sK) : Prop := ps.length ≤ 10 ∧ δ 94 3 = (ps.length : Int) ∧ ∀ k (h : k < ps.length), bk_at δ 96 (128 * (ps.length - 1 - k)) ps[k]
def jm_at (δ : Nat → Nat → Int) (im : Nat → Option sK) : Prop := ∀ i, i < 2 → (im i = none ∧ δ 97 i = 0) ∨ ∃ K, im i = some K ∧ δ 97 i = 1 ∧ bk_at δ 95 (128 * (i + 1)) K
def ym_at (δ : Nat → Nat → Int) (ty : Nat → Option (List Int)) : Prop := ∀ t, t < 3 → (ty t = none ∧ δ 135 t = -1) ∨
  ∃ l, ty t = some l ∧ l.length ≤ 20 ∧ δ 135 t = (l.length : Int) ∧ (∀ i (h : i < l.length), δ 134 (20 * t + i) = l[i]) ∧ ∀ v ∈ l, 0 ≤ v ∧ v < 9223372036854775808
def ms_at (δ : Nat → Nat → Int) (S : sS) : Prop := bk_at δ 95 0 S.1 ∧ tm_at δ S.2.1 S.2.2.1 ∧ pm_at δ S.2.2.2.1 ∧ jm_at δ S.2.2.2.2.1 ∧ ym_at δ S.2.2.2.2.2
/-- the cells that ms_at speaks of, and the places of the object -/
def ms_P (b j : Nat) : Prop := b = 95 ∨ b = 96 ∨ b = 97 ∨ b = 98 ∨ b = 134 ∨ b = 135 ∨ (b = 94 ∧ (j = 3 ∨ j = 6 ∨ j = 7 ∨ j = 8))
theorem bk_fr {δ δ' : Nat → Nat → Int} {K : sK} {A p : Nat} (h : bk_at δ A p K) (e : ∀ j, δ' A j = δ A j) : bk_at δ' A p K := bk_copy h (fun j _ => e _)
theorem tm_fr {δ δ' : Nat → Nat → Int} {t : List Nat} {f : Int × Int} (h : tm_at δ t f) (e1 : ∀ j, j = 6 ∨ j = 7 ∨ j = 8 → δ' 94 j = δ 94 j) (e2 : ∀ j, δ' 98 j = δ 98 j) : tm_at δ' t f :=
  ⟨h.1, by rw [e1 6 (by decide)]; exact h.2.1, fun k hk => by rw [e2]; exact h.2.2.1 k hk, h.2.2.2.1, by rw [e1 7 (by decide)]; exact h.2.2.2.2.1, by rw [e1 8 (by decide)]; exact h.2.2.2.2.2⟩
theorem pm_fr {δ δ' : Nat → Nat → Int} {ps : List sK} (h : pm_at δ ps) (e1 : δ' 94 3 = δ 94 3) (e2 : ∀ j, δ' 96 j = δ 96 j) : pm_at δ' ps :=
  ⟨h.1, by rw [e1]; exact h.2.1, fun k hk => bk_fr (h.2.2 k hk) e2⟩
theorem jm_fr {δ δ' : Nat → Nat → Int} {im : Nat → Option sK} (h : jm_at δ im) (e1 : ∀ j, δ' 97 j = δ 97 j) (e2 : ∀ j, 128 ≤ j → δ' 95 j = δ 95 j) : jm_at δ' im := by
  intro i hi
  rcases h i hi with ⟨g1, g2⟩ | ⟨K, g1, g2, g3⟩
  · exact Or.inl ⟨g1, by rw [e1]; exact g2⟩
  · exact Or.inr ⟨K, g1, by rw [e1]; exact g2, bk_copy g3 (fun j hj => e2 _ (by omega))⟩
theorem ym_fr {δ δ' : Nat → Nat → Int} {ty : Nat → Option (List Int)} (h : ym_at δ ty) (e1 : ∀ j, δ' 134 j = δ 134 j) (e2 : ∀ j, δ' 135 j = δ 135 j) : ym_at δ' ty := by
  intro t ht
  rcases h t ht with ⟨g1, g2⟩ | ⟨l, g1, g2, g3, g4, g5⟩
  · exact Or.inl ⟨g1, by rw [e2]; exact g2⟩
  · exact Or.inr ⟨l, g1, g2, by rw [e2]; exact g3, fun i hi => by rw [e1]; exact g4 i hi, g5⟩
theorem ms_fr {δ δ' : Nat → Nat → Int} {S : sS} (h : ms_at δ S) (e : ∀ b j, ms_P b j → δ' b j = δ b j) : ms_at δ' S := by
  obtain ⟨h1, h2, h3, h4, h5⟩ := h
  exact ⟨bk_fr h1 (fun j => e 95 j (Or.inl rfl)), tm_fr h2 (fun j hj => e 94 j (by unfold ms_P; omega)) (fun j => e 98 j (by unfold ms_P; omega)), pm_fr h3 (e 94 3 (by unfold ms_P; omega)) (fun j => e 96 j (by unfold ms_P; omega)),
    jm_fr h4 (fun j => e 97 j (by unfold ms_P; omega)) (fun j _ => e 95 j (Or.inl rfl)), ym_fr h5 (fun j => e 134 j (by unfold ms_P; omega)) (fun j => e 135 j (by unfold ms_P; omega))⟩
/-- what the reference's simple calls leave as it was (the flag of laid cells aside) -/
def fm (δ δ' : Nat → Nat → Int) : Prop := (∀ b, b < 94 ∨ (99 ≤ b ∧ b ≠ 134 ∧ b ≠ 135) → ∀ j, δ' b j = δ b j)
theorem fm_rf {δ : Nat → Nat → Int} : fm δ δ := fun _ _ _ => rfl
theorem fm_tr {δ δ1 δ2 : Nat → Nat → Int} (h1 : fm δ δ1) (h2 : fm δ1 δ2) : fm δ δ2 := fun b a j => by rw [h2 b a j, h1 b a j]
theorem fm_wr {δ : Nat → Nat → Int} {a i : Nat} {v : Int} (h : ¬ (a < 94 ∨ (99 ≤ a ∧ a ≠ 134 ∧ a ≠ 135))) : fm δ (wr δ a i v) := fun b hb j => wr_a _ _ _ _ (fun e => h (by rw [← e]; exact hb)) j
theorem ms_thr {δ : Nat → Nat → Int} {S : sS} {v : Int} (h : ms_at δ S) : ms_at (wr δ 94 0 v) S := ms_fr h (fun b j hb => by
  unfold ms_P at hb
  by_cases e : b = 94
  · subst e; exact wr_i _ _ _ _ (by omega)
  · exact wr_a _ _ _ _ e j)
section GMS
variable {E : go_E} {d : Nat} {δ : Nat → Nat → Int} {Q : List go_V → go_F → (Nat → Nat → Int) → Prop} {K : sK}
theorem m_within {a b c : Int} (ha : go_iL a) (hb : go_iL b) (hc : go_iL c) (h1 : b ≤ a → a ≤ c → Q [vv_I 1] go_φ δ) (h0 : ¬ (b ≤ a ∧ a ≤ c) → Q [vv_I 0] go_φ δ) :
    Go E d (0, 0) mx_X12_within go_φ 0 [(0, vv_L a), (2, vv_L b), (4, vv_L c)] [] δ Q := by
  refine go_lload_n (i := 0) dx_X12_within_0 rfl rfl ?_
  refine go_lload_n (i := 2) dx_X12_within_1 rfl rfl ?_
  refine go_lcmp_lt (tgt := 17) dx_X12_within_2 dx_X12_within_3 rfl (by omega) (by omega) (fun c2 => ?_) (fun c2 => ?_)
  · refine go_iconst dx_X12_within_17 ?_
    refine go_zreturn dx_X12_within_18 rfl (by first | omega | (first | exact Or.inl rfl | exact Or.inr rfl)) (Nat.le_refl _) (Nat.le_refl _) ?_
    first | exact h1 (by omega) (by omega) | exact h0 (by omega)
  · refine go_lload_n (i := 0) dx_X12_within_6 rfl rfl ?_
    refine go_lload dx_X12_within_7 rfl ?_
    refine go_lcmp_gt (tgt := 17) dx_X12_within_9 dx_X12_within_10 rfl (by omega) (by omega) (fun c9 => ?_) (fun c9 => ?_)
    · refine go_iconst dx_X12_within_17 ?_
      refine go_zreturn dx_X12_within_18 rfl (by first | omega | (first | exact Or.inl rfl | exact Or.inr rfl)) (Nat.le_refl _) (Nat.le_refl _) ?_
      first | exact h1 (by omega) (by omega) | exact h0 (by omega)
    · refine go_iconst dx_X12_within_13 ?_
      refine go_goto (tgt := 18) dx_X12_within_14 rfl ?_
      refine go_zreturn dx_X12_within_18 rfl (by first | omega | (first | exact Or.inl rfl | exact Or.inr rfl)) (Nat.le_refl _) (Nat.le_refl _) ?_
      first | exact h1 (by omega) (by omega) | exact h0 (by omega)
theorem m_within1 {a b c : Int} (hb : go_iL b) (hc : go_iL c) (h1 : b ≤ a) (h2 : a ≤ c) (h : Q [vv_I 1] go_φ δ) : Go E d (0, 0) mx_X12_within go_φ 0 [(0, vv_L a), (2, vv_L b), (4, vv_L c)] [] δ Q :=
  m_within (by omega) hb hc (fun _ _ => h) (fun q => absurd ⟨h1, h2⟩ q)
theorem m_longOf {r : Nat} (h : bk_at δ 95 0 K) (hr : r < 16) (hQ : Q [vv_I (((K.1 r).length - 1 : Nat) : Int)] go_φ δ) : Go E d (0, 0) mx_X12_longOf go_φ 0 [(0, vv_A 94), (1, vv_I (r : Int))] [] δ Q := by
  have hl : go_ln 95 = 384 := rfl
  have e := (h.1 r hr).1
  refine go_aload_n (i := 0) dx_X12_longOf_0 rfl rfl ?_
  refine go_getA (b := 95) fs_X12_7 rfl (go_ok rfl rfl) rfl dx_X12_longOf_1 ?_
  refine go_bipush dx_X12_longOf_4 rfl ?_
  refine go_iload_n (i := 1) dx_X12_longOf_6 rfl rfl ?_
  refine go_imul dx_X12_longOf_7 ?_
  refine go_iconst dx_X12_longOf_8 ?_
  refine go_iadd dx_X12_longOf_9 ?_
  refine go_iaload dx_X12_longOf_10 (go_ok rfl rfl) (by omega) (by omega) ?_
  refine go_ireturn dx_X12_longOf_11 rfl (Nat.le_refl _) (Nat.le_refl _) ?_
  rw [show ((7 : Int) * (r : Int) + 0).toNat = 0 + 7 * r by omega, e]
  exact hQ
theorem m_symbolOf {r : Nat} (h : bk_at δ 95 0 K) (hr : r < 16) (hQ : Q [vv_I (((K.1 r).getD 0 0 : Nat) : Int)] go_φ δ) : Go E d (0, 0) mx_X12_symbolOf go_φ 0 [(0, vv_A 94), (1, vv_I (r : Int))] [] δ Q := by
  have hl : go_ln 95 = 384 := rfl
  have e := (h.1 r hr).2 0 (by omega)
  refine go_aload_n (i := 0) dx_X12_symbolOf_0 rfl rfl ?_
  refine go_getA (b := 95) fs_X12_7 rfl (go_ok rfl rfl) rfl dx_X12_symbolOf_1 ?_
  refine go_bipush dx_X12_symbolOf_4 rfl ?_
  refine go_iload_n (i := 1) dx_X12_symbolOf_6 rfl rfl ?_
  refine go_imul dx_X12_symbolOf_7 ?_
  refine go_iconst dx_X12_symbolOf_8 ?_
  refine go_iadd dx_X12_symbolOf_9 ?_
  refine go_iaload dx_X12_symbolOf_10 (go_ok rfl rfl) (by omega) (by omega) ?_
  refine go_ireturn dx_X12_symbolOf_11 rfl (Nat.le_refl _) (Nat.le_refl _) ?_
  rw [show ((7 : Int) * (r : Int) + 1).toNat = 0 + (7 * r + 1 + 0) by omega, e]
  exact hQ
theorem m_partOf {r i : Nat} (h : bk_at δ 95 0 K) (hr : r < 16) (hi : i < 5) (hQ : Q [vv_I (((K.1 r).getD (i + 1) 0 : Nat) : Int)] go_φ δ) : Go E d (0, 0) mx_X12_partOf go_φ 0 [(0, vv_A 94), (1, vv_I (r : Int)), (2, vv_I (i : Int))] [] δ Q := by
  have hl : go_ln 95 = 384 := rfl
  have e := (h.1 r hr).2 (i + 1) (by omega)
  refine go_aload_n (i := 0) dx_X12_partOf_0 rfl rfl ?_
  refine go_getA (b := 95) fs_X12_7 rfl (go_ok rfl rfl) rfl dx_X12_partOf_1 ?_
  refine go_bipush dx_X12_partOf_4 rfl ?_
  refine go_iload_n (i := 1) dx_X12_partOf_6 rfl rfl ?_
  refine go_imul dx_X12_partOf_7 ?_
  refine go_iconst dx_X12_partOf_8 ?_
  refine go_iadd dx_X12_partOf_9 ?_
  refine go_iload_n (i := 2) dx_X12_partOf_10 rfl rfl ?_
  refine go_iadd dx_X12_partOf_11 ?_
  refine go_iaload dx_X12_partOf_12 (go_ok rfl rfl) (by omega) (by omega) ?_
  refine go_ireturn dx_X12_partOf_13 rfl (Nat.le_refl _) (Nat.le_refl _) ?_
  rw [show ((7 : Int) * (r : Int) + 2 + (i : Int)).toNat = 0 + (7 * r + 1 + (i + 1)) by omega, e]
  exact hQ
theorem m_letters (h : bk_at δ 95 0 K) (hQ : Q [vv_I (K.2.2.length : Int)] go_φ δ) : Go E d (0, 0) mx_X12_letters go_φ 0 [(0, vv_A 94)] [] δ Q := by
  have hl : go_ln 95 = 384 := rfl
  have e := h.2.2.1
  refine go_aload_n (i := 0) dx_X12_letters_0 rfl rfl ?_
  refine go_getA (b := 95) fs_X12_7 rfl (go_ok rfl rfl) rfl dx_X12_letters_1 ?_
  refine go_bipush dx_X12_letters_4 rfl ?_
  refine go_iaload dx_X12_letters_6 (go_ok rfl rfl) (by omega) (by omega) ?_
  refine go_ireturn dx_X12_letters_7 rfl (Nat.le_refl _) (Nat.le_refl _) ?_
  rw [show (113 : Int).toNat = 0 + 113 from rfl, e]
  exact hQ
theorem m_isRule {r : Int} (hr : go_iI r) (h : bk_at δ 95 0 K) (h1 : 0 ≤ r → r < 16 → K.1 r.toNat ≠ [] → Q [vv_I 1] go_φ δ) (h0 : ¬ (0 ≤ r ∧ r < 16 ∧ K.1 r.toNat ≠ []) → Q [vv_I 0] go_φ δ) :
    Go E (d + 1) (0, 0) mx_X12_isRule go_φ 0 [(0, vv_A 94), (1, vv_I r)] [] δ Q := by
  have hok := h.2.2.2.2.1 r.toNat
  have hlen := hok.len
  have h2 : K.1 r.toNat ≠ [] → 2 ≤ (K.1 r.toNat).length := fun q => by
    rcases hok with e | ⟨e, -⟩
    · exact absurd e q
    · exact e
  refine go_iload_n (i := 1) dx_X12_isRule_0 rfl rfl ?_
  refine go_i2l dx_X12_isRule_1 (by omega) ?_
  refine go_lconst (x := 0) dx_X12_isRule_2 rfl ?_
  refine go_ldc2 (x := 15) kx_X12_142 dx_X12_isRule_3 ?_
  refine go_cS3 ss_X12_144 dx_X12_isRule_6 (Nat.le_of_ble_eq_true rfl) (Nat.le_of_ble_eq_true rfl) (m_within (by omega) (by omega) (by omega) (fun a1 a2 => ?_) (fun b1 => ?_))
  · refine go_if_eq (tgt := 24) dx_X12_isRule_9 rfl (by omega) (fun c9 => absurd c9 (by decide)) (fun c9 => ?_)
    obtain ⟨m, rfl⟩ : ∃ m : Nat, r = (m : Int) := ⟨r.toNat, by omega⟩
    rw [Int.toNat_natCast] at h1 h0 h2 hlen
    refine go_aload_n (i := 0) dx_X12_isRule_12 rfl rfl ?_
    refine go_iload_n (i := 1) dx_X12_isRule_13 rfl rfl ?_
    refine go_cV1 sv_X12_148 (go_ok rfl rfl) dx_X12_isRule_14 (Nat.le_of_ble_eq_true rfl) (Nat.le_of_ble_eq_true rfl) (m_longOf h (by omega) ?_)
    refine go_if_le (tgt := 24) dx_X12_isRule_17 rfl (by omega) (fun c17 => ?_) (fun c17 => ?_)
    · refine go_iconst dx_X12_isRule_24 ?_
      refine go_zreturn dx_X12_isRule_25 rfl (by first | omega | (first | exact Or.inl rfl | exact Or.inr rfl)) (Nat.le_refl _) (Nat.le_refl _) ?_
      first | exact h0 (fun q => absurd (h2 q.2.2) (by omega)) | exact h1 (by omega) (by omega) (fun q => by rw [q] at c17; simp at c17)
    · refine go_iconst dx_X12_isRule_20 ?_
      refine go_goto (tgt := 25) dx_X12_isRule_21 rfl ?_
      refine go_zreturn dx_X12_isRule_25 rfl (by first | omega | (first | exact Or.inl rfl | exact Or.inr rfl)) (Nat.le_refl _) (Nat.le_refl _) ?_
      first | exact h0 (fun q => absurd (h2 q.2.2) (by omega)) | exact h1 (by omega) (by omega) (fun q => by rw [q] at c17; simp at c17)
  · refine go_if_eq (tgt := 24) dx_X12_isRule_9 rfl (by omega) (fun c9 => ?_) (fun c9 => absurd c9 (by decide))
    refine go_iconst dx_X12_isRule_24 ?_
    refine go_zreturn dx_X12_isRule_25 rfl (by first | omega | (first | exact Or.inl rfl | exact Or.inr rfl)) (Nat.le_refl _) (Nat.le_refl _) ?_
    exact h0 (fun q => b1 ⟨q.1, by omega⟩)
theorem m_isSymbol {x : Int} (hx : go_iI x) (h1 : 0 ≤ x → x < 8 → Q [vv_I 1] go_φ δ) (h0 : ¬ (0 ≤ x ∧ x < 8) → Q [vv_I 0] go_φ δ) : Go E (d + 1) (0, 0) mx_X12_isSymbol go_φ 0 [(0, vv_I x)] [] δ Q := by
  refine go_iload_n (i := 0) dx_X12_isSymbol_0 rfl rfl ?_
  refine go_i2l dx_X12_isSymbol_1 (by omega) ?_
  refine go_lconst (x := 0) dx_X12_isSymbol_2 rfl ?_
  refine go_ldc2 (x := 7) kx_X12_210 dx_X12_isSymbol_3 ?_
  refine go_cS3 ss_X12_144 dx_X12_isSymbol_6 (Nat.le_of_ble_eq_true rfl) (Nat.le_of_ble_eq_true rfl) (m_within (by omega) (by omega) (by omega) (fun a1 a2 => ?_) (fun b1 => ?_))
  · refine go_zreturn dx_X12_isSymbol_9 rfl (by first | omega | (first | exact Or.inl rfl | exact Or.inr rfl)) (Nat.le_refl _) (Nat.le_refl _) ?_
    first | exact h0 (fun q => b1 ⟨q.1, by omega⟩) | exact h1 a1 (by omega)
  · refine go_zreturn dx_X12_isSymbol_9 rfl (by first | omega | (first | exact Or.inl rfl | exact Or.inr rfl)) (Nat.le_refl _) (Nat.le_refl _) ?_
    first | exact h0 (fun q => b1 ⟨q.1, by omega⟩) | exact h1 a1 (by omega)
theorem m_isTray {x : Int} (hx : go_iI x) (h1 : 0 ≤ x → x < 3 → Q [vv_I 1] go_φ δ) (h0 : ¬ (0 ≤ x ∧ x < 3) → Q [vv_I 0] go_φ δ) : Go E (d + 1) (0, 0) mx_X12_isTray go_φ 0 [(0, vv_I x)] [] δ Q := by
  refine go_iload_n (i := 0) dx_X12_isTray_0 rfl rfl ?_
  refine go_i2l dx_X12_isTray_1 (by omega) ?_
  refine go_lconst (x := 0) dx_X12_isTray_2 rfl ?_
  refine go_ldc2 (x := 2) kx_X12_286 dx_X12_isTray_3 ?_
  refine go_cS3 ss_X12_144 dx_X12_isTray_6 (Nat.le_of_ble_eq_true rfl) (Nat.le_of_ble_eq_true rfl) (m_within (by omega) (by omega) (by omega) (fun a1 a2 => ?_) (fun b1 => ?_))
  · refine go_zreturn dx_X12_isTray_9 rfl (by first | omega | (first | exact Or.inl rfl | exact Or.inr rfl)) (Nat.le_refl _) (Nat.le_refl _) ?_
    first | exact h0 (fun q => b1 ⟨q.1, by omega⟩) | exact h1 a1 (by omega)
  · refine go_zreturn dx_X12_isTray_9 rfl (by first | omega | (first | exact Or.inl rfl | exact Or.inr rfl)) (Nat.le_refl _) (Nat.le_refl _) ?_
    first | exact h0 (fun q => b1 ⟨q.1, by omega⟩) | exact h1 a1 (by omega)
theorem m_isPlace {x : Int} (hx : go_iI x) (h : bk_at δ 95 0 K) (h1 : 0 ≤ x → x ≤ (K.2.2.length : Int) → Q [vv_I 1] go_φ δ) (h0 : ¬ (0 ≤ x ∧ x ≤ (K.2.2.length : Int)) → Q [vv_I 0] go_φ δ) : Go E (d + 1) (0, 0) mx_X12_isPlace go_φ 0 [(0, vv_A 94), (1, vv_I x)] [] δ Q := by
  have h14 := h.2.2.2.2.2.2.2.2.1
  refine go_iload_n (i := 1) dx_X12_isPlace_0 rfl rfl ?_
  refine go_i2l dx_X12_isPlace_1 (by omega) ?_
  refine go_lconst (x := 0) dx_X12_isPlace_2 rfl ?_
  refine go_aload_n (i := 0) dx_X12_isPlace_3 rfl rfl ?_
  refine go_cV0 sv_X12_253 (go_ok rfl rfl) dx_X12_isPlace_4 (Nat.le_of_ble_eq_true rfl) (Nat.le_of_ble_eq_true rfl) (m_letters h ?_)
  refine go_i2l dx_X12_isPlace_7 (by omega) ?_
  refine go_cS3 ss_X12_144 dx_X12_isPlace_8 (Nat.le_of_ble_eq_true rfl) (Nat.le_of_ble_eq_true rfl) (m_within (by omega) (by omega) (by omega) (fun a1 a2 => ?_) (fun b1 => ?_))
  · refine go_zreturn dx_X12_isPlace_11 rfl (by first | omega | (first | exact Or.inl rfl | exact Or.inr rfl)) (Nat.le_refl _) (Nat.le_refl _) ?_
    first | exact h0 b1 | exact h1 a1 a2
  · refine go_zreturn dx_X12_isPlace_11 rfl (by first | omega | (first | exact Or.inl rfl | exact Or.inr rfl)) (Nat.le_refl _) (Nat.le_refl _) ?_
    first | exact h0 b1 | exact h1 a1 a2
theorem m_isSymbolByte {x : Int} (hx : go_iI x) (h1 : 65 ≤ x → x ≤ 72 → Q [vv_I 1] go_φ δ) (h0 : ¬ (65 ≤ x ∧ x ≤ 72) → Q [vv_I 0] go_φ δ) : Go E (d + 1) (0, 0) mx_X12_isSymbolByte go_φ 0 [(0, vv_I x)] [] δ Q := by
  refine go_iload_n (i := 0) dx_X12_isSymbolByte_0 rfl rfl ?_
  refine go_i2l dx_X12_isSymbolByte_1 (by omega) ?_
  refine go_ldc2 (x := 65) kx_X12_169 dx_X12_isSymbolByte_2 ?_
  refine go_ldc2 (x := 72) kx_X12_171 dx_X12_isSymbolByte_5 ?_
  refine go_cS3 ss_X12_144 dx_X12_isSymbolByte_8 (Nat.le_of_ble_eq_true rfl) (Nat.le_of_ble_eq_true rfl) (m_within (by omega) (by omega) (by omega) (fun a1 a2 => ?_) (fun b1 => ?_))
  · refine go_zreturn dx_X12_isSymbolByte_11 rfl (by first | omega | (first | exact Or.inl rfl | exact Or.inr rfl)) (Nat.le_refl _) (Nat.le_refl _) ?_
    first | exact h0 b1 | exact h1 a1 a2
  · refine go_zreturn dx_X12_isSymbolByte_11 rfl (by first | omega | (first | exact Or.inl rfl | exact Or.inr rfl)) (Nat.le_refl _) (Nat.le_refl _) ?_
    first | exact h0 b1 | exact h1 a1 a2
theorem m_isLetterByte {x : Int} (hx : go_iI x) (h1 : 97 ≤ x → x ≤ 102 → Q [vv_I 1] go_φ δ) (h0 : ¬ (97 ≤ x ∧ x ≤ 102) → Q [vv_I 0] go_φ δ) : Go E (d + 1) (0, 0) mx_X12_isLetterByte go_φ 0 [(0, vv_I x)] [] δ Q := by
  refine go_iload_n (i := 0) dx_X12_isLetterByte_0 rfl rfl ?_
  refine go_i2l dx_X12_isLetterByte_1 (by omega) ?_
  refine go_ldc2 (x := 97) kx_X12_165 dx_X12_isLetterByte_2 ?_
  refine go_ldc2 (x := 102) kx_X12_167 dx_X12_isLetterByte_5 ?_
  refine go_cS3 ss_X12_144 dx_X12_isLetterByte_8 (Nat.le_of_ble_eq_true rfl) (Nat.le_of_ble_eq_true rfl) (m_within (by omega) (by omega) (by omega) (fun a1 a2 => ?_) (fun b1 => ?_))
  · refine go_zreturn dx_X12_isLetterByte_11 rfl (by first | omega | (first | exact Or.inl rfl | exact Or.inr rfl)) (Nat.le_refl _) (Nat.le_refl _) ?_
    first | exact h0 b1 | exact h1 a1 a2
  · refine go_zreturn dx_X12_isLetterByte_11 rfl (by first | omega | (first | exact Or.inl rfl | exact Or.inr rfl)) (Nat.le_refl _) (Nat.le_refl _) ?_
    first | exact h0 b1 | exact h1 a1 a2
theorem m_symbolByte {x : Int} {c : Nat} (hx : x = (c : Int)) (hc : c < 256) (hs : sy c ≠ -1) (hQ : Q [vv_I (sy c)] go_φ δ) : Go E (d + 2) (0, 0) mx_X12_symbolByte go_φ 0 [(0, vv_I x)] [] δ Q := by
  subst hx
  refine go_iload_n (i := 0) dx_X12_symbolByte_0 rfl rfl ?_
  refine go_cS1 ss_X12_177 dx_X12_symbolByte_1 (Nat.le_of_ble_eq_true rfl) (Nat.le_of_ble_eq_true rfl) (m_isSymbolByte (by omega) (fun a1 a2 => ?_) (fun b1 => ?_))
  · refine go_if_eq (tgt := 14) dx_X12_symbolByte_4 rfl (by omega) (fun c4 => absurd c4 (by decide)) (fun c4 => ?_)
    refine go_iload_n (i := 0) dx_X12_symbolByte_7 rfl rfl ?_
    refine go_bipush dx_X12_symbolByte_8 rfl ?_
    refine go_isub dx_X12_symbolByte_10 ?_
    refine go_goto (tgt := 21) dx_X12_symbolByte_11 rfl ?_
    refine go_ireturn dx_X12_symbolByte_21 rfl (Nat.le_refl _) (Nat.le_refl _) ?_
    first | (rw [sy_1 (by omega) (by omega)] at hQ; exact hQ) | (have hb : 97 ≤ c ∧ c ≤ 102 := Classical.byContradiction (fun q => hs (sy_3 (by omega) q)); rw [sy_2 hb.1 hb.2] at hQ; rw [show (8 : Int) + (c : Int) - 97 = (c : Int) - 97 + 8 by omega]; exact hQ)
  · refine go_if_eq (tgt := 14) dx_X12_symbolByte_4 rfl (by omega) (fun c4 => ?_) (fun c4 => absurd c4 (by decide))
    refine go_bipush dx_X12_symbolByte_14 rfl ?_
    refine go_iload_n (i := 0) dx_X12_symbolByte_16 rfl rfl ?_
    refine go_iadd dx_X12_symbolByte_17 ?_
    refine go_bipush dx_X12_symbolByte_18 rfl ?_
    refine go_isub dx_X12_symbolByte_20 ?_
    refine go_ireturn dx_X12_symbolByte_21 rfl (Nat.le_refl _) (Nat.le_refl _) ?_
    first | (rw [sy_1 (by omega) (by omega)] at hQ; exact hQ) | (have hb : 97 ≤ c ∧ c ≤ 102 := Classical.byContradiction (fun q => hs (sy_3 (by omega) q)); rw [sy_2 hb.1 hb.2] at hQ; rw [show (8 : Int) + (c : Int) - 97 = (c : Int) - 97 + 8 by omega]; exact hQ)
theorem m_fails {k p : Int} (hQ : Q [vv_I (-30 - k)] go_φ (wr (wr δ 94 7 k) 94 8 p)) : Go E d (0, 0) mx_X12_fails go_φ 0 [(0, vv_A 94), (1, vv_I k), (2, vv_I p)] [] δ Q := by
  refine go_aload_n (i := 0) dx_X12_fails_0 rfl rfl ?_
  refine go_iload_n (i := 1) dx_X12_fails_1 rfl rfl ?_
  refine go_putI fp_X12_162 rfl rfl (go_ok rfl rfl) dx_X12_fails_2 ?_
  refine go_aload_n (i := 0) dx_X12_fails_5 rfl rfl ?_
  refine go_iload_n (i := 2) dx_X12_fails_6 rfl rfl ?_
  refine go_putI fp_X12_23 rfl rfl (go_ok rfl rfl) dx_X12_fails_7 ?_
  refine go_bipush dx_X12_fails_10 rfl ?_
  refine go_iload_n (i := 1) dx_X12_fails_12 rfl rfl ?_
  refine go_isub dx_X12_fails_13 ?_
  refine go_ireturn dx_X12_fails_14 rfl (Nat.le_refl _) (Nat.le_refl _) ?_
  exact hQ
theorem m_notes {ps : List sK} (h : bk_at δ 95 0 K) (hp : pm_at δ ps) (hQ : ∀ δ', pm_at δ' ((K :: ps).take 10) → (∀ b j, b ≠ 96 → (b = 94 → j ≠ 3 ∧ j ≠ 20) → δ' b j = δ b j) → δ' 94 20 = 0 → Q [] go_φ δ') :
    Go E d (0, 0) mx_X12_notes go_φ 0 [(0, vv_A 94)] [] δ Q := by
  obtain ⟨h1, h2, h3⟩ := hp
  have hl95 : go_ln 95 = 384 := rfl
  have hl96 : go_ln 96 = 1280 := rfl
  -- the second half: the state is copied to the end
  have half : ∀ (δ0 : Nat → Nat → Int) (lv0 : List (Nat × go_V)) (qs : List sK), lv0 = [(0, vv_A 94)] → qs.length < 10 → (K :: qs) = (K :: ps).take 10 → δ0 94 3 = (qs.length : Int) → (∀ k (h : k < qs.length), bk_at δ0 96 (128 * (qs.length - 1 - k)) qs[k]) → (∀ b j, b ≠ 96 → (b = 94 → j ≠ 3 ∧ j ≠ 20) → δ0 b j = δ b j) →
      Go E d (0, 0) mx_X12_notes go_φ 50 lv0 [] δ0 Q := by
    intro δ0 lv0 qs e0 g1 g2 g3 g4 g5
    subst e0
    have loop : ∀ (k i : Nat) (δ1 : Nat → Nat → Int), 128 - i < k → i ≤ 128 → (∀ b j, (b = 96 → ¬ (128 * qs.length ≤ j ∧ j < 128 * qs.length + 128)) → δ1 b j = δ0 b j) → (∀ j, j < i → δ1 96 (128 * qs.length + j) = δ 95 j) →
        Go E d (0, 0) mx_X12_notes go_φ 52 [(0, vv_A 94), (1, vv_I (i : Int))] [] δ1 Q := by
      intro k
      induction k with
      | zero => intros; omega
      | succ k ih =>
        intro i δ1 a1 a2 a3 a4
        have e3 : δ1 94 3 = (qs.length : Int) := by rw [a3 94 3 (fun q => absurd q (by decide))]; exact g3
        refine go_iload_n (i := 1) dx_X12_notes_52 rfl rfl ?_
        refine go_sipush dx_X12_notes_53 rfl ?_
        refine go_icmp_ge (tgt := 86) dx_X12_notes_56 rfl (by omega) (by omega) (fun c56 => ?_) (fun c56 => ?_)
        · refine go_aload_n (i := 0) dx_X12_notes_86 rfl rfl ?_
          refine go_dup dx_X12_notes_87 rfl ?_
          refine go_getI fs_X12_152 (Or.inl rfl) (go_ok rfl rfl) dx_X12_notes_88 ?_
          refine go_iconst dx_X12_notes_91 ?_
          refine go_iadd dx_X12_notes_92 ?_
          refine go_putI fp_X12_152 rfl rfl (go_ok rfl rfl) dx_X12_notes_93 ?_
          refine go_aload_n (i := 0) dx_X12_notes_96 rfl rfl ?_
          refine go_iconst dx_X12_notes_97 ?_
          refine go_putZ fp_X12_155 rfl rfl (go_ok rfl rfl) (by omega) dx_X12_notes_98 ?_
          refine go_vreturn dx_X12_notes_101 rfl (Nat.le_refl _) (Nat.le_refl _) ?_
          rw [e3]
          refine hQ _ ?_ (fun b j hb hj => ?_) ?_
          · rw [← g2]
            refine ⟨by rw [List.length_cons]; omega, ?_, fun m hm => ?_⟩
            · rw [wr_i _ _ _ _ (by decide), wr_eq, List.length_cons]; omega
            · rw [List.length_cons] at hm
              cases m with
              | zero =>
                rw [List.length_cons, show 128 * (qs.length + 1 - 1 - 0) = 128 * qs.length by omega]
                refine bk_copy h (fun j hj => ?_)
                rw [wr_a _ _ _ _ (by decide), wr_a _ _ _ _ (by decide), a4 j (by omega), Nat.zero_add]
              | succ m =>
                rw [List.length_cons, show 128 * (qs.length + 1 - 1 - (m + 1)) = 128 * (qs.length - 1 - m) by omega]
                refine bk_copy (g4 m (by omega)) (fun j hj => ?_)
                rw [wr_a _ _ _ _ (by decide), wr_a _ _ _ _ (by decide), a3 96 _ (fun _ => by omega)]
          · by_cases e : b = 94
            · subst e
              have := hj rfl
              rw [wr_i _ _ _ _ (by omega), wr_i _ _ _ _ (by omega), a3 94 j (fun q => absurd q (by decide)), g5 94 j (by decide) hj]
            · rw [wr_a _ _ _ _ e, wr_a _ _ _ _ e, a3 b j (fun q => absurd q hb), g5 b j hb hj]
          · rw [wr_eq]
        · refine go_aload_n (i := 0) dx_X12_notes_59 rfl rfl ?_
          refine go_getA (b := 96) fs_X12_13 rfl (go_ok rfl rfl) rfl dx_X12_notes_60 ?_
          refine go_sipush dx_X12_notes_63 rfl ?_
          refine go_aload_n (i := 0) dx_X12_notes_66 rfl rfl ?_
          refine go_getI fs_X12_152 (Or.inl rfl) (go_ok rfl rfl) dx_X12_notes_67 ?_
          refine go_imul dx_X12_notes_70 ?_
          refine go_iload_n (i := 1) dx_X12_notes_71 rfl rfl ?_
          refine go_iadd dx_X12_notes_72 ?_
          refine go_aload_n (i := 0) dx_X12_notes_73 rfl rfl ?_
          refine go_getA (b := 95) fs_X12_7 rfl (go_ok rfl rfl) rfl dx_X12_notes_74 ?_
          refine go_iload_n (i := 1) dx_X12_notes_77 rfl rfl ?_
          refine go_iaload dx_X12_notes_78 (go_ok rfl rfl) (by omega) (by omega) ?_
          refine go_iastore dx_X12_notes_79 (go_ok rfl rfl) (by omega) (by omega) ?_
          refine go_iinc (lv' := [(0, vv_A 94), (1, vv_I ((i : Int) + 1))]) dx_X12_notes_80 rfl (by decide) rfl ?_
          refine go_goto (tgt := 52) dx_X12_notes_83 rfl ?_
          rw [e3, show ((128 : Int) * (qs.length : Int) + (i : Int)).toNat = 128 * qs.length + i by omega, Int.toNat_natCast]
          refine ih (i + 1) _ (by omega) (by omega) (fun b j hb => ?_) (fun j hj => ?_)
          · by_cases e : b = 96
            · subst e; rw [wr_i _ _ _ _ (by have := hb rfl; omega)]; exact a3 96 j hb
            · rw [wr_a _ _ _ _ e]; exact a3 b j hb
          · by_cases e : j = i
            · subst e; rw [wr_eq, a3 95 j (fun q => absurd q (by decide)), g5 95 j (by decide) (fun q => absurd q (by decide))]
            · rw [wr_i _ _ _ _ (by omega)]; exact a4 j (by omega)
    refine go_iconst dx_X12_notes_50 ?_
    refine go_istore_n (i := 1) (lv' := [(0, vv_A 94), (1, vv_I 0)]) dx_X12_notes_51 rfl (by decide) rfl ?_
    exact loop 129 0 δ0 (by omega) (by omega) (fun _ _ _ => rfl) (fun j hj => by omega)
  refine go_aload_n (i := 0) dx_X12_notes_0 rfl rfl ?_
  refine go_getI fs_X12_152 (Or.inl rfl) (go_ok rfl rfl) dx_X12_notes_1 ?_
  refine go_bipush dx_X12_notes_4 rfl ?_
  refine go_icmp_ne (tgt := 50) dx_X12_notes_6 rfl (by omega) (by omega) (fun c6 => ?_) (fun c6 => ?_)
  · exact half δ _ ps rfl (by omega) (by rw [List.take_of_length_le (by rw [List.length_cons]; omega)]) h2 h3 (fun _ _ _ _ => rfl)
  · have h10 : ps.length = 10 := by omega
    have loop : ∀ (k i : Nat) (δ1 : Nat → Nat → Int), 1152 - i < k → i ≤ 1152 → (∀ b j, b ≠ 96 → δ1 b j = δ b j) → (∀ j, j < i → δ1 96 j = δ 96 (128 + j)) → (∀ j, i ≤ j → δ1 96 j = δ 96 j) →
        Go E d (0, 0) mx_X12_notes go_φ 11 [(0, vv_A 94), (1, vv_I (i : Int))] [] δ1 Q := by
      intro k
      induction k with
      | zero => intros; omega
      | succ k ih =>
        intro i δ1 a1 a2 a3 a4 a5
        refine go_iload_n (i := 1) dx_X12_notes_11 rfl rfl ?_
        refine go_sipush dx_X12_notes_12 rfl ?_
        refine go_icmp_ge (tgt := 40) dx_X12_notes_15 rfl (by omega) (by omega) (fun c15 => ?_) (fun c15 => ?_)
        · refine go_aload_n (i := 0) dx_X12_notes_40 rfl rfl ?_
          refine go_dup dx_X12_notes_41 rfl ?_
          refine go_getI fs_X12_152 (Or.inl rfl) (go_ok rfl rfl) dx_X12_notes_42 ?_
          refine go_iconst dx_X12_notes_45 ?_
          refine go_isub dx_X12_notes_46 ?_
          refine go_putI fp_X12_152 rfl rfl (go_ok rfl rfl) dx_X12_notes_47 ?_
          refine go_keep [0] rfl ?_
          have hi : i = 1152 := by omega
          subst hi
          refine half _ _ (ps.take 9) rfl (by rw [List.length_take]; omega) ?_ ?_ (fun m hm => ?_) (fun b j hb hj => ?_)
          · rw [show (10 : Nat) = 9 + 1 from rfl, List.take_succ_cons]
          · rw [wr_eq, a3 94 3 (by decide), h2, List.length_take]; omega
          · have hm9 : m < 9 := by rw [List.length_take] at hm; omega
            have e9 : (ps.take 9).length = 9 := by rw [List.length_take]; omega
            have e10 : 128 * ((ps.take 9).length - 1 - m) = 128 * (8 - m) := by rw [e9]
            rw [List.getElem_take, e10]
            refine bk_copy (h3 m (by omega)) (fun j hj => ?_)
            rw [wr_a _ _ _ _ (by decide), a4 _ (by omega), h10]
            congr 1
            omega
          · by_cases e : b = 94
            · subst e; rw [wr_i _ _ _ _ (by have := hj rfl; omega)]; exact a3 94 j hb
            · rw [wr_a _ _ _ _ e]; exact a3 b j hb
        · refine go_aload_n (i := 0) dx_X12_notes_18 rfl rfl ?_
          refine go_getA (b := 96) fs_X12_13 rfl (go_ok rfl rfl) rfl dx_X12_notes_19 ?_
          refine go_iload_n (i := 1) dx_X12_notes_22 rfl rfl ?_
          refine go_aload_n (i := 0) dx_X12_notes_23 rfl rfl ?_
          refine go_getA (b := 96) fs_X12_13 rfl (go_ok rfl rfl) rfl dx_X12_notes_24 ?_
          refine go_sipush dx_X12_notes_27 rfl ?_
          refine go_iload_n (i := 1) dx_X12_notes_30 rfl rfl ?_
          refine go_iadd dx_X12_notes_31 ?_
          refine go_iaload dx_X12_notes_32 (go_ok rfl rfl) (by omega) (by omega) ?_
          refine go_iastore dx_X12_notes_33 (go_ok rfl rfl) (by omega) (by omega) ?_
          refine go_iinc (lv' := [(0, vv_A 94), (1, vv_I ((i : Int) + 1))]) dx_X12_notes_34 rfl (by decide) rfl ?_
          refine go_goto (tgt := 11) dx_X12_notes_37 rfl ?_
          rw [show ((128 : Int) + (i : Int)).toNat = 128 + i by omega, Int.toNat_natCast]
          refine ih (i + 1) _ (by omega) (by omega) (fun b j hb => by rw [wr_a _ _ _ _ hb]; exact a3 b j hb) (fun j hj => ?_) (fun j hj => by rw [wr_i _ _ _ _ (by omega)]; exact a5 j (by omega))
          by_cases e : j = i
          · subst e; rw [wr_eq, a5 _ (by omega)]
          · rw [wr_i _ _ _ _ e]; exact a4 j (by omega)
    refine go_iconst dx_X12_notes_9 ?_
    refine go_istore_n (i := 1) (lv' := [(0, vv_A 94), (1, vv_I 0)]) dx_X12_notes_10 rfl (by decide) rfl ?_
    exact loop 1153 0 δ (by omega) (by omega) (fun _ _ _ => rfl) (fun j hj => by omega) (fun _ _ => rfl)
end GMS
