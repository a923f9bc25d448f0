/-! the reference's calls: viable, next -/
def vs_at (δ : Nat → Nat → Int) (R : Nat → List Nat) (w : List Nat) (t : Nat → Prop) (i : Nat) : Prop := (∀ y, y < 8 → ∀ k, i < k → k < w.length → δ 128 (16 * y + k) = b01 (bgn R (plw w) k w.length y)) ∧ ∀ y, y < 8 → δ 128 (16 * y + i) = b01 (t y)
theorem vs_fr {δ δ' : Nat → Nat → Int} {R : Nat → List Nat} {w : List Nat} {t : Nat → Prop} {i : Nat} (h : vs_at δ R w t i) (f : ∀ j, δ' 128 j = δ 128 j) : vs_at δ' R w t i := ⟨fun y hy k a b => by rw [f]; exact h.1 y hy k a b, fun y hy => by rw [f]; exact h.2 y hy⟩
theorem vs_pbg {δ : Nat → Nat → Int} {R : Nat → List Nat} {w : List Nat} {t : Nat → Prop} {i y k : Nat} (h : vs_at δ R w t i) (hy : y < 8) (hik : i ≤ k) (hk : k < w.length) : δ 128 (16 * y + k) = b01 (pbg R w t i y k) := by
  by_cases z : k = i
  · subst z
    rw [h.2 y hy]
    exact b01_c ⟨fun q => Or.inr ⟨hy, Or.inl ⟨rfl, q⟩⟩, fun q => by
      rcases q with ⟨a, _, _⟩ | ⟨_, ⟨_, q⟩ | ⟨q, _⟩⟩
      · omega
      · exact q
      · exact absurd rfl q⟩
  · rw [h.1 y hy k (by omega) hk]
    exact b01_c ⟨fun q => Or.inr ⟨hy, Or.inr ⟨z, q⟩⟩, fun q => by
      rcases q with ⟨a, _, _⟩ | ⟨_, ⟨q, _⟩ | ⟨_, q⟩⟩
      · omega
      · exact absurd q z
      · exact q⟩
section GMV2
variable {E : go_E} {d : Nat} {δ : Nat → Nat → Int} {Q : List go_V → go_F → (Nat → Nat → Int) → Prop} {K : sK} {S : sS} {R : Nat → List Nat} {w : List Nat} {t : Nat → Prop} {v : Nat → Nat}
theorem m_isProductive {x : Nat} (hR : ∀ r, rl_ok (R r)) (hv : le_at δ v) (h1 : lst_ok R v) (h2 : lst_cl R v 16) (hx : x < 14) (hQ : Q [vv_I (b01 (frt R x))] go_φ δ) : Go E d (0, 0) mx_X12_isProductive go_φ 0 [(0, vv_A 94), (1, vv_I (x : Int))] [] δ Q := by
  have l105 : go_ln 105 = 14 := rfl
  have hb := h1.1 x hx
  have hf := lst_frt hR h1 h2 hx
  refine go_aload_n (i := 0) dx_X12_isProductive_0 rfl rfl ?_
  refine go_getA (b := 105) fs_X12_45 rfl (go_ok rfl rfl) rfl dx_X12_isProductive_1 ?_
  refine go_iload_n (i := 1) dx_X12_isProductive_4 rfl rfl ?_
  refine go_ialoadV (i := x) (v := ((v x : Int))) dx_X12_isProductive_5 (go_ok rfl rfl) (by omega) (show x < 14 by omega) (by exact hv x hx) ?_
  refine go_ldc (x := 268435456) kx_X12_231 dx_X12_isProductive_6 ?_
  refine go_icmp_ge (tgt := 15) dx_X12_isProductive_8 rfl (by omega) (by omega) (fun c8 => ?_) (fun c8 => ?_)
  · refine go_iconst dx_X12_isProductive_15 ?_
    refine go_zreturn dx_X12_isProductive_16 rfl (by first | exact Or.inl rfl | exact Or.inr rfl | assumption | omega) (Nat.le_refl _) (Nat.le_refl _) ?_
    first | (rw [b01_t (hf.mp (by omega))] at hQ; exact hQ) | (rw [b01_f (fun q => by have := hf.mpr q; omega)] at hQ; exact hQ)
  · refine go_iconst dx_X12_isProductive_11 ?_
    refine go_goto (tgt := 16) dx_X12_isProductive_12 rfl ?_
    refine go_zreturn dx_X12_isProductive_16 rfl (by first | exact Or.inl rfl | exact Or.inr rfl | assumption | omega) (Nat.le_refl _) (Nat.le_refl _) ?_
    first | (rw [b01_t (hf.mp (by omega))] at hQ; exact hQ) | (rw [b01_f (fun q => by have := hf.mpr q; omega)] at hQ; exact hQ)
theorem m_partBegins {i y k n : Nat} (hw : mw_at δ w) (hn : n = w.length) (h15 : n ≤ 15) (hlet : ∀ x ∈ w, 8 ≤ x ∧ x < 14) (h : vs_at δ R w t i) (hy : y < 14) (hik : i ≤ k) (hk : k < n) (hQ : Q [vv_I (b01 (pbg R w t i y k))] go_φ δ) :
    Go E d (0, 0) mx_X12_partBegins go_φ 0 [(0, vv_A 94), (1, vv_I (y : Int)), (2, vv_I (k : Int)), (3, vv_I (n : Int))] [] δ Q := by
  have l106 : go_ln 106 = 15 := rfl
  have l128 : go_ln 128 = 128 := rfl
  have hk2 : k < w.length := by omega
  have ek := hw k hk2
  have hl := hlet _ (List.getElem_mem hk2)
  have e2 : w[k]? = some y ↔ (w[k] : Int) = (y : Int) := by
    rw [List.getElem?_eq_getElem hk2]
    exact ⟨fun q => by rw [Option.some.inj q], fun q => by rw [Int.ofNat.inj q]⟩
  have no : 8 ≤ y → ¬ (k + 1 = w.length ∧ w[k]? = some y) → Q [vv_I 0] go_φ δ := fun a b => by
    rw [b01_f (fun q => by
      rcases q with ⟨_, q⟩ | ⟨q, _⟩
      · exact b q
      · omega)] at hQ
    exact hQ
  refine go_iload_n (i := 1) dx_X12_partBegins_0 rfl rfl ?_
  refine go_bipush dx_X12_partBegins_1 rfl ?_
  refine go_icmp_lt (tgt := 31) dx_X12_partBegins_3 rfl (by omega) (by omega) (fun c3 => ?_) (fun c3 => ?_)
  · have hy8 : y < 8 := by omega
    have es := vs_pbg h hy8 hik hk2
    refine go_aload_n (i := 0) dx_X12_partBegins_31 rfl rfl ?_
    refine go_getA (b := 128) fs_X12_115 rfl (go_ok rfl rfl) rfl dx_X12_partBegins_32 ?_
    refine go_bipush dx_X12_partBegins_35 rfl ?_
    refine go_iload_n (i := 1) dx_X12_partBegins_37 rfl rfl ?_
    refine go_imul dx_X12_partBegins_38 ?_
    refine go_iload_n (i := 2) dx_X12_partBegins_39 rfl rfl ?_
    refine go_iadd dx_X12_partBegins_40 ?_
    refine go_baloadV (i := (16 * y + k)) (v := (b01 (pbg R w t i y k))) dx_X12_partBegins_41 (go_ok rfl rfl) (by omega) (show (16 * y + k) < 128 by omega) (by exact es) ?_
    refine go_zreturn dx_X12_partBegins_42 rfl (b01_01 _)  (Nat.le_refl _) (Nat.le_refl _) ?_
    exact hQ
  · refine go_iload_n (i := 2) dx_X12_partBegins_6 rfl rfl ?_
    refine go_iload_n (i := 3) dx_X12_partBegins_7 rfl rfl ?_
    refine go_iconst dx_X12_partBegins_8 ?_
    refine go_isub dx_X12_partBegins_9 ?_
    refine go_icmp_ne (tgt := 27) dx_X12_partBegins_10 rfl (by omega) (by omega) (fun c10 => ?_) (fun c10 => ?_)
    · refine go_iconst dx_X12_partBegins_27 ?_
      refine go_goto (tgt := 42) dx_X12_partBegins_28 rfl ?_
      refine go_zreturn dx_X12_partBegins_42 rfl (by first | exact Or.inl rfl | exact Or.inr rfl | assumption | omega) (Nat.le_refl _) (Nat.le_refl _) ?_
      first | (refine no (by omega) (fun q => ?_); have := e2.mp q.2; omega) | (rw [b01_t (show pbg R w t i y k from Or.inl ⟨by omega, by omega, e2.mpr (by omega)⟩)] at hQ; exact hQ)
    · refine go_aload_n (i := 0) dx_X12_partBegins_13 rfl rfl ?_
      refine go_getA (b := 106) fs_X12_48 rfl (go_ok rfl rfl) rfl dx_X12_partBegins_14 ?_
      refine go_iload_n (i := 2) dx_X12_partBegins_17 rfl rfl ?_
      refine go_ialoadV (i := k) (v := ((w[k] : Int))) dx_X12_partBegins_18 (go_ok rfl rfl) (by omega) (show k < 15 by omega) (by exact ek) ?_
      refine go_iload_n (i := 1) dx_X12_partBegins_19 rfl rfl ?_
      refine go_icmp_ne (tgt := 27) dx_X12_partBegins_20 rfl (by omega) (by omega) (fun c20 => ?_) (fun c20 => ?_)
      · refine go_iconst dx_X12_partBegins_27 ?_
        refine go_goto (tgt := 42) dx_X12_partBegins_28 rfl ?_
        refine go_zreturn dx_X12_partBegins_42 rfl (by first | exact Or.inl rfl | exact Or.inr rfl | assumption | omega) (Nat.le_refl _) (Nat.le_refl _) ?_
        first | (refine no (by omega) (fun q => ?_); have := e2.mp q.2; omega) | (rw [b01_t (show pbg R w t i y k from Or.inl ⟨by omega, by omega, e2.mpr (by omega)⟩)] at hQ; exact hQ)
      · refine go_iconst dx_X12_partBegins_23 ?_
        refine go_goto (tgt := 42) dx_X12_partBegins_24 rfl ?_
        refine go_zreturn dx_X12_partBegins_42 rfl (by first | exact Or.inl rfl | exact Or.inr rfl | assumption | omega) (Nat.le_refl _) (Nat.le_refl _) ?_
        first | (refine no (by omega) (fun q => ?_); have := e2.mp q.2; omega) | (rw [b01_t (show pbg R w t i y k from Or.inl ⟨by omega, by omega, e2.mpr (by omega)⟩)] at hQ; exact hQ)
theorem m_isRestProductive {r p : Nat} (h : bo_at δ R) (hv : le_at δ v) (h1 : lst_ok R v) (h2 : lst_cl R v 16) (hr : r < 16) (hp : p + 1 ≤ (R r).length) (hQ : Q [vv_I (b01 (∀ z ∈ (R r).drop (p + 1), frt R z))] go_φ δ) :
    Go E (d + 1) (0, 0) mx_X12_isRestProductive go_φ 0 [(0, vv_A 94), (1, vv_I (r : Int)), (2, vv_I (p : Int))] [] δ Q := by
  have hR := h.1
  have hlen := (hR r).len
  have hz : ∀ z ∈ (R r).drop (p + 1), z < 14 := fun z hm => by
    rcases hR r with q | ⟨_, _, _, q⟩
    · rw [q] at hm; simp at hm
    · exact q z (List.mem_of_mem_drop hm)
  have loop := lp_up (X := Unit) (hi := (R r).length - 1) (I := fun k _ => p ≤ k ∧ ∀ q, p ≤ q → q < k → frt R ((R r).getD (q + 1) 0))
    (G := fun k _ => Go E (d + 1) (0, 0) mx_X12_isRestProductive go_φ 2 [(0, vv_A 94), (1, vv_I (r : Int)), (2, vv_I (p : Int)), (3, vv_I (k : Int))] [] δ Q)
    (fun k _ hk hI ih => by
      have hgd : (R r).getD (k + 1) 0 ∈ (R r).drop (p + 1) := by
        rw [List.getD_eq_getElem?_getD, List.getElem?_eq_getElem (show k + 1 < (R r).length by omega), Option.getD_some]
        exact List.mem_iff_getElem.mpr ⟨k - p, by rw [List.length_drop]; omega, by rw [List.getElem_drop]; congr 1; omega⟩
      have hg := hz _ hgd
      refine go_iload_n (i := 3) dx_X12_isRestProductive_2 rfl rfl ?_
      refine go_aload_n (i := 0) dx_X12_isRestProductive_3 rfl rfl ?_
      refine go_iload_n (i := 1) dx_X12_isRestProductive_4 rfl rfl ?_
      refine go_cV1 sv_X12_148 (go_ok rfl rfl) dx_X12_isRestProductive_5 (Nat.le_of_ble_eq_true rfl) (Nat.le_of_ble_eq_true rfl) (o_longOf h hr ?_)
      refine go_icmp_ge (tgt := 32) dx_X12_isRestProductive_8 rfl (by omega) (by omega) (fun c8 => by exact absurd c8 (by omega)) (fun c8 => ?_)
      refine go_aload_n (i := 0) dx_X12_isRestProductive_11 rfl rfl ?_
      refine go_aload_n (i := 0) dx_X12_isRestProductive_12 rfl rfl ?_
      refine go_iload_n (i := 1) dx_X12_isRestProductive_13 rfl rfl ?_
      refine go_iload_n (i := 3) dx_X12_isRestProductive_14 rfl rfl ?_
      refine go_cV2 sv_X12_190 (go_ok rfl rfl) dx_X12_isRestProductive_15 (Nat.le_of_ble_eq_true rfl) (Nat.le_of_ble_eq_true rfl) (o_partOf h hr (by omega) ?_)
      refine go_cV1 sv_X12_396 (go_ok rfl rfl) dx_X12_isRestProductive_18 (Nat.le_of_ble_eq_true rfl) (Nat.le_of_ble_eq_true rfl) (m_isProductive hR hv h1 h2 hg ?_)
      refine go_b_ne (tgt := 26) dx_X12_isRestProductive_21 rfl (fun c21 => ?_) (fun c21 => ?_)
      · refine go_iinc (lv' := [(0, vv_A 94), (1, vv_I (r : Int)), (2, vv_I (p : Int)), (3, vv_I ((k : Int) + 1))]) dx_X12_isRestProductive_26 rfl (by decide) rfl ?_
        refine go_goto (tgt := 2) dx_X12_isRestProductive_29 rfl ?_
        refine ih () ⟨by omega, fun q a b => ?_⟩
        by_cases y : q = k
        · subst y; exact c21
        · exact hI.2 q a (by omega)
      · refine go_iconst dx_X12_isRestProductive_24 ?_
        refine go_zreturn dx_X12_isRestProductive_25 rfl (by first | exact Or.inl rfl | exact Or.inr rfl | assumption | omega) (Nat.le_refl _) (Nat.le_refl _) ?_
        rw [b01_f (fun q => c21 (q _ hgd))] at hQ
        exact hQ
    ) (fun _ hI => by
      have all : ∀ z ∈ (R r).drop (p + 1), frt R z := fun z hm => by
        obtain ⟨q, hq, e⟩ := List.getElem_of_mem hm
        rw [List.length_drop] at hq
        have := hI.2 (p + q) (by omega) (by omega)
        rw [List.getElem_drop] at e
        rw [List.getD_eq_getElem?_getD, List.getElem?_eq_getElem (by omega), Option.getD_some] at this
        rw [← e]
        have e3 : p + 1 + q = p + q + 1 := by omega
        simp only [e3]
        exact this
      refine go_iload_n (i := 3) dx_X12_isRestProductive_2 rfl rfl ?_
      refine go_aload_n (i := 0) dx_X12_isRestProductive_3 rfl rfl ?_
      refine go_iload_n (i := 1) dx_X12_isRestProductive_4 rfl rfl ?_
      refine go_cV1 sv_X12_148 (go_ok rfl rfl) dx_X12_isRestProductive_5 (Nat.le_of_ble_eq_true rfl) (Nat.le_of_ble_eq_true rfl) (o_longOf h hr ?_)
      refine go_icmp_ge (tgt := 32) dx_X12_isRestProductive_8 rfl (by omega) (by omega) (fun c8 => ?_) (fun c8 => by exact absurd c8 (by omega))
      refine go_iconst dx_X12_isRestProductive_32 ?_
      refine go_zreturn dx_X12_isRestProductive_33 rfl (by first | exact Or.inl rfl | exact Or.inr rfl | assumption | omega) (Nat.le_refl _) (Nat.le_refl _) ?_
      rw [b01_t all] at hQ
      exact hQ
    )
  refine go_iload_n (i := 2) dx_X12_isRestProductive_0 rfl rfl ?_
  refine go_istore_n (i := 3) (lv' := [(0, vv_A 94), (1, vv_I (r : Int)), (2, vv_I (p : Int)), (3, vv_I (p : Int))]) dx_X12_isRestProductive_1 rfl (by decide) rfl ?_
  exact loop p () (by omega) ⟨Nat.le_refl _, fun q a b => by omega⟩
def rc_at (δ : Nat → Nat → Int) (i n : Nat) (rc : Nat → Prop) : Prop := ∀ k, i ≤ k → k ≤ n → δ 129 k = b01 (rc k)
theorem m_ruleBegins {r i n x : Nat} {q : List Nat} (hb : bo_at δ R) (hv : le_at δ v) (h1 : lst_ok R v) (h2 : lst_cl R v 16) (hw : mw_at δ w) (he : me_at δ R w) (hn : n = w.length) (h15 : n ≤ 15) (hlet : ∀ x ∈ w, 8 ≤ x ∧ x < 14)
    (h : vs_at δ R w t i) (hi : i < n) (hr : r < 16) (hx : R r = x :: q) (hz : ∀ z ∈ q, z < 14) (hQ : ∀ δ', (∀ c j, c ≠ 129 → δ' c j = δ c j) → Q [vv_I (b01 (lb R w t i q i))] go_φ δ') :
    Go E (d + 2) (0, 0) mx_X12_ruleBegins go_φ 0 [(0, vv_A 94), (1, vv_I (r : Int)), (2, vv_I (i : Int)), (3, vv_I (n : Int))] [] δ Q := by
  have hR := hb.1
  have hlen := (hR r).len
  have l129 : go_ln 129 = 16 := rfl
  have hql : (R r).length = q.length + 1 := by rw [hx]; rfl
  have hqd : ∀ p, (R r).getD (p + 1) 0 = q.getD p 0 := fun p => by rw [hx]; rfl
  have hdr : ∀ p, (R r).drop (p + 1) = q.drop p := fun p => by rw [hx]; rfl
  subst hn
  have init := lp_up (X := Nat → Nat → Int) (hi := w.length + 1) (I := fun k δ1 => (∀ z, z < k → δ1 129 z = b01 (z = i)) ∧ (∀ c j, c ≠ 129 → δ1 c j = δ c j))
    (G := fun k δ1 => Go E (d + 2) (0, 0) mx_X12_ruleBegins go_φ 3 [(0, vv_A 94), (1, vv_I (r : Int)), (2, vv_I (i : Int)), (3, vv_I (w.length : Int)), (4, vv_I (k : Int))] [] δ1 Q) (fun k δ1 hk hI ih => ?_) (fun δ1 hI => ?_)
  · refine go_iconst dx_X12_ruleBegins_0 ?_
    refine go_istore (lv' := [(0, vv_A 94), (1, vv_I (r : Int)), (2, vv_I (i : Int)), (3, vv_I (w.length : Int)), (4, vv_I 0)]) dx_X12_ruleBegins_1 (by decide) rfl ?_
    exact init 0 δ (Nat.zero_le _) ⟨fun z hz => absurd hz (Nat.not_lt_zero _), fun _ _ _ => rfl⟩
  · have nx : ∀ y : Int, y = b01 (k = i) → Go E (d + 2) (0, 0) mx_X12_ruleBegins go_φ 3 [(0, vv_A 94), (1, vv_I (r : Int)), (2, vv_I (i : Int)), (3, vv_I (w.length : Int)), (4, vv_I ((k + 1 : Nat) : Int))] [] (wr δ1 129 k y) Q := fun y hy =>
      ih _ ⟨fun z hz => by
        by_cases e : z = k
        · subst e; rw [wr_eq]; exact hy
        · rw [wr_n (by omega)]; exact hI.1 z (by omega), fun c j hc => by rw [wr_n (by omega)]; exact hI.2 c j hc⟩
    refine go_iload dx_X12_ruleBegins_3 rfl ?_
    refine go_iload_n (i := 3) dx_X12_ruleBegins_5 rfl rfl ?_
    refine go_icmp_gt (tgt := 33) dx_X12_ruleBegins_6 rfl (by omega) (by omega) (fun c6 => by exact absurd c6 (by omega)) (fun c6 => ?_)
    refine go_aload_n (i := 0) dx_X12_ruleBegins_9 rfl rfl ?_
    refine go_getA (b := 129) fs_X12_118 rfl (go_ok rfl rfl) rfl dx_X12_ruleBegins_10 ?_
    refine go_iload dx_X12_ruleBegins_13 rfl ?_
    refine go_iload dx_X12_ruleBegins_15 rfl ?_
    refine go_iload_n (i := 2) dx_X12_ruleBegins_17 rfl rfl ?_
    refine go_icmp_ne (tgt := 25) dx_X12_ruleBegins_18 rfl (by omega) (by omega) (fun c18 => ?_) (fun c18 => ?_)
    · refine go_iconst dx_X12_ruleBegins_25 ?_
      refine go_bastoreV (i := k) dx_X12_ruleBegins_26 (go_ok rfl rfl) (by omega) (show k < 16 by omega) (by first | exact Or.inl rfl | exact Or.inr rfl | assumption | omega) ?_
      refine go_iinc (lv' := [(0, vv_A 94), (1, vv_I (r : Int)), (2, vv_I (i : Int)), (3, vv_I (w.length : Int)), (4, vv_I ((k : Int) + 1))]) dx_X12_ruleBegins_27 rfl (by decide) rfl ?_
      refine go_goto (tgt := 3) dx_X12_ruleBegins_30 rfl ?_
      first | exact nx 1 (b01_t (by omega)).symm | exact nx 0 (b01_f (by omega)).symm
    · refine go_iconst dx_X12_ruleBegins_21 ?_
      refine go_goto (tgt := 26) dx_X12_ruleBegins_22 rfl ?_
      refine go_bastoreV (i := k) dx_X12_ruleBegins_26 (go_ok rfl rfl) (by omega) (show k < 16 by omega) (by first | exact Or.inl rfl | exact Or.inr rfl | assumption | omega) ?_
      refine go_iinc (lv' := [(0, vv_A 94), (1, vv_I (r : Int)), (2, vv_I (i : Int)), (3, vv_I (w.length : Int)), (4, vv_I ((k : Int) + 1))]) dx_X12_ruleBegins_27 rfl (by decide) rfl ?_
      refine go_goto (tgt := 3) dx_X12_ruleBegins_30 rfl ?_
      first | exact nx 1 (b01_t (by omega)).symm | exact nx 0 (b01_f (by omega)).symm
  · have parts := lp_up (X := (Nat → Nat → Int) × (Nat → Prop)) (hi := q.length) (I := fun p X => rc_at X.1 i w.length X.2 ∧ (∀ c j, c ≠ 129 → X.1 c j = δ c j) ∧ (lbe R w t i X.2 (q.drop p) ↔ lb R w t i q i))
      (G := fun p X => Go E (d + 2) (0, 0) mx_X12_ruleBegins go_φ 36 [(0, vv_A 94), (1, vv_I (r : Int)), (2, vv_I (i : Int)), (3, vv_I (w.length : Int)), (4, vv_I (p : Int))] [] X.1 Q) (fun p X hp hI2 ih => ?_) (fun X hI2 => ?_)
    · refine go_iload dx_X12_ruleBegins_3 rfl ?_
      refine go_iload_n (i := 3) dx_X12_ruleBegins_5 rfl rfl ?_
      refine go_icmp_gt (tgt := 33) dx_X12_ruleBegins_6 rfl (by omega) (by omega) (fun c6 => ?_) (fun c6 => by exact absurd c6 (by omega))
      refine go_iconst dx_X12_ruleBegins_33 ?_
      refine go_istore (lv' := [(0, vv_A 94), (1, vv_I (r : Int)), (2, vv_I (i : Int)), (3, vv_I (w.length : Int)), (4, vv_I 0)]) dx_X12_ruleBegins_34 (by decide) rfl ?_
      exact parts 0 (δ1, fun z => z = i) (Nat.zero_le _) ⟨fun z a b => hI.1 z (by omega), hI.2, ⟨fun ⟨k, a, b, c, e⟩ => by have c : k = i := c; subst c; exact e, fun e => ⟨i, Nat.le_refl _, hi, rfl, e⟩⟩⟩
    · obtain ⟨δ2, rc⟩ := X
      obtain ⟨j1, j2, j3⟩ := hI2
      dsimp only at j1 j2 j3 ⊢
      obtain ⟨y, hy⟩ : ∃ y, y = q.getD p 0 := ⟨_, rfl⟩
      have hqp : q.drop p = y :: q.drop (p + 1) := by rw [li_drop1 hp, hy]
      have hy14 : y < 14 := hz y (by rw [hy, List.getD_eq_getElem?_getD, List.getElem?_eq_getElem hp]; exact List.getElem_mem hp)
      have scan := lp_up (X := Unit) (hi := w.length) (I := fun k _ => i ≤ k ∧ ∀ z, i ≤ z → z < k → rc z → pbg R w t i y z → (∀ a ∈ q.drop (p + 1), frt R a) → False)
        (G := fun k _ => Go E (d + 2) (0, 0) mx_X12_ruleBegins go_φ 49 [(0, vv_A 94), (1, vv_I (r : Int)), (2, vv_I (i : Int)), (3, vv_I (w.length : Int)), (4, vv_I (p : Int)), (5, vv_I (k : Int))] [] δ2 Q) (fun k _ hk hI3 ih3 => ?_) (fun _ hI3 => ?_)
      · refine go_iload dx_X12_ruleBegins_36 rfl ?_
        refine go_aload_n (i := 0) dx_X12_ruleBegins_38 rfl rfl ?_
        refine go_iload_n (i := 1) dx_X12_ruleBegins_39 rfl rfl ?_
        refine go_cV1 sv_X12_148 (go_ok rfl rfl) dx_X12_ruleBegins_40 (Nat.le_of_ble_eq_true rfl) (Nat.le_of_ble_eq_true rfl) (o_longOf (bo_fr hb (fun j _ => j2 95 j (by decide))) hr ?_)
        refine go_icmp_ge (tgt := 189) dx_X12_ruleBegins_43 rfl (by omega) (by omega) (fun c43 => by exact absurd c43 (by omega)) (fun c43 => ?_)
        refine go_iload_n (i := 2) dx_X12_ruleBegins_46 rfl rfl ?_
        refine go_istore (lv' := [(0, vv_A 94), (1, vv_I (r : Int)), (2, vv_I (i : Int)), (3, vv_I (w.length : Int)), (4, vv_I (p : Int)), (5, vv_I (i : Int))]) dx_X12_ruleBegins_47 (by decide) rfl ?_
        exact scan i () (Nat.le_of_lt hi) ⟨Nat.le_refl _, fun z a b => by omega⟩
      · have hb2 : bo_at δ2 R := bo_fr hb (fun j _ => j2 95 j (by decide))
        have hv2 : le_at δ2 v := fun x hx => by rw [j2 105 x (by decide)]; exact hv x hx
        have hw2 : mw_at δ2 w := mw_fr hw (fun j => j2 106 j (by decide))
        have nxt : (rc k → pbg R w t i y k → (∀ a ∈ q.drop (p + 1), frt R a) → False) → Go E (d + 2) (0, 0) mx_X12_ruleBegins go_φ 49 [(0, vv_A 94), (1, vv_I (r : Int)), (2, vv_I (i : Int)), (3, vv_I (w.length : Int)), (4, vv_I (p : Int)), (5, vv_I ((k + 1 : Nat) : Int))] [] δ2 Q := fun hno =>
          ih3 () ⟨by omega, fun z a b => by
            by_cases e : z = k
            · subst e; exact hno
            · exact hI3.2 z a (by omega)⟩
        have ek := j1 k hI3.1 (Nat.le_of_lt hk)
        refine go_iload dx_X12_ruleBegins_49 rfl ?_
        refine go_iload_n (i := 3) dx_X12_ruleBegins_51 rfl rfl ?_
        refine go_icmp_ge (tgt := 102) dx_X12_ruleBegins_52 rfl (by omega) (by omega) (fun c52 => by exact absurd c52 (by omega)) (fun c52 => ?_)
        refine go_aload_n (i := 0) dx_X12_ruleBegins_55 rfl rfl ?_
        refine go_getA (b := 129) fs_X12_118 rfl (go_ok rfl rfl) rfl dx_X12_ruleBegins_56 ?_
        refine go_iload dx_X12_ruleBegins_59 rfl ?_
        refine go_baloadV (i := k) (v := (b01 (rc k))) dx_X12_ruleBegins_61 (go_ok rfl rfl) (by omega) (show k < 16 by omega) (by exact ek) ?_
        refine go_b_eq (tgt := 96) dx_X12_ruleBegins_62 rfl (fun c62 => ?_) (fun c62 => ?_)
        · refine go_iinc (lv' := [(0, vv_A 94), (1, vv_I (r : Int)), (2, vv_I (i : Int)), (3, vv_I (w.length : Int)), (4, vv_I (p : Int)), (5, vv_I ((k : Int) + 1))]) dx_X12_ruleBegins_96 rfl (by decide) rfl ?_
          refine go_goto (tgt := 49) dx_X12_ruleBegins_99 rfl ?_
          first | exact nxt (fun a b c => c91 c) | exact nxt (fun a b c => c79 b) | exact nxt (fun a b c => absurd (b01_t a) (by omega)) | exact nxt (fun a b c => c62 a)
        · refine go_aload_n (i := 0) dx_X12_ruleBegins_65 rfl rfl ?_
          refine go_aload_n (i := 0) dx_X12_ruleBegins_66 rfl rfl ?_
          refine go_iload_n (i := 1) dx_X12_ruleBegins_67 rfl rfl ?_
          refine go_iload dx_X12_ruleBegins_68 rfl ?_
          refine go_cV2 sv_X12_190 (go_ok rfl rfl) dx_X12_ruleBegins_70 (Nat.le_of_ble_eq_true rfl) (Nat.le_of_ble_eq_true rfl) (o_partOf hb2 hr (by omega) ?_)
          refine go_asI (y := (y : Int)) (by rw [hqd, hy]) ?_
          refine go_iload dx_X12_ruleBegins_73 rfl ?_
          refine go_iload_n (i := 3) dx_X12_ruleBegins_75 rfl rfl ?_
          refine go_cV3 sv_X12_399 (go_ok rfl rfl) dx_X12_ruleBegins_76 (Nat.le_of_ble_eq_true rfl) (Nat.le_of_ble_eq_true rfl) (m_partBegins hw2 rfl h15 hlet (vs_fr h (fun j => j2 128 j (by decide))) hy14 hI3.1 hk ?_)
          refine go_b_eq (tgt := 96) dx_X12_ruleBegins_79 rfl (fun c79 => ?_) (fun c79 => ?_)
          · refine go_iinc (lv' := [(0, vv_A 94), (1, vv_I (r : Int)), (2, vv_I (i : Int)), (3, vv_I (w.length : Int)), (4, vv_I (p : Int)), (5, vv_I ((k : Int) + 1))]) dx_X12_ruleBegins_96 rfl (by decide) rfl ?_
            refine go_goto (tgt := 49) dx_X12_ruleBegins_99 rfl ?_
            first | exact nxt (fun a b c => c91 c) | exact nxt (fun a b c => c79 b) | exact nxt (fun a b c => absurd (b01_t a) (by omega)) | exact nxt (fun a b c => c62 a)
          · refine go_aload_n (i := 0) dx_X12_ruleBegins_82 rfl rfl ?_
            refine go_iload_n (i := 1) dx_X12_ruleBegins_83 rfl rfl ?_
            refine go_iload dx_X12_ruleBegins_84 rfl ?_
            refine go_iconst dx_X12_ruleBegins_86 ?_
            refine go_iadd dx_X12_ruleBegins_87 ?_
            refine go_asI (y := ((p + 1 : Nat) : Int)) (by rfl) ?_
            refine go_cV2 sv_X12_402 (go_ok rfl rfl) dx_X12_ruleBegins_88 (Nat.le_of_ble_eq_true rfl) (Nat.le_of_ble_eq_true rfl) (m_isRestProductive hb2 hv2 h1 h2 hr (by omega) ?_)
            refine go_asI (y := (b01 (∀ a ∈ q.drop (p + 1), frt R a))) (by rw [hdr]) ?_
            refine go_b_eq (tgt := 96) dx_X12_ruleBegins_91 rfl (fun c91 => ?_) (fun c91 => ?_)
            · refine go_iinc (lv' := [(0, vv_A 94), (1, vv_I (r : Int)), (2, vv_I (i : Int)), (3, vv_I (w.length : Int)), (4, vv_I (p : Int)), (5, vv_I ((k : Int) + 1))]) dx_X12_ruleBegins_96 rfl (by decide) rfl ?_
              refine go_goto (tgt := 49) dx_X12_ruleBegins_99 rfl ?_
              first | exact nxt (fun a b c => c91 c) | exact nxt (fun a b c => c79 b) | exact nxt (fun a b c => absurd (b01_t a) (by omega)) | exact nxt (fun a b c => c62 a)
            · refine go_iconst dx_X12_ruleBegins_94 ?_
              refine go_zreturn dx_X12_ruleBegins_95 rfl (by first | exact Or.inl rfl | exact Or.inr rfl | assumption | omega) (Nat.le_refl _) (Nat.le_refl _) ?_
              have hrc : rc k := by first | exact c62 | exact Classical.byContradiction (fun z => absurd (b01_f z) (by omega))
              have hlb : lb R w t i q i := j3.mp ⟨k, hI3.1, hk, hrc, by rw [hqp]; exact Or.inl ⟨c79, c91⟩⟩
              have hQ := hQ δ2 j2
              rw [b01_t hlb] at hQ
              exact hQ
      · have hno := hI3.2
        have step := lbe_s (l := q.drop (p + 1)) (fun k a b => hno k a b)
        rw [hqp] at j3
        obtain ⟨rc', hrc'⟩ : ∃ rc' : Nat → Prop, rc' = fun j => ∃ k, i ≤ k ∧ k < j ∧ rc k ∧ dp R (plw w) y k j := ⟨_, rfl⟩
        have hb2 : bo_at δ2 R := bo_fr hb (fun j _ => j2 95 j (by decide))
        have back := lp_dn (X := Nat → Nat → Int) (I := fun m δ3 => m ≤ w.length - i + 1 ∧ (∀ z, i ≤ z → z < i + m → δ3 129 z = b01 (rc z)) ∧ (∀ z, i + m ≤ z → z ≤ w.length → δ3 129 z = b01 (rc' z)) ∧ (∀ c j, c ≠ 129 → δ3 c j = δ c j))
          (G := fun m δ3 => ∀ lv0, lv0 = [(0, vv_A 94), (1, vv_I (r : Int)), (2, vv_I (i : Int)), (3, vv_I (w.length : Int)), (4, vv_I (p : Int)), (5, vv_I ((i : Int) + (m : Int) - 1))] → Go E (d + 2) (0, 0) mx_X12_ruleBegins go_φ 105 lv0 [] δ3 Q) (fun m δ3 hI4 ih4 lv0 e0 => ?_) (fun δ3 hI4 lv0 e0 => ?_)
        · refine go_iload dx_X12_ruleBegins_49 rfl ?_
          refine go_iload_n (i := 3) dx_X12_ruleBegins_51 rfl rfl ?_
          refine go_icmp_ge (tgt := 102) dx_X12_ruleBegins_52 rfl (by omega) (by omega) (fun c52 => ?_) (fun c52 => by exact absurd c52 (by omega))
          refine go_iload_n (i := 3) dx_X12_ruleBegins_102 rfl rfl ?_
          refine go_istore (lv' := [(0, vv_A 94), (1, vv_I (r : Int)), (2, vv_I (i : Int)), (3, vv_I (w.length : Int)), (4, vv_I (p : Int)), (5, vv_I (w.length : Int))]) dx_X12_ruleBegins_103 (by decide) rfl ?_
          exact back (w.length - i + 1) δ2 ⟨Nat.le_refl _, fun z a b => j1 z a (by omega), fun z a b => by omega, j2⟩ _ (by rw [show (i : Int) + ((w.length - i + 1 : Nat) : Int) - 1 = (w.length : Int) by omega])
        · subst e0
          obtain ⟨g0, g1, g2, g3⟩ := hI4
          obtain ⟨j, hj⟩ : ∃ j, j = i + m := ⟨_, rfl⟩
          have hb3 : bo_at δ3 R := bo_fr hb (fun j _ => g3 95 j (by decide))
          have he3 : me_at δ3 R w := me_fr he (fun j => g3 107 j (by decide))
          have ih5 : ∀ δ4, (∀ z, i ≤ z → z < i + m → δ4 129 z = b01 (rc z)) → (∀ z, i + m ≤ z → z ≤ w.length → δ4 129 z = b01 (rc' z)) → (∀ c j, c ≠ 129 → δ4 c j = δ c j) → Go E (d + 2) (0, 0) mx_X12_ruleBegins go_φ 105 [(0, vv_A 94), (1, vv_I (r : Int)), (2, vv_I (i : Int)), (3, vv_I (w.length : Int)), (4, vv_I (p : Int)), (5, vv_I ((j : Int) - 1))] [] δ4 Q := fun δ4 a b c =>
            ih4 δ4 ⟨by omega, a, b, c⟩ _ (by rw [show (i : Int) + (m : Int) - 1 = (j : Int) - 1 by omega])
          rw [show (i : Int) + ((m + 1 : Nat) : Int) - 1 = (j : Int) by omega]
          have sums := lp_up (X := Unit) (hi := j) (I := fun z _ => i ≤ z)
            (G := fun z _ => ∀ lv0, lv0 = [(0, vv_A 94), (1, vv_I (r : Int)), (2, vv_I (i : Int)), (3, vv_I (w.length : Int)), (4, vv_I (p : Int)), (5, vv_I (j : Int)), (6, vv_I (b01 (∃ a, i ≤ a ∧ a < z ∧ rc a ∧ dp R (plw w) y a j))), (7, vv_I (z : Int))] → Go E (d + 2) (0, 0) mx_X12_ruleBegins go_φ 117 lv0 [] δ3 Q) (fun z _ hz hI5 ih6 lv0 e0 => ?_) (fun _ hI5 lv0 e0 => ?_)
          · refine go_iload dx_X12_ruleBegins_105 rfl ?_
            refine go_iload_n (i := 2) dx_X12_ruleBegins_107 rfl rfl ?_
            refine go_icmp_lt (tgt := 183) dx_X12_ruleBegins_108 rfl (by omega) (by omega) (fun c108 => by exact absurd c108 (by omega)) (fun c108 => ?_)
            refine go_iconst dx_X12_ruleBegins_111 ?_
            refine go_istore (lv' := [(0, vv_A 94), (1, vv_I (r : Int)), (2, vv_I (i : Int)), (3, vv_I (w.length : Int)), (4, vv_I (p : Int)), (5, vv_I (j : Int)), (6, vv_I 0)]) dx_X12_ruleBegins_112 (by decide) rfl ?_
            refine go_iload_n (i := 2) dx_X12_ruleBegins_114 rfl rfl ?_
            refine go_istore (lv' := [(0, vv_A 94), (1, vv_I (r : Int)), (2, vv_I (i : Int)), (3, vv_I (w.length : Int)), (4, vv_I (p : Int)), (5, vv_I (j : Int)), (6, vv_I 0), (7, vv_I (i : Int))]) dx_X12_ruleBegins_115 (by decide) rfl ?_
            exact sums i () (by omega) (Nat.le_refl _) _ (by rw [b01_f (fun ⟨a, a1, a2, _⟩ => by omega)])
          · subst e0
            have hex : (∃ a, i ≤ a ∧ a < z + 1 ∧ rc a ∧ dp R (plw w) y a j) ↔ (∃ a, i ≤ a ∧ a < z ∧ rc a ∧ dp R (plw w) y a j) ∨ (rc z ∧ dp R (plw w) y z j) := by
              constructor
              · rintro ⟨a, a1, a2, a3, a4⟩
                by_cases e : a = z
                · subst e; exact Or.inr ⟨a3, a4⟩
                · exact Or.inl ⟨a, a1, by omega, a3, a4⟩
              · rintro (⟨a, a1, a2, a3, a4⟩ | ⟨a3, a4⟩)
                · exact ⟨a, a1, by omega, a3, a4⟩
                · exact ⟨z, hI5, by omega, a3, a4⟩
            have ek := g1 z hI5 (by omega)
            refine go_iload dx_X12_ruleBegins_117 rfl ?_
            refine go_iload dx_X12_ruleBegins_119 rfl ?_
            refine go_icmp_ge (tgt := 168) dx_X12_ruleBegins_121 rfl (by omega) (by omega) (fun c121 => by exact absurd c121 (by omega)) (fun c121 => ?_)
            refine go_iload dx_X12_ruleBegins_124 rfl ?_
            refine go_aload_n (i := 0) dx_X12_ruleBegins_126 rfl rfl ?_
            refine go_getA (b := 129) fs_X12_118 rfl (go_ok rfl rfl) rfl dx_X12_ruleBegins_127 ?_
            refine go_iload dx_X12_ruleBegins_130 rfl ?_
            refine go_baloadV (i := z) (v := (b01 (rc z))) dx_X12_ruleBegins_132 (go_ok rfl rfl) (by omega) (show z < 16 by omega) (by exact ek) ?_
            refine go_b_eq (tgt := 158) dx_X12_ruleBegins_133 rfl (fun c133 => ?_) (fun c133 => ?_)
            · refine go_iconst dx_X12_ruleBegins_158 ?_
              refine go_ior dx_X12_ruleBegins_159 ?_
              refine go_asI (y := (b01 (∃ a, i ≤ a ∧ a < z + 1 ∧ rc a ∧ dp R (plw w) y a j))) (by first | (rw [bv_or1]; exact (b01_t (hex.mpr (Or.inr ⟨c133, c151⟩))).symm) | (rw [bv_or0]; exact b01_c ⟨fun q => hex.mpr (Or.inl q), fun q => (hex.mp q).elim id (fun g => absurd g.2 c151)⟩) | (rw [bv_or0]; exact b01_c ⟨fun q => hex.mpr (Or.inl q), fun q => (hex.mp q).elim id (fun g => absurd g.1 c133)⟩)) ?_
              refine go_istore (lv' := [(0, vv_A 94), (1, vv_I (r : Int)), (2, vv_I (i : Int)), (3, vv_I (w.length : Int)), (4, vv_I (p : Int)), (5, vv_I (j : Int)), (6, vv_I (b01 (∃ a, i ≤ a ∧ a < z + 1 ∧ rc a ∧ dp R (plw w) y a j))), (7, vv_I (z : Int))]) dx_X12_ruleBegins_160 (by decide) rfl ?_
              refine go_iinc (lv' := [(0, vv_A 94), (1, vv_I (r : Int)), (2, vv_I (i : Int)), (3, vv_I (w.length : Int)), (4, vv_I (p : Int)), (5, vv_I (j : Int)), (6, vv_I (b01 (∃ a, i ≤ a ∧ a < z + 1 ∧ rc a ∧ dp R (plw w) y a j))), (7, vv_I ((z : Int) + 1))]) dx_X12_ruleBegins_162 rfl (by decide) rfl ?_
              refine go_goto (tgt := 117) dx_X12_ruleBegins_165 rfl ?_
              exact ih6 () (by omega) _ rfl
            · refine go_aload_n (i := 0) dx_X12_ruleBegins_136 rfl rfl ?_
              refine go_aload_n (i := 0) dx_X12_ruleBegins_137 rfl rfl ?_
              refine go_iload_n (i := 1) dx_X12_ruleBegins_138 rfl rfl ?_
              refine go_iload dx_X12_ruleBegins_139 rfl ?_
              refine go_cV2 sv_X12_190 (go_ok rfl rfl) dx_X12_ruleBegins_141 (Nat.le_of_ble_eq_true rfl) (Nat.le_of_ble_eq_true rfl) (o_partOf hb3 hr (by omega) ?_)
              refine go_asI (y := (y : Int)) (by rw [hqd, hy]) ?_
              refine go_iload dx_X12_ruleBegins_144 rfl ?_
              refine go_iload dx_X12_ruleBegins_146 rfl ?_
              refine go_cV3 sv_X12_268 (go_ok rfl rfl) dx_X12_ruleBegins_148 (Nat.le_of_ble_eq_true rfl) (Nat.le_of_ble_eq_true rfl) (m_doesDerive hR he3 h15 (by omega) hz (by omega) ?_)
              refine go_b_eq (tgt := 158) dx_X12_ruleBegins_151 rfl (fun c151 => ?_) (fun c151 => ?_)
              · refine go_iconst dx_X12_ruleBegins_158 ?_
                refine go_ior dx_X12_ruleBegins_159 ?_
                refine go_asI (y := (b01 (∃ a, i ≤ a ∧ a < z + 1 ∧ rc a ∧ dp R (plw w) y a j))) (by first | (rw [bv_or1]; exact (b01_t (hex.mpr (Or.inr ⟨c133, c151⟩))).symm) | (rw [bv_or0]; exact b01_c ⟨fun q => hex.mpr (Or.inl q), fun q => (hex.mp q).elim id (fun g => absurd g.2 c151)⟩) | (rw [bv_or0]; exact b01_c ⟨fun q => hex.mpr (Or.inl q), fun q => (hex.mp q).elim id (fun g => absurd g.1 c133)⟩)) ?_
                refine go_istore (lv' := [(0, vv_A 94), (1, vv_I (r : Int)), (2, vv_I (i : Int)), (3, vv_I (w.length : Int)), (4, vv_I (p : Int)), (5, vv_I (j : Int)), (6, vv_I (b01 (∃ a, i ≤ a ∧ a < z + 1 ∧ rc a ∧ dp R (plw w) y a j))), (7, vv_I (z : Int))]) dx_X12_ruleBegins_160 (by decide) rfl ?_
                refine go_iinc (lv' := [(0, vv_A 94), (1, vv_I (r : Int)), (2, vv_I (i : Int)), (3, vv_I (w.length : Int)), (4, vv_I (p : Int)), (5, vv_I (j : Int)), (6, vv_I (b01 (∃ a, i ≤ a ∧ a < z + 1 ∧ rc a ∧ dp R (plw w) y a j))), (7, vv_I ((z : Int) + 1))]) dx_X12_ruleBegins_162 rfl (by decide) rfl ?_
                refine go_goto (tgt := 117) dx_X12_ruleBegins_165 rfl ?_
                exact ih6 () (by omega) _ rfl
              · refine go_iconst dx_X12_ruleBegins_154 ?_
                refine go_goto (tgt := 159) dx_X12_ruleBegins_155 rfl ?_
                refine go_ior dx_X12_ruleBegins_159 ?_
                refine go_asI (y := (b01 (∃ a, i ≤ a ∧ a < z + 1 ∧ rc a ∧ dp R (plw w) y a j))) (by first | (rw [bv_or1]; exact (b01_t (hex.mpr (Or.inr ⟨c133, c151⟩))).symm) | (rw [bv_or0]; exact b01_c ⟨fun q => hex.mpr (Or.inl q), fun q => (hex.mp q).elim id (fun g => absurd g.2 c151)⟩) | (rw [bv_or0]; exact b01_c ⟨fun q => hex.mpr (Or.inl q), fun q => (hex.mp q).elim id (fun g => absurd g.1 c133)⟩)) ?_
                refine go_istore (lv' := [(0, vv_A 94), (1, vv_I (r : Int)), (2, vv_I (i : Int)), (3, vv_I (w.length : Int)), (4, vv_I (p : Int)), (5, vv_I (j : Int)), (6, vv_I (b01 (∃ a, i ≤ a ∧ a < z + 1 ∧ rc a ∧ dp R (plw w) y a j))), (7, vv_I (z : Int))]) dx_X12_ruleBegins_160 (by decide) rfl ?_
                refine go_iinc (lv' := [(0, vv_A 94), (1, vv_I (r : Int)), (2, vv_I (i : Int)), (3, vv_I (w.length : Int)), (4, vv_I (p : Int)), (5, vv_I (j : Int)), (6, vv_I (b01 (∃ a, i ≤ a ∧ a < z + 1 ∧ rc a ∧ dp R (plw w) y a j))), (7, vv_I ((z : Int) + 1))]) dx_X12_ruleBegins_162 rfl (by decide) rfl ?_
                refine go_goto (tgt := 117) dx_X12_ruleBegins_165 rfl ?_
                exact ih6 () (by omega) _ rfl
          · subst e0
            refine go_iload dx_X12_ruleBegins_117 rfl ?_
            refine go_iload dx_X12_ruleBegins_119 rfl ?_
            refine go_icmp_ge (tgt := 168) dx_X12_ruleBegins_121 rfl (by omega) (by omega) (fun c121 => ?_) (fun c121 => by exact absurd c121 (by omega))
            refine go_aload_n (i := 0) dx_X12_ruleBegins_168 rfl rfl ?_
            refine go_getA (b := 129) fs_X12_118 rfl (go_ok rfl rfl) rfl dx_X12_ruleBegins_169 ?_
            refine go_iload dx_X12_ruleBegins_172 rfl ?_
            refine go_iload dx_X12_ruleBegins_174 rfl ?_
            refine go_bastoreV (i := j) dx_X12_ruleBegins_176 (go_ok rfl rfl) (by omega) (show j < 16 by omega) (b01_01 _) ?_
            refine go_iinc (lv' := [(0, vv_A 94), (1, vv_I (r : Int)), (2, vv_I (i : Int)), (3, vv_I (w.length : Int)), (4, vv_I (p : Int)), (5, vv_I ((j : Int) + (-1))), (6, vv_I (b01 (∃ a, i ≤ a ∧ a < j ∧ rc a ∧ dp R (plw w) y a j))), (7, vv_I (j : Int))]) dx_X12_ruleBegins_177 rfl (by decide) rfl ?_
            refine go_goto (tgt := 105) dx_X12_ruleBegins_180 rfl ?_
            refine go_keep [0, 1, 2, 3, 4, 5] rfl ?_
            refine ih5 _ (fun z a b => by rw [wr_n (by omega)]; exact g1 z a (by omega)) (fun z a b => ?_) (fun c q hc => by rw [wr_n (by omega)]; exact g3 c q hc)
            by_cases e : z = j
            · subst e; rw [wr_eq, hrc']
            · rw [wr_n (by omega)]; exact g2 z (by omega) b
        · subst e0
          obtain ⟨g0, g1, g2, g3⟩ := hI4
          refine go_iload dx_X12_ruleBegins_105 rfl ?_
          refine go_iload_n (i := 2) dx_X12_ruleBegins_107 rfl rfl ?_
          refine go_icmp_lt (tgt := 183) dx_X12_ruleBegins_108 rfl (by omega) (by omega) (fun c108 => ?_) (fun c108 => by exact absurd c108 (by omega))
          refine go_iinc (lv' := [(0, vv_A 94), (1, vv_I (r : Int)), (2, vv_I (i : Int)), (3, vv_I (w.length : Int)), (4, vv_I ((p : Int) + 1)), (5, vv_I ((i : Int) + ((0 : Nat) : Int) - 1))]) dx_X12_ruleBegins_183 rfl (by decide) rfl ?_
          refine go_goto (tgt := 36) dx_X12_ruleBegins_186 rfl ?_
          refine go_keep [0, 1, 2, 3, 4] rfl ?_
          exact ih (δ3, rc') ⟨fun z a b => g2 z (by omega) b, g3, by rw [hrc']; exact step.symm.trans j3⟩
    · obtain ⟨δ2, rc⟩ := X
      obtain ⟨j1, j2, j3⟩ := hI2
      dsimp only at j1 j2 j3 ⊢
      rw [List.drop_length] at j3
      have hno : ¬ lb R w t i q i := fun z => by
        obtain ⟨_, _, _, _, e⟩ := j3.mpr z
        exact e
      refine go_iload dx_X12_ruleBegins_36 rfl ?_
      refine go_aload_n (i := 0) dx_X12_ruleBegins_38 rfl rfl ?_
      refine go_iload_n (i := 1) dx_X12_ruleBegins_39 rfl rfl ?_
      refine go_cV1 sv_X12_148 (go_ok rfl rfl) dx_X12_ruleBegins_40 (Nat.le_of_ble_eq_true rfl) (Nat.le_of_ble_eq_true rfl) (o_longOf (bo_fr hb (fun j _ => j2 95 j (by decide))) hr ?_)
      refine go_icmp_ge (tgt := 189) dx_X12_ruleBegins_43 rfl (by omega) (by omega) (fun c43 => ?_) (fun c43 => by exact absurd c43 (by omega))
      refine go_iconst dx_X12_ruleBegins_189 ?_
      refine go_zreturn dx_X12_ruleBegins_190 rfl (by first | exact Or.inl rfl | exact Or.inr rfl | assumption | omega) (Nat.le_refl _) (Nat.le_refl _) ?_
      have hQ := hQ δ2 j2
      rw [b01_f hno] at hQ
      exact hQ
end GMV2
