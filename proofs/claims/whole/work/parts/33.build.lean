/-! the class's binary rules: building -/
theorem wr_n {α : Type} {δ : Nat → Nat → α} {a i : Nat} {v : α} {b j : Nat} (h : b = a → j ≠ i) : wr δ a i v b j = δ b j := by
  by_cases e : b = a
  · subst e; exact wr_i _ _ _ _ (h rfl)
  · exact wr_a _ _ _ _ e j
abbrev tP : Type := Nat × Nat × Nat × Nat
def pe (e : tP) : Nat := e.1 + e.2.1 * 64 + e.2.2.1 * 4096 + e.2.2.2 * 262144
def pe_ok (e : tP) : Prop := e.1 < 64 ∧ e.2.1 < 64 ∧ e.2.2.1 < 64 ∧ e.2.2.2 < 16
theorem pe_lt {e : tP} (h : pe_ok e) : pe e < 4194304 := by
  obtain ⟨h1, h2, h3, h4⟩ := h
  unfold pe
  omega
theorem bt_a63 (n : Nat) : n &&& 63 = n % 64 := Nat.and_two_pow_sub_one_eq_mod n 6
section GPAIR
variable {E : go_E} {d : Nat} {δ : Nat → Nat → Int} {Q : List go_V → go_F → (Nat → Nat → Int) → Prop} {e : tP}
theorem g_madeOf (h : pe_ok e) (hQ : Q [vv_I (e.1 : Int)] go_φ δ) : Go E d (0, 0) mx_X11_madeOf go_φ 0 [(0, vv_I (pe e : Int))] [] δ Q := by
  have h1 := pe_lt h
  obtain ⟨g1, g2, g3, g4⟩ := h
  refine go_iload_n (i := 0) dx_X11_madeOf_0 rfl rfl ?_
  refine go_bipush dx_X11_madeOf_1 rfl ?_
  refine go_iand dx_X11_madeOf_3 ?_
  refine go_ireturn dx_X11_madeOf_4 rfl (Nat.le_refl _) (Nat.le_refl _) ?_
  rw [show (63 : Int) = ((63 : Nat) : Int) from rfl, bv_andN (by omega) (by decide), bt_a63, show pe e % 64 = e.1 by unfold pe; omega]
  exact hQ
theorem g_leftOf (h : pe_ok e) (hQ : Q [vv_I (e.2.1 : Int)] go_φ δ) : Go E d (0, 0) mx_X11_leftOf go_φ 0 [(0, vv_I (pe e : Int))] [] δ Q := by
  have h1 := pe_lt h
  obtain ⟨g1, g2, g3, g4⟩ := h
  have e2 : bv_ushr (pe e : Int) 6 = ((pe e / 2 ^ 6 : Nat) : Int) := bv_ushrN (k := 6) (by omega) (by decide)
  refine go_iload_n (i := 0) dx_X11_leftOf_0 rfl rfl ?_
  refine go_bipush dx_X11_leftOf_1 rfl ?_
  refine go_iushr dx_X11_leftOf_3 ?_
  refine go_bipush dx_X11_leftOf_4 rfl ?_
  refine go_iand dx_X11_leftOf_6 ?_
  refine go_ireturn dx_X11_leftOf_7 rfl (Nat.le_refl _) (Nat.le_refl _) ?_
  rw [e2, show (63 : Int) = ((63 : Nat) : Int) from rfl, bv_andN (by omega) (by decide), bt_a63, show pe e / 2 ^ 6 % 64 = e.2.1 by unfold pe; omega]
  exact hQ
theorem g_rightOf (h : pe_ok e) (hQ : Q [vv_I (e.2.2.1 : Int)] go_φ δ) : Go E d (0, 0) mx_X11_rightOf go_φ 0 [(0, vv_I (pe e : Int))] [] δ Q := by
  have h1 := pe_lt h
  obtain ⟨g1, g2, g3, g4⟩ := h
  have e2 : bv_ushr (pe e : Int) 12 = ((pe e / 2 ^ 12 : Nat) : Int) := bv_ushrN (k := 12) (by omega) (by decide)
  refine go_iload_n (i := 0) dx_X11_rightOf_0 rfl rfl ?_
  refine go_bipush dx_X11_rightOf_1 rfl ?_
  refine go_iushr dx_X11_rightOf_3 ?_
  refine go_bipush dx_X11_rightOf_4 rfl ?_
  refine go_iand dx_X11_rightOf_6 ?_
  refine go_ireturn dx_X11_rightOf_7 rfl (Nat.le_refl _) (Nat.le_refl _) ?_
  rw [e2, show (63 : Int) = ((63 : Nat) : Int) from rfl, bv_andN (by omega) (by decide), bt_a63, show pe e / 2 ^ 12 % 64 = e.2.2.1 by unfold pe; omega]
  exact hQ
end GPAIR
def bi_ok (o : Nat) : Prop := (go_kd o = 0 ∧ o < go_φ.1) ∧ (go_kd (o + 1) = 20 ∧ o + 1 < go_φ.1) ∧ (go_kd (o + 2) = 20 ∧ o + 2 < go_φ.1) ∧ (go_kd (o + 3) = 20 ∧ o + 3 < go_φ.1) ∧ (go_kd (o + 4) = 20 ∧ o + 4 < go_φ.1) ∧ (go_kd (o + 5) = 20 ∧ o + 5 < go_φ.1) ∧
  (go_kd (o + 6) = 20 ∧ o + 6 < go_φ.1) ∧ (go_kd (o + 7) = 20 ∧ o + 7 < go_φ.1) ∧ (go_kd (o + 8) = 20 ∧ o + 8 < go_φ.1) ∧ (go_kd (o + 9) = 20 ∧ o + 9 < go_φ.1) ∧ (go_kd (o + 10) = 20 ∧ o + 10 < go_φ.1) ∧
  go_ln (o + 1) = 64 ∧ go_ln (o + 2) = 16 ∧ go_ln (o + 3) = 48 ∧ go_ln (o + 4) = 48 ∧ go_ln (o + 5) = 8 ∧ go_ln (o + 6) = 8 ∧ go_ln (o + 7) = 8 ∧ go_ln (o + 8) = 62 ∧ go_ln (o + 9) = 64 ∧ go_ln (o + 10) = 8 ∧
  go_rf o 0 = o + 1 + 1 ∧ go_rf o 2 = o + 2 + 1 ∧ go_rf o 3 = o + 3 + 1 ∧ go_rf o 4 = o + 4 + 1 ∧ go_rf o 6 = o + 5 + 1 ∧ go_rf o 7 = o + 6 + 1 ∧ go_rf o 9 = o + 7 + 1 ∧ go_rf o 10 = o + 8 + 1 ∧ go_rf o 12 = o + 9 + 1 ∧ go_rf o 13 = o + 10 + 1
theorem bi_k0 {o : Nat} (h : bi_ok o) : go_kd o = 0 ∧ o < go_φ.1 := h.1
theorem bi_k1 {o : Nat} (h : bi_ok o) : go_kd (o + 1) = 20 ∧ o + 1 < go_φ.1 := h.2.1
theorem bi_k2 {o : Nat} (h : bi_ok o) : go_kd (o + 2) = 20 ∧ o + 2 < go_φ.1 := h.2.2.1
theorem bi_k3 {o : Nat} (h : bi_ok o) : go_kd (o + 3) = 20 ∧ o + 3 < go_φ.1 := h.2.2.2.1
theorem bi_k4 {o : Nat} (h : bi_ok o) : go_kd (o + 4) = 20 ∧ o + 4 < go_φ.1 := h.2.2.2.2.1
theorem bi_k5 {o : Nat} (h : bi_ok o) : go_kd (o + 5) = 20 ∧ o + 5 < go_φ.1 := h.2.2.2.2.2.1
theorem bi_k6 {o : Nat} (h : bi_ok o) : go_kd (o + 6) = 20 ∧ o + 6 < go_φ.1 := h.2.2.2.2.2.2.1
theorem bi_k7 {o : Nat} (h : bi_ok o) : go_kd (o + 7) = 20 ∧ o + 7 < go_φ.1 := h.2.2.2.2.2.2.2.1
theorem bi_k8 {o : Nat} (h : bi_ok o) : go_kd (o + 8) = 20 ∧ o + 8 < go_φ.1 := h.2.2.2.2.2.2.2.2.1
theorem bi_k9 {o : Nat} (h : bi_ok o) : go_kd (o + 9) = 20 ∧ o + 9 < go_φ.1 := h.2.2.2.2.2.2.2.2.2.1
theorem bi_k10 {o : Nat} (h : bi_ok o) : go_kd (o + 10) = 20 ∧ o + 10 < go_φ.1 := h.2.2.2.2.2.2.2.2.2.2.1
theorem bi_l1 {o : Nat} (h : bi_ok o) : go_ln (o + 1) = 64 := h.2.2.2.2.2.2.2.2.2.2.2.1
theorem bi_l2 {o : Nat} (h : bi_ok o) : go_ln (o + 2) = 16 := h.2.2.2.2.2.2.2.2.2.2.2.2.1
theorem bi_l3 {o : Nat} (h : bi_ok o) : go_ln (o + 3) = 48 := h.2.2.2.2.2.2.2.2.2.2.2.2.2.1
theorem bi_l4 {o : Nat} (h : bi_ok o) : go_ln (o + 4) = 48 := h.2.2.2.2.2.2.2.2.2.2.2.2.2.2.1
theorem bi_l5 {o : Nat} (h : bi_ok o) : go_ln (o + 5) = 8 := h.2.2.2.2.2.2.2.2.2.2.2.2.2.2.2.1
theorem bi_l6 {o : Nat} (h : bi_ok o) : go_ln (o + 6) = 8 := h.2.2.2.2.2.2.2.2.2.2.2.2.2.2.2.2.1
theorem bi_l7 {o : Nat} (h : bi_ok o) : go_ln (o + 7) = 8 := h.2.2.2.2.2.2.2.2.2.2.2.2.2.2.2.2.2.1
theorem bi_l8 {o : Nat} (h : bi_ok o) : go_ln (o + 8) = 62 := h.2.2.2.2.2.2.2.2.2.2.2.2.2.2.2.2.2.2.1
theorem bi_l9 {o : Nat} (h : bi_ok o) : go_ln (o + 9) = 64 := h.2.2.2.2.2.2.2.2.2.2.2.2.2.2.2.2.2.2.2.1
theorem bi_l10 {o : Nat} (h : bi_ok o) : go_ln (o + 10) = 8 := h.2.2.2.2.2.2.2.2.2.2.2.2.2.2.2.2.2.2.2.2.1
theorem bi_r0 {o : Nat} (h : bi_ok o) : go_rf o 0 = o + 1 + 1 := h.2.2.2.2.2.2.2.2.2.2.2.2.2.2.2.2.2.2.2.2.2.1
theorem bi_r2 {o : Nat} (h : bi_ok o) : go_rf o 2 = o + 2 + 1 := h.2.2.2.2.2.2.2.2.2.2.2.2.2.2.2.2.2.2.2.2.2.2.1
theorem bi_r3 {o : Nat} (h : bi_ok o) : go_rf o 3 = o + 3 + 1 := h.2.2.2.2.2.2.2.2.2.2.2.2.2.2.2.2.2.2.2.2.2.2.2.1
theorem bi_r4 {o : Nat} (h : bi_ok o) : go_rf o 4 = o + 4 + 1 := h.2.2.2.2.2.2.2.2.2.2.2.2.2.2.2.2.2.2.2.2.2.2.2.2.1
theorem bi_r6 {o : Nat} (h : bi_ok o) : go_rf o 6 = o + 5 + 1 := h.2.2.2.2.2.2.2.2.2.2.2.2.2.2.2.2.2.2.2.2.2.2.2.2.2.1
theorem bi_r7 {o : Nat} (h : bi_ok o) : go_rf o 7 = o + 6 + 1 := h.2.2.2.2.2.2.2.2.2.2.2.2.2.2.2.2.2.2.2.2.2.2.2.2.2.2.1
theorem bi_r9 {o : Nat} (h : bi_ok o) : go_rf o 9 = o + 7 + 1 := h.2.2.2.2.2.2.2.2.2.2.2.2.2.2.2.2.2.2.2.2.2.2.2.2.2.2.2.1
theorem bi_r10 {o : Nat} (h : bi_ok o) : go_rf o 10 = o + 8 + 1 := h.2.2.2.2.2.2.2.2.2.2.2.2.2.2.2.2.2.2.2.2.2.2.2.2.2.2.2.2.1
theorem bi_r12 {o : Nat} (h : bi_ok o) : go_rf o 12 = o + 9 + 1 := h.2.2.2.2.2.2.2.2.2.2.2.2.2.2.2.2.2.2.2.2.2.2.2.2.2.2.2.2.2.1
theorem bi_r13 {o : Nat} (h : bi_ok o) : go_rf o 13 = o + 10 + 1 := h.2.2.2.2.2.2.2.2.2.2.2.2.2.2.2.2.2.2.2.2.2.2.2.2.2.2.2.2.2.2
theorem bi_ok33 : bi_ok 33 := by unfold bi_ok; decide +kernel
theorem bi_ok76 : bi_ok 76 := by unfold bi_ok; decide +kernel
def bq_at (δ : Nat → Nat → Int) (o : Nat) (P : List tP) (H : List (Nat × Nat)) : Prop := δ o 1 = (P.length : Int) ∧ (∀ k (h : k < P.length), δ (o + 1) k = (pe P[k] : Int)) ∧ δ o 5 = (H.length : Int) ∧ (∀ k (h : k < H.length), δ (o + 3) k = (H[k].1 : Int) ∧ δ (o + 4) k = (H[k].2 : Int))
theorem bq_fr {δ δ' : Nat → Nat → Int} {o : Nat} {P : List tP} {H : List (Nat × Nat)} (h : bq_at δ o P H) (f : ∀ c j, (c = o ∨ c = o + 1 ∨ c = o + 3 ∨ c = o + 4) → (c = o → j = 1 ∨ j = 5) → c < o + 5 → δ' c j = δ c j) : bq_at δ' o P H := by
  obtain ⟨w1, w2, w3, w4⟩ := h
  exact ⟨by rw [f _ _ (by omega) (by omega) (by omega)]; exact w1, fun k hk => by rw [f _ _ (by omega) (by omega) (by omega)]; exact w2 k hk, by rw [f _ _ (by omega) (by omega) (by omega)]; exact w3,
    fun k hk => ⟨by rw [f _ _ (by omega) (by omega) (by omega)]; exact (w4 k hk).1, by rw [f _ _ (by omega) (by omega) (by omega)]; exact (w4 k hk).2⟩⟩
def unp (R : Nat → List Nat) (n x y : Nat) : Prop := ∃ r, r < n ∧ R r = [x, y]
def usp (R : Nat → List Nat) (n x y : Nat) : Prop := ∃ r, r < n ∧ ∃ l, R r = x :: l ∧ y ∈ l
noncomputable def ucp (R : Nat → List Nat) (n : Nat) : Nat := cn n (fun r => (R r).length = 2)
def bp_at (δ : Nat → Nat → Int) (o : Nat) (R : Nat → List Nat) (n : Nat) : Prop := bq_at δ o (gp R n) (gh R n) ∧ (∀ r, r < n → 3 ≤ (R r).length → δ (o + 2) r = ((gp R r).length : Int)) ∧ (∀ x, x < 8 → δ (o + 5) x = (mk 14 (unp R n x) : Int)) ∧ δ o 8 = (ucp R n : Int) ∧ (∀ x, x < 8 → δ (o + 7) x = (mk 8 (usp R n x) : Int))
theorem mk_or (n : Nat) (P P' : Nat → Prop) : mk n P ||| mk n P' = mk n (fun x => P x ∨ P' x) := mk_eq (Nat.or_lt_two_pow (mk_lt n P) (mk_lt n P')) (fun x hx => by
  rw [bt_orb, mk_bit, mk_bit]
  exact ⟨fun q => q.elim (fun z => Or.inl z.2) (fun z => Or.inr z.2), fun q => q.elim (fun z => Or.inl ⟨hx, z⟩) (fun z => Or.inr ⟨hx, z⟩)⟩)
theorem mk_and (n : Nat) (P P' : Nat → Prop) : mk n P &&& mk n P' = mk n (fun x => P x ∧ P' x) := mk_eq (Nat.lt_of_le_of_lt Nat.and_le_left (mk_lt n P)) (fun x hx => by
  rw [bt_andb, mk_bit, mk_bit]
  exact ⟨fun q => ⟨q.1.2, q.2.2⟩, fun q => ⟨⟨hx, q.1⟩, ⟨hx, q.2⟩⟩⟩)
theorem mk_one {n p : Nat} (h : p < n) : 2 ^ p = mk n (fun x => p = x) := mk_eq (Nat.pow_lt_pow_right (by decide) h) (fun x _ => bt_one p x)
theorem mk_255 (p : Nat) : 2 ^ p &&& 255 = mk 8 (fun x => p = x) := mk_eq (Nat.lt_of_le_of_lt Nat.and_le_right (by decide)) (fun x hx => by
  rw [bt_andb, bt_one, show (255 : Nat) = 2 ^ 8 - 1 from rfl, Nat.testBit_two_pow_sub_one, decide_eq_true_eq]
  exact ⟨fun q => q.1, fun q => ⟨q, hx⟩⟩)
theorem mk_31 (n : Nat) (P : Nat → Prop) (h : n ≤ 31) : mk n P < 2147483648 := bt_m31 (mk_lt n P) h
theorem mk_63 (n : Nat) (P : Nat → Prop) (h : n ≤ 63) : mk n P < 9223372036854775808 := bt_m63 (mk_lt n P) h
theorem rl_split {R : Nat → List Nat} (hR : ∀ r, rl_ok (R r)) {r : Nat} (h : R r ≠ []) : ∃ x y q, R r = x :: y :: q ∧ x < 8 ∧ y < 14 ∧ q.length ≤ 4 := by
  rcases hR r with q | ⟨h1, h2, h3, h4⟩
  · exact absurd q h
  · cases e : R r with
    | nil => exact absurd e h
    | cons x l =>
      cases l with
      | nil => rw [e] at h1; simp at h1
      | cons y q =>
        rw [e] at h2 h3 h4
        simp only [List.length_cons] at h2
        exact ⟨x, y, q, rfl, h3, h4 y (by simp), by omega⟩
theorem gp_emp {R : Nat → List Nat} {n : Nat} (h : R n = []) : gp R (n + 1) = gp R n ∧ gh R (n + 1) = gh R n := by
  constructor
  · show gp R n ++ pr_l _ n (R n) = _
    rw [h]; simp [pr_l]
  · show gh R n ++ hp_l n (R n) = _
    rw [h]; simp [hp_l]
theorem bp_emp {δ : Nat → Nat → Int} {o : Nat} {R : Nat → List Nat} {n : Nat} (h : bp_at δ o R n) (e : R n = []) : bp_at δ o R (n + 1) := by
  obtain ⟨g1, g2, g3, g4, g5⟩ := h
  obtain ⟨e1, e2⟩ := gp_emp e
  refine ⟨by rw [e1, e2]; exact g1, fun r hr hl => ?_, fun x hx => ?_, ?_, fun x hx => ?_⟩
  · have : r ≠ n := fun q => by subst q; rw [e] at hl; simp at hl
    exact g2 r (by omega) hl
  · rw [g3 x hx, mk_congr (P' := unp R (n + 1) x) (fun y _ => ⟨fun ⟨r, a, b⟩ => ⟨r, by omega, b⟩, fun ⟨r, a, b⟩ => ⟨r, by
      have : r ≠ n := fun q => by subst q; rw [e] at b; cases b
      omega, b⟩⟩)]
  · rw [g4]; unfold ucp; rw [cn_sf (by rw [e]; simp)]
  · rw [g5 x hx, mk_congr (P' := usp R (n + 1) x) (fun y _ => ⟨fun ⟨r, a, b⟩ => ⟨r, by omega, b⟩, fun ⟨r, a, l, b, c⟩ => ⟨r, by
      have : r ≠ n := fun q => by subst q; rw [e] at b; cases b
      omega, l, b, c⟩⟩)]
section GBUILD
variable {E : go_E} {d : Nat} {δ : Nat → Nat → Int} {Q : List go_V → go_F → (Nat → Nat → Int) → Prop} {o : Nat} {R : Nat → List Nat}
theorem g_Binary_symbolCount {H : List (Nat × Nat)} {P : List tP} (ho : bi_ok o) (h : bq_at δ o P H) (hQ : Q [vv_I ((14 + H.length : Nat) : Int)] go_φ δ) : Go E d (0, 0) mx_X0_symbolCount go_φ 0 [(0, vv_A o)] [] δ Q := by
  have e := h.2.2.1
  refine go_bipush dx_X0_symbolCount_0 rfl ?_
  refine go_aload_n (i := 0) dx_X0_symbolCount_2 rfl rfl ?_
  refine go_getI fs_X0_46 (Or.inl rfl) (bi_k0 ho) dx_X0_symbolCount_3 ?_
  refine go_asI (y := (H.length : Int)) (by exact e) ?_
  refine go_iadd dx_X0_symbolCount_6 ?_
  refine go_ireturn dx_X0_symbolCount_7 rfl (Nat.le_refl _) (Nat.le_refl _) ?_
  rw [show (14 : Int) + (H.length : Int) = ((14 + H.length : Nat) : Int) by omega]
  exact hQ
theorem g_Binary_addPair {H : List (Nat × Nat)} {P : List tP} {m a b r : Nat} (ho : bi_ok o) (h : bq_at δ o P H) (hP : P.length < 64) (hm : m < 64) (ha : a < 64) (hb : b < 64) (hr : r < 16)
    (hQ : ∀ δ', bq_at δ' o (P ++ [(m, a, b, r)]) H → (∀ c j, c ≠ o + 1 → (c = o → j ≠ 1) → δ' c j = δ c j) → Q [] go_φ δ') :
    Go E (d + 1) (0, 0) mx_X0_addPair go_φ 0 [(0, vv_A o), (1, vv_I (m : Int)), (2, vv_I (a : Int)), (3, vv_I (b : Int)), (4, vv_I (r : Int))] [] δ Q := by
  obtain ⟨g1, g2, g3, g4⟩ := h
  have s1 : bv_shl (a : Int) 6 = ((a * 2 ^ 6 : Nat) : Int) := bv_shlN (k := 6) (by decide) (by omega)
  have s2 : bv_shl (b : Int) 12 = ((b * 2 ^ 12 : Nat) : Int) := bv_shlN (k := 12) (by decide) (by omega)
  have s3 : bv_shl (r : Int) 18 = ((r * 2 ^ 18 : Nat) : Int) := bv_shlN (k := 18) (by decide) (by omega)
  refine go_aload_n (i := 0) dx_X0_addPair_0 rfl rfl ?_
  refine go_getA (b := (o + 1)) fs_X0_9 rfl (bi_k0 ho) (bi_r0 ho) dx_X0_addPair_1 ?_
  refine go_aload_n (i := 0) dx_X0_addPair_4 rfl rfl ?_
  refine go_getI fs_X0_42 (Or.inl rfl) (bi_k0 ho) dx_X0_addPair_5 ?_
  refine go_asI (y := (P.length : Int)) (by exact g1) ?_
  refine go_iload_n (i := 1) dx_X0_addPair_8 rfl rfl ?_
  refine go_iload_n (i := 2) dx_X0_addPair_9 rfl rfl ?_
  refine go_bipush dx_X0_addPair_10 rfl ?_
  refine go_ishl dx_X0_addPair_12 ?_
  refine go_ior dx_X0_addPair_13 ?_
  refine go_asI (y := ((m + a * 2 ^ 6 : Nat) : Int)) (by rw [s1, bv_orN (by omega) (by omega), bt_or_add (by omega)]) ?_
  refine go_iload_n (i := 3) dx_X0_addPair_14 rfl rfl ?_
  refine go_bipush dx_X0_addPair_15 rfl ?_
  refine go_ishl dx_X0_addPair_17 ?_
  refine go_ior dx_X0_addPair_18 ?_
  refine go_asI (y := ((m + a * 2 ^ 6 + b * 2 ^ 12 : Nat) : Int)) (by rw [s2, bv_orN (by omega) (by omega), bt_or_add (by omega)]) ?_
  refine go_iload dx_X0_addPair_19 rfl ?_
  refine go_bipush dx_X0_addPair_21 rfl ?_
  refine go_ishl dx_X0_addPair_23 ?_
  refine go_ior dx_X0_addPair_24 ?_
  refine go_asI (y := ((pe (m, a, b, r) : Nat) : Int)) (by rw [s3, bv_orN (by omega) (by omega), bt_or_add (by omega)]; rfl) ?_
  refine go_cS3 ss_X0_52 dx_X0_addPair_25 (Nat.le_of_ble_eq_true rfl) (Nat.le_of_ble_eq_true rfl) (g_putIntN (i := P.length) (bi_k1 ho) (by omega) (by rw [(bi_l1 ho)]; omega) ?_)
  refine go_aload_n (i := 0) dx_X0_addPair_28 rfl rfl ?_
  refine go_dup dx_X0_addPair_29 rfl ?_
  refine go_getI fs_X0_42 (Or.inl rfl) (bi_k0 ho) dx_X0_addPair_30 ?_
  refine go_asI (y := (P.length : Int)) (by rw [wr_n (by omega)]; exact g1) ?_
  refine go_iconst dx_X0_addPair_33 ?_
  refine go_iadd dx_X0_addPair_34 ?_
  refine go_putI fp_X0_42 rfl rfl (bi_k0 ho) dx_X0_addPair_35 ?_
  refine go_vreturn dx_X0_addPair_38 rfl (Nat.le_refl _) (Nat.le_refl _) ?_
  refine hQ _ ⟨?_, fun k hk => ?_, ?_, fun k hk => ?_⟩ (fun c j hc hj => by rw [wr_n (by omega), wr_n (by omega)])
  · rw [wr_eq, List.length_append, List.length_singleton]; omega
  · rw [wr_n (by omega)]
    rw [List.length_append, List.length_singleton] at hk
    by_cases q : k = P.length
    · subst q; rw [wr_eq]; simp
    · rw [wr_i _ _ _ _ q, List.getElem_append_left (by omega)]; exact g2 k (by omega)
  · rw [wr_n (by omega), wr_n (by omega)]; exact g3
  · rw [wr_n (by omega), wr_n (by omega), wr_n (by omega), wr_n (by omega)]; exact g4 k hk
noncomputable def usk (R : Nat → List Nat) (r x i : Nat) : Nat := mk 8 (fun y => usp R r x y ∨ ∃ k, k < i ∧ (R r).getD (k + 1) 0 = y)
theorem usk_0 (r x : Nat) : usk R r x 0 = mk 8 (usp R r x) := mk_congr (fun y _ => ⟨fun q => q.elim id (fun ⟨k, h, _⟩ => absurd h (Nat.not_lt_zero _)), Or.inl⟩)
theorem usk_lt (r x i : Nat) : usk R r x i < 2147483648 := mk_31 8 _ (by decide)
theorem usk_s (r x i : Nat) : usk R r x i ||| (2 ^ (R r).getD (i + 1) 0 &&& 255) = usk R r x (i + 1) := by
  unfold usk
  rw [mk_255, mk_or]
  refine mk_congr (fun y _ => ⟨fun q => ?_, fun q => ?_⟩)
  · rcases q with (q | ⟨k, h1, h2⟩) | q
    · exact Or.inl q
    · exact Or.inr ⟨k, by omega, h2⟩
    · exact Or.inr ⟨i, by omega, q⟩
  · rcases q with q | ⟨k, h1, h2⟩
    · exact Or.inl (Or.inl q)
    · by_cases e : k = i
      · subst e; exact Or.inr h2
      · exact Or.inl (Or.inr ⟨k, by omega, h2⟩)
theorem usk_e {r x : Nat} {l : List Nat} (h : R r = x :: l) : usk R r x l.length = mk 8 (usp R (r + 1) x) := mk_congr (fun y _ => ⟨fun q => by
    rcases q with ⟨r', a, b⟩ | ⟨k, h1, h2⟩
    · exact ⟨r', by omega, b⟩
    · refine ⟨r, by omega, l, h, ?_⟩
      rw [h, List.getD_cons_succ, List.getD_eq_getElem?_getD, List.getElem?_eq_getElem h1] at h2
      rw [← h2]
      exact List.getElem_mem h1, fun ⟨r', a, l', b, c⟩ => by
    by_cases e : r' = r
    · subst e
      rw [h] at b
      injection b with b1 b2
      subst b2
      obtain ⟨k, h1, h2⟩ := List.getElem_of_mem c
      refine Or.inr ⟨k, h1, ?_⟩
      rw [h, List.getD_cons_succ, List.getD_eq_getElem?_getD, List.getElem?_eq_getElem h1]
      exact h2
    · exact Or.inl ⟨r', by omega, l', b, c⟩⟩)
theorem gh_bound (hR : ∀ r, rl_ok (R r)) {r : Nat} (hr : r < 16) : (gh R r).length + ((R r).length - 3) ≤ 48 := by
  have := gh_le hR (r + 1)
  rw [gh_len] at this
  omega
theorem gp_bound (hR : ∀ r, rl_ok (R r)) {r : Nat} (hr : r < 16) : (gp R r).length + ((R r).length - 2) ≤ 64 := by
  have := gp_le hR (r + 1)
  rw [gp_len] at this
  omega
theorem g_Binary_addRule {r : Nat} (ho : bi_ok o) (hR : ∀ r, rl_ok (R r)) (h : bp_at δ o R r) (hr : r < 16) (hne : R r ≠ [])
    (hQ : ∀ δ', bp_at δ' o R (r + 1) → (∀ c j, ¬ (o + 1 ≤ c ∧ c ≤ o + 5) → c ≠ o + 7 → (c = o → j ≠ 1 ∧ j ≠ 5 ∧ j ≠ 8) → δ' c j = δ c j) → Q [] go_φ δ') :
    Go E (d + 2) (0, 0) mx_X0_addRule go_φ 0 [(0, vv_A o), (1, vv_I (r : Int)), (2, vv_I (rl_enc (R r) : Int))] [] δ Q := by
  obtain ⟨x, y, q, hl, hx, hy, hq⟩ := rl_split hR hne
  have hok := hR r
  obtain ⟨g1, g2, g3, g4, g5⟩ := h
  have hlen : (R r).length = q.length + 2 := by rw [hl]; rfl
  have hpt : ∀ k, k + 1 < (R r).length → (R r).getD (k + 1) 0 < 14 := fun k hk => rl_getD_lt hok hk
  have hhd : (R r).getD 0 0 = x := by rw [hl]; rfl
  have hgb := gp_bound hR hr
  have hhb := gh_bound hR hr
  rw [hlen] at hgb hhb
  have u3 : ∀ z, z < 8 → z ≠ x → mk 14 (unp R r z) = mk 14 (unp R (r + 1) z) ∧ mk 8 (usp R r z) = mk 8 (usp R (r + 1) z) := fun z hz e =>
    ⟨mk_congr (fun y _ => ⟨fun ⟨r', a, b⟩ => ⟨r', by omega, b⟩, fun ⟨r', a, b⟩ => ⟨r', by
      have : r' ≠ r := fun w => by subst w; rw [hl] at b; injection b with b1 b2; exact e b1.symm
      omega, b⟩⟩), mk_congr (fun y _ => ⟨fun ⟨r', a, b⟩ => ⟨r', by omega, b⟩, fun ⟨r', a, l, b, c⟩ => ⟨r', by
      have : r' ≠ r := fun w => by subst w; rw [hl] at b; injection b with b1 b2; exact e b1.symm
      omega, l, b, c⟩⟩)⟩
  -- behind the first loop
  have rest : ∀ (δ1 : Nat → Nat → Int) (lv0 : List (Nat × go_V)), lv0 = [(0, vv_A o), (1, vv_I (r : Int)), (2, vv_I (rl_enc (R r) : Int)), (3, vv_I ((q.length + 1 : Nat) : Int)), (4, vv_I (x : Int))] → (∀ c j, (c = o + 7 → j ≠ x) → δ1 c j = δ c j) → δ1 (o + 7) x = (mk 8 (usp R (r + 1) x) : Int) →
      Go E (d + 2) (0, 0) mx_X0_addRule go_φ 57 lv0 [] δ1 Q := by
    intro δ1 lv0 e0 f1 u1
    subst e0
    have u2 : ∀ z, z < 8 → δ1 (o + 7) z = (mk 8 (usp R (r + 1) z) : Int) := fun z hz => by
      by_cases e : z = x
      · subst e; exact u1
      · rw [f1 _ _ (by omega), g5 z hz, (u3 z hz e).2]
    have us2 : ∀ z, z < 8 → z ≠ x → δ1 (o + 5) z = (mk 14 (unp R (r + 1) z) : Int) := fun z hz e => by rw [f1 _ _ (by omega), g3 z hz, (u3 z hz e).1]
    refine go_iload_n (i := 3) dx_X0_addRule_57 rfl rfl ?_
    refine go_iconst dx_X0_addRule_58 ?_
    refine go_icmp_ne (tgt := 99) dx_X0_addRule_59 rfl (by omega) (by omega) (fun c59 => ?_) (fun c59 => ?_)
    · have h2 : 1 ≤ q.length := by omega
      have usx : mk 14 (unp R r x) = mk 14 (unp R (r + 1) x) := mk_congr (fun y _ => ⟨fun ⟨r', a, b⟩ => ⟨r', by omega, b⟩, fun ⟨r', a, b⟩ => ⟨r', by
        have : r' ≠ r := fun w => by subst w; exact absurd (show q.length + 2 = 2 by rw [← hlen, b]; rfl) (by omega)
        omega, b⟩⟩)
      have loop := lp_up (X := (Nat → Nat → Int) × Nat) (hi := q.length - 1)
        (I := fun i X => bq_at X.1 o (gp R r ++ (List.range i).map (pr_e (gh R r).length r (R r))) (gh R r ++ (List.range i).map (fun k => (r, k + 1))) ∧ X.2 = pr_m (gh R r).length i (R r) ∧ (∀ c j, c ≠ o + 1 → c ≠ o + 3 → c ≠ o + 4 → (c = o → j ≠ 1 ∧ j ≠ 5) → X.1 c j = wr δ1 (o + 2) r ((gp R r).length : Int) c j))
        (G := fun i X => Go E (d + 2) (0, 0) mx_X0_addRule go_φ 118 [(0, vv_A o), (1, vv_I (r : Int)), (2, vv_I (rl_enc (R r) : Int)), (3, vv_I ((q.length + 1 : Nat) : Int)), (4, vv_I (x : Int)), (5, vv_I (X.2 : Int)), (6, vv_I (i : Int))] [] X.1 Q)
        (fun i X hi hI ih => ?_) (fun X hI => ?_)
      · refine go_aload_n (i := 0) dx_X0_addRule_99 rfl rfl ?_
        refine go_getA (b := (o + 2)) fs_X0_15 rfl (bi_k0 ho) (bi_r2 ho) dx_X0_addRule_100 ?_
        refine go_iload_n (i := 1) dx_X0_addRule_103 rfl rfl ?_
        refine go_aload_n (i := 0) dx_X0_addRule_104 rfl rfl ?_
        refine go_getI fs_X0_42 (Or.inl rfl) (bi_k0 ho) dx_X0_addRule_105 ?_
        refine go_cS3 ss_X0_52 dx_X0_addRule_108 (Nat.le_of_ble_eq_true rfl) (Nat.le_of_ble_eq_true rfl) (g_putIntN (i := r) (bi_k2 ho) (by omega) (by rw [(bi_l2 ho)]; omega) ?_)
        refine go_iload dx_X0_addRule_111 rfl ?_
        refine go_istore (lv' := [(0, vv_A o), (1, vv_I (r : Int)), (2, vv_I (rl_enc (R r) : Int)), (3, vv_I ((q.length + 1 : Nat) : Int)), (4, vv_I (x : Int)), (5, vv_I (x : Int))]) dx_X0_addRule_113 (by decide) rfl ?_
        refine go_iconst dx_X0_addRule_115 ?_
        refine go_istore (lv' := [(0, vv_A o), (1, vv_I (r : Int)), (2, vv_I (rl_enc (R r) : Int)), (3, vv_I ((q.length + 1 : Nat) : Int)), (4, vv_I (x : Int)), (5, vv_I (x : Int)), (6, vv_I 0)]) dx_X0_addRule_116 (by decide) rfl ?_
        have e1 : δ1 o 1 = ((gp R r).length : Int) := by rw [f1 _ _ (by omega)]; exact g1.1
        rw [e1]
        have hb : bq_at (wr δ1 (o + 2) r ((gp R r).length : Int)) o (gp R r) (gh R r) := bq_fr g1 (fun c j h1 h2 h3 => by rw [wr_n (by omega), f1 _ _ (by omega)])
        refine loop 0 (_, x) (Nat.zero_le _) ⟨?_, ?_, fun _ _ _ _ _ _ => rfl⟩
        · rw [List.range_zero, List.map_nil, List.map_nil, List.append_nil, List.append_nil]
          exact hb
        · show x = pr_m _ 0 _
          unfold pr_m
          rw [if_pos rfl]
          exact hhd.symm
      · obtain ⟨δ2, m⟩ := X
        obtain ⟨i1, i2, i3⟩ := hI
        dsimp only at i1 i2 i3 ⊢
        have z1 := i1.1
        have z2 := i1.2.2.1
        rw [List.length_append, List.length_map, List.length_range] at z1 z2
        have hm64 : m < 64 := by
          rw [i2]
          unfold pr_m
          split
          · omega
          · omega
        refine go_iload dx_X0_addRule_118 rfl ?_
        refine go_iconst dx_X0_addRule_120 ?_
        refine go_iadd dx_X0_addRule_121 ?_
        refine go_iload_n (i := 3) dx_X0_addRule_122 rfl rfl ?_
        refine go_icmp_ge (tgt := 197) dx_X0_addRule_123 rfl (by omega) (by omega) (fun c123 => by exact absurd c123 (by omega)) (fun c123 => ?_)
        refine go_bipush dx_X0_addRule_126 rfl ?_
        refine go_aload_n (i := 0) dx_X0_addRule_128 rfl rfl ?_
        refine go_getI fs_X0_46 (Or.inl rfl) (bi_k0 ho) dx_X0_addRule_129 ?_
        refine go_asI (y := (((gh R r).length + i : Nat) : Int)) (by exact z2) ?_
        refine go_iadd dx_X0_addRule_132 ?_
        refine go_asI (y := ((14 + (gh R r).length + i : Nat) : Int)) (by omega) ?_
        refine go_istore (lv' := [(0, vv_A o), (1, vv_I (r : Int)), (2, vv_I (rl_enc (R r) : Int)), (3, vv_I ((q.length + 1 : Nat) : Int)), (4, vv_I (x : Int)), (5, vv_I (m : Int)), (6, vv_I (i : Int)), (7, vv_I ((14 + (gh R r).length + i : Nat) : Int))]) dx_X0_addRule_133 (by decide) rfl ?_
        refine go_aload_n (i := 0) dx_X0_addRule_135 rfl rfl ?_
        refine go_getA (b := (o + 3)) fs_X0_18 rfl (bi_k0 ho) (bi_r3 ho) dx_X0_addRule_136 ?_
        refine go_aload_n (i := 0) dx_X0_addRule_139 rfl rfl ?_
        refine go_getI fs_X0_46 (Or.inl rfl) (bi_k0 ho) dx_X0_addRule_140 ?_
        refine go_asI (y := (((gh R r).length + i : Nat) : Int)) (by exact z2) ?_
        refine go_iload_n (i := 1) dx_X0_addRule_143 rfl rfl ?_
        refine go_cS3 ss_X0_52 dx_X0_addRule_144 (Nat.le_of_ble_eq_true rfl) (Nat.le_of_ble_eq_true rfl) (g_putIntN (i := (gh R r).length + i) (bi_k3 ho) (by omega) (by rw [(bi_l3 ho)]; omega) ?_)
        refine go_aload_n (i := 0) dx_X0_addRule_147 rfl rfl ?_
        refine go_getA (b := (o + 4)) fs_X0_21 rfl (bi_k0 ho) (bi_r4 ho) dx_X0_addRule_148 ?_
        refine go_aload_n (i := 0) dx_X0_addRule_151 rfl rfl ?_
        refine go_getI fs_X0_46 (Or.inl rfl) (bi_k0 ho) dx_X0_addRule_152 ?_
        refine go_asI (y := (((gh R r).length + i : Nat) : Int)) (by rw [wr_n (by omega)]; exact z2) ?_
        refine go_iload dx_X0_addRule_155 rfl ?_
        refine go_iconst dx_X0_addRule_157 ?_
        refine go_iadd dx_X0_addRule_158 ?_
        refine go_cS3 ss_X0_52 dx_X0_addRule_159 (Nat.le_of_ble_eq_true rfl) (Nat.le_of_ble_eq_true rfl) (g_putIntN (i := (gh R r).length + i) (bi_k4 ho) (by omega) (by rw [(bi_l4 ho)]; omega) ?_)
        refine go_aload_n (i := 0) dx_X0_addRule_162 rfl rfl ?_
        refine go_dup dx_X0_addRule_163 rfl ?_
        refine go_getI fs_X0_46 (Or.inl rfl) (bi_k0 ho) dx_X0_addRule_164 ?_
        refine go_asI (y := (((gh R r).length + i : Nat) : Int)) (by rw [wr_n (by omega), wr_n (by omega)]; exact z2) ?_
        refine go_iconst dx_X0_addRule_167 ?_
        refine go_iadd dx_X0_addRule_168 ?_
        refine go_putI fp_X0_46 rfl rfl (bi_k0 ho) dx_X0_addRule_169 ?_
        refine go_aload_n (i := 0) dx_X0_addRule_172 rfl rfl ?_
        refine go_iload dx_X0_addRule_173 rfl ?_
        refine go_iload_n (i := 2) dx_X0_addRule_175 rfl rfl ?_
        refine go_iload dx_X0_addRule_176 rfl ?_
        refine go_cS2 ss_X0_79 dx_X0_addRule_178 (Nat.le_of_ble_eq_true rfl) (Nat.le_of_ble_eq_true rfl) (g_partOf hok (by omega) ?_)
        refine go_iload dx_X0_addRule_181 rfl ?_
        refine go_iload_n (i := 1) dx_X0_addRule_183 rfl rfl ?_
        refine go_cV4 sv_X0_83 (bi_k0 ho) dx_X0_addRule_184 (Nat.le_of_ble_eq_true rfl) (Nat.le_of_ble_eq_true rfl) (g_Binary_addPair ho (P := gp R r ++ (List.range i).map (pr_e (gh R r).length r (R r))) (H := gh R r ++ (List.range (i + 1)).map (fun k => (r, k + 1))) ?_ (by rw [List.length_append, List.length_map, List.length_range]; omega) hm64 (by have := hpt i (by omega); omega) (by omega) hr (fun δ3 h3 f3 => ?_))
        rotate_left 1
        skip
        · refine go_iload dx_X0_addRule_187 rfl ?_
          refine go_istore (lv' := [(0, vv_A o), (1, vv_I (r : Int)), (2, vv_I (rl_enc (R r) : Int)), (3, vv_I ((q.length + 1 : Nat) : Int)), (4, vv_I (x : Int)), (5, vv_I ((14 + (gh R r).length + i : Nat) : Int)), (6, vv_I (i : Int)), (7, vv_I ((14 + (gh R r).length + i : Nat) : Int))]) dx_X0_addRule_189 (by decide) rfl ?_
          refine go_iinc (lv' := [(0, vv_A o), (1, vv_I (r : Int)), (2, vv_I (rl_enc (R r) : Int)), (3, vv_I ((q.length + 1 : Nat) : Int)), (4, vv_I (x : Int)), (5, vv_I ((14 + (gh R r).length + i : Nat) : Int)), (6, vv_I ((i : Int) + 1)), (7, vv_I ((14 + (gh R r).length + i : Nat) : Int))]) dx_X0_addRule_191 rfl (by decide) rfl ?_
          refine go_goto (tgt := 118) dx_X0_addRule_194 rfl ?_
          refine go_keep [0, 1, 2, 3, 4, 5, 6] rfl ?_
          rw [show (i : Int) + 1 = ((i + 1 : Nat) : Int) by omega]
          refine ih (δ3, _) ⟨?_, ?_, fun c j h1 h2 h4 h5 => ?_⟩
          · have e : gp R r ++ (List.range (i + 1)).map (pr_e (gh R r).length r (R r)) = (gp R r ++ (List.range i).map (pr_e (gh R r).length r (R r))) ++ [(m, (R r).getD (i + 1) 0, 14 + (gh R r).length + i, r)] := by
              rw [List.range_succ, List.map_append, List.append_assoc]
              congr 2
              show [pr_e _ r (R r) i] = _
              unfold pr_e pr_b
              rw [if_neg (by omega), i2]
            rw [e]
            exact h3
          · show _ = pr_m _ (i + 1) _
            unfold pr_m
            rw [if_neg (by omega)]
            omega
          · show δ3 c j = _
            rw [f3 c j h1 (fun w => (h5 w).1), wr_n (by omega), wr_n (by omega), wr_n (by omega)]
            exact i3 c j h1 h2 h4 h5
        · obtain ⟨w1, w2, w3, w4⟩ := i1
          refine ⟨by rw [wr_n (by omega), wr_n (by omega), wr_n (by omega)]; exact w1, fun k hk => by rw [wr_n (by omega), wr_n (by omega), wr_n (by omega)]; exact w2 k hk, ?_, fun k hk => ?_⟩
          · rw [wr_eq, List.length_append, List.length_map, List.length_range]; omega
          · rw [List.length_append, List.length_map, List.length_range] at hk
            have e : gh R r ++ (List.range (i + 1)).map (fun k => (r, k + 1)) = (gh R r ++ (List.range i).map (fun k => (r, k + 1))) ++ [(r, i + 1)] := by rw [List.range_succ, List.map_append, List.append_assoc]; rfl
            have hl2 : (gh R r ++ (List.range i).map (fun k => (r, k + 1))).length = (gh R r).length + i := by rw [List.length_append, List.length_map, List.length_range]
            simp only [e]
            by_cases w : k = (gh R r).length + i
            · rw [List.getElem_append_right (by omega)]
              simp only [hl2, w, Nat.sub_self, List.getElem_cons_zero]
              exact ⟨by rw [wr_n (by omega), wr_n (by omega), wr_eq], by rw [wr_n (by omega), wr_eq]; omega⟩
            · rw [List.getElem_append_left (by omega)]
              have := w4 k (by omega)
              exact ⟨by rw [wr_n (by omega), wr_n (by omega), wr_i _ _ _ _ w]; exact this.1, by rw [wr_n (by omega), wr_i _ _ _ _ w, wr_n (by omega)]; exact this.2⟩
      · obtain ⟨δ2, m⟩ := X
        obtain ⟨i1, i2, i3⟩ := hI
        dsimp only at i1 i2 i3 ⊢
        have hm64 : m < 64 := by
          rw [i2]
          unfold pr_m
          split
          · omega
          · omega
        refine go_iload dx_X0_addRule_118 rfl ?_
        refine go_iconst dx_X0_addRule_120 ?_
        refine go_iadd dx_X0_addRule_121 ?_
        refine go_iload_n (i := 3) dx_X0_addRule_122 rfl rfl ?_
        refine go_icmp_ge (tgt := 197) dx_X0_addRule_123 rfl (by omega) (by omega) (fun c123 => ?_) (fun c123 => by exact absurd c123 (by omega))
        refine go_aload_n (i := 0) dx_X0_addRule_197 rfl rfl ?_
        refine go_iload dx_X0_addRule_198 rfl ?_
        refine go_iload_n (i := 2) dx_X0_addRule_200 rfl rfl ?_
        refine go_iload_n (i := 3) dx_X0_addRule_201 rfl rfl ?_
        refine go_iconst dx_X0_addRule_202 ?_
        refine go_isub dx_X0_addRule_203 ?_
        refine go_asI (y := ((q.length - 1 : Nat) : Int)) (by omega) ?_
        refine go_cS2 ss_X0_79 dx_X0_addRule_204 (Nat.le_of_ble_eq_true rfl) (Nat.le_of_ble_eq_true rfl) (g_partOf hok (by omega) ?_)
        refine go_iload_n (i := 2) dx_X0_addRule_207 rfl rfl ?_
        refine go_iload_n (i := 3) dx_X0_addRule_208 rfl rfl ?_
        refine go_iconst dx_X0_addRule_209 ?_
        refine go_isub dx_X0_addRule_210 ?_
        refine go_asI (y := (q.length : Int)) (by omega) ?_
        refine go_cS2 ss_X0_79 dx_X0_addRule_211 (Nat.le_of_ble_eq_true rfl) (Nat.le_of_ble_eq_true rfl) (g_partOf hok (by omega) ?_)
        refine go_iload_n (i := 1) dx_X0_addRule_214 rfl rfl ?_
        refine go_cV4 sv_X0_83 (bi_k0 ho) dx_X0_addRule_215 (Nat.le_of_ble_eq_true rfl) (Nat.le_of_ble_eq_true rfl) (g_Binary_addPair ho i1 (by rw [List.length_append, List.length_map, List.length_range]; omega) hm64 (by have := hpt (q.length - 1) (by omega); omega) (by have := hpt q.length (by omega); omega) hr (fun δ3 h3 f3 => ?_))
        refine go_vreturn dx_X0_addRule_218 rfl (Nat.le_refl _) (Nat.le_refl _) ?_
        refine hQ _ ⟨?_, fun r' hr' h3' => ?_, fun z hz => ?_, ?_, fun z hz => ?_⟩ (fun c j h1 h2 h4 => by rw [f3 _ _ (by omega) (by omega), i3 _ _ (by omega) (by omega) (by omega) (by omega), wr_n (by omega), f1 _ _ (by omega)])
        · have e1 : gp R (r + 1) = (gp R r ++ (List.range (q.length - 1)).map (pr_e (gh R r).length r (R r))) ++ [(m, (R r).getD (q.length - 1 + 1) 0, (R r).getD (q.length + 1) 0, r)] := by
            show gp R r ++ pr_l _ r (R r) = _
            unfold pr_l
            rw [hlen, show q.length + 2 - 2 = (q.length - 1) + 1 by omega, List.range_succ, List.map_append, List.append_assoc]
            congr 2
            show [pr_e _ r (R r) (q.length - 1)] = _
            unfold pr_e pr_b
            rw [if_pos (by omega), ← i2, show q.length - 1 + 2 = q.length + 1 by omega]
          have e2 : gh R (r + 1) = gh R r ++ (List.range (q.length - 1)).map (fun k => (r, k + 1)) := by
            show gh R r ++ hp_l r (R r) = _
            unfold hp_l
            rw [hlen, show q.length + 2 - 3 = q.length - 1 by omega]
          rw [e1, e2]
          exact h3
        · by_cases w : r' = r
          · subst w
            rw [f3 _ _ (by omega) (by omega), i3 _ _ (by omega) (by omega) (by omega) (by omega), wr_eq]
          · rw [f3 _ _ (by omega) (by omega), i3 _ _ (by omega) (by omega) (by omega) (by omega), wr_i _ _ _ _ w, f1 _ _ (by omega)]
            exact g2 r' (by omega) h3'
        · rw [f3 _ _ (by omega) (by omega), i3 _ _ (by omega) (by omega) (by omega) (by omega), wr_n (by omega)]
          by_cases e : z = x
          · subst e; rw [f1 _ _ (by omega), g3 z hz, usx]
          · exact us2 z hz e
        · rw [f3 _ _ (by omega) (by omega), i3 _ _ (by omega) (by omega) (by omega) (by omega), wr_n (by omega), f1 _ _ (by omega), g4]
          unfold ucp
          rw [cn_sf (by rw [hlen]; omega)]
        · rw [f3 _ _ (by omega) (by omega), i3 _ _ (by omega) (by omega) (by omega) (by omega), wr_n (by omega)]
          exact u2 z hz
    · have hq0 : q = [] := List.eq_nil_of_length_eq_zero (by omega)
      subst hq0
      have hs : bv_or (mk 14 (unp R r x) : Int) ((2 ^ y : Nat) : Int) = (mk 14 (unp R (r + 1) x) : Int) := by
        have b1 := mk_31 14 (unp R r x) (by decide)
        have b2 := bt_p31 hy (by decide)
        rw [bv_orN b1 b2, mk_one hy, mk_or]
        congr 1
        refine mk_congr (fun z _ => ⟨fun w => ?_, fun ⟨r', a, b⟩ => ?_⟩)
        · rcases w with ⟨r', a, b⟩ | w
          · exact ⟨r', by omega, b⟩
          · subst w; exact ⟨r, by omega, hl⟩
        · by_cases e : r' = r
          · subst e; rw [hl] at b; injection b with b1 b2; injection b2 with b3 b4; exact Or.inr b3
          · exact Or.inl ⟨r', by omega, b⟩
      refine go_aload_n (i := 0) dx_X0_addRule_62 rfl rfl ?_
      refine go_dup dx_X0_addRule_63 rfl ?_
      refine go_getI fs_X0_49 (Or.inl rfl) (bi_k0 ho) dx_X0_addRule_64 ?_
      refine go_asI (y := (ucp R r : Int)) (by rw [f1 _ _ (by omega)]; exact g4) ?_
      refine go_iconst dx_X0_addRule_67 ?_
      refine go_iadd dx_X0_addRule_68 ?_
      refine go_putI fp_X0_49 rfl rfl (bi_k0 ho) dx_X0_addRule_69 ?_
      refine go_aload_n (i := 0) dx_X0_addRule_72 rfl rfl ?_
      refine go_getA (b := (o + 5)) fs_X0_24 rfl (bi_k0 ho) (bi_r6 ho) dx_X0_addRule_73 ?_
      refine go_iload dx_X0_addRule_76 rfl ?_
      refine go_aload_n (i := 0) dx_X0_addRule_78 rfl rfl ?_
      refine go_getA (b := (o + 5)) fs_X0_24 rfl (bi_k0 ho) (bi_r6 ho) dx_X0_addRule_79 ?_
      refine go_iload dx_X0_addRule_82 rfl ?_
      refine go_cS2 ss_X0_75 dx_X0_addRule_84 (Nat.le_of_ble_eq_true rfl) (Nat.le_of_ble_eq_true rfl) (g_intAtV (i := x) (v := ((mk 14 (unp R r x) : Int))) (bi_k5 ho) (by omega) (by rw [(bi_l5 ho)]; omega) (by rw [wr_n (by omega), f1 _ _ (by omega)]; exact g3 x hx) ?_)
      refine go_iconst dx_X0_addRule_87 ?_
      refine go_iload_n (i := 2) dx_X0_addRule_88 rfl rfl ?_
      refine go_iconst dx_X0_addRule_89 ?_
      refine go_asI (y := ((0 : Nat) : Int)) (by rfl) ?_
      refine go_cS2 ss_X0_79 dx_X0_addRule_90 (Nat.le_of_ble_eq_true rfl) (Nat.le_of_ble_eq_true rfl) (g_partOf hok (by omega) ?_)
      refine go_asI (y := (y : Int)) (by rw [hl]; rfl) ?_
      refine go_ishl dx_X0_addRule_93 ?_
      refine go_asI (y := ((2 ^ y : Nat) : Int)) (by exact bv_bit (by omega)) ?_
      refine go_ior dx_X0_addRule_94 ?_
      refine go_asI (y := (mk 14 (unp R (r + 1) x) : Int)) (by exact hs) ?_
      refine go_cS3 ss_X0_52 dx_X0_addRule_95 (Nat.le_of_ble_eq_true rfl) (Nat.le_of_ble_eq_true rfl) (g_putIntN (i := x) (bi_k5 ho) (by omega) (by rw [(bi_l5 ho)]; omega) ?_)
      refine go_vreturn dx_X0_addRule_98 rfl (Nat.le_refl _) (Nat.le_refl _) ?_
      refine hQ _ ⟨?_, fun r' hr' h3 => ?_, fun z hz => ?_, ?_, fun z hz => ?_⟩ (fun c j h1 h2 h3 => by rw [wr_n (by omega), wr_n (by omega), f1 _ _ (by omega)])
      · have e1 : gp R (r + 1) = gp R r := by
          show gp R r ++ pr_l _ r (R r) = _
          rw [hl]; simp [pr_l]
        have e2 : gh R (r + 1) = gh R r := by
          show gh R r ++ hp_l r (R r) = _
          rw [hl]; simp [hp_l]
        rw [e1, e2]
        exact bq_fr g1 (fun c j h1 h2 h3 => by rw [wr_n (by omega), wr_n (by omega), f1 _ _ (by omega)])
      · have : r' ≠ r := fun w => by subst w; rw [hlen] at h3; simp at h3
        rw [wr_n (by omega), wr_n (by omega), f1 _ _ (by omega)]
        exact g2 r' (by omega) h3
      · by_cases e : z = x
        · subst e; rw [wr_eq]
        · rw [wr_i _ _ _ _ e, wr_n (by omega)]; exact us2 z hz e
      · rw [wr_n (by omega), wr_eq]
        unfold ucp
        rw [cn_st (by rw [hl]; rfl)]
        omega
      · rw [wr_n (by omega), wr_n (by omega)]; exact u2 z hz
  have loop := lp_up (X := Nat → Nat → Int) (hi := q.length + 1)
    (I := fun i δ1 => (∀ c j, (c = o + 7 → j ≠ x) → δ1 c j = δ c j) ∧ δ1 (o + 7) x = (usk R r x i : Int))
    (G := fun i δ1 => Go E (d + 2) (0, 0) mx_X0_addRule go_φ 14 [(0, vv_A o), (1, vv_I (r : Int)), (2, vv_I (rl_enc (R r) : Int)), (3, vv_I ((q.length + 1 : Nat) : Int)), (4, vv_I (x : Int)), (5, vv_I (i : Int))] [] δ1 Q)
    (fun i δ1 hi hI ih => ?_) (fun δ1 hI => ?_)
  · refine go_iload_n (i := 2) dx_X0_addRule_0 rfl rfl ?_
    refine go_cS1 ss_X0_69 dx_X0_addRule_1 (Nat.le_of_ble_eq_true rfl) (Nat.le_of_ble_eq_true rfl) (g_sizeOf hok ?_)
    refine go_asI (y := ((q.length + 1 : Nat) : Int)) (by omega) ?_
    refine go_istore_n (i := 3) (lv' := [(0, vv_A o), (1, vv_I (r : Int)), (2, vv_I (rl_enc (R r) : Int)), (3, vv_I ((q.length + 1 : Nat) : Int))]) dx_X0_addRule_4 rfl (by decide) rfl ?_
    refine go_iload_n (i := 2) dx_X0_addRule_5 rfl rfl ?_
    refine go_cS1 ss_X0_72 dx_X0_addRule_6 (Nat.le_of_ble_eq_true rfl) (Nat.le_of_ble_eq_true rfl) (g_headOf hok ?_)
    refine go_asI (y := (x : Int)) (by rw [hhd]) ?_
    refine go_istore (lv' := [(0, vv_A o), (1, vv_I (r : Int)), (2, vv_I (rl_enc (R r) : Int)), (3, vv_I ((q.length + 1 : Nat) : Int)), (4, vv_I (x : Int))]) dx_X0_addRule_9 (by decide) rfl ?_
    refine go_iconst dx_X0_addRule_11 ?_
    refine go_istore (lv' := [(0, vv_A o), (1, vv_I (r : Int)), (2, vv_I (rl_enc (R r) : Int)), (3, vv_I ((q.length + 1 : Nat) : Int)), (4, vv_I (x : Int)), (5, vv_I 0)]) dx_X0_addRule_12 (by decide) rfl ?_
    exact loop 0 δ (Nat.zero_le _) ⟨fun _ _ _ => rfl, by rw [usk_0]; exact g5 x hx⟩
  · obtain ⟨i1, i2⟩ := hI
    have hp := hpt i (by omega)
    refine go_iload dx_X0_addRule_14 rfl ?_
    refine go_iload_n (i := 3) dx_X0_addRule_16 rfl rfl ?_
    refine go_icmp_ge (tgt := 57) dx_X0_addRule_17 rfl (by omega) (by omega) (fun c17 => by exact absurd c17 (by omega)) (fun c17 => ?_)
    refine go_aload_n (i := 0) dx_X0_addRule_20 rfl rfl ?_
    refine go_getA (b := (o + 7)) fs_X0_30 rfl (bi_k0 ho) (bi_r9 ho) dx_X0_addRule_21 ?_
    refine go_iload dx_X0_addRule_24 rfl ?_
    refine go_aload_n (i := 0) dx_X0_addRule_26 rfl rfl ?_
    refine go_getA (b := (o + 7)) fs_X0_30 rfl (bi_k0 ho) (bi_r9 ho) dx_X0_addRule_27 ?_
    refine go_iload dx_X0_addRule_30 rfl ?_
    refine go_cS2 ss_X0_75 dx_X0_addRule_32 (Nat.le_of_ble_eq_true rfl) (Nat.le_of_ble_eq_true rfl) (g_intAtV (i := x) (v := ((usk R r x i : Int))) (bi_k7 ho) (by omega) (by rw [(bi_l7 ho)]; omega) (by exact i2) ?_)
    refine go_iconst dx_X0_addRule_35 ?_
    refine go_iload_n (i := 2) dx_X0_addRule_36 rfl rfl ?_
    refine go_iload dx_X0_addRule_37 rfl ?_
    refine go_cS2 ss_X0_79 dx_X0_addRule_39 (Nat.le_of_ble_eq_true rfl) (Nat.le_of_ble_eq_true rfl) (g_partOf hok (by omega) ?_)
    refine go_ishl dx_X0_addRule_42 ?_
    refine go_asI (y := ((2 ^ (R r).getD (i + 1) 0 : Nat) : Int)) (by exact bv_bit (by omega)) ?_
    refine go_sipush dx_X0_addRule_43 rfl ?_
    refine go_iand dx_X0_addRule_46 ?_
    refine go_asI (y := ((2 ^ (R r).getD (i + 1) 0 &&& 255 : Nat) : Int)) (by exact bv_andN (bt_p31 hp (by decide)) (by decide)) ?_
    refine go_ior dx_X0_addRule_47 ?_
    refine go_asI (y := (usk R r x (i + 1) : Int)) (by rw [bv_orN (usk_lt r x i) (Nat.lt_of_le_of_lt Nat.and_le_right (by decide)), usk_s]) ?_
    refine go_cS3 ss_X0_52 dx_X0_addRule_48 (Nat.le_of_ble_eq_true rfl) (Nat.le_of_ble_eq_true rfl) (g_putIntN (i := x) (bi_k7 ho) (by omega) (by rw [(bi_l7 ho)]; omega) ?_)
    refine go_iinc (lv' := [(0, vv_A o), (1, vv_I (r : Int)), (2, vv_I (rl_enc (R r) : Int)), (3, vv_I ((q.length + 1 : Nat) : Int)), (4, vv_I (x : Int)), (5, vv_I ((i : Int) + 1))]) dx_X0_addRule_51 rfl (by decide) rfl ?_
    refine go_goto (tgt := 14) dx_X0_addRule_54 rfl ?_
    exact ih _ ⟨fun c j hc => by rw [wr_n (by omega)]; exact i1 c j hc, wr_eq _ _ _ _⟩
  · obtain ⟨i1, i2⟩ := hI
    refine go_iload dx_X0_addRule_14 rfl ?_
    refine go_iload_n (i := 3) dx_X0_addRule_16 rfl rfl ?_
    refine go_icmp_ge (tgt := 57) dx_X0_addRule_17 rfl (by omega) (by omega) (fun c17 => ?_) (fun c17 => by exact absurd c17 (by omega))
    refine go_keep [0, 1, 2, 3, 4] rfl ?_
    exact rest δ1 _ rfl i1 (by rw [i2, ← usk_e hl]; rfl)
end GBUILD
