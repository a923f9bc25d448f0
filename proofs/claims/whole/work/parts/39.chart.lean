/-! the class's charts -/
def tri : Nat → Nat
  | 0 => 0
  | j + 1 => tri j + j
theorem tri_2 (j : Nat) : 2 * tri j = j * (j - 1) := by
  induction j with
  | zero => rfl
  | succ j ih =>
    show 2 * (tri j + j) = (j + 1) * j
    cases j with
    | zero => rfl
    | succ k =>
      rw [Nat.mul_add, ih, show k + 1 - 1 = k by omega, show (k + 1 + 1) * (k + 1) = (k + 1) * k + 2 * (k + 1) by rw [← Nat.mul_comm (k + 1) (k + 1 + 1), show k + 1 + 1 = k + 2 from rfl, Nat.mul_add, Nat.mul_comm 2 (k + 1)]]
theorem tri_mono {i j : Nat} (h : i ≤ j) : tri i ≤ tri j := by
  induction j with
  | zero => have : i = 0 := by omega
            subst this; exact Nat.le_refl _
  | succ j ih =>
    by_cases e : i = j + 1
    · subst e; exact Nat.le_refl _
    · have := ih (by omega)
      show tri i ≤ tri j + j
      omega
theorem tri_inj {i j i' j' : Nat} (h1 : i < j) (h2 : i' < j') (h : tri j + i = tri j' + i') : i = i' ∧ j = j' := by
  have e : j = j' := by
    rcases Nat.lt_trichotomy j j' with q | q | q
    · have : tri (j + 1) ≤ tri j' := tri_mono q
      have e : tri (j + 1) = tri j + j := rfl
      omega
    · exact q
    · have : tri (j' + 1) ≤ tri j := tri_mono q
      have e : tri (j' + 1) = tri j' + j' := rfl
      omega
  subst e
  exact ⟨by omega, rfl⟩
theorem tri_15 : tri 15 = 105 := rfl
theorem tri_lt {i j : Nat} (h : i < j) (hj : j ≤ 14) : tri j + i < 105 := by
  have h1 : tri (j + 1) ≤ tri 15 := tri_mono (by omega)
  have e : tri (j + 1) = tri j + j := rfl
  rw [tri_15] at h1
  omega
def slt (al : Bool) (i j : Nat) : Nat := if al = true then j - i - 1 else tri j + i
/-- places that take letters; what is derived over them -/
def dpw (pl : Nat → Nat → Prop) (i : Nat) (u : List Nat) : Prop := ∀ k c, u[k]? = some c → pl (i + k) c
def dp (R : Nat → List Nat) (pl : Nat → Nat → Prop) (x i j : Nat) : Prop := ∃ u, i + u.length = j ∧ dpw pl i u ∧ dx R x u
def dpB (R : Nat → List Nat) (pl : Nat → Nat → Prop) (x i j : Nat) : Prop := (8 ≤ x ∧ x < 14 ∧ j = i + 1 ∧ pl i x) ∨ ∃ e, e ∈ gP R ∧ e.1 = x ∧ ∃ k, i < k ∧ k < j ∧ dp R pl e.2.1 i k ∧ dp R pl e.2.2.1 k j
section GDP
variable {R : Nat → List Nat} {pl : Nat → Nat → Prop} {x i j : Nat}
theorem dp_lt (h : dp R pl x i j) : i < j := by
  obtain ⟨u, h1, _, h2⟩ := h
  have := List.length_pos_iff.mpr h2.1
  omega
theorem dpw_app {u v : List Nat} : dpw pl i (u ++ v) ↔ dpw pl i u ∧ dpw pl (i + u.length) v := by
  constructor
  · intro h
    refine ⟨fun k c hk => h k c ?_, fun k c hk => ?_⟩
    · have hl := (List.getElem?_eq_some_iff.mp hk).1
      rw [List.getElem?_append_left hl]; exact hk
    · have := h (u.length + k) c (by rw [List.getElem?_append_right (by omega), Nat.add_sub_cancel_left]; exact hk)
      rwa [← Nat.add_assoc] at this
  · rintro ⟨h1, h2⟩ k c hk
    by_cases q : k < u.length
    · rw [List.getElem?_append_left q] at hk; exact h1 k c hk
    · rw [List.getElem?_append_right (by omega)] at hk
      have := h2 _ c hk
      rwa [show i + u.length + (k - u.length) = i + k by omega] at this
theorem dpw_one {c : Nat} : dpw pl i [c] ↔ pl i c := by
  constructor
  · intro h; exact h 0 c rfl
  · intro h k d hk
    cases k with
    | zero => cases hk; exact h
    | succ k => simp at hk
theorem dpB_iff (hR : ∀ r, rl_ok (R r)) : dpB R pl x i j ↔ ∃ u, i + u.length = j ∧ dpw pl i u ∧ dxB R x u := by
  constructor
  · rintro (⟨h1, h2, rfl, h3⟩ | ⟨e, he, rfl, k, k1, k2, ⟨u, a1, a2, a3⟩, ⟨v, b1, b2, b3⟩⟩)
    · exact ⟨[x], rfl, dpw_one.mpr h3, Or.inl ⟨h1, h2, rfl⟩⟩
    · refine ⟨u ++ v, by rw [List.length_append]; omega, dpw_app.mpr ⟨a2, by rw [a1]; exact b2⟩, Or.inr ⟨e, he, rfl, u, v, rfl, a3, b3⟩⟩
  · rintro ⟨w, h1, h2, ⟨a, b, rfl⟩ | ⟨e, he, rfl, u, v, rfl, a3, b3⟩⟩
    · exact Or.inl ⟨a, b, h1.symm, dpw_one.mp h2⟩
    · obtain ⟨q1, q2⟩ := dpw_app.mp h2
      rw [List.length_append] at h1
      have p1 := List.length_pos_iff.mpr a3.1
      have p2 := List.length_pos_iff.mpr b3.1
      exact Or.inr ⟨e, he, rfl, i + u.length, by omega, by omega, ⟨u, rfl, q1, a3⟩, ⟨v, by omega, q2, b3⟩⟩
theorem dp_step (hR : ∀ r, rl_ok (R r)) : dp R pl x i j ↔ dpB R pl x i j ∨ ∃ y, ut R x y ∧ dpB R pl y i j := by
  rw [dpB_iff hR]
  constructor
  · rintro ⟨u, h1, h2, h3⟩
    rcases (dx_step hR).mp h3 with q | ⟨y, q1, q2⟩
    · exact Or.inl ⟨u, h1, h2, q⟩
    · exact Or.inr ⟨y, q1, (dpB_iff hR).mpr ⟨u, h1, h2, q2⟩⟩
  · rintro (⟨u, h1, h2, q⟩ | ⟨y, q1, q2⟩)
    · exact ⟨u, h1, h2, (dx_step hR).mpr (Or.inl q)⟩
    · obtain ⟨u, h1, h2, q⟩ := (dpB_iff hR).mp q2
      exact ⟨u, h1, h2, (dx_step hR).mpr (Or.inr ⟨y, q1, q⟩)⟩
theorem dp_62 (hR : ∀ r, rl_ok (R r)) (h : dp R pl x i j) : x < 14 + (gH R).length ∧ x < 62 := by
  obtain ⟨u, _, _, q⟩ := h
  have := dx_lt hR q
  have := gH_le hR
  exact ⟨by omega, by omega⟩
theorem dp_shift {i' j' : Nat} (hp : ∀ i c, pl i c ↔ pl 0 c) (e : j - i = j' - i') (h1 : i ≤ j) (h2 : i' ≤ j') : dp R pl x i j ↔ dp R pl x i' j' := by
  have key : ∀ i j i' j' : Nat, j - i = j' - i' → i ≤ j → i' ≤ j' → dp R pl x i j → dp R pl x i' j' := fun i j i' j' e h1 h2 ⟨u, a, b, c⟩ => ⟨u, by omega, fun k d hk => (hp _ d).mpr ((hp _ d).mp (b k d hk)), c⟩
  exact ⟨key _ _ _ _ e h1 h2, key _ _ _ _ e.symm h2 h1⟩
end GDP
def ch_ok (o : Nat) (al : Bool) : Prop := (go_kd o = 1 ∧ o < go_φ.1) ∧ (go_kd (o + 1) = 20 ∧ o + 1 < go_φ.1) ∧ (go_kd (o + 2) = 21 ∧ o + 2 < go_φ.1) ∧ (go_kd (o + 3) = 20 ∧ o + 3 < go_φ.1) ∧ (go_kd (o + 4) = 21 ∧ o + 4 < go_φ.1) ∧
  go_ln (o + 1) = 14 ∧ go_ln (o + 2) = (if al = true then 14 else 105) ∧ go_ln (o + 3) = 15 ∧ go_ln (o + 4) = 15 ∧ go_rf o 1 = o + 1 + 1 ∧ go_rf o 2 = o + 2 + 1 ∧ go_rf o 3 = o + 3 + 1 ∧ go_rf o 4 = o + 4 + 1
theorem ch_k0 {o : Nat} {al : Bool} (h : ch_ok o al) : go_kd o = 1 ∧ o < go_φ.1 := h.1
theorem ch_k1 {o : Nat} {al : Bool} (h : ch_ok o al) : go_kd (o + 1) = 20 ∧ o + 1 < go_φ.1 := h.2.1
theorem ch_k2 {o : Nat} {al : Bool} (h : ch_ok o al) : go_kd (o + 2) = 21 ∧ o + 2 < go_φ.1 := h.2.2.1
theorem ch_k3 {o : Nat} {al : Bool} (h : ch_ok o al) : go_kd (o + 3) = 20 ∧ o + 3 < go_φ.1 := h.2.2.2.1
theorem ch_k4 {o : Nat} {al : Bool} (h : ch_ok o al) : go_kd (o + 4) = 21 ∧ o + 4 < go_φ.1 := h.2.2.2.2.1
theorem ch_l1 {o : Nat} {al : Bool} (h : ch_ok o al) : go_ln (o + 1) = 14 := h.2.2.2.2.2.1
theorem ch_l2 {o : Nat} {al : Bool} (h : ch_ok o al) : go_ln (o + 2) = (if al = true then 14 else 105) := h.2.2.2.2.2.2.1
theorem ch_l3 {o : Nat} {al : Bool} (h : ch_ok o al) : go_ln (o + 3) = 15 := h.2.2.2.2.2.2.2.1
theorem ch_l4 {o : Nat} {al : Bool} (h : ch_ok o al) : go_ln (o + 4) = 15 := h.2.2.2.2.2.2.2.2.1
theorem ch_r1 {o : Nat} {al : Bool} (h : ch_ok o al) : go_rf o 1 = o + 1 + 1 := h.2.2.2.2.2.2.2.2.2.1
theorem ch_r2 {o : Nat} {al : Bool} (h : ch_ok o al) : go_rf o 2 = o + 2 + 1 := h.2.2.2.2.2.2.2.2.2.2.1
theorem ch_r3 {o : Nat} {al : Bool} (h : ch_ok o al) : go_rf o 3 = o + 3 + 1 := h.2.2.2.2.2.2.2.2.2.2.2.1
theorem ch_r4 {o : Nat} {al : Bool} (h : ch_ok o al) : go_rf o 4 = o + 4 + 1 := h.2.2.2.2.2.2.2.2.2.2.2.2
theorem ch_ok44 : ch_ok 44 false := by unfold ch_ok; decide +kernel
theorem ch_ok62 : ch_ok 62 true := by unfold ch_ok; decide +kernel
theorem ch_ok87 : ch_ok 87 false := by unfold ch_ok; decide +kernel
theorem slt_lt {o : Nat} {al : Bool} (h : ch_ok o al) {i j : Nat} (hi : i < j) (hj : j ≤ 14) : slt al i j < go_ln (o + 2) := by
  rw [ch_l2 h]
  unfold slt
  cases al with
  | true => rw [if_pos rfl, if_pos rfl]; omega
  | false => rw [if_neg Bool.false_ne_true, if_neg Bool.false_ne_true]; exact tri_lt hi hj
def bI (al : Bool) : Int := if al = true then 1 else 0
/-- cells of spans, as far as they are filled: spans below a size, and those of that size below a place -/
def cf_at (δ : Nat → Nat → Int) (o : Nat) (al : Bool) (R : Nat → List Nat) (pl : Nat → Nat → Prop) (n w m : Nat) : Prop := ∀ i j, i < j → j ≤ n → (j - i < w ∨ (j - i = w ∧ i < m)) → δ (o + 2) (slt al i j) = (mk 62 (fun x => dp R pl x i j) : Int)
def ct_at (δ : Nat → Nat → Int) (o : Nat) (al : Bool) (R : Nat → List Nat) (pl : Nat → Nat → Prop) (n : Nat) : Prop := δ o 0 = bI al ∧ δ o 5 = (n : Int) ∧ n ≤ 14 ∧ ∀ i j, i < j → j ≤ n → δ (o + 2) (slt al i j) = (mk 62 (fun x => dp R pl x i j) : Int)
theorem ct_fr {δ δ' : Nat → Nat → Int} {o n : Nat} {al : Bool} {R : Nat → List Nat} {pl : Nat → Nat → Prop} (h : ct_at δ o al R pl n) (f : ∀ c j, (c = o + 2 ∨ (c = o ∧ (j = 0 ∨ j = 5))) → δ' c j = δ c j) : ct_at δ' o al R pl n :=
  ⟨by rw [f _ _ (Or.inr ⟨rfl, Or.inl rfl⟩)]; exact h.1, by rw [f _ _ (Or.inr ⟨rfl, Or.inr rfl⟩)]; exact h.2.1, h.2.2.1, fun i j a b => by rw [f _ _ (Or.inl rfl)]; exact h.2.2.2 i j a b⟩
def pl_at (δ : Nat → Nat → Int) (o : Nat) (pl : Nat → Nat → Prop) (n : Nat) : Prop := ∀ i, i < n → δ (o + 1) i = (mk 14 (pl i) : Int)
/-- the places of a word -/
def plw (w : List Nat) (i c : Nat) : Prop := w[i]? = some c
def pla (_ c : Nat) : Prop := 8 ≤ c ∧ c < 14
section GCHART
variable {E : go_E} {d : Nat} {δ : Nat → Nat → Int} {Q : List go_V → go_F → (Nat → Nat → Int) → Prop} {o p n : Nat} {al : Bool} {R : Nat → List Nat} {pl : Nat → Nat → Prop} {K : sK}
theorem g_slotOf {i j : Nat} (h : i < j) (hj : j ≤ 15) (hQ : Q [vv_I (slt al i j : Int)] go_φ δ) : Go E d (0, 0) mx_X11_slotOf go_φ 0 [(0, vv_I (i : Int)), (1, vv_I (j : Int)), (2, vv_I (bI al))] [] δ Q := by
  cases al with
  | true =>
    rw [show bI true = 1 from rfl]
    refine go_iload_n (i := 2) dx_X11_slotOf_0 rfl rfl ?_
    refine go_if_eq (tgt := 12) dx_X11_slotOf_1 rfl (by omega) (fun c1 => absurd c1 (by decide)) (fun c1 => ?_)
    refine go_iload_n (i := 1) dx_X11_slotOf_4 rfl rfl ?_
    refine go_iload_n (i := 0) dx_X11_slotOf_5 rfl rfl ?_
    refine go_isub dx_X11_slotOf_6 ?_
    refine go_iconst dx_X11_slotOf_7 ?_
    refine go_isub dx_X11_slotOf_8 ?_
    refine go_goto (tgt := 21) dx_X11_slotOf_9 rfl ?_
    refine go_ireturn dx_X11_slotOf_21 rfl (Nat.le_refl _) (Nat.le_refl _) ?_
    rw [show (j : Int) - (i : Int) - 1 = ((slt true i j : Nat) : Int) by unfold slt; rw [if_pos rfl]; omega]
    exact hQ
  | false =>
    have h2 := tri_2 j
    have hb : tri j ≤ 105 := by rw [← tri_15]; exact tri_mono hj
    have e : (j : Int) * ((j : Int) - 1) = 2 * (tri j : Int) := by
      rw [show (j : Int) - 1 = ((j - 1 : Nat) : Int) by omega, ← Int.natCast_mul, ← h2]
      omega
    rw [show bI false = 0 from rfl]
    refine go_iload_n (i := 2) dx_X11_slotOf_0 rfl rfl ?_
    refine go_if_eq (tgt := 12) dx_X11_slotOf_1 rfl (by omega) (fun c1 => ?_) (fun c1 => absurd c1 (by decide))
    refine go_iload_n (i := 1) dx_X11_slotOf_12 rfl rfl ?_
    refine go_iload_n (i := 1) dx_X11_slotOf_13 rfl rfl ?_
    refine go_iconst dx_X11_slotOf_14 ?_
    refine go_isub dx_X11_slotOf_15 ?_
    refine go_imul dx_X11_slotOf_16 ?_
    refine go_asI (y := (2 * (tri j : Int))) (by exact e) ?_
    refine go_iconst dx_X11_slotOf_17 ?_
    refine go_idiv dx_X11_slotOf_18 (by omega) (by omega) (by omega) (by omega) ?_
    refine go_iload_n (i := 0) dx_X11_slotOf_19 rfl rfl ?_
    refine go_iadd dx_X11_slotOf_20 ?_
    refine go_ireturn dx_X11_slotOf_21 rfl (Nat.le_refl _) (Nat.le_refl _) ?_
    rw [show (2 * (tri j : Int)) / 2 + (i : Int) = ((slt false i j : Nat) : Int) by unfold slt; rw [if_neg Bool.false_ne_true]; omega]
    exact hQ
theorem g_Chart_hasSpan {i j : Int} (ho : ch_ok o al) (hn : δ o 5 = (n : Int)) (hn2 : n ≤ 14) (hi : go_iI i) (hj : go_iI j) (hQ : Q [vv_I (b01 (0 ≤ i ∧ i < j ∧ j ≤ (n : Int)))] go_φ δ) : Go E d (0, 0) mx_X1_hasSpan go_φ 0 [(0, vv_A o), (1, vv_I i), (2, vv_I j)] [] δ Q := by
  refine go_iload_n (i := 1) dx_X1_hasSpan_0 rfl rfl ?_
  refine go_if_lt (tgt := 21) dx_X1_hasSpan_1 rfl (by omega) (fun c1 => ?_) (fun c1 => ?_)
  · refine go_iconst dx_X1_hasSpan_21 ?_
    refine go_zreturn dx_X1_hasSpan_22 rfl (by first | exact Or.inl rfl | exact Or.inr rfl | assumption | omega) (Nat.le_refl _) (Nat.le_refl _) ?_
    first | (rw [b01_t (by omega)] at hQ; exact hQ) | (rw [b01_f (by omega)] at hQ; exact hQ)
  · refine go_iload_n (i := 1) dx_X1_hasSpan_4 rfl rfl ?_
    refine go_iload_n (i := 2) dx_X1_hasSpan_5 rfl rfl ?_
    refine go_icmp_ge (tgt := 21) dx_X1_hasSpan_6 rfl (by omega) (by omega) (fun c6 => ?_) (fun c6 => ?_)
    · refine go_iconst dx_X1_hasSpan_21 ?_
      refine go_zreturn dx_X1_hasSpan_22 rfl (by first | exact Or.inl rfl | exact Or.inr rfl | assumption | omega) (Nat.le_refl _) (Nat.le_refl _) ?_
      first | (rw [b01_t (by omega)] at hQ; exact hQ) | (rw [b01_f (by omega)] at hQ; exact hQ)
    · refine go_iload_n (i := 2) dx_X1_hasSpan_9 rfl rfl ?_
      refine go_aload_n (i := 0) dx_X1_hasSpan_10 rfl rfl ?_
      refine go_getI fs_X1_43 (Or.inl rfl) (ch_k0 ho) dx_X1_hasSpan_11 ?_
      refine go_asI (y := (n : Int)) (by exact hn) ?_
      refine go_icmp_gt (tgt := 21) dx_X1_hasSpan_14 rfl (by omega) (by omega) (fun c14 => ?_) (fun c14 => ?_)
      · refine go_iconst dx_X1_hasSpan_21 ?_
        refine go_zreturn dx_X1_hasSpan_22 rfl (by first | exact Or.inl rfl | exact Or.inr rfl | assumption | omega) (Nat.le_refl _) (Nat.le_refl _) ?_
        first | (rw [b01_t (by omega)] at hQ; exact hQ) | (rw [b01_f (by omega)] at hQ; exact hQ)
      · refine go_iconst dx_X1_hasSpan_17 ?_
        refine go_goto (tgt := 22) dx_X1_hasSpan_18 rfl ?_
        refine go_zreturn dx_X1_hasSpan_22 rfl (by first | exact Or.inl rfl | exact Or.inr rfl | assumption | omega) (Nat.le_refl _) (Nat.le_refl _) ?_
        first | (rw [b01_t (by omega)] at hQ; exact hQ) | (rw [b01_f (by omega)] at hQ; exact hQ)
theorem g_Chart_cellAt {i j : Nat} (ho : ch_ok o al) (h : ct_at δ o al R pl n) (hj : j ≤ n) (hi : i ≤ n) (hQ : Q [vv_L (mk 62 (fun x => dp R pl x i j) : Int)] go_φ δ) : Go E (d + 1) (0, 0) mx_X1_cellAt go_φ 0 [(0, vv_A o), (1, vv_I (i : Int)), (2, vv_I (j : Int))] [] δ Q := by
  obtain ⟨h1, h2, h3, h4⟩ := h
  refine go_aload_n (i := 0) dx_X1_cellAt_0 rfl rfl ?_
  refine go_iload_n (i := 1) dx_X1_cellAt_1 rfl rfl ?_
  refine go_iload_n (i := 2) dx_X1_cellAt_2 rfl rfl ?_
  refine go_cV2 sv_X1_76 (ch_k0 ho) dx_X1_cellAt_3 (Nat.le_of_ble_eq_true rfl) (Nat.le_of_ble_eq_true rfl) (g_Chart_hasSpan ho h2 h3 (by omega) (by omega) ?_)
  refine go_b_eq (tgt := 28) dx_X1_cellAt_6 rfl (fun c6 => ?_) (fun c6 => ?_)
  · refine go_lconst (x := 0) dx_X1_cellAt_28 rfl ?_
    refine go_lreturn dx_X1_cellAt_29 rfl (Nat.le_refl _) (Nat.le_refl _) ?_
    rw [mk_zero (fun x _ q => by have := dp_lt q; omega)] at hQ
    exact hQ
  · refine go_aload_n (i := 0) dx_X1_cellAt_9 rfl rfl ?_
    refine go_getA (b := (o + 2)) fs_X1_19 rfl (ch_k0 ho) (ch_r2 ho) dx_X1_cellAt_10 ?_
    refine go_iload_n (i := 1) dx_X1_cellAt_13 rfl rfl ?_
    refine go_iload_n (i := 2) dx_X1_cellAt_14 rfl rfl ?_
    refine go_aload_n (i := 0) dx_X1_cellAt_15 rfl rfl ?_
    refine go_getI fs_X1_9 (Or.inr rfl) (ch_k0 ho) dx_X1_cellAt_16 ?_
    refine go_asI (y := (bI al)) (by exact h1) ?_
    refine go_cS3 ss_X1_54 dx_X1_cellAt_19 (Nat.le_of_ble_eq_true rfl) (Nat.le_of_ble_eq_true rfl) (g_slotOf (by omega) (by omega) ?_)
    refine go_cS2 ss_X1_80 dx_X1_cellAt_22 (Nat.le_of_ble_eq_true rfl) (Nat.le_of_ble_eq_true rfl) (g_longAtV (ch_k2 ho) rfl (slt_lt ho (by omega) (by omega)) (h4 i j (by omega) hj) ?_)
    refine go_goto (tgt := 29) dx_X1_cellAt_25 rfl ?_
    refine go_lreturn dx_X1_cellAt_29 rfl (Nat.le_refl _) (Nat.le_refl _) ?_
    exact hQ
theorem dp_bit (hR : ∀ r, rl_ok (R r)) {x i j : Nat} : (mk 62 (fun x => dp R pl x i j)).testBit x = true ↔ dp R pl x i j := by
  rw [mk_bit]
  exact ⟨fun q => q.2, fun q => ⟨(dp_62 hR q).2, q⟩⟩
theorem g_Chart_derives {x i j : Nat} (ho : ch_ok o al) (hR : ∀ r, rl_ok (R r)) (h : ct_at δ o al R pl n) (hx : x < 64) (hj : j ≤ n) (hi : i ≤ n) (hQ : Q [vv_I (b01 (dp R pl x i j))] go_φ δ) :
    Go E (d + 2) (0, 0) mx_X1_derives go_φ 0 [(0, vv_A o), (1, vv_I (x : Int)), (2, vv_I (i : Int)), (3, vv_I (j : Int))] [] δ Q := by
  refine go_aload_n (i := 0) dx_X1_derives_0 rfl rfl ?_
  refine go_iload_n (i := 2) dx_X1_derives_1 rfl rfl ?_
  refine go_iload_n (i := 3) dx_X1_derives_2 rfl rfl ?_
  refine go_cV2 sv_X1_68 (ch_k0 ho) dx_X1_derives_3 (Nat.le_of_ble_eq_true rfl) (Nat.le_of_ble_eq_true rfl) (g_Chart_cellAt ho h hj hi ?_)
  refine go_iload_n (i := 1) dx_X1_derives_6 rfl rfl ?_
  refine go_lushr dx_X1_derives_7 ?_
  refine go_lconst (x := 1) dx_X1_derives_8 rfl ?_
  refine go_land dx_X1_derives_9 ?_
  refine go_asL (y := (b01 ((mk 62 (fun x => dp R pl x i j)).testBit x = true))) (by exact bw_tstb (mk_63 62 _ (by decide)) hx) ?_
  refine go_lconst (x := 0) dx_X1_derives_10 rfl ?_
  refine go_bl_eq (tgt := 19) dx_X1_derives_11 dx_X1_derives_12 rfl (fun c11 => ?_) (fun c11 => ?_)
  · refine go_iconst dx_X1_derives_19 ?_
    refine go_zreturn dx_X1_derives_20 rfl (by first | exact Or.inl rfl | exact Or.inr rfl | assumption | omega) (Nat.le_refl _) (Nat.le_refl _) ?_
    first | (rw [b01_t ((dp_bit hR).mp c11)] at hQ; exact hQ) | (rw [b01_f (fun q => c11 ((dp_bit hR).mpr q))] at hQ; exact hQ)
  · refine go_iconst dx_X1_derives_15 ?_
    refine go_goto (tgt := 20) dx_X1_derives_16 rfl ?_
    refine go_zreturn dx_X1_derives_20 rfl (by first | exact Or.inl rfl | exact Or.inr rfl | assumption | omega) (Nat.le_refl _) (Nat.le_refl _) ?_
    first | (rw [b01_t ((dp_bit hR).mp c11)] at hQ; exact hQ) | (rw [b01_f (fun q => c11 ((dp_bit hR).mpr q))] at hQ; exact hQ)
theorem g_Chart_endsFrom {x i : Nat} (ho : ch_ok o al) (hR : ∀ r, rl_ok (R r)) (h : ct_at δ o al R pl n) (hx : x < 64) (hi : i ≤ n) (hQ : Q [vv_I (mk 15 (fun j => j ≤ n ∧ dp R pl x i j) : Int)] go_φ δ) :
    Go E (d + 3) (0, 0) mx_X1_endsFrom go_φ 0 [(0, vv_A o), (1, vv_I (x : Int)), (2, vv_I (i : Int))] [] δ Q := by
  have h5 := h.2.1
  have h14 := h.2.2.1
  have loop := lp_up (X := Unit) (hi := n - i) (I := fun _ _ => True)
    (G := fun k _ => Go E (d + 3) (0, 0) mx_X1_endsFrom go_φ 7 [(0, vv_A o), (1, vv_I (x : Int)), (2, vv_I (i : Int)), (3, vv_I (mk 15 (fun j => j < i + 1 + k ∧ dp R pl x i j) : Int)), (4, vv_I ((i + 1 + k : Nat) : Int))] [] δ Q)
    (fun k _ hk _ ih => by
      have h31 := mk_31 15 (fun j => j < i + 1 + k ∧ dp R pl x i j) (by decide)
      refine go_iload dx_X1_endsFrom_7 rfl ?_
      refine go_aload_n (i := 0) dx_X1_endsFrom_9 rfl rfl ?_
      refine go_getI fs_X1_43 (Or.inl rfl) (ch_k0 ho) dx_X1_endsFrom_10 ?_
      refine go_asI (y := (n : Int)) (by exact h5) ?_
      refine go_icmp_gt (tgt := 40) dx_X1_endsFrom_13 rfl (by omega) (by omega) (fun c13 => by exact absurd c13 (by omega)) (fun c13 => ?_)
      refine go_aload_n (i := 0) dx_X1_endsFrom_16 rfl rfl ?_
      refine go_iload_n (i := 1) dx_X1_endsFrom_17 rfl rfl ?_
      refine go_iload_n (i := 2) dx_X1_endsFrom_18 rfl rfl ?_
      refine go_iload dx_X1_endsFrom_19 rfl ?_
      refine go_cV3 sv_X1_84 (ch_k0 ho) dx_X1_endsFrom_21 (Nat.le_of_ble_eq_true rfl) (Nat.le_of_ble_eq_true rfl) (g_Chart_derives ho hR h hx (by omega) hi ?_)
      refine go_b_eq (tgt := 34) dx_X1_endsFrom_24 rfl (fun c24 => ?_) (fun c24 => ?_)
      · refine go_iinc (lv' := [(0, vv_A o), (1, vv_I (x : Int)), (2, vv_I (i : Int)), (3, vv_I (mk 15 (fun j => j < i + 1 + k ∧ dp R pl x i j) : Int)), (4, vv_I (((i + 1 + k : Nat) : Int) + 1))]) dx_X1_endsFrom_34 rfl (by decide) rfl ?_
        refine go_goto (tgt := 7) dx_X1_endsFrom_37 rfl ?_
        have e : mk 15 (fun j => j < i + 1 + k ∧ dp R pl x i j) = mk 15 (fun j => j < i + 1 + (k + 1) ∧ dp R pl x i j) := mk_congr (fun y _ => ⟨fun q => ⟨by omega, q.2⟩, fun q => ⟨Nat.lt_of_le_of_ne (by omega) (fun z => c24 (by rw [← z]; exact q.2)), q.2⟩⟩)
        rw [e]
        exact ih () trivial
      · refine go_iload_n (i := 3) dx_X1_endsFrom_27 rfl rfl ?_
        refine go_iconst dx_X1_endsFrom_28 ?_
        refine go_iload dx_X1_endsFrom_29 rfl ?_
        refine go_ishl dx_X1_endsFrom_31 ?_
        refine go_asI (y := ((2 ^ (i + 1 + k) : Nat) : Int)) (by exact bv_bit (by omega)) ?_
        refine go_ior dx_X1_endsFrom_32 ?_
        refine go_asI (y := (mk 15 (fun j => j < i + 1 + (k + 1) ∧ dp R pl x i j) : Int)) (by rw [bv_orN h31 (bt_p31 (show i + 1 + k < 15 by omega) (by decide)), mk_one (show i + 1 + k < 15 by omega), mk_or]; exact congrArg _ (mk_congr (fun y _ => ⟨fun q => q.elim (fun z => ⟨by omega, z.2⟩) (fun z => ⟨by omega, by rw [← z]; exact c24⟩), fun q => by by_cases z : i + 1 + k = y; exact Or.inr z; exact Or.inl ⟨by omega, q.2⟩⟩))) ?_
        refine go_istore_n (i := 3) (lv' := [(0, vv_A o), (1, vv_I (x : Int)), (2, vv_I (i : Int)), (3, vv_I (mk 15 (fun j => j < i + 1 + (k + 1) ∧ dp R pl x i j) : Int)), (4, vv_I ((i + 1 + k : Nat) : Int))]) dx_X1_endsFrom_33 rfl (by decide) rfl ?_
        refine go_iinc (lv' := [(0, vv_A o), (1, vv_I (x : Int)), (2, vv_I (i : Int)), (3, vv_I (mk 15 (fun j => j < i + 1 + (k + 1) ∧ dp R pl x i j) : Int)), (4, vv_I (((i + 1 + k : Nat) : Int) + 1))]) dx_X1_endsFrom_34 rfl (by decide) rfl ?_
        refine go_goto (tgt := 7) dx_X1_endsFrom_37 rfl ?_
        exact ih () trivial
    ) (fun _ _ => by
      have e : mk 15 (fun j => j < i + 1 + (n - i) ∧ dp R pl x i j) = mk 15 (fun j => j ≤ n ∧ dp R pl x i j) := mk_congr (fun y _ => ⟨fun q => ⟨by omega, q.2⟩, fun q => ⟨by omega, q.2⟩⟩)
      refine go_iload dx_X1_endsFrom_7 rfl ?_
      refine go_aload_n (i := 0) dx_X1_endsFrom_9 rfl rfl ?_
      refine go_getI fs_X1_43 (Or.inl rfl) (ch_k0 ho) dx_X1_endsFrom_10 ?_
      refine go_asI (y := (n : Int)) (by exact h5) ?_
      refine go_icmp_gt (tgt := 40) dx_X1_endsFrom_13 rfl (by omega) (by omega) (fun c13 => ?_) (fun c13 => by exact absurd c13 (by omega))
      refine go_iload_n (i := 3) dx_X1_endsFrom_40 rfl rfl ?_
      refine go_ireturn dx_X1_endsFrom_41 rfl (Nat.le_refl _) (Nat.le_refl _) ?_
      rw [e]
      exact hQ
    )
  refine go_iconst dx_X1_endsFrom_0 ?_
  refine go_istore_n (i := 3) (lv' := [(0, vv_A o), (1, vv_I (x : Int)), (2, vv_I (i : Int)), (3, vv_I 0)]) dx_X1_endsFrom_1 rfl (by decide) rfl ?_
  refine go_iload_n (i := 2) dx_X1_endsFrom_2 rfl rfl ?_
  refine go_iconst dx_X1_endsFrom_3 ?_
  refine go_iadd dx_X1_endsFrom_4 ?_
  refine go_istore (lv' := [(0, vv_A o), (1, vv_I (x : Int)), (2, vv_I (i : Int)), (3, vv_I 0), (4, vv_I ((i + 1 + 0 : Nat) : Int))]) dx_X1_endsFrom_5 (by decide) rfl ?_
  have e : mk 15 (fun j => j < i + 1 + 0 ∧ dp R pl x i j) = 0 := mk_zero (fun y _ q => by have := dp_lt q.2; omega)
  have k := loop 0 () (Nat.zero_le _) trivial
  rw [e] at k
  exact k
end GCHART
