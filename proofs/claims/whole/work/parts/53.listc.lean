/-! the class's listing of a tree -/
def ndv (nd : tN) (q : Nat) : Int := if q = 0 then (nd.1 : Int) else if q = 1 then (nd.2.1 : Int) else if q = 2 then (nd.2.2.1 : Int) else if q = 3 then nd.2.2.2.1 else nd.2.2.2.2
def ln_at (δ : Nat → Nat → Int) (ns : List tN) : Prop := δ 56 4 = (ns.length : Int) ∧ ∀ k (h : k < ns.length), ∀ q, q < 5 → δ 57 (5 * k + q) = ndv ns[k] q
def lsx (δ : Nat → Nat → Int) : List tI → Prop
  | [] => True
  | it :: s => (δ 58 (5 * s.length) = (it.1 : Int) ∧ δ 58 (5 * s.length + 1) = (it.2.1 : Int) ∧ δ 58 (5 * s.length + 2) = (it.2.2.1 : Int) ∧ δ 58 (5 * s.length + 3) = (it.2.2.2.1 : Int) ∧ δ 58 (5 * s.length + 4) = it.2.2.2.2.1 ∧ δ 59 s.length = (it.2.2.2.2.2 : Int)) ∧ lsx δ s
def ls_at (δ : Nat → Nat → Int) (s : List tI) : Prop := δ 56 7 = (s.length : Int) ∧ lsx δ s
theorem lsx_fr {δ δ' : Nat → Nat → Int} {s : List tI} (h : lsx δ s) (f : ∀ c j, (c = 58 ∧ j < 5 * s.length) ∨ (c = 59 ∧ j < s.length) → δ' c j = δ c j) : lsx δ' s := by
  induction s with
  | nil => trivial
  | cons it s ih =>
    obtain ⟨⟨h1, h2, h3, h4, h5, h6⟩, h7⟩ := h
    rw [List.length_cons] at f
    exact ⟨⟨by rw [f _ _ (by omega)]; exact h1, by rw [f _ _ (by omega)]; exact h2, by rw [f _ _ (by omega)]; exact h3, by rw [f _ _ (by omega)]; exact h4, by rw [f _ _ (by omega)]; exact h5, by rw [f _ _ (by omega)]; exact h6⟩, ih h7 (fun c j hc => f c j (by omega))⟩
theorem ln_fr {δ δ' : Nat → Nat → Int} {ns : List tN} (h : ln_at δ ns) (f : ∀ c j, c = 57 ∨ (c = 56 ∧ j = 4) → δ' c j = δ c j) : ln_at δ' ns :=
  ⟨by rw [f _ _ (by omega)]; exact h.1, fun k hk q hq => by rw [f _ _ (by omega)]; exact h.2 k hk q hq⟩
/-- the node that is made: its symbol, span, what is aside, the node above, the number -/
def lc_at (δ : Nat → Nat → Int) (x i j S : Nat) (up : Int) (num : Nat) : Prop := δ 56 8 = (x : Int) ∧ δ 56 9 = (i : Int) ∧ δ 56 10 = (j : Int) ∧ δ 56 11 = (S : Int) ∧ δ 56 12 = up ∧ δ 56 13 = (num : Int)
theorem lc_fr {δ δ' : Nat → Nat → Int} {x i j S num : Nat} {up : Int} (h : lc_at δ x i j S up num) (f : ∀ q, 8 ≤ q → q ≤ 13 → δ' 56 q = δ 56 q) : lc_at δ' x i j S up num := by
  obtain ⟨h1, h2, h3, h4, h5, h6⟩ := h
  exact ⟨by rw [f _ (by decide) (by decide)]; exact h1, by rw [f _ (by decide) (by decide)]; exact h2, by rw [f _ (by decide) (by decide)]; exact h3, by rw [f _ (by decide) (by decide)]; exact h4, by rw [f _ (by decide) (by decide)]; exact h5, by rw [f _ (by decide) (by decide)]; exact h6⟩
/-- what the listing rests on -/
def lb_at (δ : Nat → Nat → Int) (K : sK) : Prop := td_at δ 3 K ∧ bi_at δ 33 K.1 ∧ ft_at δ 52 false K.1 (plw K.2.2) K.2.2.length ∧ δ 52 2 = 0
theorem tvF_fr {δ δ' : Nat → Nat → Int} {o ns n w m : Nat} {al : Bool} {V B : Nat → Nat → Nat → Int} (h : tvForest_at δ o al V ns n w m B) (f : ∀ c j, c = o + 1 ∨ c = o + 3 → δ' c j = δ c j) : tvForest_at δ' o al V ns n w m B :=
  fun i j a b c => ⟨fun x hx => by rw [f _ _ (Or.inl rfl)]; exact (h i j a b c).1 x hx, fun x hx => by rw [f _ _ (Or.inr rfl)]; exact (h i j a b c).2 x hx⟩
theorem lb_fr {δ δ' : Nat → Nat → Int} {K : sK} (h : lb_at δ K) (f : ∀ c j, c < 56 → c ≠ 43 → δ' c j = δ c j) : lb_at δ' K :=
  ⟨td_fr3 h.1 (fun c j hc => f c j (by omega) (by omega)), bi_fr h.2.1 (fun c j a b => f c j (by omega) (by omega)), tvF_fr h.2.2.1 (fun c j hc => f c j (by omega) (by omega)), by rw [f _ _ (by decide) (by decide)]; exact h.2.2.2⟩
theorem gP_get {R : Nat → List Nat} {r k : Nat} (hr : r < 16) (hk : k + 2 < (R r).length) : (gP R)[(gp R r).length + k]? = some (pr_e (gh R r).length r (R r) k) := by
  rw [gP_eq]
  obtain ⟨t, ht⟩ := gp_mono (R := R) (n := r + 1) (m := 16) (by omega)
  have e : gp R (r + 1) = gp R r ++ pr_l (gh R r).length r (R r) := rfl
  rw [ht, e, List.append_assoc, List.getElem?_append_right (by omega), Nat.add_sub_cancel_left]
  have hl : (pr_l (gh R r).length r (R r)).length = (R r).length - 2 := by unfold pr_l; rw [List.length_map, List.length_range]
  rw [List.getElem?_append_left (by omega)]
  unfold pr_l
  rw [List.getElem?_map, List.getElem?_range (by omega)]
  rfl
section GLISTC
variable {E : go_E} {d : Nat} {δ : Nat → Nat → Int} {Q : List go_V → go_F → (Nat → Nat → Int) → Prop} {K : sK}
theorem g_Listing_tell {ns : List tN} {k q : Int} (h : ln_at δ ns) (hl : ns.length ≤ 216) (hk : go_iI k) (hq : go_iI q) (h1 : ∀ (a b : Nat) (ha : a < ns.length), k = (a : Int) → q = (b : Int) → b < 5 → Q [vv_I (ndv ns[a] b)] go_φ δ) (h0 : ¬ (0 ≤ k ∧ k < ns.length ∧ 0 ≤ q ∧ q < 5) → Q [vv_I (-2)] go_φ δ) :
    Go E (d + 1) (0, 0) mx_X3_tell go_φ 0 [(0, vv_A 56), (1, vv_I k), (2, vv_I q)] [] δ Q := by
  refine go_iload_n (i := 1) dx_X3_tell_0 rfl rfl ?_
  refine go_if_lt (tgt := 25) dx_X3_tell_1 rfl (by omega) (fun c1 => ?_) (fun c1 => ?_)
  · refine go_iconst dx_X3_tell_25 ?_
    refine go_istore_n (i := 3) (lv' := [(0, vv_A 56), (1, vv_I k), (2, vv_I q), (3, vv_I 0)]) dx_X3_tell_26 rfl (by decide) rfl ?_
    refine go_iload_n (i := 3) dx_X3_tell_27 rfl rfl ?_
    refine go_if_eq (tgt := 46) dx_X3_tell_28 rfl (by omega) (fun c28 => ?_) (fun c28 => absurd c28 (by decide))
    refine go_bipush dx_X3_tell_46 rfl ?_
    refine go_ireturn dx_X3_tell_48 rfl (Nat.le_refl _) (Nat.le_refl _) ?_
    exact h0 (by omega)
  · refine go_iload_n (i := 1) dx_X3_tell_4 rfl rfl ?_
    refine go_aload_n (i := 0) dx_X3_tell_5 rfl rfl ?_
    refine go_getI fs_X3_40 (Or.inl rfl) (go_ok rfl rfl) dx_X3_tell_6 ?_
    refine go_asI (y := (ns.length : Int)) (by exact h.1) ?_
    refine go_icmp_ge (tgt := 25) dx_X3_tell_9 rfl (by omega) (by omega) (fun c9 => ?_) (fun c9 => ?_)
    · refine go_iconst dx_X3_tell_25 ?_
      refine go_istore_n (i := 3) (lv' := [(0, vv_A 56), (1, vv_I k), (2, vv_I q), (3, vv_I 0)]) dx_X3_tell_26 rfl (by decide) rfl ?_
      refine go_iload_n (i := 3) dx_X3_tell_27 rfl rfl ?_
      refine go_if_eq (tgt := 46) dx_X3_tell_28 rfl (by omega) (fun c28 => ?_) (fun c28 => absurd c28 (by decide))
      refine go_bipush dx_X3_tell_46 rfl ?_
      refine go_ireturn dx_X3_tell_48 rfl (Nat.le_refl _) (Nat.le_refl _) ?_
      exact h0 (by omega)
    · refine go_iload_n (i := 2) dx_X3_tell_12 rfl rfl ?_
      refine go_if_lt (tgt := 25) dx_X3_tell_13 rfl (by omega) (fun c13 => ?_) (fun c13 => ?_)
      · refine go_iconst dx_X3_tell_25 ?_
        refine go_istore_n (i := 3) (lv' := [(0, vv_A 56), (1, vv_I k), (2, vv_I q), (3, vv_I 0)]) dx_X3_tell_26 rfl (by decide) rfl ?_
        refine go_iload_n (i := 3) dx_X3_tell_27 rfl rfl ?_
        refine go_if_eq (tgt := 46) dx_X3_tell_28 rfl (by omega) (fun c28 => ?_) (fun c28 => absurd c28 (by decide))
        refine go_bipush dx_X3_tell_46 rfl ?_
        refine go_ireturn dx_X3_tell_48 rfl (Nat.le_refl _) (Nat.le_refl _) ?_
        exact h0 (by omega)
      · refine go_iload_n (i := 2) dx_X3_tell_16 rfl rfl ?_
        refine go_iconst dx_X3_tell_17 ?_
        refine go_icmp_ge (tgt := 25) dx_X3_tell_18 rfl (by omega) (by omega) (fun c18 => ?_) (fun c18 => ?_)
        · refine go_iconst dx_X3_tell_25 ?_
          refine go_istore_n (i := 3) (lv' := [(0, vv_A 56), (1, vv_I k), (2, vv_I q), (3, vv_I 0)]) dx_X3_tell_26 rfl (by decide) rfl ?_
          refine go_iload_n (i := 3) dx_X3_tell_27 rfl rfl ?_
          refine go_if_eq (tgt := 46) dx_X3_tell_28 rfl (by omega) (fun c28 => ?_) (fun c28 => absurd c28 (by decide))
          refine go_bipush dx_X3_tell_46 rfl ?_
          refine go_ireturn dx_X3_tell_48 rfl (Nat.le_refl _) (Nat.le_refl _) ?_
          exact h0 (by omega)
        · refine go_iconst dx_X3_tell_21 ?_
          refine go_goto (tgt := 26) dx_X3_tell_22 rfl ?_
          refine go_istore_n (i := 3) (lv' := [(0, vv_A 56), (1, vv_I k), (2, vv_I q), (3, vv_I 1)]) dx_X3_tell_26 rfl (by decide) rfl ?_
          refine go_iload_n (i := 3) dx_X3_tell_27 rfl rfl ?_
          refine go_if_eq (tgt := 46) dx_X3_tell_28 rfl (by omega) (fun c28 => absurd c28 (by decide)) (fun c28 => ?_)
          obtain ⟨a, rfl⟩ : ∃ a : Nat, k = (a : Int) := ⟨k.toNat, by omega⟩
          obtain ⟨b, rfl⟩ : ∃ b : Nat, q = (b : Int) := ⟨q.toNat, by omega⟩
          have ha : a < ns.length := by omega
          refine go_aload_n (i := 0) dx_X3_tell_31 rfl rfl ?_
          refine go_getA (b := 57) fs_X3_23 rfl (go_ok rfl rfl) rfl dx_X3_tell_32 ?_
          refine go_iload_n (i := 1) dx_X3_tell_35 rfl rfl ?_
          refine go_iconst dx_X3_tell_36 ?_
          refine go_imul dx_X3_tell_37 ?_
          refine go_iload_n (i := 2) dx_X3_tell_38 rfl rfl ?_
          refine go_iadd dx_X3_tell_39 ?_
          refine go_cS2 ss_X3_85 dx_X3_tell_40 (Nat.le_of_ble_eq_true rfl) (Nat.le_of_ble_eq_true rfl) (g_intAtV (i := (5 * a + b)) (v := ((ndv (ns[a]'ha) b))) (go_ok rfl rfl) (by omega) (show (5 * a + b) < 1080 by omega) (by exact h.2 a ha b (by omega)) ?_)
          refine go_goto (tgt := 48) dx_X3_tell_43 rfl ?_
          refine go_ireturn dx_X3_tell_48 rfl (Nat.le_refl _) (Nat.le_refl _) ?_
          exact h1 a b ha rfl rfl (by omega)
theorem g_Listing_tellN {ns : List tN} {a b : Nat} (h : ln_at δ ns) (hl : ns.length ≤ 216) (ha : a < ns.length) (hb : b < 5) (hQ : Q [vv_I (ndv (ns[a]'ha) b)] go_φ δ) :
    Go E (d + 1) (0, 0) mx_X3_tell go_φ 0 [(0, vv_A 56), (1, vv_I (a : Int)), (2, vv_I (b : Int))] [] δ Q := by
  refine g_Listing_tell h hl (by omega) (by omega) (fun a' b' ha' e1 e2 _ => ?_) (fun q => absurd (by omega) q)
  have : a' = a := by omega
  subst this
  have : b' = b := by omega
  subst this
  exact hQ
theorem g_Listing_putWaiting {s : List tI} {x i j b num : Nat} {up : Int} (h : ls_at δ s) (hl : s.length ≤ 18) (hr : δ 56 13 = (num : Int))
    (hQ : ∀ δ', ls_at δ' ((x, i, j, b, up, num) :: s) → (∀ c q, c ≠ 58 → c ≠ 59 → (c = 56 → q ≠ 7) → δ' c q = δ c q) → Q [] go_φ δ') :
    Go E (d + 1) (0, 0) mx_X3_putWaiting go_φ 0 [(0, vv_A 56), (1, vv_I (x : Int)), (2, vv_I (i : Int)), (3, vv_I (j : Int)), (4, vv_I (b : Int)), (5, vv_I up)] [] δ Q := by
  obtain ⟨h1, h2⟩ := h
  refine go_aload_n (i := 0) dx_X3_putWaiting_0 rfl rfl ?_
  refine go_getI fs_X3_44 (Or.inl rfl) (go_ok rfl rfl) dx_X3_putWaiting_1 ?_
  refine go_asI (y := (s.length : Int)) (by exact h1) ?_
  refine go_iconst dx_X3_putWaiting_4 ?_
  refine go_imul dx_X3_putWaiting_5 ?_
  refine go_istore (lv' := [(0, vv_A 56), (1, vv_I (x : Int)), (2, vv_I (i : Int)), (3, vv_I (j : Int)), (4, vv_I (b : Int)), (5, vv_I up), (6, vv_I ((s.length : Int) * 5))]) dx_X3_putWaiting_6 (by decide) rfl ?_
  refine go_aload_n (i := 0) dx_X3_putWaiting_8 rfl rfl ?_
  refine go_getA (b := 58) fs_X3_27 rfl (go_ok rfl rfl) rfl dx_X3_putWaiting_9 ?_
  refine go_iload dx_X3_putWaiting_12 rfl ?_
  refine go_iload_n (i := 1) dx_X3_putWaiting_14 rfl rfl ?_
  refine go_cS3 ss_X3_89 dx_X3_putWaiting_15 (Nat.le_of_ble_eq_true rfl) (Nat.le_of_ble_eq_true rfl) (g_putIntN (i := 5 * s.length) (go_ok rfl rfl) (by omega) (show 5 * s.length < 95 by omega) ?_)
  refine go_aload_n (i := 0) dx_X3_putWaiting_18 rfl rfl ?_
  refine go_getA (b := 58) fs_X3_27 rfl (go_ok rfl rfl) rfl dx_X3_putWaiting_19 ?_
  refine go_iload dx_X3_putWaiting_22 rfl ?_
  refine go_iconst dx_X3_putWaiting_24 ?_
  refine go_iadd dx_X3_putWaiting_25 ?_
  refine go_iload_n (i := 2) dx_X3_putWaiting_26 rfl rfl ?_
  refine go_cS3 ss_X3_89 dx_X3_putWaiting_27 (Nat.le_of_ble_eq_true rfl) (Nat.le_of_ble_eq_true rfl) (g_putIntN (i := 5 * s.length + 1) (go_ok rfl rfl) (by omega) (show 5 * s.length + 1 < 95 by omega) ?_)
  refine go_aload_n (i := 0) dx_X3_putWaiting_30 rfl rfl ?_
  refine go_getA (b := 58) fs_X3_27 rfl (go_ok rfl rfl) rfl dx_X3_putWaiting_31 ?_
  refine go_iload dx_X3_putWaiting_34 rfl ?_
  refine go_iconst dx_X3_putWaiting_36 ?_
  refine go_iadd dx_X3_putWaiting_37 ?_
  refine go_iload_n (i := 3) dx_X3_putWaiting_38 rfl rfl ?_
  refine go_cS3 ss_X3_89 dx_X3_putWaiting_39 (Nat.le_of_ble_eq_true rfl) (Nat.le_of_ble_eq_true rfl) (g_putIntN (i := 5 * s.length + 2) (go_ok rfl rfl) (by omega) (show 5 * s.length + 2 < 95 by omega) ?_)
  refine go_aload_n (i := 0) dx_X3_putWaiting_42 rfl rfl ?_
  refine go_getA (b := 58) fs_X3_27 rfl (go_ok rfl rfl) rfl dx_X3_putWaiting_43 ?_
  refine go_iload dx_X3_putWaiting_46 rfl ?_
  refine go_iconst dx_X3_putWaiting_48 ?_
  refine go_iadd dx_X3_putWaiting_49 ?_
  refine go_iload dx_X3_putWaiting_50 rfl ?_
  refine go_cS3 ss_X3_89 dx_X3_putWaiting_52 (Nat.le_of_ble_eq_true rfl) (Nat.le_of_ble_eq_true rfl) (g_putIntN (i := 5 * s.length + 3) (go_ok rfl rfl) (by omega) (show 5 * s.length + 3 < 95 by omega) ?_)
  refine go_aload_n (i := 0) dx_X3_putWaiting_55 rfl rfl ?_
  refine go_getA (b := 58) fs_X3_27 rfl (go_ok rfl rfl) rfl dx_X3_putWaiting_56 ?_
  refine go_iload dx_X3_putWaiting_59 rfl ?_
  refine go_iconst dx_X3_putWaiting_61 ?_
  refine go_iadd dx_X3_putWaiting_62 ?_
  refine go_iload dx_X3_putWaiting_63 rfl ?_
  refine go_cS3 ss_X3_89 dx_X3_putWaiting_65 (Nat.le_of_ble_eq_true rfl) (Nat.le_of_ble_eq_true rfl) (g_putIntN (i := 5 * s.length + 4) (go_ok rfl rfl) (by omega) (show 5 * s.length + 4 < 95 by omega) ?_)
  refine go_aload_n (i := 0) dx_X3_putWaiting_68 rfl rfl ?_
  refine go_getA (b := 59) fs_X3_30 rfl (go_ok rfl rfl) rfl dx_X3_putWaiting_69 ?_
  refine go_aload_n (i := 0) dx_X3_putWaiting_72 rfl rfl ?_
  refine go_getI fs_X3_44 (Or.inl rfl) (go_ok rfl rfl) dx_X3_putWaiting_73 ?_
  refine go_asI (y := (s.length : Int)) (by simp only [wr]; exact h1) ?_
  refine go_aload_n (i := 0) dx_X3_putWaiting_76 rfl rfl ?_
  refine go_getL fs_X3_47 rfl (go_ok rfl rfl) dx_X3_putWaiting_77 ?_
  refine go_asL (y := (num : Int)) (by simp only [wr]; exact hr) ?_
  refine go_cS3 ss_X3_93 dx_X3_putWaiting_80 (Nat.le_of_ble_eq_true rfl) (Nat.le_of_ble_eq_true rfl) (g_putLongN (i := s.length) (go_ok rfl rfl) (by omega) (show s.length < 19 by omega) ?_)
  refine go_aload_n (i := 0) dx_X3_putWaiting_83 rfl rfl ?_
  refine go_dup dx_X3_putWaiting_84 rfl ?_
  refine go_getI fs_X3_44 (Or.inl rfl) (go_ok rfl rfl) dx_X3_putWaiting_85 ?_
  refine go_asI (y := (s.length : Int)) (by simp only [wr]; exact h1) ?_
  refine go_iconst dx_X3_putWaiting_88 ?_
  refine go_iadd dx_X3_putWaiting_89 ?_
  refine go_putI fp_X3_44 rfl rfl (go_ok rfl rfl) dx_X3_putWaiting_90 ?_
  refine go_vreturn dx_X3_putWaiting_93 rfl (Nat.le_refl _) (Nat.le_refl _) ?_
  refine hQ _ ⟨by rw [wr_eq, List.length_cons]; omega, ⟨⟨?_, ?_, ?_, ?_, ?_, ?_⟩, ?_⟩⟩ (fun c q a1 a2 a3 => ?_)
  · rw [wr_a _ _ _ _ (by decide), wr_a _ _ _ _ (by decide), wr_i _ _ _ _ (by omega), wr_i _ _ _ _ (by omega), wr_i _ _ _ _ (by omega), wr_i _ _ _ _ (by omega), wr_eq]
  · rw [wr_a _ _ _ _ (by decide), wr_a _ _ _ _ (by decide), wr_i _ _ _ _ (by omega), wr_i _ _ _ _ (by omega), wr_i _ _ _ _ (by omega), wr_eq]
  · rw [wr_a _ _ _ _ (by decide), wr_a _ _ _ _ (by decide), wr_i _ _ _ _ (by omega), wr_i _ _ _ _ (by omega), wr_eq]
  · rw [wr_a _ _ _ _ (by decide), wr_a _ _ _ _ (by decide), wr_i _ _ _ _ (by omega), wr_eq]
  · rw [wr_a _ _ _ _ (by decide), wr_a _ _ _ _ (by decide), wr_eq]
  · rw [wr_a _ _ _ _ (by decide), wr_eq]
  · refine lsx_fr h2 (fun c q hc => ?_)
    rw [wr_n (by omega), wr_n (by omega), wr_n (by omega), wr_n (by omega), wr_n (by omega), wr_n (by omega), wr_n (by omega)]
  · rw [wr_n (by omega), wr_n (by omega), wr_n (by omega), wr_n (by omega), wr_n (by omega), wr_n (by omega), wr_n (by omega)]
theorem g_Listing_takeWaiting {s : List tI} {it : tI} (h : ls_at δ (it :: s)) (hl : s.length ≤ 18) (hx : it.1 < 8) (hb : it.2.2.2.1 < 256)
    (hQ : ∀ δ', ls_at δ' s → lc_at δ' it.1 it.2.1 it.2.2.1 (it.2.2.2.1 ||| 2 ^ it.1) it.2.2.2.2.1 it.2.2.2.2.2 → (∀ c q, (c = 56 → q ≠ 7 ∧ q ≠ 8 ∧ q ≠ 9 ∧ q ≠ 10 ∧ q ≠ 11 ∧ q ≠ 12 ∧ q ≠ 13) → δ' c q = δ c q) → Q [] go_φ δ') :
    Go E (d + 1) (0, 0) mx_X3_takeWaiting go_φ 0 [(0, vv_A 56)] [] δ Q := by
  obtain ⟨h1, ⟨g1, g2, g3, g4, g5, g6⟩, h2⟩ := h
  rw [List.length_cons] at h1
  refine go_aload_n (i := 0) dx_X3_takeWaiting_0 rfl rfl ?_
  refine go_dup dx_X3_takeWaiting_1 rfl ?_
  refine go_getI fs_X3_44 (Or.inl rfl) (go_ok rfl rfl) dx_X3_takeWaiting_2 ?_
  refine go_asI (y := ((s.length + 1 : Nat) : Int)) (by exact h1) ?_
  refine go_iconst dx_X3_takeWaiting_5 ?_
  refine go_isub dx_X3_takeWaiting_6 ?_
  refine go_asI (y := (s.length : Int)) (by omega) ?_
  refine go_putI fp_X3_44 rfl rfl (go_ok rfl rfl) dx_X3_takeWaiting_7 ?_
  refine go_aload_n (i := 0) dx_X3_takeWaiting_10 rfl rfl ?_
  refine go_getI fs_X3_44 (Or.inl rfl) (go_ok rfl rfl) dx_X3_takeWaiting_11 ?_
  refine go_asI (y := (s.length : Int)) (by exact wr_eq _ _ _ _) ?_
  refine go_iconst dx_X3_takeWaiting_14 ?_
  refine go_imul dx_X3_takeWaiting_15 ?_
  refine go_istore_n (i := 1) (lv' := [(0, vv_A 56), (1, vv_I ((s.length : Int) * 5))]) dx_X3_takeWaiting_16 rfl (by decide) rfl ?_
  refine go_aload_n (i := 0) dx_X3_takeWaiting_17 rfl rfl ?_
  refine go_aload_n (i := 0) dx_X3_takeWaiting_18 rfl rfl ?_
  refine go_getA (b := 58) fs_X3_27 rfl (go_ok rfl rfl) rfl dx_X3_takeWaiting_19 ?_
  refine go_iload_n (i := 1) dx_X3_takeWaiting_22 rfl rfl ?_
  refine go_cS2 ss_X3_85 dx_X3_takeWaiting_23 (Nat.le_of_ble_eq_true rfl) (Nat.le_of_ble_eq_true rfl) (g_intAtV (i := (5 * s.length)) (v := ((it.1 : Int))) (go_ok rfl rfl) (by omega) (show (5 * s.length) < 95 by omega) (by simp only [wr]; exact g1) ?_)
  refine go_putI fp_X3_97 rfl rfl (go_ok rfl rfl) dx_X3_takeWaiting_26 ?_
  refine go_aload_n (i := 0) dx_X3_takeWaiting_29 rfl rfl ?_
  refine go_aload_n (i := 0) dx_X3_takeWaiting_30 rfl rfl ?_
  refine go_getA (b := 58) fs_X3_27 rfl (go_ok rfl rfl) rfl dx_X3_takeWaiting_31 ?_
  refine go_iload_n (i := 1) dx_X3_takeWaiting_34 rfl rfl ?_
  refine go_iconst dx_X3_takeWaiting_35 ?_
  refine go_iadd dx_X3_takeWaiting_36 ?_
  refine go_cS2 ss_X3_85 dx_X3_takeWaiting_37 (Nat.le_of_ble_eq_true rfl) (Nat.le_of_ble_eq_true rfl) (g_intAtV (i := (5 * s.length + 1)) (v := ((it.2.1 : Int))) (go_ok rfl rfl) (by omega) (show (5 * s.length + 1) < 95 by omega) (by simp only [wr]; exact g2) ?_)
  refine go_putI fp_X3_100 rfl rfl (go_ok rfl rfl) dx_X3_takeWaiting_40 ?_
  refine go_aload_n (i := 0) dx_X3_takeWaiting_43 rfl rfl ?_
  refine go_aload_n (i := 0) dx_X3_takeWaiting_44 rfl rfl ?_
  refine go_getA (b := 58) fs_X3_27 rfl (go_ok rfl rfl) rfl dx_X3_takeWaiting_45 ?_
  refine go_iload_n (i := 1) dx_X3_takeWaiting_48 rfl rfl ?_
  refine go_iconst dx_X3_takeWaiting_49 ?_
  refine go_iadd dx_X3_takeWaiting_50 ?_
  refine go_cS2 ss_X3_85 dx_X3_takeWaiting_51 (Nat.le_of_ble_eq_true rfl) (Nat.le_of_ble_eq_true rfl) (g_intAtV (i := (5 * s.length + 2)) (v := ((it.2.2.1 : Int))) (go_ok rfl rfl) (by omega) (show (5 * s.length + 2) < 95 by omega) (by simp only [wr]; exact g3) ?_)
  refine go_putI fp_X3_103 rfl rfl (go_ok rfl rfl) dx_X3_takeWaiting_54 ?_
  refine go_aload_n (i := 0) dx_X3_takeWaiting_57 rfl rfl ?_
  refine go_aload_n (i := 0) dx_X3_takeWaiting_58 rfl rfl ?_
  refine go_getA (b := 58) fs_X3_27 rfl (go_ok rfl rfl) rfl dx_X3_takeWaiting_59 ?_
  refine go_iload_n (i := 1) dx_X3_takeWaiting_62 rfl rfl ?_
  refine go_iconst dx_X3_takeWaiting_63 ?_
  refine go_iadd dx_X3_takeWaiting_64 ?_
  refine go_cS2 ss_X3_85 dx_X3_takeWaiting_65 (Nat.le_of_ble_eq_true rfl) (Nat.le_of_ble_eq_true rfl) (g_intAtV (i := (5 * s.length + 3)) (v := ((it.2.2.2.1 : Int))) (go_ok rfl rfl) (by omega) (show (5 * s.length + 3) < 95 by omega) (by simp only [wr]; exact g4) ?_)
  refine go_iconst dx_X3_takeWaiting_68 ?_
  refine go_aload_n (i := 0) dx_X3_takeWaiting_69 rfl rfl ?_
  refine go_getI fs_X3_97 (Or.inl rfl) (go_ok rfl rfl) dx_X3_takeWaiting_70 ?_
  refine go_asI (y := (it.1 : Int)) (by simp [wr]) ?_
  refine go_ishl dx_X3_takeWaiting_73 ?_
  refine go_asI (y := ((2 ^ it.1 : Nat) : Int)) (by exact bv_bit (by omega)) ?_
  refine go_ior dx_X3_takeWaiting_74 ?_
  refine go_asI (y := ((it.2.2.2.1 ||| 2 ^ it.1 : Nat) : Int)) (by exact bv_orN (by omega) (bt_p31 hx (by decide))) ?_
  refine go_putI fp_X3_106 rfl rfl (go_ok rfl rfl) dx_X3_takeWaiting_75 ?_
  refine go_aload_n (i := 0) dx_X3_takeWaiting_78 rfl rfl ?_
  refine go_aload_n (i := 0) dx_X3_takeWaiting_79 rfl rfl ?_
  refine go_getA (b := 58) fs_X3_27 rfl (go_ok rfl rfl) rfl dx_X3_takeWaiting_80 ?_
  refine go_iload_n (i := 1) dx_X3_takeWaiting_83 rfl rfl ?_
  refine go_iconst dx_X3_takeWaiting_84 ?_
  refine go_iadd dx_X3_takeWaiting_85 ?_
  refine go_cS2 ss_X3_85 dx_X3_takeWaiting_86 (Nat.le_of_ble_eq_true rfl) (Nat.le_of_ble_eq_true rfl) (g_intAtV (i := (5 * s.length + 4)) (v := ((it.2.2.2.2.1))) (go_ok rfl rfl) (by omega) (show (5 * s.length + 4) < 95 by omega) (by simp only [wr]; exact g5) ?_)
  refine go_putI fp_X3_109 rfl rfl (go_ok rfl rfl) dx_X3_takeWaiting_89 ?_
  refine go_aload_n (i := 0) dx_X3_takeWaiting_92 rfl rfl ?_
  refine go_aload_n (i := 0) dx_X3_takeWaiting_93 rfl rfl ?_
  refine go_getA (b := 59) fs_X3_30 rfl (go_ok rfl rfl) rfl dx_X3_takeWaiting_94 ?_
  refine go_aload_n (i := 0) dx_X3_takeWaiting_97 rfl rfl ?_
  refine go_getI fs_X3_44 (Or.inl rfl) (go_ok rfl rfl) dx_X3_takeWaiting_98 ?_
  refine go_asI (y := (s.length : Int)) (by simp [wr]) ?_
  refine go_cS2 ss_X3_112 dx_X3_takeWaiting_101 (Nat.le_of_ble_eq_true rfl) (Nat.le_of_ble_eq_true rfl) (g_longAtV (i := s.length) (v := ((it.2.2.2.2.2 : Int))) (go_ok rfl rfl) (by omega) (show s.length < 19 by omega) (by simp only [wr]; exact g6) ?_)
  refine go_putL fp_X3_47 rfl rfl (go_ok rfl rfl) dx_X3_takeWaiting_104 ?_
  refine go_vreturn dx_X3_takeWaiting_107 rfl (Nat.le_refl _) (Nat.le_refl _) ?_
  refine hQ _ ⟨by simp [wr], lsx_fr h2 (fun c q hc => ?_)⟩ ⟨by simp [wr], by simp [wr], by simp [wr], by simp [wr], by simp [wr], by simp [wr]⟩ (fun c q a => ?_)
  · rw [wr_n (by omega), wr_n (by omega), wr_n (by omega), wr_n (by omega), wr_n (by omega), wr_n (by omega), wr_n (by omega)]
  · rw [wr_n (by omega), wr_n (by omega), wr_n (by omega), wr_n (by omega), wr_n (by omega), wr_n (by omega), wr_n (by omega)]
theorem g_Listing_putNode {ns : List tN} {x i j S num r : Nat} {up : Int} (h : ln_at δ ns) (hl : ns.length ≤ 215) (hc : lc_at δ x i j S up num) (hup : up = -1 ∨ ∃ u : Nat, up = (u : Int) ∧ u < ns.length)
    (hQ : ∀ δ', ln_at δ' (ns ++ [(r, i, j, up, ldp ns up)]) → (∀ c q, c ≠ 57 → (c = 56 → q ≠ 4) → δ' c q = δ c q) → Q [vv_I (ns.length : Int)] go_φ δ') :
    Go E (d + 2) (0, 0) mx_X3_putNode go_φ 0 [(0, vv_A 56), (1, vv_I (r : Int))] [] δ Q := by
  obtain ⟨h1, h2⟩ := id h
  obtain ⟨c1, c2, c3, c4, c5, c6⟩ := hc
  have tail : ∀ dp : Int, dp = ldp ns up → ∀ δ1 : Nat → Nat → Int, δ1 = wr (wr (wr (wr δ 57 (5 * ns.length) (r : Int)) 57 (5 * ns.length + 1) (i : Int)) 57 (5 * ns.length + 2) (j : Int)) 57 (5 * ns.length + 3) up →
      Go E (d + 2) (0, 0) mx_X3_putNode go_φ 96 [(0, vv_A 56), (1, vv_I (r : Int)), (2, vv_I (ns.length : Int))] [vv_I dp, vv_I ((ns.length : Int) * 5 + 4), vv_A 57] δ1 Q := fun dp hdp δ1 e1 => by
    subst e1
    refine go_cS3 ss_X3_89 dx_X3_putNode_96 (Nat.le_of_ble_eq_true rfl) (Nat.le_of_ble_eq_true rfl) (g_putIntN (i := 5 * ns.length + 4) (go_ok rfl rfl) (by omega) (show 5 * ns.length + 4 < 1080 by omega) ?_)
    refine go_aload_n (i := 0) dx_X3_putNode_99 rfl rfl ?_
    refine go_dup dx_X3_putNode_100 rfl ?_
    refine go_getI fs_X3_40 (Or.inl rfl) (go_ok rfl rfl) dx_X3_putNode_101 ?_
    refine go_asI (y := (ns.length : Int)) (by simp only [wr]; exact h1) ?_
    refine go_iconst dx_X3_putNode_104 ?_
    refine go_iadd dx_X3_putNode_105 ?_
    refine go_putI fp_X3_40 rfl rfl (go_ok rfl rfl) dx_X3_putNode_106 ?_
    refine go_iload_n (i := 2) dx_X3_putNode_109 rfl rfl ?_
    refine go_ireturn dx_X3_putNode_110 rfl (Nat.le_refl _) (Nat.le_refl _) ?_
    refine hQ _ ⟨by rw [wr_eq, List.length_append, List.length_singleton]; omega, fun k hk q hq => ?_⟩ (fun c q a1 a2 => by rw [wr_n (by omega), wr_n (by omega), wr_n (by omega), wr_n (by omega), wr_n (by omega), wr_n (by omega)])
    rw [List.length_append, List.length_singleton] at hk
    by_cases e : k = ns.length
    · subst e
      rw [List.getElem_append_right (Nat.le_refl _)]
      simp only [Nat.sub_self, List.getElem_cons_zero]
      have hq5 : q = 0 ∨ q = 1 ∨ q = 2 ∨ q = 3 ∨ q = 4 := by omega
      rcases hq5 with rfl | rfl | rfl | rfl | rfl
      · rw [wr_a _ _ _ _ (by decide), wr_i _ _ _ _ (by omega), wr_i _ _ _ _ (by omega), wr_i _ _ _ _ (by omega), wr_i _ _ _ _ (by omega)]; exact wr_eq _ _ _ _
      · rw [wr_a _ _ _ _ (by decide), wr_i _ _ _ _ (by omega), wr_i _ _ _ _ (by omega), wr_i _ _ _ _ (by omega)]; exact wr_eq _ _ _ _
      · rw [wr_a _ _ _ _ (by decide), wr_i _ _ _ _ (by omega), wr_i _ _ _ _ (by omega)]; exact wr_eq _ _ _ _
      · rw [wr_a _ _ _ _ (by decide), wr_i _ _ _ _ (by omega)]; exact wr_eq _ _ _ _
      · rw [wr_a _ _ _ _ (by decide), ← hdp]; exact wr_eq _ _ _ _
    · rw [List.getElem_append_left (by omega), wr_a _ _ _ _ (by decide), wr_i _ _ _ _ (by omega), wr_i _ _ _ _ (by omega), wr_i _ _ _ _ (by omega), wr_i _ _ _ _ (by omega), wr_i _ _ _ _ (by omega)]
      exact h2 k (by omega) q hq
  refine go_aload_n (i := 0) dx_X3_putNode_0 rfl rfl ?_
  refine go_getI fs_X3_40 (Or.inl rfl) (go_ok rfl rfl) dx_X3_putNode_1 ?_
  refine go_asI (y := (ns.length : Int)) (by exact h1) ?_
  refine go_istore_n (i := 2) (lv' := [(0, vv_A 56), (1, vv_I (r : Int)), (2, vv_I (ns.length : Int))]) dx_X3_putNode_4 rfl (by decide) rfl ?_
  refine go_aload_n (i := 0) dx_X3_putNode_5 rfl rfl ?_
  refine go_getA (b := 57) fs_X3_23 rfl (go_ok rfl rfl) rfl dx_X3_putNode_6 ?_
  refine go_iload_n (i := 2) dx_X3_putNode_9 rfl rfl ?_
  refine go_iconst dx_X3_putNode_10 ?_
  refine go_imul dx_X3_putNode_11 ?_
  refine go_iload_n (i := 1) dx_X3_putNode_12 rfl rfl ?_
  refine go_cS3 ss_X3_89 dx_X3_putNode_13 (Nat.le_of_ble_eq_true rfl) (Nat.le_of_ble_eq_true rfl) (g_putIntN (i := 5 * ns.length) (go_ok rfl rfl) (by omega) (show 5 * ns.length < 1080 by omega) ?_)
  refine go_aload_n (i := 0) dx_X3_putNode_16 rfl rfl ?_
  refine go_getA (b := 57) fs_X3_23 rfl (go_ok rfl rfl) rfl dx_X3_putNode_17 ?_
  refine go_iload_n (i := 2) dx_X3_putNode_20 rfl rfl ?_
  refine go_iconst dx_X3_putNode_21 ?_
  refine go_imul dx_X3_putNode_22 ?_
  refine go_iconst dx_X3_putNode_23 ?_
  refine go_iadd dx_X3_putNode_24 ?_
  refine go_aload_n (i := 0) dx_X3_putNode_25 rfl rfl ?_
  refine go_getI fs_X3_100 (Or.inl rfl) (go_ok rfl rfl) dx_X3_putNode_26 ?_
  refine go_asI (y := (i : Int)) (by simp only [wr]; exact c2) ?_
  refine go_cS3 ss_X3_89 dx_X3_putNode_29 (Nat.le_of_ble_eq_true rfl) (Nat.le_of_ble_eq_true rfl) (g_putIntN (i := 5 * ns.length + 1) (go_ok rfl rfl) (by omega) (show 5 * ns.length + 1 < 1080 by omega) ?_)
  refine go_aload_n (i := 0) dx_X3_putNode_32 rfl rfl ?_
  refine go_getA (b := 57) fs_X3_23 rfl (go_ok rfl rfl) rfl dx_X3_putNode_33 ?_
  refine go_iload_n (i := 2) dx_X3_putNode_36 rfl rfl ?_
  refine go_iconst dx_X3_putNode_37 ?_
  refine go_imul dx_X3_putNode_38 ?_
  refine go_iconst dx_X3_putNode_39 ?_
  refine go_iadd dx_X3_putNode_40 ?_
  refine go_aload_n (i := 0) dx_X3_putNode_41 rfl rfl ?_
  refine go_getI fs_X3_103 (Or.inl rfl) (go_ok rfl rfl) dx_X3_putNode_42 ?_
  refine go_asI (y := (j : Int)) (by simp only [wr]; exact c3) ?_
  refine go_cS3 ss_X3_89 dx_X3_putNode_45 (Nat.le_of_ble_eq_true rfl) (Nat.le_of_ble_eq_true rfl) (g_putIntN (i := 5 * ns.length + 2) (go_ok rfl rfl) (by omega) (show 5 * ns.length + 2 < 1080 by omega) ?_)
  refine go_aload_n (i := 0) dx_X3_putNode_48 rfl rfl ?_
  refine go_getA (b := 57) fs_X3_23 rfl (go_ok rfl rfl) rfl dx_X3_putNode_49 ?_
  refine go_iload_n (i := 2) dx_X3_putNode_52 rfl rfl ?_
  refine go_iconst dx_X3_putNode_53 ?_
  refine go_imul dx_X3_putNode_54 ?_
  refine go_iconst dx_X3_putNode_55 ?_
  refine go_iadd dx_X3_putNode_56 ?_
  refine go_aload_n (i := 0) dx_X3_putNode_57 rfl rfl ?_
  refine go_getI fs_X3_109 (Or.inl rfl) (go_ok rfl rfl) dx_X3_putNode_58 ?_
  refine go_asI (y := up) (by simp only [wr]; exact c5) ?_
  refine go_cS3 ss_X3_89 dx_X3_putNode_61 (Nat.le_of_ble_eq_true rfl) (Nat.le_of_ble_eq_true rfl) (g_putIntN (i := 5 * ns.length + 3) (go_ok rfl rfl) (by omega) (show 5 * ns.length + 3 < 1080 by omega) ?_)
  refine go_aload_n (i := 0) dx_X3_putNode_64 rfl rfl ?_
  refine go_getA (b := 57) fs_X3_23 rfl (go_ok rfl rfl) rfl dx_X3_putNode_65 ?_
  refine go_iload_n (i := 2) dx_X3_putNode_68 rfl rfl ?_
  refine go_iconst dx_X3_putNode_69 ?_
  refine go_imul dx_X3_putNode_70 ?_
  refine go_iconst dx_X3_putNode_71 ?_
  refine go_iadd dx_X3_putNode_72 ?_
  refine go_aload_n (i := 0) dx_X3_putNode_73 rfl rfl ?_
  refine go_getI fs_X3_109 (Or.inl rfl) (go_ok rfl rfl) dx_X3_putNode_74 ?_
  refine go_asI (y := up) (by simp only [wr]; exact c5) ?_
  refine go_iconst dx_X3_putNode_77 ?_
  refine go_icmp_ne (tgt := 85) dx_X3_putNode_78 rfl (by first | omega | (rcases hup with q | ⟨u, q, _⟩ <;> omega)) (by first | omega | (rcases hup with q | ⟨u, q, _⟩ <;> omega)) (fun c78 => ?_) (fun c78 => ?_)
  · refine go_aload_n (i := 0) dx_X3_putNode_85 rfl rfl ?_
    refine go_aload_n (i := 0) dx_X3_putNode_86 rfl rfl ?_
    refine go_getI fs_X3_109 (Or.inl rfl) (go_ok rfl rfl) dx_X3_putNode_87 ?_
    refine go_asI (y := up) (by simp only [wr]; exact c5) ?_
    obtain ⟨u, hu, hul⟩ := hup.resolve_left c78
    subst hu
    refine go_iconst dx_X3_putNode_90 ?_
    refine go_asI (y := ((4 : Nat) : Int)) (by rfl) ?_
    refine go_cV2 sv_X3_116 (go_ok rfl rfl) dx_X3_putNode_91 (Nat.le_of_ble_eq_true rfl) (Nat.le_of_ble_eq_true rfl) (g_Listing_tellN (ns := ns) (a := u) (b := 4) ⟨by simp only [wr]; exact h1, fun k hk q hq => by rw [wr_i _ _ _ _ (by omega), wr_i _ _ _ _ (by omega), wr_i _ _ _ _ (by omega), wr_i _ _ _ _ (by omega)]; exact h2 k hk q hq⟩ (by omega) hul (by decide) ?_)
    refine go_iconst dx_X3_putNode_94 ?_
    refine go_iadd dx_X3_putNode_95 ?_
    refine tail _ ?_ _ rfl
    unfold ldp
    rw [if_neg (by omega), Int.toNat_natCast, List.getD_eq_getElem?_getD, List.getElem?_eq_getElem hul]
    rfl
  · refine go_iconst dx_X3_putNode_81 ?_
    refine go_goto (tgt := 96) dx_X3_putNode_82 rfl ?_
    exact tail 0 (by unfold ldp; rw [if_pos c78]) _ rfl
theorem g_Listing_isHere {a num : Nat} (hr : δ 56 13 = (num : Int)) (hn : num ≤ MX) (hQ : Q [vv_I (b01 (num < a))] go_φ δ) : Go E d (0, 0) mx_X3_isHere go_φ 0 [(0, vv_A 56), (1, vv_L (st a))] [] δ Q := by
  have hM := MX_eq
  have hs := st_iL a
  have h1 : a ≤ MX → st a = (a : Int) := st_le
  have h2 : ¬ a ≤ MX → st a = -7 := st_gt
  refine go_lload_n (i := 1) dx_X3_isHere_0 rfl rfl ?_
  refine go_lconst (x := 0) dx_X3_isHere_1 rfl ?_
  refine go_lcmp_lt (tgt := 15) dx_X3_isHere_2 dx_X3_isHere_3 rfl (by omega) (by omega) (fun c2 => ?_) (fun c2 => ?_)
  · refine go_iconst dx_X3_isHere_15 ?_
    refine go_goto (tgt := 20) dx_X3_isHere_16 rfl ?_
    refine go_zreturn dx_X3_isHere_20 rfl (by first | exact Or.inl rfl | exact Or.inr rfl | assumption | omega) (Nat.le_refl _) (Nat.le_refl _) ?_
    rw [b01_t (by omega)] at hQ
    exact hQ
  · refine go_aload_n (i := 0) dx_X3_isHere_6 rfl rfl ?_
    refine go_getL fs_X3_47 rfl (go_ok rfl rfl) dx_X3_isHere_7 ?_
    refine go_asL (y := (num : Int)) (by exact hr) ?_
    refine go_lload_n (i := 1) dx_X3_isHere_10 rfl rfl ?_
    refine go_lcmp_ge (tgt := 19) dx_X3_isHere_11 dx_X3_isHere_12 rfl (by omega) (by omega) (fun c11 => ?_) (fun c11 => ?_)
    · refine go_iconst dx_X3_isHere_19 ?_
      refine go_zreturn dx_X3_isHere_20 rfl (by first | exact Or.inl rfl | exact Or.inr rfl | assumption | omega) (Nat.le_refl _) (Nat.le_refl _) ?_
      rw [b01_f (by omega)] at hQ
      exact hQ
    · refine go_iconst dx_X3_isHere_15 ?_
      refine go_goto (tgt := 20) dx_X3_isHere_16 rfl ?_
      refine go_zreturn dx_X3_isHere_20 rfl (by first | exact Or.inl rfl | exact Or.inr rfl | assumption | omega) (Nat.le_refl _) (Nat.le_refl _) ?_
      rw [b01_t (by omega)] at hQ
      exact hQ
end GLISTC
