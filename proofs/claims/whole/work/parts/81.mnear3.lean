/-! the reference's calls: changes, changed -/
theorem ob_iff (m : Nat → Int) : ∀ (u : List Nat) (i : Nat), ob m i u ↔ ∀ (q c : Nat), u[q]? = some c → m (i + q) = -1 ∨ m (i + q) = (c : Int)
  | [], i => ⟨fun _ q c h => (by cases h), fun _ => trivial⟩
  | a :: u, i => by
    show _ ∧ ob m (i + 1) u ↔ _
    rw [ob_iff m u (i + 1)]
    constructor
    · rintro ⟨h1, h2⟩ q c h
      cases q with
      | zero => cases h; exact h1
      | succ q => rw [show i + (q + 1) = i + 1 + q by omega]; exact h2 q c h
    · intro h
      exact ⟨h 0 a rfl, fun q c hq => by rw [show i + 1 + q = i + (q + 1) by omega]; exact h (q + 1) c hq⟩
theorem e8_lex {a b b' : List Nat} {c c' : Nat} (hb : ltw b) (hc : 8 ≤ c) (h : c < c') (hl : b.length = b'.length) : e8 (a ++ c :: b) < e8 (a ++ c' :: b') := by
  have h1 := e8_lt hb
  have h3 : (c - 8 + 1) * 8 ^ b.length ≤ (c' - 8) * 8 ^ b.length := Nat.mul_le_mul_right _ (by omega)
  rw [Nat.add_mul, Nat.one_mul] at h3
  rw [e8_app, e8_app]
  show e8 a * 8 ^ (b.length + 1) + ((c - 8) * 8 ^ b.length + e8 b) < e8 a * 8 ^ (b'.length + 1) + ((c' - 8) * 8 ^ b'.length + e8 b')
  rw [← hl]
  omega
def mst (u : List Nat) (k : Nat) (c : Int) : Nat → Int := fun q => if q < k then ((u.getD q 0 : Nat) : Int) else if q = k then c else -1
theorem mst_free {u l : List Nat} : ob (mst u 0 (-1)) 0 l := (ob_iff _ _ _).mpr (fun q c _ => Or.inl (by unfold mst; rw [if_neg (by omega)]; split <;> rfl))
theorem mst_self {u : List Nat} {k : Nat} (hk : k < u.length) : ob (mst u k ((u.getD k 0 : Nat) : Int)) 0 u := (ob_iff _ _ _).mpr (fun q c h => by
  rw [Nat.zero_add]
  have e : u.getD q 0 = c := by rw [List.getD_eq_getElem?_getD, h]; rfl
  unfold mst
  by_cases z : q < k
  · rw [if_pos z, e]; exact Or.inr rfl
  · rw [if_neg z]
    by_cases y : q = k
    · subst y; rw [if_pos rfl, e]; exact Or.inr rfl
    · rw [if_neg y]; exact Or.inl rfl)
theorem mst_low {u l : List Nat} {k c : Nat} (hu : ltw u) (hl : ltw l) (hk : k < u.length) (hlen : l.length = u.length) (h : ob (mst u k (c : Int)) 0 l) (hc : c < u.getD k 0) : e8 l < e8 u := by
  have ho := (ob_iff _ _ _).mp h
  have e0 : ∀ {r : List Nat} {q : Nat} (hq : q < r.length), r.getD q 0 = r[q] := fun hq => by rw [List.getD_eq_getElem?_getD, List.getElem?_eq_getElem hq]; rfl
  have hk2 : k < l.length := by omega
  have h1 : l.take k = u.take k := List.ext_getElem (by rw [List.length_take, List.length_take, hlen]) (fun q a b => by
    rw [List.length_take] at a b
    rw [List.getElem_take, List.getElem_take]
    have := ho q _ (List.getElem?_eq_getElem (by omega))
    rw [Nat.zero_add] at this
    unfold mst at this
    rw [if_pos (by omega), e0 (by omega)] at this
    omega)
  have h2 : l[k] = c := by
    have := ho k _ (List.getElem?_eq_getElem hk2)
    rw [Nat.zero_add] at this
    unfold mst at this
    rw [if_neg (Nat.lt_irrefl _), if_pos rfl] at this
    omega
  rw [e0 hk] at hc
  have s1 : l = l.take k ++ l[k] :: l.drop (k + 1) := by rw [← List.drop_eq_getElem_cons hk2, List.take_append_drop]
  have s2 : u = u.take k ++ u[k] :: u.drop (k + 1) := by rw [← List.drop_eq_getElem_cons hk, List.take_append_drop]
  rw [s1, s2, h1]
  exact e8_lex (fun x hx => hl x (List.mem_of_mem_drop hx)) (hl _ (List.getElem_mem hk2)).1 (by omega) (by rw [List.length_drop, List.length_drop, hlen])
/-- what the least key tells -/
theorem nv_told {R : Nat → List Nat} {w : List Nat} {x n : Nat} (h14 : n ≤ 14) : (nv R w x 0 n = -1 ∧ ∀ u, u.length = n → ¬ dx R x u) ∨
    ∃ u, nv R w x 0 n = (nk w 0 u : Int) ∧ u.length = n ∧ dx R x u ∧ ∀ l, l.length = n → dx R x l → mm w 0 u < mm w 0 l ∨ (mm w 0 u = mm w 0 l ∧ e8 u ≤ e8 l) := by
  rcases li_cases (nc R w x 0 n) with ⟨a, b⟩ | ⟨v, a, ⟨u, u1, u2, rfl⟩, b⟩
  · exact Or.inl ⟨a, fun u hu hd => b _ ⟨u, by omega, hd, rfl⟩⟩
  · exact Or.inr ⟨u, a, by omega, u2, fun l hl hd => (ne_lex (e8_M (dx_ltw u2) (by omega)) (e8_M (dx_ltw hd) (by omega))).mp (b _ ⟨l, by omega, hd, rfl⟩)⟩
theorem cc_none {R : Nat → List Nat} {w : List Nat} {x n v : Nat} {m : Nat → Int} (hv : v ≤ 268435456) (h : tq v (cc R w m x 0 n)) (hno : ∀ u, u.length = n → ¬ dx R x u) : v = 268435456 := by
  have := h.1
  refine Nat.le_antisymm hv (Nat.le_of_not_lt (fun q => ?_))
  obtain ⟨u, u1, u2, _⟩ := this q
  exact hno u (by omega) u2
theorem cc_some {R : Nat → List Nat} {w : List Nat} {x n v : Nat} {m : Nat → Int} {u : List Nat} (h : tq v (cc R w m x 0 n)) (h14 : n ≤ 14) (hl : u.length = n) (hd : dx R x u) (ho : ob m 0 u)
    (hm : ∀ l, l.length = n → dx R x l → mm w 0 u ≤ mm w 0 l) : v = mm w 0 u := by
  have h1 := h.2 _ ⟨u, by omega, hd, ho, rfl⟩
  have h2 := mm_le w u 0
  obtain ⟨l, l1, l2, _, l4⟩ := h.1 (by omega)
  have := hm l (by omega) l2
  omega
section GMN3
variable {E : go_E} {d : Nat} {δ : Nat → Nat → Int} {Q : List go_V → go_F → (Nat → Nat → Int) → Prop} {K : sK} {S : sS}
theorem m_freesAll (hQ : ∀ δ', (∀ k, k < 14 → δ' 127 k = -1) → (∀ c j, c ≠ 127 → δ' c j = δ c j) → Q [] go_φ δ') : Go E d (0, 0) mx_X12_freesAll go_φ 0 [(0, vv_A 94)] [] δ Q := by
  have l127 : go_ln 127 = 14 := rfl
  have loop := lp_up (X := Nat → Nat → Int) (hi := 14) (I := fun k δ1 => (∀ q, q < k → δ1 127 q = -1) ∧ (∀ c j, c ≠ 127 → δ1 c j = δ c j))
    (G := fun k δ1 => Go E d (0, 0) mx_X12_freesAll go_φ 2 [(0, vv_A 94), (1, vv_I (k : Int))] [] δ1 Q)
    (fun k δ1 hk hI ih => by
      refine go_iload_n (i := 1) dx_X12_freesAll_2 rfl rfl ?_
      refine go_bipush dx_X12_freesAll_3 rfl ?_
      refine go_icmp_ge (tgt := 21) dx_X12_freesAll_5 rfl (by omega) (by omega) (fun c5 => by exact absurd c5 (by omega)) (fun c5 => ?_)
      refine go_aload_n (i := 0) dx_X12_freesAll_8 rfl rfl ?_
      refine go_getA (b := 127) fs_X12_112 rfl (go_ok rfl rfl) rfl dx_X12_freesAll_9 ?_
      refine go_iload_n (i := 1) dx_X12_freesAll_12 rfl rfl ?_
      refine go_iconst dx_X12_freesAll_13 ?_
      refine go_iastoreV (i := k) dx_X12_freesAll_14 (go_ok rfl rfl) (by omega) (show k < 14 by omega) ?_
      refine go_iinc (lv' := [(0, vv_A 94), (1, vv_I ((k : Int) + 1))]) dx_X12_freesAll_15 rfl (by decide) rfl ?_
      refine go_goto (tgt := 2) dx_X12_freesAll_18 rfl ?_
      refine ih _ ⟨fun q hq => ?_, fun c j hc => by rw [wr_n (by omega)]; exact hI.2 c j hc⟩
      by_cases z : q = k
      · subst z; rw [wr_eq]
      · rw [wr_n (by omega)]; exact hI.1 q (by omega)
    ) (fun δ1 hI => by
      refine go_iload_n (i := 1) dx_X12_freesAll_2 rfl rfl ?_
      refine go_bipush dx_X12_freesAll_3 rfl ?_
      refine go_icmp_ge (tgt := 21) dx_X12_freesAll_5 rfl (by omega) (by omega) (fun c5 => ?_) (fun c5 => by exact absurd c5 (by omega))
      refine go_vreturn dx_X12_freesAll_21 rfl (Nat.le_refl _) (Nat.le_refl _) ?_
      exact hQ δ1 hI.1 hI.2
    )
  refine go_iconst dx_X12_freesAll_0 ?_
  refine go_istore_n (i := 1) (lv' := [(0, vv_A 94), (1, vv_I 0)]) dx_X12_freesAll_1 rfl (by decide) rfl ?_
  exact loop 0 δ (Nat.zero_le _) ⟨fun q hq => absurd hq (Nat.not_lt_zero _), fun _ _ _ => rfl⟩
theorem mst_rng {u : List Nat} (hu : ltw u) (k : Nat) (c : Int) (hc : go_iI c) (q : Nat) : go_iI (mst u k c q) := by
  unfold mst
  by_cases z : q < k
  · rw [if_pos z]
    have : u.getD q 0 < 14 := by
      rw [List.getD_eq_getElem?_getD]
      by_cases y : q < u.length
      · rw [List.getElem?_eq_getElem y]; exact (hu _ (List.getElem_mem y)).2
      · rw [List.getElem?_eq_none (by omega)]; decide
    omega
  · rw [if_neg z]; split <;> omega
theorem m_changes (h : mx_at δ S) (hQ : ∀ δ', mx_at δ' S → fl δ δ' → Q [vv_I (oq_changes S.1)] go_φ δ') : Go E (d + 3) (0, 0) mx_X12_changes go_φ 0 [(0, vv_A 94)] [] δ Q := by
  refine go_aload_n (i := 0) dx_X12_changes_0 rfl rfl ?_
  refine go_iconst dx_X12_changes_1 ?_
  refine go_putI fp_X12_139 rfl rfl (go_ok rfl rfl) dx_X12_changes_2 ?_
  have h := mx_thr (v := 0) h
  have f0 : fl δ (wr δ 94 0 0) := fl_thr
  generalize wr δ 94 0 0 = δ0 at h f0 ⊢
  have hQ := fun δ' a (b : fl δ0 δ') => hQ δ' a (fl_tr f0 b)
  have hsc := @mx_of δ0 S h
  have hb := h.1.1
  have hlaid := h.2
  have ho := bo_of hb
  have hR := ho.1
  have h14 := hb.2.2.2.2.2.2.2.2.1
  refine go_aload_n (i := 0) dx_X12_changes_5 rfl rfl ?_
  refine go_cV0 sv_X12_384 (go_ok rfl rfl) dx_X12_changes_6 (Nat.le_of_ble_eq_true rfl) (Nat.le_of_ble_eq_true rfl) (m_freesAll (fun δ1 a1 f1 => ?_))
  refine go_aload_n (i := 0) dx_X12_changes_9 rfl rfl ?_
  refine go_cV0 sv_X12_387 (go_ok rfl rfl) dx_X12_changes_10 (Nat.le_of_ble_eq_true rfl) (Nat.le_of_ble_eq_true rfl) (m_fewest (m := mst [] 0 (-1)) (bk_fr hb (fun j => f1 95 j (by decide))) rfl (mst_rng (fun x hx => by cases hx) 0 (-1) (by decide)) (fun k hk => by rw [a1 k (by omega)]; unfold mst; rw [if_neg (by omega)]; split <;> rfl) (fun δ2 v v1 v2 v3 f2 => ?_))
  refine go_istore_n (i := 1) (lv' := [(0, vv_A 94), (1, vv_I (v : Int))]) dx_X12_changes_13 rfl (by decide) rfl ?_
  obtain ⟨a, b⟩ := hsc (δ' := δ2) (fun c j hc => by unfold sc at hc; rw [f2 c j (by unfold mqP; omega) (by omega), f1 c j (by omega)]) (ml_fr hlaid (fun c j hc => by rw [f2 c j (by unfold mqP; omega) (by omega), f1 c j (by omega)]))
  have hQ := hQ δ2 a b
  have fin : oq_changes S.1 = if (v : Int) < 268435456 then (v : Int) else -1 := by
    unfold oq_changes nvK
    by_cases z : S.1.2.2.length = 0
    · rw [cif_t (Or.inl z), v2 z]; rfl
    · have v3 := v3 (by omega)
      rcases nv_told (R := S.1.1) (w := S.1.2.2) (x := S.1.2.1) h14 with ⟨q1, q2⟩ | ⟨u, u1, u2, u3, u4⟩
      · rw [cif_t (Or.inr q1), cc_none v1 v3 q2]; rfl
      · have e := cc_some v3 h14 u2 u3 mst_free (fun l a b => by have := u4 l a b; omega)
        have hle := mm_le S.1.2.2 u 0
        rw [cif_f (by rw [u1]; omega), u1, Int.toNat_natCast]
        unfold nk
        rw [ne_div (e8_M (dx_ltw u3) (by omega)), ← e, if_pos (by omega)]
  rw [fin] at hQ
  refine go_iload_n (i := 1) dx_X12_changes_14 rfl rfl ?_
  refine go_ldc (x := 268435456) kx_X12_231 dx_X12_changes_15 ?_
  refine go_icmp_lt (tgt := 24) dx_X12_changes_17 rfl (by omega) (by omega) (fun c17 => ?_) (fun c17 => ?_)
  · refine go_iload_n (i := 1) dx_X12_changes_24 rfl rfl ?_
    refine go_ireturn dx_X12_changes_25 rfl (Nat.le_refl _) (Nat.le_refl _) ?_
    first | (rw [if_pos (by omega)] at hQ; exact hQ) | (rw [if_neg (by omega)] at hQ; exact hQ)
  · refine go_iconst dx_X12_changes_20 ?_
    refine go_goto (tgt := 25) dx_X12_changes_21 rfl ?_
    refine go_ireturn dx_X12_changes_25 rfl (Nat.le_refl _) (Nat.le_refl _) ?_
    first | (rw [if_pos (by omega)] at hQ; exact hQ) | (rw [if_neg (by omega)] at hQ; exact hQ)
theorem m_changed {i : Int} (hi : go_iI i) (h : mx_at δ S) (hQ : ∀ δ', mx_at δ' S → fl δ δ' → Q [vv_I (oq_changed S.1 i)] go_φ δ') : Go E (d + 3) (0, 0) mx_X12_changed go_φ 0 [(0, vv_A 94), (1, vv_I i)] [] δ Q := by
  refine go_aload_n (i := 0) dx_X12_changed_0 rfl rfl ?_
  refine go_iconst dx_X12_changed_1 ?_
  refine go_putI fp_X12_139 rfl rfl (go_ok rfl rfl) dx_X12_changed_2 ?_
  have h := mx_thr (v := 0) h
  have f0 : fl δ (wr δ 94 0 0) := fl_thr
  generalize wr δ 94 0 0 = δ0 at h f0 ⊢
  have hQ := fun δ' a (b : fl δ0 δ') => hQ δ' a (fl_tr f0 b)
  have hsc := @mx_of δ0 S h
  have hb := h.1.1
  have hlaid := h.2
  have ho := bo_of hb
  have hR := ho.1
  have h14 := hb.2.2.2.2.2.2.2.2.1
  have l127 : go_ln 127 = 14 := rfl
  unfold oq_changed nvK at hQ
  refine go_iload_n (i := 1) dx_X12_changed_5 rfl rfl ?_
  refine go_if_ge (tgt := 12) dx_X12_changed_6 rfl (by omega) (fun c6 => ?_) (fun c6 => ?_)
  · obtain ⟨p, rfl⟩ : ∃ p : Nat, i = (p : Int) := ⟨i.toNat, by omega⟩
    rw [if_neg (by omega)] at hQ
    refine go_aload_n (i := 0) dx_X12_changed_12 rfl rfl ?_
    refine go_cV0 sv_X12_384 (go_ok rfl rfl) dx_X12_changed_13 (Nat.le_of_ble_eq_true rfl) (Nat.le_of_ble_eq_true rfl) (m_freesAll (fun δ1 a1 f1 => ?_))
    refine go_aload_n (i := 0) dx_X12_changed_16 rfl rfl ?_
    refine go_cV0 sv_X12_387 (go_ok rfl rfl) dx_X12_changed_17 (Nat.le_of_ble_eq_true rfl) (Nat.le_of_ble_eq_true rfl) (m_fewest (m := mst [] 0 (-1)) (bk_fr hb (fun j => f1 95 j (by decide))) rfl (mst_rng (fun x hx => by cases hx) 0 (-1) (by decide)) (fun k hk => by rw [a1 k (by omega)]; unfold mst; rw [if_neg (by omega)]; split <;> rfl) (fun δ2 v v1 v2 v3 f2 => ?_))
    refine go_istore_n (i := 2) (lv' := [(0, vv_A 94), (1, vv_I (p : Int)), (2, vv_I (v : Int))]) dx_X12_changed_20 rfl (by decide) rfl ?_
    have fr2 : ∀ c j, ¬ sc c j → δ2 c j = δ0 c j := fun c j hc => by unfold sc at hc; rw [f2 c j (by unfold mqP; omega) (by omega), f1 c j (by omega)]
    have ml2 : ml_at δ2 S.1 := ml_fr hlaid (fun c j hc => by rw [f2 c j (by unfold mqP; omega) (by omega), f1 c j (by omega)])
    obtain ⟨a, b⟩ := hsc (δ' := δ2) fr2 ml2
    have hb2 : bk_at δ2 95 0 S.1 := bk_fr hb (fun j => fr2 95 j (by unfold sc; omega))
    have none : (S.1.2.2.length = 0 ∨ nv S.1.1 S.1.2.2 S.1.2.1 0 S.1.2.2.length = -1 ∨ (S.1.2.2.length : Int) ≤ (p : Int)) → Q [vv_I (-1)] go_φ δ2 := fun z => by
      have hQ := hQ δ2 a b
      rw [cif_t z] at hQ
      exact hQ
    by_cases z : S.1.2.2.length = 0 ∨ nv S.1.1 S.1.2.2 S.1.2.1 0 S.1.2.2.length = -1 ∨ (S.1.2.2.length : Int) ≤ (p : Int)
    · have hv : v = 268435456 ∨ (S.1.2.2.length : Int) ≤ (p : Int) := by
        rcases z with z | z | z
        · exact Or.inl (v2 z)
        · by_cases y : S.1.2.2.length = 0
          · exact Or.inl (v2 y)
          · rcases nv_told (R := S.1.1) (w := S.1.2.2) (x := S.1.2.1) h14 with ⟨q1, q2⟩ | ⟨u, u1, u2, u3, u4⟩
            · exact Or.inl (cc_none v1 (v3 (by omega)) q2)
            · rw [u1] at z; omega
        · exact Or.inr z
      refine go_iload_n (i := 2) dx_X12_changed_21 rfl rfl ?_
      refine go_ldc (x := 268435456) kx_X12_231 dx_X12_changed_22 ?_
      refine go_icmp_ge (tgt := 35) dx_X12_changed_24 rfl (by omega) (by omega) (fun c24 => ?_) (fun c24 => ?_)
      · refine go_iconst dx_X12_changed_35 ?_
        refine go_ireturn dx_X12_changed_36 rfl (Nat.le_refl _) (Nat.le_refl _) ?_
        exact none z
      · refine go_iload_n (i := 1) dx_X12_changed_27 rfl rfl ?_
        refine go_aload_n (i := 0) dx_X12_changed_28 rfl rfl ?_
        refine go_cV0 sv_X12_253 (go_ok rfl rfl) dx_X12_changed_29 (Nat.le_of_ble_eq_true rfl) (Nat.le_of_ble_eq_true rfl) (m_letters hb2 ?_)
        refine go_icmp_lt (tgt := 37) dx_X12_changed_32 rfl (by omega) (by omega) (fun c32 => ?_) (fun c32 => ?_)
        · omega
        · refine go_iconst dx_X12_changed_35 ?_
          refine go_ireturn dx_X12_changed_36 rfl (Nat.le_refl _) (Nat.le_refl _) ?_
          exact none z
    · have hpn : p < S.1.2.2.length := by omega
      have v3 := v3 (by omega)
      rcases nv_told (R := S.1.1) (w := S.1.2.2) (x := S.1.2.1) h14 with ⟨q1, _⟩ | ⟨u, u1, u2, u3, u4⟩
      · exact absurd (Or.inr (Or.inl q1)) z
      have hv := cc_some v3 h14 u2 u3 mst_free (fun l a b => by have := u4 l a b; omega)
      have hul := dx_ltw u3
      have hvle := mm_le S.1.2.2 u 0
      have e0 : ∀ {q : Nat} (hq : q < u.length), u.getD q 0 = u[q] := fun hq => by rw [List.getD_eq_getElem?_getD, List.getElem?_eq_getElem hq]; rfl
      have hgt : ∀ k, k < u.length → 8 ≤ u.getD k 0 ∧ u.getD k 0 < 14 := fun k hk => by rw [e0 hk]; exact hul _ (List.getElem_mem hk)
      have rows := lp_up (X := Nat → Nat → Int) (hi := p + 1) (I := fun k δ3 => (∀ q, q < 14 → δ3 127 q = mst u k (-1) q) ∧ (∀ c j, ¬ sc c j → δ3 c j = δ0 c j) ∧ ml_at δ3 S.1)
        (G := fun k δ3 => Go E (d + 3) (0, 0) mx_X12_changed go_φ 39 [(0, vv_A 94), (1, vv_I (p : Int)), (2, vv_I (v : Int)), (3, vv_I (k : Int))] [] δ3 Q)
        (fun k δ3 hk hI ih => by
          obtain ⟨i1, i2, i3⟩ := hI
          have hku : k < u.length := by omega
          have hg := hgt k hku
          have tries := lp_up (X := Nat → Nat → Int) (hi := u.getD k 0) (I := fun c δ4 => 8 ≤ c ∧ (∀ q, q < 14 → δ4 127 q = mst u k (c : Int) q) ∧ (∀ c j, ¬ sc c j → δ4 c j = δ0 c j) ∧ ml_at δ4 S.1)
            (G := fun c δ4 => Go E (d + 3) (0, 0) mx_X12_changed go_φ 52 [(0, vv_A 94), (1, vv_I (p : Int)), (2, vv_I (v : Int)), (3, vv_I (k : Int))] [] δ4 Q)
            (fun c δ4 hc hI4 ih4 => by
              obtain ⟨g0, g1, g2, g3⟩ := hI4
              have hb4 : bk_at δ4 95 0 S.1 := bk_fr hb (fun j => g2 95 j (by unfold sc; omega))
              have no : ∀ v' : Nat, tq v' (cc S.1.1 S.1.2.2 (mst u k (c : Int)) S.1.2.1 0 S.1.2.2.length) → v' ≠ v := fun v' w3 e => by
                obtain ⟨l, l1, l2, l3, l4⟩ := w3.1 (by omega)
                have hlo := mst_low hul (dx_ltw l2) hku (by omega) l3 hc
                have := u4 l (by omega) l2
                omega
              have ek : mst u k (c : Int) k = (c : Int) := by unfold mst; rw [if_neg (Nat.lt_irrefl _), if_pos rfl]
              refine go_aload_n (i := 0) dx_X12_changed_52 rfl rfl ?_
              refine go_cV0 sv_X12_387 (go_ok rfl rfl) dx_X12_changed_53 (Nat.le_of_ble_eq_true rfl) (Nat.le_of_ble_eq_true rfl) (m_fewest (m := mst u k (c : Int)) hb4 rfl (mst_rng hul k (c : Int) (by omega)) (fun q hq => g1 q (by omega)) (fun δ5 v' w1 w2 w3 f5 => ?_))
              refine go_iload_n (i := 2) dx_X12_changed_56 rfl rfl ?_
              refine go_icmp_eq (tgt := 73) dx_X12_changed_57 rfl (by omega) (by omega) (fun c57 => by exact absurd c57 (by have := no v' (w3 (by omega)); omega)) (fun c57 => ?_)
              refine go_aload_n (i := 0) dx_X12_changed_60 rfl rfl ?_
              refine go_getA (b := 127) fs_X12_112 rfl (go_ok rfl rfl) rfl dx_X12_changed_61 ?_
              refine go_iload_n (i := 3) dx_X12_changed_64 rfl rfl ?_
              refine go_dup2 dx_X12_changed_65 rfl rfl ?_
              refine go_ialoadV (i := k) (v := ((c : Int))) dx_X12_changed_66 (go_ok rfl rfl) (by omega) (show k < 14 by omega) (by rw [f5 _ _ (by unfold mqP; omega) (by decide), g1 k (by omega)]; exact ek) ?_
              refine go_iconst dx_X12_changed_67 ?_
              refine go_iadd dx_X12_changed_68 ?_
              refine go_iastoreV (i := k) dx_X12_changed_69 (go_ok rfl rfl) (by omega) (show k < 14 by omega) ?_
              refine go_goto (tgt := 52) dx_X12_changed_70 rfl ?_
              refine ih4 _ ⟨by omega, fun q hq => ?_, fun c' j hc' => by unfold sc at hc'; rw [wr_n (by omega), f5 c' j (by unfold mqP; omega) (by omega)]; exact g2 c' j (by unfold sc; omega), ml_fr g3 (fun c' j hc' => by rw [wr_n (by omega), f5 c' j (by unfold mqP; omega) (by omega)])⟩
              by_cases y : q = k
              · subst y; rw [wr_eq]; unfold mst; rw [if_neg (Nat.lt_irrefl _), if_pos rfl]; omega
              · rw [wr_n (by omega), f5 _ _ (by unfold mqP; omega) (by decide), g1 q hq]
                unfold mst
                rw [if_neg y, if_neg y]
            ) (fun δ4 hI4 => by
              obtain ⟨g0, g1, g2, g3⟩ := hI4
              have hb4 : bk_at δ4 95 0 S.1 := bk_fr hb (fun j => g2 95 j (by unfold sc; omega))
              refine go_aload_n (i := 0) dx_X12_changed_52 rfl rfl ?_
              refine go_cV0 sv_X12_387 (go_ok rfl rfl) dx_X12_changed_53 (Nat.le_of_ble_eq_true rfl) (Nat.le_of_ble_eq_true rfl) (m_fewest (m := mst u k ((u.getD k 0 : Nat) : Int)) hb4 rfl (mst_rng hul k ((u.getD k 0 : Nat) : Int) (by omega)) (fun q hq => g1 q (by omega)) (fun δ5 v' w1 w2 w3 f5 => ?_))
              refine go_iload_n (i := 2) dx_X12_changed_56 rfl rfl ?_
              refine go_icmp_eq (tgt := 73) dx_X12_changed_57 rfl (by omega) (by omega) (fun c57 => ?_) (fun c57 => by exact absurd (cc_some (w3 (by omega)) h14 u2 u3 (mst_self hku) (fun l a b => by have := u4 l a b; omega)) (by omega))
              refine go_iinc (lv' := [(0, vv_A 94), (1, vv_I (p : Int)), (2, vv_I (v : Int)), (3, vv_I ((k : Int) + 1))]) dx_X12_changed_73 rfl (by decide) rfl ?_
              refine go_goto (tgt := 39) dx_X12_changed_76 rfl ?_
              refine ih δ5 ⟨fun q hq => ?_, fun c' j hc' => by unfold sc at hc'; rw [f5 c' j (by unfold mqP; omega) (by omega)]; exact g2 c' j (by unfold sc; omega), ml_fr g3 (fun c' j hc' => by rw [f5 c' j (by unfold mqP; omega) (by omega)])⟩
              rw [f5 _ _ (by unfold mqP; omega) (by decide), g1 q hq]
              unfold mst
              by_cases y : q < k
              · rw [if_pos y, if_pos (by omega)]
              · rw [if_neg y]
                by_cases x : q = k
                · subst x; rw [if_pos rfl, if_pos (by omega)]
                · rw [if_neg x, if_neg (by omega)]; split <;> rfl
            )
          refine go_iload_n (i := 3) dx_X12_changed_39 rfl rfl ?_
          refine go_iload_n (i := 1) dx_X12_changed_40 rfl rfl ?_
          refine go_icmp_gt (tgt := 79) dx_X12_changed_41 rfl (by omega) (by omega) (fun c41 => by exact absurd c41 (by omega)) (fun c41 => ?_)
          refine go_aload_n (i := 0) dx_X12_changed_44 rfl rfl ?_
          refine go_getA (b := 127) fs_X12_112 rfl (go_ok rfl rfl) rfl dx_X12_changed_45 ?_
          refine go_iload_n (i := 3) dx_X12_changed_48 rfl rfl ?_
          refine go_bipush dx_X12_changed_49 rfl ?_
          refine go_iastoreV (i := k) dx_X12_changed_51 (go_ok rfl rfl) (by omega) (show k < 14 by omega) ?_
          refine tries 8 _ hg.1 ⟨Nat.le_refl _, fun q hq => ?_, fun c' j hc' => by unfold sc at hc'; rw [wr_n (by omega)]; exact i2 c' j (by unfold sc; omega), ml_fr i3 (fun c' j hc' => by rw [wr_n (by omega)])⟩
          by_cases y : q = k
          · subst y; rw [wr_eq]; unfold mst; rw [if_neg (Nat.lt_irrefl _), if_pos rfl]; rfl
          · rw [wr_n (by omega), i1 q hq]
            unfold mst
            rw [if_neg y, if_neg y]
        ) (fun δ3 hI => by
          obtain ⟨i1, i2, i3⟩ := hI
          obtain ⟨a3, b3⟩ := hsc (δ' := δ3) i2 i3
          have hQ := hQ δ3 a3 b3
          have hnl := nk_letter (w := S.1.2.2) hul (by omega) (show p < u.length by omega)
          have hg := hgt p (by omega)
          rw [cif_f z, u1, Int.toNat_natCast, Int.toNat_natCast, ← u2, hnl, ← e0 (by omega), show 8 + (u.getD p 0 - 8) = u.getD p 0 by omega] at hQ
          refine go_iload_n (i := 3) dx_X12_changed_39 rfl rfl ?_
          refine go_iload_n (i := 1) dx_X12_changed_40 rfl rfl ?_
          refine go_icmp_gt (tgt := 79) dx_X12_changed_41 rfl (by omega) (by omega) (fun c41 => ?_) (fun c41 => by exact absurd c41 (by omega))
          refine go_aload_n (i := 0) dx_X12_changed_79 rfl rfl ?_
          refine go_getA (b := 127) fs_X12_112 rfl (go_ok rfl rfl) rfl dx_X12_changed_80 ?_
          refine go_iload_n (i := 1) dx_X12_changed_83 rfl rfl ?_
          refine go_ialoadV (i := p) (v := (((u.getD p 0 : Nat) : Int))) dx_X12_changed_84 (go_ok rfl rfl) (by omega) (show p < 14 by omega) (by rw [i1 p (by omega)]; unfold mst; rw [if_pos (Nat.lt_succ_self _)]) ?_
          refine go_ireturn dx_X12_changed_85 rfl (Nat.le_refl _) (Nat.le_refl _) ?_
          exact hQ
        )
      refine go_iload_n (i := 2) dx_X12_changed_21 rfl rfl ?_
      refine go_ldc (x := 268435456) kx_X12_231 dx_X12_changed_22 ?_
      refine go_icmp_ge (tgt := 35) dx_X12_changed_24 rfl (by omega) (by omega) (fun c24 => by exact absurd c24 (by omega)) (fun c24 => ?_)
      refine go_iload_n (i := 1) dx_X12_changed_27 rfl rfl ?_
      refine go_aload_n (i := 0) dx_X12_changed_28 rfl rfl ?_
      refine go_cV0 sv_X12_253 (go_ok rfl rfl) dx_X12_changed_29 (Nat.le_of_ble_eq_true rfl) (Nat.le_of_ble_eq_true rfl) (m_letters hb2 ?_)
      refine go_icmp_lt (tgt := 37) dx_X12_changed_32 rfl (by omega) (by omega) (fun c32 => ?_) (fun c32 => ?_)
      · refine go_iconst dx_X12_changed_37 ?_
        refine go_istore_n (i := 3) (lv' := [(0, vv_A 94), (1, vv_I (p : Int)), (2, vv_I (v : Int)), (3, vv_I 0)]) dx_X12_changed_38 rfl (by decide) rfl ?_
        refine rows 0 δ2 (Nat.zero_le _) ⟨fun q hq => ?_, fr2, ml2⟩
        rw [f2 _ _ (by unfold mqP; omega) (by decide), a1 q hq]
        unfold mst
        rw [if_neg (by omega)]
        split <;> rfl
      · refine go_iconst dx_X12_changed_35 ?_
        refine go_ireturn dx_X12_changed_36 rfl (Nat.le_refl _) (Nat.le_refl _) ?_
        omega
  · refine go_bipush dx_X12_changed_9 rfl ?_
    refine go_ireturn dx_X12_changed_11 rfl (Nat.le_refl _) (Nat.le_refl _) ?_
    have hQ := hQ δ0 h fl_rf
    rw [if_pos (by omega)] at hQ
    exact hQ
end GMN3
