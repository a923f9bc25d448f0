/-! the class's binary rules: least lengths, ways -/
def frt (R : Nat → List Nat) (x : Nat) : Prop := ∃ u, dx R x u
def bl_at (δ : Nat → Nat → Int) (o : Nat) (R : Nat → List Nat) : Prop := (∀ x, x < 14 + (gH R).length → δ (o + 8) x = ll R x) ∧ δ o 11 = (mk 62 (frt R) : Int)
def bm_at (δ : Nat → Nat → Int) (o : Nat) (R : Nat → List Nat) : Prop := bl_at δ o R ∧ ∀ x z, x < 8 → z < 8 → δ (o + 9) (8 * x + z) = (wy (un R) 8 (2 ^ x) x z : Int)
theorem bm_fr {δ δ' : Nat → Nat → Int} {o : Nat} {R : Nat → List Nat} (h : bm_at δ o R) (f : ∀ c j, (c = o + 8 ∨ c = o + 9 ∨ (c = o ∧ j = 11)) → δ' c j = δ c j) : bm_at δ' o R :=
  ⟨⟨fun x hx => by rw [f _ _ (Or.inl rfl)]; exact h.1.1 x hx, by rw [f _ _ (Or.inr (Or.inr ⟨rfl, rfl⟩))]; exact h.1.2⟩, fun x z hx hz => by rw [f _ _ (Or.inr (Or.inl rfl))]; exact h.2 x z hx hz⟩
section GMEAS2
variable {E : go_E} {d : Nat} {δ : Nat → Nat → Int} {Q : List go_V → go_F → (Nat → Nat → Int) → Prop} {o : Nat} {R : Nat → List Nat} {n : Nat} {v : Nat → Option Nat}
theorem g_Binary_measureLengths (ho : bi_ok o) (hb : bi_at δ o R) (hQ : ∀ δ', bl_at δ' o R → (∀ c j, c ≠ o + 8 → (c = o → j ≠ 11) → δ' c j = δ c j) → Q [] go_φ δ') :
    Go E (d + 3) (0, 0) mx_X0_measureLengths go_φ 0 [(0, vv_A o)] [] δ Q := by
  have hR := hb.2.2.2.2.2.2
  have hH := gH_le hR
  obtain ⟨n, hn⟩ : ∃ n, n = 14 + (gH R).length := ⟨_, rfl⟩
  -- at the end
  have fin : ∀ δ1 v, vl_at δ1 o n v → vok R v → (∀ x u, dx R x u → ∃ m, m ≤ u.length ∧ v x = some m) → (∀ c j, c ≠ o + 8 → (c = o → j ≠ 11) → δ1 c j = δ c j) → Q [] go_φ δ1 := fun δ1 v h1 h2 h3 h4 => by
    obtain ⟨g0, g1, g2, F, g3, g4, g5⟩ := h1
    refine hQ δ1 ⟨fun x hx => by rw [g1 x (by omega), ll_of h2 h3], ?_⟩ h4
    rw [g3, mk_eq g4 (P := frt R) (fun x _ => ?_)]
    rw [g5]
    constructor
    · intro q
      cases e : v x with
      | none => exact absurd e q
      | some k => obtain ⟨⟨u, _, hu⟩, _⟩ := h2 x k e; exact ⟨u, hu⟩
    · rintro ⟨u, hu⟩ q
      obtain ⟨m, _, e⟩ := h3 x u hu
      rw [q] at e
      cases e
  have loop := lp_up (X := (Nat → Nat → Int) × (Nat → Option Nat) × Int) (hi := 63)
    (I := fun t X => vl_at X.1 o n X.2.1 ∧ vok R X.2.1 ∧ (∀ x k, dh R t x k → ∃ m, m ≤ k ∧ X.2.1 x = some m) ∧ (X.2.2 = 0 ∨ X.2.2 = 1) ∧ (X.2.2 = 0 → ∀ x u, dx R x u → ∃ m, m ≤ u.length ∧ X.2.1 x = some m) ∧ (∀ c j, c ≠ o + 8 → (c = o → j ≠ 11) → X.1 c j = δ c j))
    (G := fun t X => Go E (d + 3) (0, 0) mx_X0_measureLengths go_φ 52 [(0, vv_A o), (1, vv_I X.2.2), (2, vv_I (t : Int))] [] X.1 Q)
    (fun t X ht hI ih => by
      obtain ⟨δ1, v1, b⟩ := X
      obtain ⟨i1, i2, i3, i4, i5, i6⟩ := hI
      dsimp only at i1 i2 i3 i4 i5 i6 ⊢
      have hb1 : bi_at δ1 o R := bi_fr hb (fun c j h1 h2 => i6 c j (by omega) (by omega))
      refine go_iload_n (i := 2) dx_X0_measureLengths_52 rfl rfl ?_
      refine go_bipush dx_X0_measureLengths_53 rfl ?_
      refine go_icmp_gt (tgt := 90) dx_X0_measureLengths_55 rfl (by omega) (by omega) (fun c55 => by exact absurd c55 (by omega)) (fun c55 => ?_)
      refine go_iload_n (i := 1) dx_X0_measureLengths_58 rfl rfl ?_
      refine go_if_eq (tgt := 90) dx_X0_measureLengths_59 rfl (by omega) (fun c59 => ?_) (fun c59 => ?_)
      · refine go_vreturn dx_X0_measureLengths_90 rfl (Nat.le_refl _) (Nat.le_refl _) ?_
        exact fin δ1 v1 i1 i2 (i5 c59) i6
      · refine go_aload_n (i := 0) dx_X0_measureLengths_62 rfl rfl ?_
        refine go_cV0 sv_X0_103 (bi_k0 ho) dx_X0_measureLengths_63 (Nat.le_of_ble_eq_true rfl) (Nat.le_of_ble_eq_true rfl) (g_Binary_shortenByPairs ho hb1 hn i1 i2 (fun δ2 v2 b2 h2 p2 s2 f2 => ?_))
        refine go_istore_n (i := 3) (lv' := [(0, vv_A o), (1, vv_I b), (2, vv_I (t : Int)), (3, vv_I b2)]) dx_X0_measureLengths_66 rfl (by decide) rfl ?_
        have hb2 : bi_at δ2 o R := bi_fr hb1 (fun c j h1 h2 => f2 c j (by omega) (by omega))
        refine go_aload_n (i := 0) dx_X0_measureLengths_67 rfl rfl ?_
        refine go_cV0 sv_X0_107 (bi_k0 ho) dx_X0_measureLengths_68 (Nat.le_of_ble_eq_true rfl) (Nat.le_of_ble_eq_true rfl) (g_Binary_shortenByUnits ho hb2 hn h2 p2.2.1 (fun δ3 v3 b3 h3 p3 s3 f3 => ?_))
        have comp : ∀ x k, dh R (t + 1) x k → ∃ m, m ≤ k ∧ v3 x = some m := fun x k hk => by
          rcases hk with q | ⟨e, he, rfl, a, b, rfl, q1, q2⟩ | ⟨y, q1, q2⟩
          · obtain ⟨m, m1, m2⟩ := i3 x k q
            obtain ⟨m', m3, m4⟩ := vle_tr p2.1 p3.1 x m m2
            exact ⟨m', by omega, m4⟩
          · obtain ⟨m1, a1, a2⟩ := i3 _ _ q1
            obtain ⟨m2, a3, a4⟩ := i3 _ _ q2
            obtain ⟨m3, a5, a6⟩ := s2 e he m1 m2 a2 a4
            obtain ⟨m4, a7, a8⟩ := p3.1 _ _ a6
            exact ⟨m4, by omega, a8⟩
          · obtain ⟨m1, a1, a2⟩ := i3 _ _ q2
            obtain ⟨m2, a3, a4⟩ := p2.1 _ _ a2
            obtain ⟨m3, a5, a6⟩ := s3 x y m2 q1 a4
            exact ⟨m3, by omega, a6⟩
        have f13 : ∀ c j, c ≠ o + 8 → (c = o → j ≠ 11) → δ3 c j = δ c j := fun c j h1 h2 => (f3 c j h1 h2).trans ((f2 c j h1 h2).trans (i6 c j h1 h2))
        have hb3 := p3.2.2.1
        have hb2 := p2.2.2.1
        refine go_if_ne (tgt := 78) dx_X0_measureLengths_71 rfl (by omega) (fun c71 => ?_) (fun c71 => ?_)
        · refine go_iconst dx_X0_measureLengths_78 ?_
          refine go_goto (tgt := 83) dx_X0_measureLengths_79 rfl ?_
          refine go_istore_n (i := 1) (lv' := [(0, vv_A o), (1, vv_I 1), (2, vv_I (t : Int)), (3, vv_I b2)]) dx_X0_measureLengths_83 rfl (by decide) rfl ?_
          refine go_iinc (lv' := [(0, vv_A o), (1, vv_I 1), (2, vv_I ((t : Int) + 1)), (3, vv_I b2)]) dx_X0_measureLengths_84 rfl (by decide) rfl ?_
          refine go_goto (tgt := 52) dx_X0_measureLengths_87 rfl ?_
          refine go_keep [0, 1, 2] rfl ?_
          exact ih (δ3, v3, 1) ⟨h3, p3.2.1, comp, Or.inr rfl, fun q => absurd (show (1 : Int) = 0 from q) (by decide), f13⟩
        · refine go_iload_n (i := 3) dx_X0_measureLengths_74 rfl rfl ?_
          refine go_if_eq (tgt := 82) dx_X0_measureLengths_75 rfl (by omega) (fun c75 => ?_) (fun c75 => ?_)
          · refine go_iconst dx_X0_measureLengths_82 ?_
            refine go_istore_n (i := 1) (lv' := [(0, vv_A o), (1, vv_I 0), (2, vv_I (t : Int)), (3, vv_I b2)]) dx_X0_measureLengths_83 rfl (by decide) rfl ?_
            refine go_iinc (lv' := [(0, vv_A o), (1, vv_I 0), (2, vv_I ((t : Int) + 1)), (3, vv_I b2)]) dx_X0_measureLengths_84 rfl (by decide) rfl ?_
            refine go_goto (tgt := 52) dx_X0_measureLengths_87 rfl ?_
            refine go_keep [0, 1, 2] rfl ?_
            have e3 : v3 = v2 := p3.2.2.2 (by omega)
            have e2 : v2 = v1 := p2.2.2.2 (by omega)
            refine ih (δ3, v3, 0) ⟨h3, p3.2.1, comp, Or.inl rfl, fun _ x u hu => ?_, f13⟩
            subst e3
            subst e2
            refine vok_closed hR i2 (fun c h8 h14 => ?_) s2 s3 hu
            obtain ⟨m, m1, m2⟩ := i3 c 1 (dh_mono (Nat.zero_le t) ⟨h8, h14, rfl⟩)
            obtain ⟨⟨w, w1, w2⟩, _⟩ := i2 c m m2
            have := List.length_pos_iff.mpr w2.1
            have e1 : m = 1 := by omega
            rw [m2, e1]
          · refine go_iconst dx_X0_measureLengths_78 ?_
            refine go_goto (tgt := 83) dx_X0_measureLengths_79 rfl ?_
            refine go_istore_n (i := 1) (lv' := [(0, vv_A o), (1, vv_I 1), (2, vv_I (t : Int)), (3, vv_I b2)]) dx_X0_measureLengths_83 rfl (by decide) rfl ?_
            refine go_iinc (lv' := [(0, vv_A o), (1, vv_I 1), (2, vv_I ((t : Int) + 1)), (3, vv_I b2)]) dx_X0_measureLengths_84 rfl (by decide) rfl ?_
            refine go_goto (tgt := 52) dx_X0_measureLengths_87 rfl ?_
            refine go_keep [0, 1, 2] rfl ?_
            exact ih (δ3, v3, 1) ⟨h3, p3.2.1, comp, Or.inr rfl, fun q => absurd (show (1 : Int) = 0 from q) (by decide), f13⟩
    ) (fun X hI => by
      obtain ⟨δ1, v1, b⟩ := X
      obtain ⟨i1, i2, i3, i4, i5, i6⟩ := hI
      dsimp only at i1 i2 i3 i4 i5 i6 ⊢
      refine go_iload_n (i := 2) dx_X0_measureLengths_52 rfl rfl ?_
      refine go_bipush dx_X0_measureLengths_53 rfl ?_
      refine go_icmp_gt (tgt := 90) dx_X0_measureLengths_55 rfl (by omega) (by omega) (fun c55 => ?_) (fun c55 => by exact absurd c55 (by omega))
      refine go_vreturn dx_X0_measureLengths_90 rfl (Nat.le_refl _) (Nat.le_refl _) ?_
      refine fin δ1 v1 i1 i2 (fun x u hu => ?_) i6
      obtain ⟨m, m1, m2⟩ := i3 x _ (dh_mono (by decide : 62 ≤ 63) (dh_62 hR x u hu))
      have := (ml_spec hu).2 u hu
      exact ⟨m, by omega, m2⟩
    )
  have first := lp_up (X := Nat → Nat → Int) (hi := n) (I := fun x δ1 => (∀ z, z < x → δ1 (o + 8) z = ox (if 8 ≤ z ∧ z < 14 then some 1 else none)) ∧ (∀ c j, c ≠ o + 8 → (c = o → j ≠ 11) → δ1 c j = δ c j))
    (G := fun x δ1 => Go E (d + 3) (0, 0) mx_X0_measureLengths go_φ 2 [(0, vv_A o), (1, vv_I (x : Int))] [] δ1 Q) (fun x δ1 hx hI ih => by
      have hc := bq_fr hb.1 (δ' := δ1) (fun c j h1 h2 h3 => hI.2 c j (by omega) (by omega))
      have step : ∀ w : Int, w = ox (if 8 ≤ x ∧ x < 14 then some 1 else none) → Go E (d + 3) (0, 0) mx_X0_measureLengths go_φ 2 [(0, vv_A o), (1, vv_I ((x + 1 : Nat) : Int))] [] (wr δ1 (o + 8) x w) Q := fun w hw => ih _ ⟨fun z hz => by
          by_cases e : z = x
          · subst e; rw [wr_eq]; exact hw
          · rw [wr_i _ _ _ _ e]; exact hI.1 z (by omega), fun c j h1 h2 => by rw [wr_a _ _ _ _ h1]; exact hI.2 c j h1 h2⟩
      refine go_iload_n (i := 1) dx_X0_measureLengths_2 rfl rfl ?_
      refine go_aload_n (i := 0) dx_X0_measureLengths_3 rfl rfl ?_
      refine go_cV0 sv_X0_93 (bi_k0 ho) dx_X0_measureLengths_4 (Nat.le_of_ble_eq_true rfl) (Nat.le_of_ble_eq_true rfl) (g_Binary_symbolCount ho hc ?_)
      refine go_icmp_ge (tgt := 41) dx_X0_measureLengths_7 rfl (by omega) (by omega) (fun c7 => by exact absurd c7 (by omega)) (fun c7 => ?_)
      refine go_aload_n (i := 0) dx_X0_measureLengths_10 rfl rfl ?_
      refine go_getA (b := (o + 8)) fs_X0_33 rfl (bi_k0 ho) (bi_r10 ho) dx_X0_measureLengths_11 ?_
      refine go_iload_n (i := 1) dx_X0_measureLengths_14 rfl rfl ?_
      refine go_iload_n (i := 1) dx_X0_measureLengths_15 rfl rfl ?_
      refine go_bipush dx_X0_measureLengths_16 rfl ?_
      refine go_icmp_lt (tgt := 31) dx_X0_measureLengths_18 rfl (by omega) (by omega) (fun c18 => ?_) (fun c18 => ?_)
      · refine go_iconst dx_X0_measureLengths_31 ?_
        refine go_cS3 ss_X0_52 dx_X0_measureLengths_32 (Nat.le_of_ble_eq_true rfl) (Nat.le_of_ble_eq_true rfl) (g_putIntN (i := x) (bi_k8 ho) (by omega) (by rw [(bi_l8 ho)]; omega) ?_)
        refine go_iinc (lv' := [(0, vv_A o), (1, vv_I ((x : Int) + 1))]) dx_X0_measureLengths_35 rfl (by decide) rfl ?_
        refine go_goto (tgt := 2) dx_X0_measureLengths_38 rfl ?_
        exact step _ (by rw [if_neg (by omega)]; rfl)
      · refine go_iload_n (i := 1) dx_X0_measureLengths_21 rfl rfl ?_
        refine go_bipush dx_X0_measureLengths_22 rfl ?_
        refine go_icmp_ge (tgt := 31) dx_X0_measureLengths_24 rfl (by omega) (by omega) (fun c24 => ?_) (fun c24 => ?_)
        · refine go_iconst dx_X0_measureLengths_31 ?_
          refine go_cS3 ss_X0_52 dx_X0_measureLengths_32 (Nat.le_of_ble_eq_true rfl) (Nat.le_of_ble_eq_true rfl) (g_putIntN (i := x) (bi_k8 ho) (by omega) (by rw [(bi_l8 ho)]; omega) ?_)
          refine go_iinc (lv' := [(0, vv_A o), (1, vv_I ((x : Int) + 1))]) dx_X0_measureLengths_35 rfl (by decide) rfl ?_
          refine go_goto (tgt := 2) dx_X0_measureLengths_38 rfl ?_
          exact step _ (by rw [if_neg (by omega)]; rfl)
        · refine go_iconst dx_X0_measureLengths_27 ?_
          refine go_goto (tgt := 32) dx_X0_measureLengths_28 rfl ?_
          refine go_cS3 ss_X0_52 dx_X0_measureLengths_32 (Nat.le_of_ble_eq_true rfl) (Nat.le_of_ble_eq_true rfl) (g_putIntN (i := x) (bi_k8 ho) (by omega) (by rw [(bi_l8 ho)]; omega) ?_)
          refine go_iinc (lv' := [(0, vv_A o), (1, vv_I ((x : Int) + 1))]) dx_X0_measureLengths_35 rfl (by decide) rfl ?_
          refine go_goto (tgt := 2) dx_X0_measureLengths_38 rfl ?_
          exact step _ (by rw [if_pos (by omega)]; rfl)
    ) (fun δ1 hI => by
      have hc := bq_fr hb.1 (δ' := δ1) (fun c j h1 h2 h3 => hI.2 c j (by omega) (by omega))
      refine go_iload_n (i := 1) dx_X0_measureLengths_2 rfl rfl ?_
      refine go_aload_n (i := 0) dx_X0_measureLengths_3 rfl rfl ?_
      refine go_cV0 sv_X0_93 (bi_k0 ho) dx_X0_measureLengths_4 (Nat.le_of_ble_eq_true rfl) (Nat.le_of_ble_eq_true rfl) (g_Binary_symbolCount ho hc ?_)
      refine go_icmp_ge (tgt := 41) dx_X0_measureLengths_7 rfl (by omega) (by omega) (fun c7 => ?_) (fun c7 => by exact absurd c7 (by omega))
      refine go_aload_n (i := 0) dx_X0_measureLengths_41 rfl rfl ?_
      refine go_ldc2 (x := 16128) kx_X0_97 dx_X0_measureLengths_42 ?_
      refine go_putL fp_X0_99 rfl rfl (bi_k0 ho) dx_X0_measureLengths_45 ?_
      refine go_iconst dx_X0_measureLengths_48 ?_
      refine go_istore_n (i := 1) (lv' := [(0, vv_A o), (1, vv_I 1)]) dx_X0_measureLengths_49 rfl (by decide) rfl ?_
      refine go_iconst dx_X0_measureLengths_50 ?_
      refine go_istore_n (i := 2) (lv' := [(0, vv_A o), (1, vv_I 1), (2, vv_I 0)]) dx_X0_measureLengths_51 rfl (by decide) rfl ?_
      refine loop 0 (_, (fun z => if 8 ≤ z ∧ z < 14 then some 1 else none), 1) (Nat.zero_le _) ⟨⟨by omega, fun x hx => ?_, fun x hx => if_neg (by omega), 16128, ?_, by decide, fun x => ?_⟩, fun x k hk => ?_, fun x k hk => ?_, Or.inr rfl, fun q => absurd (show (1 : Int) = 0 from q) (by decide), fun c j h1 h2 => ?_⟩
      · show wr δ1 o 11 _ (o + 8) x = _
        rw [wr_n (by omega)]
        exact hI.1 x hx
      · exact wr_eq _ _ _ _
      · have e : (16128 : Nat) = mk 14 (fun x => 8 ≤ x) := mk_eq (by decide) (fun x hx => by revert hx; revert x; decide)
        rw [e, mk_bit]
        show _ ↔ (if 8 ≤ x ∧ x < 14 then some 1 else none : Option Nat) ≠ none
        by_cases q : 8 ≤ x ∧ x < 14
        · rw [if_pos q]; exact ⟨fun _ w => (by cases w), fun _ => ⟨q.2, q.1⟩⟩
        · rw [if_neg q]; exact ⟨fun w => absurd ⟨w.2, w.1⟩ q, fun w => absurd rfl w⟩
      · dsimp only at hk
        by_cases q : 8 ≤ x ∧ x < 14
        · rw [if_pos q] at hk
          cases hk
          refine ⟨⟨[x], rfl, dx_let q.1 q.2⟩, ?_⟩
          rw [sm_14 q.2, Nat.one_mul]
          exact Nat.pow_pos (by decide)
        · rw [if_neg q] at hk; cases hk
      · obtain ⟨q1, q2, rfl⟩ := hk
        exact ⟨1, Nat.le_refl _, if_pos ⟨q1, q2⟩⟩
      · show wr δ1 o 11 _ c j = _
        rw [wr_n h2]
        exact hI.2 c j h1 h2
    )
  refine go_iconst dx_X0_measureLengths_0 ?_
  refine go_istore_n (i := 1) (lv' := [(0, vv_A o), (1, vv_I 0)]) dx_X0_measureLengths_1 rfl (by decide) rfl ?_
  exact first 0 δ (Nat.zero_le _) ⟨fun z hz => absurd hz (Nat.not_lt_zero _), fun _ _ _ _ => rfl⟩
theorem g_walk (ho : bi_ok o) : ∀ (f : Nat) (δ : Nat → Nat → Int) (Q : List go_V → go_F → (Nat → Nat → Int) → Prop) (b y p : Nat), bi_at δ o R → y < 8 → b < 256 → p + f = 8 →
    (∀ δ', (∀ z, z < 8 → δ' (o + 10) z = δ (o + 10) z + (wy (un R) f (b ||| 2 ^ y) y z : Int)) → (∀ c j, c ≠ o + 10 → δ' c j = δ c j) → Q [] go_φ δ') →
    Go E (d + f) (0, 0) mx_X0_walk go_φ 0 [(0, vv_A (o + 5)), (1, vv_A (o + 10)), (2, vv_I (y : Int)), (3, vv_I (b : Int)), (4, vv_I (p : Int))] [] δ Q := by
  have ha5 : (go_kd (o + 5) = 20 ∨ go_kd (o + 5) = 21 ∨ go_kd (o + 5) = 22 ∨ go_kd (o + 5) = 23) ∧ o + 5 < go_φ.1 := ⟨Or.inl (bi_k5 ho).1, (bi_k5 ho).2⟩
  have ha10 : (go_kd (o + 10) = 20 ∨ go_kd (o + 10) = 21 ∨ go_kd (o + 10) = 22 ∨ go_kd (o + 10) = 23) ∧ o + 10 < go_φ.1 := ⟨Or.inl (bi_k10 ho).1, (bi_k10 ho).2⟩
  have hl5 := bi_l5 ho
  have hl10 := bi_l10 ho
  intro f
  induction f with
  | zero =>
    intro δ Q b y p hb hy hb2 hp hQ
    refine go_iload dx_X0_walk_0 rfl ?_
    refine go_bipush dx_X0_walk_2 rfl ?_
    refine go_icmp_ge (tgt := 23) dx_X0_walk_4 rfl (by omega) (by omega) (fun c4 => ?_) (fun c4 => by exact absurd c4 (by omega))
    refine go_vreturn dx_X0_walk_23 rfl (Nat.le_refl _) (Nat.le_refl _) ?_
    exact hQ δ (fun z _ => by show _ = _ + ((0 : Nat) : Int); omega) (fun _ _ _ => rfl)
  | succ f ihf =>
    intro δ Q b y p hb hy hb2 hp hQ
    have hR := hb.2.2.2.2.2.2
    have hS : b ||| 2 ^ y < 2 ^ 8 := Nat.or_lt_two_pow hb2 (Nat.pow_lt_pow_right (by decide) hy)
    have hS31 := bt_m31 hS (by decide)
    have h14 := mk_31 14 (un R y) (by decide)
    have hdl := bt_dif_le (mk 14 (un R y)) (b ||| 2 ^ y)
    have hbit : ∀ q, (bt_dif (mk 14 (un R y)) (b ||| 2 ^ y)).testBit q = true ↔ un R y q ∧ ¬ (b ||| 2 ^ y).testBit q = true := fun q => by
      rw [bt_dif_bit, Bool.and_eq_true, mk_bit, Bool.not_eq_true', bt_fls]
      exact ⟨fun w => ⟨w.1.2, w.2⟩, fun w => ⟨⟨(un_lt hR w.1).2, w.1⟩, w.2⟩⟩
    have loop := lp_up (X := Nat → Nat → Int) (hi := 8)
      (I := fun i δ1 => (∀ z, z < 8 → δ1 (o + 10) z = δ (o + 10) z + ((n01 (y = z) + su i (fun q => nif (un R y q ∧ ¬ (b ||| 2 ^ y).testBit q = true) (wy (un R) f ((b ||| 2 ^ y) ||| 2 ^ q) q z)) : Nat) : Int)) ∧ (∀ c j, c ≠ o + 10 → δ1 c j = δ c j))
      (G := fun i δ1 => Go E (d + (f + 1)) (0, 0) mx_X0_walk go_φ 51 [(0, vv_A (o + 5)), (1, vv_A (o + 10)), (2, vv_I (y : Int)), (3, vv_I (b : Int)), (4, vv_I (p : Int)), (5, vv_I ((b ||| 2 ^ y : Nat) : Int)), (6, vv_I (bt_dif (mk 14 (un R y)) (b ||| 2 ^ y) : Int)), (7, vv_I (i : Int))] [] δ1 Q)
      (fun i δ1 hi hI ih => by
        have hb1 : bi_at δ1 o R := bi_fr hb (fun c j h1 h2 => hI.2 c j (by omega))
        refine go_iload dx_X0_walk_51 rfl ?_
        refine go_bipush dx_X0_walk_53 rfl ?_
        refine go_icmp_ge (tgt := 87) dx_X0_walk_55 rfl (by omega) (by omega) (fun c55 => by exact absurd c55 (by omega)) (fun c55 => ?_)
        refine go_iload dx_X0_walk_58 rfl ?_
        refine go_iload dx_X0_walk_60 rfl ?_
        refine go_iushr dx_X0_walk_62 ?_
        refine go_iconst dx_X0_walk_63 ?_
        refine go_iand dx_X0_walk_64 ?_
        refine go_asI (y := (b01 ((bt_dif (mk 14 (un R y)) (b ||| 2 ^ y)).testBit i = true))) (by exact bv_tstb (by omega) (by omega)) ?_
        refine go_b_eq (tgt := 81) dx_X0_walk_65 rfl (fun c65 => ?_) (fun c65 => ?_)
        · refine go_iinc (lv' := [(0, vv_A (o + 5)), (1, vv_A (o + 10)), (2, vv_I (y : Int)), (3, vv_I (b : Int)), (4, vv_I (p : Int)), (5, vv_I ((b ||| 2 ^ y : Nat) : Int)), (6, vv_I (bt_dif (mk 14 (un R y)) (b ||| 2 ^ y) : Int)), (7, vv_I ((i : Int) + 1))]) dx_X0_walk_81 rfl (by decide) rfl ?_
          refine go_goto (tgt := 51) dx_X0_walk_84 rfl ?_
          refine ih δ1 ⟨fun z hz => ?_, hI.2⟩
          rw [hI.1 z hz, su_s, nif_f (fun w => c65 ((hbit i).mpr w))]
          omega
        · refine go_aload_n (i := 0) dx_X0_walk_68 rfl rfl ?_
          refine go_aload_n (i := 1) dx_X0_walk_69 rfl rfl ?_
          refine go_iload dx_X0_walk_70 rfl ?_
          refine go_iload dx_X0_walk_72 rfl ?_
          refine go_iload dx_X0_walk_74 rfl ?_
          refine go_iconst dx_X0_walk_76 ?_
          refine go_iadd dx_X0_walk_77 ?_
          refine go_asI (y := ((p + 1 : Nat) : Int)) (by omega) ?_
          refine go_cS5 ss_X0_127 dx_X0_walk_78 (Nat.le_of_ble_eq_true rfl) (Nat.le_of_ble_eq_true rfl) (ihf δ1 _ (b ||| 2 ^ y) i (p + 1) hb1 hi hS (by omega) (fun δ2 h2 f2 => ?_))
          refine go_iinc (lv' := [(0, vv_A (o + 5)), (1, vv_A (o + 10)), (2, vv_I (y : Int)), (3, vv_I (b : Int)), (4, vv_I (p : Int)), (5, vv_I ((b ||| 2 ^ y : Nat) : Int)), (6, vv_I (bt_dif (mk 14 (un R y)) (b ||| 2 ^ y) : Int)), (7, vv_I ((i : Int) + 1))]) dx_X0_walk_81 rfl (by decide) rfl ?_
          refine go_goto (tgt := 51) dx_X0_walk_84 rfl ?_
          refine ih δ2 ⟨fun z hz => ?_, fun c j h1 => (f2 c j h1).trans (hI.2 c j h1)⟩
          rw [h2 z hz, hI.1 z hz, su_s, nif_t ((hbit i).mp c65)]
          omega
      ) (fun δ1 hI => by
        refine go_iload dx_X0_walk_51 rfl ?_
        refine go_bipush dx_X0_walk_53 rfl ?_
        refine go_icmp_ge (tgt := 87) dx_X0_walk_55 rfl (by omega) (by omega) (fun c55 => ?_) (fun c55 => by exact absurd c55 (by omega))
        refine go_vreturn dx_X0_walk_87 rfl (Nat.le_refl _) (Nat.le_refl _) ?_
        exact hQ δ1 (fun z hz => by rw [hI.1 z hz, wy_s]) hI.2
      )
    refine go_iload dx_X0_walk_0 rfl ?_
    refine go_bipush dx_X0_walk_2 rfl ?_
    refine go_icmp_ge (tgt := 23) dx_X0_walk_4 rfl (by omega) (by omega) (fun c4 => by exact absurd c4 (by omega)) (fun c4 => ?_)
    refine go_iload_n (i := 2) dx_X0_walk_7 rfl rfl ?_
    refine go_if_lt (tgt := 23) dx_X0_walk_8 rfl (by omega) (fun c8 => by exact absurd c8 (by omega)) (fun c8 => ?_)
    refine go_iload_n (i := 2) dx_X0_walk_11 rfl rfl ?_
    refine go_aload_n (i := 0) dx_X0_walk_12 rfl rfl ?_
    refine go_arraylength dx_X0_walk_13 (by assumption) ?_
    refine go_asI (y := ((8 : Nat) : Int)) (by rw [hl5]) ?_
    refine go_icmp_ge (tgt := 23) dx_X0_walk_14 rfl (by omega) (by omega) (fun c14 => by exact absurd c14 (by omega)) (fun c14 => ?_)
    refine go_iload_n (i := 2) dx_X0_walk_17 rfl rfl ?_
    refine go_aload_n (i := 1) dx_X0_walk_18 rfl rfl ?_
    refine go_arraylength dx_X0_walk_19 (by assumption) ?_
    refine go_asI (y := ((8 : Nat) : Int)) (by rw [hl10]) ?_
    refine go_icmp_lt (tgt := 24) dx_X0_walk_20 rfl (by omega) (by omega) (fun c20 => ?_) (fun c20 => by exact absurd c20 (by omega))
    refine go_aload_n (i := 1) dx_X0_walk_24 rfl rfl ?_
    refine go_iload_n (i := 2) dx_X0_walk_25 rfl rfl ?_
    refine go_dup2 dx_X0_walk_26 rfl rfl ?_
    refine go_ialoadV (i := y) (v := ((δ (o + 10) y))) dx_X0_walk_27 (bi_k10 ho) (by omega) (by rw [(bi_l10 ho)]; omega) (by rfl) ?_
    refine go_iconst dx_X0_walk_28 ?_
    refine go_iadd dx_X0_walk_29 ?_
    refine go_iastoreV (i := y) dx_X0_walk_30 (bi_k10 ho) (by omega) (by rw [(bi_l10 ho)]; omega) ?_
    refine go_iload_n (i := 3) dx_X0_walk_31 rfl rfl ?_
    refine go_iconst dx_X0_walk_32 ?_
    refine go_iload_n (i := 2) dx_X0_walk_33 rfl rfl ?_
    refine go_ishl dx_X0_walk_34 ?_
    refine go_asI (y := ((2 ^ y : Nat) : Int)) (by exact bv_bit (by omega)) ?_
    refine go_ior dx_X0_walk_35 ?_
    refine go_asI (y := ((b ||| 2 ^ y : Nat) : Int)) (by exact bv_orN (by omega) (bt_p31 hy (by decide))) ?_
    refine go_istore (lv' := [(0, vv_A (o + 5)), (1, vv_A (o + 10)), (2, vv_I (y : Int)), (3, vv_I (b : Int)), (4, vv_I (p : Int)), (5, vv_I ((b ||| 2 ^ y : Nat) : Int))]) dx_X0_walk_36 (by decide) rfl ?_
    refine go_aload_n (i := 0) dx_X0_walk_38 rfl rfl ?_
    refine go_iload_n (i := 2) dx_X0_walk_39 rfl rfl ?_
    refine go_ialoadV (i := y) (v := ((mk 14 (un R y) : Int))) dx_X0_walk_40 (bi_k5 ho) (by omega) (by rw [(bi_l5 ho)]; omega) (by rw [wr_n (by omega)]; exact hb.2.2.1 y hy) ?_
    refine go_iload dx_X0_walk_41 rfl ?_
    refine go_iconst dx_X0_walk_43 ?_
    refine go_ixor dx_X0_walk_44 ?_
    refine go_iand dx_X0_walk_45 ?_
    refine go_asI (y := (bt_dif (mk 14 (un R y)) (b ||| 2 ^ y) : Int)) (by exact bv_andnot h14 hS31) ?_
    refine go_istore (lv' := [(0, vv_A (o + 5)), (1, vv_A (o + 10)), (2, vv_I (y : Int)), (3, vv_I (b : Int)), (4, vv_I (p : Int)), (5, vv_I ((b ||| 2 ^ y : Nat) : Int)), (6, vv_I (bt_dif (mk 14 (un R y)) (b ||| 2 ^ y) : Int))]) dx_X0_walk_46 (by decide) rfl ?_
    refine go_iconst dx_X0_walk_48 ?_
    refine go_istore (lv' := [(0, vv_A (o + 5)), (1, vv_A (o + 10)), (2, vv_I (y : Int)), (3, vv_I (b : Int)), (4, vv_I (p : Int)), (5, vv_I ((b ||| 2 ^ y : Nat) : Int)), (6, vv_I (bt_dif (mk 14 (un R y)) (b ||| 2 ^ y) : Int)), (7, vv_I 0)]) dx_X0_walk_49 (by decide) rfl ?_
    refine loop 0 _ (Nat.zero_le _) ⟨fun z hz => ?_, fun c j h1 => wr_a _ _ _ _ h1 _⟩
    by_cases e : z = y
    · subst e
      rw [wr_eq, n01_t rfl]
      rfl
    · rw [wr_i _ _ _ _ e, n01_f (fun w => e w.symm)]
      show _ = _ + ((0 : Nat) : Int)
      omega
theorem g_Binary_countWays {b y : Nat} (ho : bi_ok o) (hb : bi_at δ o R) (hy : y < 8) (hb2 : b < 256) (hQ : ∀ δ', (∀ z, z < 8 → δ' (o + 10) z = (wy (un R) 8 (b ||| 2 ^ y) y z : Int)) → (∀ c j, c ≠ o + 10 → δ' c j = δ c j) → Q [] go_φ δ') :
    Go E (d + 9) (0, 0) mx_X0_countWays go_φ 0 [(0, vv_A o), (1, vv_I (y : Int)), (2, vv_I (b : Int))] [] δ Q := by
  have ha : (go_kd (o + 10) = 20 ∨ go_kd (o + 10) = 21 ∨ go_kd (o + 10) = 22 ∨ go_kd (o + 10) = 23) ∧ o + 10 < go_φ.1 := ⟨Or.inl (bi_k10 ho).1, (bi_k10 ho).2⟩
  have hl := bi_l10 ho
  have loop := lp_up (X := Nat → Nat → Int) (hi := 8) (I := fun x δ1 => (∀ z, z < x → δ1 (o + 10) z = 0) ∧ (∀ c j, c ≠ o + 10 → δ1 c j = δ c j))
    (G := fun x δ1 => Go E (d + 9) (0, 0) mx_X0_countWays go_φ 2 [(0, vv_A o), (1, vv_I (y : Int)), (2, vv_I (b : Int)), (3, vv_I (x : Int))] [] δ1 Q) (fun x δ1 hx hI ih => by
      refine go_iload_n (i := 3) dx_X0_countWays_2 rfl rfl ?_
      refine go_aload_n (i := 0) dx_X0_countWays_3 rfl rfl ?_
      refine go_getA (b := (o + 10)) fs_X0_39 rfl (bi_k0 ho) (bi_r13 ho) dx_X0_countWays_4 ?_
      refine go_arraylength dx_X0_countWays_7 (by assumption) ?_
      refine go_asI (y := ((8 : Nat) : Int)) (by rw [hl]) ?_
      refine go_icmp_ge (tgt := 24) dx_X0_countWays_8 rfl (by omega) (by omega) (fun c8 => by exact absurd c8 (by omega)) (fun c8 => ?_)
      refine go_aload_n (i := 0) dx_X0_countWays_11 rfl rfl ?_
      refine go_getA (b := (o + 10)) fs_X0_39 rfl (bi_k0 ho) (bi_r13 ho) dx_X0_countWays_12 ?_
      refine go_iload_n (i := 3) dx_X0_countWays_15 rfl rfl ?_
      refine go_iconst dx_X0_countWays_16 ?_
      refine go_iastoreV (i := x) dx_X0_countWays_17 (bi_k10 ho) (by omega) (by rw [(bi_l10 ho)]; omega) ?_
      refine go_iinc (lv' := [(0, vv_A o), (1, vv_I (y : Int)), (2, vv_I (b : Int)), (3, vv_I ((x : Int) + 1))]) dx_X0_countWays_18 rfl (by decide) rfl ?_
      refine go_goto (tgt := 2) dx_X0_countWays_21 rfl ?_
      exact ih _ ⟨fun z hz => by
        by_cases e : z = x
        · subst e; rw [wr_eq]
        · rw [wr_i _ _ _ _ e]; exact hI.1 z (by omega), fun c j h1 => by rw [wr_a _ _ _ _ h1]; exact hI.2 c j h1⟩
    ) (fun δ1 hI => by
      refine go_iload_n (i := 3) dx_X0_countWays_2 rfl rfl ?_
      refine go_aload_n (i := 0) dx_X0_countWays_3 rfl rfl ?_
      refine go_getA (b := (o + 10)) fs_X0_39 rfl (bi_k0 ho) (bi_r13 ho) dx_X0_countWays_4 ?_
      refine go_arraylength dx_X0_countWays_7 (by assumption) ?_
      refine go_asI (y := ((8 : Nat) : Int)) (by rw [hl]) ?_
      refine go_icmp_ge (tgt := 24) dx_X0_countWays_8 rfl (by omega) (by omega) (fun c8 => ?_) (fun c8 => by exact absurd c8 (by omega))
      refine go_aload_n (i := 0) dx_X0_countWays_24 rfl rfl ?_
      refine go_getA (b := (o + 5)) fs_X0_24 rfl (bi_k0 ho) (bi_r6 ho) dx_X0_countWays_25 ?_
      refine go_aload_n (i := 0) dx_X0_countWays_28 rfl rfl ?_
      refine go_getA (b := (o + 10)) fs_X0_39 rfl (bi_k0 ho) (bi_r13 ho) dx_X0_countWays_29 ?_
      refine go_iload_n (i := 1) dx_X0_countWays_32 rfl rfl ?_
      refine go_iload_n (i := 2) dx_X0_countWays_33 rfl rfl ?_
      refine go_iconst dx_X0_countWays_34 ?_
      refine go_asI (y := ((0 : Nat) : Int)) (by rfl) ?_
      refine go_cS5 ss_X0_127 dx_X0_countWays_35 (Nat.le_of_ble_eq_true rfl) (Nat.le_of_ble_eq_true rfl) (g_walk ho 8 δ1 _ b y 0 (bi_fr hb (fun c j a1 a2 => hI.2 c j (by omega))) hy hb2 (by decide) (fun δ2 h2 f2 => ?_))
      refine go_vreturn dx_X0_countWays_38 rfl (Nat.le_refl _) (Nat.le_refl _) ?_
      exact hQ δ2 (fun z hz => by rw [h2 z hz, hI.1 z hz]; omega) (fun c j a => (f2 c j a).trans (hI.2 c j a))
    )
  refine go_iconst dx_X0_countWays_0 ?_
  refine go_istore_n (i := 3) (lv' := [(0, vv_A o), (1, vv_I (y : Int)), (2, vv_I (b : Int)), (3, vv_I 0)]) dx_X0_countWays_1 rfl (by decide) rfl ?_
  exact loop 0 δ (Nat.zero_le _) ⟨fun z hz => absurd hz (Nat.not_lt_zero _), fun _ _ _ => rfl⟩
theorem g_Binary_measure (ho : bi_ok o) (hb : bi_at δ o R) (hQ : ∀ δ', bm_at δ' o R → (∀ c j, ¬ (o + 8 ≤ c ∧ c ≤ o + 10) → (c = o → j ≠ 11) → δ' c j = δ c j) → Q [] go_φ δ') :
    Go E (d + 10) (0, 0) mx_X0_measure go_φ 0 [(0, vv_A o)] [] δ Q := by
  have inner : ∀ x, x < 8 → ∀ δ1 : Nat → Nat → Int, (∀ δ2 : Nat → Nat → Int, (∀ z, z < 8 → δ2 (o + 9) (8 * x + z) = δ1 (o + 10) z) → (∀ c j, (c = o + 9 → ¬ (8 * x ≤ j ∧ j < 8 * x + 8)) → δ2 c j = δ1 c j) → Go E (d + 10) (0, 0) mx_X0_measure go_φ 6 [(0, vv_A o), (1, vv_I ((x + 1 : Nat) : Int))] [] δ2 Q) →
      Go E (d + 10) (0, 0) mx_X0_measure go_φ 20 [(0, vv_A o), (1, vv_I (x : Int)), (2, vv_I 0)] [] δ1 Q := fun x hx δ1 KK => by
    refine lp_up (X := Nat → Nat → Int) (hi := 8) (I := fun z0 δ2 => (∀ z, z < z0 → δ2 (o + 9) (8 * x + z) = δ1 (o + 10) z) ∧ (∀ c j, (c = o + 9 → ¬ (8 * x ≤ j ∧ j < 8 * x + 8)) → δ2 c j = δ1 c j))
      (G := fun z0 δ2 => Go E (d + 10) (0, 0) mx_X0_measure go_φ 20 [(0, vv_A o), (1, vv_I (x : Int)), (2, vv_I (z0 : Int))] [] δ2 Q) (fun z0 δ2 hz hI ih => by
        refine go_iload_n (i := 2) dx_X0_measure_20 rfl rfl ?_
        refine go_bipush dx_X0_measure_21 rfl ?_
        refine go_icmp_ge (tgt := 53) dx_X0_measure_23 rfl (by omega) (by omega) (fun c23 => by exact absurd c23 (by omega)) (fun c23 => ?_)
        refine go_aload_n (i := 0) dx_X0_measure_26 rfl rfl ?_
        refine go_getA (b := (o + 9)) fs_X0_36 rfl (bi_k0 ho) (bi_r12 ho) dx_X0_measure_27 ?_
        refine go_iload_n (i := 1) dx_X0_measure_30 rfl rfl ?_
        refine go_bipush dx_X0_measure_31 rfl ?_
        refine go_imul dx_X0_measure_33 ?_
        refine go_iload_n (i := 2) dx_X0_measure_34 rfl rfl ?_
        refine go_iadd dx_X0_measure_35 ?_
        refine go_aload_n (i := 0) dx_X0_measure_36 rfl rfl ?_
        refine go_getA (b := (o + 10)) fs_X0_39 rfl (bi_k0 ho) (bi_r13 ho) dx_X0_measure_37 ?_
        refine go_iload_n (i := 2) dx_X0_measure_40 rfl rfl ?_
        refine go_cS2 ss_X0_75 dx_X0_measure_41 (Nat.le_of_ble_eq_true rfl) (Nat.le_of_ble_eq_true rfl) (g_intAtV (i := z0) (v := ((δ1 (o + 10) z0))) (bi_k10 ho) (by omega) (by rw [(bi_l10 ho)]; omega) (by exact hI.2 _ _ (by omega)) ?_)
        refine go_cS3 ss_X0_52 dx_X0_measure_44 (Nat.le_of_ble_eq_true rfl) (Nat.le_of_ble_eq_true rfl) (g_putIntN (i := 8 * x + z0) (bi_k9 ho) (by omega) (by rw [(bi_l9 ho)]; omega) ?_)
        refine go_iinc (lv' := [(0, vv_A o), (1, vv_I (x : Int)), (2, vv_I ((z0 : Int) + 1))]) dx_X0_measure_47 rfl (by decide) rfl ?_
        refine go_goto (tgt := 20) dx_X0_measure_50 rfl ?_
        exact ih _ ⟨fun z hz' => by
          by_cases e : z = z0
          · subst e; rw [wr_eq]
          · rw [wr_i _ _ _ _ (by omega)]; exact hI.1 z (by omega), fun c j h1 => by rw [wr_n (by omega)]; exact hI.2 c j h1⟩
      ) (fun δ2 hI => by
        refine go_iload_n (i := 2) dx_X0_measure_20 rfl rfl ?_
        refine go_bipush dx_X0_measure_21 rfl ?_
        refine go_icmp_ge (tgt := 53) dx_X0_measure_23 rfl (by omega) (by omega) (fun c23 => ?_) (fun c23 => by exact absurd c23 (by omega))
        refine go_iinc (lv' := [(0, vv_A o), (1, vv_I ((x : Int) + 1)), (2, vv_I ((8 : Nat) : Int))]) dx_X0_measure_53 rfl (by decide) rfl ?_
        refine go_goto (tgt := 6) dx_X0_measure_56 rfl ?_
        refine go_keep [0, 1] rfl ?_
        exact KK δ2 hI.1 hI.2
      ) 0 δ1 (Nat.zero_le _) ⟨fun z hz => absurd hz (Nat.not_lt_zero _), fun _ _ _ => rfl⟩
  have loop := lp_up (X := Nat → Nat → Int) (hi := 8) (I := fun x δ1 => bl_at δ1 o R ∧ bi_at δ1 o R ∧ (∀ x' z, x' < x → z < 8 → δ1 (o + 9) (8 * x' + z) = (wy (un R) 8 (2 ^ x') x' z : Int)) ∧ (∀ c j, ¬ (o + 8 ≤ c ∧ c ≤ o + 10) → (c = o → j ≠ 11) → δ1 c j = δ c j))
    (G := fun x δ1 => Go E (d + 10) (0, 0) mx_X0_measure go_φ 6 [(0, vv_A o), (1, vv_I (x : Int))] [] δ1 Q) (fun x δ1 hx hI ih => by
      obtain ⟨i1, i2, i3, i4⟩ := hI
      refine go_iload_n (i := 1) dx_X0_measure_6 rfl rfl ?_
      refine go_bipush dx_X0_measure_7 rfl ?_
      refine go_icmp_ge (tgt := 59) dx_X0_measure_9 rfl (by omega) (by omega) (fun c9 => by exact absurd c9 (by omega)) (fun c9 => ?_)
      refine go_aload_n (i := 0) dx_X0_measure_12 rfl rfl ?_
      refine go_iload_n (i := 1) dx_X0_measure_13 rfl rfl ?_
      refine go_iconst dx_X0_measure_14 ?_
      refine go_asI (y := ((0 : Nat) : Int)) (by rfl) ?_
      refine go_cV2 sv_X0_90 (bi_k0 ho) dx_X0_measure_15 (Nat.le_of_ble_eq_true rfl) (Nat.le_of_ble_eq_true rfl) (g_Binary_countWays (b := 0) ho i2 hx (by decide) (fun δ3 h3 f3 => ?_))
      refine go_iconst dx_X0_measure_18 ?_
      refine go_istore_n (i := 2) (lv' := [(0, vv_A o), (1, vv_I (x : Int)), (2, vv_I 0)]) dx_X0_measure_19 rfl (by decide) rfl ?_
      refine inner x hx δ3 (fun δ4 h4 f4 => ih δ4 ⟨⟨fun y hy => ?_, ?_⟩, ?_, fun x' z hx' hz => ?_, fun c j a1 a2 => ?_⟩)
      · rw [f4 _ _ (by omega), f3 _ _ (by omega)]; exact i1.1 y hy
      · rw [f4 _ _ (by omega), f3 _ _ (by omega)]; exact i1.2
      · exact bi_fr i2 (fun c j a1 a2 => by rw [f4 _ _ (by omega), f3 _ _ (by omega)])
      · by_cases e : x' = x
        · subst e
          rw [h4 z hz, h3 z hz, Nat.zero_or]
        · rw [f4 _ _ (by omega), f3 _ _ (by omega)]; exact i3 x' z (by omega) hz
      · rw [f4 _ _ (by omega), f3 _ _ (by omega)]; exact i4 c j a1 a2
    ) (fun δ1 hI => by
      refine go_iload_n (i := 1) dx_X0_measure_6 rfl rfl ?_
      refine go_bipush dx_X0_measure_7 rfl ?_
      refine go_icmp_ge (tgt := 59) dx_X0_measure_9 rfl (by omega) (by omega) (fun c9 => ?_) (fun c9 => by exact absurd c9 (by omega))
      refine go_vreturn dx_X0_measure_59 rfl (Nat.le_refl _) (Nat.le_refl _) ?_
      exact hQ δ1 ⟨hI.1, fun x z hx hz => hI.2.2.1 x z hx hz⟩ hI.2.2.2
    )
  refine go_aload_n (i := 0) dx_X0_measure_0 rfl rfl ?_
  refine go_cV0 sv_X0_87 (bi_k0 ho) dx_X0_measure_1 (Nat.le_of_ble_eq_true rfl) (Nat.le_of_ble_eq_true rfl) (g_Binary_measureLengths ho hb (fun δ1 h1 f1 => ?_))
  refine go_iconst dx_X0_measure_4 ?_
  refine go_istore_n (i := 1) (lv' := [(0, vv_A o), (1, vv_I 0)]) dx_X0_measure_5 rfl (by decide) rfl ?_
  exact loop 0 δ1 (Nat.zero_le _) ⟨h1, bi_fr hb (fun c j a1 a2 => f1 c j (by omega) (by omega)), fun x' z hx' => absurd hx' (Nat.not_lt_zero _), fun c j a1 a2 => f1 c j (by omega) a2⟩
end GMEAS2
