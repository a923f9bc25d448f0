/-! the class's tables: least values over units, sets of what may be -/
theorem tb_min_li {P P' S : Nat → Prop} (h : ∀ v, S v ↔ P v ∨ P' v) (h2 : li P' ≠ -1) : tb_min (li P) (li P') = li S := by
  rw [li_or h, if_neg h2]
  unfold tb_min
  by_cases q : li P = -1
  · rw [if_pos q, if_pos (Or.inl q)]
  · rw [if_neg q]
    by_cases q2 : li P' < li P
    · rw [if_pos q2, if_pos (Or.inr q2)]
    · rw [if_neg q2, if_neg (fun z => z.elim q q2)]
theorem li_rng {P : Nat → Prop} (h : ∀ v, P v → ∃ m, m < 4611686018427387904 ∧ P m) : go_iL (li P) := by
  rcases li_cases P with ⟨e, _⟩ | ⟨n, e, q, q2⟩
  · rw [e]; exact ⟨by decide, by decide⟩
  · rw [e]
    obtain ⟨m, h1, h2⟩ := h n q
    have := q2 m h2
    exact ⟨by omega, by omega⟩
def bdd (P : Nat → Prop) : Prop := ∀ v, P v → ∃ m, m < 4611686018427387904 ∧ P m
theorem li_ne {P : Nat → Prop} {v : Nat} (h : P v) : li P ≠ -1 := by
  rcases li_cases P with ⟨e, q⟩ | ⟨n, e, _, _⟩
  · exact absurd h (q v)
  · rw [e]; omega
def ufn (R : Nat → List Nat) (C : Nat → Nat → Prop) (x v : Nat) : Prop := C x v ∨ ∃ y, ut R x y ∧ C y v
/-- what comes together over the cuts of a span: letters, all pairs at cuts ahead of one, some pairs at that one -/
def cst (R : Nat → List Nat) (L : Nat → Nat → Prop) (P : tP → Nat → Nat → Prop) (i k p x v : Nat) : Prop := L x v ∨ (∃ k', i < k' ∧ k' < k ∧ ∃ e, e ∈ gP R ∧ e.1 = x ∧ P e k' v) ∨ ∃ e, e ∈ (gP R).take p ∧ e.1 = x ∧ P e k v
theorem cst_0 {R : Nat → List Nat} {L : Nat → Nat → Prop} {P : tP → Nat → Nat → Prop} {i x v : Nat} : cst R L P i (i + 1) 0 x v ↔ L x v := by
  constructor
  · rintro (h | ⟨k', h1, h2, _⟩ | ⟨e, he, _⟩)
    · exact h
    · omega
    · rw [List.take_zero] at he; cases he
  · exact Or.inl
theorem cst_s {R : Nat → List Nat} {L : Nat → Nat → Prop} {P : tP → Nat → Nat → Prop} {i k p x v : Nat} {e : tP} (he : (gP R)[p]? = some e) : cst R L P i k (p + 1) x v ↔ cst R L P i k p x v ∨ (e.1 = x ∧ P e k v) := by
  obtain ⟨hp, hpe⟩ := List.getElem?_eq_some_iff.mp he
  have ht : (gP R).take (p + 1) = (gP R).take p ++ [e] := by rw [← List.take_append_getElem hp, hpe]
  unfold cst
  rw [ht]
  constructor
  · rintro (h | h | ⟨e', h1, h2⟩)
    · exact Or.inl (Or.inl h)
    · exact Or.inl (Or.inr (Or.inl h))
    · rcases List.mem_append.mp h1 with q | q
      · exact Or.inl (Or.inr (Or.inr ⟨e', q, h2⟩))
      · rw [List.mem_singleton] at q; subst q; exact Or.inr h2
  · rintro ((h | h | ⟨e', h1, h2⟩) | h)
    · exact Or.inl h
    · exact Or.inr (Or.inl h)
    · exact Or.inr (Or.inr ⟨e', List.mem_append.mpr (Or.inl h1), h2⟩)
    · exact Or.inr (Or.inr ⟨e, List.mem_append.mpr (Or.inr (List.mem_singleton.mpr rfl)), h⟩)
theorem cst_n {R : Nat → List Nat} {L : Nat → Nat → Prop} {P : tP → Nat → Nat → Prop} {i k x v : Nat} (hk : i < k) : cst R L P i (k + 1) 0 x v ↔ cst R L P i k (gP R).length x v := by
  unfold cst
  rw [List.take_zero, List.take_length]
  constructor
  · rintro (h | ⟨k', h1, h2, h3⟩ | ⟨e, he, _⟩)
    · exact Or.inl h
    · by_cases q : k' = k
      · subst q; exact Or.inr (Or.inr h3)
      · exact Or.inr (Or.inl ⟨k', h1, by omega, h3⟩)
    · cases he
  · rintro (h | ⟨k', h1, h2, h3⟩ | h)
    · exact Or.inl h
    · exact Or.inr (Or.inl ⟨k', h1, by omega, h3⟩)
    · exact Or.inr (Or.inl ⟨k, hk, by omega, h⟩)
section TU_Rounds
variable {E : go_E} {d : Nat} {δ : Nat → Nat → Int} {Q : List go_V → go_F → (Nat → Nat → Int) → Prop} {o c ns : Nat} {al : Bool} {R : Nat → List Nat} {C : Nat → Nat → Prop}
theorem g_Rounds_takeUnits {s : Int} (ho : tb_ok 6 o c al) (hb : bi_at δ 33 R) (h3 : δ o 3 = -1) (hns : ns = 14 + (gH R).length) (hC : ∀ x, bdd (C x)) (hf : tfr δ o ns (fun x => li (C x)))
    (hQ : ∀ δ', tfr δ' o ns (fun x => li (ufn R C x)) → (∀ c j, c ≠ o + 2 → δ' c j = δ c j) → Q [] go_φ δ') :
    Go E (d + 2) (0, 0) mx_X7_takeUnits go_φ 0 [(0, vv_A o), (1, vv_I s)] [] δ Q := by
  have hoo := tb_o ho
  have hR := hb.2.2.2.2.2.2
  have inner : ∀ x, x < 8 → ∀ X : (Nat → Nat → Int) × (Nat → Nat → Prop), (tfr X.1 o ns (fun x => li (X.2 x)) ∧ (∀ z v, C z v → X.2 z v) ∧ (∀ z v, X.2 z v → ufn R C z v) ∧ (∀ z v, z < x → ufn R C z v → X.2 z v) ∧ (∀ c j, c ≠ o + 2 → X.1 c j = δ c j) ∧ (∀ z, bdd (X.2 z))) →
      (∀ X : (Nat → Nat → Int) × (Nat → Nat → Prop), (tfr X.1 o ns (fun x => li (X.2 x)) ∧ (∀ z v, C z v → X.2 z v) ∧ (∀ z v, X.2 z v → ufn R C z v) ∧ (∀ z v, z < x + 1 → ufn R C z v → X.2 z v) ∧ (∀ c j, c ≠ o + 2 → X.1 c j = δ c j) ∧ (∀ z, bdd (X.2 z))) → Go E (d + 2) (0, 0) mx_X7_takeUnits go_φ 2 [(0, vv_A o), (1, vv_I s), (2, vv_I ((x + 1 : Nat) : Int))] [] X.1 Q) →
      Go E (d + 2) (0, 0) mx_X7_takeUnits go_φ 23 [(0, vv_A o), (1, vv_I s), (2, vv_I (x : Int)), (3, vv_I (mk 14 (ut R x) : Int)), (4, vv_I 0)] [] X.1 Q := by
    intro x hx X hX KK
    have h14 := mk_31 14 (ut R x) (by decide)
    refine lp_up (X := (Nat → Nat → Int) × (Nat → Nat → Prop)) (hi := 14)
      (I := fun y0 X => tfr X.1 o ns (fun x => li (X.2 x)) ∧ (∀ z v, C z v → X.2 z v) ∧ (∀ z v, X.2 z v → ufn R C z v) ∧ (∀ z v, z < x → ufn R C z v → X.2 z v) ∧ (∀ y v, y < y0 → ut R x y → C y v → X.2 x v) ∧ (∀ c j, c ≠ o + 2 → X.1 c j = δ c j) ∧ (∀ z, bdd (X.2 z)))
      (G := fun y0 X => Go E (d + 2) (0, 0) mx_X7_takeUnits go_φ 23 [(0, vv_A o), (1, vv_I s), (2, vv_I (x : Int)), (3, vv_I (mk 14 (ut R x) : Int)), (4, vv_I (y0 : Int))] [] X.1 Q)
      (fun y0 X hy hI ih => ?_) (fun X hI => ?_) 0 X (Nat.zero_le _) ⟨hX.1, hX.2.1, hX.2.2.1, hX.2.2.2.1, fun y v q => absurd q (Nat.not_lt_zero _), hX.2.2.2.2⟩
    · obtain ⟨δ1, D⟩ := X
      obtain ⟨i1, i2, i3, i4, i5, i6, i7⟩ := hI
      dsimp only at i1 i2 i3 i4 i5 i6 i7 ⊢
      have hrx : go_iL (li (D x)) := li_rng (i7 x)
      have hry : go_iL (li (D y0)) := li_rng (i7 y0)
      have ex : δ1 (o + 2) x = li (D x) := i1 x (by omega)
      have ey : δ1 (o + 2) y0 = li (D y0) := i1 y0 (by omega)
      have stay : (ut R x y0 → ∀ v, ¬ D y0 v) → Go E (d + 2) (0, 0) mx_X7_takeUnits go_φ 23 [(0, vv_A o), (1, vv_I s), (2, vv_I (x : Int)), (3, vv_I (mk 14 (ut R x) : Int)), (4, vv_I ((y0 + 1 : Nat) : Int))] [] δ1 Q := fun hno =>
        ih (δ1, D) ⟨i1, i2, i3, i4, fun y v hy hu hc => by
          by_cases e : y = y0
          · subst e; exact absurd (i2 y v hc) (hno hu v)
          · exact i5 y v (by omega) hu hc, i6, i7⟩
      refine go_iload dx_X7_takeUnits_23 rfl ?_
      refine go_bipush dx_X7_takeUnits_25 rfl ?_
      refine go_icmp_ge (tgt := 91) dx_X7_takeUnits_27 rfl (by omega) (by omega) (fun c27 => by exact absurd c27 (by omega)) (fun c27 => ?_)
      refine go_iload_n (i := 3) dx_X7_takeUnits_30 rfl rfl ?_
      refine go_iload dx_X7_takeUnits_31 rfl ?_
      refine go_iushr dx_X7_takeUnits_33 ?_
      refine go_iconst dx_X7_takeUnits_34 ?_
      refine go_iand dx_X7_takeUnits_35 ?_
      refine go_asI (y := (b01 ((mk 14 (ut R x)).testBit y0 = true))) (by exact bv_tstb h14 (by omega)) ?_
      refine go_b_eq (tgt := 85) dx_X7_takeUnits_36 rfl (fun c36 => ?_) (fun c36 => ?_)
      · refine go_iinc (lv' := [(0, vv_A o), (1, vv_I s), (2, vv_I (x : Int)), (3, vv_I (mk 14 (ut R x) : Int)), (4, vv_I ((y0 : Int) + 1))]) dx_X7_takeUnits_85 rfl (by decide) rfl ?_
        refine go_goto (tgt := 23) dx_X7_takeUnits_88 rfl ?_
        exact stay (fun hu => absurd ((mk_bit _ _ _).mpr ⟨hy, hu⟩) c36)
      · refine go_aload_n (i := 0) dx_X7_takeUnits_39 rfl rfl ?_
        refine go_getA (b := (o + 2)) fs_X7_31_6 rfl (tb_k0 ho) (tb_r5 ho) dx_X7_takeUnits_40 ?_
        refine go_iload dx_X7_takeUnits_43 rfl ?_
        refine go_cS2 ss_X7_63 dx_X7_takeUnits_45 (Nat.le_of_ble_eq_true rfl) (Nat.le_of_ble_eq_true rfl) (g_longAtV (i := y0) (v := ((li (D y0)))) (tb_k2 ho) (by omega) (by rw [(tb_l2 ho)]; omega) (by exact ey) ?_)
        refine go_aload_n (i := 0) dx_X7_takeUnits_48 rfl rfl ?_
        refine go_getL fs_X7_23_6 rfl (tb_k0 ho) dx_X7_takeUnits_49 ?_
        refine go_asL (y := (-1)) (by rw [i6 _ _ (by omega)]; exact h3) ?_
        refine go_lcmp_eq (tgt := 85) dx_X7_takeUnits_52 dx_X7_takeUnits_53 rfl (by omega) (by omega) (fun c52 => ?_) (fun c52 => ?_)
        · refine go_iinc (lv' := [(0, vv_A o), (1, vv_I s), (2, vv_I (x : Int)), (3, vv_I (mk 14 (ut R x) : Int)), (4, vv_I ((y0 : Int) + 1))]) dx_X7_takeUnits_85 rfl (by decide) rfl ?_
          refine go_goto (tgt := 23) dx_X7_takeUnits_88 rfl ?_
          exact stay (fun _ v hv => absurd c52 (li_ne hv))
        · refine go_aload_n (i := 0) dx_X7_takeUnits_56 rfl rfl ?_
          refine go_getA (b := (o + 2)) fs_X7_31_6 rfl (tb_k0 ho) (tb_r5 ho) dx_X7_takeUnits_57 ?_
          refine go_iload_n (i := 2) dx_X7_takeUnits_60 rfl rfl ?_
          refine go_aload_n (i := 0) dx_X7_takeUnits_61 rfl rfl ?_
          refine go_aload_n (i := 0) dx_X7_takeUnits_62 rfl rfl ?_
          refine go_getA (b := (o + 2)) fs_X7_31_6 rfl (tb_k0 ho) (tb_r5 ho) dx_X7_takeUnits_63 ?_
          refine go_iload_n (i := 2) dx_X7_takeUnits_66 rfl rfl ?_
          refine go_cS2 ss_X7_63 dx_X7_takeUnits_67 (Nat.le_of_ble_eq_true rfl) (Nat.le_of_ble_eq_true rfl) (g_longAtV (i := x) (v := ((li (D x)))) (tb_k2 ho) (by omega) (by rw [(tb_l2 ho)]; omega) (by exact ex) ?_)
          refine go_aload_n (i := 0) dx_X7_takeUnits_70 rfl rfl ?_
          refine go_getA (b := (o + 2)) fs_X7_31_6 rfl (tb_k0 ho) (tb_r5 ho) dx_X7_takeUnits_71 ?_
          refine go_iload dx_X7_takeUnits_74 rfl ?_
          refine go_cS2 ss_X7_63 dx_X7_takeUnits_76 (Nat.le_of_ble_eq_true rfl) (Nat.le_of_ble_eq_true rfl) (g_longAtV (i := y0) (v := ((li (D y0)))) (tb_k2 ho) (by omega) (by rw [(tb_l2 ho)]; omega) (by exact ey) ?_)
          refine go_cV2 sv_X7_114_6 (tb_k0 ho) dx_X7_takeUnits_79 (Nat.le_of_ble_eq_true rfl) (Nat.le_of_ble_eq_true rfl) (g_Rounds_merge ho (by rw [i6 _ _ (by omega)]; exact h3) hrx hry ?_)
          refine go_cS3 ss_X7_44 dx_X7_takeUnits_82 (Nat.le_of_ble_eq_true rfl) (Nat.le_of_ble_eq_true rfl) (g_putLongN (i := x) (tb_k2 ho) (by omega) (by rw [(tb_l2 ho)]; omega) ?_)
          refine go_iinc (lv' := [(0, vv_A o), (1, vv_I s), (2, vv_I (x : Int)), (3, vv_I (mk 14 (ut R x) : Int)), (4, vv_I ((y0 : Int) + 1))]) dx_X7_takeUnits_85 rfl (by decide) rfl ?_
          refine go_goto (tgt := 23) dx_X7_takeUnits_88 rfl ?_
          have hu : ut R x y0 := ((mk_bit _ _ _).mp c36).2
          refine ih (_, fun z v => if z = x then D x v ∨ D y0 v else D z v) ⟨fun z hz => ?_, fun z v hc => ?_, fun z v hd => ?_, fun z v hz hf2 => ?_, fun y v hy2 hu2 hc => ?_, fun c' j hc' => (wr_a _ _ _ _ hc' _).trans (i6 c' j hc'), fun z v hv => ?_⟩
          · show wr δ1 (o + 2) x (tb_min (li (D x)) (li (D y0))) (o + 2) z = li (fun v => if z = x then D x v ∨ D y0 v else D z v)
            by_cases e : z = x
            · subst e
              rw [wr_eq, tb_min_li (S := fun v => D z v ∨ D y0 v) (fun v => Iff.rfl) c52]
              exact li_congr (fun v => by rw [if_pos rfl])
            · rw [wr_i _ _ _ _ e, i1 z hz]
              exact li_congr (fun v => by rw [if_neg e])
          · dsimp only
            by_cases e : z = x
            · subst e; rw [if_pos rfl]; exact Or.inl (i2 z v hc)
            · rw [if_neg e]; exact i2 z v hc
          · dsimp only at hd
            by_cases e : z = x
            · subst e
              rw [if_pos rfl] at hd
              rcases hd with q | q
              · exact i3 z v q
              · rcases i3 y0 v q with w | ⟨y, w1, w2⟩
                · exact Or.inr ⟨y0, hu, w⟩
                · exact Or.inr ⟨y, ut_trans hu w1, w2⟩
            · rw [if_neg e] at hd; exact i3 z v hd
          · dsimp only
            rw [if_neg (by omega)]
            exact i4 z v hz hf2
          · dsimp only
            rw [if_pos rfl]
            by_cases e : y = y0
            · subst e; exact Or.inr (i2 y v hc)
            · exact Or.inl (i5 y v (by omega) hu2 hc)
          · dsimp only at hv ⊢
            by_cases e : z = x
            · rw [if_pos e] at hv
              rcases hv with q | q
              · obtain ⟨m, m1, m2⟩ := i7 x v q
                exact ⟨m, m1, by rw [if_pos e]; exact Or.inl m2⟩
              · obtain ⟨m, m1, m2⟩ := i7 y0 v q
                exact ⟨m, m1, by rw [if_pos e]; exact Or.inr m2⟩
            · rw [if_neg e] at hv
              obtain ⟨m, m1, m2⟩ := i7 z v hv
              exact ⟨m, m1, by rw [if_neg e]; exact m2⟩
    · obtain ⟨δ1, D⟩ := X
      obtain ⟨i1, i2, i3, i4, i5, i6, i7⟩ := hI
      dsimp only at i1 i2 i3 i4 i5 i6 i7 ⊢
      refine go_iload dx_X7_takeUnits_23 rfl ?_
      refine go_bipush dx_X7_takeUnits_25 rfl ?_
      refine go_icmp_ge (tgt := 91) dx_X7_takeUnits_27 rfl (by omega) (by omega) (fun c27 => ?_) (fun c27 => by exact absurd c27 (by omega))
      refine go_iinc (lv' := [(0, vv_A o), (1, vv_I s), (2, vv_I ((x : Int) + 1)), (3, vv_I (mk 14 (ut R x) : Int)), (4, vv_I ((14 : Nat) : Int))]) dx_X7_takeUnits_91 rfl (by decide) rfl ?_
      refine go_goto (tgt := 2) dx_X7_takeUnits_94 rfl ?_
      refine go_keep [0, 1, 2] rfl ?_
      exact KK (δ1, D) ⟨i1, i2, i3, fun z v hz hf2 => by
        by_cases e : z = x
        · subst e
          rcases hf2 with q | ⟨y, q1, q2⟩
          · exact i2 z v q
          · exact i5 y v (ut_lt hR q1).2 q1 q2
        · exact i4 z v (by omega) hf2, i6, i7⟩
  have outer := lp_up (X := (Nat → Nat → Int) × (Nat → Nat → Prop)) (hi := 8)
    (I := fun x X => tfr X.1 o ns (fun x => li (X.2 x)) ∧ (∀ z v, C z v → X.2 z v) ∧ (∀ z v, X.2 z v → ufn R C z v) ∧ (∀ z v, z < x → ufn R C z v → X.2 z v) ∧ (∀ c j, c ≠ o + 2 → X.1 c j = δ c j) ∧ (∀ z, bdd (X.2 z)))
    (G := fun x X => Go E (d + 2) (0, 0) mx_X7_takeUnits go_φ 2 [(0, vv_A o), (1, vv_I s), (2, vv_I (x : Int))] [] X.1 Q)
    (fun x X hx hI ih => by
      have hur : X.1 39 x = (mk 14 (ut R x) : Int) := by rw [hI.2.2.2.2.1 _ _ (by omega)]; exact hb.2.2.2.2.2.1 x hx
      refine go_iload_n (i := 2) dx_X7_takeUnits_2 rfl rfl ?_
      refine go_bipush dx_X7_takeUnits_3 rfl ?_
      refine go_icmp_ge (tgt := 97) dx_X7_takeUnits_5 rfl (by omega) (by omega) (fun c5 => by exact absurd c5 (by omega)) (fun c5 => ?_)
      refine go_aload_n (i := 0) dx_X7_takeUnits_8 rfl rfl ?_
      refine go_getA (b := 33) fs_X7_9_6 rfl (tb_k0 ho) (tb_r0 ho) dx_X7_takeUnits_9 ?_
      refine go_getA (b := 39) fs_X7_118 rfl (go_ok rfl rfl) rfl dx_X7_takeUnits_12 ?_
      refine go_iload_n (i := 2) dx_X7_takeUnits_15 rfl rfl ?_
      refine go_cS2 ss_X7_88 dx_X7_takeUnits_16 (Nat.le_of_ble_eq_true rfl) (Nat.le_of_ble_eq_true rfl) (g_intAtV (i := x) (v := ((mk 14 (ut R x) : Int))) (go_ok rfl rfl) (by omega) (show x < 8 by omega) (by exact hur) ?_)
      refine go_istore_n (i := 3) (lv' := [(0, vv_A o), (1, vv_I s), (2, vv_I (x : Int)), (3, vv_I ((mk 14 (ut R x) : Int)))]) dx_X7_takeUnits_19 rfl (by decide) rfl ?_
      refine go_iconst dx_X7_takeUnits_20 ?_
      refine go_istore (lv' := [(0, vv_A o), (1, vv_I s), (2, vv_I (x : Int)), (3, vv_I ((mk 14 (ut R x) : Int))), (4, vv_I 0)]) dx_X7_takeUnits_21 (by decide) rfl ?_
      exact inner x hx X hI ih
    ) (fun X hI => by
      refine go_iload_n (i := 2) dx_X7_takeUnits_2 rfl rfl ?_
      refine go_bipush dx_X7_takeUnits_3 rfl ?_
      refine go_icmp_ge (tgt := 97) dx_X7_takeUnits_5 rfl (by omega) (by omega) (fun c5 => ?_) (fun c5 => by exact absurd c5 (by omega))
      refine go_vreturn dx_X7_takeUnits_97 rfl (Nat.le_refl _) (Nat.le_refl _) ?_
      exact hQ X.1 (fun x hx => by
        rw [hI.1 x hx]
        exact li_congr (fun v => ⟨hI.2.2.1 x v, fun q => by
          by_cases h8 : x < 8
          · exact hI.2.2.2.1 x v h8 q
          · exact hI.2.1 x v (q.elim id (fun ⟨y, y1, _⟩ => absurd (ut_lt hR y1).1 h8))⟩)) hI.2.2.2.2.1
    )
  refine go_iconst dx_X7_takeUnits_0 ?_
  refine go_istore_n (i := 2) (lv' := [(0, vv_A o), (1, vv_I s), (2, vv_I 0)]) dx_X7_takeUnits_1 rfl (by decide) rfl ?_
  exact outer 0 (δ, C) (Nat.zero_le _) ⟨hf, fun _ _ q => q, fun _ _ q => Or.inl q, fun z v q => absurd q (Nat.not_lt_zero _), fun _ _ _ => rfl, hC⟩
end TU_Rounds
section TU_Nearest
variable {E : go_E} {d : Nat} {δ : Nat → Nat → Int} {Q : List go_V → go_F → (Nat → Nat → Int) → Prop} {o c ns : Nat} {al : Bool} {R : Nat → List Nat} {C : Nat → Nat → Prop}
theorem g_Nearest_takeUnits {s : Int} (ho : tb_ok 4 o c al) (hb : bi_at δ 33 R) (h3 : δ o 3 = -1) (hns : ns = 14 + (gH R).length) (hC : ∀ x, bdd (C x)) (hf : tfr δ o ns (fun x => li (C x)))
    (hQ : ∀ δ', tfr δ' o ns (fun x => li (ufn R C x)) → (∀ c j, c ≠ o + 2 → δ' c j = δ c j) → Q [] go_φ δ') :
    Go E (d + 2) (0, 0) mx_X7_takeUnits go_φ 0 [(0, vv_A o), (1, vv_I s)] [] δ Q := by
  have hoo := tb_o ho
  have hR := hb.2.2.2.2.2.2
  have inner : ∀ x, x < 8 → ∀ X : (Nat → Nat → Int) × (Nat → Nat → Prop), (tfr X.1 o ns (fun x => li (X.2 x)) ∧ (∀ z v, C z v → X.2 z v) ∧ (∀ z v, X.2 z v → ufn R C z v) ∧ (∀ z v, z < x → ufn R C z v → X.2 z v) ∧ (∀ c j, c ≠ o + 2 → X.1 c j = δ c j) ∧ (∀ z, bdd (X.2 z))) →
      (∀ X : (Nat → Nat → Int) × (Nat → Nat → Prop), (tfr X.1 o ns (fun x => li (X.2 x)) ∧ (∀ z v, C z v → X.2 z v) ∧ (∀ z v, X.2 z v → ufn R C z v) ∧ (∀ z v, z < x + 1 → ufn R C z v → X.2 z v) ∧ (∀ c j, c ≠ o + 2 → X.1 c j = δ c j) ∧ (∀ z, bdd (X.2 z))) → Go E (d + 2) (0, 0) mx_X7_takeUnits go_φ 2 [(0, vv_A o), (1, vv_I s), (2, vv_I ((x + 1 : Nat) : Int))] [] X.1 Q) →
      Go E (d + 2) (0, 0) mx_X7_takeUnits go_φ 23 [(0, vv_A o), (1, vv_I s), (2, vv_I (x : Int)), (3, vv_I (mk 14 (ut R x) : Int)), (4, vv_I 0)] [] X.1 Q := by
    intro x hx X hX KK
    have h14 := mk_31 14 (ut R x) (by decide)
    refine lp_up (X := (Nat → Nat → Int) × (Nat → Nat → Prop)) (hi := 14)
      (I := fun y0 X => tfr X.1 o ns (fun x => li (X.2 x)) ∧ (∀ z v, C z v → X.2 z v) ∧ (∀ z v, X.2 z v → ufn R C z v) ∧ (∀ z v, z < x → ufn R C z v → X.2 z v) ∧ (∀ y v, y < y0 → ut R x y → C y v → X.2 x v) ∧ (∀ c j, c ≠ o + 2 → X.1 c j = δ c j) ∧ (∀ z, bdd (X.2 z)))
      (G := fun y0 X => Go E (d + 2) (0, 0) mx_X7_takeUnits go_φ 23 [(0, vv_A o), (1, vv_I s), (2, vv_I (x : Int)), (3, vv_I (mk 14 (ut R x) : Int)), (4, vv_I (y0 : Int))] [] X.1 Q)
      (fun y0 X hy hI ih => ?_) (fun X hI => ?_) 0 X (Nat.zero_le _) ⟨hX.1, hX.2.1, hX.2.2.1, hX.2.2.2.1, fun y v q => absurd q (Nat.not_lt_zero _), hX.2.2.2.2⟩
    · obtain ⟨δ1, D⟩ := X
      obtain ⟨i1, i2, i3, i4, i5, i6, i7⟩ := hI
      dsimp only at i1 i2 i3 i4 i5 i6 i7 ⊢
      have hrx : go_iL (li (D x)) := li_rng (i7 x)
      have hry : go_iL (li (D y0)) := li_rng (i7 y0)
      have ex : δ1 (o + 2) x = li (D x) := i1 x (by omega)
      have ey : δ1 (o + 2) y0 = li (D y0) := i1 y0 (by omega)
      have stay : (ut R x y0 → ∀ v, ¬ D y0 v) → Go E (d + 2) (0, 0) mx_X7_takeUnits go_φ 23 [(0, vv_A o), (1, vv_I s), (2, vv_I (x : Int)), (3, vv_I (mk 14 (ut R x) : Int)), (4, vv_I ((y0 + 1 : Nat) : Int))] [] δ1 Q := fun hno =>
        ih (δ1, D) ⟨i1, i2, i3, i4, fun y v hy hu hc => by
          by_cases e : y = y0
          · subst e; exact absurd (i2 y v hc) (hno hu v)
          · exact i5 y v (by omega) hu hc, i6, i7⟩
      refine go_iload dx_X7_takeUnits_23 rfl ?_
      refine go_bipush dx_X7_takeUnits_25 rfl ?_
      refine go_icmp_ge (tgt := 91) dx_X7_takeUnits_27 rfl (by omega) (by omega) (fun c27 => by exact absurd c27 (by omega)) (fun c27 => ?_)
      refine go_iload_n (i := 3) dx_X7_takeUnits_30 rfl rfl ?_
      refine go_iload dx_X7_takeUnits_31 rfl ?_
      refine go_iushr dx_X7_takeUnits_33 ?_
      refine go_iconst dx_X7_takeUnits_34 ?_
      refine go_iand dx_X7_takeUnits_35 ?_
      refine go_asI (y := (b01 ((mk 14 (ut R x)).testBit y0 = true))) (by exact bv_tstb h14 (by omega)) ?_
      refine go_b_eq (tgt := 85) dx_X7_takeUnits_36 rfl (fun c36 => ?_) (fun c36 => ?_)
      · refine go_iinc (lv' := [(0, vv_A o), (1, vv_I s), (2, vv_I (x : Int)), (3, vv_I (mk 14 (ut R x) : Int)), (4, vv_I ((y0 : Int) + 1))]) dx_X7_takeUnits_85 rfl (by decide) rfl ?_
        refine go_goto (tgt := 23) dx_X7_takeUnits_88 rfl ?_
        exact stay (fun hu => absurd ((mk_bit _ _ _).mpr ⟨hy, hu⟩) c36)
      · refine go_aload_n (i := 0) dx_X7_takeUnits_39 rfl rfl ?_
        refine go_getA (b := (o + 2)) fs_X7_31_4 rfl (tb_k0 ho) (tb_r5 ho) dx_X7_takeUnits_40 ?_
        refine go_iload dx_X7_takeUnits_43 rfl ?_
        refine go_cS2 ss_X7_63 dx_X7_takeUnits_45 (Nat.le_of_ble_eq_true rfl) (Nat.le_of_ble_eq_true rfl) (g_longAtV (i := y0) (v := ((li (D y0)))) (tb_k2 ho) (by omega) (by rw [(tb_l2 ho)]; omega) (by exact ey) ?_)
        refine go_aload_n (i := 0) dx_X7_takeUnits_48 rfl rfl ?_
        refine go_getL fs_X7_23_4 rfl (tb_k0 ho) dx_X7_takeUnits_49 ?_
        refine go_asL (y := (-1)) (by rw [i6 _ _ (by omega)]; exact h3) ?_
        refine go_lcmp_eq (tgt := 85) dx_X7_takeUnits_52 dx_X7_takeUnits_53 rfl (by omega) (by omega) (fun c52 => ?_) (fun c52 => ?_)
        · refine go_iinc (lv' := [(0, vv_A o), (1, vv_I s), (2, vv_I (x : Int)), (3, vv_I (mk 14 (ut R x) : Int)), (4, vv_I ((y0 : Int) + 1))]) dx_X7_takeUnits_85 rfl (by decide) rfl ?_
          refine go_goto (tgt := 23) dx_X7_takeUnits_88 rfl ?_
          exact stay (fun _ v hv => absurd c52 (li_ne hv))
        · refine go_aload_n (i := 0) dx_X7_takeUnits_56 rfl rfl ?_
          refine go_getA (b := (o + 2)) fs_X7_31_4 rfl (tb_k0 ho) (tb_r5 ho) dx_X7_takeUnits_57 ?_
          refine go_iload_n (i := 2) dx_X7_takeUnits_60 rfl rfl ?_
          refine go_aload_n (i := 0) dx_X7_takeUnits_61 rfl rfl ?_
          refine go_aload_n (i := 0) dx_X7_takeUnits_62 rfl rfl ?_
          refine go_getA (b := (o + 2)) fs_X7_31_4 rfl (tb_k0 ho) (tb_r5 ho) dx_X7_takeUnits_63 ?_
          refine go_iload_n (i := 2) dx_X7_takeUnits_66 rfl rfl ?_
          refine go_cS2 ss_X7_63 dx_X7_takeUnits_67 (Nat.le_of_ble_eq_true rfl) (Nat.le_of_ble_eq_true rfl) (g_longAtV (i := x) (v := ((li (D x)))) (tb_k2 ho) (by omega) (by rw [(tb_l2 ho)]; omega) (by exact ex) ?_)
          refine go_aload_n (i := 0) dx_X7_takeUnits_70 rfl rfl ?_
          refine go_getA (b := (o + 2)) fs_X7_31_4 rfl (tb_k0 ho) (tb_r5 ho) dx_X7_takeUnits_71 ?_
          refine go_iload dx_X7_takeUnits_74 rfl ?_
          refine go_cS2 ss_X7_63 dx_X7_takeUnits_76 (Nat.le_of_ble_eq_true rfl) (Nat.le_of_ble_eq_true rfl) (g_longAtV (i := y0) (v := ((li (D y0)))) (tb_k2 ho) (by omega) (by rw [(tb_l2 ho)]; omega) (by exact ey) ?_)
          refine go_cV2 sv_X7_114_4 (tb_k0 ho) dx_X7_takeUnits_79 (Nat.le_of_ble_eq_true rfl) (Nat.le_of_ble_eq_true rfl) (g_Nearest_merge ho (by rw [i6 _ _ (by omega)]; exact h3) hrx hry ?_)
          refine go_cS3 ss_X7_44 dx_X7_takeUnits_82 (Nat.le_of_ble_eq_true rfl) (Nat.le_of_ble_eq_true rfl) (g_putLongN (i := x) (tb_k2 ho) (by omega) (by rw [(tb_l2 ho)]; omega) ?_)
          refine go_iinc (lv' := [(0, vv_A o), (1, vv_I s), (2, vv_I (x : Int)), (3, vv_I (mk 14 (ut R x) : Int)), (4, vv_I ((y0 : Int) + 1))]) dx_X7_takeUnits_85 rfl (by decide) rfl ?_
          refine go_goto (tgt := 23) dx_X7_takeUnits_88 rfl ?_
          have hu : ut R x y0 := ((mk_bit _ _ _).mp c36).2
          refine ih (_, fun z v => if z = x then D x v ∨ D y0 v else D z v) ⟨fun z hz => ?_, fun z v hc => ?_, fun z v hd => ?_, fun z v hz hf2 => ?_, fun y v hy2 hu2 hc => ?_, fun c' j hc' => (wr_a _ _ _ _ hc' _).trans (i6 c' j hc'), fun z v hv => ?_⟩
          · show wr δ1 (o + 2) x (tb_min (li (D x)) (li (D y0))) (o + 2) z = li (fun v => if z = x then D x v ∨ D y0 v else D z v)
            by_cases e : z = x
            · subst e
              rw [wr_eq, tb_min_li (S := fun v => D z v ∨ D y0 v) (fun v => Iff.rfl) c52]
              exact li_congr (fun v => by rw [if_pos rfl])
            · rw [wr_i _ _ _ _ e, i1 z hz]
              exact li_congr (fun v => by rw [if_neg e])
          · dsimp only
            by_cases e : z = x
            · subst e; rw [if_pos rfl]; exact Or.inl (i2 z v hc)
            · rw [if_neg e]; exact i2 z v hc
          · dsimp only at hd
            by_cases e : z = x
            · subst e
              rw [if_pos rfl] at hd
              rcases hd with q | q
              · exact i3 z v q
              · rcases i3 y0 v q with w | ⟨y, w1, w2⟩
                · exact Or.inr ⟨y0, hu, w⟩
                · exact Or.inr ⟨y, ut_trans hu w1, w2⟩
            · rw [if_neg e] at hd; exact i3 z v hd
          · dsimp only
            rw [if_neg (by omega)]
            exact i4 z v hz hf2
          · dsimp only
            rw [if_pos rfl]
            by_cases e : y = y0
            · subst e; exact Or.inr (i2 y v hc)
            · exact Or.inl (i5 y v (by omega) hu2 hc)
          · dsimp only at hv ⊢
            by_cases e : z = x
            · rw [if_pos e] at hv
              rcases hv with q | q
              · obtain ⟨m, m1, m2⟩ := i7 x v q
                exact ⟨m, m1, by rw [if_pos e]; exact Or.inl m2⟩
              · obtain ⟨m, m1, m2⟩ := i7 y0 v q
                exact ⟨m, m1, by rw [if_pos e]; exact Or.inr m2⟩
            · rw [if_neg e] at hv
              obtain ⟨m, m1, m2⟩ := i7 z v hv
              exact ⟨m, m1, by rw [if_neg e]; exact m2⟩
    · obtain ⟨δ1, D⟩ := X
      obtain ⟨i1, i2, i3, i4, i5, i6, i7⟩ := hI
      dsimp only at i1 i2 i3 i4 i5 i6 i7 ⊢
      refine go_iload dx_X7_takeUnits_23 rfl ?_
      refine go_bipush dx_X7_takeUnits_25 rfl ?_
      refine go_icmp_ge (tgt := 91) dx_X7_takeUnits_27 rfl (by omega) (by omega) (fun c27 => ?_) (fun c27 => by exact absurd c27 (by omega))
      refine go_iinc (lv' := [(0, vv_A o), (1, vv_I s), (2, vv_I ((x : Int) + 1)), (3, vv_I (mk 14 (ut R x) : Int)), (4, vv_I ((14 : Nat) : Int))]) dx_X7_takeUnits_91 rfl (by decide) rfl ?_
      refine go_goto (tgt := 2) dx_X7_takeUnits_94 rfl ?_
      refine go_keep [0, 1, 2] rfl ?_
      exact KK (δ1, D) ⟨i1, i2, i3, fun z v hz hf2 => by
        by_cases e : z = x
        · subst e
          rcases hf2 with q | ⟨y, q1, q2⟩
          · exact i2 z v q
          · exact i5 y v (ut_lt hR q1).2 q1 q2
        · exact i4 z v (by omega) hf2, i6, i7⟩
  have outer := lp_up (X := (Nat → Nat → Int) × (Nat → Nat → Prop)) (hi := 8)
    (I := fun x X => tfr X.1 o ns (fun x => li (X.2 x)) ∧ (∀ z v, C z v → X.2 z v) ∧ (∀ z v, X.2 z v → ufn R C z v) ∧ (∀ z v, z < x → ufn R C z v → X.2 z v) ∧ (∀ c j, c ≠ o + 2 → X.1 c j = δ c j) ∧ (∀ z, bdd (X.2 z)))
    (G := fun x X => Go E (d + 2) (0, 0) mx_X7_takeUnits go_φ 2 [(0, vv_A o), (1, vv_I s), (2, vv_I (x : Int))] [] X.1 Q)
    (fun x X hx hI ih => by
      have hur : X.1 39 x = (mk 14 (ut R x) : Int) := by rw [hI.2.2.2.2.1 _ _ (by omega)]; exact hb.2.2.2.2.2.1 x hx
      refine go_iload_n (i := 2) dx_X7_takeUnits_2 rfl rfl ?_
      refine go_bipush dx_X7_takeUnits_3 rfl ?_
      refine go_icmp_ge (tgt := 97) dx_X7_takeUnits_5 rfl (by omega) (by omega) (fun c5 => by exact absurd c5 (by omega)) (fun c5 => ?_)
      refine go_aload_n (i := 0) dx_X7_takeUnits_8 rfl rfl ?_
      refine go_getA (b := 33) fs_X7_9_4 rfl (tb_k0 ho) (tb_r0 ho) dx_X7_takeUnits_9 ?_
      refine go_getA (b := 39) fs_X7_118 rfl (go_ok rfl rfl) rfl dx_X7_takeUnits_12 ?_
      refine go_iload_n (i := 2) dx_X7_takeUnits_15 rfl rfl ?_
      refine go_cS2 ss_X7_88 dx_X7_takeUnits_16 (Nat.le_of_ble_eq_true rfl) (Nat.le_of_ble_eq_true rfl) (g_intAtV (i := x) (v := ((mk 14 (ut R x) : Int))) (go_ok rfl rfl) (by omega) (show x < 8 by omega) (by exact hur) ?_)
      refine go_istore_n (i := 3) (lv' := [(0, vv_A o), (1, vv_I s), (2, vv_I (x : Int)), (3, vv_I ((mk 14 (ut R x) : Int)))]) dx_X7_takeUnits_19 rfl (by decide) rfl ?_
      refine go_iconst dx_X7_takeUnits_20 ?_
      refine go_istore (lv' := [(0, vv_A o), (1, vv_I s), (2, vv_I (x : Int)), (3, vv_I ((mk 14 (ut R x) : Int))), (4, vv_I 0)]) dx_X7_takeUnits_21 (by decide) rfl ?_
      exact inner x hx X hI ih
    ) (fun X hI => by
      refine go_iload_n (i := 2) dx_X7_takeUnits_2 rfl rfl ?_
      refine go_bipush dx_X7_takeUnits_3 rfl ?_
      refine go_icmp_ge (tgt := 97) dx_X7_takeUnits_5 rfl (by omega) (by omega) (fun c5 => ?_) (fun c5 => by exact absurd c5 (by omega))
      refine go_vreturn dx_X7_takeUnits_97 rfl (Nat.le_refl _) (Nat.le_refl _) ?_
      exact hQ X.1 (fun x hx => by
        rw [hI.1 x hx]
        exact li_congr (fun v => ⟨hI.2.2.1 x v, fun q => by
          by_cases h8 : x < 8
          · exact hI.2.2.2.1 x v h8 q
          · exact hI.2.1 x v (q.elim id (fun ⟨y, y1, _⟩ => absurd (ut_lt hR y1).1 h8))⟩)) hI.2.2.2.2.1
    )
  refine go_iconst dx_X7_takeUnits_0 ?_
  refine go_istore_n (i := 2) (lv' := [(0, vv_A o), (1, vv_I s), (2, vv_I 0)]) dx_X7_takeUnits_1 rfl (by decide) rfl ?_
  exact outer 0 (δ, C) (Nat.zero_le _) ⟨hf, fun _ _ q => q, fun _ _ q => Or.inl q, fun z v q => absurd q (Nat.not_lt_zero _), fun _ _ _ => rfl, hC⟩
end TU_Nearest
