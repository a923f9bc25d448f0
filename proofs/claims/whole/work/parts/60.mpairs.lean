/-! the reference: rules as they stand, its pairs -/
def bo_at (δ : Nat → Nat → Int) (R : Nat → List Nat) : Prop := (∀ r, rl_ok (R r)) ∧ ∀ r, r < 16 → δ 95 (7 * r) = (((R r).length - 1 : Nat) : Int) ∧ ∀ i, i < (R r).length → δ 95 (7 * r + 1 + i) = (((R r).getD i 0 : Nat) : Int)
theorem bo_of {δ : Nat → Nat → Int} {K : sK} (h : bk_at δ 95 0 K) : bo_at δ K.1 := ⟨h.2.2.2.2.1, fun r hr => ⟨by have := (h.1 r hr).1; rwa [Nat.zero_add] at this, fun i hi => by
  have := (h.1 r hr).2 i (by have := (h.2.2.2.2.1 r).len; omega)
  rwa [Nat.zero_add] at this⟩⟩
theorem bo_fr {δ δ' : Nat → Nat → Int} {R : Nat → List Nat} (h : bo_at δ R) (f : ∀ j, j < 112 → δ' 95 j = δ 95 j) : bo_at δ' R := ⟨h.1, fun r hr => ⟨by rw [f _ (by omega)]; exact (h.2 r hr).1, fun i hi => by
  have := (h.1 r).len
  rw [f _ (by omega)]
  exact (h.2 r hr).2 i hi⟩⟩
def mq_at (δ : Nat → Nat → Int) (P : List tP) (H : List (Nat × Nat)) : Prop := δ 94 15 = (P.length : Int) ∧ (∀ k (h : k < P.length), δ 99 k = (P[k].1 : Int) ∧ δ 100 k = (P[k].2.1 : Int) ∧ δ 101 k = (P[k].2.2.1 : Int) ∧ δ 102 k = (P[k].2.2.2 : Int)) ∧ δ 94 16 = (H.length : Int) ∧ (∀ k (h : k < H.length), δ 103 k = (H[k].1 : Int) ∧ δ 104 k = (H[k].2 : Int))
def mqP (c j : Nat) : Prop := (99 ≤ c ∧ c ≤ 104) ∨ (c = 94 ∧ (j = 15 ∨ j = 16))
theorem mq_fr {δ δ' : Nat → Nat → Int} {P : List tP} {H : List (Nat × Nat)} (h : mq_at δ P H) (f : ∀ c j, mqP c j → δ' c j = δ c j) : mq_at δ' P H := by
  unfold mqP at f
  exact ⟨by rw [f _ _ (by omega)]; exact h.1, fun k hk => by rw [f _ _ (by omega), f _ _ (by omega), f _ _ (by omega), f _ _ (by omega)]; exact h.2.1 k hk, by rw [f _ _ (by omega)]; exact h.2.2.1, fun k hk => by rw [f _ _ (by omega), f _ _ (by omega)]; exact h.2.2.2 k hk⟩
theorem mq_pair {δ : Nat → Nat → Int} {P : List tP} {H : List (Nat × Nat)} {a b c r : Nat} {v : Int} (h : mq_at δ P H) (hv : v = (P.length : Int) + 1) :
    mq_at (wr (wr (wr (wr (wr δ 99 P.length (a : Int)) 100 P.length (b : Int)) 101 P.length (c : Int)) 102 P.length (r : Int)) 94 15 v) (P ++ [(a, b, c, r)]) H := by
  refine ⟨by rw [wr_eq, hv, List.length_append, List.length_singleton]; omega, fun k hk => ?_, by rw [wr_n (by omega), wr_n (by omega), wr_n (by omega), wr_n (by omega), wr_n (by omega)]; exact h.2.2.1, fun k hk => by rw [wr_n (by omega), wr_n (by omega), wr_n (by omega), wr_n (by omega), wr_n (by omega), wr_n (by omega), wr_n (by omega), wr_n (by omega), wr_n (by omega), wr_n (by omega)]; exact h.2.2.2 k hk⟩
  rw [List.length_append, List.length_singleton] at hk
  by_cases q : k = P.length
  · subst q
    have e : (P ++ [(a, b, c, r)])[P.length]'(by rw [List.length_append, List.length_singleton]; omega) = (a, b, c, r) := by simp
    rw [e]
    refine ⟨?_, ?_, ?_, ?_⟩
    · rw [wr_n (by omega), wr_n (by omega), wr_n (by omega), wr_n (by omega), wr_eq]
    · rw [wr_n (by omega), wr_n (by omega), wr_n (by omega), wr_eq]
    · rw [wr_n (by omega), wr_n (by omega), wr_eq]
    · rw [wr_n (by omega), wr_eq]
  · have e : (P ++ [(a, b, c, r)])[k]'(by rw [List.length_append, List.length_singleton]; omega) = P[k]'(by omega) := List.getElem_append_left (by omega)
    rw [e]
    have g := h.2.1 k (by omega)
    refine ⟨?_, ?_, ?_, ?_⟩
    · rw [wr_n (by omega), wr_n (by omega), wr_n (by omega), wr_n (by omega), wr_i _ _ _ _ q]; exact g.1
    · rw [wr_n (by omega), wr_n (by omega), wr_n (by omega), wr_i _ _ _ _ q, wr_n (by omega)]; exact g.2.1
    · rw [wr_n (by omega), wr_n (by omega), wr_i _ _ _ _ q, wr_n (by omega), wr_n (by omega)]; exact g.2.2.1
    · rw [wr_n (by omega), wr_i _ _ _ _ q, wr_n (by omega), wr_n (by omega), wr_n (by omega)]; exact g.2.2.2
theorem mq_help {δ : Nat → Nat → Int} {P : List tP} {H : List (Nat × Nat)} {a b : Nat} {v w : Int} (h : mq_at δ P H) (hw : w = (b : Int)) (hv : v = (H.length : Int) + 1) :
    mq_at (wr (wr (wr δ 103 H.length (a : Int)) 104 H.length w) 94 16 v) P (H ++ [(a, b)]) := by
  subst hw
  refine ⟨by rw [wr_n (by omega), wr_n (by omega), wr_n (by omega)]; exact h.1, fun k hk => by rw [wr_n (by omega), wr_n (by omega), wr_n (by omega), wr_n (by omega), wr_n (by omega), wr_n (by omega), wr_n (by omega), wr_n (by omega), wr_n (by omega), wr_n (by omega), wr_n (by omega), wr_n (by omega)]; exact h.2.1 k hk, by rw [wr_eq, hv, List.length_append, List.length_singleton]; omega, fun k hk => ?_⟩
  rw [List.length_append, List.length_singleton] at hk
  by_cases q : k = H.length
  · subst q
    have e : (H ++ [(a, b)])[H.length]'(by rw [List.length_append, List.length_singleton]; omega) = (a, b) := by simp
    rw [e]
    exact ⟨by rw [wr_n (by omega), wr_n (by omega), wr_eq], by rw [wr_n (by omega), wr_eq]⟩
  · have e : (H ++ [(a, b)])[k]'(by rw [List.length_append, List.length_singleton]; omega) = H[k]'(by omega) := List.getElem_append_left (by omega)
    rw [e]
    have g := h.2.2.2 k (by omega)
    exact ⟨by rw [wr_n (by omega), wr_n (by omega), wr_i _ _ _ _ q]; exact g.1, by rw [wr_n (by omega), wr_i _ _ _ _ q, wr_n (by omega)]; exact g.2⟩
section GMP
variable {E : go_E} {d : Nat} {δ : Nat → Nat → Int} {Q : List go_V → go_F → (Nat → Nat → Int) → Prop} {K : sK} {R : Nat → List Nat}
theorem o_longOf {r : Nat} (h : bo_at δ R) (hr : r < 16) (hQ : Q [vv_I (((R r).length - 1 : Nat) : Int)] go_φ δ) : Go E d (0, 0) mx_X12_longOf go_φ 0 [(0, vv_A 94), (1, vv_I (r : Int))] [] δ Q := by
  have hl : go_ln 95 = 384 := rfl
  have e := (h.2 r hr).1
  refine go_aload_n (i := 0) dx_X12_longOf_0 rfl rfl ?_
  refine go_getA (b := 95) fs_X12_7 rfl (go_ok rfl rfl) rfl dx_X12_longOf_1 ?_
  refine go_bipush dx_X12_longOf_4 rfl ?_
  refine go_iload_n (i := 1) dx_X12_longOf_6 rfl rfl ?_
  refine go_imul dx_X12_longOf_7 ?_
  refine go_iconst dx_X12_longOf_8 ?_
  refine go_iadd dx_X12_longOf_9 ?_
  refine go_iaload dx_X12_longOf_10 (go_ok rfl rfl) (by omega) (by omega) ?_
  refine go_ireturn dx_X12_longOf_11 rfl (Nat.le_refl _) (Nat.le_refl _) ?_
  rw [show ((7 : Int) * (r : Int) + 0).toNat = 7 * r by omega, e]
  exact hQ
theorem o_symbolOf0 {r : Nat} (h : bo_at δ R) (hr : r < 16) (hQ : ∀ v : Int, (R r ≠ [] → v = (((R r).getD 0 0 : Nat) : Int)) → Q [vv_I v] go_φ δ) : Go E d (0, 0) mx_X12_symbolOf go_φ 0 [(0, vv_A 94), (1, vv_I (r : Int))] [] δ Q := by
  have hl : go_ln 95 = 384 := rfl
  have e := (h.2 r hr).2 0
  refine go_aload_n (i := 0) dx_X12_symbolOf_0 rfl rfl ?_
  refine go_getA (b := 95) fs_X12_7 rfl (go_ok rfl rfl) rfl dx_X12_symbolOf_1 ?_
  refine go_bipush dx_X12_symbolOf_4 rfl ?_
  refine go_iload_n (i := 1) dx_X12_symbolOf_6 rfl rfl ?_
  refine go_imul dx_X12_symbolOf_7 ?_
  refine go_iconst dx_X12_symbolOf_8 ?_
  refine go_iadd dx_X12_symbolOf_9 ?_
  refine go_iaload dx_X12_symbolOf_10 (go_ok rfl rfl) (by omega) (by omega) ?_
  refine go_ireturn dx_X12_symbolOf_11 rfl (Nat.le_refl _) (Nat.le_refl _) ?_
  rw [show ((7 : Int) * (r : Int) + 1).toNat = 7 * r + 1 + 0 by omega]
  exact hQ _ (fun q => e (List.length_pos_iff.mpr q))
theorem o_symbolOf {r : Nat} (h : bo_at δ R) (hr : r < 16) (hne : 0 < (R r).length) (hQ : Q [vv_I (((R r).getD 0 0 : Nat) : Int)] go_φ δ) : Go E d (0, 0) mx_X12_symbolOf go_φ 0 [(0, vv_A 94), (1, vv_I (r : Int))] [] δ Q :=
  o_symbolOf0 h hr (fun v hv => by rw [hv (List.length_pos_iff.mp hne)]; exact hQ)
theorem o_partOf {r i : Nat} (h : bo_at δ R) (hr : r < 16) (hi : i + 1 < (R r).length) (hQ : Q [vv_I (((R r).getD (i + 1) 0 : Nat) : Int)] go_φ δ) : Go E d (0, 0) mx_X12_partOf go_φ 0 [(0, vv_A 94), (1, vv_I (r : Int)), (2, vv_I (i : Int))] [] δ Q := by
  have hl : go_ln 95 = 384 := rfl
  have hlen := (h.1 r).len
  have e := (h.2 r hr).2 (i + 1) hi
  refine go_aload_n (i := 0) dx_X12_partOf_0 rfl rfl ?_
  refine go_getA (b := 95) fs_X12_7 rfl (go_ok rfl rfl) rfl dx_X12_partOf_1 ?_
  refine go_bipush dx_X12_partOf_4 rfl ?_
  refine go_iload_n (i := 1) dx_X12_partOf_6 rfl rfl ?_
  refine go_imul dx_X12_partOf_7 ?_
  refine go_iconst dx_X12_partOf_8 ?_
  refine go_iadd dx_X12_partOf_9 ?_
  refine go_iload_n (i := 2) dx_X12_partOf_10 rfl rfl ?_
  refine go_iadd dx_X12_partOf_11 ?_
  refine go_iaload dx_X12_partOf_12 (go_ok rfl rfl) (by omega) (by omega) ?_
  refine go_ireturn dx_X12_partOf_13 rfl (Nat.le_refl _) (Nat.le_refl _) ?_
  rw [show ((7 : Int) * (r : Int) + 2 + (i : Int)).toNat = 7 * r + 1 + (i + 1) by omega, e]
  exact hQ
theorem m_laysPairs (h : bo_at δ R) (hQ : ∀ δ', mq_at δ' (gP R) (gH R) → (∀ c j, ¬ mqP c j → δ' c j = δ c j) → Q [] go_φ δ') :
    Go E (d + 1) (0, 0) mx_X12_laysPairs go_φ 0 [(0, vv_A 94)] [] δ Q := by
  have hR := h.1
  have l99 : go_ln 99 = 64 := rfl
  have l100 : go_ln 100 = 64 := rfl
  have l101 : go_ln 101 = 64 := rfl
  have l102 : go_ln 102 = 64 := rfl
  have l103 : go_ln 103 = 48 := rfl
  have l104 : go_ln 104 = 48 := rfl
  have outer := lp_up (X := Nat → Nat → Int) (hi := 16) (I := fun r δ1 => mq_at δ1 (gp R r) (gh R r) ∧ (∀ c j, ¬ mqP c j → δ1 c j = δ c j))
    (G := fun r δ1 => Go E (d + 1) (0, 0) mx_X12_laysPairs go_φ 12 [(0, vv_A 94), (1, vv_I (r : Int))] [] δ1 Q) (fun r δ1 hr hI ih => ?_) (fun δ1 hI => ?_)
  · refine go_aload_n (i := 0) dx_X12_laysPairs_0 rfl rfl ?_
    refine go_iconst dx_X12_laysPairs_1 ?_
    refine go_putI fp_X12_215 rfl rfl (go_ok rfl rfl) dx_X12_laysPairs_2 ?_
    refine go_aload_n (i := 0) dx_X12_laysPairs_5 rfl rfl ?_
    refine go_iconst dx_X12_laysPairs_6 ?_
    refine go_putI fp_X12_218 rfl rfl (go_ok rfl rfl) dx_X12_laysPairs_7 ?_
    refine go_iconst dx_X12_laysPairs_10 ?_
    refine go_istore_n (i := 1) (lv' := [(0, vv_A 94), (1, vv_I 0)]) dx_X12_laysPairs_11 rfl (by decide) rfl ?_
    refine outer 0 _ (Nat.zero_le _) ⟨⟨?_, fun k hk => absurd hk (Nat.not_lt_zero _), ?_, fun k hk => absurd hk (Nat.not_lt_zero _)⟩, fun c j hc => ?_⟩
    · rw [wr_n (by omega), wr_eq]; rfl
    · rw [wr_eq]; rfl
    · unfold mqP at hc
      rw [wr_n (by omega), wr_n (by omega)]
  · obtain ⟨i1, f1⟩ := hI
    have hb : bo_at δ1 R := bo_fr h (fun j hj => f1 95 j (by unfold mqP; omega))
    have hgb := gp_bound hR hr
    have hhb := gh_bound hR hr
    have hlen := (hR r).len
    have inner := lp_up (X := (Nat → Nat → Int) × Int) (hi := (R r).length - 2)
      (I := fun i X => mq_at X.1 (gp R r ++ (List.range i).map (pr_e (gh R r).length r (R r))) (gh R r ++ (List.range (min i ((R r).length - 3))).map (fun k => (r, k + 1))) ∧ (i + 2 < (R r).length → X.2 = ((pr_m (gh R r).length i (R r) : Nat) : Int)) ∧ (∀ c j, ¬ mqP c j → X.1 c j = δ c j))
      (G := fun i X => Go E (d + 1) (0, 0) mx_X12_laysPairs go_φ 33 [(0, vv_A 94), (1, vv_I (r : Int)), (2, vv_I (((R r).length - 1 : Nat) : Int)), (3, vv_I X.2), (4, vv_I (i : Int))] [] X.1 Q) (fun i X hi hI ih2 => ?_) (fun X hI => ?_)
    · refine go_iload_n (i := 1) dx_X12_laysPairs_12 rfl rfl ?_
      refine go_bipush dx_X12_laysPairs_13 rfl ?_
      refine go_icmp_ge (tgt := 196) dx_X12_laysPairs_15 rfl (by omega) (by omega) (fun c15 => by exact absurd c15 (by omega)) (fun c15 => ?_)
      refine go_aload_n (i := 0) dx_X12_laysPairs_18 rfl rfl ?_
      refine go_iload_n (i := 1) dx_X12_laysPairs_19 rfl rfl ?_
      refine go_cV1 sv_X12_148 (go_ok rfl rfl) dx_X12_laysPairs_20 (Nat.le_of_ble_eq_true rfl) (Nat.le_of_ble_eq_true rfl) (o_longOf hb hr ?_)
      refine go_istore_n (i := 2) (lv' := [(0, vv_A 94), (1, vv_I (r : Int)), (2, vv_I (((R r).length - 1 : Nat) : Int))]) dx_X12_laysPairs_23 rfl (by decide) rfl ?_
      refine go_aload_n (i := 0) dx_X12_laysPairs_24 rfl rfl ?_
      refine go_iload_n (i := 1) dx_X12_laysPairs_25 rfl rfl ?_
      refine go_cV1 sv_X12_184 (go_ok rfl rfl) dx_X12_laysPairs_26 (Nat.le_of_ble_eq_true rfl) (Nat.le_of_ble_eq_true rfl) (o_symbolOf0 hb hr (fun v hv => ?_))
      refine go_istore_n (i := 3) (lv' := [(0, vv_A 94), (1, vv_I (r : Int)), (2, vv_I (((R r).length - 1 : Nat) : Int)), (3, vv_I v)]) dx_X12_laysPairs_29 rfl (by decide) rfl ?_
      refine go_iconst dx_X12_laysPairs_30 ?_
      refine go_istore (lv' := [(0, vv_A 94), (1, vv_I (r : Int)), (2, vv_I (((R r).length - 1 : Nat) : Int)), (3, vv_I v), (4, vv_I 0)]) dx_X12_laysPairs_31 (by decide) rfl ?_
      refine inner 0 (_, v) (Nat.zero_le _) ⟨?_, fun q => ?_, f1⟩
      · rw [List.range_zero, List.map_nil, List.append_nil, Nat.zero_min, List.range_zero, List.map_nil, List.append_nil]
        exact i1
      · rw [hv (fun w => by rw [w] at q; simp at q)]
        exact congrArg (fun z : Nat => (z : Int)) (if_pos (c := (0 : Nat) = 0) rfl).symm
    · obtain ⟨δ2, its⟩ := X
      obtain ⟨j1, j2, j3⟩ := hI
      dsimp only at j1 j2 j3 ⊢
      rw [j2 (by omega)]
      obtain ⟨P, hP⟩ : ∃ P, P = gp R r ++ (List.range i).map (pr_e (gh R r).length r (R r)) := ⟨_, rfl⟩
      obtain ⟨H, hH⟩ : ∃ H, H = gh R r ++ (List.range (min i ((R r).length - 3))).map (fun k => (r, k + 1)) := ⟨_, rfl⟩
      rw [← hP, ← hH] at j1
      have lP : P.length = (gp R r).length + i := by rw [hP, List.length_append, List.length_map, List.length_range]
      have lH : H.length = (gh R r).length + i := by rw [hH, List.length_append, List.length_map, List.length_range]; omega
      have eP : P ++ [pr_e (gh R r).length r (R r) i] = gp R r ++ (List.range (i + 1)).map (pr_e (gh R r).length r (R r)) := by rw [hP, List.range_succ, List.map_append, List.append_assoc]; rfl
      have z1 := j1.1
      have z2 := j1.2.2.1
      have ih3 : ∀ (δ3 : Nat → Nat → Int) (v : Int), mq_at δ3 (gp R r ++ (List.range (i + 1)).map (pr_e (gh R r).length r (R r))) (gh R r ++ (List.range (min (i + 1) ((R r).length - 3))).map (fun k => (r, k + 1))) → (i + 1 + 2 < (R r).length → v = ((pr_m (gh R r).length (i + 1) (R r) : Nat) : Int)) → (∀ c j, ¬ mqP c j → δ3 c j = δ c j) →
          Go E (d + 1) (0, 0) mx_X12_laysPairs go_φ 33 [(0, vv_A 94), (1, vv_I (r : Int)), (2, vv_I (((R r).length - 1 : Nat) : Int)), (3, vv_I v), (4, vv_I ((i + 1 : Nat) : Int))] [] δ3 Q := fun δ3 v a b c => ih2 (δ3, v) ⟨a, b, c⟩
      have hb2 : bo_at δ2 R := bo_fr h (fun j hj => j3 95 j (by unfold mqP; omega))
      refine go_iload dx_X12_laysPairs_33 rfl ?_
      refine go_iconst dx_X12_laysPairs_35 ?_
      refine go_iadd dx_X12_laysPairs_36 ?_
      refine go_iload_n (i := 2) dx_X12_laysPairs_37 rfl rfl ?_
      refine go_icmp_ge (tgt := 190) dx_X12_laysPairs_38 rfl (by omega) (by omega) (fun c38 => by exact absurd c38 (by omega)) (fun c38 => ?_)
      refine go_iload dx_X12_laysPairs_41 rfl ?_
      refine go_iconst dx_X12_laysPairs_43 ?_
      refine go_iadd dx_X12_laysPairs_44 ?_
      refine go_iload_n (i := 2) dx_X12_laysPairs_45 rfl rfl ?_
      refine go_icmp_ne (tgt := 53) dx_X12_laysPairs_46 rfl (by omega) (by omega) (fun c46 => ?_) (fun c46 => ?_)
      · refine go_iconst dx_X12_laysPairs_53 ?_
        refine go_istore (lv' := [(0, vv_A 94), (1, vv_I (r : Int)), (2, vv_I (((R r).length - 1 : Nat) : Int)), (3, vv_I ((pr_m (gh R r).length i (R r) : Nat) : Int)), (4, vv_I (i : Int)), (5, vv_I 0)]) dx_X12_laysPairs_54 (by decide) rfl ?_
        refine go_aload_n (i := 0) dx_X12_laysPairs_56 rfl rfl ?_
        refine go_getA (b := 99) fs_X12_27 rfl (go_ok rfl rfl) rfl dx_X12_laysPairs_57 ?_
        refine go_aload_n (i := 0) dx_X12_laysPairs_60 rfl rfl ?_
        refine go_getI fs_X12_215 (Or.inl rfl) (go_ok rfl rfl) dx_X12_laysPairs_61 ?_
        refine go_asI (y := (P.length : Int)) (by exact z1) ?_
        refine go_iload_n (i := 3) dx_X12_laysPairs_64 rfl rfl ?_
        refine go_iastoreV (i := P.length) dx_X12_laysPairs_65 (go_ok rfl rfl) (by omega) (show P.length < 64 by omega) ?_
        refine go_aload_n (i := 0) dx_X12_laysPairs_66 rfl rfl ?_
        refine go_getA (b := 100) fs_X12_30 rfl (go_ok rfl rfl) rfl dx_X12_laysPairs_67 ?_
        refine go_aload_n (i := 0) dx_X12_laysPairs_70 rfl rfl ?_
        refine go_getI fs_X12_215 (Or.inl rfl) (go_ok rfl rfl) dx_X12_laysPairs_71 ?_
        refine go_asI (y := (P.length : Int)) (by rw [wr_n (by omega)]; exact z1) ?_
        refine go_aload_n (i := 0) dx_X12_laysPairs_74 rfl rfl ?_
        refine go_iload_n (i := 1) dx_X12_laysPairs_75 rfl rfl ?_
        refine go_iload dx_X12_laysPairs_76 rfl ?_
        refine go_cV2 sv_X12_190 (go_ok rfl rfl) dx_X12_laysPairs_78 (Nat.le_of_ble_eq_true rfl) (Nat.le_of_ble_eq_true rfl) (o_partOf (bo_fr hb2 (fun j _ => by rw [wr_n (by omega)])) hr (by omega) ?_)
        refine go_iastoreV (i := P.length) dx_X12_laysPairs_81 (go_ok rfl rfl) (by omega) (show P.length < 64 by omega) ?_
        refine go_aload_n (i := 0) dx_X12_laysPairs_82 rfl rfl ?_
        refine go_getA (b := 101) fs_X12_33 rfl (go_ok rfl rfl) rfl dx_X12_laysPairs_83 ?_
        refine go_aload_n (i := 0) dx_X12_laysPairs_86 rfl rfl ?_
        refine go_getI fs_X12_215 (Or.inl rfl) (go_ok rfl rfl) dx_X12_laysPairs_87 ?_
        refine go_asI (y := (P.length : Int)) (by rw [wr_n (by omega), wr_n (by omega)]; exact z1) ?_
        refine go_iload dx_X12_laysPairs_90 rfl ?_
        refine go_if_eq (tgt := 107) dx_X12_laysPairs_92 rfl (by omega) (fun c92 => ?_) (fun c92 => absurd c92 (by decide))
        refine go_bipush dx_X12_laysPairs_107 rfl ?_
        refine go_aload_n (i := 0) dx_X12_laysPairs_109 rfl rfl ?_
        refine go_getI fs_X12_218 (Or.inl rfl) (go_ok rfl rfl) dx_X12_laysPairs_110 ?_
        refine go_asI (y := (H.length : Int)) (by rw [wr_n (by omega), wr_n (by omega)]; exact z2) ?_
        refine go_iadd dx_X12_laysPairs_113 ?_
        refine go_asI (y := ((pr_b (gh R r).length i (R r) : Nat) : Int)) (by unfold pr_b; rw [if_neg (by omega)]; omega) ?_
        refine go_iastoreV (i := P.length) dx_X12_laysPairs_114 (go_ok rfl rfl) (by omega) (show P.length < 64 by omega) ?_
        refine go_aload_n (i := 0) dx_X12_laysPairs_115 rfl rfl ?_
        refine go_getA (b := 102) fs_X12_36 rfl (go_ok rfl rfl) rfl dx_X12_laysPairs_116 ?_
        refine go_aload_n (i := 0) dx_X12_laysPairs_119 rfl rfl ?_
        refine go_getI fs_X12_215 (Or.inl rfl) (go_ok rfl rfl) dx_X12_laysPairs_120 ?_
        refine go_asI (y := (P.length : Int)) (by rw [wr_n (by omega), wr_n (by omega), wr_n (by omega)]; exact z1) ?_
        refine go_iload_n (i := 1) dx_X12_laysPairs_123 rfl rfl ?_
        refine go_iastoreV (i := P.length) dx_X12_laysPairs_124 (go_ok rfl rfl) (by omega) (show P.length < 64 by omega) ?_
        refine go_aload_n (i := 0) dx_X12_laysPairs_125 rfl rfl ?_
        refine go_dup dx_X12_laysPairs_126 rfl ?_
        refine go_getI fs_X12_215 (Or.inl rfl) (go_ok rfl rfl) dx_X12_laysPairs_127 ?_
        refine go_asI (y := (P.length : Int)) (by rw [wr_n (by omega), wr_n (by omega), wr_n (by omega), wr_n (by omega)]; exact z1) ?_
        refine go_iconst dx_X12_laysPairs_130 ?_
        refine go_iadd dx_X12_laysPairs_131 ?_
        refine go_putI fp_X12_215 rfl rfl (go_ok rfl rfl) dx_X12_laysPairs_132 ?_
        refine go_iload dx_X12_laysPairs_135 rfl ?_
        refine go_if_eq (tgt := 143) dx_X12_laysPairs_137 rfl (by omega) (fun c137 => ?_) (fun c137 => absurd c137 (by decide))
        refine go_bipush dx_X12_laysPairs_143 rfl ?_
        refine go_aload_n (i := 0) dx_X12_laysPairs_145 rfl rfl ?_
        refine go_getI fs_X12_218 (Or.inl rfl) (go_ok rfl rfl) dx_X12_laysPairs_146 ?_
        refine go_asI (y := (H.length : Int)) (by rw [wr_n (by omega), wr_n (by omega), wr_n (by omega), wr_n (by omega), wr_n (by omega)]; exact z2) ?_
        refine go_iadd dx_X12_laysPairs_149 ?_
        refine go_asI (y := ((pr_m (gh R r).length (i + 1) (R r) : Nat) : Int)) (by unfold pr_m; rw [if_neg (by omega)]; omega) ?_
        refine go_istore_n (i := 3) (lv' := [(0, vv_A 94), (1, vv_I (r : Int)), (2, vv_I (((R r).length - 1 : Nat) : Int)), (3, vv_I ((pr_m (gh R r).length (i + 1) (R r) : Nat) : Int)), (4, vv_I (i : Int)), (5, vv_I 0)]) dx_X12_laysPairs_150 rfl (by decide) rfl ?_
        refine go_aload_n (i := 0) dx_X12_laysPairs_151 rfl rfl ?_
        refine go_getA (b := 103) fs_X12_39 rfl (go_ok rfl rfl) rfl dx_X12_laysPairs_152 ?_
        refine go_aload_n (i := 0) dx_X12_laysPairs_155 rfl rfl ?_
        refine go_getI fs_X12_218 (Or.inl rfl) (go_ok rfl rfl) dx_X12_laysPairs_156 ?_
        refine go_asI (y := (H.length : Int)) (by rw [wr_n (by omega), wr_n (by omega), wr_n (by omega), wr_n (by omega), wr_n (by omega)]; exact z2) ?_
        refine go_iload_n (i := 1) dx_X12_laysPairs_159 rfl rfl ?_
        refine go_iastoreV (i := H.length) dx_X12_laysPairs_160 (go_ok rfl rfl) (by omega) (show H.length < 48 by omega) ?_
        refine go_aload_n (i := 0) dx_X12_laysPairs_161 rfl rfl ?_
        refine go_getA (b := 104) fs_X12_42 rfl (go_ok rfl rfl) rfl dx_X12_laysPairs_162 ?_
        refine go_aload_n (i := 0) dx_X12_laysPairs_165 rfl rfl ?_
        refine go_getI fs_X12_218 (Or.inl rfl) (go_ok rfl rfl) dx_X12_laysPairs_166 ?_
        refine go_asI (y := (H.length : Int)) (by rw [wr_n (by omega), wr_n (by omega), wr_n (by omega), wr_n (by omega), wr_n (by omega), wr_n (by omega)]; exact z2) ?_
        refine go_iload dx_X12_laysPairs_169 rfl ?_
        refine go_iconst dx_X12_laysPairs_171 ?_
        refine go_iadd dx_X12_laysPairs_172 ?_
        refine go_iastoreV (i := H.length) dx_X12_laysPairs_173 (go_ok rfl rfl) (by omega) (show H.length < 48 by omega) ?_
        refine go_aload_n (i := 0) dx_X12_laysPairs_174 rfl rfl ?_
        refine go_dup dx_X12_laysPairs_175 rfl ?_
        refine go_getI fs_X12_218 (Or.inl rfl) (go_ok rfl rfl) dx_X12_laysPairs_176 ?_
        refine go_asI (y := (H.length : Int)) (by rw [wr_n (by omega), wr_n (by omega), wr_n (by omega), wr_n (by omega), wr_n (by omega), wr_n (by omega), wr_n (by omega)]; exact z2) ?_
        refine go_iconst dx_X12_laysPairs_179 ?_
        refine go_iadd dx_X12_laysPairs_180 ?_
        refine go_putI fp_X12_218 rfl rfl (go_ok rfl rfl) dx_X12_laysPairs_181 ?_
        refine go_iinc (lv' := [(0, vv_A 94), (1, vv_I (r : Int)), (2, vv_I (((R r).length - 1 : Nat) : Int)), (3, vv_I ((pr_m (gh R r).length (i + 1) (R r) : Nat) : Int)), (4, vv_I ((i : Int) + 1)), (5, vv_I 0)]) dx_X12_laysPairs_184 rfl (by decide) rfl ?_
        refine go_goto (tgt := 33) dx_X12_laysPairs_187 rfl ?_
        refine go_keep [0, 1, 2, 3, 4] rfl ?_
        have M := mq_help (a := r) (b := i + 1) (w := (i : Int) + 1) (v := (H.length : Int) + 1) (mq_pair (a := pr_m (gh R r).length i (R r)) (b := (R r).getD (i + 1) 0) (c := pr_b (gh R r).length i (R r)) (r := r) (v := (P.length : Int) + 1) j1 rfl) (by omega) rfl
        refine ih3 _ _ ?_ (fun _ => rfl) (fun c j hc => ?_)
        · have eH : H ++ [(r, i + 1)] = gh R r ++ (List.range (min (i + 1) ((R r).length - 3))).map (fun k => (r, k + 1)) := by
            rw [hH, show min (i + 1) ((R r).length - 3) = i + 1 by omega, show min i ((R r).length - 3) = i by omega, List.range_succ (n := i), List.map_append, List.append_assoc]; rfl
          rw [← eP, ← eH]
          exact M
        · unfold mqP at hc
          rw [wr_n (by omega), wr_n (by omega), wr_n (by omega), wr_n (by omega), wr_n (by omega), wr_n (by omega), wr_n (by omega), wr_n (by omega)]
          exact j3 c j hc
      · refine go_iconst dx_X12_laysPairs_49 ?_
        refine go_goto (tgt := 54) dx_X12_laysPairs_50 rfl ?_
        refine go_istore (lv' := [(0, vv_A 94), (1, vv_I (r : Int)), (2, vv_I (((R r).length - 1 : Nat) : Int)), (3, vv_I ((pr_m (gh R r).length i (R r) : Nat) : Int)), (4, vv_I (i : Int)), (5, vv_I 1)]) dx_X12_laysPairs_54 (by decide) rfl ?_
        refine go_aload_n (i := 0) dx_X12_laysPairs_56 rfl rfl ?_
        refine go_getA (b := 99) fs_X12_27 rfl (go_ok rfl rfl) rfl dx_X12_laysPairs_57 ?_
        refine go_aload_n (i := 0) dx_X12_laysPairs_60 rfl rfl ?_
        refine go_getI fs_X12_215 (Or.inl rfl) (go_ok rfl rfl) dx_X12_laysPairs_61 ?_
        refine go_asI (y := (P.length : Int)) (by exact z1) ?_
        refine go_iload_n (i := 3) dx_X12_laysPairs_64 rfl rfl ?_
        refine go_iastoreV (i := P.length) dx_X12_laysPairs_65 (go_ok rfl rfl) (by omega) (show P.length < 64 by omega) ?_
        refine go_aload_n (i := 0) dx_X12_laysPairs_66 rfl rfl ?_
        refine go_getA (b := 100) fs_X12_30 rfl (go_ok rfl rfl) rfl dx_X12_laysPairs_67 ?_
        refine go_aload_n (i := 0) dx_X12_laysPairs_70 rfl rfl ?_
        refine go_getI fs_X12_215 (Or.inl rfl) (go_ok rfl rfl) dx_X12_laysPairs_71 ?_
        refine go_asI (y := (P.length : Int)) (by rw [wr_n (by omega)]; exact z1) ?_
        refine go_aload_n (i := 0) dx_X12_laysPairs_74 rfl rfl ?_
        refine go_iload_n (i := 1) dx_X12_laysPairs_75 rfl rfl ?_
        refine go_iload dx_X12_laysPairs_76 rfl ?_
        refine go_cV2 sv_X12_190 (go_ok rfl rfl) dx_X12_laysPairs_78 (Nat.le_of_ble_eq_true rfl) (Nat.le_of_ble_eq_true rfl) (o_partOf (bo_fr hb2 (fun j _ => by rw [wr_n (by omega)])) hr (by omega) ?_)
        refine go_iastoreV (i := P.length) dx_X12_laysPairs_81 (go_ok rfl rfl) (by omega) (show P.length < 64 by omega) ?_
        refine go_aload_n (i := 0) dx_X12_laysPairs_82 rfl rfl ?_
        refine go_getA (b := 101) fs_X12_33 rfl (go_ok rfl rfl) rfl dx_X12_laysPairs_83 ?_
        refine go_aload_n (i := 0) dx_X12_laysPairs_86 rfl rfl ?_
        refine go_getI fs_X12_215 (Or.inl rfl) (go_ok rfl rfl) dx_X12_laysPairs_87 ?_
        refine go_asI (y := (P.length : Int)) (by rw [wr_n (by omega), wr_n (by omega)]; exact z1) ?_
        refine go_iload dx_X12_laysPairs_90 rfl ?_
        refine go_if_eq (tgt := 107) dx_X12_laysPairs_92 rfl (by omega) (fun c92 => absurd c92 (by decide)) (fun c92 => ?_)
        refine go_aload_n (i := 0) dx_X12_laysPairs_95 rfl rfl ?_
        refine go_iload_n (i := 1) dx_X12_laysPairs_96 rfl rfl ?_
        refine go_iload dx_X12_laysPairs_97 rfl ?_
        refine go_iconst dx_X12_laysPairs_99 ?_
        refine go_iadd dx_X12_laysPairs_100 ?_
        refine go_asI (y := ((i + 1 : Nat) : Int)) (by omega) ?_
        refine go_cV2 sv_X12_190 (go_ok rfl rfl) dx_X12_laysPairs_101 (Nat.le_of_ble_eq_true rfl) (Nat.le_of_ble_eq_true rfl) (o_partOf (bo_fr hb2 (fun j _ => by rw [wr_n (by omega), wr_n (by omega)])) hr (by omega) ?_)
        refine go_asI (y := ((pr_b (gh R r).length i (R r) : Nat) : Int)) (by exact congrArg (fun z : Nat => (z : Int)) (if_pos (c := i + 3 = (R r).length) (by omega)).symm) ?_
        refine go_goto (tgt := 114) dx_X12_laysPairs_104 rfl ?_
        refine go_iastoreV (i := P.length) dx_X12_laysPairs_114 (go_ok rfl rfl) (by omega) (show P.length < 64 by omega) ?_
        refine go_aload_n (i := 0) dx_X12_laysPairs_115 rfl rfl ?_
        refine go_getA (b := 102) fs_X12_36 rfl (go_ok rfl rfl) rfl dx_X12_laysPairs_116 ?_
        refine go_aload_n (i := 0) dx_X12_laysPairs_119 rfl rfl ?_
        refine go_getI fs_X12_215 (Or.inl rfl) (go_ok rfl rfl) dx_X12_laysPairs_120 ?_
        refine go_asI (y := (P.length : Int)) (by rw [wr_n (by omega), wr_n (by omega), wr_n (by omega)]; exact z1) ?_
        refine go_iload_n (i := 1) dx_X12_laysPairs_123 rfl rfl ?_
        refine go_iastoreV (i := P.length) dx_X12_laysPairs_124 (go_ok rfl rfl) (by omega) (show P.length < 64 by omega) ?_
        refine go_aload_n (i := 0) dx_X12_laysPairs_125 rfl rfl ?_
        refine go_dup dx_X12_laysPairs_126 rfl ?_
        refine go_getI fs_X12_215 (Or.inl rfl) (go_ok rfl rfl) dx_X12_laysPairs_127 ?_
        refine go_asI (y := (P.length : Int)) (by rw [wr_n (by omega), wr_n (by omega), wr_n (by omega), wr_n (by omega)]; exact z1) ?_
        refine go_iconst dx_X12_laysPairs_130 ?_
        refine go_iadd dx_X12_laysPairs_131 ?_
        refine go_putI fp_X12_215 rfl rfl (go_ok rfl rfl) dx_X12_laysPairs_132 ?_
        refine go_iload dx_X12_laysPairs_135 rfl ?_
        refine go_if_eq (tgt := 143) dx_X12_laysPairs_137 rfl (by omega) (fun c137 => absurd c137 (by decide)) (fun c137 => ?_)
        refine go_goto (tgt := 184) dx_X12_laysPairs_140 rfl ?_
        refine go_iinc (lv' := [(0, vv_A 94), (1, vv_I (r : Int)), (2, vv_I (((R r).length - 1 : Nat) : Int)), (3, vv_I ((pr_m (gh R r).length i (R r) : Nat) : Int)), (4, vv_I ((i : Int) + 1)), (5, vv_I 1)]) dx_X12_laysPairs_184 rfl (by decide) rfl ?_
        refine go_goto (tgt := 33) dx_X12_laysPairs_187 rfl ?_
        refine go_keep [0, 1, 2, 3, 4] rfl ?_
        have M := mq_pair (a := pr_m (gh R r).length i (R r)) (b := (R r).getD (i + 1) 0) (c := pr_b (gh R r).length i (R r)) (r := r) (v := (P.length : Int) + 1) j1 rfl
        refine ih3 _ _ ?_ (fun q => absurd q (by omega)) (fun c j hc => ?_)
        · rw [← eP, show min (i + 1) ((R r).length - 3) = min i ((R r).length - 3) by omega, ← hH]
          exact M
        · unfold mqP at hc
          rw [wr_n (by omega), wr_n (by omega), wr_n (by omega), wr_n (by omega), wr_n (by omega)]
          exact j3 c j hc
    · obtain ⟨δ2, its⟩ := X
      obtain ⟨j1, j2, j3⟩ := hI
      dsimp only at j1 j2 j3 ⊢
      have e1 : gp R (r + 1) = gp R r ++ (List.range ((R r).length - 2)).map (pr_e (gh R r).length r (R r)) := rfl
      have e2 : gh R (r + 1) = gh R r ++ (List.range ((R r).length - 3)).map (fun k => (r, k + 1)) := rfl
      rw [show min ((R r).length - 2) ((R r).length - 3) = (R r).length - 3 by omega, ← e1, ← e2] at j1
      refine go_iload dx_X12_laysPairs_33 rfl ?_
      refine go_iconst dx_X12_laysPairs_35 ?_
      refine go_iadd dx_X12_laysPairs_36 ?_
      refine go_iload_n (i := 2) dx_X12_laysPairs_37 rfl rfl ?_
      refine go_icmp_ge (tgt := 190) dx_X12_laysPairs_38 rfl (by omega) (by omega) (fun c38 => ?_) (fun c38 => by exact absurd c38 (by omega))
      refine go_iinc (lv' := [(0, vv_A 94), (1, vv_I ((r : Int) + 1)), (2, vv_I (((R r).length - 1 : Nat) : Int)), (3, vv_I its), (4, vv_I (((R r).length - 2 : Nat) : Int))]) dx_X12_laysPairs_190 rfl (by decide) rfl ?_
      refine go_goto (tgt := 12) dx_X12_laysPairs_193 rfl ?_
      refine go_keep [0, 1] rfl ?_
      exact ih _ ⟨j1, j3⟩
  · obtain ⟨i1, f1⟩ := hI
    rw [← gP_eq, ← gH_eq] at i1
    refine go_iload_n (i := 1) dx_X12_laysPairs_12 rfl rfl ?_
    refine go_bipush dx_X12_laysPairs_13 rfl ?_
    refine go_icmp_ge (tgt := 196) dx_X12_laysPairs_15 rfl (by omega) (by omega) (fun c15 => ?_) (fun c15 => by exact absurd c15 (by omega))
    refine go_vreturn dx_X12_laysPairs_196 rfl (Nat.le_refl _) (Nat.le_refl _) ?_
    exact hQ _ i1 f1
end GMP
