/-! the reference: cells of a row of letters -/
def mfP (c j : Nat) : Prop := mqP c j ∨ c = 107
/-- cells of all shorter spans, and of those of one length that begin ahead of a place -/
def mf_at (δ : Nat → Nat → Int) (R : Nat → List Nat) (w : List Nat) (s m : Nat) : Prop := ∀ i j, i < j → j ≤ w.length → (j - i < s ∨ (j - i = s ∧ i < m)) → δ 107 (16 * i + j) = (mk 62 (fun x => dp R (plw w) x i j) : Int)
section GML
variable {E : go_E} {d : Nat} {δ : Nat → Nat → Int} {Q : List go_V → go_F → (Nat → Nat → Int) → Prop} {K : sK} {R : Nat → List Nat} {w : List Nat}
theorem lf_dp (hR : ∀ r, rl_ok (R r)) {pl : Nat → Nat → Prop} {s i j x : Nat} (key : ∀ y, s.testBit y = true ↔ dpB R pl y i j) : lf R s x ↔ dp R pl x i j := by
  rw [dp_step hR]
  unfold lf
  rw [key]
  exact ⟨fun q => q.elim Or.inl (fun ⟨y, y1, y2⟩ => Or.inr ⟨y, y1, (key y).mp y2⟩), fun q => q.elim Or.inl (fun ⟨y, y1, y2⟩ => Or.inr ⟨y, y1, (key y).mpr y2⟩)⟩
theorem jcp_s (hR : ∀ r, rl_ok (R r)) {pl : Nat → Nat → Prop} {i j k : Nat} (h1 : i < k) (h2 : k < j) : bw_or (mk 62 (jcp R pl i j k) : Int) (mk 62 (jn R (mk 62 (fun x => dp R pl x i k)) (mk 62 (fun x => dp R pl x k j))) : Int) = (mk 62 (jcp R pl i j (k + 1)) : Int) := by
  rw [bw_orN (mk_63 62 _ (by decide)) (mk_63 62 _ (by decide)), mk_or]
  refine congrArg _ (mk_congr (fun x _ => ⟨fun q => ?_, fun q => ?_⟩))
  · rcases q with ⟨e, he, e1, k', k1, k2, k3, k4, k5⟩ | ⟨e, he, e1, q1, q2⟩
    · exact ⟨e, he, e1, k', k1, by omega, k3, k4, k5⟩
    · exact ⟨e, he, e1, k, h1, by omega, h2, (dp_bit hR).mp q1, (dp_bit hR).mp q2⟩
  · obtain ⟨e, he, e1, k', k1, k2, k3, k4, k5⟩ := q
    by_cases z : k' = k
    · subst z; exact Or.inr ⟨e, he, e1, (dp_bit hR).mpr k4, (dp_bit hR).mpr k5⟩
    · exact Or.inl ⟨e, he, e1, k', k1, by omega, k3, k4, k5⟩
theorem jcp_key (hR : ∀ r, rl_ok (R r)) {pl : Nat → Nat → Prop} {i j : Nat} (h : i + 1 < j) (y : Nat) : (mk 62 (jcp R pl i j j)).testBit y = true ↔ dpB R pl y i j := by
  rw [mk_bit]
  constructor
  · rintro ⟨_, e, he, rfl, k, k1, k2, k3, k4, k5⟩; exact Or.inr ⟨e, he, rfl, k, k1, k2, k4, k5⟩
  · rintro (⟨_, _, q, _⟩ | ⟨e, he, rfl, k, k1, k2, k4, k5⟩)
    · omega
    · exact ⟨(pe_lt62 hR he).1, e, he, rfl, k, k1, k2, k2, k4, k5⟩
theorem one_key {i y : Nat} (hi : i < w.length) (hw : ∀ x ∈ w, 8 ≤ x ∧ x < 14) : (2 ^ w[i]).testBit y = true ↔ dpB R (plw w) y i (i + 1) := by
  have hc := hw _ (List.getElem_mem hi)
  rw [bt_one]
  constructor
  · intro q
    subst q
    exact Or.inl ⟨hc.1, hc.2, rfl, List.getElem?_eq_getElem hi⟩
  · rintro (⟨_, _, _, q⟩ | ⟨e, he, rfl, k, k1, k2, _⟩)
    · unfold plw at q
      rw [List.getElem?_eq_getElem hi] at q
      exact Option.some.inj q
    · omega
theorem m_laysCells {n : Nat} (h : bo_at δ R) (hw : ∀ x ∈ w, 8 ≤ x ∧ x < 14) (hn : w.length = n) (h14 : n ≤ 15) (hr : mw_at δ w)
    (hQ : ∀ δ', mq_at δ' (gP R) (gH R) → me_at δ' R w → (∀ c j, ¬ mfP c j → δ' c j = δ c j) → Q [] go_φ δ') :
    Go E (d + 2) (0, 0) mx_X12_laysCells go_φ 0 [(0, vv_A 94), (1, vv_I (n : Int))] [] δ Q := by
  have hR := h.1
  have l106 : go_ln 106 = 15 := rfl
  have l107 : go_ln 107 = 256 := rfl
  have outer := lp_up (X := Nat → Nat → Int) (hi := n + 1) (I := fun s δ1 => 1 ≤ s ∧ mf_at δ1 R w s 0 ∧ mq_at δ1 (gP R) (gH R) ∧ (∀ c j, ¬ mfP c j → δ1 c j = δ c j))
    (G := fun s δ1 => Go E (d + 2) (0, 0) mx_X12_laysCells go_φ 6 [(0, vv_A 94), (1, vv_I (n : Int)), (2, vv_I (s : Int))] [] δ1 Q) (fun s δ1 hs hI ih => ?_) (fun δ1 hI => ?_)
  · refine go_aload_n (i := 0) dx_X12_laysCells_0 rfl rfl ?_
    refine go_cV0 sv_X12_221 (go_ok rfl rfl) dx_X12_laysCells_1 (Nat.le_of_ble_eq_true rfl) (Nat.le_of_ble_eq_true rfl) (m_laysPairs h (fun δ1 q1 f1 => ?_))
    refine go_iconst dx_X12_laysCells_4 ?_
    refine go_istore_n (i := 2) (lv' := [(0, vv_A 94), (1, vv_I (n : Int)), (2, vv_I 1)]) dx_X12_laysCells_5 rfl (by decide) rfl ?_
    exact outer 1 δ1 (by omega) ⟨Nat.le_refl _, fun i j a b c => by omega, q1, fun c j hc => f1 c j (fun z => hc (Or.inl z))⟩
  · obtain ⟨s1, i1, i2, i3⟩ := hI
    have inner := lp_up (X := Nat → Nat → Int) (hi := n + 1 - s) (I := fun i δ1 => mf_at δ1 R w s i ∧ mq_at δ1 (gP R) (gH R) ∧ (∀ c j, ¬ mfP c j → δ1 c j = δ c j))
      (G := fun i δ1 => Go E (d + 2) (0, 0) mx_X12_laysCells go_φ 13 [(0, vv_A 94), (1, vv_I (n : Int)), (2, vv_I (s : Int)), (3, vv_I (i : Int))] [] δ1 Q) (fun i δ2 hi hI ih2 => ?_) (fun δ2 hI => ?_)
    · refine go_iload_n (i := 2) dx_X12_laysCells_6 rfl rfl ?_
      refine go_iload_n (i := 1) dx_X12_laysCells_7 rfl rfl ?_
      refine go_icmp_gt (tgt := 124) dx_X12_laysCells_8 rfl (by omega) (by omega) (fun c8 => by exact absurd c8 (by omega)) (fun c8 => ?_)
      refine go_iconst dx_X12_laysCells_11 ?_
      refine go_istore_n (i := 3) (lv' := [(0, vv_A 94), (1, vv_I (n : Int)), (2, vv_I (s : Int)), (3, vv_I 0)]) dx_X12_laysCells_12 rfl (by decide) rfl ?_
      exact inner 0 δ1 (Nat.zero_le _) ⟨i1, i2, i3⟩
    · obtain ⟨j1, j2, j3⟩ := hI
      have hb2 : bo_at δ2 R := bo_fr h (fun j hj => j3 95 j (by unfold mfP mqP; omega))
      have tail : ∀ t : Nat, t < 2 ^ 62 → (∀ y, t.testBit y = true ↔ dpB R (plw w) y i (i + s)) → Go E (d + 2) (0, 0) mx_X12_laysCells go_φ 93 [(0, vv_A 94), (1, vv_I (n : Int)), (2, vv_I (s : Int)), (3, vv_I (i : Int)), (4, vv_L (t : Int))] [] δ2 Q := fun t ht hk => by
        refine go_aload_n (i := 0) dx_X12_laysCells_93 rfl rfl ?_
        refine go_getA (b := 107) fs_X12_51 rfl (go_ok rfl rfl) rfl dx_X12_laysCells_94 ?_
        refine go_bipush dx_X12_laysCells_97 rfl ?_
        refine go_iload_n (i := 3) dx_X12_laysCells_99 rfl rfl ?_
        refine go_imul dx_X12_laysCells_100 ?_
        refine go_iload_n (i := 3) dx_X12_laysCells_101 rfl rfl ?_
        refine go_iadd dx_X12_laysCells_102 ?_
        refine go_iload_n (i := 2) dx_X12_laysCells_103 rfl rfl ?_
        refine go_iadd dx_X12_laysCells_104 ?_
        refine go_aload_n (i := 0) dx_X12_laysCells_105 rfl rfl ?_
        refine go_lload dx_X12_laysCells_106 rfl ?_
        refine go_cV1 sv_X12_249 (go_ok rfl rfl) dx_X12_laysCells_108 (Nat.le_of_ble_eq_true rfl) (Nat.le_of_ble_eq_true rfl) (m_closed hb2 ht ?_)
        refine go_lastoreV (i := 16 * i + (i + s)) dx_X12_laysCells_111 (go_ok rfl rfl) (by omega) (show 16 * i + (i + s) < 256 by omega) ?_
        refine go_iinc (lv' := [(0, vv_A 94), (1, vv_I (n : Int)), (2, vv_I (s : Int)), (3, vv_I ((i : Int) + 1)), (4, vv_L (t : Int))]) dx_X12_laysCells_112 rfl (by decide) rfl ?_
        refine go_goto (tgt := 13) dx_X12_laysCells_115 rfl ?_
        refine go_keep [0, 1, 2, 3] rfl ?_
        refine ih2 _ ⟨fun a b hab hbn hor => ?_, mq_fr j2 (fun c j hc => by unfold mqP at hc; rw [wr_n (by omega)]), fun c j hc => by unfold mfP at hc; rw [wr_n (by omega)]; exact j3 c j hc⟩
        by_cases q : a = i ∧ b = i + s
        · obtain ⟨q1, q2⟩ := q
          subst q1 q2
          rw [wr_eq]
          exact congrArg _ (mk_congr (fun x _ => lf_dp hR hk))
        · rw [wr_i _ _ _ _ (by omega)]
          exact j1 a b hab hbn (by omega)
      have cuts := lp_up (X := Unit) (hi := s - 1) (I := fun _ _ => True)
        (G := fun k _ => 2 ≤ s → ∀ lv0, lv0 = [(0, vv_A 94), (1, vv_I (n : Int)), (2, vv_I (s : Int)), (3, vv_I (i : Int)), (4, vv_L (mk 62 (jcp R (plw w) i (i + s) (i + 1 + k)) : Int)), (6, vv_I ((i + 1 + k : Nat) : Int))] → Go E (d + 2) (0, 0) mx_X12_laysCells go_φ 44 lv0 [] δ2 Q)
        (fun k _ hk _ ih3 h2 lv0 e0 => by
          subst e0
          refine go_iload dx_X12_laysCells_44 rfl ?_
          refine go_iload_n (i := 3) dx_X12_laysCells_46 rfl rfl ?_
          refine go_iload_n (i := 2) dx_X12_laysCells_47 rfl rfl ?_
          refine go_iadd dx_X12_laysCells_48 ?_
          refine go_icmp_ge (tgt := 93) dx_X12_laysCells_49 rfl (by omega) (by omega) (fun c49 => by exact absurd c49 (by omega)) (fun c49 => ?_)
          refine go_lload dx_X12_laysCells_52 rfl ?_
          refine go_aload_n (i := 0) dx_X12_laysCells_54 rfl rfl ?_
          refine go_aload_n (i := 0) dx_X12_laysCells_55 rfl rfl ?_
          refine go_getA (b := 107) fs_X12_51 rfl (go_ok rfl rfl) rfl dx_X12_laysCells_56 ?_
          refine go_bipush dx_X12_laysCells_59 rfl ?_
          refine go_iload_n (i := 3) dx_X12_laysCells_61 rfl rfl ?_
          refine go_imul dx_X12_laysCells_62 ?_
          refine go_iload dx_X12_laysCells_63 rfl ?_
          refine go_iadd dx_X12_laysCells_65 ?_
          refine go_laloadV (i := (16 * i + (i + 1 + k))) (v := ((mk 62 (fun x => dp R (plw w) x i (i + 1 + k)) : Int))) dx_X12_laysCells_66 (go_ok rfl rfl) (by omega) (show (16 * i + (i + 1 + k)) < 256 by omega) (by exact j1 _ _ (by omega) (by omega) (Or.inl (by omega))) ?_
          refine go_aload_n (i := 0) dx_X12_laysCells_67 rfl rfl ?_
          refine go_getA (b := 107) fs_X12_51 rfl (go_ok rfl rfl) rfl dx_X12_laysCells_68 ?_
          refine go_bipush dx_X12_laysCells_71 rfl ?_
          refine go_iload dx_X12_laysCells_73 rfl ?_
          refine go_imul dx_X12_laysCells_75 ?_
          refine go_iload_n (i := 3) dx_X12_laysCells_76 rfl rfl ?_
          refine go_iadd dx_X12_laysCells_77 ?_
          refine go_iload_n (i := 2) dx_X12_laysCells_78 rfl rfl ?_
          refine go_iadd dx_X12_laysCells_79 ?_
          refine go_laloadV (i := (16 * (i + 1 + k) + (i + s))) (v := ((mk 62 (fun x => dp R (plw w) x (i + 1 + k) (i + s)) : Int))) dx_X12_laysCells_80 (go_ok rfl rfl) (by omega) (show (16 * (i + 1 + k) + (i + s)) < 256 by omega) (by exact j1 _ _ (by omega) (by omega) (Or.inl (by omega))) ?_
          refine go_cV2 sv_X12_245 (go_ok rfl rfl) dx_X12_laysCells_81 (Nat.le_of_ble_eq_true rfl) (Nat.le_of_ble_eq_true rfl) (m_made hR j2 (mk_lt 62 _) (mk_lt 62 _) ?_)
          refine go_lor dx_X12_laysCells_84 ?_
          refine go_asL (y := (mk 62 (jcp R (plw w) i (i + s) (i + 1 + k + 1)) : Int)) (by exact jcp_s hR (by omega) (by omega)) ?_
          refine go_lstore (lv' := [(0, vv_A 94), (1, vv_I (n : Int)), (2, vv_I (s : Int)), (3, vv_I (i : Int)), (4, vv_L (mk 62 (jcp R (plw w) i (i + s) (i + 1 + k + 1)) : Int)), (6, vv_I ((i + 1 + k : Nat) : Int))]) dx_X12_laysCells_85 (by decide) rfl ?_
          refine go_iinc (lv' := [(0, vv_A 94), (1, vv_I (n : Int)), (2, vv_I (s : Int)), (3, vv_I (i : Int)), (4, vv_L (mk 62 (jcp R (plw w) i (i + s) (i + 1 + k + 1)) : Int)), (6, vv_I (((i + 1 + k : Nat) : Int) + 1))]) dx_X12_laysCells_87 rfl (by decide) rfl ?_
          refine go_goto (tgt := 44) dx_X12_laysCells_90 rfl ?_
          exact ih3 () trivial h2 _ rfl
        ) (fun _ _ h2 lv0 e0 => by
          subst e0
          refine go_iload dx_X12_laysCells_44 rfl ?_
          refine go_iload_n (i := 3) dx_X12_laysCells_46 rfl rfl ?_
          refine go_iload_n (i := 2) dx_X12_laysCells_47 rfl rfl ?_
          refine go_iadd dx_X12_laysCells_48 ?_
          refine go_icmp_ge (tgt := 93) dx_X12_laysCells_49 rfl (by omega) (by omega) (fun c49 => ?_) (fun c49 => by exact absurd c49 (by omega))
          refine go_keep [0, 1, 2, 3, 4] rfl ?_
          refine tail _ (mk_lt 62 _) (fun y => ?_)
          rw [show i + 1 + (s - 1) = i + s by omega]
          exact jcp_key hR (by omega) y
        )
      refine go_iload_n (i := 3) dx_X12_laysCells_13 rfl rfl ?_
      refine go_iload_n (i := 2) dx_X12_laysCells_14 rfl rfl ?_
      refine go_iadd dx_X12_laysCells_15 ?_
      refine go_iload_n (i := 1) dx_X12_laysCells_16 rfl rfl ?_
      refine go_icmp_gt (tgt := 118) dx_X12_laysCells_17 rfl (by omega) (by omega) (fun c17 => by exact absurd c17 (by omega)) (fun c17 => ?_)
      refine go_iload_n (i := 2) dx_X12_laysCells_20 rfl rfl ?_
      refine go_iconst dx_X12_laysCells_21 ?_
      refine go_icmp_ne (tgt := 36) dx_X12_laysCells_22 rfl (by omega) (by omega) (fun c22 => ?_) (fun c22 => ?_)
      · refine go_lconst (x := 0) dx_X12_laysCells_36 rfl ?_
        refine go_lstore (lv' := [(0, vv_A 94), (1, vv_I (n : Int)), (2, vv_I (s : Int)), (3, vv_I (i : Int)), (4, vv_L 0)]) dx_X12_laysCells_37 (by decide) rfl ?_
        refine go_iload_n (i := 3) dx_X12_laysCells_39 rfl rfl ?_
        refine go_iconst dx_X12_laysCells_40 ?_
        refine go_iadd dx_X12_laysCells_41 ?_
        refine go_istore (lv' := [(0, vv_A 94), (1, vv_I (n : Int)), (2, vv_I (s : Int)), (3, vv_I (i : Int)), (4, vv_L 0), (6, vv_I ((i + 1 + 0 : Nat) : Int))]) dx_X12_laysCells_42 (by decide) rfl ?_
        have k := cuts 0 () (Nat.zero_le _) trivial (by omega) _ rfl
        rw [mk_zero (P := jcp R (plw w) i (i + s) (i + 1 + 0)) (fun y _ ⟨e, he, e1, k', k1, k2, k3⟩ => by omega)] at k
        exact k
      · refine go_lconst (x := 1) dx_X12_laysCells_25 rfl ?_
        refine go_aload_n (i := 0) dx_X12_laysCells_26 rfl rfl ?_
        refine go_getA (b := 106) fs_X12_48 rfl (go_ok rfl rfl) rfl dx_X12_laysCells_27 ?_
        refine go_iload_n (i := 3) dx_X12_laysCells_30 rfl rfl ?_
        refine go_ialoadV (i := i) (v := (((w[i]'(by omega) : Nat) : Int))) dx_X12_laysCells_31 (go_ok rfl rfl) (by omega) (show i < 15 by omega) (by rw [j3 106 i (by unfold mfP mqP; omega)]; exact hr i (by omega)) ?_
        refine go_lshl dx_X12_laysCells_32 ?_
        refine go_asL (y := ((2 ^ (w[i]'(by omega)) : Nat) : Int)) (by exact bw_bit (by have := hw _ (List.getElem_mem (show i < w.length by omega)); omega)) ?_
        refine go_goto (tgt := 37) dx_X12_laysCells_33 rfl ?_
        refine go_lstore (lv' := [(0, vv_A 94), (1, vv_I (n : Int)), (2, vv_I (s : Int)), (3, vv_I (i : Int)), (4, vv_L ((2 ^ (w[i]'(by omega)) : Nat) : Int))]) dx_X12_laysCells_37 (by decide) rfl ?_
        refine go_iload_n (i := 3) dx_X12_laysCells_39 rfl rfl ?_
        refine go_iconst dx_X12_laysCells_40 ?_
        refine go_iadd dx_X12_laysCells_41 ?_
        refine go_istore (lv' := [(0, vv_A 94), (1, vv_I (n : Int)), (2, vv_I (s : Int)), (3, vv_I (i : Int)), (4, vv_L ((2 ^ (w[i]'(by omega)) : Nat) : Int)), (6, vv_I ((i + 1 + 0 : Nat) : Int))]) dx_X12_laysCells_42 (by decide) rfl ?_
        have hs1 : s = 1 := by omega
        subst hs1
        refine go_iload dx_X12_laysCells_44 rfl ?_
        refine go_iload_n (i := 3) dx_X12_laysCells_46 rfl rfl ?_
        refine go_iload_n (i := 2) dx_X12_laysCells_47 rfl rfl ?_
        refine go_iadd dx_X12_laysCells_48 ?_
        refine go_icmp_ge (tgt := 93) dx_X12_laysCells_49 rfl (by omega) (by omega) (fun c49 => ?_) (fun c49 => by exact absurd c49 (by omega))
        refine go_keep [0, 1, 2, 3, 4] rfl ?_
        exact tail _ (Nat.lt_trans (Nat.pow_lt_pow_right (n := 14) (by decide) (hw _ (List.getElem_mem (show i < w.length by omega))).2) (by decide)) (fun y => one_key (by omega) hw)
    · obtain ⟨j1, j2, j3⟩ := hI
      refine go_iload_n (i := 3) dx_X12_laysCells_13 rfl rfl ?_
      refine go_iload_n (i := 2) dx_X12_laysCells_14 rfl rfl ?_
      refine go_iadd dx_X12_laysCells_15 ?_
      refine go_iload_n (i := 1) dx_X12_laysCells_16 rfl rfl ?_
      refine go_icmp_gt (tgt := 118) dx_X12_laysCells_17 rfl (by omega) (by omega) (fun c17 => ?_) (fun c17 => by exact absurd c17 (by omega))
      refine go_iinc (lv' := [(0, vv_A 94), (1, vv_I (n : Int)), (2, vv_I ((s : Int) + 1)), (3, vv_I ((n + 1 - s : Nat) : Int))]) dx_X12_laysCells_118 rfl (by decide) rfl ?_
      refine go_goto (tgt := 6) dx_X12_laysCells_121 rfl ?_
      refine go_keep [0, 1, 2] rfl ?_
      exact ih δ2 ⟨by omega, fun a b hab hbn hor => j1 a b hab hbn (by omega), j2, j3⟩
  · obtain ⟨s1, i1, i2, i3⟩ := hI
    refine go_iload_n (i := 2) dx_X12_laysCells_6 rfl rfl ?_
    refine go_iload_n (i := 1) dx_X12_laysCells_7 rfl rfl ?_
    refine go_icmp_gt (tgt := 124) dx_X12_laysCells_8 rfl (by omega) (by omega) (fun c8 => ?_) (fun c8 => by exact absurd c8 (by omega))
    refine go_vreturn dx_X12_laysCells_124 rfl (Nat.le_refl _) (Nat.le_refl _) ?_
    exact hQ δ1 i2 (fun a b hab hbn => i1 a b hab hbn (by omega)) i3
/-- the word's cells, if the flag says that they are laid -/
def ml_at (δ : Nat → Nat → Int) (K : sK) : Prop := δ 94 20 = 0 ∨ (δ 94 20 = 1 ∧ mw_at δ K.2.2 ∧ me_at δ K.1 K.2.2)
def mx_at (δ : Nat → Nat → Int) (S : sS) : Prop := ms_at δ S ∧ ml_at δ S.1
/-- what the reference's calls leave to the class -/
def fl (δ δ' : Nat → Nat → Int) : Prop := ∀ b, b < 94 → ∀ j, δ' b j = δ b j
/-- scratch: what the calls may change -/
def sc (c j : Nat) : Prop := (99 ≤ c ∧ c ≤ 133) ∨ (c = 94 ∧ j ≠ 3 ∧ j ≠ 6 ∧ j ≠ 7 ∧ j ≠ 8)
theorem ms_sc {δ δ' : Nat → Nat → Int} {S : sS} (h : ms_at δ S) (f : ∀ c j, ¬ sc c j → δ' c j = δ c j) : ms_at δ' S := ms_fr h (fun b j hb => f b j (by unfold sc; unfold ms_P at hb; omega))
theorem fl_sc {δ δ' : Nat → Nat → Int} (f : ∀ c j, ¬ sc c j → δ' c j = δ c j) : fl δ δ' := fun b hb j => f b j (by unfold sc; omega)
theorem ml_fr {δ δ' : Nat → Nat → Int} (h : ml_at δ K) (f : ∀ c j, c = 106 ∨ c = 107 ∨ (c = 94 ∧ j = 20) → δ' c j = δ c j) : ml_at δ' K := by
  unfold ml_at
  rw [f 94 20 (Or.inr (Or.inr ⟨rfl, rfl⟩))]
  exact h.imp id (fun q => ⟨q.1, mw_fr q.2.1 (fun j => f _ _ (Or.inl rfl)), me_fr q.2.2 (fun j => f _ _ (Or.inr (Or.inl rfl)))⟩)
theorem m_lays (hb : bk_at δ 95 0 K) (h : ml_at δ K) (hQ : ∀ δ', δ' 94 20 = 1 → mw_at δ' K.2.2 → me_at δ' K.1 K.2.2 → (mq_at δ (gP K.1) (gH K.1) → mq_at δ' (gP K.1) (gH K.1)) → (∀ c j, ¬ mfP c j → c ≠ 106 → (c = 94 → j ≠ 20) → δ' c j = δ c j) → Q [] go_φ δ') :
    Go E (d + 3) (0, 0) mx_X12_lays go_φ 0 [(0, vv_A 94)] [] δ Q := by
  have l106 : go_ln 106 = 15 := rfl
  have l95 : go_ln 95 = 384 := rfl
  have h14 := hb.2.2.2.2.2.2.2.2.1
  have hlet := hb.2.2.2.2.2.2.2.2.2
  have loop := lp_up (X := Nat → Nat → Int) (hi := 14) (I := fun k δ1 => δ1 94 20 = 1 ∧ (∀ i, i < k → δ1 106 i = ((K.2.2.getD i 0 : Nat) : Int)) ∧ (∀ c j, c ≠ 106 → (c = 94 → j ≠ 20) → δ1 c j = δ c j))
    (G := fun k δ1 => Go E (d + 3) (0, 0) mx_X12_lays go_φ 15 [(0, vv_A 94), (1, vv_I (k : Int))] [] δ1 Q) (fun k δ1 hk hI ih => ?_) (fun δ1 hI => ?_)
  · rcases h with h | ⟨h1, h2, h3⟩
    · refine go_aload_n (i := 0) dx_X12_lays_0 rfl rfl ?_
      refine go_getI fs_X12_155 (Or.inr rfl) (go_ok rfl rfl) dx_X12_lays_1 ?_
      refine go_if_eq (tgt := 8) dx_X12_lays_4 rfl (by omega) (fun c4 => ?_) (fun c4 => ?_)
      · refine go_aload_n (i := 0) dx_X12_lays_8 rfl rfl ?_
        refine go_iconst dx_X12_lays_9 ?_
        refine go_putZ fp_X12_155 rfl rfl (go_ok rfl rfl) (by first | omega | (exact Or.inr rfl)) dx_X12_lays_10 ?_
        refine go_iconst dx_X12_lays_13 ?_
        refine go_istore_n (i := 1) (lv' := [(0, vv_A 94), (1, vv_I 0)]) dx_X12_lays_14 rfl (by decide) rfl ?_
        exact loop 0 _ (Nat.zero_le _) ⟨wr_eq _ _ _ _, fun i hi => absurd hi (Nat.not_lt_zero _), fun c j h1 h2 => wr_n h2⟩
      · refine go_vreturn dx_X12_lays_7 rfl (Nat.le_refl _) (Nat.le_refl _) ?_
        exact absurd h (by assumption)
    · refine go_aload_n (i := 0) dx_X12_lays_0 rfl rfl ?_
      refine go_getI fs_X12_155 (Or.inr rfl) (go_ok rfl rfl) dx_X12_lays_1 ?_
      refine go_asI (y := 1) (by exact h1) ?_
      refine go_if_eq (tgt := 8) dx_X12_lays_4 rfl (by omega) (fun c4 => absurd c4 (by decide)) (fun c4 => ?_)
      refine go_vreturn dx_X12_lays_7 rfl (Nat.le_refl _) (Nat.le_refl _) ?_
      exact hQ δ h1 h2 h3 id (fun _ _ _ _ _ => rfl)
  · obtain ⟨i0, i1, i2⟩ := hI
    have e := hb.2.2.2.1 k (by omega)
    refine go_iload_n (i := 1) dx_X12_lays_15 rfl rfl ?_
    refine go_bipush dx_X12_lays_16 rfl ?_
    refine go_icmp_ge (tgt := 42) dx_X12_lays_18 rfl (by omega) (by omega) (fun c18 => by exact absurd c18 (by omega)) (fun c18 => ?_)
    refine go_aload_n (i := 0) dx_X12_lays_21 rfl rfl ?_
    refine go_getA (b := 106) fs_X12_48 rfl (go_ok rfl rfl) rfl dx_X12_lays_22 ?_
    refine go_iload_n (i := 1) dx_X12_lays_25 rfl rfl ?_
    refine go_aload_n (i := 0) dx_X12_lays_26 rfl rfl ?_
    refine go_getA (b := 95) fs_X12_7 rfl (go_ok rfl rfl) rfl dx_X12_lays_27 ?_
    refine go_bipush dx_X12_lays_30 rfl ?_
    refine go_iload_n (i := 1) dx_X12_lays_32 rfl rfl ?_
    refine go_iadd dx_X12_lays_33 ?_
    refine go_ialoadV (i := (114 + k)) (v := (((K.2.2.getD k 0 : Nat) : Int))) dx_X12_lays_34 (go_ok rfl rfl) (by omega) (show (114 + k) < 384 by omega) (by rw [i2 _ _ (by decide) (by omega)]; rw [Nat.zero_add] at e; exact e) ?_
    refine go_iastoreV (i := k) dx_X12_lays_35 (go_ok rfl rfl) (by omega) (show k < 15 by omega) ?_
    refine go_iinc (lv' := [(0, vv_A 94), (1, vv_I ((k : Int) + 1))]) dx_X12_lays_36 rfl (by decide) rfl ?_
    refine go_goto (tgt := 15) dx_X12_lays_39 rfl ?_
    refine ih _ ⟨by rw [wr_n (by omega)]; exact i0, fun i hi => ?_, fun c j a b => by rw [wr_n (by omega)]; exact i2 c j a b⟩
    by_cases q : i = k
    · subst q; rw [wr_eq]
    · rw [wr_i _ _ _ _ q]; exact i1 i (by omega)
  · obtain ⟨i0, i1, i2⟩ := hI
    have hb1 : bk_at δ1 95 0 K := bk_fr hb (fun j => i2 _ _ (by decide) (by omega))
    have hw1 : mw_at δ1 K.2.2 := fun k hk => by
      rw [i1 k (by omega), List.getD_eq_getElem?_getD, List.getElem?_eq_getElem hk]
      rfl
    refine go_iload_n (i := 1) dx_X12_lays_15 rfl rfl ?_
    refine go_bipush dx_X12_lays_16 rfl ?_
    refine go_icmp_ge (tgt := 42) dx_X12_lays_18 rfl (by omega) (by omega) (fun c18 => ?_) (fun c18 => by exact absurd c18 (by omega))
    refine go_aload_n (i := 0) dx_X12_lays_42 rfl rfl ?_
    refine go_aload_n (i := 0) dx_X12_lays_43 rfl rfl ?_
    refine go_cV0 sv_X12_253 (go_ok rfl rfl) dx_X12_lays_44 (Nat.le_of_ble_eq_true rfl) (Nat.le_of_ble_eq_true rfl) (m_letters hb1 ?_)
    refine go_cV1 sv_X12_256 (go_ok rfl rfl) dx_X12_lays_47 (Nat.le_of_ble_eq_true rfl) (Nat.le_of_ble_eq_true rfl) (m_laysCells (bo_of hb1) hlet rfl (by omega) hw1 (fun δ2 q1 q2 q3 => ?_))
    refine go_vreturn dx_X12_lays_50 rfl (Nat.le_refl _) (Nat.le_refl _) ?_
    exact hQ δ2 (by rw [q3 _ _ (by unfold mfP mqP; omega)]; exact i0) (fun k hk => by rw [q3 _ _ (by unfold mfP mqP; omega)]; exact hw1 k hk) q2 (fun _ => q1) (fun c j a b e => by rw [q3 c j a, i2 c j b e])
theorem m_doesDerive {x i j : Nat} (hR : ∀ r, rl_ok (R r)) (h : me_at δ R w) (h15 : w.length ≤ 15) (hx : x < 64) (hij : i < j) (hj : j ≤ w.length) (hQ : Q [vv_I (b01 (dp R (plw w) x i j))] go_φ δ) :
    Go E (d + 1) (0, 0) mx_X12_doesDerive go_φ 0 [(0, vv_A 94), (1, vv_I (x : Int)), (2, vv_I (i : Int)), (3, vv_I (j : Int))] [] δ Q := by
  have l107 : go_ln 107 = 256 := rfl
  refine go_aload_n (i := 0) dx_X12_doesDerive_0 rfl rfl ?_
  refine go_getA (b := 107) fs_X12_51 rfl (go_ok rfl rfl) rfl dx_X12_doesDerive_1 ?_
  refine go_bipush dx_X12_doesDerive_4 rfl ?_
  refine go_iload_n (i := 2) dx_X12_doesDerive_6 rfl rfl ?_
  refine go_imul dx_X12_doesDerive_7 ?_
  refine go_iload_n (i := 3) dx_X12_doesDerive_8 rfl rfl ?_
  refine go_iadd dx_X12_doesDerive_9 ?_
  refine go_laloadV (i := (16 * i + j)) (v := ((mk 62 (fun x => dp R (plw w) x i j) : Int))) dx_X12_doesDerive_10 (go_ok rfl rfl) (by omega) (show (16 * i + j) < 256 by omega) (by exact h i j hij hj) ?_
  refine go_iload_n (i := 1) dx_X12_doesDerive_11 rfl rfl ?_
  refine go_cS2 ss_X12_241 dx_X12_doesDerive_12 (Nat.le_of_ble_eq_true rfl) (Nat.le_of_ble_eq_true rfl) (m_has (mk_63 62 _ (by decide)) hx ?_)
  refine go_zreturn dx_X12_doesDerive_15 rfl (b01_01 _)  (Nat.le_refl _) (Nat.le_refl _) ?_
  rw [b01_c (dp_bit hR)]
  exact hQ
theorem m_isSpan {i j : Int} (hb : bk_at δ 95 0 K) (hi : go_iI i) (hj : go_iI j) (hQ : Q [vv_I (b01 (0 ≤ i ∧ i < j ∧ j ≤ (K.2.2.length : Int)))] go_φ δ) :
    Go E (d + 1) (0, 0) mx_X12_isSpan go_φ 0 [(0, vv_A 94), (1, vv_I i), (2, vv_I j)] [] δ Q := by
  have h14 := hb.2.2.2.2.2.2.2.2.1
  refine go_iload_n (i := 1) dx_X12_isSpan_0 rfl rfl ?_
  refine go_if_lt (tgt := 21) dx_X12_isSpan_1 rfl (by omega) (fun c1 => ?_) (fun c1 => ?_)
  · refine go_iconst dx_X12_isSpan_21 ?_
    refine go_zreturn dx_X12_isSpan_22 rfl (by first | exact Or.inl rfl | exact Or.inr rfl | assumption | omega) (Nat.le_refl _) (Nat.le_refl _) ?_
    first | (rw [b01_t (by omega)] at hQ; exact hQ) | (rw [b01_f (by omega)] at hQ; exact hQ)
  · refine go_iload_n (i := 1) dx_X12_isSpan_4 rfl rfl ?_
    refine go_iload_n (i := 2) dx_X12_isSpan_5 rfl rfl ?_
    refine go_icmp_ge (tgt := 21) dx_X12_isSpan_6 rfl (by omega) (by omega) (fun c6 => ?_) (fun c6 => ?_)
    · refine go_iconst dx_X12_isSpan_21 ?_
      refine go_zreturn dx_X12_isSpan_22 rfl (by first | exact Or.inl rfl | exact Or.inr rfl | assumption | omega) (Nat.le_refl _) (Nat.le_refl _) ?_
      first | (rw [b01_t (by omega)] at hQ; exact hQ) | (rw [b01_f (by omega)] at hQ; exact hQ)
    · refine go_iload_n (i := 2) dx_X12_isSpan_9 rfl rfl ?_
      refine go_aload_n (i := 0) dx_X12_isSpan_10 rfl rfl ?_
      refine go_cV0 sv_X12_253 (go_ok rfl rfl) dx_X12_isSpan_11 (Nat.le_of_ble_eq_true rfl) (Nat.le_of_ble_eq_true rfl) (m_letters hb ?_)
      refine go_icmp_gt (tgt := 21) dx_X12_isSpan_14 rfl (by omega) (by omega) (fun c14 => ?_) (fun c14 => ?_)
      · refine go_iconst dx_X12_isSpan_21 ?_
        refine go_zreturn dx_X12_isSpan_22 rfl (by first | exact Or.inl rfl | exact Or.inr rfl | assumption | omega) (Nat.le_refl _) (Nat.le_refl _) ?_
        first | (rw [b01_t (by omega)] at hQ; exact hQ) | (rw [b01_f (by omega)] at hQ; exact hQ)
      · refine go_iconst dx_X12_isSpan_17 ?_
        refine go_goto (tgt := 22) dx_X12_isSpan_18 rfl ?_
        refine go_zreturn dx_X12_isSpan_22 rfl (by first | exact Or.inl rfl | exact Or.inr rfl | assumption | omega) (Nat.le_refl _) (Nat.le_refl _) ?_
        first | (rw [b01_t (by omega)] at hQ; exact hQ) | (rw [b01_f (by omega)] at hQ; exact hQ)
theorem m_isAny {x : Int} (hx : go_iI x) (h : bo_at δ R) (hQ : ∀ δ', mq_at δ' (gP R) (gH R) → (∀ c j, ¬ mqP c j → δ' c j = δ c j) → Q [vv_I (b01 (0 ≤ x ∧ x < ((14 + (gH R).length : Nat) : Int)))] go_φ δ') :
    Go E (d + 2) (0, 0) mx_X12_isAny go_φ 0 [(0, vv_A 94), (1, vv_I x)] [] δ Q := by
  have h48 := gH_le h.1
  refine go_aload_n (i := 0) dx_X12_isAny_0 rfl rfl ?_
  refine go_cV0 sv_X12_221 (go_ok rfl rfl) dx_X12_isAny_1 (Nat.le_of_ble_eq_true rfl) (Nat.le_of_ble_eq_true rfl) (m_laysPairs h (fun δ1 q1 f1 => ?_))
  refine go_iload_n (i := 1) dx_X12_isAny_4 rfl rfl ?_
  refine go_i2l dx_X12_isAny_5 (by omega) ?_
  refine go_lconst (x := 0) dx_X12_isAny_6 rfl ?_
  refine go_bipush dx_X12_isAny_7 rfl ?_
  refine go_aload_n (i := 0) dx_X12_isAny_9 rfl rfl ?_
  refine go_getI fs_X12_218 (Or.inl rfl) (go_ok rfl rfl) dx_X12_isAny_10 ?_
  refine go_asI (y := ((gH R).length : Int)) (by exact q1.2.2.1) ?_
  refine go_iadd dx_X12_isAny_13 ?_
  refine go_iconst dx_X12_isAny_14 ?_
  refine go_isub dx_X12_isAny_15 ?_
  refine go_i2l dx_X12_isAny_16 (by omega) ?_
  refine go_cS3 ss_X12_144 dx_X12_isAny_17 (Nat.le_of_ble_eq_true rfl) (Nat.le_of_ble_eq_true rfl) (m_within (by omega) (by omega) (by omega) (fun a1 a2 => ?_) (fun b1 => ?_))
  · refine go_zreturn dx_X12_isAny_20 rfl (by first | omega | (first | exact Or.inl rfl | exact Or.inr rfl)) (Nat.le_refl _) (Nat.le_refl _) ?_
    have hQ := hQ δ1 q1 f1
    first | (rw [b01_t (by omega)] at hQ; exact hQ) | (rw [b01_f (by omega)] at hQ; exact hQ)
  · refine go_zreturn dx_X12_isAny_20 rfl (by first | omega | (first | exact Or.inl rfl | exact Or.inr rfl)) (Nat.le_refl _) (Nat.le_refl _) ?_
    have hQ := hQ δ1 q1 f1
    first | (rw [b01_t (by omega)] at hQ; exact hQ) | (rw [b01_f (by omega)] at hQ; exact hQ)
end GML
