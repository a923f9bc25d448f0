/-! the reference's nearest words: the calls -/
section GMN2
variable {E : go_E} {d : Nat} {δ : Nat → Nat → Int} {Q : List go_V → go_F → (Nat → Nat → Int) → Prop} {K : sK} {S : sS} {R : Nat → List Nat} {w : List Nat} {m : Nat → Int}
theorem m_costAt {x i j : Nat} {v : Int} (hx : x < 62) (hi : i < 16) (hj : j < 16) (h : δ 126 (256 * x + 16 * i + j) = v) (hQ : Q [vv_I v] go_φ δ) : Go E d (0, 0) mx_X12_costAt go_φ 0 [(0, vv_A 94), (1, vv_I (x : Int)), (2, vv_I (i : Int)), (3, vv_I (j : Int))] [] δ Q := by
  have l126 : go_ln 126 = 15872 := rfl
  refine go_aload_n (i := 0) dx_X12_costAt_0 rfl rfl ?_
  refine go_getA (b := 126) fs_X12_109 rfl (go_ok rfl rfl) rfl dx_X12_costAt_1 ?_
  refine go_sipush dx_X12_costAt_4 rfl ?_
  refine go_iload_n (i := 1) dx_X12_costAt_7 rfl rfl ?_
  refine go_imul dx_X12_costAt_8 ?_
  refine go_bipush dx_X12_costAt_9 rfl ?_
  refine go_iload_n (i := 2) dx_X12_costAt_11 rfl rfl ?_
  refine go_imul dx_X12_costAt_12 ?_
  refine go_iadd dx_X12_costAt_13 ?_
  refine go_iload_n (i := 3) dx_X12_costAt_14 rfl rfl ?_
  refine go_iadd dx_X12_costAt_15 ?_
  refine go_ialoadV (i := (256 * x + 16 * i + j)) (v := v) dx_X12_costAt_16 (go_ok rfl rfl) (by omega) (show (256 * x + 16 * i + j) < 15872 by omega) (by exact h) ?_
  refine go_ireturn dx_X12_costAt_17 rfl (Nat.le_refl _) (Nat.le_refl _) ?_
  exact hQ
theorem m_lowers {x i j s v : Nat} (hs : s ≤ 536870912) (hv : v ≤ 268435456) (hx : x < 62) (hi : i < 16) (hj : j < 16) (h : δ 126 (256 * x + 16 * i + j) = (v : Int))
    (hQ : ∀ δ', δ' 126 (256 * x + 16 * i + j) = ((if s < v then s else v : Nat) : Int) → (∀ c q, (c = 126 → q ≠ 256 * x + 16 * i + j) → δ' c q = δ c q) → Q [] go_φ δ') :
    Go E (d + 1) (0, 0) mx_X12_lowers go_φ 0 [(0, vv_A 94), (1, vv_I (x : Int)), (2, vv_I (i : Int)), (3, vv_I (j : Int)), (4, vv_I (s : Int))] [] δ Q := by
  have l126 : go_ln 126 = 15872 := rfl
  refine go_iload dx_X12_lowers_0 rfl ?_
  refine go_aload_n (i := 0) dx_X12_lowers_2 rfl rfl ?_
  refine go_iload_n (i := 1) dx_X12_lowers_3 rfl rfl ?_
  refine go_iload_n (i := 2) dx_X12_lowers_4 rfl rfl ?_
  refine go_iload_n (i := 3) dx_X12_lowers_5 rfl rfl ?_
  refine go_cV3 sv_X12_369 (go_ok rfl rfl) dx_X12_lowers_6 (Nat.le_of_ble_eq_true rfl) (Nat.le_of_ble_eq_true rfl) (m_costAt hx hi hj h ?_)
  refine go_icmp_ge (tgt := 31) dx_X12_lowers_9 rfl (by omega) (by omega) (fun c9 => ?_) (fun c9 => ?_)
  · refine go_vreturn dx_X12_lowers_31 rfl (Nat.le_refl _) (Nat.le_refl _) ?_
    first | (refine hQ _ ?_ (fun c q hc => wr_n hc); rw [wr_eq, if_pos (by omega)]) | (refine hQ _ ?_ (fun _ _ _ => rfl); rw [if_neg (by omega)]; exact h)
  · refine go_aload_n (i := 0) dx_X12_lowers_12 rfl rfl ?_
    refine go_getA (b := 126) fs_X12_109 rfl (go_ok rfl rfl) rfl dx_X12_lowers_13 ?_
    refine go_sipush dx_X12_lowers_16 rfl ?_
    refine go_iload_n (i := 1) dx_X12_lowers_19 rfl rfl ?_
    refine go_imul dx_X12_lowers_20 ?_
    refine go_bipush dx_X12_lowers_21 rfl ?_
    refine go_iload_n (i := 2) dx_X12_lowers_23 rfl rfl ?_
    refine go_imul dx_X12_lowers_24 ?_
    refine go_iadd dx_X12_lowers_25 ?_
    refine go_iload_n (i := 3) dx_X12_lowers_26 rfl rfl ?_
    refine go_iadd dx_X12_lowers_27 ?_
    refine go_iload dx_X12_lowers_28 rfl ?_
    refine go_iastoreV (i := 256 * x + 16 * i + j) dx_X12_lowers_30 (go_ok rfl rfl) (by omega) (show 256 * x + 16 * i + j < 15872 by omega) ?_
    refine go_vreturn dx_X12_lowers_31 rfl (Nat.le_refl _) (Nat.le_refl _) ?_
    first | (refine hQ _ ?_ (fun c q hc => wr_n hc); rw [wr_eq, if_pos (by omega)]) | (refine hQ _ ?_ (fun _ _ _ => rfl); rw [if_neg (by omega)]; exact h)
def lcv (w : List Nat) (mi : Int) (x i : Nat) : Nat := if mi = -1 ∨ mi = (x : Int) then (if w[i]? = some x then 0 else 1) else 268435456
theorem m_letterCost {x i : Nat} {mi : Int} (hb : bk_at δ 95 0 K) (hx : x < 14) (hmi : go_iI mi) (hi : i < K.2.2.length) (hm : δ 127 i = mi) (hQ : Q [vv_I (lcv K.2.2 mi x i : Int)] go_φ δ) :
    Go E d (0, 0) mx_X12_letterCost go_φ 0 [(0, vv_A 94), (1, vv_I (x : Int)), (2, vv_I (i : Int))] [] δ Q := by
  have h14 := hb.2.2.2.2.2.2.2.2.1
  have l95 : go_ln 95 = 384 := rfl
  have l127 : go_ln 127 = 14 := rfl
  have e := hb.2.2.2.1 i (by omega)
  rw [Nat.zero_add] at e
  have hlt : K.2.2.getD i 0 < 14 := by
    rw [List.getD_eq_getElem?_getD, List.getElem?_eq_getElem hi, Option.getD_some]
    exact (hb.2.2.2.2.2.2.2.2.2 _ (List.getElem_mem hi)).2
  have e2 : K.2.2[i]? = some x ↔ ((K.2.2.getD i 0 : Nat) : Int) = (x : Int) := by
    rw [List.getD_eq_getElem?_getD, List.getElem?_eq_getElem hi, Option.getD_some]
    exact ⟨fun q => by rw [Option.some.inj q], fun q => by rw [Int.ofNat.inj q]⟩
  unfold lcv at hQ
  refine go_aload_n (i := 0) dx_X12_letterCost_0 rfl rfl ?_
  refine go_getA (b := 127) fs_X12_112 rfl (go_ok rfl rfl) rfl dx_X12_letterCost_1 ?_
  refine go_iload_n (i := 2) dx_X12_letterCost_4 rfl rfl ?_
  refine go_ialoadV (i := i) (v := mi) dx_X12_letterCost_5 (go_ok rfl rfl) (by omega) (show i < 14 by omega) (by exact hm) ?_
  refine go_iconst dx_X12_letterCost_6 ?_
  refine go_icmp_eq (tgt := 23) dx_X12_letterCost_7 rfl (by omega) (by omega) (fun c7 => ?_) (fun c7 => ?_)
  · refine go_aload_n (i := 0) dx_X12_letterCost_23 rfl rfl ?_
    refine go_getA (b := 95) fs_X12_7 rfl (go_ok rfl rfl) rfl dx_X12_letterCost_24 ?_
    refine go_bipush dx_X12_letterCost_27 rfl ?_
    refine go_iload_n (i := 2) dx_X12_letterCost_29 rfl rfl ?_
    refine go_iadd dx_X12_letterCost_30 ?_
    refine go_ialoadV (i := (114 + i)) (v := (((K.2.2.getD i 0 : Nat) : Int))) dx_X12_letterCost_31 (go_ok rfl rfl) (by omega) (show (114 + i) < 384 by omega) (by exact e) ?_
    refine go_iload_n (i := 1) dx_X12_letterCost_32 rfl rfl ?_
    refine go_icmp_ne (tgt := 40) dx_X12_letterCost_33 rfl (by omega) (by omega) (fun c33 => ?_) (fun c33 => ?_)
    · refine go_iconst dx_X12_letterCost_40 ?_
      refine go_ireturn dx_X12_letterCost_41 rfl (Nat.le_refl _) (Nat.le_refl _) ?_
      first | (rw [if_pos (Or.inl (by omega)), if_pos (e2.mpr (by omega))] at hQ; exact hQ) | (rw [if_pos (Or.inl (by omega)), if_neg (fun z => absurd (e2.mp z) (by omega))] at hQ; exact hQ) | (rw [if_pos (Or.inr (by omega)), if_pos (e2.mpr (by omega))] at hQ; exact hQ) | (rw [if_pos (Or.inr (by omega)), if_neg (fun z => absurd (e2.mp z) (by omega))] at hQ; exact hQ)
    · refine go_iconst dx_X12_letterCost_36 ?_
      refine go_goto (tgt := 41) dx_X12_letterCost_37 rfl ?_
      refine go_ireturn dx_X12_letterCost_41 rfl (Nat.le_refl _) (Nat.le_refl _) ?_
      first | (rw [if_pos (Or.inl (by omega)), if_pos (e2.mpr (by omega))] at hQ; exact hQ) | (rw [if_pos (Or.inl (by omega)), if_neg (fun z => absurd (e2.mp z) (by omega))] at hQ; exact hQ) | (rw [if_pos (Or.inr (by omega)), if_pos (e2.mpr (by omega))] at hQ; exact hQ) | (rw [if_pos (Or.inr (by omega)), if_neg (fun z => absurd (e2.mp z) (by omega))] at hQ; exact hQ)
  · refine go_aload_n (i := 0) dx_X12_letterCost_10 rfl rfl ?_
    refine go_getA (b := 127) fs_X12_112 rfl (go_ok rfl rfl) rfl dx_X12_letterCost_11 ?_
    refine go_iload_n (i := 2) dx_X12_letterCost_14 rfl rfl ?_
    refine go_ialoadV (i := i) (v := mi) dx_X12_letterCost_15 (go_ok rfl rfl) (by omega) (show i < 14 by omega) (by exact hm) ?_
    refine go_iload_n (i := 1) dx_X12_letterCost_16 rfl rfl ?_
    refine go_icmp_eq (tgt := 23) dx_X12_letterCost_17 rfl (by omega) (by omega) (fun c17 => ?_) (fun c17 => ?_)
    · refine go_aload_n (i := 0) dx_X12_letterCost_23 rfl rfl ?_
      refine go_getA (b := 95) fs_X12_7 rfl (go_ok rfl rfl) rfl dx_X12_letterCost_24 ?_
      refine go_bipush dx_X12_letterCost_27 rfl ?_
      refine go_iload_n (i := 2) dx_X12_letterCost_29 rfl rfl ?_
      refine go_iadd dx_X12_letterCost_30 ?_
      refine go_ialoadV (i := (114 + i)) (v := (((K.2.2.getD i 0 : Nat) : Int))) dx_X12_letterCost_31 (go_ok rfl rfl) (by omega) (show (114 + i) < 384 by omega) (by exact e) ?_
      refine go_iload_n (i := 1) dx_X12_letterCost_32 rfl rfl ?_
      refine go_icmp_ne (tgt := 40) dx_X12_letterCost_33 rfl (by omega) (by omega) (fun c33 => ?_) (fun c33 => ?_)
      · refine go_iconst dx_X12_letterCost_40 ?_
        refine go_ireturn dx_X12_letterCost_41 rfl (Nat.le_refl _) (Nat.le_refl _) ?_
        first | (rw [if_pos (Or.inl (by omega)), if_pos (e2.mpr (by omega))] at hQ; exact hQ) | (rw [if_pos (Or.inl (by omega)), if_neg (fun z => absurd (e2.mp z) (by omega))] at hQ; exact hQ) | (rw [if_pos (Or.inr (by omega)), if_pos (e2.mpr (by omega))] at hQ; exact hQ) | (rw [if_pos (Or.inr (by omega)), if_neg (fun z => absurd (e2.mp z) (by omega))] at hQ; exact hQ)
      · refine go_iconst dx_X12_letterCost_36 ?_
        refine go_goto (tgt := 41) dx_X12_letterCost_37 rfl ?_
        refine go_ireturn dx_X12_letterCost_41 rfl (Nat.le_refl _) (Nat.le_refl _) ?_
        first | (rw [if_pos (Or.inl (by omega)), if_pos (e2.mpr (by omega))] at hQ; exact hQ) | (rw [if_pos (Or.inl (by omega)), if_neg (fun z => absurd (e2.mp z) (by omega))] at hQ; exact hQ) | (rw [if_pos (Or.inr (by omega)), if_pos (e2.mpr (by omega))] at hQ; exact hQ) | (rw [if_pos (Or.inr (by omega)), if_neg (fun z => absurd (e2.mp z) (by omega))] at hQ; exact hQ)
    · refine go_ldc (x := 268435456) kx_X12_231 dx_X12_letterCost_20 ?_
      refine go_ireturn dx_X12_letterCost_22 rfl (Nat.le_refl _) (Nat.le_refl _) ?_
      rw [if_neg (by omega)] at hQ; exact hQ
/-- costs of one span -/
def cA (δ : Nat → Nat → Int) (N i j : Nat) (P : Nat → Nat → Prop) : Prop := ∀ x, x < N → ∃ v : Nat, v ≤ 268435456 ∧ δ 126 (256 * x + 16 * i + j) = (v : Int) ∧ tq v (P x)
theorem cA_congr {δ : Nat → Nat → Int} {N i j : Nat} {P P' : Nat → Nat → Prop} (h : cA δ N i j P) (e : ∀ x n, P x n ↔ P' x n) : cA δ N i j P' := fun x hx => by obtain ⟨v, a, b, c⟩ := h x hx; exact ⟨v, a, b, tq_congr (e x) c⟩
theorem cA_fr {δ δ' : Nat → Nat → Int} {N i j : Nat} {P : Nat → Nat → Prop} (h : cA δ N i j P) (f : ∀ x, x < N → δ' 126 (256 * x + 16 * i + j) = δ 126 (256 * x + 16 * i + j)) : cA δ' N i j P := fun x hx => by obtain ⟨v, a, b, c⟩ := h x hx; exact ⟨v, a, by rw [f x hx]; exact b, c⟩
/-- costs of all shorter spans, and of those of one length that begin ahead of a place -/
def cM (δ : Nat → Nat → Int) (R : Nat → List Nat) (w : List Nat) (m : Nat → Int) (N L s b : Nat) : Prop := ∀ i j, i < j → j ≤ L → (j - i < s ∨ (j - i = s ∧ i < b)) → cA δ N i j (fun x => cc R w m x i j)
def cN (c q i j : Nat) : Prop := c = 126 ∧ ∃ x, q = 256 * x + 16 * i + j
theorem lcv_tq {i x : Nat} : tq (if 8 ≤ x ∧ x < 14 then lcv w (m i) x i else 268435456) (cbl w m i (i + 1) x) := by
  by_cases h : 8 ≤ x ∧ x < 14
  · rw [if_pos h]
    unfold lcv
    by_cases q : m i = -1 ∨ m i = (x : Int)
    · rw [if_pos q]
      exact ⟨fun _ => ⟨h.1, h.2, rfl, q, rfl⟩, fun n hn => Nat.le_of_eq hn.2.2.2.2.symm⟩
    · rw [if_neg q]
      exact ⟨fun z => absurd z (by decide), fun n hn => absurd hn.2.2.2.1 q⟩
  · rw [if_neg h]
    exact ⟨fun z => absurd z (by decide), fun n hn => absurd ⟨hn.1, hn.2.1⟩ h⟩
theorem lcv_no {i j x : Nat} (hj : j ≠ i + 1) : tq 268435456 (cbl w m i j x) := ⟨fun z => absurd z (by decide), fun n hn => absurd hn.2.2.1 hj⟩
theorem lcv_le (mi : Int) (x i : Nat) : lcv w mi x i ≤ 268435456 := by unfold lcv; split <;> (try split) <;> omega
theorem m_fewest {n : Nat} (hb : bk_at δ 95 0 K) (hn : n = K.2.2.length) (hmr : ∀ k, go_iI (m k)) (hm : ∀ k, k < n → δ 127 k = m k)
    (hQ : ∀ δ' (v : Nat), v ≤ 268435456 → (n = 0 → v = 268435456) → (0 < n → tq v (cc K.1 K.2.2 m K.2.1 0 n)) → (∀ c q, ¬ mqP c q → c ≠ 126 → δ' c q = δ c q) → Q [vv_I (v : Int)] go_φ δ') :
    Go E (d + 2) (0, 0) mx_X12_fewestOthers go_φ 0 [(0, vv_A 94)] [] δ Q := by
  have hR := (bo_of hb).1
  have h14 : n ≤ 14 := by rw [hn]; exact hb.2.2.2.2.2.2.2.2.1
  have ht8 := hb.2.2.2.2.2.2.2.1
  have hHle := gH_le hR
  have l95 : go_ln 95 = 384 := rfl
  have l126 : go_ln 126 = 15872 := rfl
  have e112 : δ 95 112 = (K.2.1 : Int) := by have := hb.2.1; rwa [Nat.zero_add] at this
  obtain ⟨N, hN⟩ : ∃ N, N = 14 + (gH K.1).length := ⟨_, rfl⟩
  have outer := lp_up (X := Nat → Nat → Int) (hi := n + 1) (I := fun s δ1 => 1 ≤ s ∧ cM δ1 K.1 K.2.2 m N n s 0 ∧ mq_at δ1 (gP K.1) (gH K.1) ∧ (∀ c q, ¬ mqP c q → c ≠ 126 → δ1 c q = δ c q))
    (G := fun s δ1 => Go E (d + 2) (0, 0) mx_X12_fewestOthers go_φ 11 [(0, vv_A 94), (1, vv_I (n : Int)), (2, vv_I (s : Int))] [] δ1 Q) (fun s δ1 hs hI ih => ?_) (fun δ1 hI => ?_)
  · refine go_aload_n (i := 0) dx_X12_fewestOthers_0 rfl rfl ?_
    refine go_cV0 sv_X12_221 (go_ok rfl rfl) dx_X12_fewestOthers_1 (Nat.le_of_ble_eq_true rfl) (Nat.le_of_ble_eq_true rfl) (m_laysPairs (bo_of hb) (fun δ1 q1 f1 => ?_))
    refine go_aload_n (i := 0) dx_X12_fewestOthers_4 rfl rfl ?_
    refine go_cV0 sv_X12_253 (go_ok rfl rfl) dx_X12_fewestOthers_5 (Nat.le_of_ble_eq_true rfl) (Nat.le_of_ble_eq_true rfl) (m_letters (bk_fr hb (fun j => f1 95 j (by unfold mqP; omega))) ?_)
    refine go_asI (y := (n : Int)) (by rw [hn]) ?_
    refine go_istore_n (i := 1) (lv' := [(0, vv_A 94), (1, vv_I (n : Int))]) dx_X12_fewestOthers_8 rfl (by decide) rfl ?_
    refine go_iconst dx_X12_fewestOthers_9 ?_
    refine go_istore_n (i := 2) (lv' := [(0, vv_A 94), (1, vv_I (n : Int)), (2, vv_I 1)]) dx_X12_fewestOthers_10 rfl (by decide) rfl ?_
    exact outer 1 δ1 (by omega) ⟨Nat.le_refl _, fun i j a b c => by omega, q1, fun c j hc _ => f1 c j hc⟩
  · obtain ⟨s1, i1, i2, i3⟩ := hI
    have inner := lp_up (X := Nat → Nat → Int) (hi := n + 1 - s) (I := fun i δ1 => cM δ1 K.1 K.2.2 m N n s i ∧ mq_at δ1 (gP K.1) (gH K.1) ∧ (∀ c q, ¬ mqP c q → c ≠ 126 → δ1 c q = δ c q))
      (G := fun i δ1 => Go E (d + 2) (0, 0) mx_X12_fewestOthers go_φ 18 [(0, vv_A 94), (1, vv_I (n : Int)), (2, vv_I (s : Int)), (3, vv_I (i : Int))] [] δ1 Q) (fun i δ2 hi hI ih2 => ?_) (fun δ2 hI => ?_)
    · refine go_iload_n (i := 2) dx_X12_fewestOthers_11 rfl rfl ?_
      refine go_iload_n (i := 1) dx_X12_fewestOthers_12 rfl rfl ?_
      refine go_icmp_gt (tgt := 263) dx_X12_fewestOthers_13 rfl (by omega) (by omega) (fun c13 => by exact absurd c13 (by omega)) (fun c13 => ?_)
      refine go_iconst dx_X12_fewestOthers_16 ?_
      refine go_istore_n (i := 3) (lv' := [(0, vv_A 94), (1, vv_I (n : Int)), (2, vv_I (s : Int)), (3, vv_I 0)]) dx_X12_fewestOthers_17 rfl (by decide) rfl ?_
      exact inner 0 δ1 (Nat.zero_le _) ⟨i1, i2, i3⟩
    · obtain ⟨j1, j2, j3⟩ := hI
      obtain ⟨j, hj⟩ : ∃ j, j = i + s := ⟨_, rfl⟩
      have hij : i < j := by omega
      have hjn : j ≤ n := by omega
      have LV : ∀ δ', (∀ c q, ¬ mqP c q → c ≠ 126 → δ' c q = δ2 c q) → bk_at δ' 95 0 K := fun δ' f => bk_fr hb (fun q => by rw [f 95 q (by unfold mqP; omega) (by decide)]; exact j3 95 q (by unfold mqP; omega) (by decide))
      /- the state in one span -/
      let Z : (Nat → Nat → Int) → Prop := fun δ' => ∀ c q, ¬ cN c q i j → δ' c q = δ2 c q
      have Zb : ∀ δ', Z δ' → bk_at δ' 95 0 K := fun δ' f => LV δ' (fun c q _ hc => f c q (fun z => hc z.1))
      have Zm : ∀ δ', Z δ' → mq_at δ' (gP K.1) (gH K.1) := fun δ' f => mq_fr j2 (fun c q hc => f c q (fun z => by unfold mqP at hc; have := z.1; omega))
      have Z7 : ∀ δ', Z δ' → ∀ k, k < n → δ' 127 k = m k := fun δ' f k hk => by rw [f 127 k (fun z => absurd z.1 (by decide)), j3 127 k (by unfold mqP; omega) (by decide)]; exact hm k hk
      have Zc : ∀ δ', Z δ' → cM δ' K.1 K.2.2 m N n s i := fun δ' f a b hab hb' hor => cA_fr (j1 a b hab hb' hor) (fun x hx => f _ _ (fun ⟨_, y, hy⟩ => by omega))
      have Zw : ∀ δ', Z δ' → ∀ x v, Z (wr δ' 126 (256 * x + 16 * i + j) v) := fun δ' f x v c q hc => by rw [wr_n (fun e1 e2 => hc ⟨e1, x, e2⟩)]; exact f c q hc
      have fin : ∀ δ3, Z δ3 → cA δ3 N i j (fun x => cc K.1 K.2.2 m x i j) → Go E (d + 2) (0, 0) mx_X12_fewestOthers go_φ 18 [(0, vv_A 94), (1, vv_I (n : Int)), (2, vv_I (s : Int)), (3, vv_I ((i + 1 : Nat) : Int))] [] δ3 Q := fun δ3 hz hc =>
        ih2 δ3 ⟨fun a b hab hb' hor => by
          by_cases q : a = i ∧ b = j
          · obtain ⟨q1, q2⟩ := q
            subst q1 q2
            exact hc
          · exact Zc δ3 hz a b hab hb' (by omega), Zm δ3 hz, fun c q h1 h2 => by rw [hz c q (fun z => h2 z.1)]; exact j3 c q h1 h2⟩
      have one := lp_up (X := Nat → Nat → Int) (hi := N) (I := fun x δ3 => Z δ3 ∧ cA δ3 x i j (cbl K.2.2 m i j))
        (G := fun x δ3 => Go E (d + 2) (0, 0) mx_X12_fewestOthers go_φ 33 [(0, vv_A 94), (1, vv_I (n : Int)), (2, vv_I (s : Int)), (3, vv_I (i : Int)), (4, vv_I (j : Int)), (5, vv_I (x : Int))] [] δ3 Q) (fun x δ3 hx hI ih3 => ?_) (fun δ3 hI => ?_)
      · refine go_iload_n (i := 3) dx_X12_fewestOthers_18 rfl rfl ?_
        refine go_iload_n (i := 2) dx_X12_fewestOthers_19 rfl rfl ?_
        refine go_iadd dx_X12_fewestOthers_20 ?_
        refine go_iload_n (i := 1) dx_X12_fewestOthers_21 rfl rfl ?_
        refine go_icmp_gt (tgt := 257) dx_X12_fewestOthers_22 rfl (by omega) (by omega) (fun c22 => by exact absurd c22 (by omega)) (fun c22 => ?_)
        refine go_iload_n (i := 3) dx_X12_fewestOthers_25 rfl rfl ?_
        refine go_iload_n (i := 2) dx_X12_fewestOthers_26 rfl rfl ?_
        refine go_iadd dx_X12_fewestOthers_27 ?_
        refine go_asI (y := (j : Int)) (by omega) ?_
        refine go_istore (lv' := [(0, vv_A 94), (1, vv_I (n : Int)), (2, vv_I (s : Int)), (3, vv_I (i : Int)), (4, vv_I (j : Int))]) dx_X12_fewestOthers_28 (by decide) rfl ?_
        refine go_iconst dx_X12_fewestOthers_30 ?_
        refine go_istore (lv' := [(0, vv_A 94), (1, vv_I (n : Int)), (2, vv_I (s : Int)), (3, vv_I (i : Int)), (4, vv_I (j : Int)), (5, vv_I 0)]) dx_X12_fewestOthers_31 (by decide) rfl ?_
        exact one 0 δ2 (Nat.zero_le _) ⟨fun _ _ _ => rfl, fun x hx => absurd hx (Nat.not_lt_zero _)⟩
      · obtain ⟨z1, z2⟩ := hI
        have hb3 := Zb δ3 z1
        have hq3 := Zm δ3 z1
        have put : ∀ v : Nat, v ≤ 268435456 → tq v (cbl K.2.2 m i j x) → Go E (d + 2) (0, 0) mx_X12_fewestOthers go_φ 33 [(0, vv_A 94), (1, vv_I (n : Int)), (2, vv_I (s : Int)), (3, vv_I (i : Int)), (4, vv_I (j : Int)), (5, vv_I ((x + 1 : Nat) : Int))] [] (wr δ3 126 (256 * x + 16 * i + j) (v : Int)) Q := fun v h1 h2 =>
          ih3 _ ⟨Zw δ3 z1 _ _, fun y hy => by
            by_cases q : y = x
            · subst q
              exact ⟨v, h1, wr_eq .., h2⟩
            · obtain ⟨u, a, b, c⟩ := z2 y (by omega)
              exact ⟨u, a, by rw [wr_n (by omega)]; exact b, c⟩⟩
        refine go_iload dx_X12_fewestOthers_33 rfl ?_
        refine go_bipush dx_X12_fewestOthers_35 rfl ?_
        refine go_aload_n (i := 0) dx_X12_fewestOthers_37 rfl rfl ?_
        refine go_getI fs_X12_218 (Or.inl rfl) (go_ok rfl rfl) dx_X12_fewestOthers_38 ?_
        refine go_asI (y := ((gH K.1).length : Int)) (by exact hq3.2.2.1) ?_
        refine go_iadd dx_X12_fewestOthers_41 ?_
        refine go_icmp_ge (tgt := 102) dx_X12_fewestOthers_42 rfl (by omega) (by omega) (fun c42 => by exact absurd c42 (by omega)) (fun c42 => ?_)
        refine go_aload_n (i := 0) dx_X12_fewestOthers_45 rfl rfl ?_
        refine go_getA (b := 126) fs_X12_109 rfl (go_ok rfl rfl) rfl dx_X12_fewestOthers_46 ?_
        refine go_sipush dx_X12_fewestOthers_49 rfl ?_
        refine go_iload dx_X12_fewestOthers_52 rfl ?_
        refine go_imul dx_X12_fewestOthers_54 ?_
        refine go_bipush dx_X12_fewestOthers_55 rfl ?_
        refine go_iload_n (i := 3) dx_X12_fewestOthers_57 rfl rfl ?_
        refine go_imul dx_X12_fewestOthers_58 ?_
        refine go_iadd dx_X12_fewestOthers_59 ?_
        refine go_iload dx_X12_fewestOthers_60 rfl ?_
        refine go_iadd dx_X12_fewestOthers_62 ?_
        refine go_iload_n (i := 2) dx_X12_fewestOthers_63 rfl rfl ?_
        refine go_iconst dx_X12_fewestOthers_64 ?_
        refine go_icmp_ne (tgt := 93) dx_X12_fewestOthers_65 rfl (by omega) (by omega) (fun c65 => ?_) (fun c65 => ?_)
        · refine go_ldc (x := 268435456) kx_X12_231 dx_X12_fewestOthers_93 ?_
          refine go_iastoreV (i := 256 * x + 16 * i + j) dx_X12_fewestOthers_95 (go_ok rfl rfl) (by first | omega | (have := lcv_le (w := K.2.2) (m i) x i; omega)) (show 256 * x + 16 * i + j < 15872 by omega) ?_
          refine go_iinc (lv' := [(0, vv_A 94), (1, vv_I (n : Int)), (2, vv_I (s : Int)), (3, vv_I (i : Int)), (4, vv_I (j : Int)), (5, vv_I ((x : Int) + 1))]) dx_X12_fewestOthers_96 rfl (by decide) rfl ?_
          refine go_goto (tgt := 33) dx_X12_fewestOthers_99 rfl ?_
          first
          | exact put 268435456 (Nat.le_refl _) (lcv_no (by omega))
          | (have e := lcv_tq (w := K.2.2) (m := m) (i := i) (x := x); rw [← show j = i + 1 by omega, if_pos (by omega)] at e; exact put _ (lcv_le _ _ _) e)
          | (have e := lcv_tq (w := K.2.2) (m := m) (i := i) (x := x); rw [← show j = i + 1 by omega, if_neg (by omega)] at e; exact put _ (Nat.le_refl _) e)
        · refine go_iload dx_X12_fewestOthers_68 rfl ?_
          refine go_i2l dx_X12_fewestOthers_70 (by omega) ?_
          refine go_ldc2 (x := 8) kx_X12_373 dx_X12_fewestOthers_71 ?_
          refine go_ldc2 (x := 13) kx_X12_375 dx_X12_fewestOthers_74 ?_
          refine go_cS3 ss_X12_144 dx_X12_fewestOthers_77 (Nat.le_of_ble_eq_true rfl) (Nat.le_of_ble_eq_true rfl) (m_within (by omega) (by omega) (by omega) (fun p1 p2 => ?_) (fun p1 => ?_))
          · refine go_if_eq (tgt := 93) dx_X12_fewestOthers_80 rfl (by omega) (fun c80 => absurd c80 (by decide)) (fun c80 => ?_)
            refine go_aload_n (i := 0) dx_X12_fewestOthers_83 rfl rfl ?_
            refine go_iload dx_X12_fewestOthers_84 rfl ?_
            refine go_iload_n (i := 3) dx_X12_fewestOthers_86 rfl rfl ?_
            refine go_cV2 sv_X12_377 (go_ok rfl rfl) dx_X12_fewestOthers_87 (Nat.le_of_ble_eq_true rfl) (Nat.le_of_ble_eq_true rfl) (m_letterCost hb3 (by omega) (hmr i) (by omega) (Z7 δ3 z1 i (by omega)) ?_)
            refine go_goto (tgt := 95) dx_X12_fewestOthers_90 rfl ?_
            refine go_iastoreV (i := 256 * x + 16 * i + j) dx_X12_fewestOthers_95 (go_ok rfl rfl) (by first | omega | (have := lcv_le (w := K.2.2) (m i) x i; omega)) (show 256 * x + 16 * i + j < 15872 by omega) ?_
            refine go_iinc (lv' := [(0, vv_A 94), (1, vv_I (n : Int)), (2, vv_I (s : Int)), (3, vv_I (i : Int)), (4, vv_I (j : Int)), (5, vv_I ((x : Int) + 1))]) dx_X12_fewestOthers_96 rfl (by decide) rfl ?_
            refine go_goto (tgt := 33) dx_X12_fewestOthers_99 rfl ?_
            first
            | exact put 268435456 (Nat.le_refl _) (lcv_no (by omega))
            | (have e := lcv_tq (w := K.2.2) (m := m) (i := i) (x := x); rw [← show j = i + 1 by omega, if_pos (by omega)] at e; exact put _ (lcv_le _ _ _) e)
            | (have e := lcv_tq (w := K.2.2) (m := m) (i := i) (x := x); rw [← show j = i + 1 by omega, if_neg (by omega)] at e; exact put _ (Nat.le_refl _) e)
          · refine go_if_eq (tgt := 93) dx_X12_fewestOthers_80 rfl (by omega) (fun c80 => ?_) (fun c80 => absurd c80 (by decide))
            refine go_ldc (x := 268435456) kx_X12_231 dx_X12_fewestOthers_93 ?_
            refine go_iastoreV (i := 256 * x + 16 * i + j) dx_X12_fewestOthers_95 (go_ok rfl rfl) (by first | omega | (have := lcv_le (w := K.2.2) (m i) x i; omega)) (show 256 * x + 16 * i + j < 15872 by omega) ?_
            refine go_iinc (lv' := [(0, vv_A 94), (1, vv_I (n : Int)), (2, vv_I (s : Int)), (3, vv_I (i : Int)), (4, vv_I (j : Int)), (5, vv_I ((x : Int) + 1))]) dx_X12_fewestOthers_96 rfl (by decide) rfl ?_
            refine go_goto (tgt := 33) dx_X12_fewestOthers_99 rfl ?_
            first
            | exact put 268435456 (Nat.le_refl _) (lcv_no (by omega))
            | (have e := lcv_tq (w := K.2.2) (m := m) (i := i) (x := x); rw [← show j = i + 1 by omega, if_pos (by omega)] at e; exact put _ (lcv_le _ _ _) e)
            | (have e := lcv_tq (w := K.2.2) (m := m) (i := i) (x := x); rw [← show j = i + 1 by omega, if_neg (by omega)] at e; exact put _ (Nat.le_refl _) e)
      · obtain ⟨z1, z2⟩ := hI
        have mids := lp_up (X := Nat → Nat → Int) (hi := j) (I := fun k δ3 => Z δ3 ∧ i < k ∧ cA δ3 N i j (pt K.1 K.2.2 m i j k 0))
          (G := fun k δ3 => Go E (d + 2) (0, 0) mx_X12_fewestOthers go_φ 107 [(0, vv_A 94), (1, vv_I (n : Int)), (2, vv_I (s : Int)), (3, vv_I (i : Int)), (4, vv_I (j : Int)), (5, vv_I (k : Int))] [] δ3 Q) (fun k δ4 hk hI ih4 => ?_) (fun δ4 hI => ?_)
        · refine go_iload dx_X12_fewestOthers_33 rfl ?_
          refine go_bipush dx_X12_fewestOthers_35 rfl ?_
          refine go_aload_n (i := 0) dx_X12_fewestOthers_37 rfl rfl ?_
          refine go_getI fs_X12_218 (Or.inl rfl) (go_ok rfl rfl) dx_X12_fewestOthers_38 ?_
          refine go_asI (y := ((gH K.1).length : Int)) (by exact (Zm δ3 z1).2.2.1) ?_
          refine go_iadd dx_X12_fewestOthers_41 ?_
          refine go_icmp_ge (tgt := 102) dx_X12_fewestOthers_42 rfl (by omega) (by omega) (fun c42 => ?_) (fun c42 => by exact absurd c42 (by omega))
          refine go_iload_n (i := 3) dx_X12_fewestOthers_102 rfl rfl ?_
          refine go_iconst dx_X12_fewestOthers_103 ?_
          refine go_iadd dx_X12_fewestOthers_104 ?_
          refine go_asI (y := ((i + 1 : Nat) : Int)) (by omega) ?_
          refine go_istore (lv' := [(0, vv_A 94), (1, vv_I (n : Int)), (2, vv_I (s : Int)), (3, vv_I (i : Int)), (4, vv_I (j : Int)), (5, vv_I ((i + 1 : Nat) : Int))]) dx_X12_fewestOthers_105 (by decide) rfl ?_
          exact mids (i + 1) δ3 (by omega) ⟨z1, Nat.lt_succ_self _, cA_congr z2 (fun _ _ => pt_0.symm)⟩
        · obtain ⟨y1, y2, y3⟩ := hI
          have prs := lp_up (X := Nat → Nat → Int) (hi := (gP K.1).length) (I := fun q δ3 => Z δ3 ∧ cA δ3 N i j (pt K.1 K.2.2 m i j k q))
            (G := fun q δ3 => Go E (d + 2) (0, 0) mx_X12_fewestOthers go_φ 117 [(0, vv_A 94), (1, vv_I (n : Int)), (2, vv_I (s : Int)), (3, vv_I (i : Int)), (4, vv_I (j : Int)), (5, vv_I (k : Int)), (6, vv_I (q : Int))] [] δ3 Q) (fun q δ5 hq hI ih5 => ?_) (fun δ5 hI => ?_)
          · refine go_iload dx_X12_fewestOthers_107 rfl ?_
            refine go_iload dx_X12_fewestOthers_109 rfl ?_
            refine go_icmp_ge (tgt := 182) dx_X12_fewestOthers_111 rfl (by omega) (by omega) (fun c111 => by exact absurd c111 (by omega)) (fun c111 => ?_)
            refine go_iconst dx_X12_fewestOthers_114 ?_
            refine go_istore (lv' := [(0, vv_A 94), (1, vv_I (n : Int)), (2, vv_I (s : Int)), (3, vv_I (i : Int)), (4, vv_I (j : Int)), (5, vv_I (k : Int)), (6, vv_I 0)]) dx_X12_fewestOthers_115 (by decide) rfl ?_
            exact prs 0 δ4 (Nat.zero_le _) ⟨y1, y3⟩
          · obtain ⟨x1, x2⟩ := hI
            obtain ⟨e, he⟩ : ∃ e, (gP K.1)[q]'hq = e := ⟨_, rfl⟩
            have hem : e ∈ gP K.1 := by rw [← he]; exact List.getElem_mem hq
            have hpe := pr_lt hR hem
            have hpl := gP_le hR
            have hq5 := Zm δ5 x1
            have hcode := hq5.2.1 q hq
            have hps := fun x n' => @pt_s K.1 K.2.2 m i j k q x n' hq
            rw [he] at hcode
            simp only [he] at hps
            have l99 : go_ln 99 = 64 := rfl
            have l100 : go_ln 100 = 64 := rfl
            have l101 : go_ln 101 = 64 := rfl
            obtain ⟨a, a1, a2, a3⟩ := Zc δ5 x1 i k y2 (by omega) (by omega) e.2.1 (by omega)
            obtain ⟨b, b1, b2, b3⟩ := Zc δ5 x1 k j hk (by omega) (by omega) e.2.2.1 (by omega)
            obtain ⟨v, v1, v2, v3⟩ := x2 e.1 (by omega)
            refine go_iload dx_X12_fewestOthers_117 rfl ?_
            refine go_aload_n (i := 0) dx_X12_fewestOthers_119 rfl rfl ?_
            refine go_getI fs_X12_215 (Or.inl rfl) (go_ok rfl rfl) dx_X12_fewestOthers_120 ?_
            refine go_asI (y := ((gP K.1).length : Int)) (by exact hq5.1) ?_
            refine go_icmp_ge (tgt := 176) dx_X12_fewestOthers_123 rfl (by omega) (by omega) (fun c123 => by exact absurd c123 (by omega)) (fun c123 => ?_)
            refine go_aload_n (i := 0) dx_X12_fewestOthers_126 rfl rfl ?_
            refine go_aload_n (i := 0) dx_X12_fewestOthers_127 rfl rfl ?_
            refine go_getA (b := 99) fs_X12_27 rfl (go_ok rfl rfl) rfl dx_X12_fewestOthers_128 ?_
            refine go_iload dx_X12_fewestOthers_131 rfl ?_
            refine go_ialoadV (i := q) (v := ((e.1 : Int))) dx_X12_fewestOthers_133 (go_ok rfl rfl) (by omega) (show q < 64 by omega) (by exact hcode.1) ?_
            refine go_iload_n (i := 3) dx_X12_fewestOthers_134 rfl rfl ?_
            refine go_iload dx_X12_fewestOthers_135 rfl ?_
            refine go_aload_n (i := 0) dx_X12_fewestOthers_137 rfl rfl ?_
            refine go_aload_n (i := 0) dx_X12_fewestOthers_138 rfl rfl ?_
            refine go_getA (b := 100) fs_X12_30 rfl (go_ok rfl rfl) rfl dx_X12_fewestOthers_139 ?_
            refine go_iload dx_X12_fewestOthers_142 rfl ?_
            refine go_ialoadV (i := q) (v := ((e.2.1 : Int))) dx_X12_fewestOthers_144 (go_ok rfl rfl) (by omega) (show q < 64 by omega) (by exact hcode.2.1) ?_
            refine go_iload_n (i := 3) dx_X12_fewestOthers_145 rfl rfl ?_
            refine go_iload dx_X12_fewestOthers_146 rfl ?_
            refine go_cV3 sv_X12_369 (go_ok rfl rfl) dx_X12_fewestOthers_148 (Nat.le_of_ble_eq_true rfl) (Nat.le_of_ble_eq_true rfl) (m_costAt (by omega) (by omega) (by omega) a2 ?_)
            refine go_aload_n (i := 0) dx_X12_fewestOthers_151 rfl rfl ?_
            refine go_aload_n (i := 0) dx_X12_fewestOthers_152 rfl rfl ?_
            refine go_getA (b := 101) fs_X12_33 rfl (go_ok rfl rfl) rfl dx_X12_fewestOthers_153 ?_
            refine go_iload dx_X12_fewestOthers_156 rfl ?_
            refine go_ialoadV (i := q) (v := ((e.2.2.1 : Int))) dx_X12_fewestOthers_158 (go_ok rfl rfl) (by omega) (show q < 64 by omega) (by exact hcode.2.2.1) ?_
            refine go_iload dx_X12_fewestOthers_159 rfl ?_
            refine go_iload dx_X12_fewestOthers_161 rfl ?_
            refine go_cV3 sv_X12_369 (go_ok rfl rfl) dx_X12_fewestOthers_163 (Nat.le_of_ble_eq_true rfl) (Nat.le_of_ble_eq_true rfl) (m_costAt (by omega) (by omega) (by omega) b2 ?_)
            refine go_iadd dx_X12_fewestOthers_166 ?_
            refine go_asI (y := ((a + b : Nat) : Int)) (by rfl) ?_
            refine go_cV4 sv_X12_380 (go_ok rfl rfl) dx_X12_fewestOthers_167 (Nat.le_of_ble_eq_true rfl) (Nat.le_of_ble_eq_true rfl) (m_lowers (by omega) v1 (by omega) (by omega) (by omega) v2 (fun δ6 w1 w2 => ?_))
            refine go_iinc (lv' := [(0, vv_A 94), (1, vv_I (n : Int)), (2, vv_I (s : Int)), (3, vv_I (i : Int)), (4, vv_I (j : Int)), (5, vv_I (k : Int)), (6, vv_I ((q : Int) + 1))]) dx_X12_fewestOthers_170 rfl (by decide) rfl ?_
            refine go_goto (tgt := 117) dx_X12_fewestOthers_173 rfl ?_
            refine ih5 δ6 ⟨fun c q' hc => by rw [w2 c q' (fun e1 e2 => hc ⟨e1, e.1, e2⟩)]; exact x1 c q' hc, fun y hy => ?_⟩
            by_cases z : y = e.1
            · subst z
              exact ⟨_, by split <;> omega, w1, tq_low v3 (cc_sum a3 b3) (fun n' => (hps _ n').trans ⟨fun g => g.imp id (fun g => g.2), fun g => g.imp id (fun g => ⟨rfl, g⟩)⟩)⟩
            · obtain ⟨u, u1, u2, u3⟩ := x2 y hy
              exact ⟨u, u1, by rw [w2 _ _ (fun _ => by omega)]; exact u2, tq_congr (fun n' => ((hps y n').trans ⟨fun g => g.elim id (fun g => absurd g.1.symm z), Or.inl⟩).symm) u3⟩
          · obtain ⟨x1, x2⟩ := hI
            have hpl := gP_le hR
            refine go_iload dx_X12_fewestOthers_117 rfl ?_
            refine go_aload_n (i := 0) dx_X12_fewestOthers_119 rfl rfl ?_
            refine go_getI fs_X12_215 (Or.inl rfl) (go_ok rfl rfl) dx_X12_fewestOthers_120 ?_
            refine go_asI (y := ((gP K.1).length : Int)) (by exact (Zm δ5 x1).1) ?_
            refine go_icmp_ge (tgt := 176) dx_X12_fewestOthers_123 rfl (by omega) (by omega) (fun c123 => ?_) (fun c123 => by exact absurd c123 (by omega))
            refine go_iinc (lv' := [(0, vv_A 94), (1, vv_I (n : Int)), (2, vv_I (s : Int)), (3, vv_I (i : Int)), (4, vv_I (j : Int)), (5, vv_I ((k : Int) + 1)), (6, vv_I ((gP K.1).length : Int))]) dx_X12_fewestOthers_176 rfl (by decide) rfl ?_
            refine go_goto (tgt := 107) dx_X12_fewestOthers_179 rfl ?_
            refine go_keep [0, 1, 2, 3, 4, 5] rfl ?_
            exact ih4 δ5 ⟨x1, by omega, cA_congr x2 (fun _ _ => pt_end y2)⟩
        · obtain ⟨y1, y2, y3⟩ := hI
          let B := cbs K.1 K.2.2 m i j
          have pass := lp_up (X := (Nat → Nat → Int) × (Nat → Nat)) (hi := 8) (I := fun p X => Z X.1 ∧ (∀ x, x < N → X.1 126 (256 * x + 16 * i + j) = (X.2 x : Int)) ∧ uk K.1 N B X.2 ∧ (p ≤ cn 8 (urt K.1 B X.2) ∨ ∀ x, x < 8 → urt K.1 B X.2 x))
            (G := fun p X => Go E (d + 2) (0, 0) mx_X12_fewestOthers go_φ 185 [(0, vv_A 94), (1, vv_I (n : Int)), (2, vv_I (s : Int)), (3, vv_I (i : Int)), (4, vv_I (j : Int)), (5, vv_I (p : Int))] [] X.1 Q) (fun p X hp hI ih4 => ?_) (fun X hI => ?_)
          · refine go_iload dx_X12_fewestOthers_107 rfl ?_
            refine go_iload dx_X12_fewestOthers_109 rfl ?_
            refine go_icmp_ge (tgt := 182) dx_X12_fewestOthers_111 rfl (by omega) (by omega) (fun c111 => ?_) (fun c111 => by exact absurd c111 (by omega))
            refine go_iconst dx_X12_fewestOthers_182 ?_
            refine go_istore (lv' := [(0, vv_A 94), (1, vv_I (n : Int)), (2, vv_I (s : Int)), (3, vv_I (i : Int)), (4, vv_I (j : Int)), (5, vv_I 0)]) dx_X12_fewestOthers_183 (by decide) rfl ?_
            refine go_keep [0, 1, 2, 3, 4, 5] rfl ?_
            exact pass 0 (δ4, fun x => (δ4 126 (256 * x + 16 * i + j)).toNat) (Nat.zero_le _) ⟨y1, fun x hx => by obtain ⟨v, _, e, _⟩ := y3 x hx; show δ4 126 (256 * x + 16 * i + j) = (((δ4 126 (256 * x + 16 * i + j)).toNat : Nat) : Int); rw [e]; rfl, fun x hx => by
              obtain ⟨v, g1, e, g2⟩ := y3 x hx
              have e2 : (δ4 126 (256 * x + 16 * i + j)).toNat = v := by rw [e]; rfl
              have g2 := tq_congr (fun _ => pt_cbs) g2
              show (δ4 126 (256 * x + 16 * i + j)).toNat ≤ _ ∧ _
              dsimp only
              rw [e2]
              exact ⟨g1, fun q => Or.inl (g2.1 q), g2.2⟩, Or.inl (Nat.zero_le _)⟩
          · obtain ⟨δ5, v⟩ := X
            obtain ⟨x1, x2, x3, x4⟩ := hI
            dsimp only at x1 x2 x3 x4 ⊢
            have rls := lp_up (X := (Nat → Nat → Int) × (Nat → Nat)) (hi := 16) (I := fun r X => Z X.1 ∧ (∀ x, x < N → X.1 126 (256 * x + 16 * i + j) = (X.2 x : Int)) ∧ uk K.1 N B X.2 ∧ (∀ x, X.2 x ≤ v x) ∧ ∀ r', r' < r → ∀ x y, K.1 r' = [x, y] → X.2 x ≤ v y)
              (G := fun r X => Go E (d + 2) (0, 0) mx_X12_fewestOthers go_φ 195 [(0, vv_A 94), (1, vv_I (n : Int)), (2, vv_I (s : Int)), (3, vv_I (i : Int)), (4, vv_I (j : Int)), (5, vv_I (p : Int)), (6, vv_I (r : Int))] [] X.1 Q) (fun r X hr hI ih5 => ?_) (fun X hI => ?_)
            · refine go_iload dx_X12_fewestOthers_185 rfl ?_
              refine go_bipush dx_X12_fewestOthers_187 rfl ?_
              refine go_icmp_ge (tgt := 251) dx_X12_fewestOthers_189 rfl (by omega) (by omega) (fun c189 => by exact absurd c189 (by omega)) (fun c189 => ?_)
              refine go_iconst dx_X12_fewestOthers_192 ?_
              refine go_istore (lv' := [(0, vv_A 94), (1, vv_I (n : Int)), (2, vv_I (s : Int)), (3, vv_I (i : Int)), (4, vv_I (j : Int)), (5, vv_I (p : Int)), (6, vv_I 0)]) dx_X12_fewestOthers_193 (by decide) rfl ?_
              exact rls 0 (δ5, v) (Nat.zero_le _) ⟨x1, x2, x3, fun _ => Nat.le_refl _, fun r' hr' => absurd hr' (Nat.not_lt_zero _)⟩
            · obtain ⟨δ6, u⟩ := X
              obtain ⟨w1, w2, w3, w4, w5⟩ := hI
              dsimp only at w1 w2 w3 w4 w5 ⊢
              have ih6 : ∀ (δ7 : Nat → Nat → Int) (u7 : Nat → Nat), Z δ7 → (∀ x, x < N → δ7 126 (256 * x + 16 * i + j) = (u7 x : Int)) → uk K.1 N B u7 → (∀ x, u7 x ≤ v x) → (∀ r', r' < r + 1 → ∀ x y, K.1 r' = [x, y] → u7 x ≤ v y) → Go E (d + 2) (0, 0) mx_X12_fewestOthers go_φ 195 [(0, vv_A 94), (1, vv_I (n : Int)), (2, vv_I (s : Int)), (3, vv_I (i : Int)), (4, vv_I (j : Int)), (5, vv_I (p : Int)), (6, vv_I ((r + 1 : Nat) : Int))] [] δ7 Q := fun δ7 u7 a b c e f => ih5 (δ7, u7) ⟨a, b, c, e, f⟩
              have hb6 : bo_at δ6 K.1 := bo_of (Zb δ6 w1)
              have hlen := (hR r).len
              refine go_iload dx_X12_fewestOthers_195 rfl ?_
              refine go_bipush dx_X12_fewestOthers_197 rfl ?_
              refine go_icmp_ge (tgt := 245) dx_X12_fewestOthers_199 rfl (by omega) (by omega) (fun c199 => by exact absurd c199 (by omega)) (fun c199 => ?_)
              refine go_aload_n (i := 0) dx_X12_fewestOthers_202 rfl rfl ?_
              refine go_iload dx_X12_fewestOthers_203 rfl ?_
              refine go_cV1 sv_X12_148 (go_ok rfl rfl) dx_X12_fewestOthers_205 (Nat.le_of_ble_eq_true rfl) (Nat.le_of_ble_eq_true rfl) (o_longOf hb6 hr ?_)
              refine go_iconst dx_X12_fewestOthers_208 ?_
              refine go_icmp_ne (tgt := 239) dx_X12_fewestOthers_209 rfl (by omega) (by omega) (fun c209 => ?_) (fun c209 => ?_)
              · refine go_iinc (lv' := [(0, vv_A 94), (1, vv_I (n : Int)), (2, vv_I (s : Int)), (3, vv_I (i : Int)), (4, vv_I (j : Int)), (5, vv_I (p : Int)), (6, vv_I ((r : Int) + 1))]) dx_X12_fewestOthers_239 rfl (by decide) rfl ?_
                refine go_goto (tgt := 195) dx_X12_fewestOthers_242 rfl ?_
                exact ih6 δ6 u w1 w2 w3 w4 (fun r' hr' x y hxy => by
                by_cases q : r' = r
                · subst q; exact absurd (congrArg List.length hxy) (fun z => by have : (K.1 r').length = 2 := z; omega)
                · exact w5 r' (by omega) x y hxy)
              · have hl2 : (K.1 r).length = 2 := by omega
                obtain ⟨x, y, q, hl, hx, hy, hq⟩ := rl_split hR (r := r) (fun w => by rw [w] at hl2; cases hl2)
                have hq0 : q = [] := List.eq_nil_of_length_eq_zero (by rw [hl] at hl2; simp only [List.length_cons] at hl2; omega)
                subst hq0
                have hun : un K.1 x y := ⟨r, hr, hl⟩
                have ux := (w3 x (by omega)).1
                have uy := (w3 y (by omega)).1
                refine go_aload_n (i := 0) dx_X12_fewestOthers_212 rfl rfl ?_
                refine go_aload_n (i := 0) dx_X12_fewestOthers_213 rfl rfl ?_
                refine go_iload dx_X12_fewestOthers_214 rfl ?_
                refine go_cV1 sv_X12_184 (go_ok rfl rfl) dx_X12_fewestOthers_216 (Nat.le_of_ble_eq_true rfl) (Nat.le_of_ble_eq_true rfl) (o_symbolOf hb6 hr (by omega) ?_)
                refine go_asI (y := (x : Int)) (by rw [hl]; rfl) ?_
                refine go_iload_n (i := 3) dx_X12_fewestOthers_219 rfl rfl ?_
                refine go_iload dx_X12_fewestOthers_220 rfl ?_
                refine go_aload_n (i := 0) dx_X12_fewestOthers_222 rfl rfl ?_
                refine go_aload_n (i := 0) dx_X12_fewestOthers_223 rfl rfl ?_
                refine go_iload dx_X12_fewestOthers_224 rfl ?_
                refine go_iconst dx_X12_fewestOthers_226 ?_
                refine go_asI (y := ((0 : Nat) : Int)) (by rfl) ?_
                refine go_cV2 sv_X12_190 (go_ok rfl rfl) dx_X12_fewestOthers_227 (Nat.le_of_ble_eq_true rfl) (Nat.le_of_ble_eq_true rfl) (o_partOf hb6 hr (by omega) ?_)
                refine go_asI (y := (y : Int)) (by rw [hl]; rfl) ?_
                refine go_iload_n (i := 3) dx_X12_fewestOthers_230 rfl rfl ?_
                refine go_iload dx_X12_fewestOthers_231 rfl ?_
                refine go_cV3 sv_X12_369 (go_ok rfl rfl) dx_X12_fewestOthers_233 (Nat.le_of_ble_eq_true rfl) (Nat.le_of_ble_eq_true rfl) (m_costAt (by omega) (by omega) (by omega) (w2 y (by omega)) ?_)
                refine go_cV4 sv_X12_380 (go_ok rfl rfl) dx_X12_fewestOthers_236 (Nat.le_of_ble_eq_true rfl) (Nat.le_of_ble_eq_true rfl) (m_lowers (by omega) ux (by omega) (by omega) (by omega) (w2 x (by omega)) (fun δ7 g1 g2 => ?_))
                refine go_iinc (lv' := [(0, vv_A 94), (1, vv_I (n : Int)), (2, vv_I (s : Int)), (3, vv_I (i : Int)), (4, vv_I (j : Int)), (5, vv_I (p : Int)), (6, vv_I ((r : Int) + 1))]) dx_X12_fewestOthers_239 rfl (by decide) rfl ?_
                refine go_goto (tgt := 195) dx_X12_fewestOthers_242 rfl ?_
                have hle : ∀ z, (if z = x then (if u y < u x then u y else u x) else u z) ≤ u z := fun z => by
                  by_cases q : z = x
                  · subst q; rw [if_pos rfl]; split <;> omega
                  · rw [if_neg q]; exact Nat.le_refl _
                refine ih6 δ7 (fun z => if z = x then (if u y < u x then u y else u x) else u z) (fun c q' hc => by rw [g2 c q' (fun e1 e2 => hc ⟨e1, x, e2⟩)]; exact w1 c q' hc) (fun z hz => ?_) (fun z hz => ?_) (fun z => Nat.le_trans (hle z) (w4 z)) (fun r' hr' a b hab => ?_)
                · show _ = ((if z = x then _ else _ : Nat) : Int)
                  by_cases q : z = x
                  · subst q; rw [if_pos rfl]; exact g1
                  · rw [if_neg q, g2 _ _ (fun _ => by omega)]; exact w2 z hz
                · dsimp only
                  by_cases q : z = x
                  · subst q
                    rw [if_pos rfl]
                    obtain ⟨h1, h2, h3⟩ := w3 z hz
                    by_cases g : u y < u z
                    · rw [if_pos g]
                      refine ⟨uy, fun f => ufn_up hun ((w3 y (by omega)).2.1 f), fun n' hn' => ?_⟩
                      have := h3 n' hn'
                      omega
                    · rw [if_neg g]
                      exact ⟨h1, h2, h3⟩
                  · rw [if_neg q]; exact w3 z hz
                · by_cases q : r' = r
                  · subst q
                    rw [hl] at hab
                    injection hab with e1 e2
                    injection e2 with e3 e4
                    subst e1 e3
                    rw [if_pos rfl]
                    have := w4 y
                    split <;> omega
                  · exact Nat.le_trans (hle a) (w5 r' (by omega) a b hab)
            · obtain ⟨δ6, u⟩ := X
              obtain ⟨w1, w2, w3, w4, w5⟩ := hI
              dsimp only at w1 w2 w3 w4 w5 ⊢
              refine go_iload dx_X12_fewestOthers_195 rfl ?_
              refine go_bipush dx_X12_fewestOthers_197 rfl ?_
              refine go_icmp_ge (tgt := 245) dx_X12_fewestOthers_199 rfl (by omega) (by omega) (fun c199 => ?_) (fun c199 => by exact absurd c199 (by omega))
              refine go_iinc (lv' := [(0, vv_A 94), (1, vv_I (n : Int)), (2, vv_I (s : Int)), (3, vv_I (i : Int)), (4, vv_I (j : Int)), (5, vv_I ((p : Int) + 1)), (6, vv_I ((16 : Nat) : Int))]) dx_X12_fewestOthers_245 rfl (by decide) rfl ?_
              refine go_goto (tgt := 185) dx_X12_fewestOthers_248 rfl ?_
              refine go_keep [0, 1, 2, 3, 4, 5] rfl ?_
              exact ih4 (δ6, u) ⟨w1, w2, w3, urt_pass hR (by omega) x3 w4 (fun x y ⟨r, hr, hxy⟩ => w5 r hr x y hxy) x4⟩
          · obtain ⟨δ5, v⟩ := X
            obtain ⟨x1, x2, x3, x4⟩ := hI
            dsimp only at x1 x2 x3 x4 ⊢
            have last := urt_end hR x3 x4
            refine go_iload dx_X12_fewestOthers_185 rfl ?_
            refine go_bipush dx_X12_fewestOthers_187 rfl ?_
            refine go_icmp_ge (tgt := 251) dx_X12_fewestOthers_189 rfl (by omega) (by omega) (fun c189 => ?_) (fun c189 => by exact absurd c189 (by omega))
            refine go_iinc (lv' := [(0, vv_A 94), (1, vv_I (n : Int)), (2, vv_I (s : Int)), (3, vv_I ((i : Int) + 1)), (4, vv_I (j : Int)), (5, vv_I ((8 : Nat) : Int))]) dx_X12_fewestOthers_251 rfl (by decide) rfl ?_
            refine go_goto (tgt := 18) dx_X12_fewestOthers_254 rfl ?_
            refine go_keep [0, 1, 2, 3] rfl ?_
            exact fin δ5 x1 (fun x hx => ⟨v x, (x3 x hx).1, x2 x hx, tq_congr (fun n' => (cc_ufn hR hij).symm) (last x hx)⟩)
    · obtain ⟨j1, j2, j3⟩ := hI
      refine go_iload_n (i := 3) dx_X12_fewestOthers_18 rfl rfl ?_
      refine go_iload_n (i := 2) dx_X12_fewestOthers_19 rfl rfl ?_
      refine go_iadd dx_X12_fewestOthers_20 ?_
      refine go_iload_n (i := 1) dx_X12_fewestOthers_21 rfl rfl ?_
      refine go_icmp_gt (tgt := 257) dx_X12_fewestOthers_22 rfl (by omega) (by omega) (fun c22 => ?_) (fun c22 => by exact absurd c22 (by omega))
      refine go_iinc (lv' := [(0, vv_A 94), (1, vv_I (n : Int)), (2, vv_I ((s : Int) + 1)), (3, vv_I ((n + 1 - s : Nat) : Int))]) dx_X12_fewestOthers_257 rfl (by decide) rfl ?_
      refine go_goto (tgt := 11) dx_X12_fewestOthers_260 rfl ?_
      refine go_keep [0, 1, 2] rfl ?_
      refine ih δ2 ⟨by omega, fun i j a b c => j1 i j a b (by omega), j2, j3⟩
  · obtain ⟨s1, i1, i2, i3⟩ := hI
    have hfr : ∀ c q, ¬ mqP c q → c ≠ 126 → δ1 c q = δ c q := i3
    refine go_iload_n (i := 2) dx_X12_fewestOthers_11 rfl rfl ?_
    refine go_iload_n (i := 1) dx_X12_fewestOthers_12 rfl rfl ?_
    refine go_icmp_gt (tgt := 263) dx_X12_fewestOthers_13 rfl (by omega) (by omega) (fun c13 => ?_) (fun c13 => by exact absurd c13 (by omega))
    by_cases z : n = 0
    · subst z
      refine go_iload_n (i := 1) dx_X12_fewestOthers_263 rfl rfl ?_
      refine go_if_ne (tgt := 272) dx_X12_fewestOthers_264 rfl (by omega) (fun c264 => by exact absurd rfl c264) (fun c264 => ?_)
      refine go_ldc (x := 268435456) kx_X12_231 dx_X12_fewestOthers_267 ?_
      refine go_goto (tgt := 285) dx_X12_fewestOthers_269 rfl ?_
      refine go_ireturn dx_X12_fewestOthers_285 rfl (Nat.le_refl _) (Nat.le_refl _) ?_
      exact hQ δ1 268435456 (Nat.le_refl _) (fun _ => rfl) (fun q => absurd q (Nat.lt_irrefl _)) hfr
    · obtain ⟨v, v1, v2, v3⟩ := i1 0 n (by omega) (Nat.le_refl _) (by omega) K.2.1 (by omega)
      refine go_iload_n (i := 1) dx_X12_fewestOthers_263 rfl rfl ?_
      refine go_if_ne (tgt := 272) dx_X12_fewestOthers_264 rfl (by omega) (fun c264 => ?_) (fun c264 => by exact absurd c264 (by omega))
      refine go_aload_n (i := 0) dx_X12_fewestOthers_272 rfl rfl ?_
      refine go_aload_n (i := 0) dx_X12_fewestOthers_273 rfl rfl ?_
      refine go_getA (b := 95) fs_X12_7 rfl (go_ok rfl rfl) rfl dx_X12_fewestOthers_274 ?_
      refine go_bipush dx_X12_fewestOthers_277 rfl ?_
      refine go_ialoadV (i := 112) (v := ((K.2.1 : Int))) dx_X12_fewestOthers_279 (go_ok rfl rfl) (by omega) (show 112 < 384 by omega) (by rw [hfr 95 112 (by unfold mqP; omega) (by decide)]; exact e112) ?_
      refine go_iconst dx_X12_fewestOthers_280 ?_
      refine go_asI (y := ((0 : Nat) : Int)) (by rfl) ?_
      refine go_iload_n (i := 1) dx_X12_fewestOthers_281 rfl rfl ?_
      refine go_cV3 sv_X12_369 (go_ok rfl rfl) dx_X12_fewestOthers_282 (Nat.le_of_ble_eq_true rfl) (Nat.le_of_ble_eq_true rfl) (m_costAt (by omega) (by omega) (by omega) v2 ?_)
      refine go_ireturn dx_X12_fewestOthers_285 rfl (Nat.le_refl _) (Nat.le_refl _) ?_
      exact hQ δ1 v v1 (fun q => absurd q z) (fun _ => v3) hfr
end GMN2
