/-! the tape -/
def fr (S : List Nat) (δ δ' : Nat → Nat → Int) : Prop := ∀ b, b ∉ S → ∀ j, δ' b j = δ b j
theorem fr_rf {S : List Nat} {δ : Nat → Nat → Int} : fr S δ δ := fun _ _ _ => rfl
theorem fr_tr {S T : List Nat} {δ δ1 δ2 : Nat → Nat → Int} (h1 : fr S δ δ1) (h2 : fr T δ1 δ2) : fr (S ++ T) δ δ2 := fun b hb j => by
  rw [List.mem_append, not_or] at hb
  rw [h2 b hb.2 j, h1 b hb.1 j]
theorem fr_trs {S : List Nat} {δ δ1 δ2 : Nat → Nat → Int} (h1 : fr S δ δ1) (h2 : fr S δ1 δ2) : fr S δ δ2 := fun b hb j => by rw [h2 b hb j, h1 b hb j]
theorem fr_up {S T : List Nat} {δ δ1 : Nat → Nat → Int} (h1 : fr S δ δ1) (h : ∀ b, b ∈ S → b ∈ T) : fr T δ δ1 := fun b hb j => h1 b (fun q => hb (h b q)) j
theorem fr_wr {S : List Nat} {δ : Nat → Nat → Int} {a i : Nat} {v : Int} (h : a ∈ S) : fr S δ (wr δ a i v) := fun b hb j => wr_a _ _ _ _ (fun e => hb (by rw [e]; exact h)) j
def tp_at (δ : Nat → Nat → Int) (t : List Nat) (f : Int × Int) : Prop := t.length ≤ 40 ∧ δ 1 1 = (t.length : Int) ∧ (∀ k (h : k < t.length), δ 2 k = (t[k] : Int)) ∧ (∀ c ∈ t, c < 256) ∧ δ 1 2 = f.1 ∧ δ 1 3 = f.2
theorem tp_push {δ : Nat → Nat → Int} {t : List Nat} {f : Int × Int} (h : tp_at δ t f) (hl : t.length < 40) {c : Nat} (hc : c < 256) :
    tp_at (wr (wr δ 2 t.length c) 1 1 (t.length + 1)) (t ++ [c]) f := by
  obtain ⟨h1, h2, h3, h4, h5, h6⟩ := h
  refine ⟨by simp; omega, by simp [wr], fun k hk => ?_, ?_, by simp [wr, h5], by simp [wr, h6]⟩
  · rw [List.length_append, List.length_singleton] at hk
    by_cases he : k = t.length
    · subst he; simp [wr]
    · have hk' : k < t.length := by omega
      rw [List.getElem_append_left hk']
      simp [wr, he, h3 k hk']
  · intro x hx
    rcases List.mem_append.mp hx with h | h
    · exact h4 x h
    · rw [List.mem_singleton.mp h]; exact hc
section GTAPE
variable {E : go_E} {d : Nat} {δ : Nat → Nat → Int} {Q : List go_V → go_F → (Nat → Nat → Int) → Prop}
def tp_four (x : Int) : List Nat := [bt_byte x 24, bt_byte x 16, bt_byte x 8, bt_byte x 0]
theorem tp_byte_lt (x : Int) (k : Nat) : bt_byte x k < 256 := Nat.mod_lt _ (by decide)
theorem g_Tape_append {t : List Nat} {f : Int × Int} {x : Int} (h : tp_at δ t f) (hl : t.length + 4 ≤ 40) (hQ : ∀ δ', tp_at δ' (t ++ tp_four x) f → fr [1, 2] δ δ' → Q [] go_φ δ') :
    Go E (d + 1) (0, 0) mx_X8_append go_φ 0 [(0, vv_A 1), (1, vv_I x)] [] δ Q := by
  have step : ∀ (δ : Nat → Nat → Int) (t : List Nat) (k : Nat) (v : Int), v = (k : Int) → k ≤ 24 → tp_at δ t f → t.length < 40 →
      (∀ δ', tp_at δ' (t ++ [bt_byte x k]) f → fr [1, 2] δ δ' → Go E (d + 1) (0, 0) mx_X8_append go_φ 35 [(0, vv_A 1), (1, vv_I x), (2, vv_I v)] [] δ' Q) → Go E (d + 1) (0, 0) mx_X8_append go_φ 7 [(0, vv_A 1), (1, vv_I x), (2, vv_I v)] [] δ Q := by
    intro δ t k v hv hk h hl K
    have hb := @bt_byteU x k (by omega)
    subst hv
    have hh := h.2.1
    have hl2 : go_ln 2 = 40 := rfl
    refine go_aload_n (i := 0) dx_X8_append_7 rfl rfl ?_
    refine go_getA (b := 2) fs_X8_9 rfl (go_ok rfl rfl) rfl dx_X8_append_8 ?_
    refine go_aload_n (i := 0) dx_X8_append_11 rfl rfl ?_
    refine go_getI fs_X8_19 (Or.inl rfl) (go_ok rfl rfl) dx_X8_append_12 ?_
    refine go_iload_n (i := 1) dx_X8_append_15 rfl rfl ?_
    refine go_iload_n (i := 2) dx_X8_append_16 rfl rfl ?_
    refine go_iushr dx_X8_append_17 ?_
    refine go_sipush dx_X8_append_18 rfl ?_
    refine go_iand dx_X8_append_21 ?_
    refine go_cS3 ss_X8_22 dx_X8_append_22 (Nat.le_of_ble_eq_true rfl) (Nat.le_of_ble_eq_true rfl) (g_putInt (go_ok rfl rfl) (by rw [hh]; omega) (by rw [hh, hl2]; omega) ?_)
    refine go_aload_n (i := 0) dx_X8_append_25 rfl rfl ?_
    refine go_dup dx_X8_append_26 rfl ?_
    refine go_getI fs_X8_19 (Or.inl rfl) (go_ok rfl rfl) dx_X8_append_27 ?_
    refine go_iconst dx_X8_append_30 ?_
    refine go_iadd dx_X8_append_31 ?_
    refine go_putI fp_X8_19 rfl rfl (go_ok rfl rfl) dx_X8_append_32 ?_
    simp only [hh, hb, Int.toNat_natCast, wr_a _ _ _ _ (show (1 : Nat) ≠ 2 by decide)]
    exact K _ (tp_push h hl (tp_byte_lt x k)) (fr_trs (fr_wr (by decide)) (fr_wr (by decide)))
  have loop : ∀ (n j : Nat) (δ1 : Nat → Nat → Int), 4 - j < n → j ≤ 4 → tp_at δ1 (t ++ (tp_four x).take j) f → fr [1, 2] δ δ1 → ∀ v : Int, v = 24 - 8 * (j : Int) → Go E (d + 1) (0, 0) mx_X8_append go_φ 3 [(0, vv_A 1), (1, vv_I x), (2, vv_I v)] [] δ1 Q := by
    intro n
    induction n with
    | zero => intros; omega
    | succ n ih =>
      intro j δ1 h1 h2 h3 h4 v hv
      refine go_iload_n (i := 2) dx_X8_append_3 rfl rfl ?_
      refine go_if_lt (tgt := 41) dx_X8_append_4 rfl (by omega) (fun c4 => ?_) (fun c4 => ?_)
      · refine go_vreturn dx_X8_append_41 rfl (Nat.le_refl _) (Nat.le_refl _) ?_
        have hj : j = 4 := by omega
        subst hj
        exact hQ δ1 h3 h4
      · have hlen : (t ++ (tp_four x).take j).length < 40 := by
          rw [List.length_append, List.length_take]
          have : (tp_four x).length = 4 := rfl
          omega
        refine step δ1 _ (24 - 8 * j) v (by omega) (by omega) h3 hlen (fun δ2 h5 f5 => ?_)
        have e : (t ++ (tp_four x).take j) ++ [bt_byte x (24 - 8 * j)] = t ++ (tp_four x).take (j + 1) := by
          rw [List.append_assoc]
          congr 1
          have : j = 0 ∨ j = 1 ∨ j = 2 ∨ j = 3 := by omega
          rcases this with rfl | rfl | rfl | rfl <;> rfl
        rw [e] at h5
        refine go_iinc (lv' := [(0, vv_A 1), (1, vv_I x), (2, vv_I (v + (-8)))]) dx_X8_append_35 rfl (by decide) rfl ?_
        refine go_goto (tgt := 3) dx_X8_append_38 rfl ?_
        exact ih (j + 1) δ2 (by omega) (by omega) h5 (fr_trs h4 f5) _ (by omega)
  refine go_bipush dx_X8_append_0 rfl ?_
  refine go_istore_n (i := 2) (lv' := [(0, vv_A 1), (1, vv_I x), (2, vv_I 24)]) dx_X8_append_2 rfl (by decide) rfl ?_
  exact loop 5 0 δ (by omega) (by omega) (by simpa using h) fr_rf 24 (by omega)
theorem sy_1 {c : Nat} (h1 : 65 ≤ c) (h2 : c ≤ 72) : sy c = (c : Int) - 65 := by unfold sy; rw [if_pos ⟨h1, h2⟩]
theorem sy_2 {c : Nat} (h1 : 97 ≤ c) (h2 : c ≤ 102) : sy c = (c : Int) - 97 + 8 := by unfold sy; rw [if_neg (by omega), if_pos ⟨h1, h2⟩]
theorem sy_3 {c : Nat} (h1 : ¬ (65 ≤ c ∧ c ≤ 72)) (h2 : ¬ (97 ≤ c ∧ c ≤ 102)) : sy c = -1 := by unfold sy; rw [if_neg h1, if_neg h2]
theorem g_Tape_symbolOf {x : Int} {c : Nat} (hx : x = (c : Int)) (hc : c < 256) (hQ : Q [vv_I (sy c)] go_φ δ) : Go E d (0, 0) mx_X8_symbolOf go_φ 0 [(0, vv_I x)] [] δ Q := by
  subst hx
  refine go_iload_n (i := 0) dx_X8_symbolOf_0 rfl rfl ?_
  refine go_bipush dx_X8_symbolOf_1 rfl ?_
  refine go_icmp_lt (tgt := 17) dx_X8_symbolOf_3 rfl (by omega) (by omega) (fun c3 => ?_) (fun c3 => ?_)
  · refine go_iload_n (i := 0) dx_X8_symbolOf_17 rfl rfl ?_
    refine go_bipush dx_X8_symbolOf_18 rfl ?_
    refine go_icmp_lt (tgt := 39) dx_X8_symbolOf_20 rfl (by omega) (by omega) (fun c20 => ?_) (fun c20 => ?_)
    · refine go_iconst dx_X8_symbolOf_39 ?_
      refine go_ireturn dx_X8_symbolOf_40 rfl (Nat.le_refl _) (Nat.le_refl _) ?_
      first | (rw [sy_1 (by omega) (by omega)] at hQ; exact hQ) | (rw [sy_2 (by omega) (by omega)] at hQ; exact hQ) | (rw [sy_3 (by omega) (by omega)] at hQ; exact hQ)
    · refine go_iload_n (i := 0) dx_X8_symbolOf_23 rfl rfl ?_
      refine go_bipush dx_X8_symbolOf_24 rfl ?_
      refine go_icmp_gt (tgt := 39) dx_X8_symbolOf_26 rfl (by omega) (by omega) (fun c26 => ?_) (fun c26 => ?_)
      · refine go_iconst dx_X8_symbolOf_39 ?_
        refine go_ireturn dx_X8_symbolOf_40 rfl (Nat.le_refl _) (Nat.le_refl _) ?_
        first | (rw [sy_1 (by omega) (by omega)] at hQ; exact hQ) | (rw [sy_2 (by omega) (by omega)] at hQ; exact hQ) | (rw [sy_3 (by omega) (by omega)] at hQ; exact hQ)
      · refine go_iload_n (i := 0) dx_X8_symbolOf_29 rfl rfl ?_
        refine go_bipush dx_X8_symbolOf_30 rfl ?_
        refine go_isub dx_X8_symbolOf_32 ?_
        refine go_bipush dx_X8_symbolOf_33 rfl ?_
        refine go_iadd dx_X8_symbolOf_35 ?_
        refine go_goto (tgt := 40) dx_X8_symbolOf_36 rfl ?_
        refine go_ireturn dx_X8_symbolOf_40 rfl (Nat.le_refl _) (Nat.le_refl _) ?_
        first | (rw [sy_1 (by omega) (by omega)] at hQ; exact hQ) | (rw [sy_2 (by omega) (by omega)] at hQ; exact hQ) | (rw [sy_3 (by omega) (by omega)] at hQ; exact hQ)
  · refine go_iload_n (i := 0) dx_X8_symbolOf_6 rfl rfl ?_
    refine go_bipush dx_X8_symbolOf_7 rfl ?_
    refine go_icmp_gt (tgt := 17) dx_X8_symbolOf_9 rfl (by omega) (by omega) (fun c9 => ?_) (fun c9 => ?_)
    · refine go_iload_n (i := 0) dx_X8_symbolOf_17 rfl rfl ?_
      refine go_bipush dx_X8_symbolOf_18 rfl ?_
      refine go_icmp_lt (tgt := 39) dx_X8_symbolOf_20 rfl (by omega) (by omega) (fun c20 => ?_) (fun c20 => ?_)
      · refine go_iconst dx_X8_symbolOf_39 ?_
        refine go_ireturn dx_X8_symbolOf_40 rfl (Nat.le_refl _) (Nat.le_refl _) ?_
        first | (rw [sy_1 (by omega) (by omega)] at hQ; exact hQ) | (rw [sy_2 (by omega) (by omega)] at hQ; exact hQ) | (rw [sy_3 (by omega) (by omega)] at hQ; exact hQ)
      · refine go_iload_n (i := 0) dx_X8_symbolOf_23 rfl rfl ?_
        refine go_bipush dx_X8_symbolOf_24 rfl ?_
        refine go_icmp_gt (tgt := 39) dx_X8_symbolOf_26 rfl (by omega) (by omega) (fun c26 => ?_) (fun c26 => ?_)
        · refine go_iconst dx_X8_symbolOf_39 ?_
          refine go_ireturn dx_X8_symbolOf_40 rfl (Nat.le_refl _) (Nat.le_refl _) ?_
          first | (rw [sy_1 (by omega) (by omega)] at hQ; exact hQ) | (rw [sy_2 (by omega) (by omega)] at hQ; exact hQ) | (rw [sy_3 (by omega) (by omega)] at hQ; exact hQ)
        · refine go_iload_n (i := 0) dx_X8_symbolOf_29 rfl rfl ?_
          refine go_bipush dx_X8_symbolOf_30 rfl ?_
          refine go_isub dx_X8_symbolOf_32 ?_
          refine go_bipush dx_X8_symbolOf_33 rfl ?_
          refine go_iadd dx_X8_symbolOf_35 ?_
          refine go_goto (tgt := 40) dx_X8_symbolOf_36 rfl ?_
          refine go_ireturn dx_X8_symbolOf_40 rfl (Nat.le_refl _) (Nat.le_refl _) ?_
          first | (rw [sy_1 (by omega) (by omega)] at hQ; exact hQ) | (rw [sy_2 (by omega) (by omega)] at hQ; exact hQ) | (rw [sy_3 (by omega) (by omega)] at hQ; exact hQ)
    · refine go_iload_n (i := 0) dx_X8_symbolOf_12 rfl rfl ?_
      refine go_bipush dx_X8_symbolOf_13 rfl ?_
      refine go_isub dx_X8_symbolOf_15 ?_
      refine go_ireturn dx_X8_symbolOf_16 rfl (Nat.le_refl _) (Nat.le_refl _) ?_
      first | (rw [sy_1 (by omega) (by omega)] at hQ; exact hQ) | (rw [sy_2 (by omega) (by omega)] at hQ; exact hQ) | (rw [sy_3 (by omega) (by omega)] at hQ; exact hQ)
theorem g_Tape_clear {t : List Nat} {f : Int × Int} (h : tp_at δ t f) (hQ : ∀ δ', tp_at δ' [] (0, -1) → fr [1] δ δ' → Q [] go_φ δ') : Go E d (0, 0) mx_X8_clear go_φ 0 [(0, vv_A 1)] [] δ Q := by
  refine go_aload_n (i := 0) dx_X8_clear_0 rfl rfl ?_
  refine go_iconst dx_X8_clear_1 ?_
  refine go_putI fp_X8_19 rfl rfl (go_ok rfl rfl) dx_X8_clear_2 ?_
  refine go_aload_n (i := 0) dx_X8_clear_5 rfl rfl ?_
  refine go_iconst dx_X8_clear_6 ?_
  refine go_putI fp_X8_41 rfl rfl (go_ok rfl rfl) dx_X8_clear_7 ?_
  refine go_aload_n (i := 0) dx_X8_clear_10 rfl rfl ?_
  refine go_iconst dx_X8_clear_11 ?_
  refine go_putI fp_X8_15 rfl rfl (go_ok rfl rfl) dx_X8_clear_12 ?_
  refine go_vreturn dx_X8_clear_15 rfl (Nat.le_refl _) (Nat.le_refl _) ?_
  refine hQ _ ⟨by simp, by simp [wr], fun k hk => by simp at hk, fun c hc => by simp at hc, by simp [wr], by simp [wr]⟩ (fr_trs (fr_trs (fr_wr (by decide)) (fr_wr (by decide))) (fr_wr (by decide)))
theorem g_Tape_fail {f : Int × Int} {k p : Int} (h : tp_at δ [] f) (hQ : ∀ δ', tp_at δ' [] (k, p) → fr [1] δ δ' → Q [vv_I 0] go_φ δ') : Go E d (0, 0) mx_X8_fail go_φ 0 [(0, vv_A 1), (1, vv_I k), (2, vv_I p)] [] δ Q := by
  refine go_aload_n (i := 0) dx_X8_fail_0 rfl rfl ?_
  refine go_iload_n (i := 1) dx_X8_fail_1 rfl rfl ?_
  refine go_putI fp_X8_41 rfl rfl (go_ok rfl rfl) dx_X8_fail_2 ?_
  refine go_aload_n (i := 0) dx_X8_fail_5 rfl rfl ?_
  refine go_iload_n (i := 2) dx_X8_fail_6 rfl rfl ?_
  refine go_putI fp_X8_15 rfl rfl (go_ok rfl rfl) dx_X8_fail_7 ?_
  refine go_iconst dx_X8_fail_10 ?_
  refine go_ireturn dx_X8_fail_11 rfl (Nat.le_refl _) (Nat.le_refl _) ?_
  refine hQ _ ⟨by simp, by simpa [wr] using h.2.1, fun k hk => by simp at hk, fun c hc => by simp at hc, by simp [wr], by simp [wr]⟩ (fr_trs (fr_wr (by decide)) (fr_wr (by decide)))
theorem g_Tape_takeRule {t : List Nat} {f : Int × Int} {n : Nat} (h : tp_at δ t f) (hn : n ≤ t.length)
    (hQ : ∀ δ' code, tp_at δ' [] (rl_fault (t.take n)) → fr [1] δ δ' → ((rl_fault (t.take n)).1 = 0 → code = (rl_enc (rl_of (t.take n)) : Int)) → Q [vv_I code] go_φ δ') :
    Go E (d + 1) (0, 0) mx_X8_takeRule go_φ 0 [(0, vv_A 1), (1, vv_I (n : Int))] [] δ Q := by
  have hl2 : go_ln 2 = 40 := rfl
  have ht := h.1
  have hbl : (t.take n).length = n := by rw [List.length_take]; omega
  have loop : ∀ (k i : Nat) (c : Int) (lx : List (Nat × go_V)) (δ1 : Nat → Nat → Int), n - i < k → i ≤ n → i ≤ 6 → tp_at δ1 [] (0, -1) → fr [1] δ δ1 → rl_flt 0 (t.take n) = rl_flt i ((t.take n).drop i) →
      (n = 0 → c = -1) → (1 ≤ n → ∃ m : Nat, c = (m : Int) ∧ m < 134217728 ∧ (n ≤ 6 → m = (n - 1) + 8 * dg 16 ((rl_of (t.take n)).take i))) →
      Go E (d + 1) (0, 0) mx_X8_takeRule go_φ 10 [(0, vv_A 1), (1, vv_I (n : Int)), (2, vv_I c), (3, vv_I (i : Int))] [] δ1 Q := by
    intro k
    induction k with
    | zero => intros; omega
    | succ k ih =>
      intro i c lx δ1 h1 h2 h3 h4 h5 h6 h7 h8
      have hbytes : ∀ j (hj : j < t.length), δ1 2 j = (t[j] : Int) := fun j hj => by rw [h5 2 (by decide) j]; exact h.2.2.1 j hj
      refine go_iload_n (i := 3) dx_X8_takeRule_10 rfl rfl ?_
      refine go_iload_n (i := 1) dx_X8_takeRule_11 rfl rfl ?_
      refine go_icmp_ge (tgt := 81) dx_X8_takeRule_12 rfl (by omega) (by omega) (fun c12 => ?_) (fun c12 => ?_)
      · have hin : i = n := by omega
        subst hin
        have hnone : rl_flt 0 (t.take i) = none := by rw [h6, List.drop_of_length_le (by omega)]; rfl
        have A : 2 ≤ i → Q [vv_I c] go_φ δ1 := fun h2i => hQ δ1 c (by rw [rl_fault_none hnone (by omega)]; exact h4) h5 (fun q => by
          obtain ⟨m, e1, e2, e3⟩ := h8 (by omega)
          obtain ⟨-, -, e6, e7⟩ := rl_fault_ok q
          have e4 : (rl_of (t.take i)).length = i := by unfold rl_of; rw [List.length_map, hbl]
          rw [e1, e3 h3, rl_enc, if_neg (by intro q; rw [q] at e4; simp at e4; omega), List.take_of_length_le (by omega), e4])
        have B : i < 2 → ∀ δ2, tp_at δ2 [] (2, (i : Int)) → fr [1] δ1 δ2 → Q [vv_I 0] go_φ δ2 := fun h2i δ2 h9 f9 => by
          have e : rl_fault (t.take i) = (2, (i : Int)) := by
            unfold rl_fault
            rw [hnone]
            show (if (t.take i).length < 2 then _ else _) = _
            rw [if_pos (by omega), hbl]
          exact hQ δ2 0 (by rw [e]; exact h9) (fr_trs h5 f9) (fun q => by rw [e] at q; cases q)
        refine go_iload_n (i := 1) dx_X8_takeRule_81 rfl rfl ?_
        refine go_iconst dx_X8_takeRule_82 ?_
        refine go_icmp_ge (tgt := 95) dx_X8_takeRule_83 rfl (by omega) (by omega) (fun c83 => ?_) (fun c83 => ?_)
        · refine go_iload_n (i := 2) dx_X8_takeRule_95 rfl rfl ?_
          refine go_ireturn dx_X8_takeRule_96 rfl (Nat.le_refl _) (Nat.le_refl _) ?_
          first | exact A (by omega) | exact B (by omega) δ2 h9 f9
        · refine go_aload_n (i := 0) dx_X8_takeRule_86 rfl rfl ?_
          refine go_iconst dx_X8_takeRule_87 ?_
          refine go_iload_n (i := 1) dx_X8_takeRule_88 rfl rfl ?_
          refine go_cV2 sv_X8_37 (go_ok rfl rfl) dx_X8_takeRule_89 (Nat.le_of_ble_eq_true rfl) (Nat.le_of_ble_eq_true rfl) (g_Tape_fail h4 (fun δ2 h9 f9 => ?_))
          refine go_goto (tgt := 96) dx_X8_takeRule_92 rfl ?_
          refine go_ireturn dx_X8_takeRule_96 rfl (Nat.le_refl _) (Nat.le_refl _) ?_
          first | exact A (by omega) | exact B (by omega) δ2 h9 f9
      · have hi : i < t.length := by omega
        have hdrop : (t.take n).drop i = t[i] :: (t.take n).drop (i + 1) := by
          rw [List.drop_eq_getElem_cons (by omega), List.getElem_take]
        have hc256 : t[i] < 256 := h.2.2.2.1 _ (List.getElem_mem hi)
        have hsy := sy_range t[i]
        refine go_aload_n (i := 0) dx_X8_takeRule_15 rfl rfl ?_
        refine go_getA (b := 2) fs_X8_9 rfl (go_ok rfl rfl) rfl dx_X8_takeRule_16 ?_
        refine go_iload_n (i := 3) dx_X8_takeRule_19 rfl rfl ?_
        refine go_cS2 ss_X8_29 dx_X8_takeRule_20 (Nat.le_of_ble_eq_true rfl) (Nat.le_of_ble_eq_true rfl) (g_intAt (go_ok rfl rfl) (by omega) (by rw [hl2]; omega) ?_)
        refine go_cS1 ss_X8_33 dx_X8_takeRule_23 (Nat.le_of_ble_eq_true rfl) (Nat.le_of_ble_eq_true rfl) (g_Tape_symbolOf (hbytes i hi) hc256 ?_)
        refine go_istore (lv' := [(0, vv_A 1), (1, vv_I (n : Int)), (2, vv_I c), (3, vv_I (i : Int)), (4, vv_I (sy t[i]))]) dx_X8_takeRule_26 (by decide) rfl ?_
        refine go_iload_n (i := 3) dx_X8_takeRule_28 rfl rfl ?_
        refine go_iconst dx_X8_takeRule_29 ?_
        refine go_icmp_le (tgt := 40) dx_X8_takeRule_30 rfl (by omega) (by omega) (fun c30 => ?_) (fun c30 => ?_)
        · refine go_iload dx_X8_takeRule_40 rfl ?_
          refine go_iconst dx_X8_takeRule_42 ?_
          refine go_icmp_eq (tgt := 57) dx_X8_takeRule_43 rfl (by omega) (by omega) (fun c43 => ?_) (fun c43 => ?_)
          · refine go_aload_n (i := 0) dx_X8_takeRule_57 rfl rfl ?_
            refine go_iconst dx_X8_takeRule_58 ?_
            refine go_iload_n (i := 3) dx_X8_takeRule_59 rfl rfl ?_
            refine go_cV2 sv_X8_37 (go_ok rfl rfl) dx_X8_takeRule_60 (Nat.le_of_ble_eq_true rfl) (Nat.le_of_ble_eq_true rfl) (g_Tape_fail h4 (fun δ2 h9 f9 => ?_))
            refine go_ireturn dx_X8_takeRule_63 rfl (Nat.le_refl _) (Nat.le_refl _) ?_
            have e : rl_fault (t.take n) = (1, (i : Int)) := by
              unfold rl_fault
              rw [h6, hdrop]
              unfold rl_flt
              rw [if_neg (by omega), if_pos (by omega)]
            exact hQ δ2 0 (by rw [e]; exact h9) (fr_trs h5 f9) (fun q => by rw [e] at q; cases q)
          · refine go_iload_n (i := 3) dx_X8_takeRule_46 rfl rfl ?_
            refine go_if_ne (tgt := 64) dx_X8_takeRule_47 rfl (by omega) (fun c47 => ?_) (fun c47 => ?_)
            · have hi5 : i ≤ 5 := by omega
              obtain ⟨m, e1, e2, e3⟩ := h8 (by omega)
              clear h8
              obtain ⟨sn, es⟩ : ∃ sn : Nat, sy t[i] = (sn : Int) := ⟨(sy t[i]).toNat, by omega⟩
              have hsn : sn < 14 := by omega
              have hpow : sn * 2 ^ (3 + 4 * i) < 134217728 := by
                have q1 : 2 ^ (3 + 4 * i) ≤ 2 ^ 23 := Nat.pow_le_pow_right (by decide) (by omega)
                have q2 : sn * 2 ^ (3 + 4 * i) ≤ 13 * 2 ^ 23 := Nat.mul_le_mul (by omega) q1
                have q3 : (13 : Nat) * 2 ^ 23 < 134217728 := by decide
                omega
              have ec : bv_or c (bv_shl (sy t[i]) (3 + 4 * (i : Int))) = ((m ||| sn * 2 ^ (3 + 4 * i) : Nat) : Int) := by
                rw [es, e1, show (3 : Int) + 4 * (i : Int) = ((3 + 4 * i : Nat) : Int) by omega, bv_shlN (by omega) (by omega), bv_orN (by omega) (by omega)]
              have hor : m ||| sn * 2 ^ (3 + 4 * i) < 134217728 := bt_or_lt (k := 27) e2 hpow
              have hflt : rl_flt 0 (t.take n) = rl_flt (i + 1) ((t.take n).drop (i + 1)) := by
                rw [h6, hdrop]
                show rl_flt i (t[i] :: _) = _
                rw [rl_flt, if_neg (by omega), if_neg (by omega)]
              refine go_iload_n (i := 2) dx_X8_takeRule_64 rfl rfl ?_
              refine go_iload dx_X8_takeRule_65 rfl ?_
              refine go_iconst dx_X8_takeRule_67 ?_
              refine go_iconst dx_X8_takeRule_68 ?_
              refine go_iload_n (i := 3) dx_X8_takeRule_69 rfl rfl ?_
              refine go_imul dx_X8_takeRule_70 ?_
              refine go_iadd dx_X8_takeRule_71 ?_
              refine go_ishl dx_X8_takeRule_72 ?_
              refine go_ior dx_X8_takeRule_73 ?_
              refine go_nmI (fun c2 ec2 => ?_)
              refine go_istore_n (i := 2) (lv' := [(0, vv_A 1), (1, vv_I (n : Int)), (2, vv_I c2), (3, vv_I (i : Int)), (4, vv_I (sy t[i]))]) dx_X8_takeRule_74 rfl (by decide) rfl ?_
              refine go_iinc (lv' := [(0, vv_A 1), (1, vv_I (n : Int)), (2, vv_I c2), (3, vv_I ((i : Int) + 1)), (4, vv_I (sy t[i]))]) dx_X8_takeRule_75 rfl (by decide) rfl ?_
              refine go_goto (tgt := 10) dx_X8_takeRule_78 rfl ?_
              refine go_keep [0, 1, 2, 3] rfl ?_
              rw [ec] at ec2
              refine ih (i + 1) c2 [] δ1 (by omega) (by omega) (by omega) h4 h5 hflt (fun q => by omega) (fun _ => ⟨_, ec2, hor, fun h6n => ?_⟩)
              have e5 : (rl_of (t.take n)).take (i + 1) = (rl_of (t.take n)).take i ++ [sn] := by
                rw [List.take_add_one, rl_of_get (show i < (t.take n).length by omega), List.getElem_take, es]
                rfl
              have e6 : ((rl_of (t.take n)).take i).length = i := by unfold rl_of; rw [List.length_take, List.length_map, hbl]; omega
              have e7 : dg 16 ((rl_of (t.take n)).take i) < 16 ^ i := by
                have := dg_lt (b := 16) (by decide) (l := (rl_of (t.take n)).take i) (fun x hx => by
                  obtain ⟨c0, -, rfl⟩ := List.mem_map.mp (List.mem_of_mem_take hx)
                  have := sy_range c0
                  omega)
                rw [e6] at this
                exact this
              have e8 : (2 : Nat) ^ (3 + 4 * i) = 8 * 16 ^ i := by rw [Nat.pow_add, Nat.pow_mul]
              have e9 : m < 2 ^ (3 + 4 * i) := by rw [e3 h6n, e8]; omega
              rw [bt_or_add e9, e5, dg_snoc, e6, e3 h6n, e8, Nat.mul_add, ← Nat.add_assoc]
              congr 1
              rw [← Nat.mul_assoc, ← Nat.mul_assoc, Nat.mul_comm sn 8]
            · refine go_iload dx_X8_takeRule_50 rfl ?_
              refine go_bipush dx_X8_takeRule_52 rfl ?_
              refine go_icmp_lt (tgt := 64) dx_X8_takeRule_54 rfl (by omega) (by omega) (fun c54 => ?_) (fun c54 => ?_)
              · have hi5 : i ≤ 5 := by omega
                obtain ⟨m, e1, e2, e3⟩ := h8 (by omega)
                clear h8
                obtain ⟨sn, es⟩ : ∃ sn : Nat, sy t[i] = (sn : Int) := ⟨(sy t[i]).toNat, by omega⟩
                have hsn : sn < 14 := by omega
                have hpow : sn * 2 ^ (3 + 4 * i) < 134217728 := by
                  have q1 : 2 ^ (3 + 4 * i) ≤ 2 ^ 23 := Nat.pow_le_pow_right (by decide) (by omega)
                  have q2 : sn * 2 ^ (3 + 4 * i) ≤ 13 * 2 ^ 23 := Nat.mul_le_mul (by omega) q1
                  have q3 : (13 : Nat) * 2 ^ 23 < 134217728 := by decide
                  omega
                have ec : bv_or c (bv_shl (sy t[i]) (3 + 4 * (i : Int))) = ((m ||| sn * 2 ^ (3 + 4 * i) : Nat) : Int) := by
                  rw [es, e1, show (3 : Int) + 4 * (i : Int) = ((3 + 4 * i : Nat) : Int) by omega, bv_shlN (by omega) (by omega), bv_orN (by omega) (by omega)]
                have hor : m ||| sn * 2 ^ (3 + 4 * i) < 134217728 := bt_or_lt (k := 27) e2 hpow
                have hflt : rl_flt 0 (t.take n) = rl_flt (i + 1) ((t.take n).drop (i + 1)) := by
                  rw [h6, hdrop]
                  show rl_flt i (t[i] :: _) = _
                  rw [rl_flt, if_neg (by omega), if_neg (by omega)]
                refine go_iload_n (i := 2) dx_X8_takeRule_64 rfl rfl ?_
                refine go_iload dx_X8_takeRule_65 rfl ?_
                refine go_iconst dx_X8_takeRule_67 ?_
                refine go_iconst dx_X8_takeRule_68 ?_
                refine go_iload_n (i := 3) dx_X8_takeRule_69 rfl rfl ?_
                refine go_imul dx_X8_takeRule_70 ?_
                refine go_iadd dx_X8_takeRule_71 ?_
                refine go_ishl dx_X8_takeRule_72 ?_
                refine go_ior dx_X8_takeRule_73 ?_
                refine go_nmI (fun c2 ec2 => ?_)
                refine go_istore_n (i := 2) (lv' := [(0, vv_A 1), (1, vv_I (n : Int)), (2, vv_I c2), (3, vv_I (i : Int)), (4, vv_I (sy t[i]))]) dx_X8_takeRule_74 rfl (by decide) rfl ?_
                refine go_iinc (lv' := [(0, vv_A 1), (1, vv_I (n : Int)), (2, vv_I c2), (3, vv_I ((i : Int) + 1)), (4, vv_I (sy t[i]))]) dx_X8_takeRule_75 rfl (by decide) rfl ?_
                refine go_goto (tgt := 10) dx_X8_takeRule_78 rfl ?_
                refine go_keep [0, 1, 2, 3] rfl ?_
                rw [ec] at ec2
                refine ih (i + 1) c2 [] δ1 (by omega) (by omega) (by omega) h4 h5 hflt (fun q => by omega) (fun _ => ⟨_, ec2, hor, fun h6n => ?_⟩)
                have e5 : (rl_of (t.take n)).take (i + 1) = (rl_of (t.take n)).take i ++ [sn] := by
                  rw [List.take_add_one, rl_of_get (show i < (t.take n).length by omega), List.getElem_take, es]
                  rfl
                have e6 : ((rl_of (t.take n)).take i).length = i := by unfold rl_of; rw [List.length_take, List.length_map, hbl]; omega
                have e7 : dg 16 ((rl_of (t.take n)).take i) < 16 ^ i := by
                  have := dg_lt (b := 16) (by decide) (l := (rl_of (t.take n)).take i) (fun x hx => by
                    obtain ⟨c0, -, rfl⟩ := List.mem_map.mp (List.mem_of_mem_take hx)
                    have := sy_range c0
                    omega)
                  rw [e6] at this
                  exact this
                have e8 : (2 : Nat) ^ (3 + 4 * i) = 8 * 16 ^ i := by rw [Nat.pow_add, Nat.pow_mul]
                have e9 : m < 2 ^ (3 + 4 * i) := by rw [e3 h6n, e8]; omega
                rw [bt_or_add e9, e5, dg_snoc, e6, e3 h6n, e8, Nat.mul_add, ← Nat.add_assoc]
                congr 1
                rw [← Nat.mul_assoc, ← Nat.mul_assoc, Nat.mul_comm sn 8]
              · refine go_aload_n (i := 0) dx_X8_takeRule_57 rfl rfl ?_
                refine go_iconst dx_X8_takeRule_58 ?_
                refine go_iload_n (i := 3) dx_X8_takeRule_59 rfl rfl ?_
                refine go_cV2 sv_X8_37 (go_ok rfl rfl) dx_X8_takeRule_60 (Nat.le_of_ble_eq_true rfl) (Nat.le_of_ble_eq_true rfl) (g_Tape_fail h4 (fun δ2 h9 f9 => ?_))
                refine go_ireturn dx_X8_takeRule_63 rfl (Nat.le_refl _) (Nat.le_refl _) ?_
                have e : rl_fault (t.take n) = (1, (i : Int)) := by
                  unfold rl_fault
                  rw [h6, hdrop]
                  unfold rl_flt
                  rw [if_neg (by omega), if_pos (by omega)]
                exact hQ δ2 0 (by rw [e]; exact h9) (fr_trs h5 f9) (fun q => by rw [e] at q; cases q)
        · refine go_aload_n (i := 0) dx_X8_takeRule_33 rfl rfl ?_
          refine go_iconst dx_X8_takeRule_34 ?_
          refine go_iload_n (i := 3) dx_X8_takeRule_35 rfl rfl ?_
          refine go_cV2 sv_X8_37 (go_ok rfl rfl) dx_X8_takeRule_36 (Nat.le_of_ble_eq_true rfl) (Nat.le_of_ble_eq_true rfl) (g_Tape_fail h4 (fun δ2 h9 f9 => ?_))
          refine go_ireturn dx_X8_takeRule_39 rfl (Nat.le_refl _) (Nat.le_refl _) ?_
          have e : rl_fault (t.take n) = (3, (i : Int)) := by
            unfold rl_fault
            rw [h6, hdrop]
            unfold rl_flt
            rw [if_pos (by omega)]
          exact hQ δ2 0 (by rw [e]; exact h9) (fr_trs h5 f9) (fun q => by rw [e] at q; cases q)
  refine go_aload_n (i := 0) dx_X8_takeRule_0 rfl rfl ?_
  refine go_cV0 sv_X8_26 (go_ok rfl rfl) dx_X8_takeRule_1 (Nat.le_of_ble_eq_true rfl) (Nat.le_of_ble_eq_true rfl) (g_Tape_clear h (fun δ1 h1 f1 => ?_))
  refine go_iload_n (i := 1) dx_X8_takeRule_4 rfl rfl ?_
  refine go_iconst dx_X8_takeRule_5 ?_
  refine go_isub dx_X8_takeRule_6 ?_
  refine go_nmI (fun c0 ec0 => ?_)
  refine go_istore_n (i := 2) (lv' := [(0, vv_A 1), (1, vv_I (n : Int)), (2, vv_I c0)]) dx_X8_takeRule_7 rfl (by decide) rfl ?_
  refine go_iconst dx_X8_takeRule_8 ?_
  refine go_istore_n (i := 3) (lv' := [(0, vv_A 1), (1, vv_I (n : Int)), (2, vv_I c0), (3, vv_I 0)]) dx_X8_takeRule_9 rfl (by decide) rfl ?_
  refine loop (n + 1) 0 c0 [] δ1 (by omega) (by omega) (by omega) h1 f1 rfl (fun q => by omega) (fun q => ⟨n - 1, by omega, by omega, fun _ => rfl⟩)
theorem g_Tape_takeWord {t : List Nat} {f : Int × Int} {n : Nat} (h : tp_at δ t f) (hn : n ≤ t.length)
    (hQ : ∀ δ' code, tp_at δ' [] (wd_fault (t.take n)) → fr [1] δ δ' → ((wd_fault (t.take n)).1 = 0 → code = (dg 8 ((rl_of (t.take n)).map (fun x => x - 8)) : Int)) → Q [vv_L code] go_φ δ') :
    Go E (d + 1) (0, 0) mx_X8_takeWord go_φ 0 [(0, vv_A 1), (1, vv_I (n : Int))] [] δ Q := by
  have hl2 : go_ln 2 = 40 := rfl
  have ht := h.1
  have hbl : (t.take n).length = n := by rw [List.length_take]; omega
  have loop : ∀ (k i m : Nat) (δ1 : Nat → Nat → Int), n - i < k → i ≤ n → i ≤ 14 → tp_at δ1 [] (0, -1) → fr [1] δ δ1 → wd_flt 0 (t.take n) = wd_flt i ((t.take n).drop i) →
      m = dg 8 (((rl_of (t.take n)).map (fun x => x - 8)).take i) →
      Go E (d + 1) (0, 0) mx_X8_takeWord go_φ 9 [(0, vv_A 1), (1, vv_I (n : Int)), (2, vv_L (m : Int)), (4, vv_I (i : Int))] [] δ1 Q := by
    intro k
    induction k with
    | zero => intros; omega
    | succ k ih =>
      intro i m δ1 h1 h2 h3 h4 h5 h6 h7
      have hbytes : ∀ j (hj : j < t.length), δ1 2 j = (t[j] : Int) := fun j hj => by rw [h5 2 (by decide) j]; exact h.2.2.1 j hj
      refine go_iload dx_X8_takeWord_9 rfl ?_
      refine go_iload_n (i := 1) dx_X8_takeWord_11 rfl rfl ?_
      refine go_icmp_ge (tgt := 81) dx_X8_takeWord_12 rfl (by omega) (by omega) (fun c12 => ?_) (fun c12 => ?_)
      · have hin : i = n := by omega
        subst hin
        have hnone : wd_flt 0 (t.take i) = none := by rw [h6, List.drop_of_length_le (by omega)]; rfl
        have e : wd_fault (t.take i) = (0, -1) := by unfold wd_fault; rw [hnone]; rfl
        refine go_lload_n (i := 2) dx_X8_takeWord_81 rfl rfl ?_
        refine go_lreturn dx_X8_takeWord_82 rfl (Nat.le_refl _) (Nat.le_refl _) ?_
        exact hQ δ1 _ (by rw [e]; exact h4) h5 (fun _ => by rw [h7, List.take_of_length_le (by unfold rl_of; rw [List.length_map, List.length_map]; omega)])
      · have hi : i < t.length := by omega
        have hdrop : (t.take n).drop i = t[i] :: (t.take n).drop (i + 1) := by
          rw [List.drop_eq_getElem_cons (by omega), List.getElem_take]
        have hc256 : t[i] < 256 := h.2.2.2.1 _ (List.getElem_mem hi)
        have hsy := sy_range t[i]
        refine go_aload_n (i := 0) dx_X8_takeWord_15 rfl rfl ?_
        refine go_getA (b := 2) fs_X8_9 rfl (go_ok rfl rfl) rfl dx_X8_takeWord_16 ?_
        refine go_iload dx_X8_takeWord_19 rfl ?_
        refine go_cS2 ss_X8_29 dx_X8_takeWord_21 (Nat.le_of_ble_eq_true rfl) (Nat.le_of_ble_eq_true rfl) (g_intAt (go_ok rfl rfl) (by omega) (by rw [hl2]; omega) ?_)
        refine go_cS1 ss_X8_33 dx_X8_takeWord_24 (Nat.le_of_ble_eq_true rfl) (Nat.le_of_ble_eq_true rfl) (g_Tape_symbolOf (hbytes i hi) hc256 ?_)
        refine go_istore (lv' := [(0, vv_A 1), (1, vv_I (n : Int)), (2, vv_L (m : Int)), (4, vv_I (i : Int)), (5, vv_I (sy t[i]))]) dx_X8_takeWord_27 (by decide) rfl ?_
        refine go_iload dx_X8_takeWord_29 rfl ?_
        refine go_bipush dx_X8_takeWord_31 rfl ?_
        refine go_icmp_lt (tgt := 45) dx_X8_takeWord_33 rfl (by omega) (by omega) (fun c33 => ?_) (fun c33 => ?_)
        · refine go_iload dx_X8_takeWord_45 rfl ?_
          refine go_bipush dx_X8_takeWord_47 rfl ?_
          refine go_icmp_ge (tgt := 61) dx_X8_takeWord_49 rfl (by omega) (by omega) (fun c49 => ?_) (fun c49 => ?_)
          · have hi14 : i < 14 := by omega
            obtain ⟨sn, es⟩ : ∃ sn : Nat, sy t[i] - 8 = (sn : Int) := ⟨(sy t[i] - 8).toNat, by omega⟩
            have hsn : sn < 8 := by omega
            have e6 : (((rl_of (t.take n)).map (fun x => x - 8)).take i).length = i := by unfold rl_of; rw [List.length_take, List.length_map, List.length_map, hbl]; omega
            have e7 : m < 8 ^ i := by
              rw [h7]
              have := dg_lt (b := 8) (by decide) (l := ((rl_of (t.take n)).map (fun x => x - 8)).take i) (fun x hx => by
                obtain ⟨c0, hc0, rfl⟩ := List.mem_map.mp (List.mem_of_mem_take hx)
                unfold rl_of at hc0
                obtain ⟨c1, -, rfl⟩ := List.mem_map.mp hc0
                have := sy_range c1
                show (sy c1).toNat - 8 < 8
                omega)
              rw [e6] at this
              exact this
            have e8 : (2 : Nat) ^ (3 * i) = 8 ^ i := by rw [Nat.pow_mul]
            have q1 : 2 ^ (3 * i) ≤ 2 ^ 39 := Nat.pow_le_pow_right (by decide) (by omega)
            have q2 : sn * 2 ^ (3 * i) ≤ 7 * 2 ^ 39 := Nat.mul_le_mul (by omega) q1
            have q3 : (7 : Nat) * 2 ^ 39 < 9223372036854775807 := by decide
            have q4 : (2 : Nat) ^ 39 < 9223372036854775807 := by decide
            have ec : bw_or (m : Int) (bw_shl (sy t[i] - 8) (3 * (i : Int))) = ((m + sn * 2 ^ (3 * i) : Nat) : Int) := by
              rw [es, show (3 : Int) * (i : Int) = ((3 * i : Nat) : Int) by omega, bw_shlN (by omega) (by omega), bw_orN (by omega) (by omega), bt_or_add (by omega)]
            have hflt : wd_flt 0 (t.take n) = wd_flt (i + 1) ((t.take n).drop (i + 1)) := by
              rw [h6, hdrop]
              show wd_flt i (t[i] :: _) = _
              rw [wd_flt, if_neg (by omega), if_neg (by omega)]
            refine go_lload_n (i := 2) dx_X8_takeWord_61 rfl rfl ?_
            refine go_iload dx_X8_takeWord_62 rfl ?_
            refine go_bipush dx_X8_takeWord_64 rfl ?_
            refine go_isub dx_X8_takeWord_66 ?_
            refine go_i2l dx_X8_takeWord_67 (by omega) ?_
            refine go_iconst dx_X8_takeWord_68 ?_
            refine go_iload dx_X8_takeWord_69 rfl ?_
            refine go_imul dx_X8_takeWord_71 ?_
            refine go_lshl dx_X8_takeWord_72 ?_
            refine go_lor dx_X8_takeWord_73 ?_
            refine go_nmL (fun c2 ec2 => ?_)
            refine go_lstore_n (i := 2) (lv' := [(0, vv_A 1), (1, vv_I (n : Int)), (2, vv_L c2), (4, vv_I (i : Int)), (5, vv_I (sy t[i]))]) dx_X8_takeWord_74 rfl (by decide) rfl ?_
            refine go_iinc (lv' := [(0, vv_A 1), (1, vv_I (n : Int)), (2, vv_L c2), (4, vv_I ((i : Int) + 1)), (5, vv_I (sy t[i]))]) dx_X8_takeWord_75 rfl (by decide) rfl ?_
            refine go_goto (tgt := 9) dx_X8_takeWord_78 rfl ?_
            refine go_keep [0, 1, 2, 3] rfl ?_
            rw [ec] at ec2
            subst ec2
            refine ih (i + 1) _ δ1 (by omega) (by omega) (by omega) h4 h5 hflt ?_
            have e5 : ((rl_of (t.take n)).map (fun x => x - 8)).take (i + 1) = ((rl_of (t.take n)).map (fun x => x - 8)).take i ++ [sn] := by
              rw [List.take_add_one, List.getElem?_map, rl_of_get (show i < (t.take n).length by omega), List.getElem_take]
              congr 1
              show [(sy t[i]).toNat - 8] = [sn]
              congr 1
              omega
            rw [e5, dg_snoc, e6, ← h7, e8]
          · refine go_aload_n (i := 0) dx_X8_takeWord_52 rfl rfl ?_
            refine go_iconst dx_X8_takeWord_53 ?_
            refine go_iload dx_X8_takeWord_54 rfl ?_
            refine go_cV2 sv_X8_37 (go_ok rfl rfl) dx_X8_takeWord_56 (Nat.le_of_ble_eq_true rfl) (Nat.le_of_ble_eq_true rfl) (g_Tape_fail h4 (fun δ2 h9 f9 => ?_))
            refine go_i2l dx_X8_takeWord_59 (by omega) ?_
            refine go_lreturn dx_X8_takeWord_60 rfl (Nat.le_refl _) (Nat.le_refl _) ?_
            have e : wd_fault (t.take n) = (1, (i : Int)) := by
              unfold wd_fault
              rw [h6, hdrop]
              unfold wd_flt
              rw [if_neg (by omega), if_pos (by omega)]
              rfl
            exact hQ δ2 0 (by rw [e]; exact h9) (fr_trs h5 f9) (fun q => by rw [e] at q; cases q)
        · refine go_aload_n (i := 0) dx_X8_takeWord_36 rfl rfl ?_
          refine go_iconst dx_X8_takeWord_37 ?_
          refine go_iload dx_X8_takeWord_38 rfl ?_
          refine go_cV2 sv_X8_37 (go_ok rfl rfl) dx_X8_takeWord_40 (Nat.le_of_ble_eq_true rfl) (Nat.le_of_ble_eq_true rfl) (g_Tape_fail h4 (fun δ2 h9 f9 => ?_))
          refine go_i2l dx_X8_takeWord_43 (by omega) ?_
          refine go_lreturn dx_X8_takeWord_44 rfl (Nat.le_refl _) (Nat.le_refl _) ?_
          have e : wd_fault (t.take n) = (3, (i : Int)) := by
            unfold wd_fault
            rw [h6, hdrop]
            unfold wd_flt
            rw [if_pos (by omega)]
            rfl
          exact hQ δ2 0 (by rw [e]; exact h9) (fr_trs h5 f9) (fun q => by rw [e] at q; cases q)
  refine go_aload_n (i := 0) dx_X8_takeWord_0 rfl rfl ?_
  refine go_cV0 sv_X8_26 (go_ok rfl rfl) dx_X8_takeWord_1 (Nat.le_of_ble_eq_true rfl) (Nat.le_of_ble_eq_true rfl) (g_Tape_clear h (fun δ1 h1 f1 => ?_))
  refine go_lconst (x := 0) dx_X8_takeWord_4 rfl ?_
  refine go_lstore_n (i := 2) (lv' := [(0, vv_A 1), (1, vv_I (n : Int)), (2, vv_L 0)]) dx_X8_takeWord_5 rfl (by decide) rfl ?_
  refine go_iconst dx_X8_takeWord_6 ?_
  refine go_istore (lv' := [(0, vv_A 1), (1, vv_I (n : Int)), (2, vv_L 0), (4, vv_I 0)]) dx_X8_takeWord_7 (by decide) rfl ?_
  refine loop (n + 1) 0 0 δ1 (by omega) (by omega) (by omega) h1 f1 rfl rfl
end GTAPE
