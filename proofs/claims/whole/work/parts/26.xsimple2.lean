/-! the class's calls that need no tables, second half -/
theorem rl_free_none {R : Nat → List Nat} (h : ∀ r, r < 16 → R r ≠ []) : rl_free R = none := by
  unfold rl_free
  rw [List.find?_eq_none]
  intro r hr
  have := h r (List.mem_range.mp hr)
  simpa using this
theorem rl_free_some {R : Nat → List Nat} {r : Nat} (hr : r < 16) (h : R r = []) (h2 : ∀ s, s < r → R s ≠ []) : rl_free R = some r := by
  unfold rl_free
  rw [List.find?_eq_some_iff_append]
  refine ⟨by simpa using h, List.range r, (List.range (16 - r - 1)).map (fun k => r + 1 + k), ?_, fun s hs => ?_⟩
  · apply List.ext_getElem
    · simp; omega
    · intro i h1 h2
      simp at h1
      rw [List.getElem_range]
      by_cases hi : i < r
      · rw [List.getElem_append_left (by simpa using hi)]; simp
      · rw [List.getElem_append_right (by simpa using hi)]
        rcases Nat.eq_or_lt_of_le (Nat.le_of_not_lt hi) with q | q
        · subst q; simp
        · have e : i - (List.range r).length = (i - r - 1) + 1 := by simp; omega
          simp only [e, List.getElem_cons_succ, List.getElem_map, List.getElem_range]
          omega
  · have := h2 s (List.mem_range.mp hs)
    simpa using this
theorem rl_free_ok {R : Nat → List Nat} {r : Nat} (h : rl_free R = some r) : r < 16 ∧ R r = [] := by
  unfold rl_free at h
  have h1 := List.find?_some h
  have h2 := List.mem_of_find?_eq_some h
  exact ⟨List.mem_range.mp h2, by simpa using h1⟩
theorem rl_alike_t {R : Nat → List Nat} {l : List Nat} {r : Nat} (hr : r < 16) (h : R r = l) : rl_alike R l = true := by
  unfold rl_alike
  rw [List.any_eq_true]
  exact ⟨r, List.mem_range.mpr hr, by simpa using h⟩
theorem rl_alike_f {R : Nat → List Nat} {l : List Nat} (h : ∀ r, r < 16 → R r ≠ l) : rl_alike R l = false := by
  unfold rl_alike
  rw [List.any_eq_false]
  intro r hr
  have := h r (List.mem_range.mp hr)
  simpa using this
section GXS2
variable {E : go_E} {d : Nat} {δ : Nat → Nat → Int} {Q : List go_V → go_F → (Nat → Nat → Int) → Prop} {K : sK} {S : sS}
theorem g_sizeOf {l : List Nat} (hl : rl_ok l) (hQ : Q [vv_I ((l.length - 1 : Nat) : Int)] go_φ δ) : Go E d (0, 0) mx_X11_sizeOf go_φ 0 [(0, vv_I (rl_enc l : Int))] [] δ Q := by
  have h1 := rl_enc_lt hl
  refine go_iload_n (i := 0) dx_X11_sizeOf_0 rfl rfl ?_
  refine go_bipush dx_X11_sizeOf_1 rfl ?_
  refine go_iand dx_X11_sizeOf_3 ?_
  refine go_ireturn dx_X11_sizeOf_4 rfl (Nat.le_refl _) (Nat.le_refl _) ?_
  rw [show (7 : Int) = ((7 : Nat) : Int) from rfl, bv_andN (by omega) (by decide), show rl_enc l &&& 7 = rl_enc l % 8 from Nat.and_two_pow_sub_one_eq_mod _ 3, rl_size hl]
  exact hQ
theorem g_digit {l : List Nat} (hl : rl_ok l) (k : Nat) (hk : k ≤ 6) : bv_and (bv_ushr (rl_enc l : Int) ((3 + 4 * k : Nat) : Int)) 15 = ((l.getD k 0 : Nat) : Int) := by
  have h1 := rl_enc_lt hl
  have h2 : rl_enc l / 2 ^ (3 + 4 * k) ≤ rl_enc l := Nat.div_le_self _ _
  rw [bv_ushrN (by omega) (by omega), show (15 : Int) = ((15 : Nat) : Int) from rfl, bv_andN (by omega) (by decide), show ∀ n : Nat, n &&& 15 = n % 16 from fun n => Nat.and_two_pow_sub_one_eq_mod n 4, rl_digit hl]
theorem g_headOf {l : List Nat} (hl : rl_ok l) (hQ : Q [vv_I ((l.getD 0 0 : Nat) : Int)] go_φ δ) : Go E d (0, 0) mx_X11_headOf go_φ 0 [(0, vv_I (rl_enc l : Int))] [] δ Q := by
  refine go_iload_n (i := 0) dx_X11_headOf_0 rfl rfl ?_
  refine go_iconst dx_X11_headOf_1 ?_
  refine go_iushr dx_X11_headOf_2 ?_
  refine go_bipush dx_X11_headOf_3 rfl ?_
  refine go_iand dx_X11_headOf_5 ?_
  refine go_ireturn dx_X11_headOf_6 rfl (Nat.le_refl _) (Nat.le_refl _) ?_
  have e := g_digit hl 0 (by omega)
  rw [show (3 : Int) = ((3 + 4 * 0 : Nat) : Int) from rfl, e]
  exact hQ
theorem g_partOf {l : List Nat} {i : Nat} (hl : rl_ok l) (hi : i < 6) (hQ : Q [vv_I ((l.getD (i + 1) 0 : Nat) : Int)] go_φ δ) : Go E d (0, 0) mx_X11_partOf go_φ 0 [(0, vv_I (rl_enc l : Int)), (1, vv_I (i : Int))] [] δ Q := by
  refine go_iload_n (i := 0) dx_X11_partOf_0 rfl rfl ?_
  refine go_bipush dx_X11_partOf_1 rfl ?_
  refine go_iconst dx_X11_partOf_3 ?_
  refine go_iload_n (i := 1) dx_X11_partOf_4 rfl rfl ?_
  refine go_imul dx_X11_partOf_5 ?_
  refine go_iadd dx_X11_partOf_6 ?_
  refine go_iushr dx_X11_partOf_7 ?_
  refine go_bipush dx_X11_partOf_8 rfl ?_
  refine go_iand dx_X11_partOf_10 ?_
  refine go_ireturn dx_X11_partOf_11 rfl (Nat.le_refl _) (Nat.le_refl _) ?_
  have e := g_digit hl (i + 1) (by omega)
  rw [show (7 : Int) + 4 * (i : Int) = ((3 + 4 * (i + 1) : Nat) : Int) by omega, e]
  exact hQ
theorem xs_keep {δ δ' : Nat → Nat → Int} {K' : sK} (h : xs_at δ S) (h1 : td_at δ' 3 K') (h2 : pa_at δ' ((S.1 :: S.2.2.2.1).take 10)) (f : fr ([3, 4, 0] ++ pa_S) δ δ') : xs_at δ' (op_keep S K') := by
  obtain ⟨g1, ⟨t1, t2, t3, t4, t5, t6⟩, g3, g4, g5⟩ := h
  refine ⟨h1, ⟨t1, ?_, fun k hk => ?_, t4, ?_, ?_⟩, h2, im_fr g4 f (by decide), ty_fr g5 f (by decide) (by decide)⟩
  · rw [f 1 (by decide)]; exact t2
  · rw [f 2 (by decide)]; exact t3 k hk
  · rw [f 1 (by decide)]; exact t5
  · rw [f 1 (by decide)]; exact t6
theorem fx_fr0 {δ δ1 : Nat → Nat → Int} {T : List Nat} (f : fr (0 :: T) δ δ1) (h : T.all (fun b => (Nat.blt 0 b && Nat.blt b 33) || Nat.beq b 92 || Nat.beq b 93) = true) (h17 : δ1 0 17 = δ 0 17) : fx δ δ1 := by
  refine ⟨fun b a1 a2 a3 j => f b (fun q => ?_) j, h17⟩
  rcases List.mem_cons.mp q with q | q
  · omega
  · have := List.all_eq_true.mp h b q
    simp only [Bool.or_eq_true, Bool.and_eq_true, Nat.beq_eq] at this
    rcases this with (⟨h1, h2⟩ | h1) | h1
    · have := Nat.le_of_ble_eq_true h2; omega
    · omega
    · omega
theorem g_rule {n : Int} (hn : go_iI n) (h : xs_at δ S)
    (hQ : ∀ δ', xs_at δ' (op_rule S n).2 → fx δ δ' → (δ' 0 16 = δ 0 16 ∧ (op_rule S n).2.1 = S.1 ∨ δ' 0 16 = δ 0 16 + 1) → Q [vv_I (op_rule S n).1] go_φ δ') :
    Go E (d + 5) (0, 0) mx_X11_rule go_φ 0 [(0, vv_A 0), (1, vv_I n)] [] δ Q := by
  have hxs := h
  obtain ⟨g1, g2, g3, g4, g5⟩ := h
  have hh := g2.2.1
  have h40 := g2.1
  have q1 := g1.2.2.2.2
  unfold op_rule at hQ
  refine go_iload_n (i := 1) dx_X11_rule_0 rfl rfl ?_
  refine go_if_lt (tgt := 15) dx_X11_rule_1 rfl (by omega) (fun c1 => ?_) (fun c1 => ?_)
  · refine go_bipush dx_X11_rule_15 rfl ?_
    refine go_ireturn dx_X11_rule_17 rfl (Nat.le_refl _) (Nat.le_refl _) ?_
    rw [if_pos (by omega)] at hQ
    exact hQ δ hxs fx_rf (Or.inl ⟨rfl, rfl⟩)
  · refine go_iload_n (i := 1) dx_X11_rule_4 rfl rfl ?_
    refine go_aload_n (i := 0) dx_X11_rule_5 rfl rfl ?_
    refine go_getA (b := 1) fs_X11_12 rfl (go_ok rfl rfl) rfl dx_X11_rule_6 ?_
    refine go_getI fs_X11_116 (Or.inl rfl) (go_ok rfl rfl) dx_X11_rule_9 ?_
    refine go_icmp_le (tgt := 18) dx_X11_rule_12 rfl (by omega) (by omega) (fun c12 => ?_) (fun c12 => ?_)
    · refine go_aload_n (i := 0) dx_X11_rule_18 rfl rfl ?_
      refine go_getA (b := 3) fs_X11_19 rfl (go_ok rfl rfl) rfl dx_X11_rule_19 ?_
      refine go_cV0 sv_X11_123 (go_ok rfl rfl) dx_X11_rule_22 (Nat.le_of_ble_eq_true rfl) (Nat.le_of_ble_eq_true rfl) (g_Told_lowestFree td_ok3 g1 (fun r a1 a2 a3 => ?_) (fun a1 => ?_))
      · refine go_iconst dx_X11_rule_25 ?_
        refine go_icmp_ne (tgt := 32) dx_X11_rule_26 rfl (by omega) (by omega) (fun c26 => ?_) (fun c26 => ?_)
        · rw [if_neg (by omega), rl_free_some a1 a2 a3] at hQ
          dsimp only at hQ
          obtain ⟨m, rfl⟩ : ∃ m : Nat, n = (m : Int) := ⟨n.toNat, by omega⟩
          rw [Int.toNat_natCast] at hQ
          refine go_aload_n (i := 0) dx_X11_rule_32 rfl rfl ?_
          refine go_getA (b := 1) fs_X11_12 rfl (go_ok rfl rfl) rfl dx_X11_rule_33 ?_
          refine go_iload_n (i := 1) dx_X11_rule_36 rfl rfl ?_
          refine go_cV1 sv_X11_127 (go_ok rfl rfl) dx_X11_rule_37 (Nat.le_of_ble_eq_true rfl) (Nat.le_of_ble_eq_true rfl) (g_Tape_takeRule g2 (by omega) (fun δ1 code h1 f1 hc => ?_))
          refine go_istore_n (i := 2) (lv' := [(0, vv_A 0), (1, vv_I (m : Int)), (2, vv_I code)]) dx_X11_rule_40 rfl (by decide) rfl ?_
          have e2 := h1.2.2.2.2.1
          have hf : (rl_fault (S.2.1.take m)).1 = 0 ∨ (rl_fault (S.2.1.take m)).1 = 1 ∨ (rl_fault (S.2.1.take m)).1 = 2 ∨ (rl_fault (S.2.1.take m)).1 = 3 := by
            unfold rl_fault
            split
            next f hf => rcases rl_flt_some hf with q | q <;> omega
            next => split <;> simp
          have hx1 : xs_at δ1 (op_tape S [] (rl_fault (S.2.1.take m))) := ⟨td_fr g1 f1 (by decide) (by decide), h1, pa_fr g3 f1 (by decide), im_fr g4 f1 (by decide), ty_fr g5 f1 (by decide) (by decide)⟩
          have hstop : (rl_fault (S.2.1.take m)).1 ≠ 0 → Q [vv_I (-30 - (rl_fault (S.2.1.take m)).1)] go_φ δ1 := fun hne => by
            rw [if_pos hne] at hQ
            exact hQ δ1 hx1 (fx_fr f1 rfl) (Or.inl ⟨f1 0 (by decide) 16, rfl⟩)
          refine go_aload_n (i := 0) dx_X11_rule_41 rfl rfl ?_
          refine go_getA (b := 1) fs_X11_12 rfl (go_ok rfl rfl) rfl dx_X11_rule_42 ?_
          refine go_getI fs_X11_131 (Or.inl rfl) (go_ok rfl rfl) dx_X11_rule_45 ?_
          refine go_if_eq (tgt := 62) dx_X11_rule_48 rfl (by omega) (fun c48 => ?_) (fun c48 => ?_)
          · have hz : (rl_fault (S.2.1.take m)).1 = 0 := by omega
            rw [if_neg (by omega)] at hQ
            have hcode := hc hz
            subst hcode
            have hok := (rl_fault_ok hz).2.2.2
            have hne : rl_of (S.2.1.take m) ≠ [] := by
              intro q
              have := (rl_fault_ok hz).2.1
              have e := congrArg List.length q
              unfold rl_of at e
              rw [List.length_map, List.length_nil] at e
              omega
            refine go_aload_n (i := 0) dx_X11_rule_62 rfl rfl ?_
            refine go_getA (b := 3) fs_X11_19 rfl (go_ok rfl rfl) rfl dx_X11_rule_63 ?_
            refine go_iload_n (i := 2) dx_X11_rule_66 rfl rfl ?_
            refine go_cV1 sv_X11_134 (go_ok rfl rfl) dx_X11_rule_67 (Nat.le_of_ble_eq_true rfl) (Nat.le_of_ble_eq_true rfl) (g_Told_hasAlike td_ok3 hx1.1 hok (fun s b1 b2 => ?_) (fun b1 => ?_))
            · refine go_if_eq (tgt := 76) dx_X11_rule_70 rfl (by omega) (fun c70 => absurd c70 (by decide)) (fun c70 => ?_)
              refine go_bipush dx_X11_rule_73 rfl ?_
              refine go_ireturn dx_X11_rule_75 rfl (Nat.le_refl _) (Nat.le_refl _) ?_
              rw [if_pos (rl_alike_t (R := S.1.1) b1 b2)] at hQ
              exact hQ δ1 hx1 (fx_fr f1 rfl) (Or.inl ⟨f1 0 (by decide) 16, rfl⟩)
            · refine go_if_eq (tgt := 76) dx_X11_rule_70 rfl (by omega) (fun c70 => ?_) (fun c70 => absurd c70 (by decide))
              refine go_aload_n (i := 0) dx_X11_rule_76 rfl rfl ?_
              refine go_cV0 sv_X11_138 (go_ok rfl rfl) dx_X11_rule_77 (Nat.le_of_ble_eq_true rfl) (Nat.le_of_ble_eq_true rfl) (g_changing hx1.2.2.1 hx1.1 (fun δ2 h2 f2 s2 s3 => ?_))
              refine go_aload_n (i := 0) dx_X11_rule_80 rfl rfl ?_
              refine go_getA (b := 3) fs_X11_19 rfl (go_ok rfl rfl) rfl dx_X11_rule_81 ?_
              refine go_cV0 sv_X11_123 (go_ok rfl rfl) dx_X11_rule_84 (Nat.le_of_ble_eq_true rfl) (Nat.le_of_ble_eq_true rfl) (g_Told_lowestFree td_ok3 (td_fr hx1.1 f2 (by decide) (by decide)) (fun r2 d1 d2 d3 => ?_) (fun d1 => absurd a2 (d1 r a1)))
              refine go_istore_n (i := 3) (lv' := [(0, vv_A 0), (1, vv_I (m : Int)), (2, vv_I (rl_enc (rl_of (S.2.1.take m)) : Int)), (3, vv_I (r2 : Int))]) dx_X11_rule_87 rfl (by decide) rfl ?_
              have hr2 : r2 = r := by
                have z1 := rl_free_some a1 a2 a3
                have z2 := rl_free_some d1 d2 d3
                have z3 : rl_free S.1.1 = some r2 := z2
                rw [z1] at z3
                exact (Option.some.inj z3).symm
              subst hr2
              have hdist : ∀ s, s ≠ r2 → S.1.1 s ≠ rl_of (S.2.1.take m) := fun s hs => by
                by_cases hs16 : s < 16
                · exact b1 s hs16
                · rw [q1.2.1 s (by omega)]; exact fun q => hne q.symm
              refine go_aload_n (i := 0) dx_X11_rule_88 rfl rfl ?_
              refine go_getA (b := 3) fs_X11_19 rfl (go_ok rfl rfl) rfl dx_X11_rule_89 ?_
              refine go_iload_n (i := 3) dx_X11_rule_92 rfl rfl ?_
              refine go_iload_n (i := 2) dx_X11_rule_93 rfl rfl ?_
              refine go_cV2 sv_X11_141 (go_ok rfl rfl) dx_X11_rule_94 (Nat.le_of_ble_eq_true rfl) (Nat.le_of_ble_eq_true rfl) (g_Told_setRule td_ok3 (td_fr hx1.1 f2 (by decide) (by decide)) a1 hok (Or.inr hdist) (fun δ3 h3 f3 => ?_))
              refine go_iload_n (i := 3) dx_X11_rule_97 rfl rfl ?_
              refine go_ireturn dx_X11_rule_98 rfl (Nat.le_refl _) (Nat.le_refl _) ?_
              rw [if_neg (by rw [rl_alike_f (R := S.1.1) b1]; decide)] at hQ
              have F : fr ([3, 4, 0] ++ pa_S) δ1 δ3 := fr_trs (fr_up f2 (by decide)) (fr_up f3 (by decide))
              refine hQ δ3 (xs_keep hx1 h3 (pa_fr h2 f3 (by decide)) F) (fx_tr (fx_fr f1 rfl) (fx_fr0 (fr_up F (T := 0 :: ([3, 4] ++ pa_S)) (by decide)) rfl (by rw [f3 0 (by decide), s3]))) (Or.inr ?_)
              rw [f3 0 (by decide), s2, f1 0 (by decide)]
          · refine go_bipush dx_X11_rule_51 rfl ?_
            refine go_aload_n (i := 0) dx_X11_rule_53 rfl rfl ?_
            refine go_getA (b := 1) fs_X11_12 rfl (go_ok rfl rfl) rfl dx_X11_rule_54 ?_
            refine go_getI fs_X11_131 (Or.inl rfl) (go_ok rfl rfl) dx_X11_rule_57 ?_
            refine go_isub dx_X11_rule_60 ?_
            refine go_ireturn dx_X11_rule_61 rfl (Nat.le_refl _) (Nat.le_refl _) ?_
            rw [e2]
            exact hstop (by omega)
        · refine go_bipush dx_X11_rule_29 rfl ?_
          refine go_ireturn dx_X11_rule_31 rfl (Nat.le_refl _) (Nat.le_refl _) ?_
          first | (rw [if_neg (by omega), rl_free_none a1] at hQ; exact hQ δ hxs fx_rf (Or.inl ⟨rfl, rfl⟩)) | (exact absurd c26 (by omega))
      · refine go_iconst dx_X11_rule_25 ?_
        refine go_icmp_ne (tgt := 32) dx_X11_rule_26 rfl (by omega) (by omega) (fun c26 => absurd c26 (by decide)) (fun c26 => ?_)
        refine go_bipush dx_X11_rule_29 rfl ?_
        refine go_ireturn dx_X11_rule_31 rfl (Nat.le_refl _) (Nat.le_refl _) ?_
        first | (rw [if_neg (by omega), rl_free_none a1] at hQ; exact hQ δ hxs fx_rf (Or.inl ⟨rfl, rfl⟩)) | (exact absurd c26 (by omega))
    · refine go_bipush dx_X11_rule_15 rfl ?_
      refine go_ireturn dx_X11_rule_17 rfl (Nat.le_refl _) (Nat.le_refl _) ?_
      rw [if_pos (by omega)] at hQ
      exact hQ δ hxs fx_rf (Or.inl ⟨rfl, rfl⟩)
theorem g_word {n : Int} (hn : go_iI n) (h : xs_at δ S)
    (hQ : ∀ δ', xs_at δ' (op_word S n).2 → fx δ δ' → (δ' 0 16 = δ 0 16 ∧ (op_word S n).2.1 = S.1 ∨ δ' 0 16 = δ 0 16 + 1) → Q [vv_I (op_word S n).1] go_φ δ') :
    Go E (d + 5) (0, 0) mx_X11_word go_φ 0 [(0, vv_A 0), (1, vv_I n)] [] δ Q := by
  have hxs := h
  obtain ⟨g1, g2, g3, g4, g5⟩ := h
  have hh := g2.2.1
  have h40 := g2.1
  unfold op_word at hQ
  refine go_iload_n (i := 1) dx_X11_word_0 rfl rfl ?_
  refine go_if_lt (tgt := 15) dx_X11_word_1 rfl (by omega) (fun c1 => ?_) (fun c1 => ?_)
  · refine go_bipush dx_X11_word_15 rfl ?_
    refine go_ireturn dx_X11_word_17 rfl (Nat.le_refl _) (Nat.le_refl _) ?_
    rw [if_pos (by omega)] at hQ
    exact hQ δ hxs fx_rf (Or.inl ⟨rfl, rfl⟩)
  · refine go_iload_n (i := 1) dx_X11_word_4 rfl rfl ?_
    refine go_aload_n (i := 0) dx_X11_word_5 rfl rfl ?_
    refine go_getA (b := 1) fs_X11_12 rfl (go_ok rfl rfl) rfl dx_X11_word_6 ?_
    refine go_getI fs_X11_116 (Or.inl rfl) (go_ok rfl rfl) dx_X11_word_9 ?_
    refine go_icmp_le (tgt := 18) dx_X11_word_12 rfl (by omega) (by omega) (fun c12 => ?_) (fun c12 => ?_)
    · rw [if_neg (by omega)] at hQ
      dsimp only at hQ
      obtain ⟨m, rfl⟩ : ∃ m : Nat, n = (m : Int) := ⟨n.toNat, by omega⟩
      rw [Int.toNat_natCast] at hQ
      refine go_aload_n (i := 0) dx_X11_word_18 rfl rfl ?_
      refine go_getA (b := 1) fs_X11_12 rfl (go_ok rfl rfl) rfl dx_X11_word_19 ?_
      refine go_iload_n (i := 1) dx_X11_word_22 rfl rfl ?_
      refine go_cV1 sv_X11_145 (go_ok rfl rfl) dx_X11_word_23 (Nat.le_of_ble_eq_true rfl) (Nat.le_of_ble_eq_true rfl) (g_Tape_takeWord g2 (by omega) (fun δ1 code h1 f1 hc => ?_))
      refine go_lstore_n (i := 2) (lv' := [(0, vv_A 0), (1, vv_I (m : Int)), (2, vv_L code)]) dx_X11_word_26 rfl (by decide) rfl ?_
      have e2 := h1.2.2.2.2.1
      have hf : (wd_fault (S.2.1.take m)).1 = 0 ∨ (wd_fault (S.2.1.take m)).1 = 1 ∨ (wd_fault (S.2.1.take m)).1 = 3 := by
        unfold wd_fault
        cases hf : wd_flt 0 (S.2.1.take m) with
        | none => exact Or.inl rfl
        | some f => rcases wd_flt_some hf with q | q <;> (rw [Option.getD_some, q]; decide)
      have hx1 : xs_at δ1 (op_tape S [] (wd_fault (S.2.1.take m))) := ⟨td_fr g1 f1 (by decide) (by decide), h1, pa_fr g3 f1 (by decide), im_fr g4 f1 (by decide), ty_fr g5 f1 (by decide) (by decide)⟩
      refine go_aload_n (i := 0) dx_X11_word_27 rfl rfl ?_
      refine go_getA (b := 1) fs_X11_12 rfl (go_ok rfl rfl) rfl dx_X11_word_28 ?_
      refine go_getI fs_X11_131 (Or.inl rfl) (go_ok rfl rfl) dx_X11_word_31 ?_
      refine go_if_eq (tgt := 48) dx_X11_word_34 rfl (by omega) (fun c34 => ?_) (fun c34 => ?_)
      · have hz : (wd_fault (S.2.1.take m)).1 = 0 := by omega
        rw [if_neg (by omega)] at hQ
        have hlen : (S.2.1.take m).length = m := by rw [List.length_take]; omega
        have hnone : wd_flt 0 (S.2.1.take m) = none := by
          unfold wd_fault at hz
          cases hf : wd_flt 0 (S.2.1.take m) with
          | none => rfl
          | some f => rw [hf, Option.getD_some] at hz; rcases wd_flt_some hf with q | q <;> omega
        obtain ⟨w1, w2⟩ := wd_flt_none hnone
        have hwl : (rl_of (S.2.1.take m)).length = m := by unfold rl_of; rw [List.length_map, hlen]
        have hm14 : m ≤ 14 := by
          rcases w1 with w1 | w1
          · rw [w1] at hlen; simp at hlen; omega
          · omega
        have hw : ∀ x ∈ rl_of (S.2.1.take m), 8 ≤ x ∧ x < 14 := by
          intro x hx
          unfold rl_of at hx
          obtain ⟨c, hc1, rfl⟩ := List.mem_map.mp hx
          obtain ⟨k, hk, rfl⟩ := List.getElem_of_mem hc1
          have := w2 k hk
          have := sy_range (S.2.1.take m)[k]
          omega
        have hcode := hc hz
        subst hcode
        refine go_aload_n (i := 0) dx_X11_word_48 rfl rfl ?_
        refine go_cV0 sv_X11_138 (go_ok rfl rfl) dx_X11_word_49 (Nat.le_of_ble_eq_true rfl) (Nat.le_of_ble_eq_true rfl) (g_changing hx1.2.2.1 hx1.1 (fun δ2 h2 f2 s2 s3 => ?_))
        have hmm : (m : Int) = ((rl_of (S.2.1.take m)).length : Int) := by rw [hwl]
        have K52 : Go E (d + 4 + 1) (0, 0) mx_X11_word go_φ 52 [(0, vv_A 0), (1, vv_I ((rl_of (S.2.1.take m)).length : Int)), (2, vv_L (wd_enc (rl_of (S.2.1.take m)) : Int))] [] δ2 Q := by
          refine go_aload_n (i := 0) dx_X11_word_52 rfl rfl ?_
          refine go_getA (b := 3) fs_X11_19 rfl (go_ok rfl rfl) rfl dx_X11_word_53 ?_
          refine go_lload_n (i := 2) dx_X11_word_56 rfl rfl ?_
          refine go_iload_n (i := 1) dx_X11_word_57 rfl rfl ?_
          refine go_cV2 sv_X11_149 (go_ok rfl rfl) dx_X11_word_58 (Nat.le_of_ble_eq_true rfl) (Nat.le_of_ble_eq_true rfl) (g_Told_setWord td_ok3 (td_fr hx1.1 f2 (by decide) (by decide)) hw (by rw [hwl]; omega) (fun δ3 h3 f3 => ?_))
          refine go_iload_n (i := 1) dx_X11_word_61 rfl rfl ?_
          refine go_ireturn dx_X11_word_62 rfl (Nat.le_refl _) (Nat.le_refl _) ?_
          rw [← hmm]
          have F : fr ([3, 4, 0] ++ pa_S) δ1 δ3 := fr_trs (fr_up f2 (by decide)) (fr_up f3 (by decide))
          refine hQ δ3 (xs_keep hx1 h3 (pa_fr h2 f3 (by decide)) F) (fx_tr (fx_fr f1 rfl) (fx_fr0 (fr_up F (T := 0 :: ([3, 4] ++ pa_S)) (by decide)) rfl (by rw [f3 0 (by decide), s3]))) (Or.inr ?_)
          rw [f3 0 (by decide), s2, f1 0 (by decide)]
        rw [← hmm] at K52
        exact K52
      · refine go_bipush dx_X11_word_37 rfl ?_
        refine go_aload_n (i := 0) dx_X11_word_39 rfl rfl ?_
        refine go_getA (b := 1) fs_X11_12 rfl (go_ok rfl rfl) rfl dx_X11_word_40 ?_
        refine go_getI fs_X11_131 (Or.inl rfl) (go_ok rfl rfl) dx_X11_word_43 ?_
        refine go_isub dx_X11_word_46 ?_
        refine go_ireturn dx_X11_word_47 rfl (Nat.le_refl _) (Nat.le_refl _) ?_
        rw [e2]
        rw [if_pos (by omega)] at hQ
        exact hQ δ1 hx1 (fx_fr f1 rfl) (Or.inl ⟨f1 0 (by decide) 16, rfl⟩)
    · refine go_bipush dx_X11_word_15 rfl ?_
      refine go_ireturn dx_X11_word_17 rfl (Nat.le_refl _) (Nat.le_refl _) ?_
      rw [if_pos (by omega)] at hQ
      exact hQ δ hxs fx_rf (Or.inl ⟨rfl, rfl⟩)
theorem g_drop {r : Int} (hr : go_iI r) (h : xs_at δ S)
    (hQ : ∀ δ', xs_at δ' (op_drop S r).2 → fx δ δ' → (δ' 0 16 = δ 0 16 ∧ (op_drop S r).2.1 = S.1 ∨ δ' 0 16 = δ 0 16 + 1) → Q [vv_I (op_drop S r).1] go_φ δ') :
    Go E (d + 5) (0, 0) mx_X11_drop go_φ 0 [(0, vv_A 0), (1, vv_I r)] [] δ Q := by
  have hxs := h
  obtain ⟨g1, g2, g3, g4, g5⟩ := h
  have q1 := g1.2.2.2.2
  have hlt := rl_enc_lt (q1.1 r.toNat)
  have hz := rl_enc_eq0 q1 r.toNat
  unfold op_drop at hQ
  have hneg : ¬ (0 ≤ r ∧ r < 16 ∧ S.1.1 r.toNat ≠ []) → Q [vv_I (-2)] go_φ δ := fun q => by
    rw [if_neg q] at hQ
    exact hQ δ hxs fx_rf (Or.inl ⟨rfl, rfl⟩)
  refine go_aload_n (i := 0) dx_X11_drop_0 rfl rfl ?_
  refine go_getA (b := 3) fs_X11_19 rfl (go_ok rfl rfl) rfl dx_X11_drop_1 ?_
  refine go_iload_n (i := 1) dx_X11_drop_4 rfl rfl ?_
  refine go_cV1 sv_X11_156 (go_ok rfl rfl) dx_X11_drop_5 (Nat.le_of_ble_eq_true rfl) (Nat.le_of_ble_eq_true rfl) (g_Told_ruleAt td_ok3 g1 hr (fun a1 a2 => ?_) (fun a1 => ?_))
  · refine go_if_ne (tgt := 14) dx_X11_drop_8 rfl (by omega) (fun c8 => ?_) (fun c8 => ?_)
    · rw [if_pos ⟨a1, a2, fun q => c8 (hz.mpr q)⟩] at hQ
      dsimp only at hQ
      obtain ⟨m, rfl⟩ : ∃ m : Nat, r = (m : Int) := ⟨r.toNat, by omega⟩
      rw [Int.toNat_natCast] at hQ
      have hnil : rl_ok [] := Or.inl rfl
      refine go_aload_n (i := 0) dx_X11_drop_14 rfl rfl ?_
      refine go_cV0 sv_X11_138 (go_ok rfl rfl) dx_X11_drop_15 (Nat.le_of_ble_eq_true rfl) (Nat.le_of_ble_eq_true rfl) (g_changing g3 g1 (fun δ2 h2 f2 s2 s3 => ?_))
      refine go_aload_n (i := 0) dx_X11_drop_18 rfl rfl ?_
      refine go_getA (b := 3) fs_X11_19 rfl (go_ok rfl rfl) rfl dx_X11_drop_19 ?_
      refine go_iload_n (i := 1) dx_X11_drop_22 rfl rfl ?_
      refine go_iconst dx_X11_drop_23 ?_
      refine go_cV2 sv_X11_141 (go_ok rfl rfl) dx_X11_drop_24 (Nat.le_of_ble_eq_true rfl) (Nat.le_of_ble_eq_true rfl) (g_Told_setRule (l := []) td_ok3 (td_fr g1 f2 (by decide) (by decide)) (by omega) hnil (Or.inl rfl) (fun δ3 h3 f3 => ?_))
      refine go_aload_n (i := 0) dx_X11_drop_27 rfl rfl ?_
      refine go_getA (b := 3) fs_X11_19 rfl (go_ok rfl rfl) rfl dx_X11_drop_28 ?_
      refine go_cV0 sv_X11_159 (go_ok rfl rfl) dx_X11_drop_31 (Nat.le_of_ble_eq_true rfl) (Nat.le_of_ble_eq_true rfl) (g_Told_ruleBits td_ok3 h3 ?_)
      refine go_cS1 ss_X11_162 dx_X11_drop_34 (Nat.le_of_ble_eq_true rfl) (Nat.le_of_ble_eq_true rfl) (g_J6_bitCount (rl_bits_lt31 _ (by decide)) ?_)
      refine go_ireturn dx_X11_drop_37 rfl (Nat.le_refl _) (Nat.le_refl _) ?_
      rw [pop_bits]
      have F : fr ([3, 4, 0] ++ pa_S) δ δ3 := fr_trs (fr_up f2 (by decide)) (fr_up f3 (by decide))
      refine hQ δ3 (xs_keep hxs h3 (pa_fr h2 f3 (by decide)) F) (fx_fr0 (fr_up F (T := 0 :: ([3, 4] ++ pa_S)) (by decide)) rfl (by rw [f3 0 (by decide), s3])) (Or.inr ?_)
      rw [f3 0 (by decide), s2]
    · refine go_bipush dx_X11_drop_11 rfl ?_
      refine go_ireturn dx_X11_drop_13 rfl (Nat.le_refl _) (Nat.le_refl _) ?_
      first | exact hneg (fun q => q.2.2 (hz.mp c8)) | exact hneg (fun q => a1 ⟨q.1, q.2.1⟩)
  · refine go_if_ne (tgt := 14) dx_X11_drop_8 rfl (by omega) (fun c8 => absurd c8 (by decide)) (fun c8 => ?_)
    refine go_bipush dx_X11_drop_11 rfl ?_
    refine go_ireturn dx_X11_drop_13 rfl (Nat.le_refl _) (Nat.le_refl _) ?_
    first | exact hneg (fun q => q.2.2 (hz.mp c8)) | exact hneg (fun q => a1 ⟨q.1, q.2.1⟩)
theorem g_start {x : Int} (hx : go_iI x) (h : xs_at δ S)
    (hQ : ∀ δ', xs_at δ' (op_start S x).2 → fx δ δ' → (δ' 0 16 = δ 0 16 ∧ (op_start S x).2.1 = S.1 ∨ δ' 0 16 = δ 0 16 + 1) → Q [vv_I (op_start S x).1] go_φ δ') :
    Go E (d + 5) (0, 0) mx_X11_start go_φ 0 [(0, vv_A 0), (1, vv_I x)] [] δ Q := by
  have hxs := h
  obtain ⟨g1, g2, g3, g4, g5⟩ := h
  have e1 := g1.2.1
  obtain ⟨q1, q2, q3, q4, q5, q6⟩ := g1.2.2.2.2
  unfold op_start at hQ
  refine go_aload_n (i := 0) dx_X11_start_0 rfl rfl ?_
  refine go_iload_n (i := 1) dx_X11_start_1 rfl rfl ?_
  refine go_cV1 sv_X11_167 (go_ok rfl rfl) dx_X11_start_2 (Nat.le_of_ble_eq_true rfl) (Nat.le_of_ble_eq_true rfl) (g_isName hx (fun a1 a2 => ?_) (fun a1 => ?_))
  · refine go_if_ne (tgt := 11) dx_X11_start_5 rfl (by omega) (fun c5 => ?_) (fun c5 => absurd c5 (by decide))
    refine go_iload_n (i := 1) dx_X11_start_11 rfl rfl ?_
    refine go_aload_n (i := 0) dx_X11_start_12 rfl rfl ?_
    refine go_getA (b := 3) fs_X11_19 rfl (go_ok rfl rfl) rfl dx_X11_start_13 ?_
    refine go_getI fs_X11_170 (Or.inl rfl) (go_ok rfl rfl) dx_X11_start_16 ?_
    refine go_icmp_ne (tgt := 25) dx_X11_start_19 rfl (by omega) (by omega) (fun c19 => ?_) (fun c19 => ?_)
    · refine go_aload_n (i := 0) dx_X11_start_25 rfl rfl ?_
      refine go_cV0 sv_X11_138 (go_ok rfl rfl) dx_X11_start_26 (Nat.le_of_ble_eq_true rfl) (Nat.le_of_ble_eq_true rfl) (g_changing g3 g1 (fun δ2 h2 f2 s2 s3 => ?_))
      refine go_aload_n (i := 0) dx_X11_start_29 rfl rfl ?_
      refine go_getA (b := 3) fs_X11_19 rfl (go_ok rfl rfl) rfl dx_X11_start_30 ?_
      refine go_getI fs_X11_170 (Or.inl rfl) (go_ok rfl rfl) dx_X11_start_33 ?_
      refine go_nmI (fun x36_1 ex36_1 => ?_)
      refine go_istore_n (i := 2) (lv' := [(0, vv_A 0), (1, vv_I x), (2, vv_I x36_1)]) dx_X11_start_36 rfl (by decide) rfl ?_
      refine go_aload_n (i := 0) dx_X11_start_37 rfl rfl ?_
      refine go_getA (b := 3) fs_X11_19 rfl (go_ok rfl rfl) rfl dx_X11_start_38 ?_
      refine go_iload_n (i := 1) dx_X11_start_41 rfl rfl ?_
      refine go_putI fp_X11_170 rfl rfl (go_ok rfl rfl) dx_X11_start_42 ?_
      refine go_iload_n (i := 2) dx_X11_start_45 rfl rfl ?_
      refine go_ireturn dx_X11_start_46 rfl (Nat.le_refl _) (Nat.le_refl _) ?_
      rw [if_neg (by omega), if_neg (by omega)] at hQ
      obtain ⟨m, rfl⟩ : ∃ m : Nat, x = (m : Int) := ⟨x.toNat, by omega⟩
      rw [Int.toNat_natCast] at hQ
      have F : fr ([3, 4, 0] ++ pa_S) δ (wr δ2 3 1 (m : Int)) := fr_trs (fr_up f2 (by decide)) (fr_wr (by decide))
      have e : δ2 3 1 = (S.1.2.1 : Int) := by rw [f2 3 (by decide)]; exact e1
      rw [ex36_1, e]
      refine hQ _ (xs_keep hxs ⟨fun r hr => ?_, ?_, ?_, ?_, q1, q2, q3, by show m < 8; omega, q5, q6⟩ (pa_fr h2 (fr_wr (S := [3]) (by decide)) (by decide)) F) (fx_fr0 (fr_up F (T := 0 :: ([3, 4] ++ pa_S)) (by decide)) rfl ?_) (Or.inr ?_)
      · show wr δ2 3 1 (m : Int) 4 r = _
        rw [wr_a _ _ _ _ (by decide), f2 4 (by decide)]; exact g1.1 r hr
      · rw [wr_eq]
      · rw [wr_i _ _ _ _ (by decide), f2 3 (by decide)]; exact g1.2.2.1
      · rw [wr_i _ _ _ _ (by decide), f2 3 (by decide)]; exact g1.2.2.2.1
      · rw [wr_a _ _ _ _ (by decide), s3]
      · rw [wr_a _ _ _ _ (by decide), s2]
    · refine go_bipush dx_X11_start_22 rfl ?_
      refine go_ireturn dx_X11_start_24 rfl (Nat.le_refl _) (Nat.le_refl _) ?_
      rw [if_neg (by omega), if_pos (by omega)] at hQ
      exact hQ δ hxs fx_rf (Or.inl ⟨rfl, rfl⟩)
  · refine go_if_ne (tgt := 11) dx_X11_start_5 rfl (by omega) (fun c5 => absurd c5 (by decide)) (fun c5 => ?_)
    refine go_bipush dx_X11_start_8 rfl ?_
    refine go_ireturn dx_X11_start_10 rfl (Nat.le_refl _) (Nat.le_refl _) ?_
    rw [if_pos a1] at hQ
    exact hQ δ hxs fx_rf (Or.inl ⟨rfl, rfl⟩)
theorem g_part {r i : Int} (hr : go_iI r) (hi : go_iI i) (h : xs_at δ S) (hQ : Q [vv_I (op_part S r i)] go_φ δ) :
    Go E (d + 2) (0, 0) mx_X11_part go_φ 0 [(0, vv_A 0), (1, vv_I r), (2, vv_I i)] [] δ Q := by
  obtain ⟨g1, g2, g3, g4, g5⟩ := h
  have q1 := g1.2.2.2.2
  have hok := q1.1 r.toNat
  have hlt := rl_enc_lt hok
  have hz := rl_enc_eq0 q1 r.toNat
  have hlen := hok.len
  unfold op_part at hQ
  refine go_aload_n (i := 0) dx_X11_part_0 rfl rfl ?_
  refine go_getA (b := 3) fs_X11_19 rfl (go_ok rfl rfl) rfl dx_X11_part_1 ?_
  refine go_iload_n (i := 1) dx_X11_part_4 rfl rfl ?_
  refine go_cV1 sv_X11_156 (go_ok rfl rfl) dx_X11_part_5 (Nat.le_of_ble_eq_true rfl) (Nat.le_of_ble_eq_true rfl) (g_Told_ruleAt td_ok3 g1 hr (fun a1 a2 => ?_) (fun b1 => ?_))
  · refine go_istore_n (i := 3) (lv' := [(0, vv_A 0), (1, vv_I r), (2, vv_I i), (3, vv_I (rl_enc (S.1.1 r.toNat) : Int))]) dx_X11_part_8 rfl (by decide) rfl ?_
    refine go_iload_n (i := 3) dx_X11_part_9 rfl rfl ?_
    refine go_if_ne (tgt := 16) dx_X11_part_10 rfl (by omega) (fun c10 => ?_) (fun c10 => ?_)
    · rw [if_pos ⟨a1, a2, fun q => c10 (hz.mpr q)⟩] at hQ
      have hnz : S.1.1 r.toNat ≠ [] := fun q => c10 (hz.mpr q)
      have hl1 : (S.1.1 r.toNat).length ≠ 0 := fun q => hnz (List.length_eq_zero_iff.mp q)
      refine go_iload_n (i := 2) dx_X11_part_16 rfl rfl ?_
      refine go_iconst dx_X11_part_17 ?_
      refine go_icmp_ge (tgt := 24) dx_X11_part_18 rfl (by omega) (by omega) (fun c18 => ?_) (fun c18 => ?_)
      · refine go_iload_n (i := 2) dx_X11_part_24 rfl rfl ?_
        refine go_iconst dx_X11_part_25 ?_
        refine go_icmp_ne (tgt := 34) dx_X11_part_26 rfl (by omega) (by omega) (fun c26 => ?_) (fun c26 => ?_)
        · refine go_iload_n (i := 2) dx_X11_part_34 rfl rfl ?_
          refine go_iload_n (i := 3) dx_X11_part_35 rfl rfl ?_
          refine go_cS1 ss_X11_176 dx_X11_part_36 (Nat.le_of_ble_eq_true rfl) (Nat.le_of_ble_eq_true rfl) (g_sizeOf hok ?_)
          refine go_icmp_ge (tgt := 50) dx_X11_part_39 rfl (by omega) (by omega) (fun c39 => ?_) (fun c39 => ?_)
          · refine go_iconst dx_X11_part_50 ?_
            refine go_ireturn dx_X11_part_51 rfl (Nat.le_refl _) (Nat.le_refl _) ?_
            rw [if_neg (by omega), if_neg (by omega)] at hQ
            exact hQ
          · obtain ⟨m, rfl⟩ : ∃ m : Nat, i = (m : Int) := ⟨i.toNat, by omega⟩
            rw [if_neg (by omega), if_pos (by omega), show ((m : Int) + 1).toNat = m + 1 by omega] at hQ
            refine go_iload_n (i := 3) dx_X11_part_42 rfl rfl ?_
            refine go_iload_n (i := 2) dx_X11_part_43 rfl rfl ?_
            refine go_cS2 ss_X11_179 dx_X11_part_44 (Nat.le_of_ble_eq_true rfl) (Nat.le_of_ble_eq_true rfl) (g_partOf hok (by omega) ?_)
            refine go_goto (tgt := 51) dx_X11_part_47 rfl ?_
            refine go_ireturn dx_X11_part_51 rfl (Nat.le_refl _) (Nat.le_refl _) ?_
            exact hQ
        · refine go_iload_n (i := 3) dx_X11_part_29 rfl rfl ?_
          refine go_cS1 ss_X11_173 dx_X11_part_30 (Nat.le_of_ble_eq_true rfl) (Nat.le_of_ble_eq_true rfl) (g_headOf hok ?_)
          refine go_ireturn dx_X11_part_33 rfl (Nat.le_refl _) (Nat.le_refl _) ?_
          rw [if_neg (by omega), if_pos (by omega), show (i + 1).toNat = 0 by omega] at hQ
          exact hQ
      · refine go_bipush dx_X11_part_21 rfl ?_
        refine go_ireturn dx_X11_part_23 rfl (Nat.le_refl _) (Nat.le_refl _) ?_
        rw [if_pos (by omega)] at hQ
        exact hQ
    · refine go_bipush dx_X11_part_13 rfl ?_
      refine go_ireturn dx_X11_part_15 rfl (Nat.le_refl _) (Nat.le_refl _) ?_
      first | (rw [if_neg (fun q => b1 ⟨q.1, q.2.1⟩)] at hQ; exact hQ) | (rw [if_neg (fun q => q.2.2 (hz.mp c10))] at hQ; exact hQ)
  · refine go_istore_n (i := 3) (lv' := [(0, vv_A 0), (1, vv_I r), (2, vv_I i), (3, vv_I 0)]) dx_X11_part_8 rfl (by decide) rfl ?_
    refine go_iload_n (i := 3) dx_X11_part_9 rfl rfl ?_
    refine go_if_ne (tgt := 16) dx_X11_part_10 rfl (by omega) (fun c10 => absurd c10 (by decide)) (fun c10 => ?_)
    refine go_bipush dx_X11_part_13 rfl ?_
    refine go_ireturn dx_X11_part_15 rfl (Nat.le_refl _) (Nat.le_refl _) ?_
    first | (rw [if_neg (fun q => b1 ⟨q.1, q.2.1⟩)] at hQ; exact hQ) | (rw [if_neg (fun q => q.2.2 (hz.mp c10))] at hQ; exact hQ)
theorem g_tray {t n : Int} (ht : go_iI t) (hn : go_iI n) (h : xs_at δ S)
    (hQ : ∀ δ', xs_at δ' (op_tray S t n).2 → fx δ δ' → δ' 0 16 = δ 0 16 → Q [vv_I (op_tray S t n).1] go_φ δ') :
    Go E (d + 2) (0, 0) mx_X11_tray go_φ 0 [(0, vv_A 0), (1, vv_I t), (2, vv_I n)] [] δ Q := by
  have hxs := h
  obtain ⟨g1, g2, g3, g4, g5⟩ := h
  unfold op_tray at hQ
  have hl92 : go_ln 92 = 60 := rfl
  have hl93 : go_ln 93 = 3 := rfl
  refine go_aload_n (i := 0) dx_X11_tray_0 rfl rfl ?_
  refine go_iload_n (i := 1) dx_X11_tray_1 rfl rfl ?_
  refine go_cV1 sv_X11_362 (go_ok rfl rfl) dx_X11_tray_2 (Nat.le_of_ble_eq_true rfl) (Nat.le_of_ble_eq_true rfl) (g_isTray ht (fun a1 a2 => ?_) (fun b1 => ?_))
  · refine go_if_ne (tgt := 11) dx_X11_tray_5 rfl (by omega) (fun c5 => ?_) (fun c5 => absurd c5 (by decide))
    refine go_iload_n (i := 2) dx_X11_tray_11 rfl rfl ?_
    refine go_if_lt (tgt := 21) dx_X11_tray_12 rfl (by omega) (fun c12 => ?_) (fun c12 => ?_)
    · refine go_bipush dx_X11_tray_21 rfl ?_
      refine go_ireturn dx_X11_tray_23 rfl (Nat.le_refl _) (Nat.le_refl _) ?_
      rw [if_neg (by omega), if_pos (by omega)] at hQ
      exact hQ δ hxs fx_rf rfl
    · refine go_iload_n (i := 2) dx_X11_tray_15 rfl rfl ?_
      refine go_bipush dx_X11_tray_16 rfl ?_
      refine go_icmp_le (tgt := 24) dx_X11_tray_18 rfl (by omega) (by omega) (fun c18 => ?_) (fun c18 => ?_)
      · rw [if_neg (by omega), if_neg (by omega)] at hQ
        obtain ⟨u, rfl⟩ : ∃ u : Nat, t = (u : Int) := ⟨t.toNat, by omega⟩
        rw [Int.toNat_natCast] at hQ
        have loop : ∀ (k i : Nat) (δ1 : Nat → Nat → Int), 20 - i < k → i ≤ 20 → fr [92] δ δ1 → (∀ z, z < i → δ1 92 (20 * u + z) = 0) → (∀ z, ¬ (20 * u ≤ z ∧ z < 20 * u + 20) → δ1 92 z = δ 92 z) →
            Go E (d + 2) (0, 0) mx_X11_tray go_φ 26 [(0, vv_A 0), (1, vv_I (u : Int)), (2, vv_I n), (3, vv_I (i : Int))] [] δ1 Q := by
          intro k
          induction k with
          | zero => intros; omega
          | succ k ih =>
            intro i δ1 h1 h2 h3 h4 h5
            refine go_iload_n (i := 3) dx_X11_tray_26 rfl rfl ?_
            refine go_bipush dx_X11_tray_27 rfl ?_
            refine go_icmp_ge (tgt := 52) dx_X11_tray_29 rfl (by omega) (by omega) (fun c29 => ?_) (fun c29 => ?_)
            · refine go_aload_n (i := 0) dx_X11_tray_52 rfl rfl ?_
              refine go_getA (b := 93) fs_X11_105 rfl (go_ok rfl rfl) rfl dx_X11_tray_53 ?_
              refine go_iload_n (i := 1) dx_X11_tray_56 rfl rfl ?_
              refine go_iload_n (i := 2) dx_X11_tray_57 rfl rfl ?_
              refine go_cS3 ss_X11_369 dx_X11_tray_58 (Nat.le_of_ble_eq_true rfl) (Nat.le_of_ble_eq_true rfl) (g_putInt (go_ok rfl rfl) (by omega) (by omega) ?_)
              refine go_iconst dx_X11_tray_61 ?_
              refine go_ireturn dx_X11_tray_62 rfl (Nat.le_refl _) (Nat.le_refl _) ?_
              have F : fr [92, 93] δ (wr δ1 93 u n) := fr_trs (fr_up h3 (by decide)) (fr_wr (by decide))
              rw [Int.toNat_natCast]
              refine hQ _ ⟨td_fr g1 F (by decide) (by decide), ⟨g2.1, by rw [F 1 (by decide)]; exact g2.2.1, fun z hz => by rw [F 2 (by decide)]; exact g2.2.2.1 z hz, g2.2.2.2.1, by rw [F 1 (by decide)]; exact g2.2.2.2.2.1, by rw [F 1 (by decide)]; exact g2.2.2.2.2.2⟩, pa_fr g3 F (by decide), im_fr g4 F (by decide), fun v hv => ?_⟩ (fx_fr F rfl) (F 0 (by decide) 16)
              by_cases e : v = u
              · subst e
                refine Or.inr ⟨List.replicate n.toNat 0, by simp, by rw [List.length_replicate]; omega, by rw [wr_eq, List.length_replicate]; omega, fun z hz => ?_, fun y hy => ?_⟩
                · rw [List.length_replicate] at hz
                  rw [wr_a _ _ _ _ (by decide), h4 z (by omega), List.getElem_replicate]
                · rw [(List.mem_replicate.mp hy).2]; decide
              · rcases g5 v hv with ⟨p1, p2⟩ | ⟨l, p1, p2, p3, p4, p5⟩
                · exact Or.inl ⟨by simp [e, p1], by rw [wr_i _ _ _ _ e, h3 93 (by decide)]; exact p2⟩
                · exact Or.inr ⟨l, by simp [e, p1], p2, by rw [wr_i _ _ _ _ e, h3 93 (by decide)]; exact p3, fun z hz => by rw [wr_a _ _ _ _ (by decide), h5 _ (by omega)]; exact p4 z hz, p5⟩
            · refine go_aload_n (i := 0) dx_X11_tray_32 rfl rfl ?_
              refine go_getA (b := 92) fs_X11_101 rfl (go_ok rfl rfl) rfl dx_X11_tray_33 ?_
              refine go_iload_n (i := 1) dx_X11_tray_36 rfl rfl ?_
              refine go_bipush dx_X11_tray_37 rfl ?_
              refine go_imul dx_X11_tray_39 ?_
              refine go_iload_n (i := 3) dx_X11_tray_40 rfl rfl ?_
              refine go_iadd dx_X11_tray_41 ?_
              refine go_lconst (x := 0) dx_X11_tray_42 rfl ?_
              refine go_cS3 ss_X11_365 dx_X11_tray_43 (Nat.le_of_ble_eq_true rfl) (Nat.le_of_ble_eq_true rfl) (g_putLong (go_ok rfl rfl) (by omega) (by omega) ?_)
              refine go_iinc (lv' := [(0, vv_A 0), (1, vv_I (u : Int)), (2, vv_I n), (3, vv_I ((i : Int) + 1))]) dx_X11_tray_46 rfl (by decide) rfl ?_
              refine go_goto (tgt := 26) dx_X11_tray_49 rfl ?_
              rw [show ((u : Int) * 20 + (i : Int)).toNat = 20 * u + i by omega]
              refine ih (i + 1) _ (by omega) (by omega) (fr_trs h3 (fr_wr (by decide))) (fun z hz => ?_) (fun z hz => ?_)
              · by_cases e : z = i
                · subst e; rw [wr_eq]
                · rw [wr_i _ _ _ _ (by omega)]; exact h4 z (by omega)
              · rw [wr_i _ _ _ _ (by omega)]; exact h5 z hz
        refine go_iconst dx_X11_tray_24 ?_
        refine go_istore_n (i := 3) (lv' := [(0, vv_A 0), (1, vv_I (u : Int)), (2, vv_I n), (3, vv_I 0)]) dx_X11_tray_25 rfl (by decide) rfl ?_
        exact loop 21 0 δ (by omega) (by omega) fr_rf (fun z hz => by omega) (fun z hz => rfl)
      · refine go_bipush dx_X11_tray_21 rfl ?_
        refine go_ireturn dx_X11_tray_23 rfl (Nat.le_refl _) (Nat.le_refl _) ?_
        rw [if_neg (by omega), if_pos (by omega)] at hQ
        exact hQ δ hxs fx_rf rfl
  · refine go_if_ne (tgt := 11) dx_X11_tray_5 rfl (by omega) (fun c5 => absurd c5 (by decide)) (fun c5 => ?_)
    refine go_bipush dx_X11_tray_8 rfl ?_
    refine go_ireturn dx_X11_tray_10 rfl (Nat.le_refl _) (Nat.le_refl _) ?_
    rw [if_pos b1] at hQ
    exact hQ δ hxs fx_rf rfl
theorem g_number {t i : Int} (ht : go_iI t) (hi : go_iI i) (h : xs_at δ S) (hQ : Q [vv_L (op_number S t i)] go_φ δ) :
    Go E (d + 2) (0, 0) mx_X11_number go_φ 0 [(0, vv_A 0), (1, vv_I t), (2, vv_I i)] [] δ Q := by
  obtain ⟨g1, g2, g3, g4, g5⟩ := h
  unfold op_number at hQ
  have hl92 : go_ln 92 = 60 := rfl
  have hl93 : go_ln 93 = 3 := rfl
  refine go_aload_n (i := 0) dx_X11_number_0 rfl rfl ?_
  refine go_iload_n (i := 1) dx_X11_number_1 rfl rfl ?_
  refine go_cV1 sv_X11_362 (go_ok rfl rfl) dx_X11_number_2 (Nat.le_of_ble_eq_true rfl) (Nat.le_of_ble_eq_true rfl) (g_isTray ht (fun a1 a2 => ?_) (fun b1 => ?_))
  · refine go_if_ne (tgt := 12) dx_X11_number_5 rfl (by omega) (fun c5 => ?_) (fun c5 => absurd c5 (by decide))
    rw [if_neg (by omega)] at hQ
    obtain ⟨u, rfl⟩ : ∃ u : Nat, t = (u : Int) := ⟨t.toNat, by omega⟩
    rw [Int.toNat_natCast] at hQ
    have hty := g5 u (by omega)
    have hsz : δ 93 u = -1 ∨ (0 ≤ δ 93 u ∧ δ 93 u ≤ 20) := by
      rcases hty with ⟨p1, p2⟩ | ⟨l, p1, p2, p3, p4, p5⟩
      · exact Or.inl p2
      · right; omega
    refine go_aload_n (i := 0) dx_X11_number_12 rfl rfl ?_
    refine go_getA (b := 93) fs_X11_105 rfl (go_ok rfl rfl) rfl dx_X11_number_13 ?_
    refine go_iload_n (i := 1) dx_X11_number_16 rfl rfl ?_
    refine go_cS2 ss_X11_192 dx_X11_number_17 (Nat.le_of_ble_eq_true rfl) (Nat.le_of_ble_eq_true rfl) (g_intAt (go_ok rfl rfl) (by omega) (by omega) ?_)
    refine go_nmI (fun sz esz => ?_)
    refine go_istore_n (i := 3) (lv' := [(0, vv_A 0), (1, vv_I (u : Int)), (2, vv_I i), (3, vv_I sz)]) dx_X11_number_20 rfl (by decide) rfl ?_
    refine go_iload_n (i := 3) dx_X11_number_21 rfl rfl ?_
    refine go_iconst dx_X11_number_22 ?_
    refine go_icmp_ne (tgt := 30) dx_X11_number_23 rfl (by first | omega | (rw [Int.toNat_natCast] at esz; omega)) (by first | omega | (rw [Int.toNat_natCast] at esz; omega)) (fun c23 => ?_) (fun c23 => ?_)
    · refine go_iload_n (i := 2) dx_X11_number_30 rfl rfl ?_
      refine go_if_lt (tgt := 55) dx_X11_number_31 rfl (by omega) (fun c31 => ?_) (fun c31 => ?_)
      · refine go_ldc2 (x := (-7)) kx_X11_379 dx_X11_number_55 ?_
        refine go_lreturn dx_X11_number_58 rfl (Nat.le_refl _) (Nat.le_refl _) ?_
        rw [Int.toNat_natCast] at esz
        rcases hty with ⟨p1, p2⟩ | ⟨l, p1, p2, p3, p4, p5⟩
        · exact absurd (esz.trans p2) (by assumption)
        · rw [p1] at hQ
          dsimp only at hQ
          first | (rw [if_neg (by omega)] at hQ; exact hQ) | skip
          all_goals (rw [if_pos (by omega)] at hQ; obtain ⟨m, rfl⟩ : ∃ m : Nat, i = (m : Int) := ⟨i.toNat, by omega⟩; have hm : m < l.length := by omega)
          all_goals (rw [show ((u : Int) * 20 + (m : Int)).toNat = 20 * u + m by omega, p4 m hm]; rw [Int.toNat_natCast, List.getD_eq_getElem?_getD, List.getElem?_eq_getElem hm] at hQ; exact hQ)
      · refine go_iload_n (i := 2) dx_X11_number_34 rfl rfl ?_
        refine go_iload_n (i := 3) dx_X11_number_35 rfl rfl ?_
        refine go_icmp_ge (tgt := 55) dx_X11_number_36 rfl (by first | omega | (rw [Int.toNat_natCast] at esz; omega)) (by first | omega | (rw [Int.toNat_natCast] at esz; omega)) (fun c36 => ?_) (fun c36 => ?_)
        · refine go_ldc2 (x := (-7)) kx_X11_379 dx_X11_number_55 ?_
          refine go_lreturn dx_X11_number_58 rfl (Nat.le_refl _) (Nat.le_refl _) ?_
          rw [Int.toNat_natCast] at esz
          rcases hty with ⟨p1, p2⟩ | ⟨l, p1, p2, p3, p4, p5⟩
          · exact absurd (esz.trans p2) (by assumption)
          · rw [p1] at hQ
            dsimp only at hQ
            first | (rw [if_neg (by omega)] at hQ; exact hQ) | skip
            all_goals (rw [if_pos (by omega)] at hQ; obtain ⟨m, rfl⟩ : ∃ m : Nat, i = (m : Int) := ⟨i.toNat, by omega⟩; have hm : m < l.length := by omega)
            all_goals (rw [show ((u : Int) * 20 + (m : Int)).toNat = 20 * u + m by omega, p4 m hm]; rw [Int.toNat_natCast, List.getD_eq_getElem?_getD, List.getElem?_eq_getElem hm] at hQ; exact hQ)
        · refine go_aload_n (i := 0) dx_X11_number_39 rfl rfl ?_
          refine go_getA (b := 92) fs_X11_101 rfl (go_ok rfl rfl) rfl dx_X11_number_40 ?_
          refine go_iload_n (i := 1) dx_X11_number_43 rfl rfl ?_
          refine go_bipush dx_X11_number_44 rfl ?_
          refine go_imul dx_X11_number_46 ?_
          refine go_iload_n (i := 2) dx_X11_number_47 rfl rfl ?_
          refine go_iadd dx_X11_number_48 ?_
          refine go_cS2 ss_X11_375 dx_X11_number_49 (Nat.le_of_ble_eq_true rfl) (Nat.le_of_ble_eq_true rfl) (g_longAt (go_ok rfl rfl) (by omega) (by rw [Int.toNat_natCast] at esz; omega) ?_)
          refine go_goto (tgt := 58) dx_X11_number_52 rfl ?_
          refine go_lreturn dx_X11_number_58 rfl (Nat.le_refl _) (Nat.le_refl _) ?_
          rw [Int.toNat_natCast] at esz
          rcases hty with ⟨p1, p2⟩ | ⟨l, p1, p2, p3, p4, p5⟩
          · exact absurd (esz.trans p2) (by assumption)
          · rw [p1] at hQ
            dsimp only at hQ
            first | (rw [if_neg (by omega)] at hQ; exact hQ) | skip
            all_goals (rw [if_pos (by omega)] at hQ; obtain ⟨m, rfl⟩ : ∃ m : Nat, i = (m : Int) := ⟨i.toNat, by omega⟩; have hm : m < l.length := by omega)
            all_goals (rw [show ((u : Int) * 20 + (m : Int)).toNat = 20 * u + m by omega, p4 m hm]; rw [Int.toNat_natCast, List.getD_eq_getElem?_getD, List.getElem?_eq_getElem hm] at hQ; exact hQ)
    · refine go_ldc2 (x := (-6)) kx_X11_373 dx_X11_number_26 ?_
      refine go_lreturn dx_X11_number_29 rfl (Nat.le_refl _) (Nat.le_refl _) ?_
      rw [Int.toNat_natCast] at esz
      rcases hty with ⟨p1, p2⟩ | ⟨l, p1, p2, p3, p4, p5⟩
      · rw [p1] at hQ; exact hQ
      · omega
  · refine go_if_ne (tgt := 12) dx_X11_number_5 rfl (by omega) (fun c5 => absurd c5 (by decide)) (fun c5 => ?_)
    refine go_ldc2 (x := (-2)) kx_X11_237 dx_X11_number_8 ?_
    refine go_lreturn dx_X11_number_11 rfl (Nat.le_refl _) (Nat.le_refl _) ?_
    rw [if_pos b1] at hQ
    exact hQ
theorem tp_fr {δ δ' : Nat → Nat → Int} {t : List Nat} {f : Int × Int} {T : List Nat} (h : tp_at δ t f) (F : fr T δ δ') (h1 : 1 ∉ T) (h2 : 2 ∉ T) : tp_at δ' t f :=
  ⟨h.1, by rw [F 1 h1]; exact h.2.1, fun z hz => by rw [F 2 h2]; exact h.2.2.1 z hz, h.2.2.2.1, by rw [F 1 h1]; exact h.2.2.2.2.1, by rw [F 1 h1]; exact h.2.2.2.2.2⟩
theorem g_undo {n : Int} (hn : go_iI n) (h : xs_at δ S)
    (hQ : ∀ δ', xs_at δ' (op_undo S n).2 → fx δ δ' → (δ' 0 16 = δ 0 16 ∧ (op_undo S n).2.1 = S.1 ∨ δ' 0 16 = δ 0 16 + 1) → Q [vv_I (op_undo S n).1] go_φ δ') :
    Go E (d + 4) (0, 0) mx_X11_undo go_φ 0 [(0, vv_A 0), (1, vv_I n)] [] δ Q := by
  have hxs := h
  obtain ⟨g1, g2, g3, g4, g5⟩ := h
  have h10 := g3.1
  have hh : δ 5 4 = (S.2.2.2.1.length : Int) := by obtain ⟨_, nw, _, _, q, _⟩ := g3; exact q
  unfold op_undo at hQ
  refine go_iload_n (i := 1) dx_X11_undo_0 rfl rfl ?_
  refine go_iconst dx_X11_undo_1 ?_
  refine go_icmp_lt (tgt := 16) dx_X11_undo_2 rfl (by omega) (by omega) (fun c2 => ?_) (fun c2 => ?_)
  · refine go_bipush dx_X11_undo_16 rfl ?_
    refine go_ireturn dx_X11_undo_18 rfl (Nat.le_refl _) (Nat.le_refl _) ?_
    rw [if_pos (by omega)] at hQ
    exact hQ δ hxs fx_rf (Or.inl ⟨rfl, rfl⟩)
  · refine go_iload_n (i := 1) dx_X11_undo_5 rfl rfl ?_
    refine go_aload_n (i := 0) dx_X11_undo_6 rfl rfl ?_
    refine go_getA (b := 5) fs_X11_26 rfl (go_ok rfl rfl) rfl dx_X11_undo_7 ?_
    refine go_getI fs_X11_381 (Or.inl rfl) (go_ok rfl rfl) dx_X11_undo_10 ?_
    refine go_icmp_le (tgt := 19) dx_X11_undo_13 rfl (by omega) (by omega) (fun c13 => ?_) (fun c13 => ?_)
    · rw [if_neg (by omega)] at hQ
      obtain ⟨m, rfl⟩ : ∃ m : Nat, n = (m : Int) := ⟨n.toNat, by omega⟩
      rw [Int.toNat_natCast] at hQ
      refine go_aload_n (i := 0) dx_X11_undo_19 rfl rfl ?_
      refine go_getA (b := 5) fs_X11_26 rfl (go_ok rfl rfl) rfl dx_X11_undo_20 ?_
      refine go_aload_n (i := 0) dx_X11_undo_23 rfl rfl ?_
      refine go_getA (b := 3) fs_X11_19 rfl (go_ok rfl rfl) rfl dx_X11_undo_24 ?_
      refine go_iload_n (i := 1) dx_X11_undo_27 rfl rfl ?_
      refine go_cV2 sv_X11_382 (go_ok rfl rfl) dx_X11_undo_28 (Nat.le_of_ble_eq_true rfl) (Nat.le_of_ble_eq_true rfl) (g_Past_goBack g3 g1 (by omega) (by omega) (fun δ2 h2 p2 f2 => ?_))
      refine go_aload_n (i := 0) dx_X11_undo_31 rfl rfl ?_
      refine go_dup dx_X11_undo_32 rfl ?_
      refine go_getI fs_X11_109 (Or.inl rfl) (go_ok rfl rfl) dx_X11_undo_33 ?_
      refine go_iconst dx_X11_undo_36 ?_
      refine go_iadd dx_X11_undo_37 ?_
      refine go_putI fp_X11_109 rfl rfl (go_ok rfl rfl) dx_X11_undo_38 ?_
      refine go_aload_n (i := 0) dx_X11_undo_41 rfl rfl ?_
      refine go_getA (b := 5) fs_X11_26 rfl (go_ok rfl rfl) rfl dx_X11_undo_42 ?_
      refine go_getI fs_X11_381 (Or.inl rfl) (go_ok rfl rfl) dx_X11_undo_45 ?_
      refine go_ireturn dx_X11_undo_48 rfl (Nat.le_refl _) (Nat.le_refl _) ?_
      have F : fr [0, 3, 4, 5] δ (wr δ2 0 16 (δ2 0 16 + 1)) := fr_trs (fr_up f2 (by decide)) (fr_wr (by decide))
      have e5 : wr δ2 0 16 (δ2 0 16 + 1) 5 4 = (S.2.2.2.1.length : Int) - (m : Int) := by
        rw [wr_a _ _ _ _ (by decide)]
        obtain ⟨_, nw, _, _, q, _⟩ := p2
        rw [q, List.length_drop]
        omega
      rw [e5]
      refine hQ _ ⟨?_, tp_fr g2 F (by decide) (by decide), pa_fr p2 (fr_wr (S := [0]) (by decide)) (by decide), im_fr g4 F (by decide), ty_fr g5 F (by decide) (by decide)⟩ (fx_fr0 F rfl (by rw [wr_i _ _ _ _ (by decide), f2 0 (by decide)])) (Or.inr (by rw [wr_eq, f2 0 (by decide)]))
      have e : S.2.2.2.1.getD (m - 1) S.1 = S.2.2.2.1[m - 1]'(by omega) := by rw [List.getD_eq_getElem?_getD, List.getElem?_eq_getElem (by omega)]; rfl
      rw [e]
      exact td_fr h2 (fr_wr (S := [0]) (by decide)) (by decide) (by decide)
    · refine go_bipush dx_X11_undo_16 rfl ?_
      refine go_ireturn dx_X11_undo_18 rfl (Nat.le_refl _) (Nat.le_refl _) ?_
      rw [if_pos (by omega)] at hQ
      exact hQ δ hxs fx_rf (Or.inl ⟨rfl, rfl⟩)
theorem g_image {i : Int} (hi : go_iI i) (h : xs_at δ S) (hQ : ∀ δ', xs_at δ' (op_image S i).2 → fx δ δ' → δ' 0 16 = δ 0 16 → Q [vv_I (op_image S i).1] go_φ δ') :
    Go E (d + 4) (0, 0) mx_X11_image go_φ 0 [(0, vv_A 0), (1, vv_I i)] [] δ Q := by
  have hxs := h
  obtain ⟨g1, g2, g3, g4, g5⟩ := h
  unfold op_image at hQ
  refine go_iload_n (i := 1) dx_X11_image_0 rfl rfl ?_
  refine go_if_lt (tgt := 9) dx_X11_image_1 rfl (by omega) (fun c1 => ?_) (fun c1 => ?_)
  · refine go_bipush dx_X11_image_9 rfl ?_
    refine go_ireturn dx_X11_image_11 rfl (Nat.le_refl _) (Nat.le_refl _) ?_
    rw [if_pos (by omega)] at hQ
    exact hQ δ hxs fx_rf rfl
  · refine go_iload_n (i := 1) dx_X11_image_4 rfl rfl ?_
    refine go_iconst dx_X11_image_5 ?_
    refine go_icmp_lt (tgt := 12) dx_X11_image_6 rfl (by omega) (by omega) (fun c6 => ?_) (fun c6 => ?_)
    · rw [if_neg (by omega)] at hQ
      obtain ⟨m, rfl⟩ : ∃ m : Nat, i = (m : Int) := ⟨i.toNat, by omega⟩
      rw [Int.toNat_natCast] at hQ
      refine go_aload_n (i := 0) dx_X11_image_12 rfl rfl ?_
      refine go_getA (b := 5) fs_X11_26 rfl (go_ok rfl rfl) rfl dx_X11_image_13 ?_
      refine go_aload_n (i := 0) dx_X11_image_16 rfl rfl ?_
      refine go_getA (b := 3) fs_X11_19 rfl (go_ok rfl rfl) rfl dx_X11_image_17 ?_
      refine go_iload_n (i := 1) dx_X11_image_20 rfl rfl ?_
      refine go_cV2 sv_X11_385 (go_ok rfl rfl) dx_X11_image_21 (Nat.le_of_ble_eq_true rfl) (Nat.le_of_ble_eq_true rfl) (g_Past_makeImage g4 g1 (by omega) (fun δ2 h2 F => ?_))
      refine go_iconst dx_X11_image_24 ?_
      refine go_ireturn dx_X11_image_25 rfl (Nat.le_refl _) (Nat.le_refl _) ?_
      exact hQ _ ⟨td_fr g1 F (by decide) (by decide), tp_fr g2 F (by decide) (by decide), pa_fr g3 F (by decide), h2, ty_fr g5 F (by decide) (by decide)⟩ (fx_fr F rfl) (F 0 (by decide) 16)
    · refine go_bipush dx_X11_image_9 rfl ?_
      refine go_ireturn dx_X11_image_11 rfl (Nat.le_refl _) (Nat.le_refl _) ?_
      rw [if_pos (by omega)] at hQ
      exact hQ δ hxs fx_rf rfl
theorem g_restore {i : Int} (hi : go_iI i) (h : xs_at δ S)
    (hQ : ∀ δ', xs_at δ' (op_restore S i).2 → fx δ δ' → (δ' 0 16 = δ 0 16 ∧ (op_restore S i).2.1 = S.1 ∨ δ' 0 16 = δ 0 16 + 1) → Q [vv_I (op_restore S i).1] go_φ δ') :
    Go E (d + 4) (0, 0) mx_X11_restore go_φ 0 [(0, vv_A 0), (1, vv_I i)] [] δ Q := by
  have hxs := h
  obtain ⟨g1, g2, g3, g4, g5⟩ := h
  unfold op_restore at hQ
  refine go_iload_n (i := 1) dx_X11_restore_0 rfl rfl ?_
  refine go_if_lt (tgt := 9) dx_X11_restore_1 rfl (by omega) (fun c1 => ?_) (fun c1 => ?_)
  · refine go_bipush dx_X11_restore_9 rfl ?_
    refine go_ireturn dx_X11_restore_11 rfl (Nat.le_refl _) (Nat.le_refl _) ?_
    rw [if_pos (by omega)] at hQ
    exact hQ δ hxs fx_rf (Or.inl ⟨rfl, rfl⟩)
  · refine go_iload_n (i := 1) dx_X11_restore_4 rfl rfl ?_
    refine go_iconst dx_X11_restore_5 ?_
    refine go_icmp_lt (tgt := 12) dx_X11_restore_6 rfl (by omega) (by omega) (fun c6 => ?_) (fun c6 => ?_)
    · rw [if_neg (by omega)] at hQ
      obtain ⟨m, rfl⟩ : ∃ m : Nat, i = (m : Int) := ⟨i.toNat, by omega⟩
      rw [Int.toNat_natCast] at hQ
      refine go_aload_n (i := 0) dx_X11_restore_12 rfl rfl ?_
      refine go_getA (b := 5) fs_X11_26 rfl (go_ok rfl rfl) rfl dx_X11_restore_13 ?_
      refine go_aload_n (i := 0) dx_X11_restore_16 rfl rfl ?_
      refine go_getA (b := 3) fs_X11_19 rfl (go_ok rfl rfl) rfl dx_X11_restore_17 ?_
      refine go_iload_n (i := 1) dx_X11_restore_20 rfl rfl ?_
      refine go_cV2 sv_X11_388 (go_ok rfl rfl) dx_X11_restore_21 (Nat.le_of_ble_eq_true rfl) (Nat.le_of_ble_eq_true rfl) (g_Past_takeImage g4 g3 (by omega) (fun z1 => ?_) (fun K2 δ2 z1 h2 p2 f2 => ?_))
      · refine go_if_ne (tgt := 30) dx_X11_restore_24 rfl (by omega) (fun c24 => absurd c24 (by decide)) (fun c24 => ?_)
        refine go_bipush dx_X11_restore_27 rfl ?_
        refine go_ireturn dx_X11_restore_29 rfl (Nat.le_refl _) (Nat.le_refl _) ?_
        rw [z1] at hQ
        exact hQ δ hxs fx_rf (Or.inl ⟨rfl, rfl⟩)
      · refine go_if_ne (tgt := 30) dx_X11_restore_24 rfl (by omega) (fun c24 => ?_) (fun c24 => absurd c24 (by decide))
        refine go_aload_n (i := 0) dx_X11_restore_30 rfl rfl ?_
        refine go_dup dx_X11_restore_31 rfl ?_
        refine go_getI fs_X11_109 (Or.inl rfl) (go_ok rfl rfl) dx_X11_restore_32 ?_
        refine go_iconst dx_X11_restore_35 ?_
        refine go_iadd dx_X11_restore_36 ?_
        refine go_putI fp_X11_109 rfl rfl (go_ok rfl rfl) dx_X11_restore_37 ?_
        refine go_iconst dx_X11_restore_40 ?_
        refine go_ireturn dx_X11_restore_41 rfl (Nat.le_refl _) (Nat.le_refl _) ?_
        rw [z1] at hQ
        have F : fr [0, 3, 4, 5] δ (wr δ2 0 16 (δ2 0 16 + 1)) := fr_trs (fr_up f2 (by decide)) (fr_wr (by decide))
        exact hQ _ ⟨td_fr h2 (fr_wr (S := [0]) (by decide)) (by decide) (by decide), tp_fr g2 F (by decide) (by decide), pa_fr p2 (fr_wr (S := [0]) (by decide)) (by decide), im_fr g4 F (by decide), ty_fr g5 F (by decide) (by decide)⟩ (fx_fr0 F rfl (by rw [wr_i _ _ _ _ (by decide), f2 0 (by decide)])) (Or.inr (by rw [wr_eq, f2 0 (by decide)]))
    · refine go_bipush dx_X11_restore_9 rfl ?_
      refine go_ireturn dx_X11_restore_11 rfl (Nat.le_refl _) (Nat.le_refl _) ?_
      rw [if_pos (by omega)] at hQ
      exact hQ δ hxs fx_rf (Or.inl ⟨rfl, rfl⟩)
end GXS2
