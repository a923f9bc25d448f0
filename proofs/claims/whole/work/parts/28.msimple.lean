/-! the reference's calls that need no tables -/
section GMS2
variable {E : go_E} {d : Nat} {δ : Nat → Nat → Int} {Q : List go_V → go_F → (Nat → Nat → Int) → Prop} {K : sK} {S : sS}
theorem bt_byte_sel (k : Nat) (a b c e x : Int) (hk : k < 20) : (tp_four a ++ tp_four b ++ tp_four c ++ tp_four e ++ tp_four x)[k]'(by simp [tp_four]; omega) = bt_byte (if k < 4 then a else if k < 8 then b else if k < 12 then c else if k < 16 then e else x) (24 - 8 * (k % 4)) := by
  have : k = 0 ∨ k = 1 ∨ k = 2 ∨ k = 3 ∨ k = 4 ∨ k = 5 ∨ k = 6 ∨ k = 7 ∨ k = 8 ∨ k = 9 ∨ k = 10 ∨ k = 11 ∨ k = 12 ∨ k = 13 ∨ k = 14 ∨ k = 15 ∨ k = 16 ∨ k = 17 ∨ k = 18 ∨ k = 19 := by omega
  rcases this with rfl | rfl | rfl | rfl | rfl | rfl | rfl | rfl | rfl | rfl | rfl | rfl | rfl | rfl | rfl | rfl | rfl | rfl | rfl | rfl <;> rfl
theorem m_feed {a b c e x : Int} (h : ms_at δ S) (hQ : ∀ δ', ms_at δ' (op_feed S a b c e x).2 → fm δ δ' → δ' 94 20 = δ 94 20 → Q [vv_I (op_feed S a b c e x).1] go_φ δ') :
    Go E d (0, 0) mx_X12_feed go_φ 0 [(0, vv_A 94), (1, vv_I a), (2, vv_I b), (3, vv_I c), (4, vv_I e), (5, vv_I x)] [] δ Q := by
  obtain ⟨g1, ⟨t1, t2, t3, t4, t5, t6⟩, g3, g4, g5⟩ := h
  have hl98 : go_ln 98 = 40 := rfl
  have hms : ms_at (wr δ 94 0 0) S := ms_thr ⟨g1, ⟨t1, t2, t3, t4, t5, t6⟩, g3, g4, g5⟩
  unfold op_feed at hQ
  refine go_aload_n (i := 0) dx_X12_feed_0 rfl rfl ?_
  refine go_iconst dx_X12_feed_1 ?_
  refine go_putI fp_X12_139 rfl rfl (go_ok rfl rfl) dx_X12_feed_2 ?_
  refine go_aload_n (i := 0) dx_X12_feed_5 rfl rfl ?_
  refine go_getI fs_X12_159 (Or.inl rfl) (go_ok rfl rfl) dx_X12_feed_6 ?_
  refine go_bipush dx_X12_feed_9 rfl ?_
  refine go_iadd dx_X12_feed_11 ?_
  refine go_bipush dx_X12_feed_12 rfl ?_
  refine go_icmp_le (tgt := 20) dx_X12_feed_14 rfl (by first | omega | (rw [wr_i _ _ _ _ (by decide), t2]; omega)) (by first | omega | (rw [wr_i _ _ _ _ (by decide), t2]; omega)) (fun c14 => ?_) (fun c14 => ?_)
  · rw [wr_i _ _ _ _ (by decide), t2] at c14
    rw [if_neg (by omega)] at hQ
    have hfl : (tp_four a ++ tp_four b ++ tp_four c ++ tp_four e ++ tp_four x).length = 20 := by simp [tp_four]
    have loop : ∀ (n k : Nat) (lx : List (Nat × go_V)) (δ1 : Nat → Nat → Int), 20 - k < n → k ≤ 20 → δ1 94 6 = (S.2.1.length : Int) + k → (∀ b j, b ≠ 98 → (b = 94 → j ≠ 0 ∧ j ≠ 6) → δ1 b j = δ b j) → (∀ j, j < S.2.1.length → δ1 98 j = δ 98 j) →
        (∀ j (hj : j < k), δ1 98 (S.2.1.length + j) = (((tp_four a ++ tp_four b ++ tp_four c ++ tp_four e ++ tp_four x).getD j 0 : Nat) : Int)) →
        Go E d (0, 0) mx_X12_feed go_φ 23 [(0, vv_A 94), (1, vv_I a), (2, vv_I b), (3, vv_I c), (4, vv_I e), (5, vv_I x), (6, vv_I (k : Int))] [] δ1 Q := by
      intro n
      induction n with
      | zero => intros; omega
      | succ n ih =>
        intro k lx δ1 a1 a2 a3 a4 a5 a6
        have J : k < 20 → ∀ v, v = (if k < 4 then a else if k < 8 then b else if k < 12 then c else if k < 16 then e else x) → Go E d (0, 0) mx_X12_feed go_φ 76 [(0, vv_A 94), (1, vv_I a), (2, vv_I b), (3, vv_I c), (4, vv_I e), (5, vv_I x), (6, vv_I (k : Int))] [vv_I v] δ1 Q := by
          intro hk v hv
          have hsel := bt_byte_sel k a b c e x hk
          have hby : bv_and (bv_shr v (24 - 8 * ((k : Int) % 4))) 255 = (((tp_four a ++ tp_four b ++ tp_four c ++ tp_four e ++ tp_four x).getD k 0 : Nat) : Int) := by
            rw [show (24 : Int) - 8 * ((k : Int) % 4) = ((24 - 8 * (k % 4) : Nat) : Int) by omega, bt_byteS (by omega), List.getD_eq_getElem?_getD, List.getElem?_eq_getElem (by rw [hfl]; exact hk), Option.getD_some, hsel, hv]
          refine go_istore (lv' := [(0, vv_A 94), (1, vv_I a), (2, vv_I b), (3, vv_I c), (4, vv_I e), (5, vv_I x), (6, vv_I (k : Int)), (7, vv_I v)]) dx_X12_feed_76 (by decide) rfl ?_
          refine go_aload_n (i := 0) dx_X12_feed_78 rfl rfl ?_
          refine go_getA (b := 98) fs_X12_20 rfl (go_ok rfl rfl) rfl dx_X12_feed_79 ?_
          refine go_aload_n (i := 0) dx_X12_feed_82 rfl rfl ?_
          refine go_getI fs_X12_159 (Or.inl rfl) (go_ok rfl rfl) dx_X12_feed_83 ?_
          refine go_iload dx_X12_feed_86 rfl ?_
          refine go_bipush dx_X12_feed_88 rfl ?_
          refine go_bipush dx_X12_feed_90 rfl ?_
          refine go_iload dx_X12_feed_92 rfl ?_
          refine go_iconst dx_X12_feed_94 ?_
          refine go_irem dx_X12_feed_95 (by omega) (by omega) (by omega) (by omega) ?_
          refine go_imul dx_X12_feed_96 ?_
          refine go_isub dx_X12_feed_97 ?_
          refine go_ishr dx_X12_feed_98 ?_
          refine go_sipush dx_X12_feed_99 rfl ?_
          refine go_iand dx_X12_feed_102 ?_
          refine go_iastore dx_X12_feed_103 (go_ok rfl rfl) (by omega) (by omega) ?_
          refine go_aload_n (i := 0) dx_X12_feed_104 rfl rfl ?_
          refine go_dup dx_X12_feed_105 rfl ?_
          refine go_getI fs_X12_159 (Or.inl rfl) (go_ok rfl rfl) dx_X12_feed_106 ?_
          refine go_iconst dx_X12_feed_109 ?_
          refine go_iadd dx_X12_feed_110 ?_
          refine go_putI fp_X12_159 rfl rfl (go_ok rfl rfl) dx_X12_feed_111 ?_
          refine go_iinc (lv' := [(0, vv_A 94), (1, vv_I a), (2, vv_I b), (3, vv_I c), (4, vv_I e), (5, vv_I x), (6, vv_I ((k : Int) + 1)), (7, vv_I v)]) dx_X12_feed_114 rfl (by decide) rfl ?_
          refine go_goto (tgt := 23) dx_X12_feed_117 rfl ?_
          refine go_keep [0, 1, 2, 3, 4, 5, 6] rfl ?_
          rw [hby, a3, show ((S.2.1.length : Int) + (k : Int)).toNat = S.2.1.length + k by omega, wr_a _ _ _ _ (by decide), a3]
          refine ih (k + 1) [] _ (by omega) (by omega) ?_ (fun b j hb hj => ?_) (fun j hj => ?_) (fun j hj => ?_)
          · rw [wr_eq]; omega
          · by_cases q : b = 94
            · subst q
              have := hj rfl
              rw [wr_i _ _ _ _ (by omega), wr_a _ _ _ _ (by decide)]
              exact a4 94 j hb hj
            · rw [wr_a _ _ _ _ q, wr_a _ _ _ _ hb]
              exact a4 b j hb hj
          · rw [wr_a _ _ _ _ (by decide), wr_i _ _ _ _ (by omega)]; exact a5 j hj
          · rw [wr_a _ _ _ _ (by decide)]
            by_cases q : j = k
            · subst q; rw [wr_eq]
            · rw [wr_i _ _ _ _ (by omega)]; exact a6 j (by omega)
        refine go_iload dx_X12_feed_23 rfl ?_
        refine go_bipush dx_X12_feed_25 rfl ?_
        refine go_icmp_ge (tgt := 120) dx_X12_feed_27 rfl (by omega) (by omega) (fun c27 => ?_) (fun c27 => ?_)
        · refine go_aload_n (i := 0) dx_X12_feed_120 rfl rfl ?_
          refine go_getI fs_X12_159 (Or.inl rfl) (go_ok rfl rfl) dx_X12_feed_121 ?_
          refine go_ireturn dx_X12_feed_124 rfl (Nat.le_refl _) (Nat.le_refl _) ?_
          have hk : k = 20 := by omega
          subst hk
          rw [a3]
          refine hQ δ1 ⟨bk_fr g1 (fun j => a4 95 j (by decide) (fun q => absurd q (by decide))), ⟨?_, ?_, fun j hj => ?_, ?_, ?_, ?_⟩, pm_fr g3 (a4 94 3 (by decide) (by decide)) (fun j => a4 96 j (by decide) (fun q => absurd q (by decide))), jm_fr g4 (fun j => a4 97 j (by decide) (fun q => absurd q (by decide))) (fun j _ => a4 95 j (by decide) (fun q => absurd q (by decide))), ym_fr g5 (fun j => a4 134 j (by decide) (fun q => absurd q (by decide))) (fun j => a4 135 j (by decide) (fun q => absurd q (by decide)))⟩ (fun b hb j => a4 b j (by omega) (fun q => by omega)) (a4 94 20 (by decide) (by decide))
          · show (S.2.1 ++ tp_four a ++ tp_four b ++ tp_four c ++ tp_four e ++ tp_four x).length ≤ 40
            simp [tp_four]; omega
          · rw [a3]
            show _ = ((S.2.1 ++ tp_four a ++ tp_four b ++ tp_four c ++ tp_four e ++ tp_four x).length : Int)
            simp [tp_four]
          · have hj' : j < (S.2.1 ++ tp_four a ++ tp_four b ++ tp_four c ++ tp_four e ++ tp_four x).length := hj
            have e0 : S.2.1 ++ tp_four a ++ tp_four b ++ tp_four c ++ tp_four e ++ tp_four x = S.2.1 ++ (tp_four a ++ tp_four b ++ tp_four c ++ tp_four e ++ tp_four x) := by simp
            show δ1 98 j = (((S.2.1 ++ tp_four a ++ tp_four b ++ tp_four c ++ tp_four e ++ tp_four x)[j]'hj' : Nat) : Int)
            have e1 : (S.2.1 ++ tp_four a ++ tp_four b ++ tp_four c ++ tp_four e ++ tp_four x)[j]'hj' = (S.2.1 ++ (tp_four a ++ tp_four b ++ tp_four c ++ tp_four e ++ tp_four x)).getD j 0 := by
              rw [List.getD_eq_getElem?_getD, ← e0, List.getElem?_eq_getElem hj', Option.getD_some]
            rw [e1]
            rw [e0, List.length_append, hfl] at hj'
            by_cases q : j < S.2.1.length
            · rw [a5 j q, t3 j q, List.getD_eq_getElem?_getD, List.getElem?_append_left q, List.getElem?_eq_getElem q, Option.getD_some]
            · generalize tp_four a ++ tp_four b ++ tp_four c ++ tp_four e ++ tp_four x = F at a6 hj' ⊢
              have e3 : (S.2.1 ++ F).getD j 0 = F.getD (j - S.2.1.length) 0 := by rw [List.getD_eq_getElem?_getD, List.getElem?_append_right (Nat.le_of_not_lt q), ← List.getD_eq_getElem?_getD]
              have hjj : j < S.2.1.length + 20 := hj'
              have e4 := a6 (j - S.2.1.length) (by omega)
              rw [show S.2.1.length + (j - S.2.1.length) = j by omega] at e4
              rw [e3, e4]
          · intro y hy
            have hy' : y ∈ S.2.1 ++ tp_four a ++ tp_four b ++ tp_four c ++ tp_four e ++ tp_four x := hy
            simp only [List.mem_append] at hy'
            rcases hy' with ((((q | q) | q) | q) | q) | q
            · exact t4 y q
            all_goals (simp only [tp_four, List.mem_cons, List.not_mem_nil, or_false] at q; rcases q with rfl | rfl | rfl | rfl <;> exact tp_byte_lt _ _)
          · rw [a4 94 7 (by decide) (by decide)]; exact t5
          · rw [a4 94 8 (by decide) (by decide)]; exact t6
        · refine go_iload dx_X12_feed_30 rfl ?_
          refine go_iconst dx_X12_feed_32 ?_
          refine go_icmp_ge (tgt := 40) dx_X12_feed_33 rfl (by omega) (by omega) (fun c33 => ?_) (fun c33 => ?_)
          · refine go_iload dx_X12_feed_40 rfl ?_
            refine go_bipush dx_X12_feed_42 rfl ?_
            refine go_icmp_ge (tgt := 51) dx_X12_feed_44 rfl (by omega) (by omega) (fun c44 => ?_) (fun c44 => ?_)
            · refine go_iload dx_X12_feed_51 rfl ?_
              refine go_bipush dx_X12_feed_53 rfl ?_
              refine go_icmp_ge (tgt := 62) dx_X12_feed_55 rfl (by omega) (by omega) (fun c55 => ?_) (fun c55 => ?_)
              · refine go_iload dx_X12_feed_62 rfl ?_
                refine go_bipush dx_X12_feed_64 rfl ?_
                refine go_icmp_ge (tgt := 74) dx_X12_feed_66 rfl (by omega) (by omega) (fun c66 => ?_) (fun c66 => ?_)
                · refine go_iload dx_X12_feed_74 rfl ?_
                  refine J (by omega) _ ?_
                  first | (rw [if_pos (by omega)]) | (rw [if_neg (by omega), if_pos (by omega)]) | (rw [if_neg (by omega), if_neg (by omega), if_pos (by omega)]) | (rw [if_neg (by omega), if_neg (by omega), if_neg (by omega), if_pos (by omega)]) | (rw [if_neg (by omega), if_neg (by omega), if_neg (by omega), if_neg (by omega)])
                · refine go_iload dx_X12_feed_69 rfl ?_
                  refine go_goto (tgt := 76) dx_X12_feed_71 rfl ?_
                  refine J (by omega) _ ?_
                  first | (rw [if_pos (by omega)]) | (rw [if_neg (by omega), if_pos (by omega)]) | (rw [if_neg (by omega), if_neg (by omega), if_pos (by omega)]) | (rw [if_neg (by omega), if_neg (by omega), if_neg (by omega), if_pos (by omega)]) | (rw [if_neg (by omega), if_neg (by omega), if_neg (by omega), if_neg (by omega)])
              · refine go_iload_n (i := 3) dx_X12_feed_58 rfl rfl ?_
                refine go_goto (tgt := 76) dx_X12_feed_59 rfl ?_
                refine J (by omega) _ ?_
                first | (rw [if_pos (by omega)]) | (rw [if_neg (by omega), if_pos (by omega)]) | (rw [if_neg (by omega), if_neg (by omega), if_pos (by omega)]) | (rw [if_neg (by omega), if_neg (by omega), if_neg (by omega), if_pos (by omega)]) | (rw [if_neg (by omega), if_neg (by omega), if_neg (by omega), if_neg (by omega)])
            · refine go_iload_n (i := 2) dx_X12_feed_47 rfl rfl ?_
              refine go_goto (tgt := 76) dx_X12_feed_48 rfl ?_
              refine J (by omega) _ ?_
              first | (rw [if_pos (by omega)]) | (rw [if_neg (by omega), if_pos (by omega)]) | (rw [if_neg (by omega), if_neg (by omega), if_pos (by omega)]) | (rw [if_neg (by omega), if_neg (by omega), if_neg (by omega), if_pos (by omega)]) | (rw [if_neg (by omega), if_neg (by omega), if_neg (by omega), if_neg (by omega)])
          · refine go_iload_n (i := 1) dx_X12_feed_36 rfl rfl ?_
            refine go_goto (tgt := 76) dx_X12_feed_37 rfl ?_
            refine J (by omega) _ ?_
            first | (rw [if_pos (by omega)]) | (rw [if_neg (by omega), if_pos (by omega)]) | (rw [if_neg (by omega), if_neg (by omega), if_pos (by omega)]) | (rw [if_neg (by omega), if_neg (by omega), if_neg (by omega), if_pos (by omega)]) | (rw [if_neg (by omega), if_neg (by omega), if_neg (by omega), if_neg (by omega)])
    refine go_iconst dx_X12_feed_20 ?_
    refine go_istore (lv' := [(0, vv_A 94), (1, vv_I a), (2, vv_I b), (3, vv_I c), (4, vv_I e), (5, vv_I x), (6, vv_I 0)]) dx_X12_feed_21 (by decide) rfl ?_
    refine loop 21 0 [] _ (by omega) (by omega) (by rw [wr_i _ _ _ _ (by decide), t2]; omega) (fun b j hb hj => ?_) (fun j hj => by rw [wr_a _ _ _ _ (by decide)]) (fun j hj => by omega)
    by_cases q : b = 94
    · subst q; exact wr_i _ _ _ _ (hj rfl).1
    · exact wr_a _ _ _ _ q j
  · refine go_bipush dx_X12_feed_17 rfl ?_
    refine go_ireturn dx_X12_feed_19 rfl (Nat.le_refl _) (Nat.le_refl _) ?_
    rw [wr_i _ _ _ _ (by decide), t2] at c14
    rw [if_pos (by omega)] at hQ
    exact hQ _ hms (fm_wr (by decide)) (wr_i _ _ _ _ (by decide))
theorem m_faultOfRule {t : List Nat} {n : Nat} (ht : ∀ k (h : k < t.length), δ 98 k = (t[k] : Int)) (h256 : ∀ c ∈ t, c < 256) (h40 : t.length ≤ 40) (hn : n ≤ t.length)
    (h0 : (rl_fault (t.take n)).1 = 0 → Q [vv_I 0] go_φ δ) (h1 : (rl_fault (t.take n)).1 ≠ 0 → Q [vv_I (-30 - (rl_fault (t.take n)).1)] go_φ (wr (wr δ 94 7 (rl_fault (t.take n)).1) 94 8 (rl_fault (t.take n)).2)) :
    Go E (d + 2) (0, 0) mx_X12_faultOfRule go_φ 0 [(0, vv_A 94), (1, vv_I (n : Int))] [] δ Q := by
  have hl98 : go_ln 98 = 40 := rfl
  have hbl : (t.take n).length = n := by rw [List.length_take]; omega
  have loop : ∀ (k i : Nat), n - i < k → i ≤ n → rl_flt 0 (t.take n) = rl_flt i ((t.take n).drop i) → Go E (d + 2) (0, 0) mx_X12_faultOfRule go_φ 2 [(0, vv_A 94), (1, vv_I (n : Int)), (2, vv_I (i : Int))] [] δ Q := by
    intro k
    induction k with
    | zero => intros; omega
    | succ k ih =>
      intro i a1 a2 a3
      refine go_iload_n (i := 2) dx_X12_faultOfRule_2 rfl rfl ?_
      refine go_iload_n (i := 1) dx_X12_faultOfRule_3 rfl rfl ?_
      refine go_icmp_ge (tgt := 60) dx_X12_faultOfRule_4 rfl (by omega) (by omega) (fun c4 => ?_) (fun c4 => ?_)
      · have hin : i = n := by omega
        subst hin
        have hnone : rl_flt 0 (t.take i) = none := by rw [a3, List.drop_of_length_le (by omega)]; rfl
        have B : i < 2 → rl_fault (t.take i) = (2, (i : Int)) := fun h2i => by
          unfold rl_fault
          rw [hnone]
          show (if (t.take i).length < 2 then _ else _) = _
          rw [if_pos (by omega), hbl]
        refine go_iload_n (i := 1) dx_X12_faultOfRule_60 rfl rfl ?_
        refine go_iconst dx_X12_faultOfRule_61 ?_
        refine go_icmp_ge (tgt := 74) dx_X12_faultOfRule_62 rfl (by omega) (by omega) (fun c62 => ?_) (fun c62 => ?_)
        · refine go_iconst dx_X12_faultOfRule_74 ?_
          refine go_ireturn dx_X12_faultOfRule_75 rfl (Nat.le_refl _) (Nat.le_refl _) ?_
          first | exact h0 (by rw [rl_fault_none hnone (by omega)]) | (rw [B (by omega)] at h1; exact h1 (by simp))
        · refine go_aload_n (i := 0) dx_X12_faultOfRule_65 rfl rfl ?_
          refine go_iconst dx_X12_faultOfRule_66 ?_
          refine go_iload_n (i := 1) dx_X12_faultOfRule_67 rfl rfl ?_
          refine go_cV2 sv_X12_173 (go_ok rfl rfl) dx_X12_faultOfRule_68 (Nat.le_of_ble_eq_true rfl) (Nat.le_of_ble_eq_true rfl) (m_fails ?_)
          refine go_goto (tgt := 75) dx_X12_faultOfRule_71 rfl ?_
          refine go_ireturn dx_X12_faultOfRule_75 rfl (Nat.le_refl _) (Nat.le_refl _) ?_
          first | exact h0 (by rw [rl_fault_none hnone (by omega)]) | (rw [B (by omega)] at h1; exact h1 (by simp))
      · have hi : i < t.length := by omega
        have hdrop : (t.take n).drop i = t[i] :: (t.take n).drop (i + 1) := by
          rw [List.drop_eq_getElem_cons (by omega), List.getElem_take]
        have hc256 : t[i] < 256 := h256 _ (List.getElem_mem hi)
        have hti := ht i hi
        have hsy := sy_range t[i]
        have F3 : 5 < i → rl_fault (t.take n) = (3, (i : Int)) := fun q => by
          unfold rl_fault
          rw [a3, hdrop]
          unfold rl_flt
          rw [if_pos (by omega)]
        have F1 : i ≤ 5 → (sy t[i] = -1 ∨ (i = 0 ∧ 8 ≤ sy t[i])) → rl_fault (t.take n) = (1, (i : Int)) := fun q z => by
          unfold rl_fault
          rw [a3, hdrop]
          unfold rl_flt
          rw [if_neg (by omega), if_pos z]
        have F0 : i ≤ 5 → ¬ (sy t[i] = -1 ∨ (i = 0 ∧ 8 ≤ sy t[i])) → rl_flt 0 (t.take n) = rl_flt (i + 1) ((t.take n).drop (i + 1)) := fun q z => by
          rw [a3, hdrop]
          show rl_flt i (t[i] :: _) = _
          rw [rl_flt, if_neg (by omega), if_neg z]
        refine go_iload_n (i := 2) dx_X12_faultOfRule_7 rfl rfl ?_
        refine go_iconst dx_X12_faultOfRule_8 ?_
        refine go_icmp_le (tgt := 19) dx_X12_faultOfRule_9 rfl (by omega) (by omega) (fun c9 => ?_) (fun c9 => ?_)
        · refine go_aload_n (i := 0) dx_X12_faultOfRule_19 rfl rfl ?_
          refine go_getA (b := 98) fs_X12_20 rfl (go_ok rfl rfl) rfl dx_X12_faultOfRule_20 ?_
          refine go_iload_n (i := 2) dx_X12_faultOfRule_23 rfl rfl ?_
          refine go_iaload dx_X12_faultOfRule_24 (go_ok rfl rfl) (by omega) (by omega) ?_
          refine go_cS1 ss_X12_177 dx_X12_faultOfRule_25 (Nat.le_of_ble_eq_true rfl) (Nat.le_of_ble_eq_true rfl) (m_isSymbolByte (by rw [Int.toNat_natCast, hti]; omega) (fun b1 b2 => ?_) (fun b1 => ?_))
          · refine go_if_ne (tgt := 54) dx_X12_faultOfRule_28 rfl (by omega) (fun c28 => ?_) (fun c28 => absurd c28 (by decide))
            refine go_iinc (lv' := [(0, vv_A 94), (1, vv_I (n : Int)), (2, vv_I ((i : Int) + 1))]) dx_X12_faultOfRule_54 rfl (by decide) rfl ?_
            refine go_goto (tgt := 2) dx_X12_faultOfRule_57 rfl ?_
            rw [Int.toNat_natCast, hti] at b1
            first | (rw [Int.toNat_natCast, hti] at b2) | skip
            first | (rw [Int.toNat_natCast, hti] at b3 b4) | skip
            refine ih (i + 1) (by omega) (by omega) (F0 (by omega) ?_)
            first | (rw [sy_1 (by omega) (by omega)]; omega) | (rw [sy_2 (by omega) (by omega)]; omega)
          · refine go_if_ne (tgt := 54) dx_X12_faultOfRule_28 rfl (by omega) (fun c28 => absurd c28 (by decide)) (fun c28 => ?_)
            refine go_iload_n (i := 2) dx_X12_faultOfRule_31 rfl rfl ?_
            refine go_if_eq (tgt := 47) dx_X12_faultOfRule_32 rfl (by omega) (fun c32 => ?_) (fun c32 => ?_)
            · refine go_aload_n (i := 0) dx_X12_faultOfRule_47 rfl rfl ?_
              refine go_iconst dx_X12_faultOfRule_48 ?_
              refine go_iload_n (i := 2) dx_X12_faultOfRule_49 rfl rfl ?_
              refine go_cV2 sv_X12_173 (go_ok rfl rfl) dx_X12_faultOfRule_50 (Nat.le_of_ble_eq_true rfl) (Nat.le_of_ble_eq_true rfl) (m_fails ?_)
              refine go_ireturn dx_X12_faultOfRule_53 rfl (Nat.le_refl _) (Nat.le_refl _) ?_
              rw [Int.toNat_natCast, hti] at b1
              first | (rw [Int.toNat_natCast, hti] at b3) | skip
              have Z : sy t[i] = -1 ∨ (i = 0 ∧ 8 ≤ sy t[i]) := by
                by_cases q : 97 ≤ t[i] ∧ t[i] ≤ 102
                · first | (exact absurd q (by omega)) | (exact Or.inr ⟨by omega, by rw [sy_2 q.1 q.2]; omega⟩)
                · exact Or.inl (sy_3 (by omega) q)
              rw [F1 (by omega) Z] at h1
              exact h1 (by simp)
            · refine go_aload_n (i := 0) dx_X12_faultOfRule_35 rfl rfl ?_
              refine go_getA (b := 98) fs_X12_20 rfl (go_ok rfl rfl) rfl dx_X12_faultOfRule_36 ?_
              refine go_iload_n (i := 2) dx_X12_faultOfRule_39 rfl rfl ?_
              refine go_iaload dx_X12_faultOfRule_40 (go_ok rfl rfl) (by omega) (by omega) ?_
              refine go_cS1 ss_X12_181 dx_X12_faultOfRule_41 (Nat.le_of_ble_eq_true rfl) (Nat.le_of_ble_eq_true rfl) (m_isLetterByte (by rw [Int.toNat_natCast, hti]; omega) (fun b3 b4 => ?_) (fun b3 => ?_))
              · refine go_if_ne (tgt := 54) dx_X12_faultOfRule_44 rfl (by omega) (fun c44 => ?_) (fun c44 => absurd c44 (by decide))
                refine go_iinc (lv' := [(0, vv_A 94), (1, vv_I (n : Int)), (2, vv_I ((i : Int) + 1))]) dx_X12_faultOfRule_54 rfl (by decide) rfl ?_
                refine go_goto (tgt := 2) dx_X12_faultOfRule_57 rfl ?_
                rw [Int.toNat_natCast, hti] at b1
                first | (rw [Int.toNat_natCast, hti] at b2) | skip
                first | (rw [Int.toNat_natCast, hti] at b3 b4) | skip
                refine ih (i + 1) (by omega) (by omega) (F0 (by omega) ?_)
                first | (rw [sy_1 (by omega) (by omega)]; omega) | (rw [sy_2 (by omega) (by omega)]; omega)
              · refine go_if_ne (tgt := 54) dx_X12_faultOfRule_44 rfl (by omega) (fun c44 => absurd c44 (by decide)) (fun c44 => ?_)
                refine go_aload_n (i := 0) dx_X12_faultOfRule_47 rfl rfl ?_
                refine go_iconst dx_X12_faultOfRule_48 ?_
                refine go_iload_n (i := 2) dx_X12_faultOfRule_49 rfl rfl ?_
                refine go_cV2 sv_X12_173 (go_ok rfl rfl) dx_X12_faultOfRule_50 (Nat.le_of_ble_eq_true rfl) (Nat.le_of_ble_eq_true rfl) (m_fails ?_)
                refine go_ireturn dx_X12_faultOfRule_53 rfl (Nat.le_refl _) (Nat.le_refl _) ?_
                rw [Int.toNat_natCast, hti] at b1
                first | (rw [Int.toNat_natCast, hti] at b3) | skip
                have Z : sy t[i] = -1 ∨ (i = 0 ∧ 8 ≤ sy t[i]) := by
                  by_cases q : 97 ≤ t[i] ∧ t[i] ≤ 102
                  · first | (exact absurd q (by omega)) | (exact Or.inr ⟨by omega, by rw [sy_2 q.1 q.2]; omega⟩)
                  · exact Or.inl (sy_3 (by omega) q)
                rw [F1 (by omega) Z] at h1
                exact h1 (by simp)
        · refine go_aload_n (i := 0) dx_X12_faultOfRule_12 rfl rfl ?_
          refine go_iconst dx_X12_faultOfRule_13 ?_
          refine go_iload_n (i := 2) dx_X12_faultOfRule_14 rfl rfl ?_
          refine go_cV2 sv_X12_173 (go_ok rfl rfl) dx_X12_faultOfRule_15 (Nat.le_of_ble_eq_true rfl) (Nat.le_of_ble_eq_true rfl) (m_fails ?_)
          refine go_ireturn dx_X12_faultOfRule_18 rfl (Nat.le_refl _) (Nat.le_refl _) ?_
          rw [F3 (by omega)] at h1
          exact h1 (by simp)
  refine go_iconst dx_X12_faultOfRule_0 ?_
  refine go_istore_n (i := 2) (lv' := [(0, vv_A 94), (1, vv_I (n : Int)), (2, vv_I 0)]) dx_X12_faultOfRule_1 rfl (by decide) rfl ?_
  exact loop (n + 1) 0 (by omega) (by omega) rfl
theorem m_isAlike {t : List Nat} {n r : Nat} (hb : bk_at δ 95 0 K) (hr : r < 16) (ht : ∀ k (h : k < t.length), δ 98 k = (t[k] : Int)) (h256 : ∀ c ∈ t, c < 256) (hn : n ≤ t.length) (hz : (rl_fault (t.take n)).1 = 0)
    (h1 : K.1 r = rl_of (t.take n) → Q [vv_I 1] go_φ δ) (h0 : K.1 r ≠ rl_of (t.take n) → Q [vv_I 0] go_φ δ) :
    Go E (d + 3) (0, 0) mx_X12_isAlike go_φ 0 [(0, vv_A 94), (1, vv_I (r : Int)), (2, vv_I (n : Int))] [] δ Q := by
  have hl98 : go_ln 98 = 40 := rfl
  obtain ⟨f1, f2, f3, f4⟩ := rl_fault_ok hz
  have hbl : (t.take n).length = n := by rw [List.length_take]; omega
  have hrl : (rl_of (t.take n)).length = n := by unfold rl_of; rw [List.length_map, hbl]
  have hok := hb.2.2.2.2.1 r
  have hlen := hok.len
  have hsy : ∀ i (hi : i < n), 0 ≤ sy (t[i]'(by omega)) ∧ sy (t[i]'(by omega)) ≤ 13 ∧ (rl_of (t.take n)).getD i 0 = (sy (t[i]'(by omega))).toNat := fun i hi => by
    have z := (rl_flt_none f1).2 i (by omega)
    rw [List.getElem_take] at z
    exact ⟨z.1, (sy_range _).2, by rw [List.getD_eq_getElem?_getD, rl_of_get (show i < (t.take n).length by omega), List.getElem_take]; rfl⟩
  have hlt : ∀ i, (K.1 r).getD i 0 < 16 := fun i => by
    rw [List.getD_eq_getElem?_getD]
    cases q : (K.1 r)[i]? with
    | none => decide
    | some v => exact hok.lt v (List.mem_of_getElem? q)
  have heq : (K.1 r).length = n → (∀ i, i < n → (K.1 r).getD i 0 = (rl_of (t.take n)).getD i 0) → K.1 r = rl_of (t.take n) := fun q1 q2 => by
    apply List.ext_getElem (by rw [q1, hrl])
    intro i g1 g2
    have := q2 i (by omega)
    rw [List.getD_eq_getElem?_getD, List.getD_eq_getElem?_getD, List.getElem?_eq_getElem g1, List.getElem?_eq_getElem g2] at this
    exact this
  have hne : ∀ i, i < n → (K.1 r).getD i 0 ≠ (rl_of (t.take n)).getD i 0 → K.1 r ≠ rl_of (t.take n) := fun i hi q z => q (by rw [z])
  have loop : (K.1 r).length = n → ∀ (k i : Nat), n - i < k → 1 ≤ i → i ≤ n → (∀ j, j < i → (K.1 r).getD j 0 = (rl_of (t.take n)).getD j 0) → Go E (d + 3) (0, 0) mx_X12_isAlike go_φ 32 [(0, vv_A 94), (1, vv_I (r : Int)), (2, vv_I (n : Int)), (3, vv_I (i : Int))] [] δ Q := by
    intro hkl k
    induction k with
    | zero => intros; omega
    | succ k ih =>
      intro i a1 a2 a3 a4
      refine go_iload_n (i := 3) dx_X12_isAlike_32 rfl rfl ?_
      refine go_iload_n (i := 2) dx_X12_isAlike_33 rfl rfl ?_
      refine go_icmp_ge (tgt := 65) dx_X12_isAlike_34 rfl (by omega) (by omega) (fun c34 => ?_) (fun c34 => ?_)
      · refine go_iconst dx_X12_isAlike_65 ?_
        refine go_zreturn dx_X12_isAlike_66 rfl (by first | omega | (exact Or.inr rfl)) (Nat.le_refl _) (Nat.le_refl _) ?_
        exact h1 (heq hkl (fun j hj => a4 j (by omega)))
      · have hin : i < n := by omega
        have z := hsy i hin
        have zl := hlt i
        refine go_aload_n (i := 0) dx_X12_isAlike_37 rfl rfl ?_
        refine go_iload_n (i := 1) dx_X12_isAlike_38 rfl rfl ?_
        refine go_iload_n (i := 3) dx_X12_isAlike_39 rfl rfl ?_
        refine go_iconst dx_X12_isAlike_40 ?_
        refine go_isub dx_X12_isAlike_41 ?_
        rw [show (i : Int) - 1 = ((i - 1 : Nat) : Int) by omega]
        refine go_cV2 sv_X12_190 (go_ok rfl rfl) dx_X12_isAlike_42 (Nat.le_of_ble_eq_true rfl) (Nat.le_of_ble_eq_true rfl) (m_partOf hb hr (by omega) ?_)
        refine go_aload_n (i := 0) dx_X12_isAlike_45 rfl rfl ?_
        refine go_getA (b := 98) fs_X12_20 rfl (go_ok rfl rfl) rfl dx_X12_isAlike_46 ?_
        refine go_iload_n (i := 3) dx_X12_isAlike_49 rfl rfl ?_
        refine go_iaload dx_X12_isAlike_50 (go_ok rfl rfl) (by omega) (by omega) ?_
        refine go_cS1 ss_X12_187 dx_X12_isAlike_51 (Nat.le_of_ble_eq_true rfl) (Nat.le_of_ble_eq_true rfl) (m_symbolByte (ht i (by omega)) (h256 _ (List.getElem_mem (by omega))) (by omega) ?_)
        rw [show i - 1 + 1 = i by omega]
        refine go_icmp_eq (tgt := 59) dx_X12_isAlike_54 rfl (by omega) (by omega) (fun c54 => ?_) (fun c54 => ?_)
        · refine go_iinc (lv' := [(0, vv_A 94), (1, vv_I (r : Int)), (2, vv_I (n : Int)), (3, vv_I ((i : Int) + 1))]) dx_X12_isAlike_59 rfl (by decide) rfl ?_
          refine go_goto (tgt := 32) dx_X12_isAlike_62 rfl ?_
          refine ih (i + 1) (by omega) (by omega) (by omega) (fun j hj => ?_)
          by_cases q : j = i
          · subst q; omega
          · exact a4 j (by omega)
        · refine go_iconst dx_X12_isAlike_57 ?_
          refine go_zreturn dx_X12_isAlike_58 rfl (by first | omega | (exact Or.inl rfl)) (Nat.le_refl _) (Nat.le_refl _) ?_
          exact h0 (hne i hin (by omega))
  have z0 := hsy 0 (by omega)
  have zl0 := hlt 0
  refine go_aload_n (i := 0) dx_X12_isAlike_0 rfl rfl ?_
  refine go_iload_n (i := 1) dx_X12_isAlike_1 rfl rfl ?_
  refine go_cV1 sv_X12_148 (go_ok rfl rfl) dx_X12_isAlike_2 (Nat.le_of_ble_eq_true rfl) (Nat.le_of_ble_eq_true rfl) (m_longOf hb hr ?_)
  refine go_iload_n (i := 2) dx_X12_isAlike_5 rfl rfl ?_
  refine go_iconst dx_X12_isAlike_6 ?_
  refine go_isub dx_X12_isAlike_7 ?_
  refine go_icmp_ne (tgt := 28) dx_X12_isAlike_8 rfl (by omega) (by omega) (fun c8 => ?_) (fun c8 => ?_)
  · refine go_iconst dx_X12_isAlike_28 ?_
    refine go_zreturn dx_X12_isAlike_29 rfl (by first | omega | (exact Or.inl rfl)) (Nat.le_refl _) (Nat.le_refl _) ?_
    first | exact h0 (fun q => by rw [q, hrl] at c8; omega) | exact h0 (hne 0 (by omega) (by omega))
  · refine go_aload_n (i := 0) dx_X12_isAlike_11 rfl rfl ?_
    refine go_iload_n (i := 1) dx_X12_isAlike_12 rfl rfl ?_
    refine go_cV1 sv_X12_184 (go_ok rfl rfl) dx_X12_isAlike_13 (Nat.le_of_ble_eq_true rfl) (Nat.le_of_ble_eq_true rfl) (m_symbolOf hb hr ?_)
    refine go_aload_n (i := 0) dx_X12_isAlike_16 rfl rfl ?_
    refine go_getA (b := 98) fs_X12_20 rfl (go_ok rfl rfl) rfl dx_X12_isAlike_17 ?_
    refine go_iconst dx_X12_isAlike_20 ?_
    refine go_iaload dx_X12_isAlike_21 (go_ok rfl rfl) (by omega) (by omega) ?_
    refine go_cS1 ss_X12_187 dx_X12_isAlike_22 (Nat.le_of_ble_eq_true rfl) (Nat.le_of_ble_eq_true rfl) (m_symbolByte (ht 0 (by omega)) (h256 _ (List.getElem_mem (by omega))) (by omega) ?_)
    refine go_icmp_eq (tgt := 30) dx_X12_isAlike_25 rfl (by omega) (by omega) (fun c25 => ?_) (fun c25 => ?_)
    · refine go_iconst dx_X12_isAlike_30 ?_
      refine go_istore_n (i := 3) (lv' := [(0, vv_A 94), (1, vv_I (r : Int)), (2, vv_I (n : Int)), (3, vv_I 1)]) dx_X12_isAlike_31 rfl (by decide) rfl ?_
      exact loop (by omega) (n + 1) 1 (by omega) (by omega) (by omega) (fun j hj => by rw [show j = 0 by omega]; omega)
    · refine go_iconst dx_X12_isAlike_28 ?_
      refine go_zreturn dx_X12_isAlike_29 rfl (by first | omega | (exact Or.inl rfl)) (Nat.le_refl _) (Nat.le_refl _) ?_
      first | exact h0 (fun q => by rw [q, hrl] at c8; omega) | exact h0 (hne 0 (by omega) (by omega))
theorem bk_rule {δ δ' : Nat → Nat → Int} {K : sK} {r : Nat} {l : List Nat} (h : bk_at δ 95 0 K) (hr : r < 16) (hl : rl_ok l) (hd : l = [] ∨ ∀ s, s ≠ r → K.1 s ≠ l)
    (e0 : δ' 95 (7 * r) = ((l.length - 1 : Nat) : Int)) (e1 : ∀ i, i < 6 → δ' 95 (7 * r + 1 + i) = ((l.getD i 0 : Nat) : Int)) (e2 : ∀ j, j < 128 → ¬ (7 * r ≤ j ∧ j < 7 * r + 7) → δ' 95 j = δ 95 j) :
    bk_at δ' 95 0 (fun s => if s = r then l else K.1 s, K.2) := by
  obtain ⟨h1, h2, h3, h4, q1, q2, q3, q4, q5⟩ := h
  refine ⟨fun s hs => ?_, by rw [e2 _ (by omega) (by omega)]; exact h2, by rw [e2 _ (by omega) (by omega)]; exact h3, fun i hi => by rw [e2 _ (by omega) (by omega)]; exact h4 i hi, fun s => ?_, fun s hs => ?_, fun s u hsu hs => ?_, q4, q5⟩
  · show δ' 95 (0 + 7 * s) = (((if s = r then l else K.1 s).length - 1 : Nat) : Int) ∧ ∀ i, i < 6 → δ' 95 (0 + (7 * s + 1 + i)) = (((if s = r then l else K.1 s).getD i 0 : Nat) : Int)
    by_cases e : s = r
    · subst e
      rw [if_pos rfl, Nat.zero_add]
      exact ⟨e0, fun i hi => by rw [Nat.zero_add]; exact e1 i hi⟩
    · rw [if_neg e, e2 _ (by omega) (by omega)]
      exact ⟨(h1 s hs).1, fun i hi => by rw [e2 _ (by omega) (by omega)]; exact (h1 s hs).2 i hi⟩
  · show rl_ok (if s = r then l else K.1 s)
    split
    · exact hl
    · exact q1 s
  · show (if s = r then l else K.1 s) = []
    rw [if_neg (by omega)]; exact q2 s hs
  · have hs' : (if s = r then l else K.1 s) ≠ [] := hs
    show (if s = r then l else K.1 s) ≠ (if u = r then l else K.1 u)
    by_cases e : s = r
    · subst e
      rw [if_pos rfl] at hs' ⊢
      rw [if_neg (fun z => hsu z.symm)]
      rcases hd with rfl | hd
      · exact absurd rfl hs'
      · exact fun z => hd u (fun z => hsu z.symm) z.symm
    · rw [if_neg e] at hs' ⊢
      by_cases e2 : u = r
      · subst e2
        rw [if_pos rfl]
        rcases hd with rfl | hd
        · exact hs'
        · exact hd s e
      · rw [if_neg e2]
        exact q3 s u hsu hs'
/-- behind notes(): all but the past is as it was -/
theorem ms_keep {δ δ1 δ2 : Nat → Nat → Int} {K' : sK} (h : ms_at δ S) (hp : pm_at δ1 ((S.1 :: S.2.2.2.1).take 10)) (h1 : bk_at δ2 95 0 K') (e : ∀ b j, b ≠ 96 → (b = 94 → j ≠ 3 ∧ j ≠ 20) → δ1 b j = δ b j) (f : ∀ b j, (b = 95 → 128 ≤ j) → δ2 b j = δ1 b j) :
    ms_at δ2 (op_keep S K') := by
  obtain ⟨g1, g2, g3, g4, g5⟩ := h
  have N : ∀ b : Nat, b ≠ 94 → ∀ j, (b = 94 → j ≠ 3 ∧ j ≠ 20) := fun b hb j q => absurd q hb
  have F : ∀ b : Nat, b ≠ 95 → ∀ j, δ2 b j = δ1 b j := fun b hb j => f b j (fun q => absurd q hb)
  refine ⟨h1, tm_fr g2 (fun j hj => by rw [F 94 (by decide), e 94 j (by decide) (fun _ => by omega)]) (fun j => by rw [F 98 (by decide), e 98 j (by decide) (N 98 (by decide) j)]), pm_fr hp (F 94 (by decide) 3) (fun j => F 96 (by decide) j), jm_fr g4 (fun j => by rw [F 97 (by decide), e 97 j (by decide) (N 97 (by decide) j)]) (fun j hj => by rw [f 95 j (fun _ => hj), e 95 j (by decide) (N 95 (by decide) j)]), ym_fr g5 (fun j => by rw [F 134 (by decide), e 134 j (by decide) (N 134 (by decide) j)]) (fun j => by rw [F 135 (by decide), e 135 j (by decide) (N 135 (by decide) j)])⟩
theorem rl_fault_rng (bs : List Nat) : 0 ≤ (rl_fault bs).1 ∧ (rl_fault bs).1 ≤ 3 := by
  unfold rl_fault
  split
  next f hf => rcases rl_flt_some hf with q | q <;> omega
  next => split <;> simp
theorem m_rule {n : Int} (hn : go_iI n) (h : ms_at δ S)
    (hQ : ∀ δ', ms_at δ' (op_rule S n).2 → fm δ δ' → (δ' 94 20 = δ 94 20 ∧ (op_rule S n).2.1 = S.1 ∨ δ' 94 20 = 0) → Q [vv_I (op_rule S n).1] go_φ δ') :
    Go E (d + 4) (0, 0) mx_X12_rule go_φ 0 [(0, vv_A 94), (1, vv_I n)] [] δ Q := by
  have hl98 : go_ln 98 = 40 := rfl
  have hl95 : go_ln 95 = 384 := rfl
  refine go_aload_n (i := 0) dx_X12_rule_0 rfl rfl ?_
  refine go_iconst dx_X12_rule_1 ?_
  refine go_putI fp_X12_139 rfl rfl (go_ok rfl rfl) dx_X12_rule_2 ?_
  have h := ms_thr (v := 0) h
  have f0 : fm δ (wr δ 94 0 0) := fm_wr (by decide)
  have e20 : (wr δ 94 0 0) 94 20 = δ 94 20 := wr_i _ _ _ _ (by decide)
  generalize wr δ 94 0 0 = δ0 at h f0 e20 ⊢
  have hms := h
  obtain ⟨g1, ⟨t1, t2, t3, t4, t5, t6⟩, g3, g4, g5⟩ := h
  have q1 := g1.2.2.2.2
  unfold op_rule at hQ
  refine go_iload_n (i := 1) dx_X12_rule_5 rfl rfl ?_
  refine go_i2l dx_X12_rule_6 (by omega) ?_
  refine go_lconst (x := 0) dx_X12_rule_7 rfl ?_
  refine go_aload_n (i := 0) dx_X12_rule_8 rfl rfl ?_
  refine go_getI fs_X12_159 (Or.inl rfl) (go_ok rfl rfl) dx_X12_rule_9 ?_
  refine go_i2l dx_X12_rule_12 (by omega) ?_
  refine go_cS3 ss_X12_144 dx_X12_rule_13 (Nat.le_of_ble_eq_true rfl) (Nat.le_of_ble_eq_true rfl) (m_within (by omega) (by omega) (by omega) (fun a1 a2 => ?_) (fun b1 => ?_))
  · refine go_if_ne (tgt := 22) dx_X12_rule_16 rfl (by omega) (fun c16 => ?_) (fun c16 => absurd c16 (by decide))
    rw [if_neg (by omega)] at hQ
    obtain ⟨m, rfl⟩ : ∃ m : Nat, n = (m : Int) := ⟨n.toNat, by omega⟩
    rw [Int.toNat_natCast] at hQ
    have loop1 : ∀ (k i : Nat), 16 - i < k → i ≤ 16 → (∀ s, s < i → S.1.1 s ≠ []) → Go E (d + 4) (0, 0) mx_X12_rule go_φ 24 [(0, vv_A 94), (1, vv_I (m : Int)), (2, vv_I (i : Int))] [] δ0 Q := by
      intro k
      induction k with
      | zero => intros; omega
      | succ k ih =>
        intro i b1 b2 b3
        have hlen := (q1.1 i).len
        refine go_iload_n (i := 2) dx_X12_rule_24 rfl rfl ?_
        refine go_bipush dx_X12_rule_25 rfl ?_
        refine go_icmp_ge (tgt := 44) dx_X12_rule_27 rfl (by omega) (by omega) (fun c27 => ?_) (fun c27 => ?_)
        · rcases (show i = 16 ∨ i < 16 by omega) with rfl | hi
          · rw [rl_free_none b3] at hQ
            dsimp only at hQ
            refine go_iload_n (i := 2) dx_X12_rule_44 rfl rfl ?_
            refine go_bipush dx_X12_rule_45 rfl ?_
            refine go_icmp_ne (tgt := 53) dx_X12_rule_47 rfl (by omega) (by omega) (fun z => absurd rfl z) (fun z => ?_)
            refine go_bipush dx_X12_rule_50 rfl ?_
            refine go_ireturn dx_X12_rule_52 rfl (Nat.le_refl _) (Nat.le_refl _) ?_
            exact hQ _ hms f0 (Or.inl ⟨e20, rfl⟩)
          · have hnil : S.1.1 i = [] := by
              rcases q1.1 i with z | ⟨z, -⟩
              · exact z
              · omega
            rw [rl_free_some hi hnil b3] at hQ
            dsimp only at hQ
            have hz2 : bk_at δ0 95 0 S.1 := g1
            refine go_iload_n (i := 2) dx_X12_rule_44 rfl rfl ?_
            refine go_bipush dx_X12_rule_45 rfl ?_
            refine go_icmp_ne (tgt := 53) dx_X12_rule_47 rfl (by omega) (by omega) (fun c47 => ?_) (fun c47 => by omega)
            refine go_aload_n (i := 0) dx_X12_rule_53 rfl rfl ?_
            refine go_iconst dx_X12_rule_54 ?_
            refine go_putI fp_X12_159 rfl rfl (go_ok rfl rfl) dx_X12_rule_55 ?_
            refine go_aload_n (i := 0) dx_X12_rule_58 rfl rfl ?_
            refine go_iconst dx_X12_rule_59 ?_
            refine go_putI fp_X12_162 rfl rfl (go_ok rfl rfl) dx_X12_rule_60 ?_
            refine go_aload_n (i := 0) dx_X12_rule_63 rfl rfl ?_
            refine go_iconst dx_X12_rule_64 ?_
            refine go_putI fp_X12_23 rfl rfl (go_ok rfl rfl) dx_X12_rule_65 ?_
            have hs98 : ∀ k (hk : k < S.2.1.length), (wr (wr (wr δ0 94 6 0) 94 7 0) 94 8 (-1)) 98 k = (S.2.1[k] : Int) := fun k hk => by
              rw [wr_a _ _ _ _ (by decide), wr_a _ _ _ _ (by decide), wr_a _ _ _ _ (by decide)]; exact t3 k hk
            have e96 : ∀ b j, (b = 94 → j ≠ 6 ∧ j ≠ 7 ∧ j ≠ 8) → (wr (wr (wr δ0 94 6 0) 94 7 0) 94 8 (-1)) b j = δ0 b j := fun b j hb => by
              by_cases e : b = 94
              · subst e
                have := hb rfl
                rw [wr_i _ _ _ _ (by omega), wr_i _ _ _ _ (by omega), wr_i _ _ _ _ (by omega)]
              · rw [wr_a _ _ _ _ e, wr_a _ _ _ _ e, wr_a _ _ _ _ e]
            have e6 : (wr (wr (wr δ0 94 6 0) 94 7 0) 94 8 (-1)) 94 6 = 0 := by rw [wr_i _ _ _ _ (by decide), wr_i _ _ _ _ (by decide), wr_eq]
            have e7 : (wr (wr (wr δ0 94 6 0) 94 7 0) 94 8 (-1)) 94 7 = 0 := by rw [wr_i _ _ _ _ (by decide), wr_eq]
            have e8 : (wr (wr (wr δ0 94 6 0) 94 7 0) 94 8 (-1)) 94 8 = -1 := wr_eq _ _ _ _
            generalize wr (wr (wr δ0 94 6 0) 94 7 0) 94 8 (-1) = δ1 at hs98 e96 e6 e7 e8 ⊢
            have msT : ∀ (δ2 : Nat → Nat → Int) (f : Int × Int), δ2 94 6 = 0 → δ2 94 7 = f.1 → δ2 94 8 = f.2 → (∀ b j, (b = 94 → j ≠ 6 ∧ j ≠ 7 ∧ j ≠ 8) → δ2 b j = δ0 b j) → ms_at δ2 (op_tape S [] f) := fun δ2 f z1 z2 z3 z4 =>
              ⟨bk_fr g1 (fun j => z4 95 j (fun q => absurd q (by decide))), ⟨by simp [op_tape], by rw [z1]; rfl, fun k hk => by simp [op_tape] at hk, fun c hc => by simp [op_tape] at hc, z2, z3⟩, pm_fr g3 (z4 94 3 (by decide)) (fun j => z4 96 j (fun q => absurd q (by decide))), jm_fr g4 (fun j => z4 97 j (fun q => absurd q (by decide))) (fun j _ => z4 95 j (fun q => absurd q (by decide))), ym_fr g5 (fun j => z4 134 j (fun q => absurd q (by decide))) (fun j => z4 135 j (fun q => absurd q (by decide)))⟩
            have fmT : ∀ (δ2 : Nat → Nat → Int), (∀ b j, (b = 94 → j ≠ 6 ∧ j ≠ 7 ∧ j ≠ 8) → δ2 b j = δ0 b j) → fm δ δ2 := fun δ2 z => fm_tr f0 (fun b hb j => z b j (fun q => by omega))
            refine go_aload_n (i := 0) dx_X12_rule_68 rfl rfl ?_
            refine go_iload_n (i := 1) dx_X12_rule_69 rfl rfl ?_
            refine go_cV1 sv_X12_193 (go_ok rfl rfl) dx_X12_rule_70 (Nat.le_of_ble_eq_true rfl) (Nat.le_of_ble_eq_true rfl) (m_faultOfRule hs98 t4 t1 (by omega) (fun hz => ?_) (fun hz => ?_))
            · refine go_istore_n (i := 3) (lv' := [(0, vv_A 94), (1, vv_I (m : Int)), (2, vv_I (i : Int)), (3, vv_I 0)]) dx_X12_rule_73 rfl (by decide) rfl ?_
              refine go_iload_n (i := 3) dx_X12_rule_74 rfl rfl ?_
              refine go_if_eq (tgt := 80) dx_X12_rule_75 rfl (by first | omega | (have := rl_fault_rng (S.2.1.take m); omega)) (fun c75 => ?_) (fun c75 => absurd c75 (by decide))
              rw [if_neg (by omega)] at hQ
              obtain ⟨r1, r2, r3, r4⟩ := rl_fault_ok hz
              have hbl : (S.2.1.take m).length = m := by rw [List.length_take]; omega
              have hml : m ≤ S.2.1.length := by omega
              have g1' : bk_at δ1 95 0 S.1 := bk_fr g1 (fun j => e96 95 j (fun q => absurd q (by decide)))
              have hfz : rl_fault (S.2.1.take m) = (0, -1) := rl_fault_none r1 (by omega)
              have hms1 : ms_at δ1 (op_tape S [] (rl_fault (S.2.1.take m))) := msT δ1 _ e6 (by rw [hfz]; exact e7) (by rw [hfz]; exact e8) e96
              have hsy : ∀ i (hi : i < m), 0 ≤ sy (S.2.1[i]'(by omega)) ∧ sy (S.2.1[i]'(by omega)) ≤ 13 ∧ (rl_of (S.2.1.take m)).getD i 0 = (sy (S.2.1[i]'(by omega))).toNat := fun i hi => by
                have z := (rl_flt_none r1).2 i (by omega)
                rw [List.getElem_take] at z
                exact ⟨z.1, (sy_range _).2, by rw [List.getD_eq_getElem?_getD, rl_of_get (show i < (S.2.1.take m).length by omega), List.getElem_take]; rfl⟩
              have hrl : (rl_of (S.2.1.take m)).length = m := by unfold rl_of; rw [List.length_map, hbl]
              have loop2 : ∀ (k j : Nat), 16 - j < k → j ≤ 16 → (∀ s, s < j → S.1.1 s ≠ rl_of (S.2.1.take m)) → Go E (d + 4) (0, 0) mx_X12_rule go_φ 83 [(0, vv_A 94), (1, vv_I (m : Int)), (2, vv_I (i : Int)), (3, vv_I 0), (4, vv_I (j : Int))] [] δ1 Q := by
                intro k
                induction k with
                | zero => intros; omega
                | succ k ih2 =>
                  intro j p1 p2 p3
                  refine go_iload dx_X12_rule_83 rfl ?_
                  refine go_bipush dx_X12_rule_85 rfl ?_
                  refine go_icmp_ge (tgt := 109) dx_X12_rule_87 rfl (by omega) (by omega) (fun c87 => ?_) (fun c87 => ?_)
                  · refine go_keep [0, 1, 2] rfl ?_
                    rw [if_neg (by rw [rl_alike_f (R := S.1.1) (fun s hs => p3 s (by omega))]; decide)] at hQ
                    have hdist : ∀ s, s ≠ i → S.1.1 s ≠ rl_of (S.2.1.take m) := fun s hs => by
                      by_cases hs16 : s < 16
                      · exact p3 s (by omega)
                      · rw [q1.2.1 s (by omega)]
                        intro q
                        rw [← q] at hrl
                        simp at hrl
                        omega
                    refine go_aload_n (i := 0) dx_X12_rule_109 rfl rfl ?_
                    refine go_cV0 sv_X12_200 (go_ok rfl rfl) dx_X12_rule_110 (Nat.le_of_ble_eq_true rfl) (Nat.le_of_ble_eq_true rfl) (m_notes g1' hms1.2.2.1 (fun δ2 n1 n2 n3 => ?_))
                    have h98 : ∀ k (hk : k < S.2.1.length), δ2 98 k = (S.2.1[k] : Int) := fun k hk => by rw [n2 98 k (by decide) (fun q => absurd q (by decide))]; exact hs98 k hk
                    have loop3 : ∀ (k j : Nat) (δ3 : Nat → Nat → Int), m - j < k → 1 ≤ j → j ≤ m → (∀ b jj, (b = 95 → ¬ (7 * i ≤ jj ∧ jj < 7 * i + 7)) → δ3 b jj = δ2 b jj) → δ3 95 (7 * i) = (((rl_of (S.2.1.take m)).length - 1 : Nat) : Int) →
                        (∀ u, u < j → δ3 95 (7 * i + 1 + u) = (((rl_of (S.2.1.take m)).getD u 0 : Nat) : Int)) → (∀ u, j ≤ u → u < 6 → δ3 95 (7 * i + 1 + u) = 0) →
                        Go E (d + 4) (0, 0) mx_X12_rule go_φ 150 [(0, vv_A 94), (1, vv_I (m : Int)), (2, vv_I (i : Int)), (4, vv_I (j : Int))] [] δ3 Q := by
                      intro k
                      induction k with
                      | zero => intros; omega
                      | succ k ih3 =>
                        intro j δ3 v1 v2 v3 v4 v5 v6 v7
                        refine go_iload dx_X12_rule_150 rfl ?_
                        refine go_iload_n (i := 1) dx_X12_rule_152 rfl rfl ?_
                        refine go_icmp_ge (tgt := 188) dx_X12_rule_153 rfl (by omega) (by omega) (fun c153 => ?_) (fun c153 => ?_)
                        · refine go_iload_n (i := 2) dx_X12_rule_188 rfl rfl ?_
                          refine go_ireturn dx_X12_rule_189 rfl (Nat.le_refl _) (Nat.le_refl _) ?_
                          have hjm : j = m := by omega
                          subst hjm
                          refine hQ δ3 (ms_keep hms1 n1 (bk_rule (r := i) (K := S.1) (l := rl_of (S.2.1.take j)) (bk_fr g1' (fun jj => n2 95 jj (by decide) (fun q => absurd q (by decide)))) hi r4 (Or.inr hdist) v5 (fun u hu => ?_) (fun u hu hu2 => v4 95 u (fun _ => hu2))) n2 (fun b u hb => v4 b u (fun q => by have := hb q; omega))) (fm_tr (fmT _ e96) (fm_tr (fun b hb u => n2 b u (by omega) (fun q => by omega)) (fun b hb u => v4 b u (fun q => by omega)))) (Or.inr ?_)
                          · by_cases e : u < j
                            · exact v6 u e
                            · rw [v7 u (by omega) hu, List.getD_eq_getElem?_getD, List.getElem?_eq_none (by rw [hrl]; omega)]; rfl
                          · rw [v4 94 20 (fun q => absurd q (by decide))]; exact n3
                        · have hjm : j < m := by omega
                          have zz := hsy j hjm
                          refine go_aload_n (i := 0) dx_X12_rule_156 rfl rfl ?_
                          refine go_getA (b := 95) fs_X12_7 rfl (go_ok rfl rfl) rfl dx_X12_rule_157 ?_
                          refine go_bipush dx_X12_rule_160 rfl ?_
                          refine go_iload_n (i := 2) dx_X12_rule_162 rfl rfl ?_
                          refine go_imul dx_X12_rule_163 ?_
                          refine go_iconst dx_X12_rule_164 ?_
                          refine go_iadd dx_X12_rule_165 ?_
                          refine go_iload dx_X12_rule_166 rfl ?_
                          refine go_iadd dx_X12_rule_168 ?_
                          refine go_iconst dx_X12_rule_169 ?_
                          refine go_isub dx_X12_rule_170 ?_
                          refine go_aload_n (i := 0) dx_X12_rule_171 rfl rfl ?_
                          refine go_getA (b := 98) fs_X12_20 rfl (go_ok rfl rfl) rfl dx_X12_rule_172 ?_
                          refine go_iload dx_X12_rule_175 rfl ?_
                          refine go_iaload dx_X12_rule_177 (go_ok rfl rfl) (by omega) (by omega) ?_
                          refine go_cS1 ss_X12_187 dx_X12_rule_178 (Nat.le_of_ble_eq_true rfl) (Nat.le_of_ble_eq_true rfl) (m_symbolByte (c := S.2.1[j]'(by omega)) (by rw [v4 98 _ (fun q => absurd q (by decide))]; exact h98 j (by omega)) (t4 _ (List.getElem_mem (by omega))) (by omega) ?_)
                          refine go_iastore dx_X12_rule_181 (go_ok rfl rfl) (by omega) (by omega) ?_
                          refine go_iinc (lv' := [(0, vv_A 94), (1, vv_I (m : Int)), (2, vv_I (i : Int)), (4, vv_I ((j : Int) + 1))]) dx_X12_rule_182 rfl (by decide) rfl ?_
                          refine go_goto (tgt := 150) dx_X12_rule_185 rfl ?_
                          rw [show ((7 : Int) * (i : Int) + 2 + (j : Int) - 1).toNat = 7 * i + 1 + j by omega]
                          refine ih3 (j + 1) _ (by omega) (by omega) (by omega) (fun b jj hb => ?_) ?_ (fun u hu => ?_) (fun u hu hu6 => ?_)
                          · by_cases e : b = 95
                            · subst e; rw [wr_i _ _ _ _ (by have := hb rfl; omega)]; exact v4 95 jj hb
                            · rw [wr_a _ _ _ _ e]; exact v4 b jj hb
                          · rw [wr_i _ _ _ _ (by omega)]; exact v5
                          · by_cases e : u = j
                            · subst e; rw [wr_eq]; omega
                            · rw [wr_i _ _ _ _ (by omega)]; exact v6 u (by omega)
                          · rw [wr_i _ _ _ _ (by omega)]; exact v7 u (by omega) hu6
                    have zz := hsy 0 (by omega)
                    have hz0 : ∀ u, u < 6 → δ2 95 (7 * i + 1 + u) = 0 := fun u hu => by
                      have := (g1'.1 i hi).2 u hu
                      rw [hnil] at this
                      rw [n2 95 _ (by decide) (fun q => absurd q (by decide)), show 7 * i + 1 + u = 0 + (7 * i + 1 + u) by omega, this]
                      rfl
                    refine go_aload_n (i := 0) dx_X12_rule_113 rfl rfl ?_
                    refine go_getA (b := 95) fs_X12_7 rfl (go_ok rfl rfl) rfl dx_X12_rule_114 ?_
                    refine go_bipush dx_X12_rule_117 rfl ?_
                    refine go_iload_n (i := 2) dx_X12_rule_119 rfl rfl ?_
                    refine go_imul dx_X12_rule_120 ?_
                    refine go_iconst dx_X12_rule_121 ?_
                    refine go_iadd dx_X12_rule_122 ?_
                    refine go_iload_n (i := 1) dx_X12_rule_123 rfl rfl ?_
                    refine go_iconst dx_X12_rule_124 ?_
                    refine go_isub dx_X12_rule_125 ?_
                    refine go_iastore dx_X12_rule_126 (go_ok rfl rfl) (by omega) (by omega) ?_
                    refine go_aload_n (i := 0) dx_X12_rule_127 rfl rfl ?_
                    refine go_getA (b := 95) fs_X12_7 rfl (go_ok rfl rfl) rfl dx_X12_rule_128 ?_
                    refine go_bipush dx_X12_rule_131 rfl ?_
                    refine go_iload_n (i := 2) dx_X12_rule_133 rfl rfl ?_
                    refine go_imul dx_X12_rule_134 ?_
                    refine go_iconst dx_X12_rule_135 ?_
                    refine go_iadd dx_X12_rule_136 ?_
                    refine go_aload_n (i := 0) dx_X12_rule_137 rfl rfl ?_
                    refine go_getA (b := 98) fs_X12_20 rfl (go_ok rfl rfl) rfl dx_X12_rule_138 ?_
                    refine go_iconst dx_X12_rule_141 ?_
                    refine go_iaload dx_X12_rule_142 (go_ok rfl rfl) (by omega) (by omega) ?_
                    refine go_cS1 ss_X12_187 dx_X12_rule_143 (Nat.le_of_ble_eq_true rfl) (Nat.le_of_ble_eq_true rfl) (m_symbolByte (c := S.2.1[0]'(by omega)) (by rw [wr_a _ _ _ _ (by decide)]; exact h98 0 (by omega)) (t4 _ (List.getElem_mem (by omega))) (by omega) ?_)
                    refine go_iastore dx_X12_rule_146 (go_ok rfl rfl) (by omega) (by omega) ?_
                    refine go_iconst dx_X12_rule_147 ?_
                    refine go_istore (lv' := [(0, vv_A 94), (1, vv_I (m : Int)), (2, vv_I (i : Int)), (4, vv_I 1)]) dx_X12_rule_148 (by decide) rfl ?_
                    rw [show ((7 : Int) * (i : Int) + 0).toNat = 7 * i by omega, show ((7 : Int) * (i : Int) + 1).toNat = 7 * i + 1 by omega]
                    refine loop3 (m + 1) 1 _ (by omega) (by omega) (by omega) (fun b jj hb => ?_) ?_ (fun u hu => ?_) (fun u hu hu6 => ?_)
                    · by_cases e : b = 95
                      · subst e; rw [wr_i _ _ _ _ (by have := hb rfl; omega), wr_i _ _ _ _ (by have := hb rfl; omega)]
                      · rw [wr_a _ _ _ _ e, wr_a _ _ _ _ e]
                    · rw [wr_i _ _ _ _ (by omega), wr_eq, hrl]; omega
                    · rw [show u = 0 by omega, Nat.add_zero, wr_eq]; omega
                    · rw [wr_i _ _ _ _ (by omega), wr_i _ _ _ _ (by omega)]; exact hz0 u hu6
                  · refine go_aload_n (i := 0) dx_X12_rule_90 rfl rfl ?_
                    refine go_iload dx_X12_rule_91 rfl ?_
                    refine go_iload_n (i := 1) dx_X12_rule_93 rfl rfl ?_
                    refine go_cV2 sv_X12_196 (go_ok rfl rfl) dx_X12_rule_94 (Nat.le_of_ble_eq_true rfl) (Nat.le_of_ble_eq_true rfl) (m_isAlike g1' (by omega) hs98 t4 hml hz (fun z1 => ?_) (fun z1 => ?_))
                    · refine go_if_eq (tgt := 103) dx_X12_rule_97 rfl (by omega) (fun c97 => absurd c97 (by decide)) (fun c97 => ?_)
                      refine go_bipush dx_X12_rule_100 rfl ?_
                      refine go_ireturn dx_X12_rule_102 rfl (Nat.le_refl _) (Nat.le_refl _) ?_
                      rw [if_pos (rl_alike_t (R := S.1.1) (show j < 16 by omega) z1)] at hQ
                      exact hQ _ hms1 (fmT _ e96) (Or.inl ⟨by rw [e96 94 20 (by decide)]; exact e20, rfl⟩)
                    · refine go_if_eq (tgt := 103) dx_X12_rule_97 rfl (by omega) (fun c97 => ?_) (fun c97 => absurd c97 (by decide))
                      refine go_iinc (lv' := [(0, vv_A 94), (1, vv_I (m : Int)), (2, vv_I (i : Int)), (3, vv_I 0), (4, vv_I ((j : Int) + 1))]) dx_X12_rule_103 rfl (by decide) rfl ?_
                      refine go_goto (tgt := 83) dx_X12_rule_106 rfl ?_
                      refine ih2 (j + 1) (by omega) (by omega) (fun s hs => ?_)
                      rcases Nat.lt_or_ge s j with q | q
                      · exact p3 s q
                      · rw [show s = j by omega]; exact z1
              refine go_iconst dx_X12_rule_80 ?_
              refine go_istore (lv' := [(0, vv_A 94), (1, vv_I (m : Int)), (2, vv_I (i : Int)), (3, vv_I 0), (4, vv_I 0)]) dx_X12_rule_81 (by decide) rfl ?_
              exact loop2 17 0 (by omega) (by omega) (fun s hs => by omega)
            · refine go_istore_n (i := 3) (lv' := [(0, vv_A 94), (1, vv_I (m : Int)), (2, vv_I (i : Int)), (3, vv_I (-30 - (rl_fault (S.2.1.take m)).1))]) dx_X12_rule_73 rfl (by decide) rfl ?_
              refine go_iload_n (i := 3) dx_X12_rule_74 rfl rfl ?_
              refine go_if_eq (tgt := 80) dx_X12_rule_75 rfl (by first | omega | (have := rl_fault_rng (S.2.1.take m); omega)) (fun c75 => by (have := rl_fault_rng (S.2.1.take m); omega)) (fun c75 => ?_)
              refine go_iload_n (i := 3) dx_X12_rule_78 rfl rfl ?_
              refine go_ireturn dx_X12_rule_79 rfl (Nat.le_refl _) (Nat.le_refl _) ?_
              rw [if_pos hz] at hQ
              refine hQ _ (msT _ _ (by rw [wr_i _ _ _ _ (by decide), wr_i _ _ _ _ (by decide)]; exact e6) (by rw [wr_i _ _ _ _ (by decide), wr_eq]) (wr_eq _ _ _ _) (fun b j hb => ?_)) (fmT _ (fun b j hb => ?_)) (Or.inl ⟨?_, rfl⟩)
              · by_cases e : b = 94
                · subst e; rw [wr_i _ _ _ _ (hb rfl).2.2, wr_i _ _ _ _ (hb rfl).2.1]; exact e96 94 j hb
                · rw [wr_a _ _ _ _ e, wr_a _ _ _ _ e]; exact e96 b j hb
              · by_cases e : b = 94
                · subst e; rw [wr_i _ _ _ _ (hb rfl).2.2, wr_i _ _ _ _ (hb rfl).2.1]; exact e96 94 j hb
                · rw [wr_a _ _ _ _ e, wr_a _ _ _ _ e]; exact e96 b j hb
              · rw [wr_i _ _ _ _ (by decide), wr_i _ _ _ _ (by decide), e96 94 20 (by decide)]; exact e20
        · refine go_aload_n (i := 0) dx_X12_rule_30 rfl rfl ?_
          refine go_iload_n (i := 2) dx_X12_rule_31 rfl rfl ?_
          refine go_cV1 sv_X12_148 (go_ok rfl rfl) dx_X12_rule_32 (Nat.le_of_ble_eq_true rfl) (Nat.le_of_ble_eq_true rfl) (m_longOf g1 (by omega) ?_)
          refine go_if_le (tgt := 44) dx_X12_rule_35 rfl (by omega) (fun c35 => ?_) (fun c35 => ?_)
          · rcases (show i = 16 ∨ i < 16 by omega) with rfl | hi
            · rw [rl_free_none b3] at hQ
              dsimp only at hQ
              refine go_iload_n (i := 2) dx_X12_rule_44 rfl rfl ?_
              refine go_bipush dx_X12_rule_45 rfl ?_
              refine go_icmp_ne (tgt := 53) dx_X12_rule_47 rfl (by omega) (by omega) (fun z => absurd rfl z) (fun z => ?_)
              refine go_bipush dx_X12_rule_50 rfl ?_
              refine go_ireturn dx_X12_rule_52 rfl (Nat.le_refl _) (Nat.le_refl _) ?_
              exact hQ _ hms f0 (Or.inl ⟨e20, rfl⟩)
            · have hnil : S.1.1 i = [] := by
                rcases q1.1 i with z | ⟨z, -⟩
                · exact z
                · omega
              rw [rl_free_some hi hnil b3] at hQ
              dsimp only at hQ
              have hz2 : bk_at δ0 95 0 S.1 := g1
              refine go_iload_n (i := 2) dx_X12_rule_44 rfl rfl ?_
              refine go_bipush dx_X12_rule_45 rfl ?_
              refine go_icmp_ne (tgt := 53) dx_X12_rule_47 rfl (by omega) (by omega) (fun c47 => ?_) (fun c47 => by omega)
              refine go_aload_n (i := 0) dx_X12_rule_53 rfl rfl ?_
              refine go_iconst dx_X12_rule_54 ?_
              refine go_putI fp_X12_159 rfl rfl (go_ok rfl rfl) dx_X12_rule_55 ?_
              refine go_aload_n (i := 0) dx_X12_rule_58 rfl rfl ?_
              refine go_iconst dx_X12_rule_59 ?_
              refine go_putI fp_X12_162 rfl rfl (go_ok rfl rfl) dx_X12_rule_60 ?_
              refine go_aload_n (i := 0) dx_X12_rule_63 rfl rfl ?_
              refine go_iconst dx_X12_rule_64 ?_
              refine go_putI fp_X12_23 rfl rfl (go_ok rfl rfl) dx_X12_rule_65 ?_
              have hs98 : ∀ k (hk : k < S.2.1.length), (wr (wr (wr δ0 94 6 0) 94 7 0) 94 8 (-1)) 98 k = (S.2.1[k] : Int) := fun k hk => by
                rw [wr_a _ _ _ _ (by decide), wr_a _ _ _ _ (by decide), wr_a _ _ _ _ (by decide)]; exact t3 k hk
              have e96 : ∀ b j, (b = 94 → j ≠ 6 ∧ j ≠ 7 ∧ j ≠ 8) → (wr (wr (wr δ0 94 6 0) 94 7 0) 94 8 (-1)) b j = δ0 b j := fun b j hb => by
                by_cases e : b = 94
                · subst e
                  have := hb rfl
                  rw [wr_i _ _ _ _ (by omega), wr_i _ _ _ _ (by omega), wr_i _ _ _ _ (by omega)]
                · rw [wr_a _ _ _ _ e, wr_a _ _ _ _ e, wr_a _ _ _ _ e]
              have e6 : (wr (wr (wr δ0 94 6 0) 94 7 0) 94 8 (-1)) 94 6 = 0 := by rw [wr_i _ _ _ _ (by decide), wr_i _ _ _ _ (by decide), wr_eq]
              have e7 : (wr (wr (wr δ0 94 6 0) 94 7 0) 94 8 (-1)) 94 7 = 0 := by rw [wr_i _ _ _ _ (by decide), wr_eq]
              have e8 : (wr (wr (wr δ0 94 6 0) 94 7 0) 94 8 (-1)) 94 8 = -1 := wr_eq _ _ _ _
              generalize wr (wr (wr δ0 94 6 0) 94 7 0) 94 8 (-1) = δ1 at hs98 e96 e6 e7 e8 ⊢
              have msT : ∀ (δ2 : Nat → Nat → Int) (f : Int × Int), δ2 94 6 = 0 → δ2 94 7 = f.1 → δ2 94 8 = f.2 → (∀ b j, (b = 94 → j ≠ 6 ∧ j ≠ 7 ∧ j ≠ 8) → δ2 b j = δ0 b j) → ms_at δ2 (op_tape S [] f) := fun δ2 f z1 z2 z3 z4 =>
                ⟨bk_fr g1 (fun j => z4 95 j (fun q => absurd q (by decide))), ⟨by simp [op_tape], by rw [z1]; rfl, fun k hk => by simp [op_tape] at hk, fun c hc => by simp [op_tape] at hc, z2, z3⟩, pm_fr g3 (z4 94 3 (by decide)) (fun j => z4 96 j (fun q => absurd q (by decide))), jm_fr g4 (fun j => z4 97 j (fun q => absurd q (by decide))) (fun j _ => z4 95 j (fun q => absurd q (by decide))), ym_fr g5 (fun j => z4 134 j (fun q => absurd q (by decide))) (fun j => z4 135 j (fun q => absurd q (by decide)))⟩
              have fmT : ∀ (δ2 : Nat → Nat → Int), (∀ b j, (b = 94 → j ≠ 6 ∧ j ≠ 7 ∧ j ≠ 8) → δ2 b j = δ0 b j) → fm δ δ2 := fun δ2 z => fm_tr f0 (fun b hb j => z b j (fun q => by omega))
              refine go_aload_n (i := 0) dx_X12_rule_68 rfl rfl ?_
              refine go_iload_n (i := 1) dx_X12_rule_69 rfl rfl ?_
              refine go_cV1 sv_X12_193 (go_ok rfl rfl) dx_X12_rule_70 (Nat.le_of_ble_eq_true rfl) (Nat.le_of_ble_eq_true rfl) (m_faultOfRule hs98 t4 t1 (by omega) (fun hz => ?_) (fun hz => ?_))
              · refine go_istore_n (i := 3) (lv' := [(0, vv_A 94), (1, vv_I (m : Int)), (2, vv_I (i : Int)), (3, vv_I 0)]) dx_X12_rule_73 rfl (by decide) rfl ?_
                refine go_iload_n (i := 3) dx_X12_rule_74 rfl rfl ?_
                refine go_if_eq (tgt := 80) dx_X12_rule_75 rfl (by first | omega | (have := rl_fault_rng (S.2.1.take m); omega)) (fun c75 => ?_) (fun c75 => absurd c75 (by decide))
                rw [if_neg (by omega)] at hQ
                obtain ⟨r1, r2, r3, r4⟩ := rl_fault_ok hz
                have hbl : (S.2.1.take m).length = m := by rw [List.length_take]; omega
                have hml : m ≤ S.2.1.length := by omega
                have g1' : bk_at δ1 95 0 S.1 := bk_fr g1 (fun j => e96 95 j (fun q => absurd q (by decide)))
                have hfz : rl_fault (S.2.1.take m) = (0, -1) := rl_fault_none r1 (by omega)
                have hms1 : ms_at δ1 (op_tape S [] (rl_fault (S.2.1.take m))) := msT δ1 _ e6 (by rw [hfz]; exact e7) (by rw [hfz]; exact e8) e96
                have hsy : ∀ i (hi : i < m), 0 ≤ sy (S.2.1[i]'(by omega)) ∧ sy (S.2.1[i]'(by omega)) ≤ 13 ∧ (rl_of (S.2.1.take m)).getD i 0 = (sy (S.2.1[i]'(by omega))).toNat := fun i hi => by
                  have z := (rl_flt_none r1).2 i (by omega)
                  rw [List.getElem_take] at z
                  exact ⟨z.1, (sy_range _).2, by rw [List.getD_eq_getElem?_getD, rl_of_get (show i < (S.2.1.take m).length by omega), List.getElem_take]; rfl⟩
                have hrl : (rl_of (S.2.1.take m)).length = m := by unfold rl_of; rw [List.length_map, hbl]
                have loop2 : ∀ (k j : Nat), 16 - j < k → j ≤ 16 → (∀ s, s < j → S.1.1 s ≠ rl_of (S.2.1.take m)) → Go E (d + 4) (0, 0) mx_X12_rule go_φ 83 [(0, vv_A 94), (1, vv_I (m : Int)), (2, vv_I (i : Int)), (3, vv_I 0), (4, vv_I (j : Int))] [] δ1 Q := by
                  intro k
                  induction k with
                  | zero => intros; omega
                  | succ k ih2 =>
                    intro j p1 p2 p3
                    refine go_iload dx_X12_rule_83 rfl ?_
                    refine go_bipush dx_X12_rule_85 rfl ?_
                    refine go_icmp_ge (tgt := 109) dx_X12_rule_87 rfl (by omega) (by omega) (fun c87 => ?_) (fun c87 => ?_)
                    · refine go_keep [0, 1, 2] rfl ?_
                      rw [if_neg (by rw [rl_alike_f (R := S.1.1) (fun s hs => p3 s (by omega))]; decide)] at hQ
                      have hdist : ∀ s, s ≠ i → S.1.1 s ≠ rl_of (S.2.1.take m) := fun s hs => by
                        by_cases hs16 : s < 16
                        · exact p3 s (by omega)
                        · rw [q1.2.1 s (by omega)]
                          intro q
                          rw [← q] at hrl
                          simp at hrl
                          omega
                      refine go_aload_n (i := 0) dx_X12_rule_109 rfl rfl ?_
                      refine go_cV0 sv_X12_200 (go_ok rfl rfl) dx_X12_rule_110 (Nat.le_of_ble_eq_true rfl) (Nat.le_of_ble_eq_true rfl) (m_notes g1' hms1.2.2.1 (fun δ2 n1 n2 n3 => ?_))
                      have h98 : ∀ k (hk : k < S.2.1.length), δ2 98 k = (S.2.1[k] : Int) := fun k hk => by rw [n2 98 k (by decide) (fun q => absurd q (by decide))]; exact hs98 k hk
                      have loop3 : ∀ (k j : Nat) (δ3 : Nat → Nat → Int), m - j < k → 1 ≤ j → j ≤ m → (∀ b jj, (b = 95 → ¬ (7 * i ≤ jj ∧ jj < 7 * i + 7)) → δ3 b jj = δ2 b jj) → δ3 95 (7 * i) = (((rl_of (S.2.1.take m)).length - 1 : Nat) : Int) →
                          (∀ u, u < j → δ3 95 (7 * i + 1 + u) = (((rl_of (S.2.1.take m)).getD u 0 : Nat) : Int)) → (∀ u, j ≤ u → u < 6 → δ3 95 (7 * i + 1 + u) = 0) →
                          Go E (d + 4) (0, 0) mx_X12_rule go_φ 150 [(0, vv_A 94), (1, vv_I (m : Int)), (2, vv_I (i : Int)), (4, vv_I (j : Int))] [] δ3 Q := by
                        intro k
                        induction k with
                        | zero => intros; omega
                        | succ k ih3 =>
                          intro j δ3 v1 v2 v3 v4 v5 v6 v7
                          refine go_iload dx_X12_rule_150 rfl ?_
                          refine go_iload_n (i := 1) dx_X12_rule_152 rfl rfl ?_
                          refine go_icmp_ge (tgt := 188) dx_X12_rule_153 rfl (by omega) (by omega) (fun c153 => ?_) (fun c153 => ?_)
                          · refine go_iload_n (i := 2) dx_X12_rule_188 rfl rfl ?_
                            refine go_ireturn dx_X12_rule_189 rfl (Nat.le_refl _) (Nat.le_refl _) ?_
                            have hjm : j = m := by omega
                            subst hjm
                            refine hQ δ3 (ms_keep hms1 n1 (bk_rule (r := i) (K := S.1) (l := rl_of (S.2.1.take j)) (bk_fr g1' (fun jj => n2 95 jj (by decide) (fun q => absurd q (by decide)))) hi r4 (Or.inr hdist) v5 (fun u hu => ?_) (fun u hu hu2 => v4 95 u (fun _ => hu2))) n2 (fun b u hb => v4 b u (fun q => by have := hb q; omega))) (fm_tr (fmT _ e96) (fm_tr (fun b hb u => n2 b u (by omega) (fun q => by omega)) (fun b hb u => v4 b u (fun q => by omega)))) (Or.inr ?_)
                            · by_cases e : u < j
                              · exact v6 u e
                              · rw [v7 u (by omega) hu, List.getD_eq_getElem?_getD, List.getElem?_eq_none (by rw [hrl]; omega)]; rfl
                            · rw [v4 94 20 (fun q => absurd q (by decide))]; exact n3
                          · have hjm : j < m := by omega
                            have zz := hsy j hjm
                            refine go_aload_n (i := 0) dx_X12_rule_156 rfl rfl ?_
                            refine go_getA (b := 95) fs_X12_7 rfl (go_ok rfl rfl) rfl dx_X12_rule_157 ?_
                            refine go_bipush dx_X12_rule_160 rfl ?_
                            refine go_iload_n (i := 2) dx_X12_rule_162 rfl rfl ?_
                            refine go_imul dx_X12_rule_163 ?_
                            refine go_iconst dx_X12_rule_164 ?_
                            refine go_iadd dx_X12_rule_165 ?_
                            refine go_iload dx_X12_rule_166 rfl ?_
                            refine go_iadd dx_X12_rule_168 ?_
                            refine go_iconst dx_X12_rule_169 ?_
                            refine go_isub dx_X12_rule_170 ?_
                            refine go_aload_n (i := 0) dx_X12_rule_171 rfl rfl ?_
                            refine go_getA (b := 98) fs_X12_20 rfl (go_ok rfl rfl) rfl dx_X12_rule_172 ?_
                            refine go_iload dx_X12_rule_175 rfl ?_
                            refine go_iaload dx_X12_rule_177 (go_ok rfl rfl) (by omega) (by omega) ?_
                            refine go_cS1 ss_X12_187 dx_X12_rule_178 (Nat.le_of_ble_eq_true rfl) (Nat.le_of_ble_eq_true rfl) (m_symbolByte (c := S.2.1[j]'(by omega)) (by rw [v4 98 _ (fun q => absurd q (by decide))]; exact h98 j (by omega)) (t4 _ (List.getElem_mem (by omega))) (by omega) ?_)
                            refine go_iastore dx_X12_rule_181 (go_ok rfl rfl) (by omega) (by omega) ?_
                            refine go_iinc (lv' := [(0, vv_A 94), (1, vv_I (m : Int)), (2, vv_I (i : Int)), (4, vv_I ((j : Int) + 1))]) dx_X12_rule_182 rfl (by decide) rfl ?_
                            refine go_goto (tgt := 150) dx_X12_rule_185 rfl ?_
                            rw [show ((7 : Int) * (i : Int) + 2 + (j : Int) - 1).toNat = 7 * i + 1 + j by omega]
                            refine ih3 (j + 1) _ (by omega) (by omega) (by omega) (fun b jj hb => ?_) ?_ (fun u hu => ?_) (fun u hu hu6 => ?_)
                            · by_cases e : b = 95
                              · subst e; rw [wr_i _ _ _ _ (by have := hb rfl; omega)]; exact v4 95 jj hb
                              · rw [wr_a _ _ _ _ e]; exact v4 b jj hb
                            · rw [wr_i _ _ _ _ (by omega)]; exact v5
                            · by_cases e : u = j
                              · subst e; rw [wr_eq]; omega
                              · rw [wr_i _ _ _ _ (by omega)]; exact v6 u (by omega)
                            · rw [wr_i _ _ _ _ (by omega)]; exact v7 u (by omega) hu6
                      have zz := hsy 0 (by omega)
                      have hz0 : ∀ u, u < 6 → δ2 95 (7 * i + 1 + u) = 0 := fun u hu => by
                        have := (g1'.1 i hi).2 u hu
                        rw [hnil] at this
                        rw [n2 95 _ (by decide) (fun q => absurd q (by decide)), show 7 * i + 1 + u = 0 + (7 * i + 1 + u) by omega, this]
                        rfl
                      refine go_aload_n (i := 0) dx_X12_rule_113 rfl rfl ?_
                      refine go_getA (b := 95) fs_X12_7 rfl (go_ok rfl rfl) rfl dx_X12_rule_114 ?_
                      refine go_bipush dx_X12_rule_117 rfl ?_
                      refine go_iload_n (i := 2) dx_X12_rule_119 rfl rfl ?_
                      refine go_imul dx_X12_rule_120 ?_
                      refine go_iconst dx_X12_rule_121 ?_
                      refine go_iadd dx_X12_rule_122 ?_
                      refine go_iload_n (i := 1) dx_X12_rule_123 rfl rfl ?_
                      refine go_iconst dx_X12_rule_124 ?_
                      refine go_isub dx_X12_rule_125 ?_
                      refine go_iastore dx_X12_rule_126 (go_ok rfl rfl) (by omega) (by omega) ?_
                      refine go_aload_n (i := 0) dx_X12_rule_127 rfl rfl ?_
                      refine go_getA (b := 95) fs_X12_7 rfl (go_ok rfl rfl) rfl dx_X12_rule_128 ?_
                      refine go_bipush dx_X12_rule_131 rfl ?_
                      refine go_iload_n (i := 2) dx_X12_rule_133 rfl rfl ?_
                      refine go_imul dx_X12_rule_134 ?_
                      refine go_iconst dx_X12_rule_135 ?_
                      refine go_iadd dx_X12_rule_136 ?_
                      refine go_aload_n (i := 0) dx_X12_rule_137 rfl rfl ?_
                      refine go_getA (b := 98) fs_X12_20 rfl (go_ok rfl rfl) rfl dx_X12_rule_138 ?_
                      refine go_iconst dx_X12_rule_141 ?_
                      refine go_iaload dx_X12_rule_142 (go_ok rfl rfl) (by omega) (by omega) ?_
                      refine go_cS1 ss_X12_187 dx_X12_rule_143 (Nat.le_of_ble_eq_true rfl) (Nat.le_of_ble_eq_true rfl) (m_symbolByte (c := S.2.1[0]'(by omega)) (by rw [wr_a _ _ _ _ (by decide)]; exact h98 0 (by omega)) (t4 _ (List.getElem_mem (by omega))) (by omega) ?_)
                      refine go_iastore dx_X12_rule_146 (go_ok rfl rfl) (by omega) (by omega) ?_
                      refine go_iconst dx_X12_rule_147 ?_
                      refine go_istore (lv' := [(0, vv_A 94), (1, vv_I (m : Int)), (2, vv_I (i : Int)), (4, vv_I 1)]) dx_X12_rule_148 (by decide) rfl ?_
                      rw [show ((7 : Int) * (i : Int) + 0).toNat = 7 * i by omega, show ((7 : Int) * (i : Int) + 1).toNat = 7 * i + 1 by omega]
                      refine loop3 (m + 1) 1 _ (by omega) (by omega) (by omega) (fun b jj hb => ?_) ?_ (fun u hu => ?_) (fun u hu hu6 => ?_)
                      · by_cases e : b = 95
                        · subst e; rw [wr_i _ _ _ _ (by have := hb rfl; omega), wr_i _ _ _ _ (by have := hb rfl; omega)]
                        · rw [wr_a _ _ _ _ e, wr_a _ _ _ _ e]
                      · rw [wr_i _ _ _ _ (by omega), wr_eq, hrl]; omega
                      · rw [show u = 0 by omega, Nat.add_zero, wr_eq]; omega
                      · rw [wr_i _ _ _ _ (by omega), wr_i _ _ _ _ (by omega)]; exact hz0 u hu6
                    · refine go_aload_n (i := 0) dx_X12_rule_90 rfl rfl ?_
                      refine go_iload dx_X12_rule_91 rfl ?_
                      refine go_iload_n (i := 1) dx_X12_rule_93 rfl rfl ?_
                      refine go_cV2 sv_X12_196 (go_ok rfl rfl) dx_X12_rule_94 (Nat.le_of_ble_eq_true rfl) (Nat.le_of_ble_eq_true rfl) (m_isAlike g1' (by omega) hs98 t4 hml hz (fun z1 => ?_) (fun z1 => ?_))
                      · refine go_if_eq (tgt := 103) dx_X12_rule_97 rfl (by omega) (fun c97 => absurd c97 (by decide)) (fun c97 => ?_)
                        refine go_bipush dx_X12_rule_100 rfl ?_
                        refine go_ireturn dx_X12_rule_102 rfl (Nat.le_refl _) (Nat.le_refl _) ?_
                        rw [if_pos (rl_alike_t (R := S.1.1) (show j < 16 by omega) z1)] at hQ
                        exact hQ _ hms1 (fmT _ e96) (Or.inl ⟨by rw [e96 94 20 (by decide)]; exact e20, rfl⟩)
                      · refine go_if_eq (tgt := 103) dx_X12_rule_97 rfl (by omega) (fun c97 => ?_) (fun c97 => absurd c97 (by decide))
                        refine go_iinc (lv' := [(0, vv_A 94), (1, vv_I (m : Int)), (2, vv_I (i : Int)), (3, vv_I 0), (4, vv_I ((j : Int) + 1))]) dx_X12_rule_103 rfl (by decide) rfl ?_
                        refine go_goto (tgt := 83) dx_X12_rule_106 rfl ?_
                        refine ih2 (j + 1) (by omega) (by omega) (fun s hs => ?_)
                        rcases Nat.lt_or_ge s j with q | q
                        · exact p3 s q
                        · rw [show s = j by omega]; exact z1
                refine go_iconst dx_X12_rule_80 ?_
                refine go_istore (lv' := [(0, vv_A 94), (1, vv_I (m : Int)), (2, vv_I (i : Int)), (3, vv_I 0), (4, vv_I 0)]) dx_X12_rule_81 (by decide) rfl ?_
                exact loop2 17 0 (by omega) (by omega) (fun s hs => by omega)
              · refine go_istore_n (i := 3) (lv' := [(0, vv_A 94), (1, vv_I (m : Int)), (2, vv_I (i : Int)), (3, vv_I (-30 - (rl_fault (S.2.1.take m)).1))]) dx_X12_rule_73 rfl (by decide) rfl ?_
                refine go_iload_n (i := 3) dx_X12_rule_74 rfl rfl ?_
                refine go_if_eq (tgt := 80) dx_X12_rule_75 rfl (by first | omega | (have := rl_fault_rng (S.2.1.take m); omega)) (fun c75 => by (have := rl_fault_rng (S.2.1.take m); omega)) (fun c75 => ?_)
                refine go_iload_n (i := 3) dx_X12_rule_78 rfl rfl ?_
                refine go_ireturn dx_X12_rule_79 rfl (Nat.le_refl _) (Nat.le_refl _) ?_
                rw [if_pos hz] at hQ
                refine hQ _ (msT _ _ (by rw [wr_i _ _ _ _ (by decide), wr_i _ _ _ _ (by decide)]; exact e6) (by rw [wr_i _ _ _ _ (by decide), wr_eq]) (wr_eq _ _ _ _) (fun b j hb => ?_)) (fmT _ (fun b j hb => ?_)) (Or.inl ⟨?_, rfl⟩)
                · by_cases e : b = 94
                  · subst e; rw [wr_i _ _ _ _ (hb rfl).2.2, wr_i _ _ _ _ (hb rfl).2.1]; exact e96 94 j hb
                  · rw [wr_a _ _ _ _ e, wr_a _ _ _ _ e]; exact e96 b j hb
                · by_cases e : b = 94
                  · subst e; rw [wr_i _ _ _ _ (hb rfl).2.2, wr_i _ _ _ _ (hb rfl).2.1]; exact e96 94 j hb
                  · rw [wr_a _ _ _ _ e, wr_a _ _ _ _ e]; exact e96 b j hb
                · rw [wr_i _ _ _ _ (by decide), wr_i _ _ _ _ (by decide), e96 94 20 (by decide)]; exact e20
          · refine go_iinc (lv' := [(0, vv_A 94), (1, vv_I (m : Int)), (2, vv_I ((i : Int) + 1))]) dx_X12_rule_38 rfl (by decide) rfl ?_
            refine go_goto (tgt := 24) dx_X12_rule_41 rfl ?_
            refine ih (i + 1) (by omega) (by omega) (fun s hs => ?_)
            rcases Nat.lt_or_ge s i with q | q
            · exact b3 s q
            · have : s = i := by omega
              subst this
              intro z
              rw [z] at c35
              exact c35 (by decide)
    refine go_iconst dx_X12_rule_22 ?_
    refine go_istore_n (i := 2) (lv' := [(0, vv_A 94), (1, vv_I (m : Int)), (2, vv_I 0)]) dx_X12_rule_23 rfl (by decide) rfl ?_
    exact loop1 17 0 (by omega) (by omega) (fun s hs => by omega)
  · refine go_if_ne (tgt := 22) dx_X12_rule_16 rfl (by omega) (fun c16 => absurd c16 (by decide)) (fun c16 => ?_)
    refine go_bipush dx_X12_rule_19 rfl ?_
    refine go_ireturn dx_X12_rule_21 rfl (Nat.le_refl _) (Nat.le_refl _) ?_
    rw [if_pos (by omega)] at hQ
    exact hQ _ hms f0 (Or.inl ⟨e20, rfl⟩)
end GMS2
