/-! the reference's calls that need no tables, second half -/
theorem ms_now {δ δ' : Nat → Nat → Int} {S : sS} {K' : sK} (h : ms_at δ S) (h1 : bk_at δ' 95 0 K') (f : ∀ b j, (b = 95 → 128 ≤ j) → δ' b j = δ b j) : ms_at δ' (K', S.2) := by
  obtain ⟨g1, g2, g3, g4, g5⟩ := h
  have F : ∀ b : Nat, b ≠ 95 → ∀ j, δ' b j = δ b j := fun b hb j => f b j (fun q => absurd q hb)
  exact ⟨h1, tm_fr g2 (fun j _ => F 94 (by decide) j) (F 98 (by decide)), pm_fr g3 (F 94 (by decide) 3) (F 96 (by decide)), jm_fr g4 (F 97 (by decide)) (fun j hj => f 95 j (fun _ => hj)), ym_fr g5 (F 134 (by decide)) (F 135 (by decide))⟩
section GMS3
variable {E : go_E} {d : Nat} {δ : Nat → Nat → Int} {Q : List go_V → go_F → (Nat → Nat → Int) → Prop} {K : sK} {S : sS}
theorem m_word {n : Int} (hn : go_iI n) (h : ms_at δ S)
    (hQ : ∀ δ', ms_at δ' (op_word S n).2 → fm δ δ' → (δ' 94 20 = δ 94 20 ∧ (op_word S n).2.1 = S.1 ∨ δ' 94 20 = 0) → Q [vv_I (op_word S n).1] go_φ δ') :
    Go E (d + 4) (0, 0) mx_X12_word go_φ 0 [(0, vv_A 94), (1, vv_I n)] [] δ Q := by
  have hl98 : go_ln 98 = 40 := rfl
  have hl95 : go_ln 95 = 384 := rfl
  refine go_aload_n (i := 0) dx_X12_word_0 rfl rfl ?_
  refine go_iconst dx_X12_word_1 ?_
  refine go_putI fp_X12_139 rfl rfl (go_ok rfl rfl) dx_X12_word_2 ?_
  have h := ms_thr (v := 0) h
  have f0 : fm δ (wr δ 94 0 0) := fm_wr (by decide)
  have e20 : (wr δ 94 0 0) 94 20 = δ 94 20 := wr_i _ _ _ _ (by decide)
  generalize wr δ 94 0 0 = δ0 at h f0 e20 ⊢
  have hms := h
  obtain ⟨g1, ⟨t1, t2, t3, t4, t5, t6⟩, g3, g4, g5⟩ := h
  have q1 := g1.2.2.2.2
  unfold op_word at hQ
  refine go_iload_n (i := 1) dx_X12_word_5 rfl rfl ?_
  refine go_i2l dx_X12_word_6 (by omega) ?_
  refine go_lconst (x := 0) dx_X12_word_7 rfl ?_
  refine go_aload_n (i := 0) dx_X12_word_8 rfl rfl ?_
  refine go_getI fs_X12_159 (Or.inl rfl) (go_ok rfl rfl) dx_X12_word_9 ?_
  refine go_i2l dx_X12_word_12 (by omega) ?_
  refine go_cS3 ss_X12_144 dx_X12_word_13 (Nat.le_of_ble_eq_true rfl) (Nat.le_of_ble_eq_true rfl) (m_within (by omega) (by omega) (by omega) (fun a1 a2 => ?_) (fun b1 => ?_))
  · refine go_if_ne (tgt := 22) dx_X12_word_16 rfl (by omega) (fun c16 => ?_) (fun c16 => absurd c16 (by decide))
    rw [if_neg (by omega)] at hQ
    dsimp only at hQ
    obtain ⟨m, rfl⟩ : ∃ m : Nat, n = (m : Int) := ⟨n.toNat, by omega⟩
    rw [Int.toNat_natCast] at hQ
    have hbl : (S.2.1.take m).length = m := by rw [List.length_take]; omega
    refine go_aload_n (i := 0) dx_X12_word_22 rfl rfl ?_
    refine go_iconst dx_X12_word_23 ?_
    refine go_putI fp_X12_159 rfl rfl (go_ok rfl rfl) dx_X12_word_24 ?_
    refine go_aload_n (i := 0) dx_X12_word_27 rfl rfl ?_
    refine go_iconst dx_X12_word_28 ?_
    refine go_putI fp_X12_162 rfl rfl (go_ok rfl rfl) dx_X12_word_29 ?_
    refine go_aload_n (i := 0) dx_X12_word_32 rfl rfl ?_
    refine go_iconst dx_X12_word_33 ?_
    refine go_putI fp_X12_23 rfl rfl (go_ok rfl rfl) dx_X12_word_34 ?_
    have hs98 : ∀ k (hk : k < S.2.1.length), (wr (wr (wr δ0 94 6 0) 94 7 0) 94 8 (-1)) 98 k = (S.2.1[k] : Int) := fun k hk => by
      rw [wr_a _ _ _ _ (by decide), wr_a _ _ _ _ (by decide), wr_a _ _ _ _ (by decide)]; exact t3 k hk
    have e96 : ∀ b j, (b = 94 → j ≠ 6 ∧ j ≠ 7 ∧ j ≠ 8) → (wr (wr (wr δ0 94 6 0) 94 7 0) 94 8 (-1)) b j = δ0 b j := fun b j hb => by
      by_cases e : b = 94
      · subst e
        have := hb rfl
        rw [wr_i _ _ _ _ (by omega), wr_i _ _ _ _ (by omega), wr_i _ _ _ _ (by omega)]
      · rw [wr_a _ _ _ _ e, wr_a _ _ _ _ e, wr_a _ _ _ _ e]
    have e6 : (wr (wr (wr δ0 94 6 0) 94 7 0) 94 8 (-1)) 94 6 = 0 := by rw [wr_i _ _ _ _ (by decide), wr_i _ _ _ _ (by decide), wr_eq]
    have e7 : (wr (wr (wr δ0 94 6 0) 94 7 0) 94 8 (-1)) 94 7 = 0 := by rw [wr_i _ _ _ _ (by decide), wr_eq]
    have e8 : (wr (wr (wr δ0 94 6 0) 94 7 0) 94 8 (-1)) 94 8 = -1 := wr_eq _ _ _ _
    generalize wr (wr (wr δ0 94 6 0) 94 7 0) 94 8 (-1) = δ1 at hs98 e96 e6 e7 e8 ⊢
    have msT : ∀ (δ2 : Nat → Nat → Int) (f : Int × Int), δ2 94 6 = 0 → δ2 94 7 = f.1 → δ2 94 8 = f.2 → (∀ b j, (b = 94 → j ≠ 6 ∧ j ≠ 7 ∧ j ≠ 8) → δ2 b j = δ0 b j) → ms_at δ2 (op_tape S [] f) := fun δ2 f z1 z2 z3 z4 =>
      ⟨bk_fr g1 (fun j => z4 95 j (fun q => absurd q (by decide))), ⟨by simp [op_tape], by rw [z1]; rfl, fun k hk => by simp [op_tape] at hk, fun c hc => by simp [op_tape] at hc, z2, z3⟩, pm_fr g3 (z4 94 3 (by decide)) (fun j => z4 96 j (fun q => absurd q (by decide))), jm_fr g4 (fun j => z4 97 j (fun q => absurd q (by decide))) (fun j _ => z4 95 j (fun q => absurd q (by decide))), ym_fr g5 (fun j => z4 134 j (fun q => absurd q (by decide))) (fun j => z4 135 j (fun q => absurd q (by decide)))⟩
    have fmT : ∀ (δ2 : Nat → Nat → Int), (∀ b j, (b = 94 → j ≠ 6 ∧ j ≠ 7 ∧ j ≠ 8) → δ2 b j = δ0 b j) → fm δ δ2 := fun δ2 z => fm_tr f0 (fun b hb j => z b j (fun q => by omega))
    have bad : ∀ k p : Int, wd_fault (S.2.1.take m) = (k, p) → k ≠ 0 → Q [vv_I (-30 - k)] go_φ (wr (wr δ1 94 7 k) 94 8 p) := fun k p hf hk => by
      rw [hf, if_pos hk] at hQ
      have z4 : ∀ b j, (b = 94 → j ≠ 6 ∧ j ≠ 7 ∧ j ≠ 8) → (wr (wr δ1 94 7 k) 94 8 p) b j = δ0 b j := fun b j hb => by
        by_cases e : b = 94
        · subst e; rw [wr_i _ _ _ _ (hb rfl).2.2, wr_i _ _ _ _ (hb rfl).2.1]; exact e96 94 j hb
        · rw [wr_a _ _ _ _ e, wr_a _ _ _ _ e]; exact e96 b j hb
      exact hQ _ (msT _ (k, p) (by rw [wr_i _ _ _ _ (by decide), wr_i _ _ _ _ (by decide)]; exact e6) (by rw [wr_i _ _ _ _ (by decide), wr_eq]) (wr_eq _ _ _ _) z4) (fmT _ z4) (Or.inl ⟨by rw [z4 94 20 (by decide)]; exact e20, rfl⟩)
    have loop1 : ∀ (k i : Nat), m - i < k → i ≤ m → i ≤ 14 → wd_flt 0 (S.2.1.take m) = wd_flt i ((S.2.1.take m).drop i) → Go E (d + 4) (0, 0) mx_X12_word go_φ 39 [(0, vv_A 94), (1, vv_I (m : Int)), (2, vv_I (i : Int))] [] δ1 Q := by
      intro k
      induction k with
      | zero => intros; omega
      | succ k ih =>
        intro i b1 b2 b3 b4
        refine go_iload_n (i := 2) dx_X12_word_39 rfl rfl ?_
        refine go_iload_n (i := 1) dx_X12_word_40 rfl rfl ?_
        refine go_icmp_ge (tgt := 82) dx_X12_word_41 rfl (by omega) (by omega) (fun c41 => ?_) (fun c41 => ?_)
        · have him : i = m := by omega
          subst him
          have hnone : wd_flt 0 (S.2.1.take i) = none := by rw [b4, List.drop_of_length_le (by omega)]; rfl
          have hfz : wd_fault (S.2.1.take i) = (0, -1) := by unfold wd_fault; rw [hnone]; rfl
          rw [hfz, if_neg (by decide)] at hQ
          have hms1 : ms_at δ1 (op_tape S [] (0, -1)) := msT δ1 (0, -1) e6 e7 e8 e96
          have w2 := (wd_flt_none hnone).2
          have hrl : (rl_of (S.2.1.take i)).length = i := by unfold rl_of; rw [List.length_map, hbl]
          have hsy : ∀ u (hu : u < i), 8 ≤ sy (S.2.1[u]'(by omega)) ∧ sy (S.2.1[u]'(by omega)) ≤ 13 ∧ (rl_of (S.2.1.take i)).getD u 0 = (sy (S.2.1[u]'(by omega))).toNat := fun u hu => by
            have z := w2 u (by omega)
            rw [List.getElem_take] at z
            exact ⟨z, (sy_range _).2, by rw [List.getD_eq_getElem?_getD, rl_of_get (show u < (S.2.1.take i).length by omega), List.getElem_take]; rfl⟩
          have hw : ∀ x ∈ rl_of (S.2.1.take i), 8 ≤ x ∧ x < 14 := by
            intro x hx
            obtain ⟨u, hu, rfl⟩ := List.getElem_of_mem hx
            have z := hsy u (by omega)
            rw [List.getD_eq_getElem?_getD, List.getElem?_eq_getElem hu, Option.getD_some] at z
            omega
          refine go_aload_n (i := 0) dx_X12_word_82 rfl rfl ?_
          refine go_cV0 sv_X12_200 (go_ok rfl rfl) dx_X12_word_83 (Nat.le_of_ble_eq_true rfl) (Nat.le_of_ble_eq_true rfl) (m_notes hms1.1 hms1.2.2.1 (fun δ2 n1 n2 n3 => ?_))
          have h98 : ∀ k (hk : k < S.2.1.length), δ2 98 k = (S.2.1[k] : Int) := fun k hk => by rw [n2 98 k (by decide) (fun q => absurd q (by decide))]; exact hs98 k hk
          have loop3 : ∀ (k j : Nat) (δ3 : Nat → Nat → Int), 14 - j < k → j ≤ 14 → (∀ b jj, (b = 95 → ¬ (113 ≤ jj ∧ jj < 128)) → δ3 b jj = δ2 b jj) → δ3 95 113 = (i : Int) → (∀ u, u < j → δ3 95 (114 + u) = (((rl_of (S.2.1.take i)).getD u 0 : Nat) : Int)) →
              Go E (d + 4) (0, 0) mx_X12_word go_φ 96 [(0, vv_A 94), (1, vv_I (i : Int)), (2, vv_I (j : Int))] [] δ3 Q := by
            intro k
            induction k with
            | zero => intros; omega
            | succ k ih3 =>
              intro j δ3 v1 v2 v3 v4 v5
              have step : j < 14 → ∀ v : Int, v = (((rl_of (S.2.1.take i)).getD j 0 : Nat) : Int) → Go E (d + 4) (0, 0) mx_X12_word go_φ 128 [(0, vv_A 94), (1, vv_I (i : Int)), (2, vv_I (j : Int))] [vv_I v, vv_I (114 + (j : Int)), vv_A 95] δ3 Q := by
                intro hj v hv
                refine go_iastore dx_X12_word_128 (go_ok rfl rfl) (by omega) (by omega) ?_
                refine go_iinc (lv' := [(0, vv_A 94), (1, vv_I (i : Int)), (2, vv_I ((j : Int) + 1))]) dx_X12_word_129 rfl (by decide) rfl ?_
                refine go_goto (tgt := 96) dx_X12_word_132 rfl ?_
                rw [show ((114 : Int) + (j : Int)).toNat = 114 + j by omega]
                refine ih3 (j + 1) _ (by omega) (by omega) (fun b jj hb => ?_) ?_ (fun u hu => ?_)
                · by_cases e : b = 95
                  · subst e; rw [wr_i _ _ _ _ (by have := hb rfl; omega)]; exact v3 95 jj hb
                  · rw [wr_a _ _ _ _ e]; exact v3 b jj hb
                · rw [wr_i _ _ _ _ (by omega)]; exact v4
                · by_cases e : u = j
                  · subst e; rw [wr_eq]; exact hv
                  · rw [wr_i _ _ _ _ (by omega)]; exact v5 u (by omega)
              refine go_iload_n (i := 2) dx_X12_word_96 rfl rfl ?_
              refine go_bipush dx_X12_word_97 rfl ?_
              refine go_icmp_ge (tgt := 135) dx_X12_word_99 rfl (by omega) (by omega) (fun c99 => ?_) (fun c99 => ?_)
              · refine go_iload_n (i := 1) dx_X12_word_135 rfl rfl ?_
                refine go_ireturn dx_X12_word_136 rfl (Nat.le_refl _) (Nat.le_refl _) ?_
                have hj : j = 14 := by omega
                subst hj
                have hb2 : bk_at δ3 95 0 (S.1.1, S.1.2.1, rl_of (S.2.1.take i)) := by
                  obtain ⟨p1, p2, p3, p4, c1, c2, c3, c4, c5, c6⟩ := hms1.1
                  have N : ∀ u, ¬ (113 ≤ u ∧ u < 128) → δ3 95 u = δ1 95 u := fun u hu => by rw [v3 95 u (fun _ => hu), n2 95 u (by decide) (fun q => absurd q (by decide))]
                  exact ⟨fun r hr => ⟨by rw [N _ (by omega)]; exact (p1 r hr).1, fun u hu => by rw [N _ (by omega)]; exact (p1 r hr).2 u hu⟩, by rw [N _ (by omega)]; exact p2, by rw [Nat.zero_add, v4, hrl], fun u hu => by rw [Nat.zero_add]; exact v5 u hu, c1, c2, c3, c4, by rw [hrl]; omega, hw⟩
                refine hQ δ3 (ms_keep hms1 n1 hb2 n2 (fun b u hb => v3 b u (fun q => by have := hb q; omega))) (fm_tr (fmT _ e96) (fm_tr (fun b hb u => n2 b u (by omega) (fun q => by omega)) (fun b hb u => v3 b u (fun q => by omega)))) (Or.inr ?_)
                rw [v3 94 20 (fun q => absurd q (by decide))]; exact n3
              · refine go_aload_n (i := 0) dx_X12_word_102 rfl rfl ?_
                refine go_getA (b := 95) fs_X12_7 rfl (go_ok rfl rfl) rfl dx_X12_word_103 ?_
                refine go_bipush dx_X12_word_106 rfl ?_
                refine go_iload_n (i := 2) dx_X12_word_108 rfl rfl ?_
                refine go_iadd dx_X12_word_109 ?_
                refine go_iload_n (i := 2) dx_X12_word_110 rfl rfl ?_
                refine go_iload_n (i := 1) dx_X12_word_111 rfl rfl ?_
                refine go_icmp_ge (tgt := 127) dx_X12_word_112 rfl (by omega) (by omega) (fun c112 => ?_) (fun c112 => ?_)
                · refine go_iconst dx_X12_word_127 ?_
                  exact step (by omega) 0 (by rw [List.getD_eq_getElem?_getD, List.getElem?_eq_none (by rw [hrl]; omega)]; rfl)
                · have hji : j < i := by omega
                  have zz := hsy j hji
                  refine go_aload_n (i := 0) dx_X12_word_115 rfl rfl ?_
                  refine go_getA (b := 98) fs_X12_20 rfl (go_ok rfl rfl) rfl dx_X12_word_116 ?_
                  refine go_iload_n (i := 2) dx_X12_word_119 rfl rfl ?_
                  refine go_iaload dx_X12_word_120 (go_ok rfl rfl) (by omega) (by omega) ?_
                  refine go_cS1 ss_X12_187 dx_X12_word_121 (Nat.le_of_ble_eq_true rfl) (Nat.le_of_ble_eq_true rfl) (m_symbolByte (c := S.2.1[j]'(by omega)) (by rw [v3 98 _ (fun q => absurd q (by decide))]; exact h98 j (by omega)) (t4 _ (List.getElem_mem (by omega))) (by omega) ?_)
                  refine go_goto (tgt := 128) dx_X12_word_124 rfl ?_
                  exact step (by omega) _ (by omega)
          refine go_aload_n (i := 0) dx_X12_word_86 rfl rfl ?_
          refine go_getA (b := 95) fs_X12_7 rfl (go_ok rfl rfl) rfl dx_X12_word_87 ?_
          refine go_bipush dx_X12_word_90 rfl ?_
          refine go_iload_n (i := 1) dx_X12_word_92 rfl rfl ?_
          refine go_iastore dx_X12_word_93 (go_ok rfl rfl) (by omega) (by omega) ?_
          refine go_iconst dx_X12_word_94 ?_
          refine go_istore_n (i := 2) (lv' := [(0, vv_A 94), (1, vv_I (i : Int)), (2, vv_I 0)]) dx_X12_word_95 rfl (by decide) rfl ?_
          refine loop3 15 0 _ (by omega) (by omega) (fun b jj hb => ?_) (wr_eq _ _ _ _) (fun u hu => by omega)
          by_cases e : b = 95
          · subst e; rw [wr_i _ _ _ _ (by have := hb rfl; omega)]
          · rw [wr_a _ _ _ _ e]
        · have hi : i < S.2.1.length := by omega
          have hdrop : (S.2.1.take m).drop i = S.2.1[i] :: (S.2.1.take m).drop (i + 1) := by
            rw [List.drop_eq_getElem_cons (by omega), List.getElem_take]
          have hc256 : S.2.1[i] < 256 := t4 _ (List.getElem_mem hi)
          have hti := hs98 i hi
          have F3 : i = 14 → wd_fault (S.2.1.take m) = (3, (i : Int)) := fun q => by
            unfold wd_fault
            rw [b4, hdrop]
            unfold wd_flt
            rw [if_pos (by omega)]
            rfl
          have F1 : i < 14 → sy S.2.1[i] < 8 → wd_fault (S.2.1.take m) = (1, (i : Int)) := fun q z => by
            unfold wd_fault
            rw [b4, hdrop]
            unfold wd_flt
            rw [if_neg (by omega), if_pos z]
            rfl
          have F0 : i < 14 → ¬ sy S.2.1[i] < 8 → wd_flt 0 (S.2.1.take m) = wd_flt (i + 1) ((S.2.1.take m).drop (i + 1)) := fun q z => by
            rw [b4, hdrop]
            show wd_flt i (S.2.1[i] :: _) = _
            rw [wd_flt, if_neg (by omega), if_neg z]
          refine go_iload_n (i := 2) dx_X12_word_44 rfl rfl ?_
          refine go_bipush dx_X12_word_45 rfl ?_
          refine go_icmp_ne (tgt := 57) dx_X12_word_47 rfl (by omega) (by omega) (fun c47 => ?_) (fun c47 => ?_)
          · refine go_aload_n (i := 0) dx_X12_word_57 rfl rfl ?_
            refine go_getA (b := 98) fs_X12_20 rfl (go_ok rfl rfl) rfl dx_X12_word_58 ?_
            refine go_iload_n (i := 2) dx_X12_word_61 rfl rfl ?_
            refine go_iaload dx_X12_word_62 (go_ok rfl rfl) (by omega) (by omega) ?_
            refine go_cS1 ss_X12_181 dx_X12_word_63 (Nat.le_of_ble_eq_true rfl) (Nat.le_of_ble_eq_true rfl) (m_isLetterByte (by rw [Int.toNat_natCast, hti]; omega) (fun b5 b6 => ?_) (fun b5 => ?_))
            · refine go_if_ne (tgt := 76) dx_X12_word_66 rfl (by omega) (fun c66 => ?_) (fun c66 => absurd c66 (by decide))
              refine go_iinc (lv' := [(0, vv_A 94), (1, vv_I (m : Int)), (2, vv_I ((i : Int) + 1))]) dx_X12_word_76 rfl (by decide) rfl ?_
              refine go_goto (tgt := 39) dx_X12_word_79 rfl ?_
              rw [Int.toNat_natCast, hti] at b5 b6
              exact ih (i + 1) (by omega) (by omega) (by omega) (F0 (by omega) (by rw [sy_2 (by omega) (by omega)]; omega))
            · refine go_if_ne (tgt := 76) dx_X12_word_66 rfl (by omega) (fun c66 => absurd c66 (by decide)) (fun c66 => ?_)
              refine go_aload_n (i := 0) dx_X12_word_69 rfl rfl ?_
              refine go_iconst dx_X12_word_70 ?_
              refine go_iload_n (i := 2) dx_X12_word_71 rfl rfl ?_
              refine go_cV2 sv_X12_173 (go_ok rfl rfl) dx_X12_word_72 (Nat.le_of_ble_eq_true rfl) (Nat.le_of_ble_eq_true rfl) (m_fails ?_)
              refine go_ireturn dx_X12_word_75 rfl (Nat.le_refl _) (Nat.le_refl _) ?_
              rw [Int.toNat_natCast, hti] at b5
              refine bad 1 _ (F1 (by omega) ?_) (by decide)
              by_cases q : 65 ≤ S.2.1[i] ∧ S.2.1[i] ≤ 72
              · rw [sy_1 q.1 q.2]; omega
              · rw [sy_3 q (by omega)]; omega
          · refine go_aload_n (i := 0) dx_X12_word_50 rfl rfl ?_
            refine go_iconst dx_X12_word_51 ?_
            refine go_iload_n (i := 2) dx_X12_word_52 rfl rfl ?_
            refine go_cV2 sv_X12_173 (go_ok rfl rfl) dx_X12_word_53 (Nat.le_of_ble_eq_true rfl) (Nat.le_of_ble_eq_true rfl) (m_fails ?_)
            refine go_ireturn dx_X12_word_56 rfl (Nat.le_refl _) (Nat.le_refl _) ?_
            exact bad 3 _ (F3 (by omega)) (by decide)
    refine go_iconst dx_X12_word_37 ?_
    refine go_istore_n (i := 2) (lv' := [(0, vv_A 94), (1, vv_I (m : Int)), (2, vv_I 0)]) dx_X12_word_38 rfl (by decide) rfl ?_
    exact loop1 (m + 1) 0 (by omega) (by omega) (by omega) rfl
  · refine go_if_ne (tgt := 22) dx_X12_word_16 rfl (by omega) (fun c16 => absurd c16 (by decide)) (fun c16 => ?_)
    refine go_bipush dx_X12_word_19 rfl ?_
    refine go_ireturn dx_X12_word_21 rfl (Nat.le_refl _) (Nat.le_refl _) ?_
    rw [if_pos (by omega)] at hQ
    exact hQ _ hms f0 (Or.inl ⟨e20, rfl⟩)
theorem m_fault {w : Int} (hw : go_iI w) (h : ms_at δ S) (hQ : ∀ δ', ms_at δ' S → fm δ δ' → δ' 94 20 = δ 94 20 → Q [vv_I (op_fault S w)] go_φ δ') : Go E d (0, 0) mx_X12_fault go_φ 0 [(0, vv_A 94), (1, vv_I w)] [] δ Q := by
  refine go_aload_n (i := 0) dx_X12_fault_0 rfl rfl ?_
  refine go_iconst dx_X12_fault_1 ?_
  refine go_putI fp_X12_139 rfl rfl (go_ok rfl rfl) dx_X12_fault_2 ?_
  have h := ms_thr (v := 0) h
  have f0 : fm δ (wr δ 94 0 0) := fm_wr (by decide)
  have e20 : (wr δ 94 0 0) 94 20 = δ 94 20 := wr_i _ _ _ _ (by decide)
  generalize wr δ 94 0 0 = δ0 at h f0 e20 ⊢
  have e1 := h.2.1.2.2.2.2.1
  have e2 := h.2.1.2.2.2.2.2
  have hQ := hQ δ0 h f0 e20
  unfold op_fault at hQ
  refine go_iload_n (i := 1) dx_X12_fault_5 rfl rfl ?_
  refine go_if_ne (tgt := 16) dx_X12_fault_6 rfl (by omega) (fun c6 => ?_) (fun c6 => ?_)
  · refine go_iload_n (i := 1) dx_X12_fault_16 rfl rfl ?_
    refine go_iconst dx_X12_fault_17 ?_
    refine go_icmp_ne (tgt := 28) dx_X12_fault_18 rfl (by omega) (by omega) (fun c18 => ?_) (fun c18 => ?_)
    · refine go_iconst dx_X12_fault_28 ?_
      refine go_ireturn dx_X12_fault_29 rfl (Nat.le_refl _) (Nat.le_refl _) ?_
      first | (rw [if_pos (by omega)] at hQ; rw [e1]; exact hQ) | (rw [if_neg (by omega), if_pos (by omega)] at hQ; rw [e2]; exact hQ) | (rw [if_neg (by omega), if_neg (by omega)] at hQ; exact hQ)
    · refine go_aload_n (i := 0) dx_X12_fault_21 rfl rfl ?_
      refine go_getI fs_X12_23 (Or.inl rfl) (go_ok rfl rfl) dx_X12_fault_22 ?_
      refine go_goto (tgt := 29) dx_X12_fault_25 rfl ?_
      refine go_ireturn dx_X12_fault_29 rfl (Nat.le_refl _) (Nat.le_refl _) ?_
      first | (rw [if_pos (by omega)] at hQ; rw [e1]; exact hQ) | (rw [if_neg (by omega), if_pos (by omega)] at hQ; rw [e2]; exact hQ) | (rw [if_neg (by omega), if_neg (by omega)] at hQ; exact hQ)
  · refine go_aload_n (i := 0) dx_X12_fault_9 rfl rfl ?_
    refine go_getI fs_X12_162 (Or.inl rfl) (go_ok rfl rfl) dx_X12_fault_10 ?_
    refine go_goto (tgt := 29) dx_X12_fault_13 rfl ?_
    refine go_ireturn dx_X12_fault_29 rfl (Nat.le_refl _) (Nat.le_refl _) ?_
    first | (rw [if_pos (by omega)] at hQ; rw [e1]; exact hQ) | (rw [if_neg (by omega), if_pos (by omega)] at hQ; rw [e2]; exact hQ) | (rw [if_neg (by omega), if_neg (by omega)] at hQ; exact hQ)
theorem m_ruleMany (h : bk_at δ 95 0 K) (hQ : Q [vv_I (rl_many K.1 16 : Int)] go_φ δ) : Go E (d + 1) (0, 0) mx_X12_ruleMany go_φ 0 [(0, vv_A 94)] [] δ Q := by
  have hm : ∀ n, rl_many K.1 n ≤ n := by
    intro n
    induction n with
    | zero => exact Nat.le_refl _
    | succ n ih => rw [rl_many]; split <;> omega
  have loop : ∀ (k i : Nat), 16 - i < k → i ≤ 16 → Go E (d + 1) (0, 0) mx_X12_ruleMany go_φ 4 [(0, vv_A 94), (1, vv_I (rl_many K.1 i : Int)), (2, vv_I (i : Int))] [] δ Q := by
    intro k
    induction k with
    | zero => intros; omega
    | succ k ih =>
      intro i a1 a2
      have hok := h.2.2.2.2.1 i
      have hlen := hok.len
      have hm1 := hm i
      refine go_iload_n (i := 2) dx_X12_ruleMany_4 rfl rfl ?_
      refine go_bipush dx_X12_ruleMany_5 rfl ?_
      refine go_icmp_ge (tgt := 32) dx_X12_ruleMany_7 rfl (by omega) (by omega) (fun c7 => ?_) (fun c7 => ?_)
      · refine go_iload_n (i := 1) dx_X12_ruleMany_32 rfl rfl ?_
        refine go_ireturn dx_X12_ruleMany_33 rfl (Nat.le_refl _) (Nat.le_refl _) ?_
        rw [show 16 = i by omega] at hQ
        exact hQ
      · refine go_iload_n (i := 1) dx_X12_ruleMany_10 rfl rfl ?_
        refine go_aload_n (i := 0) dx_X12_ruleMany_11 rfl rfl ?_
        refine go_iload_n (i := 2) dx_X12_ruleMany_12 rfl rfl ?_
        refine go_cV1 sv_X12_148 (go_ok rfl rfl) dx_X12_ruleMany_13 (Nat.le_of_ble_eq_true rfl) (Nat.le_of_ble_eq_true rfl) (m_longOf h (by omega) ?_)
        refine go_if_le (tgt := 23) dx_X12_ruleMany_16 rfl (by omega) (fun c16 => ?_) (fun c16 => ?_)
        · refine go_iconst dx_X12_ruleMany_23 ?_
          refine go_iadd dx_X12_ruleMany_24 ?_
          refine go_nmI (fun y ey => ?_)
          refine go_istore_n (i := 1) (lv' := [(0, vv_A 94), (1, vv_I y), (2, vv_I (i : Int))]) dx_X12_ruleMany_25 rfl (by decide) rfl ?_
          refine go_iinc (lv' := [(0, vv_A 94), (1, vv_I y), (2, vv_I ((i : Int) + 1))]) dx_X12_ruleMany_26 rfl (by decide) rfl ?_
          refine go_goto (tgt := 4) dx_X12_ruleMany_29 rfl ?_
          have A := ih (i + 1) (by omega) (by omega)
          have e : ((rl_many K.1 (i + 1) : Nat) : Int) = y := by
            rw [ey, rl_many]
            rcases hok with z | ⟨z, -⟩
            · rw [if_pos z]; first | (rw [z] at c16; exact absurd (by decide) c16) | omega
            · rw [if_neg (by intro q; rw [q] at z; simp at z)]; omega
          rw [e] at A
          exact A
        · refine go_iconst dx_X12_ruleMany_19 ?_
          refine go_goto (tgt := 24) dx_X12_ruleMany_20 rfl ?_
          refine go_iadd dx_X12_ruleMany_24 ?_
          refine go_nmI (fun y ey => ?_)
          refine go_istore_n (i := 1) (lv' := [(0, vv_A 94), (1, vv_I y), (2, vv_I (i : Int))]) dx_X12_ruleMany_25 rfl (by decide) rfl ?_
          refine go_iinc (lv' := [(0, vv_A 94), (1, vv_I y), (2, vv_I ((i : Int) + 1))]) dx_X12_ruleMany_26 rfl (by decide) rfl ?_
          refine go_goto (tgt := 4) dx_X12_ruleMany_29 rfl ?_
          have A := ih (i + 1) (by omega) (by omega)
          have e : ((rl_many K.1 (i + 1) : Nat) : Int) = y := by
            rw [ey, rl_many]
            rcases hok with z | ⟨z, -⟩
            · rw [if_pos z]; first | (rw [z] at c16; exact absurd (by decide) c16) | omega
            · rw [if_neg (by intro q; rw [q] at z; simp at z)]; omega
          rw [e] at A
          exact A
  refine go_iconst dx_X12_ruleMany_0 ?_
  refine go_istore_n (i := 1) (lv' := [(0, vv_A 94), (1, vv_I 0)]) dx_X12_ruleMany_1 rfl (by decide) rfl ?_
  refine go_iconst dx_X12_ruleMany_2 ?_
  refine go_istore_n (i := 2) (lv' := [(0, vv_A 94), (1, vv_I 0), (2, vv_I 0)]) dx_X12_ruleMany_3 rfl (by decide) rfl ?_
  exact loop 17 0 (by omega) (by omega)
theorem m_drop {r : Int} (hr : go_iI r) (h : ms_at δ S)
    (hQ : ∀ δ', ms_at δ' (op_drop S r).2 → fm δ δ' → (δ' 94 20 = δ 94 20 ∧ (op_drop S r).2.1 = S.1 ∨ δ' 94 20 = 0) → Q [vv_I (op_drop S r).1] go_φ δ') :
    Go E (d + 3) (0, 0) mx_X12_drop go_φ 0 [(0, vv_A 94), (1, vv_I r)] [] δ Q := by
  have hl95 : go_ln 95 = 384 := rfl
  refine go_aload_n (i := 0) dx_X12_drop_0 rfl rfl ?_
  refine go_iconst dx_X12_drop_1 ?_
  refine go_putI fp_X12_139 rfl rfl (go_ok rfl rfl) dx_X12_drop_2 ?_
  have h := ms_thr (v := 0) h
  have f0 : fm δ (wr δ 94 0 0) := fm_wr (by decide)
  have e20 : (wr δ 94 0 0) 94 20 = δ 94 20 := wr_i _ _ _ _ (by decide)
  generalize wr δ 94 0 0 = δ0 at h f0 e20 ⊢
  have hms := h
  obtain ⟨g1, g2, g3, g4, g5⟩ := h
  unfold op_drop at hQ
  refine go_aload_n (i := 0) dx_X12_drop_5 rfl rfl ?_
  refine go_iload_n (i := 1) dx_X12_drop_6 rfl rfl ?_
  refine go_cV1 sv_X12_203 (go_ok rfl rfl) dx_X12_drop_7 (Nat.le_of_ble_eq_true rfl) (Nat.le_of_ble_eq_true rfl) (m_isRule hr g1 (fun a1 a2 a3 => ?_) (fun b1 => ?_))
  · refine go_if_ne (tgt := 16) dx_X12_drop_10 rfl (by omega) (fun c10 => ?_) (fun c10 => absurd c10 (by decide))
    rw [if_pos ⟨a1, a2, a3⟩] at hQ
    dsimp only at hQ
    obtain ⟨m, rfl⟩ : ∃ m : Nat, r = (m : Int) := ⟨r.toNat, by omega⟩
    rw [Int.toNat_natCast] at hQ
    refine go_aload_n (i := 0) dx_X12_drop_16 rfl rfl ?_
    refine go_cV0 sv_X12_200 (go_ok rfl rfl) dx_X12_drop_17 (Nat.le_of_ble_eq_true rfl) (Nat.le_of_ble_eq_true rfl) (m_notes g1 g3 (fun δ2 n1 n2 n3 => ?_))
    have loop : ∀ (k i : Nat) (δ3 : Nat → Nat → Int), 7 - i < k → i ≤ 7 → (∀ b j, (b = 95 → ¬ (7 * m ≤ j ∧ j < 7 * m + 7)) → δ3 b j = δ2 b j) → (∀ u, u < i → δ3 95 (7 * m + u) = 0) → Go E (d + 3) (0, 0) mx_X12_drop go_φ 22 [(0, vv_A 94), (1, vv_I (m : Int)), (2, vv_I (i : Int))] [] δ3 Q := by
      intro k
      induction k with
      | zero => intros; omega
      | succ k ih =>
        intro i δ3 v1 v2 v3 v4
        refine go_iload_n (i := 2) dx_X12_drop_22 rfl rfl ?_
        refine go_bipush dx_X12_drop_23 rfl ?_
        refine go_icmp_ge (tgt := 46) dx_X12_drop_25 rfl (by omega) (by omega) (fun c25 => ?_) (fun c25 => ?_)
        · have hi : i = 7 := by omega
          subst hi
          have hb2 : bk_at δ3 95 0 (fun s => if s = m then [] else S.1.1 s, S.1.2) := bk_rule (r := m) (K := S.1) (l := []) (bk_fr g1 (fun jj => n2 95 jj (by decide) (fun q => absurd q (by decide)))) (by omega) (Or.inl rfl) (Or.inl rfl) (by have := v4 0 (by omega); rw [Nat.add_zero] at this; rw [this]; rfl) (fun u hu => by rw [show 7 * m + 1 + u = 7 * m + (1 + u) by omega, v4 (1 + u) (by omega)]; rfl) (fun u hu hu2 => v3 95 u (fun _ => hu2))
          refine go_aload_n (i := 0) dx_X12_drop_46 rfl rfl ?_
          refine go_cV0 sv_X12_206 (go_ok rfl rfl) dx_X12_drop_47 (Nat.le_of_ble_eq_true rfl) (Nat.le_of_ble_eq_true rfl) (m_ruleMany hb2 ?_)
          refine go_ireturn dx_X12_drop_50 rfl (Nat.le_refl _) (Nat.le_refl _) ?_
          refine hQ δ3 (ms_keep hms n1 hb2 n2 (fun b u hb => v3 b u (fun q => by have := hb q; omega))) (fm_tr f0 (fm_tr (fun b hb u => n2 b u (by omega) (fun q => by omega)) (fun b hb u => v3 b u (fun q => by omega)))) (Or.inr ?_)
          rw [v3 94 20 (fun q => absurd q (by decide))]; exact n3
        · refine go_aload_n (i := 0) dx_X12_drop_28 rfl rfl ?_
          refine go_getA (b := 95) fs_X12_7 rfl (go_ok rfl rfl) rfl dx_X12_drop_29 ?_
          refine go_bipush dx_X12_drop_32 rfl ?_
          refine go_iload_n (i := 1) dx_X12_drop_34 rfl rfl ?_
          refine go_imul dx_X12_drop_35 ?_
          refine go_iload_n (i := 2) dx_X12_drop_36 rfl rfl ?_
          refine go_iadd dx_X12_drop_37 ?_
          refine go_iconst dx_X12_drop_38 ?_
          refine go_iastore dx_X12_drop_39 (go_ok rfl rfl) (by omega) (by omega) ?_
          refine go_iinc (lv' := [(0, vv_A 94), (1, vv_I (m : Int)), (2, vv_I ((i : Int) + 1))]) dx_X12_drop_40 rfl (by decide) rfl ?_
          refine go_goto (tgt := 22) dx_X12_drop_43 rfl ?_
          rw [show ((7 : Int) * (m : Int) + (i : Int)).toNat = 7 * m + i by omega]
          refine ih (i + 1) _ (by omega) (by omega) (fun b j hb => ?_) (fun u hu => ?_)
          · by_cases e : b = 95
            · subst e; rw [wr_i _ _ _ _ (by have := hb rfl; omega)]; exact v3 95 j hb
            · rw [wr_a _ _ _ _ e]; exact v3 b j hb
          · by_cases e : u = i
            · subst e; rw [wr_eq]
            · rw [wr_i _ _ _ _ (by omega)]; exact v4 u (by omega)
    refine go_iconst dx_X12_drop_20 ?_
    refine go_istore_n (i := 2) (lv' := [(0, vv_A 94), (1, vv_I (m : Int)), (2, vv_I 0)]) dx_X12_drop_21 rfl (by decide) rfl ?_
    exact loop 8 0 δ2 (by omega) (by omega) (fun _ _ _ => rfl) (fun u hu => by omega)
  · refine go_if_ne (tgt := 16) dx_X12_drop_10 rfl (by omega) (fun c10 => absurd c10 (by decide)) (fun c10 => ?_)
    refine go_bipush dx_X12_drop_13 rfl ?_
    refine go_ireturn dx_X12_drop_15 rfl (Nat.le_refl _) (Nat.le_refl _) ?_
    rw [if_neg b1] at hQ
    exact hQ _ hms f0 (Or.inl ⟨e20, rfl⟩)
theorem m_start {x : Int} (hx : go_iI x) (h : ms_at δ S)
    (hQ : ∀ δ', ms_at δ' (op_start S x).2 → fm δ δ' → (δ' 94 20 = δ 94 20 ∧ (op_start S x).2.1 = S.1 ∨ δ' 94 20 = 0) → Q [vv_I (op_start S x).1] go_φ δ') :
    Go E (d + 3) (0, 0) mx_X12_start go_φ 0 [(0, vv_A 94), (1, vv_I x)] [] δ Q := by
  have hl95 : go_ln 95 = 384 := rfl
  refine go_aload_n (i := 0) dx_X12_start_0 rfl rfl ?_
  refine go_iconst dx_X12_start_1 ?_
  refine go_putI fp_X12_139 rfl rfl (go_ok rfl rfl) dx_X12_start_2 ?_
  have h := ms_thr (v := 0) h
  have f0 : fm δ (wr δ 94 0 0) := fm_wr (by decide)
  have e20 : (wr δ 94 0 0) 94 20 = δ 94 20 := wr_i _ _ _ _ (by decide)
  generalize wr δ 94 0 0 = δ0 at h f0 e20 ⊢
  have hms := h
  obtain ⟨g1, g2, g3, g4, g5⟩ := h
  have e1 : δ0 95 112 = (S.1.2.1 : Int) := by have := g1.2.1; rwa [Nat.zero_add] at this
  have q4 := g1.2.2.2.2.2.2.2.1
  unfold op_start at hQ
  refine go_iload_n (i := 1) dx_X12_start_5 rfl rfl ?_
  refine go_cS1 ss_X12_212 dx_X12_start_6 (Nat.le_of_ble_eq_true rfl) (Nat.le_of_ble_eq_true rfl) (m_isSymbol hx (fun a1 a2 => ?_) (fun b1 => ?_))
  · refine go_if_ne (tgt := 15) dx_X12_start_9 rfl (by omega) (fun c9 => ?_) (fun c9 => absurd c9 (by decide))
    refine go_aload_n (i := 0) dx_X12_start_15 rfl rfl ?_
    refine go_getA (b := 95) fs_X12_7 rfl (go_ok rfl rfl) rfl dx_X12_start_16 ?_
    refine go_bipush dx_X12_start_19 rfl ?_
    refine go_iaload dx_X12_start_21 (go_ok rfl rfl) (by omega) (by omega) ?_
    refine go_nmI (fun was ewas => ?_)
    refine go_istore_n (i := 2) (lv' := [(0, vv_A 94), (1, vv_I x), (2, vv_I was)]) dx_X12_start_22 rfl (by decide) rfl ?_
    refine go_iload_n (i := 2) dx_X12_start_23 rfl rfl ?_
    refine go_iload_n (i := 1) dx_X12_start_24 rfl rfl ?_
    refine go_icmp_ne (tgt := 31) dx_X12_start_25 rfl (by first | omega | (rw [ewas, show (112 : Int).toNat = 112 from rfl, e1]; omega)) (by first | omega | (rw [ewas, show (112 : Int).toNat = 112 from rfl, e1]; omega)) (fun c25 => ?_) (fun c25 => ?_)
    · refine go_aload_n (i := 0) dx_X12_start_31 rfl rfl ?_
      refine go_cV0 sv_X12_200 (go_ok rfl rfl) dx_X12_start_32 (Nat.le_of_ble_eq_true rfl) (Nat.le_of_ble_eq_true rfl) (m_notes g1 g3 (fun δ2 n1 n2 n3 => ?_))
      refine go_aload_n (i := 0) dx_X12_start_35 rfl rfl ?_
      refine go_getA (b := 95) fs_X12_7 rfl (go_ok rfl rfl) rfl dx_X12_start_36 ?_
      refine go_bipush dx_X12_start_39 rfl ?_
      refine go_iload_n (i := 1) dx_X12_start_41 rfl rfl ?_
      refine go_iastore dx_X12_start_42 (go_ok rfl rfl) (by omega) (by omega) ?_
      refine go_iload_n (i := 2) dx_X12_start_43 rfl rfl ?_
      refine go_ireturn dx_X12_start_44 rfl (Nat.le_refl _) (Nat.le_refl _) ?_
      rw [show (112 : Int).toNat = 112 from rfl, e1] at ewas
      rw [if_neg (by omega), if_neg (by omega)] at hQ
      obtain ⟨m, rfl⟩ : ∃ m : Nat, x = (m : Int) := ⟨x.toNat, by omega⟩
      rw [Int.toNat_natCast] at hQ
      rw [show (112 : Int).toNat = 112 from rfl, ewas]
      have N : ∀ u, u ≠ 112 → (wr δ2 95 112 (m : Int)) 95 u = δ0 95 u := fun u hu => by rw [wr_i _ _ _ _ hu, n2 95 u (by decide) (fun q => absurd q (by decide))]
      obtain ⟨p1, p2, p3, p4, c1, c2, c3, c4, c5, c6⟩ := g1
      have hb2 : bk_at (wr δ2 95 112 (m : Int)) 95 0 (S.1.1, m, S.1.2.2) := ⟨fun r hr => ⟨by rw [N _ (by omega)]; exact (p1 r hr).1, fun u hu => by rw [N _ (by omega)]; exact (p1 r hr).2 u hu⟩, by rw [Nat.zero_add, wr_eq], by rw [N _ (by omega)]; exact p3, fun u hu => by rw [N _ (by omega)]; exact p4 u hu, c1, c2, c3, by show m < 8; omega, c5, c6⟩
      have W : ∀ b u, (b = 95 → 128 ≤ u) → (wr δ2 95 112 (m : Int)) b u = δ2 b u := fun b u hb => by
        by_cases e : b = 95
        · subst e; exact wr_i _ _ _ _ (by have := hb rfl; omega)
        · exact wr_a _ _ _ _ e u
      refine hQ _ (ms_keep hms n1 hb2 n2 W) (fm_tr f0 (fm_tr (fun b hb u => n2 b u (by omega) (fun q => by omega)) (fm_wr (by decide)))) (Or.inr ?_)
      rw [wr_a _ _ _ _ (by decide)]; exact n3
    · refine go_bipush dx_X12_start_28 rfl ?_
      refine go_ireturn dx_X12_start_30 rfl (Nat.le_refl _) (Nat.le_refl _) ?_
      rw [show (112 : Int).toNat = 112 from rfl, e1] at ewas
      rw [if_neg (by omega), if_pos (by omega)] at hQ
      exact hQ _ hms f0 (Or.inl ⟨e20, rfl⟩)
  · refine go_if_ne (tgt := 15) dx_X12_start_9 rfl (by omega) (fun c9 => absurd c9 (by decide)) (fun c9 => ?_)
    refine go_bipush dx_X12_start_12 rfl ?_
    refine go_ireturn dx_X12_start_14 rfl (Nat.le_refl _) (Nat.le_refl _) ?_
    rw [if_pos b1] at hQ
    exact hQ _ hms f0 (Or.inl ⟨e20, rfl⟩)
theorem m_part {r i : Int} (hr : go_iI r) (hi : go_iI i) (h : ms_at δ S) (hQ : ∀ δ', ms_at δ' S → fm δ δ' → δ' 94 20 = δ 94 20 → Q [vv_I (op_part S r i)] go_φ δ') :
    Go E (d + 3) (0, 0) mx_X12_part go_φ 0 [(0, vv_A 94), (1, vv_I r), (2, vv_I i)] [] δ Q := by
  refine go_aload_n (i := 0) dx_X12_part_0 rfl rfl ?_
  refine go_iconst dx_X12_part_1 ?_
  refine go_putI fp_X12_139 rfl rfl (go_ok rfl rfl) dx_X12_part_2 ?_
  have h := ms_thr (v := 0) h
  have f0 : fm δ (wr δ 94 0 0) := fm_wr (by decide)
  have e20 : (wr δ 94 0 0) 94 20 = δ 94 20 := wr_i _ _ _ _ (by decide)
  generalize wr δ 94 0 0 = δ0 at h f0 e20 ⊢
  have hQ := hQ δ0 h f0 e20
  obtain ⟨g1, g2, g3, g4, g5⟩ := h
  have hok := g1.2.2.2.2.1 r.toNat
  have hlen := hok.len
  unfold op_part at hQ
  refine go_aload_n (i := 0) dx_X12_part_5 rfl rfl ?_
  refine go_iload_n (i := 1) dx_X12_part_6 rfl rfl ?_
  refine go_cV1 sv_X12_203 (go_ok rfl rfl) dx_X12_part_7 (Nat.le_of_ble_eq_true rfl) (Nat.le_of_ble_eq_true rfl) (m_isRule hr g1 (fun a1 a2 a3 => ?_) (fun b1 => ?_))
  · refine go_if_ne (tgt := 16) dx_X12_part_10 rfl (by omega) (fun c10 => ?_) (fun c10 => absurd c10 (by decide))
    rw [if_pos ⟨a1, a2, a3⟩] at hQ
    obtain ⟨m, rfl⟩ : ∃ m : Nat, r = (m : Int) := ⟨r.toNat, by omega⟩
    rw [Int.toNat_natCast] at hQ a3 hlen
    have hl1 : (S.1.1 m).length ≠ 0 := fun q => a3 (List.length_eq_zero_iff.mp q)
    refine go_iload_n (i := 2) dx_X12_part_16 rfl rfl ?_
    refine go_iconst dx_X12_part_17 ?_
    refine go_icmp_ge (tgt := 24) dx_X12_part_18 rfl (by omega) (by omega) (fun c18 => ?_) (fun c18 => ?_)
    · refine go_iload_n (i := 2) dx_X12_part_24 rfl rfl ?_
      refine go_iconst dx_X12_part_25 ?_
      refine go_icmp_ne (tgt := 35) dx_X12_part_26 rfl (by omega) (by omega) (fun c26 => ?_) (fun c26 => ?_)
      · refine go_iload_n (i := 2) dx_X12_part_35 rfl rfl ?_
        refine go_aload_n (i := 0) dx_X12_part_36 rfl rfl ?_
        refine go_iload_n (i := 1) dx_X12_part_37 rfl rfl ?_
        refine go_cV1 sv_X12_148 (go_ok rfl rfl) dx_X12_part_38 (Nat.le_of_ble_eq_true rfl) (Nat.le_of_ble_eq_true rfl) (m_longOf g1 (by omega) ?_)
        refine go_icmp_ge (tgt := 53) dx_X12_part_41 rfl (by omega) (by omega) (fun c41 => ?_) (fun c41 => ?_)
        · refine go_iconst dx_X12_part_53 ?_
          refine go_ireturn dx_X12_part_54 rfl (Nat.le_refl _) (Nat.le_refl _) ?_
          rw [if_neg (by omega), if_neg (by omega)] at hQ
          exact hQ
        · obtain ⟨u, rfl⟩ : ∃ u : Nat, i = (u : Int) := ⟨i.toNat, by omega⟩
          rw [if_neg (by omega), if_pos (by omega), show ((u : Int) + 1).toNat = u + 1 by omega] at hQ
          refine go_aload_n (i := 0) dx_X12_part_44 rfl rfl ?_
          refine go_iload_n (i := 1) dx_X12_part_45 rfl rfl ?_
          refine go_iload_n (i := 2) dx_X12_part_46 rfl rfl ?_
          refine go_cV2 sv_X12_190 (go_ok rfl rfl) dx_X12_part_47 (Nat.le_of_ble_eq_true rfl) (Nat.le_of_ble_eq_true rfl) (m_partOf g1 (by omega) (by omega) ?_)
          refine go_goto (tgt := 54) dx_X12_part_50 rfl ?_
          refine go_ireturn dx_X12_part_54 rfl (Nat.le_refl _) (Nat.le_refl _) ?_
          exact hQ
      · refine go_aload_n (i := 0) dx_X12_part_29 rfl rfl ?_
        refine go_iload_n (i := 1) dx_X12_part_30 rfl rfl ?_
        refine go_cV1 sv_X12_184 (go_ok rfl rfl) dx_X12_part_31 (Nat.le_of_ble_eq_true rfl) (Nat.le_of_ble_eq_true rfl) (m_symbolOf g1 (by omega) ?_)
        refine go_ireturn dx_X12_part_34 rfl (Nat.le_refl _) (Nat.le_refl _) ?_
        rw [if_neg (by omega), if_pos (by omega), show (i + 1).toNat = 0 by omega] at hQ
        exact hQ
    · refine go_bipush dx_X12_part_21 rfl ?_
      refine go_ireturn dx_X12_part_23 rfl (Nat.le_refl _) (Nat.le_refl _) ?_
      rw [if_pos (by omega)] at hQ
      exact hQ
  · refine go_if_ne (tgt := 16) dx_X12_part_10 rfl (by omega) (fun c10 => absurd c10 (by decide)) (fun c10 => ?_)
    refine go_bipush dx_X12_part_13 rfl ?_
    refine go_ireturn dx_X12_part_15 rfl (Nat.le_refl _) (Nat.le_refl _) ?_
    rw [if_neg b1] at hQ
    exact hQ
theorem m_tray {t n : Int} (ht : go_iI t) (hn : go_iI n) (h : ms_at δ S)
    (hQ : ∀ δ', ms_at δ' (op_tray S t n).2 → fm δ δ' → δ' 94 20 = δ 94 20 → Q [vv_I (op_tray S t n).1] go_φ δ') :
    Go E (d + 2) (0, 0) mx_X12_tray go_φ 0 [(0, vv_A 94), (1, vv_I t), (2, vv_I n)] [] δ Q := by
  have hl92 : go_ln 134 = 60 := rfl
  have hl93 : go_ln 135 = 3 := rfl
  refine go_aload_n (i := 0) dx_X12_tray_0 rfl rfl ?_
  refine go_iconst dx_X12_tray_1 ?_
  refine go_putI fp_X12_139 rfl rfl (go_ok rfl rfl) dx_X12_tray_2 ?_
  have h := ms_thr (v := 0) h
  have f0 : fm δ (wr δ 94 0 0) := fm_wr (by decide)
  have e20 : (wr δ 94 0 0) 94 20 = δ 94 20 := wr_i _ _ _ _ (by decide)
  generalize wr δ 94 0 0 = δ0 at h f0 e20 ⊢
  have hms := h
  obtain ⟨g1, g2, g3, g4, g5⟩ := h
  unfold op_tray at hQ
  refine go_iload_n (i := 1) dx_X12_tray_5 rfl rfl ?_
  refine go_cS1 ss_X12_423 dx_X12_tray_6 (Nat.le_of_ble_eq_true rfl) (Nat.le_of_ble_eq_true rfl) (m_isTray ht (fun a1 a2 => ?_) (fun b1 => ?_))
  · refine go_if_ne (tgt := 15) dx_X12_tray_9 rfl (by omega) (fun c9 => ?_) (fun c9 => absurd c9 (by decide))
    refine go_iload_n (i := 2) dx_X12_tray_15 rfl rfl ?_
    refine go_i2l dx_X12_tray_16 (by omega) ?_
    refine go_lconst (x := 0) dx_X12_tray_17 rfl ?_
    refine go_ldc2 (x := 20) kx_X12_426 dx_X12_tray_18 ?_
    refine go_cS3 ss_X12_144 dx_X12_tray_21 (Nat.le_of_ble_eq_true rfl) (Nat.le_of_ble_eq_true rfl) (m_within (by omega) (by omega) (by omega) (fun a3 a4 => ?_) (fun b2 => ?_))
    · refine go_if_ne (tgt := 30) dx_X12_tray_24 rfl (by omega) (fun c24 => ?_) (fun c24 => absurd c24 (by decide))
      rw [if_neg (by omega), if_neg (by omega)] at hQ
      obtain ⟨u, rfl⟩ : ∃ u : Nat, t = (u : Int) := ⟨t.toNat, by omega⟩
      rw [Int.toNat_natCast] at hQ
      have loop : ∀ (k i : Nat) (δ1 : Nat → Nat → Int), 20 - i < k → i ≤ 20 → (∀ b, b ≠ 134 → b ≠ 135 → ∀ j, δ1 b j = δ0 b j) → (∀ z, δ1 135 z = wr δ0 135 u n 135 z) → (∀ z, z < i → δ1 134 (20 * u + z) = 0) → (∀ z, ¬ (20 * u ≤ z ∧ z < 20 * u + 20) → δ1 134 z = δ0 134 z) →
          Go E (d + 2) (0, 0) mx_X12_tray go_φ 39 [(0, vv_A 94), (1, vv_I (u : Int)), (2, vv_I n), (3, vv_I (i : Int))] [] δ1 Q := by
        intro k
        induction k with
        | zero => intros; omega
        | succ k ih =>
          intro i δ1 h1 h2 h3 h3b h4 h5
          refine go_iload_n (i := 3) dx_X12_tray_39 rfl rfl ?_
          refine go_bipush dx_X12_tray_40 rfl ?_
          refine go_icmp_ge (tgt := 63) dx_X12_tray_42 rfl (by omega) (by omega) (fun c42 => ?_) (fun c42 => ?_)
          · refine go_iconst dx_X12_tray_63 ?_
            refine go_ireturn dx_X12_tray_64 rfl (Nat.le_refl _) (Nat.le_refl _) ?_
            refine hQ δ1 ⟨bk_fr g1 (h3 95 (by decide) (by decide)), tm_fr g2 (fun j _ => h3 94 (by decide) (by decide) j) (h3 98 (by decide) (by decide)), pm_fr g3 (h3 94 (by decide) (by decide) 3) (h3 96 (by decide) (by decide)), jm_fr g4 (h3 97 (by decide) (by decide)) (fun j _ => h3 95 (by decide) (by decide) j), fun v hv => ?_⟩ (fm_tr f0 (fun b hb j => h3 b (by omega) (by omega) j)) (by rw [h3 94 (by decide) (by decide)]; exact e20)
            by_cases e : v = u
            · subst e
              refine Or.inr ⟨List.replicate n.toNat 0, by simp, by rw [List.length_replicate]; omega, by rw [h3b, wr_eq, List.length_replicate]; omega, fun z hz => ?_, fun y hy => ?_⟩
              · rw [List.length_replicate] at hz
                rw [h4 z (by omega), List.getElem_replicate]
              · rw [(List.mem_replicate.mp hy).2]; decide
            · rcases g5 v hv with ⟨p1, p2⟩ | ⟨l, p1, p2, p3, p4, p5⟩
              · exact Or.inl ⟨by simp [e, p1], by rw [h3b, wr_i _ _ _ _ e]; exact p2⟩
              · exact Or.inr ⟨l, by simp [e, p1], p2, by rw [h3b, wr_i _ _ _ _ e]; exact p3, fun z hz => by rw [h5 _ (by omega)]; exact p4 z hz, p5⟩
          · refine go_aload_n (i := 0) dx_X12_tray_45 rfl rfl ?_
            refine go_getA (b := 134) fs_X12_133 rfl (go_ok rfl rfl) rfl dx_X12_tray_46 ?_
            refine go_bipush dx_X12_tray_49 rfl ?_
            refine go_iload_n (i := 1) dx_X12_tray_51 rfl rfl ?_
            refine go_imul dx_X12_tray_52 ?_
            refine go_iload_n (i := 3) dx_X12_tray_53 rfl rfl ?_
            refine go_iadd dx_X12_tray_54 ?_
            refine go_lconst (x := 0) dx_X12_tray_55 rfl ?_
            refine go_lastore dx_X12_tray_56 (go_ok rfl rfl) (by omega) (by omega) ?_
            refine go_iinc (lv' := [(0, vv_A 94), (1, vv_I (u : Int)), (2, vv_I n), (3, vv_I ((i : Int) + 1))]) dx_X12_tray_57 rfl (by decide) rfl ?_
            refine go_goto (tgt := 39) dx_X12_tray_60 rfl ?_
            rw [show ((20 : Int) * (u : Int) + (i : Int)).toNat = 20 * u + i by omega]
            refine ih (i + 1) _ (by omega) (by omega) (fun b hb hb2 j => by rw [wr_a _ _ _ _ hb]; exact h3 b hb hb2 j) (fun z => by rw [wr_a _ _ _ _ (by decide)]; exact h3b z) (fun z hz => ?_) (fun z hz => ?_)
            · by_cases e : z = i
              · subst e; rw [wr_eq]
              · rw [wr_i _ _ _ _ (by omega)]; exact h4 z (by omega)
            · rw [wr_i _ _ _ _ (by omega)]; exact h5 z hz
      refine go_aload_n (i := 0) dx_X12_tray_30 rfl rfl ?_
      refine go_getA (b := 135) fs_X12_136 rfl (go_ok rfl rfl) rfl dx_X12_tray_31 ?_
      refine go_iload_n (i := 1) dx_X12_tray_34 rfl rfl ?_
      refine go_iload_n (i := 2) dx_X12_tray_35 rfl rfl ?_
      refine go_iastore dx_X12_tray_36 (go_ok rfl rfl) (by omega) (by omega) ?_
      refine go_iconst dx_X12_tray_37 ?_
      refine go_istore_n (i := 3) (lv' := [(0, vv_A 94), (1, vv_I (u : Int)), (2, vv_I n), (3, vv_I 0)]) dx_X12_tray_38 rfl (by decide) rfl ?_
      rw [Int.toNat_natCast]
      exact loop 21 0 _ (by omega) (by omega) (fun b hb hb2 j => wr_a _ _ _ _ hb2 j) (fun z => rfl) (fun z hz => by omega) (fun z hz => wr_a _ _ _ _ (by decide) _)
    · refine go_if_ne (tgt := 30) dx_X12_tray_24 rfl (by omega) (fun c24 => absurd c24 (by decide)) (fun c24 => ?_)
      refine go_bipush dx_X12_tray_27 rfl ?_
      refine go_ireturn dx_X12_tray_29 rfl (Nat.le_refl _) (Nat.le_refl _) ?_
      rw [if_neg (by omega), if_pos (by omega)] at hQ
      exact hQ _ hms f0 e20
  · refine go_if_ne (tgt := 15) dx_X12_tray_9 rfl (by omega) (fun c9 => absurd c9 (by decide)) (fun c9 => ?_)
    refine go_bipush dx_X12_tray_12 rfl ?_
    refine go_ireturn dx_X12_tray_14 rfl (Nat.le_refl _) (Nat.le_refl _) ?_
    rw [if_pos b1] at hQ
    exact hQ _ hms f0 e20
theorem m_number {t i : Int} (ht : go_iI t) (hi : go_iI i) (h : ms_at δ S) (hQ : ∀ δ', ms_at δ' S → fm δ δ' → δ' 94 20 = δ 94 20 → Q [vv_L (op_number S t i)] go_φ δ') :
    Go E (d + 2) (0, 0) mx_X12_number go_φ 0 [(0, vv_A 94), (1, vv_I t), (2, vv_I i)] [] δ Q := by
  have hl92 : go_ln 134 = 60 := rfl
  have hl93 : go_ln 135 = 3 := rfl
  refine go_aload_n (i := 0) dx_X12_number_0 rfl rfl ?_
  refine go_iconst dx_X12_number_1 ?_
  refine go_putI fp_X12_139 rfl rfl (go_ok rfl rfl) dx_X12_number_2 ?_
  have h := ms_thr (v := 0) h
  have f0 : fm δ (wr δ 94 0 0) := fm_wr (by decide)
  have e20 : (wr δ 94 0 0) 94 20 = δ 94 20 := wr_i _ _ _ _ (by decide)
  generalize wr δ 94 0 0 = δ0 at h f0 e20 ⊢
  have hQ := hQ δ0 h f0 e20
  obtain ⟨g1, g2, g3, g4, g5⟩ := h
  unfold op_number at hQ
  refine go_iload_n (i := 1) dx_X12_number_5 rfl rfl ?_
  refine go_cS1 ss_X12_423 dx_X12_number_6 (Nat.le_of_ble_eq_true rfl) (Nat.le_of_ble_eq_true rfl) (m_isTray ht (fun a1 a2 => ?_) (fun b1 => ?_))
  · refine go_if_ne (tgt := 16) dx_X12_number_9 rfl (by omega) (fun c9 => ?_) (fun c9 => absurd c9 (by decide))
    rw [if_neg (by omega)] at hQ
    obtain ⟨u, rfl⟩ : ∃ u : Nat, t = (u : Int) := ⟨t.toNat, by omega⟩
    rw [Int.toNat_natCast] at hQ
    have hty := g5 u (by omega)
    have hsz : δ0 135 u = -1 ∨ (0 ≤ δ0 135 u ∧ δ0 135 u ≤ 20) := by
      rcases hty with ⟨p1, p2⟩ | ⟨l, p1, p2, p3, p4, p5⟩
      · exact Or.inl p2
      · right; omega
    refine go_aload_n (i := 0) dx_X12_number_16 rfl rfl ?_
    refine go_getA (b := 135) fs_X12_136 rfl (go_ok rfl rfl) rfl dx_X12_number_17 ?_
    refine go_iload_n (i := 1) dx_X12_number_20 rfl rfl ?_
    refine go_iaload dx_X12_number_21 (go_ok rfl rfl) (by omega) (by omega) ?_
    refine go_iconst dx_X12_number_22 ?_
    refine go_icmp_ne (tgt := 30) dx_X12_number_23 rfl (by first | omega | (rw [Int.toNat_natCast]; omega)) (by first | omega | (rw [Int.toNat_natCast]; omega)) (fun c23 => ?_) (fun c23 => ?_)
    · refine go_iload_n (i := 2) dx_X12_number_30 rfl rfl ?_
      refine go_i2l dx_X12_number_31 (by omega) ?_
      refine go_lconst (x := 0) dx_X12_number_32 rfl ?_
      refine go_aload_n (i := 0) dx_X12_number_33 rfl rfl ?_
      refine go_getA (b := 135) fs_X12_136 rfl (go_ok rfl rfl) rfl dx_X12_number_34 ?_
      refine go_iload_n (i := 1) dx_X12_number_37 rfl rfl ?_
      refine go_iaload dx_X12_number_38 (go_ok rfl rfl) (by omega) (by omega) ?_
      refine go_iconst dx_X12_number_39 ?_
      refine go_isub dx_X12_number_40 ?_
      refine go_i2l dx_X12_number_41 (by first | omega | (rw [Int.toNat_natCast]; omega)) ?_
      refine go_cS3 ss_X12_144 dx_X12_number_42 (Nat.le_of_ble_eq_true rfl) (Nat.le_of_ble_eq_true rfl) (m_within (by omega) (by omega) (by rw [Int.toNat_natCast]; omega) (fun a3 a4 => ?_) (fun b3 => ?_))
      · refine go_if_eq (tgt := 62) dx_X12_number_45 rfl (by omega) (fun c45 => absurd c45 (by decide)) (fun c45 => ?_)
        rw [Int.toNat_natCast] at c23 a4
        rcases hty with ⟨p1, p2⟩ | ⟨l, p1, p2, p3, p4, p5⟩
        · exact absurd p2 c23
        obtain ⟨m, rfl⟩ : ∃ m : Nat, i = (m : Int) := ⟨i.toNat, by omega⟩
        have hm : m < l.length := by omega
        rw [p1] at hQ
        dsimp only at hQ
        rw [if_pos (by omega), Int.toNat_natCast, List.getD_eq_getElem?_getD, List.getElem?_eq_getElem hm] at hQ
        have e := p4 m hm
        have e2 : ((20 : Int) * (u : Int) + (m : Int)).toNat = 20 * u + m := by omega
        refine go_aload_n (i := 0) dx_X12_number_48 rfl rfl ?_
        refine go_getA (b := 134) fs_X12_133 rfl (go_ok rfl rfl) rfl dx_X12_number_49 ?_
        refine go_bipush dx_X12_number_52 rfl ?_
        refine go_iload_n (i := 1) dx_X12_number_54 rfl rfl ?_
        refine go_imul dx_X12_number_55 ?_
        refine go_iload_n (i := 2) dx_X12_number_56 rfl rfl ?_
        refine go_iadd dx_X12_number_57 ?_
        refine go_laload dx_X12_number_58 (go_ok rfl rfl) (by omega) (by omega) ?_
        refine go_goto (tgt := 65) dx_X12_number_59 rfl ?_
        refine go_lreturn dx_X12_number_65 rfl (Nat.le_refl _) (Nat.le_refl _) ?_
        rw [e2, e]
        exact hQ
      · refine go_if_eq (tgt := 62) dx_X12_number_45 rfl (by omega) (fun c45 => ?_) (fun c45 => absurd c45 (by decide))
        rw [Int.toNat_natCast] at c23 b3
        rcases hty with ⟨p1, p2⟩ | ⟨l, p1, p2, p3, p4, p5⟩
        · exact absurd p2 c23
        rw [p1] at hQ
        dsimp only at hQ
        rw [if_neg (by omega)] at hQ
        refine go_ldc2 (x := (-7)) kx_X12_288 dx_X12_number_62 ?_
        refine go_lreturn dx_X12_number_65 rfl (Nat.le_refl _) (Nat.le_refl _) ?_
        exact hQ
    · refine go_ldc2 (x := (-6)) kx_X12_428 dx_X12_number_26 ?_
      refine go_lreturn dx_X12_number_29 rfl (Nat.le_refl _) (Nat.le_refl _) ?_
      rw [Int.toNat_natCast] at c23
      rcases hty with ⟨p1, p2⟩ | ⟨l, p1, p2, p3, p4, p5⟩
      · rw [p1] at hQ; exact hQ
      · omega
  · refine go_if_ne (tgt := 16) dx_X12_number_9 rfl (by omega) (fun c9 => absurd c9 (by decide)) (fun c9 => ?_)
    refine go_ldc2 (x := (-2)) kx_X12_263 dx_X12_number_12 ?_
    refine go_lreturn dx_X12_number_15 rfl (Nat.le_refl _) (Nat.le_refl _) ?_
    rw [if_pos b1] at hQ
    exact hQ
theorem m_undo {n : Int} (hn : go_iI n) (h : ms_at δ S)
    (hQ : ∀ δ', ms_at δ' (op_undo S n).2 → fm δ δ' → (δ' 94 20 = δ 94 20 ∧ (op_undo S n).2.1 = S.1 ∨ δ' 94 20 = 0) → Q [vv_I (op_undo S n).1] go_φ δ') :
    Go E (d + 4) (0, 0) mx_X12_undo go_φ 0 [(0, vv_A 94), (1, vv_I n)] [] δ Q := by
  have hl95 : go_ln 95 = 384 := rfl
  have hl96 : go_ln 96 = 1280 := rfl
  refine go_aload_n (i := 0) dx_X12_undo_0 rfl rfl ?_
  refine go_iconst dx_X12_undo_1 ?_
  refine go_putI fp_X12_139 rfl rfl (go_ok rfl rfl) dx_X12_undo_2 ?_
  have h := ms_thr (v := 0) h
  have f0 : fm δ (wr δ 94 0 0) := fm_wr (by decide)
  have e20 : (wr δ 94 0 0) 94 20 = δ 94 20 := wr_i _ _ _ _ (by decide)
  generalize wr δ 94 0 0 = δ0 at h f0 e20 ⊢
  have hms := h
  obtain ⟨g1, g2, g3, g4, g5⟩ := h
  have h10 := g3.1
  have hh := g3.2.1
  unfold op_undo at hQ
  have bad : ¬ (1 ≤ n ∧ n ≤ (S.2.2.2.1.length : Int)) → Q [vv_I (-3)] go_φ δ0 := fun q => by
    rw [if_pos (by omega)] at hQ
    exact hQ _ hms f0 (Or.inl ⟨e20, rfl⟩)
  refine go_iload_n (i := 1) dx_X12_undo_5 rfl rfl ?_
  refine go_i2l dx_X12_undo_6 (by omega) ?_
  refine go_lconst (x := 1) dx_X12_undo_7 rfl ?_
  refine go_ldc2 (x := 10) kx_X12_430 dx_X12_undo_8 ?_
  refine go_cS3 ss_X12_144 dx_X12_undo_11 (Nat.le_of_ble_eq_true rfl) (Nat.le_of_ble_eq_true rfl) (m_within (by omega) (by omega) (by omega) (fun a1 a2 => ?_) (fun b1 => ?_))
  · refine go_if_eq (tgt := 25) dx_X12_undo_14 rfl (by omega) (fun c14 => absurd c14 (by decide)) (fun c14 => ?_)
    refine go_iload_n (i := 1) dx_X12_undo_17 rfl rfl ?_
    refine go_aload_n (i := 0) dx_X12_undo_18 rfl rfl ?_
    refine go_getI fs_X12_152 (Or.inl rfl) (go_ok rfl rfl) dx_X12_undo_19 ?_
    refine go_icmp_le (tgt := 28) dx_X12_undo_22 rfl (by omega) (by omega) (fun c22 => ?_) (fun c22 => ?_)
    · rw [if_neg (by omega)] at hQ
      obtain ⟨m, rfl⟩ : ∃ m : Nat, n = (m : Int) := ⟨n.toNat, by omega⟩
      rw [Int.toNat_natCast] at hQ
      have loop : ∀ (k i : Nat) (δ1 : Nat → Nat → Int), 128 - i < k → i ≤ 128 → (∀ b j, b ≠ 95 → (b = 94 → j ≠ 3) → δ1 b j = δ0 b j) → δ1 94 3 = (S.2.2.2.1.length : Int) - m → (∀ j, 128 ≤ j → δ1 95 j = δ0 95 j) → (∀ j, j < i → δ1 95 j = δ0 96 (128 * (S.2.2.2.1.length - m) + j)) →
          Go E (d + 4) (0, 0) mx_X12_undo go_φ 40 [(0, vv_A 94), (1, vv_I (m : Int)), (2, vv_I (i : Int))] [] δ1 Q := by
        intro k
        induction k with
        | zero => intros; omega
        | succ k ih =>
          intro i δ1 v1 v2 v3 v4 v5 v6
          refine go_iload_n (i := 2) dx_X12_undo_40 rfl rfl ?_
          refine go_sipush dx_X12_undo_41 rfl ?_
          refine go_icmp_ge (tgt := 74) dx_X12_undo_44 rfl (by omega) (by omega) (fun c44 => ?_) (fun c44 => ?_)
          · refine go_aload_n (i := 0) dx_X12_undo_74 rfl rfl ?_
            refine go_iconst dx_X12_undo_75 ?_
            refine go_putZ fp_X12_155 rfl rfl (go_ok rfl rfl) (by omega) dx_X12_undo_76 ?_
            refine go_aload_n (i := 0) dx_X12_undo_79 rfl rfl ?_
            refine go_getI fs_X12_152 (Or.inl rfl) (go_ok rfl rfl) dx_X12_undo_80 ?_
            refine go_ireturn dx_X12_undo_83 rfl (Nat.le_refl _) (Nat.le_refl _) ?_
            have hi : i = 128 := by omega
            subst hi
            rw [wr_i _ _ _ _ (by decide), v4]
            have V : ∀ b j, b ≠ 95 → (b = 94 → j ≠ 3 ∧ j ≠ 20) → (wr δ1 94 20 0) b j = δ0 b j := fun b j hb hj => by
              by_cases e : b = 94
              · subst e; rw [wr_i _ _ _ _ (by have := hj rfl; omega)]; exact v3 94 j hb (fun q => (hj q).1)
              · rw [wr_a _ _ _ _ e]; exact v3 b j hb (fun q => absurd q e)
            have N : ∀ b : Nat, b ≠ 94 → ∀ j, (b = 94 → j ≠ 3 ∧ j ≠ 20) := fun b hb j q => absurd q hb
            refine hQ _ ⟨?_, tm_fr g2 (fun j hj => V 94 j (by decide) (fun _ => by omega)) (fun j => V 98 j (by decide) (N 98 (by decide) j)), ⟨by rw [List.length_drop]; omega, by rw [wr_i _ _ _ _ (by decide), v4, List.length_drop]; omega, fun u hu => ?_⟩, jm_fr g4 (fun j => V 97 j (by decide) (N 97 (by decide) j)) (fun j hj => by rw [wr_a _ _ _ _ (by decide)]; exact v5 j hj), ym_fr g5 (fun j => V 134 j (by decide) (N 134 (by decide) j)) (fun j => V 135 j (by decide) (N 135 (by decide) j))⟩ (fm_tr f0 (fun b hb j => V b j (by omega) (fun q => by omega))) (Or.inr (wr_eq _ _ _ _))
            · have e : S.2.2.2.1.getD (m - 1) S.1 = S.2.2.2.1[m - 1]'(by omega) := by rw [List.getD_eq_getElem?_getD, List.getElem?_eq_getElem (by omega)]; rfl
              rw [e]
              refine bk_copy (g3.2.2 (m - 1) (by omega)) (fun j hj => ?_)
              rw [wr_a _ _ _ _ (by decide), Nat.zero_add, v6 j hj]
              congr 2
              omega
            · rw [List.length_drop] at hu
              have e : (S.2.2.2.1.drop m)[u]'(by rw [List.length_drop]; omega) = S.2.2.2.1[m + u]'(by omega) := by simp
              have e2 : 128 * ((S.2.2.2.1.drop m).length - 1 - u) = 128 * (S.2.2.2.1.length - 1 - (m + u)) := by rw [List.length_drop]; omega
              rw [e, e2]
              exact bk_fr (g3.2.2 (m + u) (by omega)) (fun j => V 96 j (by decide) (N 96 (by decide) j))
          · refine go_aload_n (i := 0) dx_X12_undo_47 rfl rfl ?_
            refine go_getA (b := 95) fs_X12_7 rfl (go_ok rfl rfl) rfl dx_X12_undo_48 ?_
            refine go_iload_n (i := 2) dx_X12_undo_51 rfl rfl ?_
            refine go_aload_n (i := 0) dx_X12_undo_52 rfl rfl ?_
            refine go_getA (b := 96) fs_X12_13 rfl (go_ok rfl rfl) rfl dx_X12_undo_53 ?_
            refine go_sipush dx_X12_undo_56 rfl ?_
            refine go_aload_n (i := 0) dx_X12_undo_59 rfl rfl ?_
            refine go_getI fs_X12_152 (Or.inl rfl) (go_ok rfl rfl) dx_X12_undo_60 ?_
            refine go_imul dx_X12_undo_63 ?_
            refine go_iload_n (i := 2) dx_X12_undo_64 rfl rfl ?_
            refine go_iadd dx_X12_undo_65 ?_
            refine go_iaload dx_X12_undo_66 (go_ok rfl rfl) (by first | omega | (rw [v4]; omega)) (by first | omega | (rw [v4]; omega)) ?_
            refine go_iastore dx_X12_undo_67 (go_ok rfl rfl) (by omega) (by omega) ?_
            refine go_iinc (lv' := [(0, vv_A 94), (1, vv_I (m : Int)), (2, vv_I ((i : Int) + 1))]) dx_X12_undo_68 rfl (by decide) rfl ?_
            refine go_goto (tgt := 40) dx_X12_undo_71 rfl ?_
            rw [v4, Int.toNat_natCast, show ((128 : Int) * ((S.2.2.2.1.length : Int) - (m : Int)) + (i : Int)).toNat = 128 * (S.2.2.2.1.length - m) + i by omega]
            refine ih (i + 1) _ (by omega) (by omega) (fun b j hb hj => by rw [wr_a _ _ _ _ hb]; exact v3 b j hb hj) (by rw [wr_a _ _ _ _ (by decide)]; exact v4) (fun j hj => by rw [wr_i _ _ _ _ (by omega)]; exact v5 j hj) (fun j hj => ?_)
            by_cases e : j = i
            · subst e; rw [wr_eq]; exact v3 96 _ (by decide) (fun q => absurd q (by decide))
            · rw [wr_i _ _ _ _ e]; exact v6 j (by omega)
      refine go_aload_n (i := 0) dx_X12_undo_28 rfl rfl ?_
      refine go_dup dx_X12_undo_29 rfl ?_
      refine go_getI fs_X12_152 (Or.inl rfl) (go_ok rfl rfl) dx_X12_undo_30 ?_
      refine go_iload_n (i := 1) dx_X12_undo_33 rfl rfl ?_
      refine go_isub dx_X12_undo_34 ?_
      refine go_putI fp_X12_152 rfl rfl (go_ok rfl rfl) dx_X12_undo_35 ?_
      refine go_iconst dx_X12_undo_38 ?_
      refine go_istore_n (i := 2) (lv' := [(0, vv_A 94), (1, vv_I (m : Int)), (2, vv_I 0)]) dx_X12_undo_39 rfl (by decide) rfl ?_
      refine loop 129 0 _ (by omega) (by omega) (fun b j hb hj => ?_) (by rw [wr_eq, hh]) (fun j hj => wr_a _ _ _ _ (by decide) _) (fun j hj => by omega)
      by_cases e : b = 94
      · subst e; exact wr_i _ _ _ _ (hj rfl)
      · exact wr_a _ _ _ _ e j
    · refine go_bipush dx_X12_undo_25 rfl ?_
      refine go_ireturn dx_X12_undo_27 rfl (Nat.le_refl _) (Nat.le_refl _) ?_
      exact bad (by omega)
  · refine go_if_eq (tgt := 25) dx_X12_undo_14 rfl (by omega) (fun c14 => ?_) (fun c14 => absurd c14 (by decide))
    refine go_bipush dx_X12_undo_25 rfl ?_
    refine go_ireturn dx_X12_undo_27 rfl (Nat.le_refl _) (Nat.le_refl _) ?_
    exact bad (by omega)
theorem m_image {i : Int} (hi : go_iI i) (h : ms_at δ S) (hQ : ∀ δ', ms_at δ' (op_image S i).2 → fm δ δ' → δ' 94 20 = δ 94 20 → Q [vv_I (op_image S i).1] go_φ δ') :
    Go E (d + 4) (0, 0) mx_X12_image go_φ 0 [(0, vv_A 94), (1, vv_I i)] [] δ Q := by
  have hl95 : go_ln 95 = 384 := rfl
  have hl97 : go_ln 97 = 2 := rfl
  refine go_aload_n (i := 0) dx_X12_image_0 rfl rfl ?_
  refine go_iconst dx_X12_image_1 ?_
  refine go_putI fp_X12_139 rfl rfl (go_ok rfl rfl) dx_X12_image_2 ?_
  have h := ms_thr (v := 0) h
  have f0 : fm δ (wr δ 94 0 0) := fm_wr (by decide)
  have e20 : (wr δ 94 0 0) 94 20 = δ 94 20 := wr_i _ _ _ _ (by decide)
  generalize wr δ 94 0 0 = δ0 at h f0 e20 ⊢
  have hms := h
  obtain ⟨g1, g2, g3, g4, g5⟩ := h
  unfold op_image at hQ
  refine go_iload_n (i := 1) dx_X12_image_5 rfl rfl ?_
  refine go_i2l dx_X12_image_6 (by omega) ?_
  refine go_lconst (x := 0) dx_X12_image_7 rfl ?_
  refine go_lconst (x := 1) dx_X12_image_8 rfl ?_
  refine go_cS3 ss_X12_144 dx_X12_image_9 (Nat.le_of_ble_eq_true rfl) (Nat.le_of_ble_eq_true rfl) (m_within (by omega) (by omega) (by omega) (fun a1 a2 => ?_) (fun b1 => ?_))
  · refine go_if_ne (tgt := 18) dx_X12_image_12 rfl (by omega) (fun c12 => ?_) (fun c12 => absurd c12 (by decide))
    rw [if_neg (by omega)] at hQ
    obtain ⟨m, rfl⟩ : ∃ m : Nat, i = (m : Int) := ⟨i.toNat, by omega⟩
    rw [Int.toNat_natCast] at hQ
    have loop : ∀ (k u : Nat) (δ1 : Nat → Nat → Int), 128 - u < k → u ≤ 128 → (∀ b j, (b = 95 → ¬ (128 * (m + 1) ≤ j ∧ j < 128 * (m + 1) + 128)) → δ1 b j = δ0 b j) → (∀ j, j < u → δ1 95 (128 * (m + 1) + j) = δ0 95 j) →
        Go E (d + 4) (0, 0) mx_X12_image go_φ 20 [(0, vv_A 94), (1, vv_I (m : Int)), (2, vv_I (u : Int))] [] δ1 Q := by
      intro k
      induction k with
      | zero => intros; omega
      | succ k ih =>
        intro u δ1 v1 v2 v3 v4
        refine go_iload_n (i := 2) dx_X12_image_20 rfl rfl ?_
        refine go_sipush dx_X12_image_21 rfl ?_
        refine go_icmp_ge (tgt := 53) dx_X12_image_24 rfl (by omega) (by omega) (fun c24 => ?_) (fun c24 => ?_)
        · refine go_aload_n (i := 0) dx_X12_image_53 rfl rfl ?_
          refine go_getA (b := 97) fs_X12_16 rfl (go_ok rfl rfl) rfl dx_X12_image_54 ?_
          refine go_iload_n (i := 1) dx_X12_image_57 rfl rfl ?_
          refine go_iconst dx_X12_image_58 ?_
          refine go_bastore dx_X12_image_59 (go_ok rfl rfl) (by first | omega | (exact Or.inr rfl)) (by first | omega | (exact Or.inr rfl)) (by first | omega | (exact Or.inr rfl)) ?_
          refine go_iconst dx_X12_image_60 ?_
          refine go_ireturn dx_X12_image_61 rfl (Nat.le_refl _) (Nat.le_refl _) ?_
          have hu : u = 128 := by omega
          subst hu
          rw [Int.toNat_natCast]
          have V : ∀ b j, b ≠ 97 → (b = 95 → ¬ (128 * (m + 1) ≤ j ∧ j < 128 * (m + 1) + 128)) → (wr δ1 97 m 1) b j = δ0 b j := fun b j hb hj => by rw [wr_a _ _ _ _ hb]; exact v3 b j hj
          have N : ∀ b : Nat, b ≠ 95 → ∀ j, (b = 95 → ¬ (128 * (m + 1) ≤ j ∧ j < 128 * (m + 1) + 128)) := fun b hb j q => absurd q hb
          refine hQ _ ⟨bk_copy g1 (fun j hj => V 95 _ (by decide) (fun _ => by omega)), tm_fr g2 (fun j hj => V 94 j (by decide) (N 94 (by decide) j)) (fun j => V 98 j (by decide) (N 98 (by decide) j)), pm_fr g3 (V 94 3 (by decide) (N 94 (by decide) 3)) (fun j => V 96 j (by decide) (N 96 (by decide) j)), fun v hv => ?_, ym_fr g5 (fun j => V 134 j (by decide) (N 134 (by decide) j)) (fun j => V 135 j (by decide) (N 135 (by decide) j))⟩ (fm_tr f0 (fun b hb j => V b j (by omega) (fun q => by omega))) (by rw [V 94 20 (by decide) (N 94 (by decide) 20)]; exact e20)
          by_cases e : v = m
          · subst e
            refine Or.inr ⟨S.1, by simp, wr_eq _ _ _ _, bk_copy g1 (fun j hj => ?_)⟩
            rw [wr_a _ _ _ _ (by decide), Nat.zero_add]; exact v4 j hj
          · rcases g4 v hv with ⟨p1, p2⟩ | ⟨K', p1, p2, p3⟩
            · exact Or.inl ⟨by simp [e, p1], by rw [wr_i _ _ _ _ e, v3 97 v (N 97 (by decide) v)]; exact p2⟩
            · exact Or.inr ⟨K', by simp [e, p1], by rw [wr_i _ _ _ _ e, v3 97 v (N 97 (by decide) v)]; exact p2, bk_copy p3 (fun j hj => V 95 _ (by decide) (fun _ => by omega))⟩
        · refine go_aload_n (i := 0) dx_X12_image_27 rfl rfl ?_
          refine go_getA (b := 95) fs_X12_7 rfl (go_ok rfl rfl) rfl dx_X12_image_28 ?_
          refine go_sipush dx_X12_image_31 rfl ?_
          refine go_iload_n (i := 1) dx_X12_image_34 rfl rfl ?_
          refine go_iconst dx_X12_image_35 ?_
          refine go_iadd dx_X12_image_36 ?_
          refine go_imul dx_X12_image_37 ?_
          refine go_iload_n (i := 2) dx_X12_image_38 rfl rfl ?_
          refine go_iadd dx_X12_image_39 ?_
          refine go_aload_n (i := 0) dx_X12_image_40 rfl rfl ?_
          refine go_getA (b := 95) fs_X12_7 rfl (go_ok rfl rfl) rfl dx_X12_image_41 ?_
          refine go_iload_n (i := 2) dx_X12_image_44 rfl rfl ?_
          refine go_iaload dx_X12_image_45 (go_ok rfl rfl) (by omega) (by omega) ?_
          refine go_iastore dx_X12_image_46 (go_ok rfl rfl) (by omega) (by omega) ?_
          refine go_iinc (lv' := [(0, vv_A 94), (1, vv_I (m : Int)), (2, vv_I ((u : Int) + 1))]) dx_X12_image_47 rfl (by decide) rfl ?_
          refine go_goto (tgt := 20) dx_X12_image_50 rfl ?_
          rw [Int.toNat_natCast, show ((128 : Int) * ((m : Int) + 1) + (u : Int)).toNat = 128 * (m + 1) + u by omega]
          refine ih (u + 1) _ (by omega) (by omega) (fun b j hb => ?_) (fun j hj => ?_)
          · by_cases e : b = 95
            · subst e; rw [wr_i _ _ _ _ (by have := hb rfl; omega)]; exact v3 95 j hb
            · rw [wr_a _ _ _ _ e]; exact v3 b j hb
          · by_cases e : j = u
            · subst e; rw [wr_eq]; exact v3 95 j (fun _ => by omega)
            · rw [wr_i _ _ _ _ (by omega)]; exact v4 j (by omega)
    refine go_iconst dx_X12_image_18 ?_
    refine go_istore_n (i := 2) (lv' := [(0, vv_A 94), (1, vv_I (m : Int)), (2, vv_I 0)]) dx_X12_image_19 rfl (by decide) rfl ?_
    exact loop 129 0 δ0 (by omega) (by omega) (fun _ _ _ => rfl) (fun j hj => by omega)
  · refine go_if_ne (tgt := 18) dx_X12_image_12 rfl (by omega) (fun c12 => absurd c12 (by decide)) (fun c12 => ?_)
    refine go_bipush dx_X12_image_15 rfl ?_
    refine go_ireturn dx_X12_image_17 rfl (Nat.le_refl _) (Nat.le_refl _) ?_
    rw [if_pos (by omega)] at hQ
    exact hQ _ hms f0 e20
theorem m_restore {i : Int} (hi : go_iI i) (h : ms_at δ S)
    (hQ : ∀ δ', ms_at δ' (op_restore S i).2 → fm δ δ' → (δ' 94 20 = δ 94 20 ∧ (op_restore S i).2.1 = S.1 ∨ δ' 94 20 = 0) → Q [vv_I (op_restore S i).1] go_φ δ') :
    Go E (d + 4) (0, 0) mx_X12_restore go_φ 0 [(0, vv_A 94), (1, vv_I i)] [] δ Q := by
  have hl95 : go_ln 95 = 384 := rfl
  have hl97 : go_ln 97 = 2 := rfl
  refine go_aload_n (i := 0) dx_X12_restore_0 rfl rfl ?_
  refine go_iconst dx_X12_restore_1 ?_
  refine go_putI fp_X12_139 rfl rfl (go_ok rfl rfl) dx_X12_restore_2 ?_
  have h := ms_thr (v := 0) h
  have f0 : fm δ (wr δ 94 0 0) := fm_wr (by decide)
  have e20 : (wr δ 94 0 0) 94 20 = δ 94 20 := wr_i _ _ _ _ (by decide)
  generalize wr δ 94 0 0 = δ0 at h f0 e20 ⊢
  have hms := h
  obtain ⟨g1, g2, g3, g4, g5⟩ := h
  unfold op_restore at hQ
  refine go_iload_n (i := 1) dx_X12_restore_5 rfl rfl ?_
  refine go_i2l dx_X12_restore_6 (by omega) ?_
  refine go_lconst (x := 0) dx_X12_restore_7 rfl ?_
  refine go_lconst (x := 1) dx_X12_restore_8 rfl ?_
  refine go_cS3 ss_X12_144 dx_X12_restore_9 (Nat.le_of_ble_eq_true rfl) (Nat.le_of_ble_eq_true rfl) (m_within (by omega) (by omega) (by omega) (fun a1 a2 => ?_) (fun b1 => ?_))
  · refine go_if_ne (tgt := 18) dx_X12_restore_12 rfl (by omega) (fun c12 => ?_) (fun c12 => absurd c12 (by decide))
    rw [if_neg (by omega)] at hQ
    obtain ⟨m, rfl⟩ : ∃ m : Nat, i = (m : Int) := ⟨i.toNat, by omega⟩
    rw [Int.toNat_natCast] at hQ
    have hc := g4 m (by omega)
    have loop : ∀ K', S.2.2.2.2.1 m = some K' → bk_at δ0 95 (128 * (m + 1)) K' → ∀ (k u : Nat) (δ1 : Nat → Nat → Int), 128 - u < k → u ≤ 128 → (∀ b j, (b = 95 → 128 ≤ j) → δ1 b j = δ0 b j) → (∀ j, j < u → δ1 95 j = δ0 95 (128 * (m + 1) + j)) →
        Go E (d + 4) (0, 0) mx_X12_restore go_φ 32 [(0, vv_A 94), (1, vv_I (m : Int)), (2, vv_I (u : Int))] [] δ1 Q := by
      intro K' hK hbk k
      induction k with
      | zero => intros; omega
      | succ k ih =>
        intro u δ1 v1 v2 v3 v4
        refine go_iload_n (i := 2) dx_X12_restore_32 rfl rfl ?_
        refine go_sipush dx_X12_restore_33 rfl ?_
        refine go_icmp_ge (tgt := 65) dx_X12_restore_36 rfl (by omega) (by omega) (fun c36 => ?_) (fun c36 => ?_)
        · refine go_aload_n (i := 0) dx_X12_restore_65 rfl rfl ?_
          refine go_iconst dx_X12_restore_66 ?_
          refine go_putI fp_X12_152 rfl rfl (go_ok rfl rfl) dx_X12_restore_67 ?_
          refine go_aload_n (i := 0) dx_X12_restore_70 rfl rfl ?_
          refine go_iconst dx_X12_restore_71 ?_
          refine go_putZ fp_X12_155 rfl rfl (go_ok rfl rfl) (by omega) dx_X12_restore_72 ?_
          refine go_iconst dx_X12_restore_75 ?_
          refine go_ireturn dx_X12_restore_76 rfl (Nat.le_refl _) (Nat.le_refl _) ?_
          have hu : u = 128 := by omega
          subst hu
          rw [hK] at hQ
          dsimp only at hQ
          have V : ∀ b j, (b = 95 → 128 ≤ j) → (b = 94 → j ≠ 3 ∧ j ≠ 20) → (wr (wr δ1 94 3 0) 94 20 0) b j = δ0 b j := fun b j hb hj => by
            by_cases e : b = 94
            · subst e; rw [wr_i _ _ _ _ (hj rfl).2, wr_i _ _ _ _ (hj rfl).1]; exact v3 94 j hb
            · rw [wr_a _ _ _ _ e, wr_a _ _ _ _ e]; exact v3 b j hb
          have N : ∀ b : Nat, b ≠ 94 → ∀ j, (b = 94 → j ≠ 3 ∧ j ≠ 20) := fun b hb j q => absurd q hb
          have M : ∀ b : Nat, b ≠ 95 → ∀ j, (b = 95 → 128 ≤ j) := fun b hb j q => absurd q hb
          refine hQ _ ⟨bk_copy hbk (fun j hj => ?_), tm_fr g2 (fun j hj => V 94 j (M 94 (by decide) j) (fun _ => by omega)) (fun j => V 98 j (M 98 (by decide) j) (N 98 (by decide) j)), ⟨by simp, by rw [wr_i _ _ _ _ (by decide), wr_eq]; rfl, fun k hk => by simp at hk⟩, jm_fr g4 (fun j => V 97 j (M 97 (by decide) j) (N 97 (by decide) j)) (fun j hj => V 95 j (fun _ => hj) (N 95 (by decide) j)), ym_fr g5 (fun j => V 134 j (M 134 (by decide) j) (N 134 (by decide) j)) (fun j => V 135 j (M 135 (by decide) j) (N 135 (by decide) j))⟩ (fm_tr f0 (fun b hb j => V b j (fun q => by omega) (fun q => by omega))) (Or.inr (wr_eq _ _ _ _))
          rw [wr_a _ _ _ _ (by decide), wr_a _ _ _ _ (by decide), Nat.zero_add]
          exact v4 j hj
        · refine go_aload_n (i := 0) dx_X12_restore_39 rfl rfl ?_
          refine go_getA (b := 95) fs_X12_7 rfl (go_ok rfl rfl) rfl dx_X12_restore_40 ?_
          refine go_iload_n (i := 2) dx_X12_restore_43 rfl rfl ?_
          refine go_aload_n (i := 0) dx_X12_restore_44 rfl rfl ?_
          refine go_getA (b := 95) fs_X12_7 rfl (go_ok rfl rfl) rfl dx_X12_restore_45 ?_
          refine go_sipush dx_X12_restore_48 rfl ?_
          refine go_iload_n (i := 1) dx_X12_restore_51 rfl rfl ?_
          refine go_iconst dx_X12_restore_52 ?_
          refine go_iadd dx_X12_restore_53 ?_
          refine go_imul dx_X12_restore_54 ?_
          refine go_iload_n (i := 2) dx_X12_restore_55 rfl rfl ?_
          refine go_iadd dx_X12_restore_56 ?_
          refine go_iaload dx_X12_restore_57 (go_ok rfl rfl) (by omega) (by omega) ?_
          refine go_iastore dx_X12_restore_58 (go_ok rfl rfl) (by omega) (by omega) ?_
          refine go_iinc (lv' := [(0, vv_A 94), (1, vv_I (m : Int)), (2, vv_I ((u : Int) + 1))]) dx_X12_restore_59 rfl (by decide) rfl ?_
          refine go_goto (tgt := 32) dx_X12_restore_62 rfl ?_
          rw [Int.toNat_natCast, show ((128 : Int) * ((m : Int) + 1) + (u : Int)).toNat = 128 * (m + 1) + u by omega]
          refine ih (u + 1) _ (by omega) (by omega) (fun b j hb => ?_) (fun j hj => ?_)
          · by_cases e : b = 95
            · subst e; rw [wr_i _ _ _ _ (by have := hb rfl; omega)]; exact v3 95 j hb
            · rw [wr_a _ _ _ _ e]; exact v3 b j hb
          · by_cases e : j = u
            · subst e; rw [wr_eq]; exact v3 95 _ (fun _ => by omega)
            · rw [wr_i _ _ _ _ (by omega)]; exact v4 j (by omega)
    refine go_aload_n (i := 0) dx_X12_restore_18 rfl rfl ?_
    refine go_getA (b := 97) fs_X12_16 rfl (go_ok rfl rfl) rfl dx_X12_restore_19 ?_
    refine go_iload_n (i := 1) dx_X12_restore_22 rfl rfl ?_
    refine go_baload dx_X12_restore_23 (go_ok rfl rfl) (by omega) (by omega) ?_
    refine go_if_ne (tgt := 30) dx_X12_restore_24 rfl (by first | omega | (rw [Int.toNat_natCast]; rcases hc with ⟨p1, p2⟩ | ⟨K', p1, p2, p3⟩ <;> omega)) (fun c24 => ?_) (fun c24 => ?_)
    · refine go_iconst dx_X12_restore_30 ?_
      refine go_istore_n (i := 2) (lv' := [(0, vv_A 94), (1, vv_I (m : Int)), (2, vv_I 0)]) dx_X12_restore_31 rfl (by decide) rfl ?_
      rw [Int.toNat_natCast] at c24
      rcases hc with ⟨p1, p2⟩ | ⟨K', p1, p2, p3⟩
      · exact absurd p2 c24
      · exact loop K' p1 p3 129 0 δ0 (by omega) (by omega) (fun _ _ _ => rfl) (fun j hj => by omega)
    · refine go_bipush dx_X12_restore_27 rfl ?_
      refine go_ireturn dx_X12_restore_29 rfl (Nat.le_refl _) (Nat.le_refl _) ?_
      rw [Int.toNat_natCast] at c24
      rcases hc with ⟨p1, p2⟩ | ⟨K', p1, p2, p3⟩
      · rw [p1] at hQ; exact hQ _ hms f0 (Or.inl ⟨e20, rfl⟩)
      · rw [p2] at c24; exact absurd c24 (by decide)
  · refine go_if_ne (tgt := 18) dx_X12_restore_12 rfl (by omega) (fun c12 => absurd c12 (by decide)) (fun c12 => ?_)
    refine go_bipush dx_X12_restore_15 rfl ?_
    refine go_ireturn dx_X12_restore_17 rfl (Nat.le_refl _) (Nat.le_refl _) ?_
    rw [if_pos (by omega)] at hQ
    exact hQ _ hms f0 (Or.inl ⟨e20, rfl⟩)
end GMS3
