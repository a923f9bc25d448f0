/-! the class's calls: count -/
section GXCB
variable {E : go_E} {d : Nat} {δ : Nat → Nat → Int} {Q : List go_V → go_F → (Nat → Nat → Int) → Prop} {S : sS} {K : sK} {Tm : Int}
theorem x_count {q : Int} (hq : go_iI q) (h : xk_at Tm δ S) (hQ : ∀ δ', xk_at Tm δ' S → fc δ δ' → Q [vv_I (oq_count S q)] go_φ δ') : Go E (d + 12) (0, 0) mx_X11_count go_φ 0 [(0, vv_A 0), (1, vv_I q)] [] δ Q := by
  have htd := h.1.1
  obtain ⟨p1, nw, p2, p3, p4, p5⟩ := h.1.2.2.1
  have ht := h.1.2.1.2.1
  have hQ0 := hQ δ h fc_rf
  unfold oq_count at hQ hQ0
  refine go_iload_n (i := 1) dx_X11_count_0 rfl rfl ?_
  by_cases q0 : q = 0
  · subst q0
    refine go_tableIn (off := 47) (tgt := 48) dx_X11_count_1 hq (by omega) (by omega) rfl (by decide) ?_
    refine go_aload_n (i := 0) dx_X11_count_48 rfl rfl ?_
    refine go_getA (b := 3) fs_X11_19 rfl (go_ok rfl rfl) rfl dx_X11_count_49 ?_
    refine go_cV0 sv_X11_159 (go_ok rfl rfl) dx_X11_count_52 (Nat.le_of_ble_eq_true rfl) (Nat.le_of_ble_eq_true rfl) (g_Told_ruleBits td_ok3 htd ?_)
    refine go_cS1 ss_X11_162 dx_X11_count_55 (Nat.le_of_ble_eq_true rfl) (Nat.le_of_ble_eq_true rfl) (g_J6_bitCount (rl_bits_lt S.1.1 16) ?_)
    refine go_ireturn dx_X11_count_58 rfl (Nat.le_refl _) (Nat.le_refl _) ?_
    rw [pop_bits]
    exact hQ0
  by_cases q1 : q = 1
  · subst q1
    refine go_tableIn (off := 58) (tgt := 59) dx_X11_count_1 hq (by omega) (by omega) rfl (by decide) ?_
    refine go_aload_n (i := 0) dx_X11_count_59 rfl rfl ?_
    refine go_getA (b := 3) fs_X11_19 rfl (go_ok rfl rfl) rfl dx_X11_count_60 ?_
    refine go_cV0 sv_X11_159 (go_ok rfl rfl) dx_X11_count_63 (Nat.le_of_ble_eq_true rfl) (Nat.le_of_ble_eq_true rfl) (g_Told_ruleBits td_ok3 htd ?_)
    refine go_ireturn dx_X11_count_66 rfl (Nat.le_refl _) (Nat.le_refl _) ?_
    exact hQ0
  by_cases q2 : q = 2
  · subst q2
    refine go_tableIn (off := 66) (tgt := 67) dx_X11_count_1 hq (by omega) (by omega) rfl (by decide) ?_
    refine go_aload_n (i := 0) dx_X11_count_67 rfl rfl ?_
    refine go_cV0 sv_X11_183 (go_ok rfl rfl) dx_X11_count_68 (Nat.le_of_ble_eq_true rfl) (Nat.le_of_ble_eq_true rfl) (g_freshen h (fun δ1 h1 e1 f1 => ?_))
    obtain ⟨hb, hm, hc⟩ := h1.2.2.2.1 e1
    have eu := hb.2.2.2.1
    have hQ := hQ δ1 h1 f1
    refine go_aload_n (i := 0) dx_X11_count_71 rfl rfl ?_
    refine go_getA (b := 33) fs_X11_33 rfl (go_ok rfl rfl) rfl dx_X11_count_72 ?_
    refine go_getI fs_X11_392 (Or.inl rfl) (go_ok rfl rfl) dx_X11_count_75 ?_
    refine go_asI (y := (ucp S.1.1 16 : Int)) (by exact eu) ?_
    refine go_ireturn dx_X11_count_78 rfl (Nat.le_refl _) (Nat.le_refl _) ?_
    exact hQ
  by_cases q3 : q = 3
  · subst q3
    refine go_tableIn (off := 78) (tgt := 79) dx_X11_count_1 hq (by omega) (by omega) rfl (by decide) ?_
    refine go_aload_n (i := 0) dx_X11_count_79 rfl rfl ?_
    refine go_cV0 sv_X11_183 (go_ok rfl rfl) dx_X11_count_80 (Nat.le_of_ble_eq_true rfl) (Nat.le_of_ble_eq_true rfl) (g_freshen h (fun δ1 h1 e1 f1 => ?_))
    obtain ⟨hb, hm, hc⟩ := h1.2.2.2.1 e1
    have eu := hb.1.2.2.1
    have hQ := hQ δ1 h1 f1
    refine go_aload_n (i := 0) dx_X11_count_83 rfl rfl ?_
    refine go_getA (b := 33) fs_X11_33 rfl (go_ok rfl rfl) rfl dx_X11_count_84 ?_
    refine go_getI fs_X11_395 (Or.inl rfl) (go_ok rfl rfl) dx_X11_count_87 ?_
    refine go_asI (y := ((gH S.1.1).length : Int)) (by exact eu) ?_
    refine go_ireturn dx_X11_count_90 rfl (Nat.le_refl _) (Nat.le_refl _) ?_
    exact hQ
  by_cases q4 : q = 4
  · subst q4
    refine go_tableIn (off := 90) (tgt := 91) dx_X11_count_1 hq (by omega) (by omega) rfl (by decide) ?_
    refine go_aload_n (i := 0) dx_X11_count_91 rfl rfl ?_
    refine go_getA (b := 3) fs_X11_19 rfl (go_ok rfl rfl) rfl dx_X11_count_92 ?_
    refine go_getI fs_X11_170 (Or.inl rfl) (go_ok rfl rfl) dx_X11_count_95 ?_
    refine go_asI (y := (S.1.2.1 : Int)) (by exact htd.2.1) ?_
    refine go_ireturn dx_X11_count_98 rfl (Nat.le_refl _) (Nat.le_refl _) ?_
    exact hQ0
  by_cases q5 : q = 5
  · subst q5
    refine go_tableIn (off := 98) (tgt := 99) dx_X11_count_1 hq (by omega) (by omega) rfl (by decide) ?_
    refine go_aload_n (i := 0) dx_X11_count_99 rfl rfl ?_
    refine go_getA (b := 3) fs_X11_19 rfl (go_ok rfl rfl) rfl dx_X11_count_100 ?_
    refine go_getI fs_X11_239 (Or.inl rfl) (go_ok rfl rfl) dx_X11_count_103 ?_
    refine go_asI (y := (S.1.2.2.length : Int)) (by exact htd.2.2.2.1) ?_
    refine go_ireturn dx_X11_count_106 rfl (Nat.le_refl _) (Nat.le_refl _) ?_
    exact hQ0
  by_cases q6 : q = 6
  · subst q6
    refine go_tableIn (off := 106) (tgt := 107) dx_X11_count_1 hq (by omega) (by omega) rfl (by decide) ?_
    refine go_aload_n (i := 0) dx_X11_count_107 rfl rfl ?_
    refine go_getA (b := 5) fs_X11_26 rfl (go_ok rfl rfl) rfl dx_X11_count_108 ?_
    refine go_getI fs_X11_381 (Or.inl rfl) (go_ok rfl rfl) dx_X11_count_111 ?_
    refine go_asI (y := (S.2.2.2.1.length : Int)) (by exact p4) ?_
    refine go_ireturn dx_X11_count_114 rfl (Nat.le_refl _) (Nat.le_refl _) ?_
    exact hQ0
  by_cases q7 : q = 7
  · subst q7
    refine go_tableIn (off := 114) (tgt := 115) dx_X11_count_1 hq (by omega) (by omega) rfl (by decide) ?_
    refine go_aload_n (i := 0) dx_X11_count_115 rfl rfl ?_
    refine go_getA (b := 1) fs_X11_12 rfl (go_ok rfl rfl) rfl dx_X11_count_116 ?_
    refine go_getI fs_X11_116 (Or.inl rfl) (go_ok rfl rfl) dx_X11_count_119 ?_
    refine go_asI (y := (S.2.1.length : Int)) (by exact ht) ?_
    refine go_ireturn dx_X11_count_122 rfl (Nat.le_refl _) (Nat.le_refl _) ?_
    exact hQ0
  · rw [if_neg q0, if_neg q1, if_neg q2, if_neg q3, if_neg q4, if_neg q5, if_neg q6, if_neg q7] at hQ0
    refine go_tableOut (tgt := 123) dx_X11_count_1 hq (by omega) (by decide) ?_
    refine go_iconst dx_X11_count_123 ?_
    refine go_ireturn dx_X11_count_124 rfl (Nat.le_refl _) (Nat.le_refl _) ?_
    exact hQ0
end GXCB
