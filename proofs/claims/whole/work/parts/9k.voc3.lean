/-! Vocabulary: addBits -/
section GVOC3
variable {E : go_E} {d : Nat} {δ : Nat → Nat → Int} {Q : List go_V → go_F → (Nat → Nat → Int) → Prop}
theorem bv_and63N {m : Nat} (hm : m < 2147483648) : bv_and m 63 = ((m % 64 : Nat) : Int) := by
  rw [show (63 : Int) = ((63 : Nat) : Int) from rfl, bv_andN hm (by decide), bt_a63]
theorem g_Voc_addBits {a L sh : Nat} {D P : Nat → Prop} (hat : a + L ≤ 1674) (hsh : sh / 64 < L) (hP : ∀ b, b < 64 → P b → (sh + b) / 64 < L) (h : ∀ w, w < L → δ 75 (a + w) = vb (fun b => D (64 * w + b)))
    (hQ : ∀ δ', (∀ w, w < L → δ' 75 (a + w) = vb (fun b => D (64 * w + b) ∨ (sh ≤ 64 * w + b ∧ 64 * w + b < sh + 64 ∧ P (64 * w + b - sh)))) → (∀ c q, (c = 75 → q < a ∨ a + L ≤ q) → δ' c q = δ c q) → Q [] go_φ δ') :
    Go E (d + 1) (0, 0) mx_X10_addBits go_φ 0 [(0, vv_A 74), (1, vv_I (a : Int)), (2, vv_I (sh : Int)), (3, vv_L (vb P))] [] δ Q := by
  have l75 : go_ln 75 = 1674 := rfl
  have h0 := h (sh / 64) hsh
  have hs64 : sh % 64 < 64 := Nat.mod_lt _ (by decide)
  have hsplit : sh = 64 * (sh / 64) + sh % 64 := by omega
  obtain ⟨w0, hw0⟩ : ∃ w0, w0 = sh / 64 := ⟨_, rfl⟩
  obtain ⟨s, hs⟩ : ∃ s, s = sh % 64 := ⟨_, rfl⟩
  rw [← hw0] at h0 hsh hsplit
  rw [← hs] at hs64 hsplit
  have one : ∀ b, b < 64 → ((D (64 * w0 + b) ∨ (s ≤ b ∧ P (b - s))) ↔ (D (64 * w0 + b) ∨ (sh ≤ 64 * w0 + b ∧ 64 * w0 + b < sh + 64 ∧ P (64 * w0 + b - sh)))) := fun b hb => by
    rw [show 64 * w0 + b - sh = b - s by omega]
    exact ⟨fun q => q.imp id (fun z => ⟨by omega, by omega, z.2⟩), fun q => q.imp id (fun z => ⟨by omega, z.2.2⟩)⟩
  have two : ∀ b, b < 64 → ((D (64 * (w0 + 1) + b) ∨ (b + (64 - s) < 64 ∧ P (b + (64 - s)))) ↔ (D (64 * (w0 + 1) + b) ∨ (sh ≤ 64 * (w0 + 1) + b ∧ 64 * (w0 + 1) + b < sh + 64 ∧ P (64 * (w0 + 1) + b - sh)))) := fun b hb => by
    rw [show 64 * (w0 + 1) + b - sh = b + (64 - s) by omega]
    exact ⟨fun q => q.imp id (fun z => ⟨by omega, by omega, z.2⟩), fun q => q.imp id (fun z => ⟨by omega, z.2.2⟩)⟩
  have others : ∀ w, w ≠ w0 → w ≠ w0 + 1 → ∀ b, b < 64 → (D (64 * w + b) ↔ (D (64 * w + b) ∨ (sh ≤ 64 * w + b ∧ 64 * w + b < sh + 64 ∧ P (64 * w + b - sh)))) := fun w h1 h2 b hb =>
    ⟨Or.inl, fun q => q.elim id (fun z => by omega)⟩
  have fin1 : (∀ b, b < 64 → ¬ (b + (64 - s) < 64 ∧ P (b + (64 - s)))) → Q [] go_φ (wr δ 75 (a + w0) (vb (fun k => D (64 * w0 + k) ∨ (s ≤ k ∧ P (k - s))))) := fun hz => hQ _ (fun w hw => by
      by_cases e : w = w0
      · subst e; rw [wr_eq]; exact vb_congr one
      · rw [wr_n (by omega), h w hw]
        by_cases e1 : w = w0 + 1
        · subst e1
          exact vb_congr (fun b hb => (Iff.intro Or.inl (fun q => q.elim id (fun z => absurd z (hz b hb)))).trans (two b hb))
        · exact vb_congr (others w e e1)) (fun c q hc => wr_n (by omega))
  have start : ∀ KK : Prop, (KK → Go E (d + 1) (0, 0) mx_X10_addBits go_φ 37 [(0, vv_A 74), (1, vv_I (a : Int)), (2, vv_I (sh : Int)), (3, vv_L (vb P)), (5, vv_I ((a + w0 : Nat) : Int)), (6, vv_I (s : Int))] [] (wr δ 75 (a + w0) (vb (fun k => D (64 * w0 + k) ∨ (s ≤ k ∧ P (k - s))))) Q) → KK → Go E (d + 1) (0, 0) mx_X10_addBits go_φ 0 [(0, vv_A 74), (1, vv_I (a : Int)), (2, vv_I (sh : Int)), (3, vv_L (vb P))] [] δ Q := fun KK ih hk => by
    refine go_iload_n (i := 1) dx_X10_addBits_0 rfl rfl ?_
    refine go_iload_n (i := 2) dx_X10_addBits_1 rfl rfl ?_
    refine go_bipush dx_X10_addBits_2 rfl ?_
    refine go_iushr dx_X10_addBits_4 ?_
    refine go_asI (y := (w0 : Int)) (by rw [show (6 : Int) = ((6 : Nat) : Int) from rfl, bv_ushrN (by omega) (by decide), hw0]) ?_
    refine go_iadd dx_X10_addBits_5 ?_
    refine go_asI (y := ((a + w0 : Nat) : Int)) (by rfl) ?_
    refine go_istore (lv' := [(0, vv_A 74), (1, vv_I (a : Int)), (2, vv_I (sh : Int)), (3, vv_L (vb P)), (5, vv_I ((a + w0 : Nat) : Int))]) dx_X10_addBits_6 (by decide) rfl ?_
    refine go_iload_n (i := 2) dx_X10_addBits_8 rfl rfl ?_
    refine go_bipush dx_X10_addBits_9 rfl ?_
    refine go_iand dx_X10_addBits_11 ?_
    refine go_asI (y := (s : Int)) (by rw [bv_and63N (by omega), hs]) ?_
    refine go_istore (lv' := [(0, vv_A 74), (1, vv_I (a : Int)), (2, vv_I (sh : Int)), (3, vv_L (vb P)), (5, vv_I ((a + w0 : Nat) : Int)), (6, vv_I (s : Int))]) dx_X10_addBits_12 (by decide) rfl ?_
    refine go_aload_n (i := 0) dx_X10_addBits_14 rfl rfl ?_
    refine go_getA (b := 75) fs_X10_11 rfl (go_ok rfl rfl) rfl dx_X10_addBits_15 ?_
    refine go_iload dx_X10_addBits_18 rfl ?_
    refine go_aload_n (i := 0) dx_X10_addBits_20 rfl rfl ?_
    refine go_getA (b := 75) fs_X10_11 rfl (go_ok rfl rfl) rfl dx_X10_addBits_21 ?_
    refine go_iload dx_X10_addBits_24 rfl ?_
    refine go_cS2 ss_X10_57 dx_X10_addBits_26 (Nat.le_of_ble_eq_true rfl) (Nat.le_of_ble_eq_true rfl) (g_longAtV (i := (a + w0)) (v := (vb (fun b => D (64 * w0 + b)))) (go_ok rfl rfl) (by omega) (show (a + w0) < 1674 by omega) (by exact h0) ?_)
    refine go_lload_n (i := 3) dx_X10_addBits_29 rfl rfl ?_
    refine go_iload dx_X10_addBits_30 rfl ?_
    refine go_lshl dx_X10_addBits_32 ?_
    refine go_asL (y := (vb (fun k => s ≤ k ∧ P (k - s)))) (by exact vb_shl P hs64) ?_
    refine go_lor dx_X10_addBits_33 ?_
    refine go_asL (y := (vb (fun k => D (64 * w0 + k) ∨ (s ≤ k ∧ P (k - s))))) (by exact vb_or _ _) ?_
    refine go_cS3 ss_X10_15 dx_X10_addBits_34 (Nat.le_of_ble_eq_true rfl) (Nat.le_of_ble_eq_true rfl) (g_putLongN (i := a + w0) (go_ok rfl rfl) (by omega) (show a + w0 < 1674 by omega) ?_)
    exact ih hk
  refine start True (fun _ => ?_) trivial
  by_cases z : s = 0
  · have hz : ∀ b, b < 64 → ¬ (b + (64 - s) < 64 ∧ P (b + (64 - s))) := fun b _ q => by omega
    refine go_iload dx_X10_addBits_37 rfl ?_
    refine go_if_ne (tgt := 46) dx_X10_addBits_39 rfl (by omega) (fun c39 => by exact absurd c39 (by omega)) (fun c39 => ?_)
    refine go_lconst (x := 0) dx_X10_addBits_42 rfl ?_
    refine go_goto (tgt := 53) dx_X10_addBits_43 rfl ?_
    refine go_lstore (lv' := [(0, vv_A 74), (1, vv_I (a : Int)), (2, vv_I (sh : Int)), (3, vv_L (vb P)), (5, vv_I ((a + w0 : Nat) : Int)), (6, vv_I (s : Int)), (7, vv_L 0)]) dx_X10_addBits_53 (by decide) rfl ?_
    refine go_lload dx_X10_addBits_55 rfl ?_
    refine go_lconst (x := 0) dx_X10_addBits_57 rfl ?_
    refine go_lcmp_eq (tgt := 87) dx_X10_addBits_58 dx_X10_addBits_59 rfl (by omega) (by omega) (fun c58 => ?_) (fun c58 => by exact absurd rfl c58)
    refine go_vreturn dx_X10_addBits_87 rfl (Nat.le_refl _) (Nat.le_refl _) ?_
    exact fin1 hz
  · by_cases hz : ∀ b, b < 64 → ¬ (b + (64 - s) < 64 ∧ P (b + (64 - s)))
    · have hz0 := vb_z.mpr hz
      refine go_iload dx_X10_addBits_37 rfl ?_
      refine go_if_ne (tgt := 46) dx_X10_addBits_39 rfl (by omega) (fun c39 => ?_) (fun c39 => by exact absurd c39 (by omega))
      refine go_lload_n (i := 3) dx_X10_addBits_46 rfl rfl ?_
      refine go_bipush dx_X10_addBits_47 rfl ?_
      refine go_iload dx_X10_addBits_49 rfl ?_
      refine go_isub dx_X10_addBits_51 ?_
      refine go_asI (y := ((64 - s : Nat) : Int)) (by omega) ?_
      refine go_lushr dx_X10_addBits_52 ?_
      refine go_asL (y := 0) (by rw [vb_ushr P (s := 64 - s) (by omega)]; exact hz0) ?_
      refine go_lstore (lv' := [(0, vv_A 74), (1, vv_I (a : Int)), (2, vv_I (sh : Int)), (3, vv_L (vb P)), (5, vv_I ((a + w0 : Nat) : Int)), (6, vv_I (s : Int)), (7, vv_L 0)]) dx_X10_addBits_53 (by decide) rfl ?_
      refine go_lload dx_X10_addBits_55 rfl ?_
      refine go_lconst (x := 0) dx_X10_addBits_57 rfl ?_
      refine go_lcmp_eq (tgt := 87) dx_X10_addBits_58 dx_X10_addBits_59 rfl (by omega) (by omega) (fun c58 => ?_) (fun c58 => by exact absurd rfl c58)
      refine go_vreturn dx_X10_addBits_87 rfl (Nat.le_refl _) (Nat.le_refl _) ?_
      exact fin1 hz
    · have hnz : vb (fun k => k + (64 - s) < 64 ∧ P (k + (64 - s))) ≠ 0 := fun q => hz (vb_z.mp q)
      have hw1 : w0 + 1 < L := Classical.byContradiction (fun q => hz (fun b hb w => by
        have := hP (b + (64 - s)) w.1 w.2
        omega))
      have h1 := h (w0 + 1) hw1
      have hiL := vb_iL (fun k => k + (64 - s) < 64 ∧ P (k + (64 - s)))
      refine go_iload dx_X10_addBits_37 rfl ?_
      refine go_if_ne (tgt := 46) dx_X10_addBits_39 rfl (by omega) (fun c39 => ?_) (fun c39 => by exact absurd c39 (by omega))
      refine go_lload_n (i := 3) dx_X10_addBits_46 rfl rfl ?_
      refine go_bipush dx_X10_addBits_47 rfl ?_
      refine go_iload dx_X10_addBits_49 rfl ?_
      refine go_isub dx_X10_addBits_51 ?_
      refine go_asI (y := ((64 - s : Nat) : Int)) (by omega) ?_
      refine go_lushr dx_X10_addBits_52 ?_
      refine go_asL (y := (vb (fun k => k + (64 - s) < 64 ∧ P (k + (64 - s))))) (by exact vb_ushr P (by omega)) ?_
      refine go_lstore (lv' := [(0, vv_A 74), (1, vv_I (a : Int)), (2, vv_I (sh : Int)), (3, vv_L (vb P)), (5, vv_I ((a + w0 : Nat) : Int)), (6, vv_I (s : Int)), (7, vv_L (vb (fun k => k + (64 - s) < 64 ∧ P (k + (64 - s)))))]) dx_X10_addBits_53 (by decide) rfl ?_
      refine go_lload dx_X10_addBits_55 rfl ?_
      refine go_lconst (x := 0) dx_X10_addBits_57 rfl ?_
      refine go_lcmp_eq (tgt := 87) dx_X10_addBits_58 dx_X10_addBits_59 rfl (by first | omega | (exact hiL)) (by first | omega | (exact hiL)) (fun c58 => by exact absurd c58 hnz) (fun c58 => ?_)
      refine go_aload_n (i := 0) dx_X10_addBits_62 rfl rfl ?_
      refine go_getA (b := 75) fs_X10_11 rfl (go_ok rfl rfl) rfl dx_X10_addBits_63 ?_
      refine go_iload dx_X10_addBits_66 rfl ?_
      refine go_iconst dx_X10_addBits_68 ?_
      refine go_iadd dx_X10_addBits_69 ?_
      refine go_asI (y := ((a + (w0 + 1) : Nat) : Int)) (by omega) ?_
      refine go_aload_n (i := 0) dx_X10_addBits_70 rfl rfl ?_
      refine go_getA (b := 75) fs_X10_11 rfl (go_ok rfl rfl) rfl dx_X10_addBits_71 ?_
      refine go_iload dx_X10_addBits_74 rfl ?_
      refine go_iconst dx_X10_addBits_76 ?_
      refine go_iadd dx_X10_addBits_77 ?_
      refine go_cS2 ss_X10_57 dx_X10_addBits_78 (Nat.le_of_ble_eq_true rfl) (Nat.le_of_ble_eq_true rfl) (g_longAtV (i := (a + (w0 + 1))) (v := (vb (fun b => D (64 * (w0 + 1) + b)))) (go_ok rfl rfl) (by omega) (show (a + (w0 + 1)) < 1674 by omega) (by rw [wr_n (by omega)]; exact h1) ?_)
      refine go_lload dx_X10_addBits_81 rfl ?_
      refine go_lor dx_X10_addBits_83 ?_
      refine go_asL (y := (vb (fun k => D (64 * (w0 + 1) + k) ∨ (k + (64 - s) < 64 ∧ P (k + (64 - s)))))) (by exact vb_or _ _) ?_
      refine go_cS3 ss_X10_15 dx_X10_addBits_84 (Nat.le_of_ble_eq_true rfl) (Nat.le_of_ble_eq_true rfl) (g_putLongN (i := a + (w0 + 1)) (go_ok rfl rfl) (by omega) (show a + (w0 + 1) < 1674 by omega) ?_)
      refine go_vreturn dx_X10_addBits_87 rfl (Nat.le_refl _) (Nat.le_refl _) ?_
      refine hQ _ (fun w hw => ?_) (fun c q hc => by rw [wr_n (by omega), wr_n (by omega)])
      by_cases e : w = w0 + 1
      · subst e; rw [wr_eq]; exact vb_congr two
      · rw [wr_n (by omega)]
        by_cases e1 : w = w0
        · subst e1; rw [wr_eq]; exact vb_congr one
        · rw [wr_n (by omega), h w hw]; exact vb_congr (others w e1 e)
end GVOC3
