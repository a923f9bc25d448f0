/-! the reference: how many trees -/
noncomputable def gK (K : sK) (x i j : Nat) : Nat := Gn K.1 (plw K.2.2) x i j
def tr_at (δ : Nat → Nat → Int) (K : sK) (s m : Nat) : Prop := ∀ x a b, x < 8 → a < b → b ≤ K.2.2.length → (b - a < s ∨ (b - a = s ∧ a < m)) → δ 111 (256 * x + 16 * a + b) = st (tK K x a b)
def gr_at (δ : Nat → Nat → Int) (K : sK) (s m : Nat) : Prop := ∀ x a b, x < 8 → a < b → b ≤ K.2.2.length → (b - a < s ∨ (b - a = s ∧ a < m)) → δ 110 (256 * x + 16 * a + b) = st (gK K x a b)
noncomputable def fK (K : sK) (l : List Nat) (i j : Nat) : Nat := fit (Tn K.1 (plw K.2.2)) (plw K.2.2) l i j
noncomputable def pK (K : sK) (p i j : Nat) : Nat := pw (Tn K.1 (plw K.2.2)) (plw K.2.2) p i j
def fi_at (δ : Nat → Nat → Int) (K : sK) (ps : List Nat) (i j k0 p0 : Nat) : Prop := ∀ k p, k ≤ ps.length → i ≤ p → p ≤ j → (i < p ∨ k = 0) → (k0 < k ∨ (k = k0 ∧ p < p0)) → δ 112 (16 * k + p) = st (fK K (ps.drop k) p j)
section GMTR
variable {E : go_E} {d : Nat} {δ : Nat → Nat → Int} {Q : List go_V → go_F → (Nat → Nat → Int) → Prop} {K : sK} {S : sS}
theorem st_c (n : Nat) : st n = -7 ∨ (0 ≤ st n ∧ st n ≤ 9223372036854775807) := by
  have := MX_eq
  by_cases h : n ≤ MX
  · rw [st_le h]; right; omega
  · rw [st_gt h]; left; rfl
theorem m_plus {a b : Nat} (hQ : Q [vv_L (st (a + b))] go_φ δ) : Go E d (0, 0) mx_X12_plus go_φ 0 [(0, vv_L (st a)), (2, vv_L (st b))] [] δ Q := by
  have ha := st_c a
  have hb := st_c b
  rw [← fo_add_st] at hQ
  generalize st a = x at ha hQ ⊢
  generalize st b = y at hb hQ ⊢
  unfold fo_add at hQ
  refine go_lload_n (i := 0) dx_X12_plus_0 rfl rfl ?_
  refine go_ldc2 (x := (-7)) kx_X12_288 dx_X12_plus_1 ?_
  refine go_lcmp_eq (tgt := 26) dx_X12_plus_4 dx_X12_plus_5 rfl (by omega) (by omega) (fun c4 => ?_) (fun c4 => ?_)
  · refine go_ldc2 (x := (-7)) kx_X12_288 dx_X12_plus_26 ?_
    refine go_goto (tgt := 35) dx_X12_plus_29 rfl ?_
    refine go_lreturn dx_X12_plus_35 rfl (Nat.le_refl _) (Nat.le_refl _) ?_
    first | (rw [if_pos (by omega)] at hQ; exact hQ) | (rw [if_neg (by omega), if_pos (by omega)] at hQ; exact hQ) | (rw [if_neg (by omega), if_neg (by omega)] at hQ; exact hQ)
  · refine go_lload_n (i := 2) dx_X12_plus_8 rfl rfl ?_
    refine go_ldc2 (x := (-7)) kx_X12_288 dx_X12_plus_9 ?_
    refine go_lcmp_eq (tgt := 26) dx_X12_plus_12 dx_X12_plus_13 rfl (by omega) (by omega) (fun c12 => ?_) (fun c12 => ?_)
    · refine go_ldc2 (x := (-7)) kx_X12_288 dx_X12_plus_26 ?_
      refine go_goto (tgt := 35) dx_X12_plus_29 rfl ?_
      refine go_lreturn dx_X12_plus_35 rfl (Nat.le_refl _) (Nat.le_refl _) ?_
      first | (rw [if_pos (by omega)] at hQ; exact hQ) | (rw [if_neg (by omega), if_pos (by omega)] at hQ; exact hQ) | (rw [if_neg (by omega), if_neg (by omega)] at hQ; exact hQ)
    · refine go_lload_n (i := 0) dx_X12_plus_16 rfl rfl ?_
      refine go_ldc2 (x := 9223372036854775807) kx_X12_292 dx_X12_plus_17 ?_
      refine go_lload_n (i := 2) dx_X12_plus_20 rfl rfl ?_
      refine go_lsub dx_X12_plus_21 ?_
      refine go_lcmp_le (tgt := 32) dx_X12_plus_22 dx_X12_plus_23 rfl (by omega) (by omega) (fun c22 => ?_) (fun c22 => ?_)
      · refine go_lload_n (i := 0) dx_X12_plus_32 rfl rfl ?_
        refine go_lload_n (i := 2) dx_X12_plus_33 rfl rfl ?_
        refine go_ladd dx_X12_plus_34 ?_
        refine go_lreturn dx_X12_plus_35 rfl (Nat.le_refl _) (Nat.le_refl _) ?_
        first | (rw [if_pos (by omega)] at hQ; exact hQ) | (rw [if_neg (by omega), if_pos (by omega)] at hQ; exact hQ) | (rw [if_neg (by omega), if_neg (by omega)] at hQ; exact hQ)
      · refine go_ldc2 (x := (-7)) kx_X12_288 dx_X12_plus_26 ?_
        refine go_goto (tgt := 35) dx_X12_plus_29 rfl ?_
        refine go_lreturn dx_X12_plus_35 rfl (Nat.le_refl _) (Nat.le_refl _) ?_
        first | (rw [if_pos (by omega)] at hQ; exact hQ) | (rw [if_neg (by omega), if_pos (by omega)] at hQ; exact hQ) | (rw [if_neg (by omega), if_neg (by omega)] at hQ; exact hQ)
theorem m_times {a b : Nat} (hQ : Q [vv_L (st (a * b))] go_φ δ) : Go E d (0, 0) mx_X12_times go_φ 0 [(0, vv_L (st a)), (2, vv_L (st b))] [] δ Q := by
  have ha := st_c a
  have hb := st_c b
  rw [← fo_mul_st] at hQ
  generalize st a = x at ha hQ ⊢
  generalize st b = y at hb hQ ⊢
  unfold fo_mul at hQ
  have hd : 0 < y → 0 ≤ 9223372036854775807 / y ∧ 9223372036854775807 / y ≤ 9223372036854775807 := fun h => ⟨Int.ediv_nonneg (by decide) (by omega), Int.ediv_le_self _ (by decide)⟩
  refine go_lload_n (i := 0) dx_X12_times_0 rfl rfl ?_
  refine go_lconst (x := 0) dx_X12_times_1 rfl ?_
  refine go_lcmp_eq (tgt := 12) dx_X12_times_2 dx_X12_times_3 rfl (by omega) (by omega) (fun c2 => ?_) (fun c2 => ?_)
  · refine go_lconst (x := 0) dx_X12_times_12 rfl ?_
    refine go_lreturn dx_X12_times_13 rfl (Nat.le_refl _) (Nat.le_refl _) ?_
    first | (rw [if_pos (by omega)] at hQ; exact hQ) | (rw [if_neg (by omega), if_pos (by omega)] at hQ; exact hQ) | (rw [if_neg (by omega), if_neg (by omega), if_pos (by omega)] at hQ; exact hQ) | (rw [if_neg (by omega), if_neg (by omega), if_neg (by omega)] at hQ; exact hQ)
  · refine go_lload_n (i := 2) dx_X12_times_6 rfl rfl ?_
    refine go_lconst (x := 0) dx_X12_times_7 rfl ?_
    refine go_lcmp_ne (tgt := 14) dx_X12_times_8 dx_X12_times_9 rfl (by omega) (by omega) (fun c8 => ?_) (fun c8 => ?_)
    · refine go_lload_n (i := 0) dx_X12_times_14 rfl rfl ?_
      refine go_ldc2 (x := (-7)) kx_X12_288 dx_X12_times_15 ?_
      refine go_lcmp_eq (tgt := 40) dx_X12_times_18 dx_X12_times_19 rfl (by omega) (by omega) (fun c18 => ?_) (fun c18 => ?_)
      · refine go_ldc2 (x := (-7)) kx_X12_288 dx_X12_times_40 ?_
        refine go_goto (tgt := 49) dx_X12_times_43 rfl ?_
        refine go_lreturn dx_X12_times_49 rfl (Nat.le_refl _) (Nat.le_refl _) ?_
        first | (rw [if_pos (by omega)] at hQ; exact hQ) | (rw [if_neg (by omega), if_pos (by omega)] at hQ; exact hQ) | (rw [if_neg (by omega), if_neg (by omega), if_pos (by omega)] at hQ; exact hQ) | (rw [if_neg (by omega), if_neg (by omega), if_neg (by omega)] at hQ; exact hQ)
      · refine go_lload_n (i := 2) dx_X12_times_22 rfl rfl ?_
        refine go_ldc2 (x := (-7)) kx_X12_288 dx_X12_times_23 ?_
        refine go_lcmp_eq (tgt := 40) dx_X12_times_26 dx_X12_times_27 rfl (by omega) (by omega) (fun c26 => ?_) (fun c26 => ?_)
        · refine go_ldc2 (x := (-7)) kx_X12_288 dx_X12_times_40 ?_
          refine go_goto (tgt := 49) dx_X12_times_43 rfl ?_
          refine go_lreturn dx_X12_times_49 rfl (Nat.le_refl _) (Nat.le_refl _) ?_
          first | (rw [if_pos (by omega)] at hQ; exact hQ) | (rw [if_neg (by omega), if_pos (by omega)] at hQ; exact hQ) | (rw [if_neg (by omega), if_neg (by omega), if_pos (by omega)] at hQ; exact hQ) | (rw [if_neg (by omega), if_neg (by omega), if_neg (by omega)] at hQ; exact hQ)
        · refine go_lload_n (i := 0) dx_X12_times_30 rfl rfl ?_
          refine go_ldc2 (x := 9223372036854775807) kx_X12_292 dx_X12_times_31 ?_
          refine go_lload_n (i := 2) dx_X12_times_34 rfl rfl ?_
          refine go_ldiv dx_X12_times_35 (by omega) (by omega) (by omega) (by omega) ?_
          refine go_lcmp_le (tgt := 46) dx_X12_times_36 dx_X12_times_37 rfl (by first | omega | (have := hd (by omega); omega)) (by first | omega | (have := hd (by omega); omega)) (fun c36 => ?_) (fun c36 => ?_)
          · refine go_lload_n (i := 0) dx_X12_times_46 rfl rfl ?_
            refine go_lload_n (i := 2) dx_X12_times_47 rfl rfl ?_
            refine go_lmul dx_X12_times_48 ?_
            refine go_lreturn dx_X12_times_49 rfl (Nat.le_refl _) (Nat.le_refl _) ?_
            first | (rw [if_pos (by omega)] at hQ; exact hQ) | (rw [if_neg (by omega), if_pos (by omega)] at hQ; exact hQ) | (rw [if_neg (by omega), if_neg (by omega), if_pos (by omega)] at hQ; exact hQ) | (rw [if_neg (by omega), if_neg (by omega), if_neg (by omega)] at hQ; exact hQ)
          · refine go_ldc2 (x := (-7)) kx_X12_288 dx_X12_times_40 ?_
            refine go_goto (tgt := 49) dx_X12_times_43 rfl ?_
            refine go_lreturn dx_X12_times_49 rfl (Nat.le_refl _) (Nat.le_refl _) ?_
            first | (rw [if_pos (by omega)] at hQ; exact hQ) | (rw [if_neg (by omega), if_pos (by omega)] at hQ; exact hQ) | (rw [if_neg (by omega), if_neg (by omega), if_pos (by omega)] at hQ; exact hQ) | (rw [if_neg (by omega), if_neg (by omega), if_neg (by omega)] at hQ; exact hQ)
    · refine go_lconst (x := 0) dx_X12_times_12 rfl ?_
      refine go_lreturn dx_X12_times_13 rfl (Nat.le_refl _) (Nat.le_refl _) ?_
      first | (rw [if_pos (by omega)] at hQ; exact hQ) | (rw [if_neg (by omega), if_pos (by omega)] at hQ; exact hQ) | (rw [if_neg (by omega), if_neg (by omega), if_pos (by omega)] at hQ; exact hQ) | (rw [if_neg (by omega), if_neg (by omega), if_neg (by omega)] at hQ; exact hQ)
theorem m_sumOfPaths {c p q : Nat} {g G : Nat → Nat} (hc : go_kd c = 21 ∧ c < go_φ.1) (hl : p + q * 7 < go_ln c) (hp : p < 2048) (hq : q < 2048) (hg : ∀ y, y < 8 → δ 114 y = (g y : Int)) (hgb : ∀ y, y < 8 → g y < 2396746) (hG : ∀ y, y < 8 → δ c (p + q * y) = st (G y)) (hQ : Q [vv_L (st (su 8 (fun y => g y * G y)))] go_φ δ) :
    Go E (d + 1) (0, 0) mx_X12_sumOfPaths go_φ 0 [(0, vv_A 94), (1, vv_A c), (2, vv_I (p : Int)), (3, vv_I (q : Int))] [] δ Q := by
  have l114 : go_ln 114 = 8 := rfl
  have hqy : ∀ y, y < 8 → q * y ≤ q * 7 := fun y hy => Nat.mul_le_mul_left q (by omega)
  have loop := lp_up (X := Unit) (hi := 8) (I := fun _ _ => True)
    (G := fun y _ => ∀ lv0, lv0 = [(0, vv_A 94), (1, vv_A c), (2, vv_I (p : Int)), (3, vv_I (q : Int)), (4, vv_L (st (su y (fun y => g y * G y)))), (6, vv_I (y : Int))] → Go E (d + 1) (0, 0) mx_X12_sumOfPaths go_φ 6 lv0 [] δ Q)
    (fun y _ hy _ ih lv0 e0 => by
      subst e0
      have h1 := hqy y hy
      refine go_iload dx_X12_sumOfPaths_6 rfl ?_
      refine go_bipush dx_X12_sumOfPaths_8 rfl ?_
      refine go_icmp_ge (tgt := 44) dx_X12_sumOfPaths_10 rfl (by omega) (by omega) (fun c10 => by exact absurd c10 (by omega)) (fun c10 => ?_)
      refine go_lload dx_X12_sumOfPaths_13 rfl ?_
      refine go_aload_n (i := 0) dx_X12_sumOfPaths_15 rfl rfl ?_
      refine go_getA (b := 114) fs_X12_73 rfl (go_ok rfl rfl) rfl dx_X12_sumOfPaths_16 ?_
      refine go_iload dx_X12_sumOfPaths_19 rfl ?_
      refine go_laloadV (i := y) (v := ((st (g y)))) dx_X12_sumOfPaths_21 (go_ok rfl rfl) (by omega) (show y < 8 by omega) (by rw [hg y hy, st_small (by have := hgb y hy; omega)]) ?_
      refine go_aload_n (i := 1) dx_X12_sumOfPaths_22 rfl rfl ?_
      refine go_iload_n (i := 2) dx_X12_sumOfPaths_23 rfl rfl ?_
      refine go_iload_n (i := 3) dx_X12_sumOfPaths_24 rfl rfl ?_
      refine go_iload dx_X12_sumOfPaths_25 rfl ?_
      refine go_imul dx_X12_sumOfPaths_27 ?_
      refine go_asI (y := ((q * y : Nat) : Int)) (by omega) ?_
      refine go_iadd dx_X12_sumOfPaths_28 ?_
      refine go_laloadV (i := (p + q * y)) (v := ((st (G y)))) dx_X12_sumOfPaths_29 hc (by omega) (by omega) (by exact hG y hy) ?_
      refine go_cS2 ss_X12_297 dx_X12_sumOfPaths_30 (Nat.le_of_ble_eq_true rfl) (Nat.le_of_ble_eq_true rfl) (m_times ?_)
      refine go_cS2 ss_X12_300 dx_X12_sumOfPaths_33 (Nat.le_of_ble_eq_true rfl) (Nat.le_of_ble_eq_true rfl) (m_plus ?_)
      refine go_asL (y := (st (su (y + 1) (fun y => g y * G y)))) (by rw [su_s]) ?_
      refine go_lstore (lv' := [(0, vv_A 94), (1, vv_A c), (2, vv_I (p : Int)), (3, vv_I (q : Int)), (4, vv_L (st (su (y + 1) (fun y => g y * G y)))), (6, vv_I (y : Int))]) dx_X12_sumOfPaths_36 (by decide) rfl ?_
      refine go_iinc (lv' := [(0, vv_A 94), (1, vv_A c), (2, vv_I (p : Int)), (3, vv_I (q : Int)), (4, vv_L (st (su (y + 1) (fun y => g y * G y)))), (6, vv_I ((y : Int) + 1))]) dx_X12_sumOfPaths_38 rfl (by decide) rfl ?_
      refine go_goto (tgt := 6) dx_X12_sumOfPaths_41 rfl ?_
      exact ih () trivial _ rfl
    ) (fun _ _ lv0 e0 => by
      subst e0
      refine go_iload dx_X12_sumOfPaths_6 rfl ?_
      refine go_bipush dx_X12_sumOfPaths_8 rfl ?_
      refine go_icmp_ge (tgt := 44) dx_X12_sumOfPaths_10 rfl (by omega) (by omega) (fun c10 => ?_) (fun c10 => by exact absurd c10 (by omega))
      refine go_lload dx_X12_sumOfPaths_44 rfl ?_
      refine go_lreturn dx_X12_sumOfPaths_46 rfl (Nat.le_refl _) (Nat.le_refl _) ?_
      exact hQ
    )
  refine go_lconst (x := 0) dx_X12_sumOfPaths_0 rfl ?_
  refine go_lstore (lv' := [(0, vv_A 94), (1, vv_A c), (2, vv_I (p : Int)), (3, vv_I (q : Int)), (4, vv_L 0)]) dx_X12_sumOfPaths_1 (by decide) rfl ?_
  refine go_iconst dx_X12_sumOfPaths_3 ?_
  refine go_istore (lv' := [(0, vv_A 94), (1, vv_A c), (2, vv_I (p : Int)), (3, vv_I (q : Int)), (4, vv_L 0), (6, vv_I 0)]) dx_X12_sumOfPaths_4 (by decide) rfl ?_
  have k := loop 0 () (Nat.zero_le _) trivial _ rfl
  rw [su_0, st_0] at k
  exact k
theorem m_partWays {p a b s m : Nat} (hlet : ∀ x ∈ K.2.2, 8 ≤ x ∧ x < 14) (hw : mw_at δ K.2.2) (ht : tr_at δ K s m) (h14 : K.2.2.length ≤ 14) (hp : p < 14) (hab : a < b) (hb : b ≤ K.2.2.length) (hs : 8 ≤ p ∨ b - a < s ∨ (b - a = s ∧ a < m)) (hQ : Q [vv_L (st (pK K p a b))] go_φ δ) :
    Go E d (0, 0) mx_X12_partWays go_φ 0 [(0, vv_A 94), (1, vv_I (p : Int)), (2, vv_I (a : Int)), (3, vv_I (b : Int))] [] δ Q := by
  have l106 : go_ln 106 = 15 := rfl
  have l111 : go_ln 111 = 2048 := rfl
  unfold pK pw at hQ
  by_cases h8 : p < 8
  · rw [if_pos h8] at hQ
    refine go_iload_n (i := 1) dx_X12_partWays_0 rfl rfl ?_
    refine go_bipush dx_X12_partWays_1 rfl ?_
    refine go_icmp_lt (tgt := 29) dx_X12_partWays_3 rfl (by omega) (by omega) (fun c3 => ?_) (fun c3 => by exact absurd c3 (by omega))
    refine go_aload_n (i := 0) dx_X12_partWays_29 rfl rfl ?_
    refine go_getA (b := 111) fs_X12_64 rfl (go_ok rfl rfl) rfl dx_X12_partWays_30 ?_
    refine go_sipush dx_X12_partWays_33 rfl ?_
    refine go_iload_n (i := 1) dx_X12_partWays_36 rfl rfl ?_
    refine go_imul dx_X12_partWays_37 ?_
    refine go_bipush dx_X12_partWays_38 rfl ?_
    refine go_iload_n (i := 2) dx_X12_partWays_40 rfl rfl ?_
    refine go_imul dx_X12_partWays_41 ?_
    refine go_iadd dx_X12_partWays_42 ?_
    refine go_iload_n (i := 3) dx_X12_partWays_43 rfl rfl ?_
    refine go_iadd dx_X12_partWays_44 ?_
    refine go_laloadV (i := (256 * p + 16 * a + b)) (v := ((st (tK K p a b)))) dx_X12_partWays_45 (go_ok rfl rfl) (by omega) (show (256 * p + 16 * a + b) < 2048 by omega) (by exact ht p a b h8 hab hb (by omega)) ?_
    refine go_lreturn dx_X12_partWays_46 rfl (Nat.le_refl _) (Nat.le_refl _) ?_
    exact hQ
  · rw [if_neg h8] at hQ
    have hwa := hw a (by omega)
    have hwb := hlet _ (List.getElem_mem (show a < K.2.2.length by omega))
    have hiff : plw K.2.2 a p ↔ K.2.2[a]'(by omega) = p := by
      unfold plw
      rw [List.getElem?_eq_getElem (by omega)]
      exact ⟨fun q => Option.some.inj q, fun q => congrArg _ q⟩
    refine go_iload_n (i := 1) dx_X12_partWays_0 rfl rfl ?_
    refine go_bipush dx_X12_partWays_1 rfl ?_
    refine go_icmp_lt (tgt := 29) dx_X12_partWays_3 rfl (by omega) (by omega) (fun c3 => by exact absurd c3 (by omega)) (fun c3 => ?_)
    refine go_iload_n (i := 3) dx_X12_partWays_6 rfl rfl ?_
    refine go_iload_n (i := 2) dx_X12_partWays_7 rfl rfl ?_
    refine go_iconst dx_X12_partWays_8 ?_
    refine go_iadd dx_X12_partWays_9 ?_
    refine go_icmp_ne (tgt := 27) dx_X12_partWays_10 rfl (by omega) (by omega) (fun c10 => ?_) (fun c10 => ?_)
    · refine go_lconst (x := 0) dx_X12_partWays_27 rfl ?_
      refine go_lreturn dx_X12_partWays_28 rfl (Nat.le_refl _) (Nat.le_refl _) ?_
      first | (rw [n01_f (fun q => by omega), st_0] at hQ; exact hQ) | (rw [n01_f (fun q => by have := hiff.mp q.2; omega), st_0] at hQ; exact hQ) | (rw [n01_t ⟨by omega, hiff.mpr (by omega)⟩, st_small (by decide)] at hQ; exact hQ)
    · refine go_aload_n (i := 0) dx_X12_partWays_13 rfl rfl ?_
      refine go_getA (b := 106) fs_X12_48 rfl (go_ok rfl rfl) rfl dx_X12_partWays_14 ?_
      refine go_iload_n (i := 2) dx_X12_partWays_17 rfl rfl ?_
      refine go_ialoadV (i := a) (v := (((K.2.2[a]'(by omega) : Nat) : Int))) dx_X12_partWays_18 (go_ok rfl rfl) (by omega) (show a < 15 by omega) (by exact hwa) ?_
      refine go_iload_n (i := 1) dx_X12_partWays_19 rfl rfl ?_
      refine go_icmp_ne (tgt := 27) dx_X12_partWays_20 rfl (by omega) (by omega) (fun c20 => ?_) (fun c20 => ?_)
      · refine go_lconst (x := 0) dx_X12_partWays_27 rfl ?_
        refine go_lreturn dx_X12_partWays_28 rfl (Nat.le_refl _) (Nat.le_refl _) ?_
        first | (rw [n01_f (fun q => by omega), st_0] at hQ; exact hQ) | (rw [n01_f (fun q => by have := hiff.mp q.2; omega), st_0] at hQ; exact hQ) | (rw [n01_t ⟨by omega, hiff.mpr (by omega)⟩, st_small (by decide)] at hQ; exact hQ)
      · refine go_lconst (x := 1) dx_X12_partWays_23 rfl ?_
        refine go_goto (tgt := 28) dx_X12_partWays_24 rfl ?_
        refine go_lreturn dx_X12_partWays_28 rfl (Nat.le_refl _) (Nat.le_refl _) ?_
        first | (rw [n01_f (fun q => by omega), st_0] at hQ; exact hQ) | (rw [n01_f (fun q => by have := hiff.mp q.2; omega), st_0] at hQ; exact hQ) | (rw [n01_t ⟨by omega, hiff.mpr (by omega)⟩, st_small (by decide)] at hQ; exact hQ)
theorem fK_cons {ps : List Nat} {k p j : Nat} (hk : k < ps.length) : fK K (ps.drop k) p j = su (j + 1) (fun e => nif (p < e) (pK K (ps.getD k 0) p e * fK K (ps.drop (k + 1)) e j)) := by
  rw [li_drop1 hk]
  exact fit_cons _ _ _ _
theorem fK_nil {ps : List Nat} {p j : Nat} (k : Nat) (hk : k = ps.length) : fK K (ps.drop k) p j = n01 (p = j) := by
  subst hk
  rw [List.drop_length]
  rfl
theorem su_skip {m n : Nat} {f : Nat → Nat} (h : m ≤ n) (hz : ∀ k, m ≤ k → k < n → f k = 0) : su n f = su m f := by
  induction n with
  | zero => have : m = 0 := by omega
            subst this; rfl
  | succ n ih =>
    by_cases e : m = n + 1
    · subst e; rfl
    · rw [su_s, hz n (by omega) (Nat.lt_succ_self _), Nat.add_zero]
      exact ih (by omega) (fun k h1 h2 => hz k h1 (by omega))
theorem m_laysFit {r i j m : Nat} (hlet : ∀ x ∈ K.2.2, 8 ≤ x ∧ x < 14) (hb : bo_at δ K.1) (hw : mw_at δ K.2.2) (ht : tr_at δ K (j - i) m) (h14 : K.2.2.length ≤ 14) (hr : r < 16) (h2 : 2 ≤ (K.1 r).length) (h1 : (K.1 r).length = 2 → 8 ≤ (K.1 r).getD 1 0) (hij : i < j) (hj : j ≤ K.2.2.length)
    (hQ : ∀ δ', fi_at δ' K ((K.1 r).drop 1) i j 0 (j + 1) → (∀ c q, c ≠ 112 → δ' c q = δ c q) → Q [] go_φ δ') :
    Go E (d + 1) (0, 0) mx_X12_laysFit go_φ 0 [(0, vv_A 94), (1, vv_I (r : Int)), (2, vv_I (i : Int)), (3, vv_I (j : Int))] [] δ Q := by
  have hR := hb.1
  have l112 : go_ln 112 = 96 := rfl
  have hlen := (hR r).len
  obtain ⟨ps, hps⟩ : ∃ ps, ps = (K.1 r).drop 1 := ⟨_, rfl⟩
  have hpl : ps.length = (K.1 r).length - 1 := by rw [hps, List.length_drop]
  have hpg : ∀ k, ps.getD k 0 = (K.1 r).getD (k + 1) 0 := fun k => by rw [hps, List.getD_eq_getElem?_getD, List.getD_eq_getElem?_getD, List.getElem?_drop, Nat.add_comm]
  have hp14 : ∀ k, k < ps.length → ps.getD k 0 < 14 := fun k hk => by rw [hpg]; exact rl_getD_lt (hR r) (by omega)
  rw [← hps] at hQ
  have outer := lp_dn (X := Nat → Nat → Int) (I := fun k δ1 => k ≤ ps.length + 1 ∧ (∀ k' p, k' ≤ ps.length → i ≤ p → p ≤ j → (i < p ∨ k' = 0) → k ≤ k' → δ1 112 (16 * k' + p) = st (fK K (ps.drop k') p j)) ∧ (∀ c q, c ≠ 112 → δ1 c q = δ c q))
    (G := fun k δ1 => Go E (d + 1) (0, 0) mx_X12_laysFit go_φ 11 [(0, vv_A 94), (1, vv_I (r : Int)), (2, vv_I (i : Int)), (3, vv_I (j : Int)), (4, vv_I (ps.length : Int)), (5, vv_I ((k : Int) - 1))] [] δ1 Q) (fun k δ1 hI ih => ?_) (fun δ1 hI => ?_)
  · refine go_aload_n (i := 0) dx_X12_laysFit_0 rfl rfl ?_
    refine go_iload_n (i := 1) dx_X12_laysFit_1 rfl rfl ?_
    refine go_cV1 sv_X12_148 (go_ok rfl rfl) dx_X12_laysFit_2 (Nat.le_of_ble_eq_true rfl) (Nat.le_of_ble_eq_true rfl) (o_longOf hb hr ?_)
    refine go_asI (y := (ps.length : Int)) (by rw [hpl]) ?_
    refine go_istore (lv' := [(0, vv_A 94), (1, vv_I (r : Int)), (2, vv_I (i : Int)), (3, vv_I (j : Int)), (4, vv_I (ps.length : Int))]) dx_X12_laysFit_5 (by decide) rfl ?_
    refine go_iload dx_X12_laysFit_7 rfl ?_
    refine go_istore (lv' := [(0, vv_A 94), (1, vv_I (r : Int)), (2, vv_I (i : Int)), (3, vv_I (j : Int)), (4, vv_I (ps.length : Int)), (5, vv_I (ps.length : Int))]) dx_X12_laysFit_9 (by decide) rfl ?_
    have t := outer (ps.length + 1) δ ⟨Nat.le_refl _, fun k' p a _ _ _ b => by omega, fun _ _ _ => rfl⟩
    rw [show (((ps.length + 1 : Nat) : Int) - 1) = (ps.length : Int) by omega] at t
    exact t
  · obtain ⟨i0, i1, i2⟩ := hI
    rw [show (((k + 1 : Nat) : Int) - 1) = (k : Int) by omega]
    have ih2 : ∀ δ2, (∀ k' p, k' ≤ ps.length → i ≤ p → p ≤ j → (i < p ∨ k' = 0) → k ≤ k' → δ2 112 (16 * k' + p) = st (fK K (ps.drop k') p j)) → (∀ c q, c ≠ 112 → δ2 c q = δ c q) → Go E (d + 1) (0, 0) mx_X12_laysFit go_φ 11 [(0, vv_A 94), (1, vv_I (r : Int)), (2, vv_I (i : Int)), (3, vv_I (j : Int)), (4, vv_I (ps.length : Int)), (5, vv_I ((k : Int) - 1))] [] δ2 Q := fun δ2 a b => ih δ2 ⟨by omega, a, b⟩
    have inner := lp_up (X := Nat → Nat → Int) (hi := j + 1) (I := fun p δ2 => i ≤ p ∧ fi_at δ2 K ps i j k p ∧ (∀ c q, c ≠ 112 → δ2 c q = δ c q))
      (G := fun p δ2 => Go E (d + 1) (0, 0) mx_X12_laysFit go_φ 19 [(0, vv_A 94), (1, vv_I (r : Int)), (2, vv_I (i : Int)), (3, vv_I (j : Int)), (4, vv_I (ps.length : Int)), (5, vv_I (k : Int)), (6, vv_I (p : Int))] [] δ2 Q) (fun p δ2 hp hI2 ih3 => ?_) (fun δ2 hI2 => ?_)
    · refine go_iload dx_X12_laysFit_11 rfl ?_
      refine go_if_lt (tgt := 154) dx_X12_laysFit_13 rfl (by omega) (fun c13 => by exact absurd c13 (by omega)) (fun c13 => ?_)
      refine go_iload_n (i := 2) dx_X12_laysFit_16 rfl rfl ?_
      refine go_istore (lv' := [(0, vv_A 94), (1, vv_I (r : Int)), (2, vv_I (i : Int)), (3, vv_I (j : Int)), (4, vv_I (ps.length : Int)), (5, vv_I (k : Int)), (6, vv_I (i : Int))]) dx_X12_laysFit_17 (by decide) rfl ?_
      exact inner i δ1 (by omega) ⟨Nat.le_refl _, fun k' p a b c e f => i1 k' p a b c e (by omega), i2⟩
    · obtain ⟨j0, j1, j2⟩ := hI2
      have hb2 : bo_at δ2 K.1 := bo_fr hb (fun q _ => j2 95 q (by decide))
      have hw2 : mw_at δ2 K.2.2 := mw_fr hw (fun q => j2 106 q (by decide))
      have ht2 : tr_at δ2 K (j - i) m := fun x a b c e f g => by rw [j2 111 _ (by decide)]; exact ht x a b c e f g
      have tail : ∀ v : Nat, ((i < p ∨ k = 0) → v = fK K (ps.drop k) p j) → Go E (d + 1) (0, 0) mx_X12_laysFit go_φ 127 [(0, vv_A 94), (1, vv_I (r : Int)), (2, vv_I (i : Int)), (3, vv_I (j : Int)), (4, vv_I (ps.length : Int)), (5, vv_I (k : Int)), (6, vv_I (p : Int)), (7, vv_L (st v))] [] δ2 Q := fun v hv => by
        refine go_aload_n (i := 0) dx_X12_laysFit_127 rfl rfl ?_
        refine go_getA (b := 112) fs_X12_67 rfl (go_ok rfl rfl) rfl dx_X12_laysFit_128 ?_
        refine go_bipush dx_X12_laysFit_131 rfl ?_
        refine go_iload dx_X12_laysFit_133 rfl ?_
        refine go_imul dx_X12_laysFit_135 ?_
        refine go_iload dx_X12_laysFit_136 rfl ?_
        refine go_iadd dx_X12_laysFit_138 ?_
        refine go_lload dx_X12_laysFit_139 rfl ?_
        refine go_lastoreV (i := 16 * k + p) dx_X12_laysFit_141 (go_ok rfl rfl) (by omega) (show 16 * k + p < 96 by omega) ?_
        refine go_iinc (lv' := [(0, vv_A 94), (1, vv_I (r : Int)), (2, vv_I (i : Int)), (3, vv_I (j : Int)), (4, vv_I (ps.length : Int)), (5, vv_I (k : Int)), (6, vv_I ((p : Int) + 1)), (7, vv_L (st v))]) dx_X12_laysFit_142 rfl (by decide) rfl ?_
        refine go_goto (tgt := 19) dx_X12_laysFit_145 rfl ?_
        refine go_keep [0, 1, 2, 3, 4, 5, 6] rfl ?_
        refine ih3 _ ⟨by omega, fun k' p' a b c e f => ?_, fun c q hc => by rw [wr_n (by omega)]; exact j2 c q hc⟩
        by_cases z : k' = k ∧ p' = p
        · obtain ⟨z1, z2⟩ := z
          rw [z1, z2, wr_eq, hv (by omega)]
        · rw [wr_n (by omega)]
          exact j1 k' p' a b c e (by omega)
      by_cases hkn : k = ps.length
      · have hv : fK K (ps.drop k) p j = n01 (p = j) := fK_nil k hkn
        refine go_iload dx_X12_laysFit_19 rfl ?_
        refine go_iload_n (i := 3) dx_X12_laysFit_21 rfl rfl ?_
        refine go_icmp_gt (tgt := 148) dx_X12_laysFit_22 rfl (by omega) (by omega) (fun c22 => by exact absurd c22 (by omega)) (fun c22 => ?_)
        refine go_iload dx_X12_laysFit_25 rfl ?_
        refine go_iload dx_X12_laysFit_27 rfl ?_
        refine go_icmp_ne (tgt := 42) dx_X12_laysFit_29 rfl (by omega) (by omega) (fun c29 => by exact absurd c29 (by omega)) (fun c29 => ?_)
        refine go_iload dx_X12_laysFit_32 rfl ?_
        refine go_iload_n (i := 3) dx_X12_laysFit_34 rfl rfl ?_
        refine go_icmp_ne (tgt := 42) dx_X12_laysFit_35 rfl (by omega) (by omega) (fun c35 => ?_) (fun c35 => ?_)
        · refine go_lconst (x := 0) dx_X12_laysFit_42 rfl ?_
          refine go_lstore (lv' := [(0, vv_A 94), (1, vv_I (r : Int)), (2, vv_I (i : Int)), (3, vv_I (j : Int)), (4, vv_I (ps.length : Int)), (5, vv_I (k : Int)), (6, vv_I (p : Int)), (7, vv_L 0)]) dx_X12_laysFit_43 (by decide) rfl ?_
          refine go_iload dx_X12_laysFit_45 rfl ?_
          refine go_iconst dx_X12_laysFit_47 ?_
          refine go_iadd dx_X12_laysFit_48 ?_
          refine go_nmI (fun x49_1 ex49_1 => ?_)
          refine go_istore (lv' := [(0, vv_A 94), (1, vv_I (r : Int)), (2, vv_I (i : Int)), (3, vv_I (j : Int)), (4, vv_I (ps.length : Int)), (5, vv_I (k : Int)), (6, vv_I (p : Int)), (7, vv_L 0), (9, vv_I x49_1)]) dx_X12_laysFit_49 (by decide) rfl ?_
          refine go_iload dx_X12_laysFit_51 rfl ?_
          refine go_iload_n (i := 3) dx_X12_laysFit_53 rfl rfl ?_
          refine go_icmp_gt (tgt := 127) dx_X12_laysFit_54 rfl (by omega) (by omega) (fun c54 => ?_) (fun c54 => ?_)
          · refine go_keep [0, 1, 2, 3, 4, 5, 6, 7] rfl ?_
            have t := tail 0 (fun _ => by rw [hv, n01_f (by omega)])
            rw [st_0] at t
            exact t
          · refine go_iload dx_X12_laysFit_57 rfl ?_
            refine go_iload dx_X12_laysFit_59 rfl ?_
            refine go_icmp_ge (tgt := 127) dx_X12_laysFit_61 rfl (by omega) (by omega) (fun c61 => ?_) (fun c61 => by exact absurd c61 (by omega))
            refine go_keep [0, 1, 2, 3, 4, 5, 6, 7] rfl ?_
            have t := tail 0 (fun _ => by rw [hv, n01_f (by omega)])
            rw [st_0] at t
            exact t
        · refine go_lconst (x := 1) dx_X12_laysFit_38 rfl ?_
          refine go_goto (tgt := 43) dx_X12_laysFit_39 rfl ?_
          refine go_lstore (lv' := [(0, vv_A 94), (1, vv_I (r : Int)), (2, vv_I (i : Int)), (3, vv_I (j : Int)), (4, vv_I (ps.length : Int)), (5, vv_I (k : Int)), (6, vv_I (p : Int)), (7, vv_L 1)]) dx_X12_laysFit_43 (by decide) rfl ?_
          refine go_iload dx_X12_laysFit_45 rfl ?_
          refine go_iconst dx_X12_laysFit_47 ?_
          refine go_iadd dx_X12_laysFit_48 ?_
          refine go_nmI (fun x49_2 ex49_2 => ?_)
          refine go_istore (lv' := [(0, vv_A 94), (1, vv_I (r : Int)), (2, vv_I (i : Int)), (3, vv_I (j : Int)), (4, vv_I (ps.length : Int)), (5, vv_I (k : Int)), (6, vv_I (p : Int)), (7, vv_L 1), (9, vv_I x49_2)]) dx_X12_laysFit_49 (by decide) rfl ?_
          refine go_iload dx_X12_laysFit_51 rfl ?_
          refine go_iload_n (i := 3) dx_X12_laysFit_53 rfl rfl ?_
          refine go_icmp_gt (tgt := 127) dx_X12_laysFit_54 rfl (by omega) (by omega) (fun c54 => ?_) (fun c54 => ?_)
          · refine go_keep [0, 1, 2, 3, 4, 5, 6, 7] rfl ?_
            have t := tail 1 (fun _ => by rw [hv, n01_t (by omega)])
            rw [st_small (by decide)] at t
            exact t
          · refine go_iload dx_X12_laysFit_57 rfl ?_
            refine go_iload dx_X12_laysFit_59 rfl ?_
            refine go_icmp_ge (tgt := 127) dx_X12_laysFit_61 rfl (by omega) (by omega) (fun c61 => ?_) (fun c61 => by exact absurd c61 (by omega))
            refine go_keep [0, 1, 2, 3, 4, 5, 6, 7] rfl ?_
            have t := tail 1 (fun _ => by rw [hv, n01_t (by omega)])
            rw [st_small (by decide)] at t
            exact t
      · have hkl : k < ps.length := by omega
        obtain ⟨F, hF⟩ : ∃ F : Nat → Nat, F = fun e => nif (p < e ∧ (e - p < j - i ∨ ps.length = 1)) (pK K (ps.getD k 0) p e * fK K (ps.drop (k + 1)) e j) := ⟨_, rfl⟩
        have hfin : (i < p ∨ k = 0) → su (j + 1) F = fK K (ps.drop k) p j := fun hc => by
          rw [fK_cons hkl, hF]
          refine su_congr (fun e he => ?_)
          by_cases z : p < e
          · by_cases y : e - p < j - i ∨ ps.length = 1
            · rw [nif_t ⟨z, y⟩, nif_t z]
            · rw [nif_f (fun q => y q.2), nif_t z]
              have e1 : p = i ∧ e = j := by omega
              have : fK K (ps.drop (k + 1)) e j = 0 := by
                unfold fK
                rw [e1.2]
                refine fit_nil (Nat.le_refl _) (fun q => ?_)
                have := congrArg List.length q
                rw [List.length_drop, List.length_nil] at this
                omega
              rw [this, Nat.mul_zero]
          · rw [nif_f (fun q => z q.1), nif_f z]
        have sums := lp_up (X := Unit) (hi := j - p) (I := fun _ _ => True)
          (G := fun t _ => ∀ lv0, lv0 = [(0, vv_A 94), (1, vv_I (r : Int)), (2, vv_I (i : Int)), (3, vv_I (j : Int)), (4, vv_I (ps.length : Int)), (5, vv_I (k : Int)), (6, vv_I (p : Int)), (7, vv_L (st (su (p + 1 + t) F))), (9, vv_I ((p + 1 + t : Nat) : Int))] → Go E (d + 1) (0, 0) mx_X12_laysFit go_φ 51 lv0 [] δ2 Q)
          (fun t _ ht3 _ ih4 lv0 e0 => by
            subst e0
            have ih4 := ih4 () trivial
            obtain ⟨e, he⟩ : ∃ e, e = p + 1 + t := ⟨_, rfl⟩
            rw [show p + 1 + (t + 1) = e + 1 by omega] at ih4
            rw [← he]
            have hsu : su (e + 1) F = su e F + F e := su_s e F
            rw [hsu] at ih4
            have hFe : F e = nif (p < e ∧ (e - p < j - i ∨ ps.length = 1)) (pK K (ps.getD k 0) p e * fK K (ps.drop (k + 1)) e j) := by rw [hF]
            have hfi := j1 (k + 1) e (by omega) (by omega) (by omega) (Or.inl (by omega)) (Or.inl (Nat.lt_succ_self _))
            by_cases hy : e - p < j - i ∨ ps.length = 1
            · rw [nif_t ⟨by omega, hy⟩] at hFe
              rw [hFe] at ih4
              have hp8 : ps.length = 1 → 8 ≤ ps.getD k 0 := fun q => by rw [hpg]; have := h1 (by omega); rw [show k + 1 = 1 by omega]; exact this
              refine go_iload dx_X12_laysFit_51 rfl ?_
              refine go_iload_n (i := 3) dx_X12_laysFit_53 rfl rfl ?_
              refine go_icmp_gt (tgt := 127) dx_X12_laysFit_54 rfl (by omega) (by omega) (fun c54 => by exact absurd c54 (by omega)) (fun c54 => ?_)
              refine go_iload dx_X12_laysFit_57 rfl ?_
              refine go_iload dx_X12_laysFit_59 rfl ?_
              refine go_icmp_ge (tgt := 127) dx_X12_laysFit_61 rfl (by omega) (by omega) (fun c61 => by exact absurd c61 (by omega)) (fun c61 => ?_)
              refine go_iload dx_X12_laysFit_64 rfl ?_
              refine go_iload dx_X12_laysFit_66 rfl ?_
              refine go_isub dx_X12_laysFit_68 ?_
              refine go_iload_n (i := 3) dx_X12_laysFit_69 rfl rfl ?_
              refine go_iload_n (i := 2) dx_X12_laysFit_70 rfl rfl ?_
              refine go_isub dx_X12_laysFit_71 ?_
              refine go_icmp_lt (tgt := 81) dx_X12_laysFit_72 rfl (by omega) (by omega) (fun c72 => ?_) (fun c72 => ?_)
              · refine go_lload dx_X12_laysFit_81 rfl ?_
                refine go_aload_n (i := 0) dx_X12_laysFit_83 rfl rfl ?_
                refine go_aload_n (i := 0) dx_X12_laysFit_84 rfl rfl ?_
                refine go_iload_n (i := 1) dx_X12_laysFit_85 rfl rfl ?_
                refine go_iload dx_X12_laysFit_86 rfl ?_
                refine go_cV2 sv_X12_190 (go_ok rfl rfl) dx_X12_laysFit_88 (Nat.le_of_ble_eq_true rfl) (Nat.le_of_ble_eq_true rfl) (o_partOf hb2 hr (by omega) ?_)
                refine go_asI (y := ((ps.getD k 0 : Nat) : Int)) (by rw [hpg]) ?_
                refine go_iload dx_X12_laysFit_91 rfl ?_
                refine go_iload dx_X12_laysFit_93 rfl ?_
                refine go_cV3 sv_X12_303 (go_ok rfl rfl) dx_X12_laysFit_95 (Nat.le_of_ble_eq_true rfl) (Nat.le_of_ble_eq_true rfl) (m_partWays hlet hw2 ht2 h14 (hp14 k hkl) (by omega) (by omega) (by omega) ?_)
                refine go_aload_n (i := 0) dx_X12_laysFit_98 rfl rfl ?_
                refine go_getA (b := 112) fs_X12_67 rfl (go_ok rfl rfl) rfl dx_X12_laysFit_99 ?_
                refine go_bipush dx_X12_laysFit_102 rfl ?_
                refine go_iload dx_X12_laysFit_104 rfl ?_
                refine go_iconst dx_X12_laysFit_106 ?_
                refine go_iadd dx_X12_laysFit_107 ?_
                refine go_imul dx_X12_laysFit_108 ?_
                refine go_iload dx_X12_laysFit_109 rfl ?_
                refine go_iadd dx_X12_laysFit_111 ?_
                refine go_laloadV (i := (16 * (k + 1) + e)) (v := ((st (fK K (ps.drop (k + 1)) e j)))) dx_X12_laysFit_112 (go_ok rfl rfl) (by omega) (show (16 * (k + 1) + e) < 96 by omega) (by exact hfi) ?_
                refine go_cS2 ss_X12_297 dx_X12_laysFit_113 (Nat.le_of_ble_eq_true rfl) (Nat.le_of_ble_eq_true rfl) (m_times ?_)
                refine go_cS2 ss_X12_300 dx_X12_laysFit_116 (Nat.le_of_ble_eq_true rfl) (Nat.le_of_ble_eq_true rfl) (m_plus ?_)
                refine go_lstore (lv' := [(0, vv_A 94), (1, vv_I (r : Int)), (2, vv_I (i : Int)), (3, vv_I (j : Int)), (4, vv_I (ps.length : Int)), (5, vv_I (k : Int)), (6, vv_I (p : Int)), (7, vv_L (st (su e F + pK K (ps.getD k 0) p e * fK K (ps.drop (k + 1)) e j))), (9, vv_I (e : Int))]) dx_X12_laysFit_119 (by decide) rfl ?_
                refine go_iinc (lv' := [(0, vv_A 94), (1, vv_I (r : Int)), (2, vv_I (i : Int)), (3, vv_I (j : Int)), (4, vv_I (ps.length : Int)), (5, vv_I (k : Int)), (6, vv_I (p : Int)), (7, vv_L (st (su e F + pK K (ps.getD k 0) p e * fK K (ps.drop (k + 1)) e j))), (9, vv_I ((e : Int) + 1))]) dx_X12_laysFit_121 rfl (by decide) rfl ?_
                refine go_goto (tgt := 51) dx_X12_laysFit_124 rfl ?_
                first | exact ih4 _ rfl | (exfalso; omega)
              · refine go_iload dx_X12_laysFit_75 rfl ?_
                refine go_iconst dx_X12_laysFit_77 ?_
                refine go_icmp_ne (tgt := 121) dx_X12_laysFit_78 rfl (by omega) (by omega) (fun c78 => ?_) (fun c78 => ?_)
                · refine go_iinc (lv' := [(0, vv_A 94), (1, vv_I (r : Int)), (2, vv_I (i : Int)), (3, vv_I (j : Int)), (4, vv_I (ps.length : Int)), (5, vv_I (k : Int)), (6, vv_I (p : Int)), (7, vv_L (st (su e F))), (9, vv_I ((e : Int) + 1))]) dx_X12_laysFit_121 rfl (by decide) rfl ?_
                  refine go_goto (tgt := 51) dx_X12_laysFit_124 rfl ?_
                  first | exact ih4 _ rfl | (exfalso; omega)
                · refine go_lload dx_X12_laysFit_81 rfl ?_
                  refine go_aload_n (i := 0) dx_X12_laysFit_83 rfl rfl ?_
                  refine go_aload_n (i := 0) dx_X12_laysFit_84 rfl rfl ?_
                  refine go_iload_n (i := 1) dx_X12_laysFit_85 rfl rfl ?_
                  refine go_iload dx_X12_laysFit_86 rfl ?_
                  refine go_cV2 sv_X12_190 (go_ok rfl rfl) dx_X12_laysFit_88 (Nat.le_of_ble_eq_true rfl) (Nat.le_of_ble_eq_true rfl) (o_partOf hb2 hr (by omega) ?_)
                  refine go_asI (y := ((ps.getD k 0 : Nat) : Int)) (by rw [hpg]) ?_
                  refine go_iload dx_X12_laysFit_91 rfl ?_
                  refine go_iload dx_X12_laysFit_93 rfl ?_
                  refine go_cV3 sv_X12_303 (go_ok rfl rfl) dx_X12_laysFit_95 (Nat.le_of_ble_eq_true rfl) (Nat.le_of_ble_eq_true rfl) (m_partWays hlet hw2 ht2 h14 (hp14 k hkl) (by omega) (by omega) (by omega) ?_)
                  refine go_aload_n (i := 0) dx_X12_laysFit_98 rfl rfl ?_
                  refine go_getA (b := 112) fs_X12_67 rfl (go_ok rfl rfl) rfl dx_X12_laysFit_99 ?_
                  refine go_bipush dx_X12_laysFit_102 rfl ?_
                  refine go_iload dx_X12_laysFit_104 rfl ?_
                  refine go_iconst dx_X12_laysFit_106 ?_
                  refine go_iadd dx_X12_laysFit_107 ?_
                  refine go_imul dx_X12_laysFit_108 ?_
                  refine go_iload dx_X12_laysFit_109 rfl ?_
                  refine go_iadd dx_X12_laysFit_111 ?_
                  refine go_laloadV (i := (16 * (k + 1) + e)) (v := ((st (fK K (ps.drop (k + 1)) e j)))) dx_X12_laysFit_112 (go_ok rfl rfl) (by omega) (show (16 * (k + 1) + e) < 96 by omega) (by exact hfi) ?_
                  refine go_cS2 ss_X12_297 dx_X12_laysFit_113 (Nat.le_of_ble_eq_true rfl) (Nat.le_of_ble_eq_true rfl) (m_times ?_)
                  refine go_cS2 ss_X12_300 dx_X12_laysFit_116 (Nat.le_of_ble_eq_true rfl) (Nat.le_of_ble_eq_true rfl) (m_plus ?_)
                  refine go_lstore (lv' := [(0, vv_A 94), (1, vv_I (r : Int)), (2, vv_I (i : Int)), (3, vv_I (j : Int)), (4, vv_I (ps.length : Int)), (5, vv_I (k : Int)), (6, vv_I (p : Int)), (7, vv_L (st (su e F + pK K (ps.getD k 0) p e * fK K (ps.drop (k + 1)) e j))), (9, vv_I (e : Int))]) dx_X12_laysFit_119 (by decide) rfl ?_
                  refine go_iinc (lv' := [(0, vv_A 94), (1, vv_I (r : Int)), (2, vv_I (i : Int)), (3, vv_I (j : Int)), (4, vv_I (ps.length : Int)), (5, vv_I (k : Int)), (6, vv_I (p : Int)), (7, vv_L (st (su e F + pK K (ps.getD k 0) p e * fK K (ps.drop (k + 1)) e j))), (9, vv_I ((e : Int) + 1))]) dx_X12_laysFit_121 rfl (by decide) rfl ?_
                  refine go_goto (tgt := 51) dx_X12_laysFit_124 rfl ?_
                  first | exact ih4 _ rfl | (exfalso; omega)
            · rw [nif_f (fun q => hy q.2)] at hFe
              rw [hFe, Nat.add_zero] at ih4
              refine go_iload dx_X12_laysFit_51 rfl ?_
              refine go_iload_n (i := 3) dx_X12_laysFit_53 rfl rfl ?_
              refine go_icmp_gt (tgt := 127) dx_X12_laysFit_54 rfl (by omega) (by omega) (fun c54 => by exact absurd c54 (by omega)) (fun c54 => ?_)
              refine go_iload dx_X12_laysFit_57 rfl ?_
              refine go_iload dx_X12_laysFit_59 rfl ?_
              refine go_icmp_ge (tgt := 127) dx_X12_laysFit_61 rfl (by omega) (by omega) (fun c61 => by exact absurd c61 (by omega)) (fun c61 => ?_)
              refine go_iload dx_X12_laysFit_64 rfl ?_
              refine go_iload dx_X12_laysFit_66 rfl ?_
              refine go_isub dx_X12_laysFit_68 ?_
              refine go_iload_n (i := 3) dx_X12_laysFit_69 rfl rfl ?_
              refine go_iload_n (i := 2) dx_X12_laysFit_70 rfl rfl ?_
              refine go_isub dx_X12_laysFit_71 ?_
              refine go_icmp_lt (tgt := 81) dx_X12_laysFit_72 rfl (by omega) (by omega) (fun c72 => by exact absurd (Or.inl (by omega)) hy) (fun c72 => ?_)
              refine go_iload dx_X12_laysFit_75 rfl ?_
              refine go_iconst dx_X12_laysFit_77 ?_
              refine go_icmp_ne (tgt := 121) dx_X12_laysFit_78 rfl (by omega) (by omega) (fun c78 => ?_) (fun c78 => by exact absurd (Or.inr (by omega)) hy)
              refine go_iinc (lv' := [(0, vv_A 94), (1, vv_I (r : Int)), (2, vv_I (i : Int)), (3, vv_I (j : Int)), (4, vv_I (ps.length : Int)), (5, vv_I (k : Int)), (6, vv_I (p : Int)), (7, vv_L (st (su e F))), (9, vv_I ((e : Int) + 1))]) dx_X12_laysFit_121 rfl (by decide) rfl ?_
              refine go_goto (tgt := 51) dx_X12_laysFit_124 rfl ?_
              exact ih4 _ rfl
          ) (fun _ _ lv0 e0 => by
            subst e0
            rw [show p + 1 + (j - p) = j + 1 by omega]
            refine go_iload dx_X12_laysFit_51 rfl ?_
            refine go_iload_n (i := 3) dx_X12_laysFit_53 rfl rfl ?_
            refine go_icmp_gt (tgt := 127) dx_X12_laysFit_54 rfl (by omega) (by omega) (fun c54 => ?_) (fun c54 => by exact absurd c54 (by omega))
            refine go_keep [0, 1, 2, 3, 4, 5, 6, 7] rfl ?_
            exact tail _ hfin
          )
        refine go_iload dx_X12_laysFit_19 rfl ?_
        refine go_iload_n (i := 3) dx_X12_laysFit_21 rfl rfl ?_
        refine go_icmp_gt (tgt := 148) dx_X12_laysFit_22 rfl (by omega) (by omega) (fun c22 => by exact absurd c22 (by omega)) (fun c22 => ?_)
        refine go_iload dx_X12_laysFit_25 rfl ?_
        refine go_iload dx_X12_laysFit_27 rfl ?_
        refine go_icmp_ne (tgt := 42) dx_X12_laysFit_29 rfl (by omega) (by omega) (fun c29 => ?_) (fun c29 => by exact absurd c29 (by omega))
        refine go_lconst (x := 0) dx_X12_laysFit_42 rfl ?_
        refine go_lstore (lv' := [(0, vv_A 94), (1, vv_I (r : Int)), (2, vv_I (i : Int)), (3, vv_I (j : Int)), (4, vv_I (ps.length : Int)), (5, vv_I (k : Int)), (6, vv_I (p : Int)), (7, vv_L 0)]) dx_X12_laysFit_43 (by decide) rfl ?_
        refine go_iload dx_X12_laysFit_45 rfl ?_
        refine go_iconst dx_X12_laysFit_47 ?_
        refine go_iadd dx_X12_laysFit_48 ?_
        refine go_istore (lv' := [(0, vv_A 94), (1, vv_I (r : Int)), (2, vv_I (i : Int)), (3, vv_I (j : Int)), (4, vv_I (ps.length : Int)), (5, vv_I (k : Int)), (6, vv_I (p : Int)), (7, vv_L 0), (9, vv_I ((p + 1 + 0 : Nat) : Int))]) dx_X12_laysFit_49 (by decide) rfl ?_
        have t := sums 0 () (Nat.zero_le _) trivial _ rfl
        rw [Nat.add_zero, su_zero (n := p + 1) (f := F) (fun e he => by rw [hF]; exact nif_f (fun q => by omega)), st_0] at t
        exact t
    · obtain ⟨j0, j1, j2⟩ := hI2
      refine go_iload dx_X12_laysFit_19 rfl ?_
      refine go_iload_n (i := 3) dx_X12_laysFit_21 rfl rfl ?_
      refine go_icmp_gt (tgt := 148) dx_X12_laysFit_22 rfl (by omega) (by omega) (fun c22 => ?_) (fun c22 => by exact absurd c22 (by omega))
      refine go_iinc (lv' := [(0, vv_A 94), (1, vv_I (r : Int)), (2, vv_I (i : Int)), (3, vv_I (j : Int)), (4, vv_I (ps.length : Int)), (5, vv_I ((k : Int) + (-1))), (6, vv_I ((j + 1 : Nat) : Int))]) dx_X12_laysFit_148 rfl (by decide) rfl ?_
      refine go_goto (tgt := 11) dx_X12_laysFit_151 rfl ?_
      refine go_keep [0, 1, 2, 3, 4, 5] rfl ?_
      exact ih2 δ2 (fun k' p a b c e f => j1 k' p a b c e (by omega)) j2
  · obtain ⟨i0, i1, i2⟩ := hI
    refine go_iload dx_X12_laysFit_11 rfl ?_
    refine go_if_lt (tgt := 154) dx_X12_laysFit_13 rfl (by omega) (fun c13 => ?_) (fun c13 => by exact absurd c13 (by omega))
    refine go_vreturn dx_X12_laysFit_154 rfl (Nat.le_refl _) (Nat.le_refl _) ?_
    exact hQ δ1 (fun k' p a b c e _ => i1 k' p a b c e (Nat.zero_le _)) i2
end GMTR
