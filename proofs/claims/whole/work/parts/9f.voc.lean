/-! Vocabulary: the static tables; sets joined by bits -/
section GVOC
variable {E : go_E} {d : Nat} {δ : Nat → Nat → Int} {Q : List go_V → go_F → (Nat → Nat → Int) → Prop}
theorem vof_bg {n : Nat} (h : n < 6) : go_BG n = (vof n : Int) := by
  rcases (show n = 0 ∨ n = 1 ∨ n = 2 ∨ n = 3 ∨ n = 4 ∨ n = 5 by omega) with q | q | q | q | q | q <;> subst q <;> rfl
theorem g_intAtS1 {n : Nat} (hn : n < 6) (hQ : Q [vv_I (vof n : Int)] go_φ δ) : Go E d (0, 0) mx_X11_intAt go_φ 0 [(0, vv_S 1), (1, vv_I (n : Int))] [] δ Q := by
  have e := vof_bg hn
  refine go_iload_n (i := 1) dx_X11_intAt_0 rfl rfl ?_
  refine go_if_lt (tgt := 16) dx_X11_intAt_1 rfl (by omega) (fun c1 => by exact absurd c1 (by omega)) (fun c1 => ?_)
  refine go_iload_n (i := 1) dx_X11_intAt_4 rfl rfl ?_
  refine go_aload_nS (i := 0) dx_X11_intAt_5 rfl rfl ?_
  refine go_slen1 dx_X11_intAt_6 ?_
  refine go_icmp_ge (tgt := 16) dx_X11_intAt_7 rfl (by omega) (by omega) (fun c7 => by exact absurd c7 (by omega)) (fun c7 => ?_)
  refine go_aload_nS (i := 0) dx_X11_intAt_10 rfl rfl ?_
  refine go_iload_n (i := 1) dx_X11_intAt_11 rfl rfl ?_
  refine go_sld1 dx_X11_intAt_12 (by omega) (by omega) ?_
  refine go_goto (tgt := 17) dx_X11_intAt_13 rfl ?_
  refine go_ireturn dx_X11_intAt_17 rfl (Nat.le_refl _) (Nat.le_refl _) ?_
  rw [Int.toNat_natCast, e]
  exact hQ
theorem g_intAtS2 {n : Nat} (hn : n < 5) (hQ : Q [vv_I ((6 ^ n : Nat) : Int)] go_φ δ) : Go E d (0, 0) mx_X11_intAt go_φ 0 [(0, vv_S 2), (1, vv_I (n : Int))] [] δ Q := by
  have e : go_SX n = ((6 ^ n : Nat) : Int) := by
    rcases (show n = 0 ∨ n = 1 ∨ n = 2 ∨ n = 3 ∨ n = 4 by omega) with q | q | q | q | q <;> subst q <;> rfl
  refine go_iload_n (i := 1) dx_X11_intAt_0 rfl rfl ?_
  refine go_if_lt (tgt := 16) dx_X11_intAt_1 rfl (by omega) (fun c1 => by exact absurd c1 (by omega)) (fun c1 => ?_)
  refine go_iload_n (i := 1) dx_X11_intAt_4 rfl rfl ?_
  refine go_aload_nS (i := 0) dx_X11_intAt_5 rfl rfl ?_
  refine go_slen2 dx_X11_intAt_6 ?_
  refine go_icmp_ge (tgt := 16) dx_X11_intAt_7 rfl (by omega) (by omega) (fun c7 => by exact absurd c7 (by omega)) (fun c7 => ?_)
  refine go_aload_nS (i := 0) dx_X11_intAt_10 rfl rfl ?_
  refine go_iload_n (i := 1) dx_X11_intAt_11 rfl rfl ?_
  refine go_sld2 dx_X11_intAt_12 (by omega) (by omega) ?_
  refine go_goto (tgt := 17) dx_X11_intAt_13 rfl ?_
  refine go_ireturn dx_X11_intAt_17 rfl (Nat.le_refl _) (Nat.le_refl _) ?_
  rw [Int.toNat_natCast, e]
  exact hQ
end GVOC
