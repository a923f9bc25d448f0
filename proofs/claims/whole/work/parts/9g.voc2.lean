/-! Vocabulary: addSet -/
section GVOC2
variable {E : go_E} {d : Nat} {δ : Nat → Nat → Int} {Q : List go_V → go_F → (Nat → Nat → Int) → Prop}
theorem vof_up {n : Nat} (h : n < 5) : vof n ≤ vof (n + 1) ∧ vof (n + 1) ≤ 27 := by
  rcases (show n = 0 ∨ n = 1 ∨ n = 2 ∨ n = 3 ∨ n = 4 by omega) with q | q | q | q | q <;> subst q <;> decide
theorem g_Voc_addSet {x y n : Nat} {P P' : Nat → Nat → Prop} (hx : x < 62) (hy : y < 62) (hn : n < 5) (h1 : ∀ w, vof n ≤ w → w < vof (n + 1) → δ 75 (27 * x + w) = vb (P w)) (h2 : ∀ w, vof n ≤ w → w < vof (n + 1) → δ 75 (27 * y + w) = vb (P' w))
    (hQ : ∀ δ', (∀ w, vof n ≤ w → w < vof (n + 1) → δ' 75 (27 * x + w) = vb (fun k => P w k ∨ P' w k)) → (∀ c q, (c = 75 → ∀ w, vof n ≤ w → w < vof (n + 1) → q ≠ 27 * x + w) → δ' c q = δ c q) → Q [] go_φ δ') :
    Go E (d + 1) (0, 0) mx_X10_addSet go_φ 0 [(0, vv_A 74), (1, vv_I ((27 * x : Nat) : Int)), (2, vv_I ((27 * y : Nat) : Int)), (3, vv_I (n : Int))] [] δ Q := by
  have l75 : go_ln 75 = 1674 := rfl
  obtain ⟨v1, v2⟩ := vof_up hn
  have loop := lp_up (X := Nat → Nat → Int) (hi := vof (n + 1)) (I := fun w δ1 => vof n ≤ w ∧ (∀ z, vof n ≤ z → z < w → δ1 75 (27 * x + z) = vb (fun k => P z k ∨ P' z k)) ∧ (∀ c q, (c = 75 → ∀ z, vof n ≤ z → z < w → q ≠ 27 * x + z) → δ1 c q = δ c q))
    (G := fun w δ1 => Go E (d + 1) (0, 0) mx_X10_addSet go_φ 20 [(0, vv_A 74), (1, vv_I ((27 * x : Nat) : Int)), (2, vv_I ((27 * y : Nat) : Int)), (3, vv_I (n : Int)), (4, vv_I (vof (n + 1) : Int)), (5, vv_I (w : Int))] [] δ1 Q)
    (fun w δ1 hw hI ih => by
      obtain ⟨i0, i1, i2⟩ := hI
      have e1 : δ1 75 (27 * x + w) = vb (P w) := by rw [i2 75 _ (fun _ z _ hz => by omega)]; exact h1 w i0 hw
      have e2 : δ1 75 (27 * y + w) = vb (P' w) := by rw [i2 75 _ (fun _ z _ hz => by omega)]; exact h2 w i0 hw
      refine go_iload dx_X10_addSet_20 rfl ?_
      refine go_iload dx_X10_addSet_22 rfl ?_
      refine go_icmp_ge (tgt := 67) dx_X10_addSet_24 rfl (by omega) (by omega) (fun c24 => by exact absurd c24 (by omega)) (fun c24 => ?_)
      refine go_aload_n (i := 0) dx_X10_addSet_27 rfl rfl ?_
      refine go_getA (b := 75) fs_X10_11 rfl (go_ok rfl rfl) rfl dx_X10_addSet_28 ?_
      refine go_iload_n (i := 1) dx_X10_addSet_31 rfl rfl ?_
      refine go_iload dx_X10_addSet_32 rfl ?_
      refine go_iadd dx_X10_addSet_34 ?_
      refine go_aload_n (i := 0) dx_X10_addSet_35 rfl rfl ?_
      refine go_getA (b := 75) fs_X10_11 rfl (go_ok rfl rfl) rfl dx_X10_addSet_36 ?_
      refine go_iload_n (i := 1) dx_X10_addSet_39 rfl rfl ?_
      refine go_iload dx_X10_addSet_40 rfl ?_
      refine go_iadd dx_X10_addSet_42 ?_
      refine go_cS2 ss_X10_57 dx_X10_addSet_43 (Nat.le_of_ble_eq_true rfl) (Nat.le_of_ble_eq_true rfl) (g_longAtV (i := (27 * x + w)) (v := (vb (P w))) (go_ok rfl rfl) (by omega) (show (27 * x + w) < 1674 by omega) (by exact e1) ?_)
      refine go_aload_n (i := 0) dx_X10_addSet_46 rfl rfl ?_
      refine go_getA (b := 75) fs_X10_11 rfl (go_ok rfl rfl) rfl dx_X10_addSet_47 ?_
      refine go_iload_n (i := 2) dx_X10_addSet_50 rfl rfl ?_
      refine go_iload dx_X10_addSet_51 rfl ?_
      refine go_iadd dx_X10_addSet_53 ?_
      refine go_cS2 ss_X10_57 dx_X10_addSet_54 (Nat.le_of_ble_eq_true rfl) (Nat.le_of_ble_eq_true rfl) (g_longAtV (i := (27 * y + w)) (v := (vb (P' w))) (go_ok rfl rfl) (by omega) (show (27 * y + w) < 1674 by omega) (by exact e2) ?_)
      refine go_lor dx_X10_addSet_57 ?_
      refine go_asL (y := (vb (fun k => P w k ∨ P' w k))) (by exact vb_or _ _) ?_
      refine go_cS3 ss_X10_15 dx_X10_addSet_58 (Nat.le_of_ble_eq_true rfl) (Nat.le_of_ble_eq_true rfl) (g_putLongN (i := 27 * x + w) (go_ok rfl rfl) (by omega) (show 27 * x + w < 1674 by omega) ?_)
      refine go_iinc (lv' := [(0, vv_A 74), (1, vv_I ((27 * x : Nat) : Int)), (2, vv_I ((27 * y : Nat) : Int)), (3, vv_I (n : Int)), (4, vv_I (vof (n + 1) : Int)), (5, vv_I ((w : Int) + 1))]) dx_X10_addSet_61 rfl (by decide) rfl ?_
      refine go_goto (tgt := 20) dx_X10_addSet_64 rfl ?_
      refine ih _ ⟨by omega, fun z a b => ?_, fun c q hc => ?_⟩
      · by_cases e : z = w
        · subst e; rw [wr_eq]
        · rw [wr_n (by omega)]; exact i1 z a (by omega)
      · rw [wr_n (fun e => hc e w i0 (Nat.lt_succ_self _))]
        exact i2 c q (fun e z a b => hc e z a (by omega))
    ) (fun δ1 hI => by
      refine go_iload dx_X10_addSet_20 rfl ?_
      refine go_iload dx_X10_addSet_22 rfl ?_
      refine go_icmp_ge (tgt := 67) dx_X10_addSet_24 rfl (by omega) (by omega) (fun c24 => ?_) (fun c24 => by exact absurd c24 (by omega))
      refine go_vreturn dx_X10_addSet_67 rfl (Nat.le_refl _) (Nat.le_refl _) ?_
      exact hQ δ1 hI.2.1 hI.2.2
    )
  refine go_getstatic1 sx_X10_45 dx_X10_addSet_0 ?_
  refine go_iload_n (i := 3) dx_X10_addSet_3 rfl rfl ?_
  refine go_iconst dx_X10_addSet_4 ?_
  refine go_iadd dx_X10_addSet_5 ?_
  refine go_asI (y := ((n + 1 : Nat) : Int)) (by rfl) ?_
  refine go_cS2 ss_X10_29 dx_X10_addSet_6 (Nat.le_of_ble_eq_true rfl) (Nat.le_of_ble_eq_true rfl) (g_intAtS1 (by omega) ?_)
  refine go_istore (lv' := [(0, vv_A 74), (1, vv_I ((27 * x : Nat) : Int)), (2, vv_I ((27 * y : Nat) : Int)), (3, vv_I (n : Int)), (4, vv_I (vof (n + 1) : Int))]) dx_X10_addSet_9 (by decide) rfl ?_
  refine go_getstatic1 sx_X10_45 dx_X10_addSet_11 ?_
  refine go_iload_n (i := 3) dx_X10_addSet_14 rfl rfl ?_
  refine go_cS2 ss_X10_29 dx_X10_addSet_15 (Nat.le_of_ble_eq_true rfl) (Nat.le_of_ble_eq_true rfl) (g_intAtS1 (by omega) ?_)
  refine go_istore (lv' := [(0, vv_A 74), (1, vv_I ((27 * x : Nat) : Int)), (2, vv_I ((27 * y : Nat) : Int)), (3, vv_I (n : Int)), (4, vv_I (vof (n + 1) : Int)), (5, vv_I (vof n : Int))]) dx_X10_addSet_18 (by decide) rfl ?_
  exact loop (vof n) δ v1 ⟨Nat.le_refl _, fun z a b => by omega, fun _ _ _ => rfl⟩
end GVOC2
