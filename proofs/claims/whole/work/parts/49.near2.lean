/-! keys told again; the greatest round of a span -/
theorem e8_get {a b : List Nat} {c : Nat} (hc : 8 ≤ c ∧ c < 14) (hb : ltw b) (k : Nat) : ((e8 (a ++ c :: b) + k * 8 * 8 ^ b.length) / 8 ^ b.length) % 8 = c - 8 := by
  have h1 := e8_lt hb
  have e : e8 (a ++ c :: b) + k * 8 * 8 ^ b.length = 8 ^ b.length * ((e8 a + k) * 8 + (c - 8)) + e8 b := by
    rw [e8_app]
    show e8 a * 8 ^ (b.length + 1) + ((c - 8) * 8 ^ b.length + e8 b) + _ = _
    rw [Nat.pow_succ]
    generalize 8 ^ b.length = q
    rw [Nat.mul_add, Nat.add_mul, Nat.mul_add]
    have e1 : e8 a * (q * 8) = q * (e8 a * 8) := by rw [← Nat.mul_assoc, Nat.mul_comm (e8 a) q, Nat.mul_assoc]
    have e2 : k * 8 * q = q * (k * 8) := Nat.mul_comm _ _
    have e3 : (c - 8) * q = q * (c - 8) := Nat.mul_comm _ _
    rw [e1, e2, e3]
    omega
  rw [e, Nat.mul_add_div (Nat.pow_pos (by decide)), Nat.div_eq_of_lt h1]
  omega
theorem nk_letter {w u : List Nat} (hu : ltw u) (hl : u.length ≤ 14) {i : Nat} (hi : i < u.length) : nk w 0 u / 8 ^ (u.length - 1 - i) % 8 = u[i] - 8 := by
  have hs : u = u.take i ++ u[i] :: u.drop (i + 1) := by rw [← List.drop_eq_getElem_cons hi, List.take_append_drop]
  have hbl : (u.drop (i + 1)).length = u.length - 1 - i := by rw [List.length_drop]; omega
  have hb : ltw (u.drop (i + 1)) := fun x hx => hu x (List.mem_of_mem_drop hx)
  have hM : M42 = 8 ^ (13 - (u.length - 1 - i)) * 8 * 8 ^ (u.length - 1 - i) := by
    rw [M42_eq, show (2 : Nat) ^ 42 = 8 ^ 14 from by decide, ← Nat.pow_succ, ← Nat.pow_add]
    congr 1
    omega
  have := e8_get (a := u.take i) (hu _ (List.getElem_mem hi)) hb (mm w 0 u * 8 ^ (13 - (u.length - 1 - i)))
  rw [← hs, hbl] at this
  unfold nk ne_key
  rw [hM, ← Nat.mul_assoc, ← Nat.mul_assoc]
  exact this
section GNEAR2
variable {E : go_E} {d : Nat} {δ : Nat → Nat → Int} {Q : List go_V → go_F → (Nat → Nat → Int) → Prop} {K : sK}
theorem g_Nearest_othersIn {a1 a2 : Nat} (h1 : a1 ≤ 14) (h2 : a2 < M42) (hQ : Q [vv_I (a1 : Int)] go_φ δ) : Go E d (0, 0) mx_X4_othersIn go_φ 0 [(0, vv_L (ne_key a1 a2 : Int))] [] δ Q := by
  refine go_lload_n (i := 0) dx_X4_othersIn_0 rfl rfl ?_
  refine go_bipush dx_X4_othersIn_1 rfl ?_
  refine go_lushr dx_X4_othersIn_3 ?_
  refine go_asL (y := (a1 : Int)) (by rw [show (42 : Int) = ((42 : Nat) : Int) from rfl, bw_ushrN (ne_key_lt (by omega) h2) (by decide), ← M42_eq, ne_div h2]) ?_
  refine go_l2i dx_X4_othersIn_4 ?_
  refine go_ireturn dx_X4_othersIn_5 rfl (Nat.le_refl _) (Nat.le_refl _) ?_
  exact hQ
theorem g_Nearest_letterIn {w u : List Nat} {i : Nat} (hu : ltw u) (hl : u.length ≤ 14) (hi : i < u.length) (hQ : Q [vv_I ((u[i]'hi : Nat) : Int)] go_φ δ) :
    Go E d (0, 0) mx_X4_letterIn go_φ 0 [(0, vv_L (nk w 0 u : Int)), (2, vv_I ((u.length - 1 - i : Nat) : Int))] [] δ Q := by
  have h1 : nk w 0 u < 9223372036854775808 := ne_key_lt (by have := mm_le w u 0; omega) (e8_M hu hl)
  have h2 := hu _ (List.getElem_mem hi)
  have h3 := Nat.div_le_self (nk w 0 u) (8 ^ (u.length - 1 - i))
  have e1 : bw_ushr (nk w 0 u : Int) (3 * ((u.length - 1 - i : Nat) : Int)) = ((nk w 0 u / 8 ^ (u.length - 1 - i) : Nat) : Int) := by
    rw [show (3 : Int) * ((u.length - 1 - i : Nat) : Int) = ((3 * (u.length - 1 - i) : Nat) : Int) by omega, bw_ushrN h1 (by omega), Nat.pow_mul]
  have e2 : bw_and ((nk w 0 u / 8 ^ (u.length - 1 - i) : Nat) : Int) 7 = ((u[i] - 8 : Nat) : Int) := by
    rw [show (7 : Int) = ((7 : Nat) : Int) from rfl, bw_andN (by omega) (by decide), show ∀ n : Nat, n &&& 7 = n % 8 from fun n => Nat.and_two_pow_sub_one_eq_mod n 3, nk_letter hu hl hi]
  refine go_bipush dx_X4_letterIn_0 rfl ?_
  refine go_lload_n (i := 0) dx_X4_letterIn_2 rfl rfl ?_
  refine go_iconst dx_X4_letterIn_3 ?_
  refine go_iload_n (i := 2) dx_X4_letterIn_4 rfl rfl ?_
  refine go_imul dx_X4_letterIn_5 ?_
  refine go_lushr dx_X4_letterIn_6 ?_
  refine go_asL (y := ((nk w 0 u / 8 ^ (u.length - 1 - i) : Nat) : Int)) (by exact e1) ?_
  refine go_ldc2 (x := 7) kx_X4_35 dx_X4_letterIn_7 ?_
  refine go_land dx_X4_letterIn_10 ?_
  refine go_asL (y := ((u[i] - 8 : Nat) : Int)) (by exact e2) ?_
  refine go_l2i dx_X4_letterIn_11 ?_
  refine go_iadd dx_X4_letterIn_12 ?_
  refine go_asI (y := ((u[i] : Nat) : Int)) (by omega) ?_
  refine go_ireturn dx_X4_letterIn_13 rfl (Nat.le_refl _) (Nat.le_refl _) ?_
  exact hQ
theorem g_Rounds_greatestAt {i j : Nat} (hb : bi_at δ 33 K.1) (h : rt_at δ K) (h2 : δ 49 2 = 0) (hn : K.2.2.length ≤ 14) (hij : i < j) (hj : j ≤ K.2.2.length)
    (hQ : ∀ g : Int, -1 ≤ g → g ≤ 14 → (∀ x, x < 14 + (gH K.1).length → rv K.1 x (sl K.2.2 i j) ≤ g) → (g = -1 ∨ ∃ x, x < 14 + (gH K.1).length ∧ g = rv K.1 x (sl K.2.2 i j)) → Q [vv_L g] go_φ δ) :
    Go E (d + 2) (0, 0) mx_X6_greatestAt go_φ 0 [(0, vv_A 49), (1, vv_I (i : Int)), (2, vv_I (j : Int))] [] δ Q := by
  have hR := hb.2.2.2.2.2.2
  have hH := gH_le hR
  have loop := lp_up (X := Int) (hi := 14 + (gH K.1).length) (I := fun x g => -1 ≤ g ∧ g ≤ 14 ∧ (∀ y, y < x → rv K.1 y (sl K.2.2 i j) ≤ g) ∧ (g = -1 ∨ ∃ y, y < x ∧ g = rv K.1 y (sl K.2.2 i j)))
    (G := fun x g => Go E (d + 2) (0, 0) mx_X6_greatestAt go_φ 7 [(0, vv_A 49), (1, vv_I (i : Int)), (2, vv_I (j : Int)), (3, vv_L g), (5, vv_I (x : Int))] [] δ Q) (fun x g hx hI ih => by
      obtain ⟨i1, i2, i3, i4⟩ := hI
      have hr := rv_le hR x (sl K.2.2 i j)
      rw [sl_len hj] at hr
      refine go_iload dx_X6_greatestAt_7 rfl ?_
      refine go_aload_n (i := 0) dx_X6_greatestAt_9 rfl rfl ?_
      refine go_getA (b := 33) fs_X6_26 rfl (go_ok rfl rfl) rfl dx_X6_greatestAt_10 ?_
      refine go_cV0 sv_X6_30 (go_ok rfl rfl) dx_X6_greatestAt_13 (Nat.le_of_ble_eq_true rfl) (Nat.le_of_ble_eq_true rfl) (g_Binary_symbolCount bi_ok33 hb.1 ?_)
      refine go_icmp_ge (tgt := 38) dx_X6_greatestAt_16 rfl (by omega) (by omega) (fun c16 => by exact absurd c16 (by omega)) (fun c16 => ?_)
      refine go_lload_n (i := 3) dx_X6_greatestAt_19 rfl rfl ?_
      refine go_aload_n (i := 0) dx_X6_greatestAt_20 rfl rfl ?_
      refine go_iload dx_X6_greatestAt_21 rfl ?_
      refine go_iload_n (i := 1) dx_X6_greatestAt_23 rfl rfl ?_
      refine go_iload_n (i := 2) dx_X6_greatestAt_24 rfl rfl ?_
      refine go_cV3 sv_X6_36 (go_ok rfl rfl) dx_X6_greatestAt_25 (Nat.le_of_ble_eq_true rfl) (Nat.le_of_ble_eq_true rfl) (g_Rounds_valueAll h h2 hn hx (by omega) hij hj ?_)
      refine go_mmaxL mm_X6_11 dx_X6_greatestAt_28 (by omega) (by omega) (Nat.le_of_ble_eq_true rfl) (Nat.le_refl _) (Nat.le_refl _) ?_
      refine go_lstore_n (i := 3) (lv' := [(0, vv_A 49), (1, vv_I (i : Int)), (2, vv_I (j : Int)), (3, vv_L (if rv K.1 x (sl K.2.2 i j) < g then g else rv K.1 x (sl K.2.2 i j))), (5, vv_I (x : Int))]) dx_X6_greatestAt_31 rfl (by decide) rfl ?_
      refine go_iinc (lv' := [(0, vv_A 49), (1, vv_I (i : Int)), (2, vv_I (j : Int)), (3, vv_L (if rv K.1 x (sl K.2.2 i j) < g then g else rv K.1 x (sl K.2.2 i j))), (5, vv_I ((x : Int) + 1))]) dx_X6_greatestAt_32 rfl (by decide) rfl ?_
      refine go_goto (tgt := 7) dx_X6_greatestAt_35 rfl ?_
      by_cases q : rv K.1 x (sl K.2.2 i j) < g
      · rw [if_pos q]
        exact ih g ⟨i1, i2, fun y hy => by
          by_cases e : y = x
          · subst e; omega
          · exact i3 y (by omega), i4.imp id (fun ⟨y, a, b⟩ => ⟨y, by omega, b⟩)⟩
      · rw [if_neg q]
        exact ih _ ⟨by omega, by omega, fun y hy => by
          by_cases e : y = x
          · subst e; exact Int.le_refl _
          · have := i3 y (by omega); omega, Or.inr ⟨x, by omega, rfl⟩⟩
    ) (fun g hI => by
      refine go_iload dx_X6_greatestAt_7 rfl ?_
      refine go_aload_n (i := 0) dx_X6_greatestAt_9 rfl rfl ?_
      refine go_getA (b := 33) fs_X6_26 rfl (go_ok rfl rfl) rfl dx_X6_greatestAt_10 ?_
      refine go_cV0 sv_X6_30 (go_ok rfl rfl) dx_X6_greatestAt_13 (Nat.le_of_ble_eq_true rfl) (Nat.le_of_ble_eq_true rfl) (g_Binary_symbolCount bi_ok33 hb.1 ?_)
      refine go_icmp_ge (tgt := 38) dx_X6_greatestAt_16 rfl (by omega) (by omega) (fun c16 => ?_) (fun c16 => by exact absurd c16 (by omega))
      refine go_lload_n (i := 3) dx_X6_greatestAt_38 rfl rfl ?_
      refine go_lreturn dx_X6_greatestAt_39 rfl (Nat.le_refl _) (Nat.le_refl _) ?_
      exact hQ g hI.1 hI.2.1 hI.2.2.1 hI.2.2.2
    )
  refine go_ldc2 (x := (-1)) kx_X6_3 dx_X6_greatestAt_0 ?_
  refine go_lstore_n (i := 3) (lv' := [(0, vv_A 49), (1, vv_I (i : Int)), (2, vv_I (j : Int)), (3, vv_L (-1))]) dx_X6_greatestAt_3 rfl (by decide) rfl ?_
  refine go_iconst dx_X6_greatestAt_4 ?_
  refine go_istore (lv' := [(0, vv_A 49), (1, vv_I (i : Int)), (2, vv_I (j : Int)), (3, vv_L (-1)), (5, vv_I 0)]) dx_X6_greatestAt_5 (by decide) rfl ?_
  exact loop 0 (-1) (Nat.zero_le _) ⟨by decide, by decide, fun y hy => absurd hy (Nat.not_lt_zero _), Or.inl rfl⟩
end GNEAR2
