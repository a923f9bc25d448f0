/-! the start: what the constructors leave (by program: startgen.py) -/
def dl0 : Nat → Nat → Int := (wr (wr (wr (wr (wr (wr (wr (wr (wr (wr (wr (wr (wr (wr (wr (wr (wr (wr (wr (wr (wr (fun _ _ => 0) 1 3 (-1)) 44 0 0) 49 2 0) 49 3 (-1)) 52 2 0) 52 3 0) 62 0 1) 67 2 1) 67 3 0) 71 2 0) 71 3 (-1)) 87 0 0) 93 0 (-1)) 93 1 (-1)) 93 2 (-1)) 0 16 1) 0 17 0) 94 8 (-1)) 135 0 (-1)) 135 1 (-1)) 135 2 (-1))
def rh0 : Nat → Nat → Nat := (wr (wr (wr (wr (wr (wr (wr (wr (wr (wr (wr (wr (wr (wr (wr (wr (wr (wr (wr (wr (wr (wr (wr (wr (wr (wr (wr (wr (wr (wr (wr (wr (wr (wr (wr (wr (wr (wr (wr (wr (wr (wr (wr (wr (wr (wr (wr (wr (wr (wr (wr (wr (wr (wr (wr (wr (wr (wr (wr (wr (wr (wr (wr (wr (wr (wr (wr (wr (wr (wr (wr (wr (wr (wr (wr (wr (wr (wr (wr (wr (wr (wr (wr (wr (wr (wr (wr (wr (wr (wr (wr (wr (wr (wr (wr (wr (wr (wr (wr (wr (wr (wr (wr (wr (wr (wr (wr (wr (wr (wr (wr (wr (wr (wr (wr (wr (wr (wr (wr (wr (wr (wr (wr (wr (wr (wr (wr (wr (wr (wr (wr (wr (wr (wr (wr (wr (wr (wr (wr (wr (wr (wr (wr (wr (wr (wr (fun _ _ => 0) 1 0 3) 0 0 2) 3 0 5) 0 1 4) 5 0 7) 7 0 9) 6 0 8) 9 0 11) 6 1 10) 11 0 13) 6 2 12) 13 0 15) 6 3 14) 15 0 17) 6 4 16) 17 0 19) 6 5 18) 19 0 21) 6 6 20) 21 0 23) 6 7 22) 23 0 25) 6 8 24) 25 0 27) 6 9 26) 5 1 28) 28 0 30) 27 0 29) 30 0 32) 27 1 31) 5 2 33) 0 2 6) 33 0 35) 33 2 36) 33 3 37) 33 4 38) 33 6 39) 33 7 40) 33 9 41) 33 10 42) 33 12 43) 33 13 44) 0 3 34) 44 1 46) 44 2 47) 44 3 48) 44 4 49) 0 4 45) 49 0 34) 49 1 45) 49 4 51) 49 5 52) 0 5 50) 52 0 34) 52 1 45) 52 4 54) 52 5 55) 52 7 56) 0 6 53) 56 0 4) 56 1 34) 56 2 53) 56 3 58) 56 5 59) 56 6 60) 56 14 61) 56 15 62) 0 7 57) 62 1 64) 62 2 65) 62 3 66) 62 4 67) 0 8 63) 67 0 34) 67 1 63) 67 4 69) 67 5 70) 67 7 71) 0 9 68) 71 0 34) 71 1 63) 71 4 73) 71 5 74) 71 7 4) 0 10 72) 74 0 76) 0 11 75) 76 0 78) 76 2 79) 76 3 80) 76 4 81) 76 6 82) 76 7 83) 76 9 84) 76 10 85) 76 12 86) 76 13 87) 0 12 77) 87 1 89) 87 2 90) 87 3 91) 87 4 92) 0 13 88) 0 14 93) 0 15 94) 94 1 96) 94 2 97) 94 4 98) 94 5 99) 94 9 100) 94 10 101) 94 11 102) 94 12 103) 94 13 104) 94 14 105) 94 17 106) 94 18 107) 94 19 108) 94 21 109) 94 22 110) 94 23 111) 94 24 112) 94 25 113) 94 26 114) 94 27 115) 94 28 116) 94 29 117) 94 30 118) 94 31 119) 94 32 120) 94 33 121) 94 34 122) 94 38 123) 94 39 124) 94 40 125) 94 42 126) 94 43 127) 94 44 128) 94 45 129) 94 46 130) 94 47 131) 94 48 132) 94 49 133) 94 50 134) 94 51 135) 94 52 136)
def K0 : sK := (fun _ => [], 0, [])
def S0 : sS := (K0, [], (0, -1), [], fun _ => none, fun _ => none)
theorem sk_ok0 : sk_ok K0 := ⟨fun r => Or.inl rfl, fun _ _ => rfl, fun r s _ h => absurd rfl h, by decide, Nat.zero_le _, fun x hx => by cases hx⟩
theorem td0 : td_at dl0 3 K0 := ⟨fun r hr => by show dl0 4 r = 0; simp [dl0, wr], rfl, rfl, rfl, sk_ok0⟩
theorem xs0 : xs_at dl0 S0 := by
  refine ⟨td0, ⟨Nat.zero_le _, rfl, fun k hk => absurd hk (Nat.not_lt_zero _), fun c hc => (by cases hc), rfl, rfl⟩, ⟨Nat.zero_le _, 0, by decide, rfl, rfl, fun k hk => absurd hk (Nat.not_lt_zero _)⟩, fun i hi => Or.inl ⟨rfl, ?_⟩, fun t ht => Or.inl ⟨rfl, ?_⟩⟩
  · rcases (show i = 0 ∨ i = 1 by omega) with q | q <;> subst q <;> rfl
  · rcases (show t = 0 ∨ t = 1 ∨ t = 2 by omega) with q | q | q <;> subst q <;> rfl
theorem xk0 : xk_at 1 dl0 S0 := by
  have e16 : dl0 0 16 = 1 := rfl
  have e17 : dl0 0 17 = 0 := rfl
  have e49 : dl0 49 6 = 0 := rfl
  have e52 : dl0 52 6 = 0 := rfl
  have e56 : dl0 56 17 = 0 := rfl
  have e62 : dl0 62 6 = 0 := rfl
  have e67 : dl0 67 6 = 0 := rfl
  have e71 : dl0 71 6 = 0 := rfl
  have e74 : dl0 74 1 = 0 := rfl
  refine ⟨xs0, ?_, ⟨rfl, rfl, rfl, rfl, rfl, rfl, rfl, rfl, rfl, rfl, rfl⟩, fun h => ?_, fun h => ?_, fun h => ?_, fun h => ?_, fun h => ?_, fun h => ?_, fun h => ?_, fun h => ?_⟩
  · unfold kts kst
    rw [e16, e17, e49, e52, e56, e62, e67, e71, e74]
    decide
  all_goals omega
theorem mx0 : mx_at dl0 S0 := by
  refine ⟨⟨⟨fun r hr => ⟨?_, fun i hi => ?_⟩, ?_, ?_, fun i hi => ?_, sk_ok0⟩, ⟨Nat.zero_le _, rfl, fun k hk => absurd hk (Nat.not_lt_zero _), fun c hc => (by cases hc), rfl, rfl⟩, ⟨Nat.zero_le _, rfl, fun k hk => absurd hk (Nat.not_lt_zero _)⟩, fun i hi => Or.inl ⟨rfl, ?_⟩, fun t ht => Or.inl ⟨rfl, ?_⟩⟩, Or.inl rfl⟩
  · show dl0 95 _ = 0
    simp [dl0, wr]
  · show dl0 95 _ = 0
    simp [dl0, wr]
  · show dl0 95 _ = 0
    simp [dl0, wr]
  · show dl0 95 _ = 0
    simp [dl0, wr]
  · show dl0 95 _ = 0
    simp [dl0, wr]
  · show dl0 97 _ = 0
    simp [dl0, wr]
  · rcases (show t = 0 ∨ t = 1 ∨ t = 2 by omega) with q | q | q <;> subst q <;> rfl
theorem rh_obj : ∀ a, a < 136 → go_kd a < 20 → ∀ j, j < go_ln a → rh0 a j = go_rf a j := by decide +kernel
theorem rh_a6 : ∀ j, j < 10 → rh0 6 j = go_rf 6 j := by decide +kernel
theorem rh_a27 : ∀ j, j < 2 → rh0 27 j = go_rf 27 j := by decide +kernel
theorem kd_23 : ∀ a, a < 136 → go_kd a = 23 → a = 6 ∨ a = 27 := by decide +kernel
theorem kd_not : ∀ a, a < 136 → go_kd a < 20 ∨ go_kd a = 20 ∨ go_kd a = 21 ∨ go_kd a = 22 ∨ go_kd a = 23 := by decide +kernel
theorem rh_23 {a : Nat} (ha : a < 136) (hk : go_kd a = 23) (j : Nat) : rh0 a j = go_rf a j := by
  rcases kd_23 a ha hk with q | q <;> subst q
  · by_cases h : j < 10
    · exact rh_a6 j h
    · have e2 : go_rf 6 j = 0 := by
        show ([8, 10, 12, 14, 16, 18, 20, 22, 24, 26] : List Nat).getD j 0 = 0
        rw [List.getD_eq_getElem?_getD, List.getElem?_eq_none (by show 10 ≤ j; omega)]
        rfl
      rw [e2]
      simp [rh0, wr, show j ≠ 0 by omega, show j ≠ 1 by omega, show j ≠ 2 by omega, show j ≠ 3 by omega, show j ≠ 4 by omega, show j ≠ 5 by omega, show j ≠ 6 by omega, show j ≠ 7 by omega, show j ≠ 8 by omega, show j ≠ 9 by omega]
  · by_cases h : j < 2
    · exact rh_a27 j h
    · have e2 : go_rf 27 j = 0 := by
        show ([29, 31] : List Nat).getD j 0 = 0
        rw [List.getD_eq_getElem?_getD, List.getElem?_eq_none (by show 2 ≤ j; omega)]
        rfl
      rw [e2]
      simp [rh0, wr, show j ≠ 0 by omega, show j ≠ 1 by omega]
theorem go_rho {E : go_E} {d : Nat} {mm : Nat × Nat} {M : go_M} {c0 sl0 pc : Nat} {lv : List (Nat × go_V)} {st : List go_V} {δ : Nat → Nat → Int} {Q : List go_V → go_F → (Nat → Nat → Int) → Prop} (k : Go E d mm M (136, go_rf, c0, sl0) pc lv st δ Q) : Go E d mm M (136, rh0, c0, sl0) pc lv st δ Q := by
  intro p l e R s m args below meth c Z H locs ls B g1 g2 g3 g4 hZ hW hS hl
  refine k p l e R s m args below meth c Z H locs ls B g1 g2 g3 g4 hZ ⟨hW.1, fun a ha => ?_⟩ hS hl
  have h := hW.2 a ha
  have e : go_ent E rh0 δ a = go_ent E go_rf δ a := by
    rcases kd_not a ha with q | q | q | q | q
    · unfold go_ent
      rw [if_neg (by omega), if_neg (by omega), if_neg (by omega), if_neg (by omega), if_neg (by omega), if_neg (by omega), if_neg (by omega), if_neg (by omega)]
      congr 2
      exact List.map_congr_left (fun k hk => by rw [rh_obj a ha q k (List.mem_range.mp hk)])
    · unfold go_ent; rw [if_pos q, if_pos q]
    · unfold go_ent; rw [if_neg (by omega), if_pos q, if_neg (by omega), if_pos q]
    · unfold go_ent; rw [if_neg (by omega), if_neg (by omega), if_pos q, if_neg (by omega), if_neg (by omega), if_pos q]
    · unfold go_ent
      rw [if_neg (by omega), if_neg (by omega), if_neg (by omega), if_pos q, if_neg (by omega), if_neg (by omega), if_neg (by omega), if_pos q]
      have ef : (fun j => go_rv E (rh0 a j)) = fun j => go_rv E (go_rf a j) := funext fun j => by rw [rh_23 ha q j]
      rw [ef]
  rw [← e]
  exact h
theorem fz_0 {α : Type} {z : α} {n : Nat} : fz z n (fun _ _ => z) := fun _ _ _ => rfl
/-- the law from its first instruction -/
theorem lw_go {E : go_E} {d : Nat} {Q : List go_V → go_F → (Nat → Nat → Int) → Prop} (hL : go_L E ≤ 3072) (hQ : ∀ δ, Q [vv_I 1] lw_φ δ) : Go E (d + 20) lw_mm mx_L_law (0, fun _ _ => 0, 0, 0) 0 [(0, vv_S 3)] [] (fun _ _ => 0) Q := by
  have hr : fz 0 0 (fun _ _ => (0 : Nat)) := fz_0
  have hd : fz 0 0 (fun _ _ => (0 : Int)) := fz_0
  refine go_new (ci := 10) (N := 18) (n' := 1) (c' := 1) (sl' := 18) rfl hr hd rfl lx_L_7 nx_X11 zx_X11 dx_L_law_0 rfl rfl rfl (Nat.le_of_ble_eq_true rfl) (Nat.le_of_ble_eq_true rfl) (fun hr hd => ?_)
  refine go_dup dx_L_law_3 rfl ?_
  refine go_ctor (As := []) (rest := [vv_A 0]) (cm := 93) (sm := 26002) (c' := 94) (sl' := 26020) si_L_9 dx_L_law_4 rfl (Nat.le_of_ble_eq_true rfl) (by decide) rfl rfl (Nat.le_of_ble_eq_true rfl) (Nat.le_of_ble_eq_true rfl) (fun Q' hQ' => ct_X11_init_0 hr hd hQ') (fun hr hd => ?_)
  refine go_astore_n (i := 1) (lv' := [(0, vv_S 3), (1, vv_A 0)]) dx_L_law_7 rfl (by decide) rfl ?_
  refine go_new (ci := 11) (N := 53) (n' := 95) (c' := 95) (sl' := 26073) rfl hr hd rfl lx_L_10 nx_X12 zx_X12 dx_L_law_8 rfl rfl rfl (Nat.le_of_ble_eq_true rfl) (Nat.le_of_ble_eq_true rfl) (fun hr hd => ?_)
  refine go_dup dx_L_law_11 rfl ?_
  refine go_ctor (As := []) (rest := [vv_A 94]) (cm := 41) (sm := 27289) (c' := 136) (sl' := 53362) si_L_12 dx_L_law_12 rfl (Nat.le_of_ble_eq_true rfl) (by decide) rfl rfl (Nat.le_of_ble_eq_true rfl) (Nat.le_of_ble_eq_true rfl) (fun Q' hQ' => ct_X12_init_94 hr hd hQ') (fun hr hd => ?_)
  refine go_astore_n (i := 2) (lv' := [(0, vv_S 3), (1, vv_A 0), (2, vv_A 94)]) dx_L_law_15 rfl (by decide) rfl ?_
  refine go_iconst dx_L_law_16 ?_
  refine go_istore_n (i := 3) (lv' := [(0, vv_S 3), (1, vv_A 0), (2, vv_A 94), (3, vv_I 0)]) dx_L_law_17 rfl (by decide) rfl ?_
  exact go_rho (lw_loop hL hQ (go_L E) 0 dl0 S0 (by omega) (by omega) xk0 mx0)
