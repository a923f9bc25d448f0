/-! rows of Go for a whole call on a heap whose cells all stand -/
abbrev go_φ : go_F := (136, go_rf, 0, 0)
section GOP
variable {E : go_E} {d : Nat} {mm : Nat × Nat} {M M' : go_M} {φ : go_F} {pc : Nat} {lv : List (Nat × go_V)} {st : List go_V} {δ : Nat → Nat → Int} {Q : List go_V → go_F → (Nat → Nat → Int) → Prop}
theorem go_nmI {x : Int} (k : ∀ y : Int, y = x → Go E d mm M φ pc lv (vv_I y :: st) δ Q) : Go E d mm M φ pc lv (vv_I x :: st) δ Q := k x rfl
theorem go_nmL {x : Int} (k : ∀ y : Int, y = x → Go E d mm M φ pc lv (vv_L y :: st) δ Q) : Go E d mm M φ pc lv (vv_L x :: st) δ Q := k x rfl
theorem go_ok {a : Nat} {c : Nat} (h1 : go_kd a = c) (h2 : Nat.ble (a + 1) 136 = true) : go_kd a = c ∧ a < go_φ.1 := ⟨h1, Nat.le_of_ble_eq_true h2⟩
theorem go_cS0 {idx : Nat} (hs : go_SS M.1.cls idx M' 0) (hdg : decode (go_cc M) pc = .ok (.invokestatic idx, 3)) (hlen : go_wd [] ≤ M'.2.2.1) (hr : go_wd st ≤ 8)
    (k : Go E d (0, 0) M' go_φ 0 (go_ar 0 []) [] δ (fun v φ' δ' => Go E (d + 1) (0, 0) M (φ'.1, φ'.2.1, 0, 0) (pc + 3) lv (go_ap v st) δ' Q)) : Go E (d + 1) (0, 0) M go_φ pc lv (st) δ Q :=
  go_callS (mc := (0, 0)) (rest := st) (As := []) hs hdg rfl hlen hr (Nat.le_refl _) (Nat.le_refl _) k
theorem go_cV0 {o : Nat} {idx ci : Nat} (hs : go_SV M.1.cls idx ci M' 0) (ha : go_kd o = ci ∧ o < go_φ.1) (hdg : decode (go_cc M) pc = .ok (.invokevirtual idx, 3)) (hlen : go_wd (vv_A o :: []) ≤ M'.2.2.1) (hr : go_wd st ≤ 8)
    (k : Go E d (0, 0) M' go_φ 0 (go_ar 0 (vv_A o :: [])) [] δ (fun v φ' δ' => Go E (d + 1) (0, 0) M (φ'.1, φ'.2.1, 0, 0) (pc + 3) lv (go_ap v st) δ' Q)) : Go E (d + 1) (0, 0) M go_φ pc lv (vv_A o :: st) δ Q :=
  go_callV (mc := (0, 0)) (rest := st) (As := []) hs ha hdg rfl hlen hr (Nat.le_refl _) (Nat.le_refl _) k
theorem go_cS1 {a1 : go_V} {idx : Nat} (hs : go_SS M.1.cls idx M' 1) (hdg : decode (go_cc M) pc = .ok (.invokestatic idx, 3)) (hlen : go_wd [a1] ≤ M'.2.2.1) (hr : go_wd st ≤ 8)
    (k : Go E d (0, 0) M' go_φ 0 (go_ar 0 [a1]) [] δ (fun v φ' δ' => Go E (d + 1) (0, 0) M (φ'.1, φ'.2.1, 0, 0) (pc + 3) lv (go_ap v st) δ' Q)) : Go E (d + 1) (0, 0) M go_φ pc lv (a1 :: st) δ Q :=
  go_callS (mc := (0, 0)) (rest := st) (As := [a1]) hs hdg rfl hlen hr (Nat.le_refl _) (Nat.le_refl _) k
theorem go_cV1 {o : Nat} {a1 : go_V} {idx ci : Nat} (hs : go_SV M.1.cls idx ci M' 1) (ha : go_kd o = ci ∧ o < go_φ.1) (hdg : decode (go_cc M) pc = .ok (.invokevirtual idx, 3)) (hlen : go_wd (vv_A o :: [a1]) ≤ M'.2.2.1) (hr : go_wd st ≤ 8)
    (k : Go E d (0, 0) M' go_φ 0 (go_ar 0 (vv_A o :: [a1])) [] δ (fun v φ' δ' => Go E (d + 1) (0, 0) M (φ'.1, φ'.2.1, 0, 0) (pc + 3) lv (go_ap v st) δ' Q)) : Go E (d + 1) (0, 0) M go_φ pc lv (a1 :: vv_A o :: st) δ Q :=
  go_callV (mc := (0, 0)) (rest := st) (As := [a1]) hs ha hdg rfl hlen hr (Nat.le_refl _) (Nat.le_refl _) k
theorem go_cS2 {a1 a2 : go_V} {idx : Nat} (hs : go_SS M.1.cls idx M' 2) (hdg : decode (go_cc M) pc = .ok (.invokestatic idx, 3)) (hlen : go_wd [a1, a2] ≤ M'.2.2.1) (hr : go_wd st ≤ 8)
    (k : Go E d (0, 0) M' go_φ 0 (go_ar 0 [a1, a2]) [] δ (fun v φ' δ' => Go E (d + 1) (0, 0) M (φ'.1, φ'.2.1, 0, 0) (pc + 3) lv (go_ap v st) δ' Q)) : Go E (d + 1) (0, 0) M go_φ pc lv (a2 :: a1 :: st) δ Q :=
  go_callS (mc := (0, 0)) (rest := st) (As := [a1, a2]) hs hdg rfl hlen hr (Nat.le_refl _) (Nat.le_refl _) k
theorem go_cV2 {o : Nat} {a1 a2 : go_V} {idx ci : Nat} (hs : go_SV M.1.cls idx ci M' 2) (ha : go_kd o = ci ∧ o < go_φ.1) (hdg : decode (go_cc M) pc = .ok (.invokevirtual idx, 3)) (hlen : go_wd (vv_A o :: [a1, a2]) ≤ M'.2.2.1) (hr : go_wd st ≤ 8)
    (k : Go E d (0, 0) M' go_φ 0 (go_ar 0 (vv_A o :: [a1, a2])) [] δ (fun v φ' δ' => Go E (d + 1) (0, 0) M (φ'.1, φ'.2.1, 0, 0) (pc + 3) lv (go_ap v st) δ' Q)) : Go E (d + 1) (0, 0) M go_φ pc lv (a2 :: a1 :: vv_A o :: st) δ Q :=
  go_callV (mc := (0, 0)) (rest := st) (As := [a1, a2]) hs ha hdg rfl hlen hr (Nat.le_refl _) (Nat.le_refl _) k
theorem go_cS3 {a1 a2 a3 : go_V} {idx : Nat} (hs : go_SS M.1.cls idx M' 3) (hdg : decode (go_cc M) pc = .ok (.invokestatic idx, 3)) (hlen : go_wd [a1, a2, a3] ≤ M'.2.2.1) (hr : go_wd st ≤ 8)
    (k : Go E d (0, 0) M' go_φ 0 (go_ar 0 [a1, a2, a3]) [] δ (fun v φ' δ' => Go E (d + 1) (0, 0) M (φ'.1, φ'.2.1, 0, 0) (pc + 3) lv (go_ap v st) δ' Q)) : Go E (d + 1) (0, 0) M go_φ pc lv (a3 :: a2 :: a1 :: st) δ Q :=
  go_callS (mc := (0, 0)) (rest := st) (As := [a1, a2, a3]) hs hdg rfl hlen hr (Nat.le_refl _) (Nat.le_refl _) k
theorem go_cV3 {o : Nat} {a1 a2 a3 : go_V} {idx ci : Nat} (hs : go_SV M.1.cls idx ci M' 3) (ha : go_kd o = ci ∧ o < go_φ.1) (hdg : decode (go_cc M) pc = .ok (.invokevirtual idx, 3)) (hlen : go_wd (vv_A o :: [a1, a2, a3]) ≤ M'.2.2.1) (hr : go_wd st ≤ 8)
    (k : Go E d (0, 0) M' go_φ 0 (go_ar 0 (vv_A o :: [a1, a2, a3])) [] δ (fun v φ' δ' => Go E (d + 1) (0, 0) M (φ'.1, φ'.2.1, 0, 0) (pc + 3) lv (go_ap v st) δ' Q)) : Go E (d + 1) (0, 0) M go_φ pc lv (a3 :: a2 :: a1 :: vv_A o :: st) δ Q :=
  go_callV (mc := (0, 0)) (rest := st) (As := [a1, a2, a3]) hs ha hdg rfl hlen hr (Nat.le_refl _) (Nat.le_refl _) k
theorem go_cS4 {a1 a2 a3 a4 : go_V} {idx : Nat} (hs : go_SS M.1.cls idx M' 4) (hdg : decode (go_cc M) pc = .ok (.invokestatic idx, 3)) (hlen : go_wd [a1, a2, a3, a4] ≤ M'.2.2.1) (hr : go_wd st ≤ 8)
    (k : Go E d (0, 0) M' go_φ 0 (go_ar 0 [a1, a2, a3, a4]) [] δ (fun v φ' δ' => Go E (d + 1) (0, 0) M (φ'.1, φ'.2.1, 0, 0) (pc + 3) lv (go_ap v st) δ' Q)) : Go E (d + 1) (0, 0) M go_φ pc lv (a4 :: a3 :: a2 :: a1 :: st) δ Q :=
  go_callS (mc := (0, 0)) (rest := st) (As := [a1, a2, a3, a4]) hs hdg rfl hlen hr (Nat.le_refl _) (Nat.le_refl _) k
theorem go_cV4 {o : Nat} {a1 a2 a3 a4 : go_V} {idx ci : Nat} (hs : go_SV M.1.cls idx ci M' 4) (ha : go_kd o = ci ∧ o < go_φ.1) (hdg : decode (go_cc M) pc = .ok (.invokevirtual idx, 3)) (hlen : go_wd (vv_A o :: [a1, a2, a3, a4]) ≤ M'.2.2.1) (hr : go_wd st ≤ 8)
    (k : Go E d (0, 0) M' go_φ 0 (go_ar 0 (vv_A o :: [a1, a2, a3, a4])) [] δ (fun v φ' δ' => Go E (d + 1) (0, 0) M (φ'.1, φ'.2.1, 0, 0) (pc + 3) lv (go_ap v st) δ' Q)) : Go E (d + 1) (0, 0) M go_φ pc lv (a4 :: a3 :: a2 :: a1 :: vv_A o :: st) δ Q :=
  go_callV (mc := (0, 0)) (rest := st) (As := [a1, a2, a3, a4]) hs ha hdg rfl hlen hr (Nat.le_refl _) (Nat.le_refl _) k
theorem go_cS5 {a1 a2 a3 a4 a5 : go_V} {idx : Nat} (hs : go_SS M.1.cls idx M' 5) (hdg : decode (go_cc M) pc = .ok (.invokestatic idx, 3)) (hlen : go_wd [a1, a2, a3, a4, a5] ≤ M'.2.2.1) (hr : go_wd st ≤ 8)
    (k : Go E d (0, 0) M' go_φ 0 (go_ar 0 [a1, a2, a3, a4, a5]) [] δ (fun v φ' δ' => Go E (d + 1) (0, 0) M (φ'.1, φ'.2.1, 0, 0) (pc + 3) lv (go_ap v st) δ' Q)) : Go E (d + 1) (0, 0) M go_φ pc lv (a5 :: a4 :: a3 :: a2 :: a1 :: st) δ Q :=
  go_callS (mc := (0, 0)) (rest := st) (As := [a1, a2, a3, a4, a5]) hs hdg rfl hlen hr (Nat.le_refl _) (Nat.le_refl _) k
theorem go_cV5 {o : Nat} {a1 a2 a3 a4 a5 : go_V} {idx ci : Nat} (hs : go_SV M.1.cls idx ci M' 5) (ha : go_kd o = ci ∧ o < go_φ.1) (hdg : decode (go_cc M) pc = .ok (.invokevirtual idx, 3)) (hlen : go_wd (vv_A o :: [a1, a2, a3, a4, a5]) ≤ M'.2.2.1) (hr : go_wd st ≤ 8)
    (k : Go E d (0, 0) M' go_φ 0 (go_ar 0 (vv_A o :: [a1, a2, a3, a4, a5])) [] δ (fun v φ' δ' => Go E (d + 1) (0, 0) M (φ'.1, φ'.2.1, 0, 0) (pc + 3) lv (go_ap v st) δ' Q)) : Go E (d + 1) (0, 0) M go_φ pc lv (a5 :: a4 :: a3 :: a2 :: a1 :: vv_A o :: st) δ Q :=
  go_callV (mc := (0, 0)) (rest := st) (As := [a1, a2, a3, a4, a5]) hs ha hdg rfl hlen hr (Nat.le_refl _) (Nat.le_refl _) k
theorem go_cS6 {a1 a2 a3 a4 a5 a6 : go_V} {idx : Nat} (hs : go_SS M.1.cls idx M' 6) (hdg : decode (go_cc M) pc = .ok (.invokestatic idx, 3)) (hlen : go_wd [a1, a2, a3, a4, a5, a6] ≤ M'.2.2.1) (hr : go_wd st ≤ 8)
    (k : Go E d (0, 0) M' go_φ 0 (go_ar 0 [a1, a2, a3, a4, a5, a6]) [] δ (fun v φ' δ' => Go E (d + 1) (0, 0) M (φ'.1, φ'.2.1, 0, 0) (pc + 3) lv (go_ap v st) δ' Q)) : Go E (d + 1) (0, 0) M go_φ pc lv (a6 :: a5 :: a4 :: a3 :: a2 :: a1 :: st) δ Q :=
  go_callS (mc := (0, 0)) (rest := st) (As := [a1, a2, a3, a4, a5, a6]) hs hdg rfl hlen hr (Nat.le_refl _) (Nat.le_refl _) k
theorem go_cV6 {o : Nat} {a1 a2 a3 a4 a5 a6 : go_V} {idx ci : Nat} (hs : go_SV M.1.cls idx ci M' 6) (ha : go_kd o = ci ∧ o < go_φ.1) (hdg : decode (go_cc M) pc = .ok (.invokevirtual idx, 3)) (hlen : go_wd (vv_A o :: [a1, a2, a3, a4, a5, a6]) ≤ M'.2.2.1) (hr : go_wd st ≤ 8)
    (k : Go E d (0, 0) M' go_φ 0 (go_ar 0 (vv_A o :: [a1, a2, a3, a4, a5, a6])) [] δ (fun v φ' δ' => Go E (d + 1) (0, 0) M (φ'.1, φ'.2.1, 0, 0) (pc + 3) lv (go_ap v st) δ' Q)) : Go E (d + 1) (0, 0) M go_φ pc lv (a6 :: a5 :: a4 :: a3 :: a2 :: a1 :: vv_A o :: st) δ Q :=
  go_callV (mc := (0, 0)) (rest := st) (As := [a1, a2, a3, a4, a5, a6]) hs ha hdg rfl hlen hr (Nat.le_refl _) (Nat.le_refl _) k
theorem go_cS7 {a1 a2 a3 a4 a5 a6 a7 : go_V} {idx : Nat} (hs : go_SS M.1.cls idx M' 7) (hdg : decode (go_cc M) pc = .ok (.invokestatic idx, 3)) (hlen : go_wd [a1, a2, a3, a4, a5, a6, a7] ≤ M'.2.2.1) (hr : go_wd st ≤ 8)
    (k : Go E d (0, 0) M' go_φ 0 (go_ar 0 [a1, a2, a3, a4, a5, a6, a7]) [] δ (fun v φ' δ' => Go E (d + 1) (0, 0) M (φ'.1, φ'.2.1, 0, 0) (pc + 3) lv (go_ap v st) δ' Q)) : Go E (d + 1) (0, 0) M go_φ pc lv (a7 :: a6 :: a5 :: a4 :: a3 :: a2 :: a1 :: st) δ Q :=
  go_callS (mc := (0, 0)) (rest := st) (As := [a1, a2, a3, a4, a5, a6, a7]) hs hdg rfl hlen hr (Nat.le_refl _) (Nat.le_refl _) k
theorem go_cV7 {o : Nat} {a1 a2 a3 a4 a5 a6 a7 : go_V} {idx ci : Nat} (hs : go_SV M.1.cls idx ci M' 7) (ha : go_kd o = ci ∧ o < go_φ.1) (hdg : decode (go_cc M) pc = .ok (.invokevirtual idx, 3)) (hlen : go_wd (vv_A o :: [a1, a2, a3, a4, a5, a6, a7]) ≤ M'.2.2.1) (hr : go_wd st ≤ 8)
    (k : Go E d (0, 0) M' go_φ 0 (go_ar 0 (vv_A o :: [a1, a2, a3, a4, a5, a6, a7])) [] δ (fun v φ' δ' => Go E (d + 1) (0, 0) M (φ'.1, φ'.2.1, 0, 0) (pc + 3) lv (go_ap v st) δ' Q)) : Go E (d + 1) (0, 0) M go_φ pc lv (a7 :: a6 :: a5 :: a4 :: a3 :: a2 :: a1 :: vv_A o :: st) δ Q :=
  go_callV (mc := (0, 0)) (rest := st) (As := [a1, a2, a3, a4, a5, a6, a7]) hs ha hdg rfl hlen hr (Nat.le_refl _) (Nat.le_refl _) k
theorem go_keep {lv' : List (Nat × go_V)} (is : List Nat) (h : is.filterMap (fun i => lv[i]?) = lv') (k : Go E d mm M φ pc lv' st δ Q) : Go E d mm M φ pc lv st δ Q := by
  intro p l e R s m args below meth c Z H locs ls B g1 g2 g3 g4 hZ hW hS hl
  refine k p l e R s m args below meth c Z H locs ls B g1 g2 g3 g4 hZ hW hS ⟨hl.1, hl.2.1, fun q hq => hl.2.2 q ?_⟩
  obtain ⟨q0, h0, rfl⟩ := List.mem_map.mp hq
  refine List.mem_map.mpr ⟨q0, ?_, rfl⟩
  subst h
  obtain ⟨i, -, hi⟩ := List.mem_filterMap.mp h0
  exact List.mem_of_getElem? hi
end GOP
