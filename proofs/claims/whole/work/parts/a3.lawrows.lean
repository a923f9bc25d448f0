/-! the law's frame: rows -/
abbrev lw_φ : go_F := (136, go_rf, 136, 53362)
abbrev lw_mm : Nat × Nat := (136, 53362)
theorem xs_iI (x : Int32) : go_iI x.toInt := by
  have h1 := Int32.le_toInt x
  have h2 := Int32.toInt_lt x
  exact ⟨by omega, by omega⟩
def ax (E : go_E) (i k : Nat) : Int := (go_xs E (i + k)).toInt
theorem ax_iI (E : go_E) (i k : Nat) : go_iI (ax E i k) := xs_iI _
abbrev lvs (i : Nat) : List (Nat × go_V) := [(0, vv_S 3), (1, vv_A 0), (2, vv_A 94), (3, vv_I (i : Int))]
section GLROW
variable {E : go_E} {d : Nat} {pc i : Nat} {φ : go_F} {st : List go_V} {δ : Nat → Nat → Int} {Q : List go_V → go_F → (Nat → Nat → Int) → Prop}
/-- a number of the script -/
theorem go_arg (k : Nat) (d0 : decode (go_cc mx_L_law) pc = .ok (.aload_n 0, 1)) (d1 : decode (go_cc mx_L_law) (pc + 1) = .ok (.iload_n 3, 1)) (d2 : decode (go_cc mx_L_law) (pc + 2) = .ok (.iconst (k : Int), 1)) (d3 : decode (go_cc mx_L_law) (pc + 3) = .ok (.iadd, 1)) (d4 : decode (go_cc mx_L_law) (pc + 4) = .ok (.iaload, 1))
    (hL : go_L E ≤ 3072) (hi : i + k < go_L E) (kk : Go E d lw_mm mx_L_law φ (pc + 5) (lvs i) (vv_I (ax E i k) :: st) δ Q) : Go E d lw_mm mx_L_law φ pc (lvs i) st δ Q := by
  refine go_aload_nS (i := 0) (j := 2) d0 rfl rfl ?_
  refine go_iload_n (i := 3) d1 rfl rfl ?_
  refine go_iconst d2 ?_
  refine go_iadd d3 ?_
  refine go_sld3 d4 (by omega) (by omega) (by omega) ?_
  rw [show ((i : Int) + (k : Int)).toNat = i + k by omega]
  exact kk
theorem go_icmpS {x : Int} {off : Int} {tgt : Nat} (hdg : decode (go_cc mx_L_law) pc = .ok (.if_icmp .eq off, 3)) (ht : (pc : Int) + off = (tgt : Int)) (kk : Go E d lw_mm mx_L_law φ tgt (lvs i) st δ Q) : Go E d lw_mm mx_L_law φ pc (lvs i) (vv_I x :: vv_I x :: st) δ Q := by
  intro p l e R s m args below meth c Z H locs ls B h1 h2 h3 h4 hZ hW hS hlv
  exact lv_icmp_eq B.1 B.2.1 hdg ht (fun h => kk p l e R s m args below meth c Z H locs ls B h1 h2 h3 h4 hZ hW hS hlv) (fun h => absurd rfl h)
theorem go_lcmpS {x : Int} {off : Int} {tgt : Nat} (hdg : decode (go_cc mx_L_law) pc = .ok (.lcmp, 1)) (hdg2 : decode (go_cc mx_L_law) (pc + 1) = .ok (.ifCond .eq off, 3)) (ht : ((pc + 1 : Nat) : Int) + off = (tgt : Int)) (kk : Go E d lw_mm mx_L_law φ tgt (lvs i) st δ Q) : Go E d lw_mm mx_L_law φ pc (lvs i) (vv_L x :: vv_L x :: st) δ Q := by
  have k2 : Go E d lw_mm mx_L_law φ (pc + 1) (lvs i) (vv_I 0 :: st) δ Q := go_if_eq hdg2 ht go_i0 (fun _ => kk) (fun h => absurd rfl h)
  refine go_step (fun p l e R s m args below meth c Z H locs ls B hS hl hW w => W.lcmp B.1 B.2.1 hdg (by
    have e : lg_cmp (Int64.ofInt x) (Int64.ofInt x) = Int32.ofInt 0 := by
      unfold lg_cmp
      simp
    rw [e]
    exact w)) k2
theorem go_lV0 {M' : go_M} {o idx ci : Nat} (hs : go_SV mx_L_law.1.cls idx ci M' 0) (ha : go_kd o = ci ∧ o < 136) (hdg : decode (go_cc mx_L_law) pc = .ok (.invokevirtual idx, 3)) (hlen : go_wd (vv_A o :: []) ≤ M'.2.2.1) (hr : go_wd st ≤ 8) (k : Go E d (0, 0) M' go_φ 0 (go_ar 0 (vv_A o :: [])) [] δ (fun v φ' δ' => Go E (d + 1) lw_mm mx_L_law (φ'.1, φ'.2.1, 136, 53362) (pc + 3) (lvs i) (go_ap v st) δ' Q)) : Go E (d + 1) lw_mm mx_L_law lw_φ pc (lvs i) (vv_A o :: st) δ Q :=
  go_callV (φ := lw_φ) (mc := (0, 0)) (rest := st) (As := []) hs ha hdg rfl hlen hr (Nat.le_refl _) (Nat.le_refl _) k
theorem go_lV1 {a1 : Int} {M' : go_M} {o idx ci : Nat} (hs : go_SV mx_L_law.1.cls idx ci M' 1) (ha : go_kd o = ci ∧ o < 136) (hdg : decode (go_cc mx_L_law) pc = .ok (.invokevirtual idx, 3)) (hlen : go_wd (vv_A o :: [vv_I a1]) ≤ M'.2.2.1) (hr : go_wd st ≤ 8) (k : Go E d (0, 0) M' go_φ 0 (go_ar 0 (vv_A o :: [vv_I a1])) [] δ (fun v φ' δ' => Go E (d + 1) lw_mm mx_L_law (φ'.1, φ'.2.1, 136, 53362) (pc + 3) (lvs i) (go_ap v st) δ' Q)) : Go E (d + 1) lw_mm mx_L_law lw_φ pc (lvs i) (vv_I a1 :: vv_A o :: st) δ Q :=
  go_callV (φ := lw_φ) (mc := (0, 0)) (rest := st) (As := [vv_I a1]) hs ha hdg rfl hlen hr (Nat.le_refl _) (Nat.le_refl _) k
theorem go_lV2 {a1 a2 : Int} {M' : go_M} {o idx ci : Nat} (hs : go_SV mx_L_law.1.cls idx ci M' 2) (ha : go_kd o = ci ∧ o < 136) (hdg : decode (go_cc mx_L_law) pc = .ok (.invokevirtual idx, 3)) (hlen : go_wd (vv_A o :: [vv_I a1, vv_I a2]) ≤ M'.2.2.1) (hr : go_wd st ≤ 8) (k : Go E d (0, 0) M' go_φ 0 (go_ar 0 (vv_A o :: [vv_I a1, vv_I a2])) [] δ (fun v φ' δ' => Go E (d + 1) lw_mm mx_L_law (φ'.1, φ'.2.1, 136, 53362) (pc + 3) (lvs i) (go_ap v st) δ' Q)) : Go E (d + 1) lw_mm mx_L_law lw_φ pc (lvs i) (vv_I a2 :: vv_I a1 :: vv_A o :: st) δ Q :=
  go_callV (φ := lw_φ) (mc := (0, 0)) (rest := st) (As := [vv_I a1, vv_I a2]) hs ha hdg rfl hlen hr (Nat.le_refl _) (Nat.le_refl _) k
theorem go_lV3 {a1 a2 a3 : Int} {M' : go_M} {o idx ci : Nat} (hs : go_SV mx_L_law.1.cls idx ci M' 3) (ha : go_kd o = ci ∧ o < 136) (hdg : decode (go_cc mx_L_law) pc = .ok (.invokevirtual idx, 3)) (hlen : go_wd (vv_A o :: [vv_I a1, vv_I a2, vv_I a3]) ≤ M'.2.2.1) (hr : go_wd st ≤ 8) (k : Go E d (0, 0) M' go_φ 0 (go_ar 0 (vv_A o :: [vv_I a1, vv_I a2, vv_I a3])) [] δ (fun v φ' δ' => Go E (d + 1) lw_mm mx_L_law (φ'.1, φ'.2.1, 136, 53362) (pc + 3) (lvs i) (go_ap v st) δ' Q)) : Go E (d + 1) lw_mm mx_L_law lw_φ pc (lvs i) (vv_I a3 :: vv_I a2 :: vv_I a1 :: vv_A o :: st) δ Q :=
  go_callV (φ := lw_φ) (mc := (0, 0)) (rest := st) (As := [vv_I a1, vv_I a2, vv_I a3]) hs ha hdg rfl hlen hr (Nat.le_refl _) (Nat.le_refl _) k
theorem go_lV4 {a1 a2 a3 a4 : Int} {M' : go_M} {o idx ci : Nat} (hs : go_SV mx_L_law.1.cls idx ci M' 4) (ha : go_kd o = ci ∧ o < 136) (hdg : decode (go_cc mx_L_law) pc = .ok (.invokevirtual idx, 3)) (hlen : go_wd (vv_A o :: [vv_I a1, vv_I a2, vv_I a3, vv_I a4]) ≤ M'.2.2.1) (hr : go_wd st ≤ 8) (k : Go E d (0, 0) M' go_φ 0 (go_ar 0 (vv_A o :: [vv_I a1, vv_I a2, vv_I a3, vv_I a4])) [] δ (fun v φ' δ' => Go E (d + 1) lw_mm mx_L_law (φ'.1, φ'.2.1, 136, 53362) (pc + 3) (lvs i) (go_ap v st) δ' Q)) : Go E (d + 1) lw_mm mx_L_law lw_φ pc (lvs i) (vv_I a4 :: vv_I a3 :: vv_I a2 :: vv_I a1 :: vv_A o :: st) δ Q :=
  go_callV (φ := lw_φ) (mc := (0, 0)) (rest := st) (As := [vv_I a1, vv_I a2, vv_I a3, vv_I a4]) hs ha hdg rfl hlen hr (Nat.le_refl _) (Nat.le_refl _) k
theorem go_lV5 {a1 a2 a3 a4 a5 : Int} {M' : go_M} {o idx ci : Nat} (hs : go_SV mx_L_law.1.cls idx ci M' 5) (ha : go_kd o = ci ∧ o < 136) (hdg : decode (go_cc mx_L_law) pc = .ok (.invokevirtual idx, 3)) (hlen : go_wd (vv_A o :: [vv_I a1, vv_I a2, vv_I a3, vv_I a4, vv_I a5]) ≤ M'.2.2.1) (hr : go_wd st ≤ 8) (k : Go E d (0, 0) M' go_φ 0 (go_ar 0 (vv_A o :: [vv_I a1, vv_I a2, vv_I a3, vv_I a4, vv_I a5])) [] δ (fun v φ' δ' => Go E (d + 1) lw_mm mx_L_law (φ'.1, φ'.2.1, 136, 53362) (pc + 3) (lvs i) (go_ap v st) δ' Q)) : Go E (d + 1) lw_mm mx_L_law lw_φ pc (lvs i) (vv_I a5 :: vv_I a4 :: vv_I a3 :: vv_I a2 :: vv_I a1 :: vv_A o :: st) δ Q :=
  go_callV (φ := lw_φ) (mc := (0, 0)) (rest := st) (As := [vv_I a1, vv_I a2, vv_I a3, vv_I a4, vv_I a5]) hs ha hdg rfl hlen hr (Nat.le_refl _) (Nat.le_refl _) k
/-- every number of 6 bits -/
theorem bv_and63 (x : Int) : ∃ k : Nat, k < 64 ∧ bv_and x 63 = (k : Int) := by
  refine ⟨(BitVec.ofInt 32 x).toNat % 64, Nat.mod_lt _ (by decide), ?_⟩
  unfold bv_and
  have e : Int32.ofInt x &&& Int32.ofInt 63 = Int32.ofBitVec (BitVec.ofInt 32 x &&& BitVec.ofNat 32 63) := rfl
  have e2 : (BitVec.ofInt 32 x &&& BitVec.ofNat 32 63).toNat = (BitVec.ofInt 32 x).toNat % 64 := by
    rw [BitVec.toNat_and]
    show (BitVec.ofInt 32 x).toNat &&& 63 = _
    exact Nat.and_two_pow_sub_one_eq_mod _ 6
  rw [e, bt_i32 _ (by rw [e2]; omega), e2]
end GLROW
