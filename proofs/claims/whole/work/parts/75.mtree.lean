/-! the reference: the tree of a number -/
def wsx (δ : Nat → Nat → Int) : List tI → Prop
  | [] => True
  | it :: s => (δ 120 (5 * s.length) = (it.1 : Int) ∧ δ 120 (5 * s.length + 1) = (it.2.1 : Int) ∧ δ 120 (5 * s.length + 2) = (it.2.2.1 : Int) ∧ δ 120 (5 * s.length + 3) = (it.2.2.2.1 : Int) ∧ δ 120 (5 * s.length + 4) = it.2.2.2.2.1 ∧ δ 123 s.length = (it.2.2.2.2.2 : Int)) ∧ wsx δ s
def ws_at (δ : Nat → Nat → Int) (s : List tI) : Prop := δ 94 36 = (s.length : Int) ∧ wsx δ s
theorem wsx_fr {δ δ' : Nat → Nat → Int} {s : List tI} (h : wsx δ s) (f : ∀ c j, (c = 120 ∧ j < 5 * s.length) ∨ (c = 123 ∧ j < s.length) → δ' c j = δ c j) : wsx δ' s := by
  induction s with
  | nil => trivial
  | cons it s ih =>
    obtain ⟨⟨h1, h2, h3, h4, h5, h6⟩, h7⟩ := h
    rw [List.length_cons] at f
    exact ⟨⟨by rw [f _ _ (by omega)]; exact h1, by rw [f _ _ (by omega)]; exact h2, by rw [f _ _ (by omega)]; exact h3, by rw [f _ _ (by omega)]; exact h4, by rw [f _ _ (by omega)]; exact h5, by rw [f _ _ (by omega)]; exact h6⟩, ih h7 (fun c j hc => f c j (by omega))⟩
def nr_at (δ : Nat → Nat → Int) (ns : List tN) : Prop := δ 94 35 = (ns.length : Int) ∧ ∀ k (h : k < ns.length), δ 115 k = (ns[k].1 : Int) ∧ δ 116 k = (ns[k].2.1 : Int) ∧ δ 117 k = (ns[k].2.2.1 : Int) ∧ δ 118 k = ns[k].2.2.2.1 ∧ δ 119 k = ns[k].2.2.2.2
theorem nr_fr {δ δ' : Nat → Nat → Int} {ns : List tN} (h : nr_at δ ns) (f : ∀ c j, (115 ≤ c ∧ c ≤ 119) ∨ (c = 94 ∧ j = 35) → δ' c j = δ c j) : nr_at δ' ns :=
  ⟨by rw [f _ _ (by omega)]; exact h.1, fun k hk => by rw [f _ _ (by omega), f _ _ (by omega), f _ _ (by omega), f _ _ (by omega), f _ _ (by omega)]; exact h.2 k hk⟩
def tcP (c q : Nat) : Prop := (112 ≤ c ∧ c ≤ 123) ∨ (c = 94 ∧ (q = 35 ∨ q = 36 ∨ q = 37))
section GMTE
variable {E : go_E} {d : Nat} {δ : Nat → Nat → Int} {Q : List go_V → go_F → (Nat → Nat → Int) → Prop} {K : sK} {S : sS}
theorem m_waits {s : List tI} {x i j b num : Nat} {up : Int} (h : ws_at δ s) (hl : s.length ≤ 79) (hn : δ 123 s.length = (num : Int))
    (hQ : ∀ δ', ws_at δ' ((x, i, j, b, up, num) :: s) → (∀ c q, c ≠ 120 → (c = 94 → q ≠ 36) → δ' c q = δ c q) → Q [] go_φ δ') :
    Go E d (0, 0) mx_X12_waits go_φ 0 [(0, vv_A 94), (1, vv_I (x : Int)), (2, vv_I (i : Int)), (3, vv_I (j : Int)), (4, vv_I (b : Int)), (5, vv_I up)] [] δ Q := by
  have l120 : go_ln 120 = 400 := rfl
  obtain ⟨h1, h2⟩ := h
  refine go_aload_n (i := 0) dx_X12_waits_0 rfl rfl ?_
  refine go_getA (b := 120) fs_X12_91 rfl (go_ok rfl rfl) rfl dx_X12_waits_1 ?_
  refine go_iconst dx_X12_waits_4 ?_
  refine go_aload_n (i := 0) dx_X12_waits_5 rfl rfl ?_
  refine go_getI fs_X12_325 (Or.inl rfl) (go_ok rfl rfl) dx_X12_waits_6 ?_
  refine go_asI (y := (s.length : Int)) (by exact h1) ?_
  refine go_imul dx_X12_waits_9 ?_
  refine go_iload_n (i := 1) dx_X12_waits_10 rfl rfl ?_
  refine go_iastoreV (i := 5 * s.length) dx_X12_waits_11 (go_ok rfl rfl) (by omega) (show 5 * s.length < 400 by omega) ?_
  refine go_aload_n (i := 0) dx_X12_waits_12 rfl rfl ?_
  refine go_getA (b := 120) fs_X12_91 rfl (go_ok rfl rfl) rfl dx_X12_waits_13 ?_
  refine go_iconst dx_X12_waits_16 ?_
  refine go_aload_n (i := 0) dx_X12_waits_17 rfl rfl ?_
  refine go_getI fs_X12_325 (Or.inl rfl) (go_ok rfl rfl) dx_X12_waits_18 ?_
  refine go_asI (y := (s.length : Int)) (by rw [wr_n (by omega)]; exact h1) ?_
  refine go_imul dx_X12_waits_21 ?_
  refine go_iconst dx_X12_waits_22 ?_
  refine go_iadd dx_X12_waits_23 ?_
  refine go_iload_n (i := 2) dx_X12_waits_24 rfl rfl ?_
  refine go_iastoreV (i := 5 * s.length + 1) dx_X12_waits_25 (go_ok rfl rfl) (by omega) (show 5 * s.length + 1 < 400 by omega) ?_
  refine go_aload_n (i := 0) dx_X12_waits_26 rfl rfl ?_
  refine go_getA (b := 120) fs_X12_91 rfl (go_ok rfl rfl) rfl dx_X12_waits_27 ?_
  refine go_iconst dx_X12_waits_30 ?_
  refine go_aload_n (i := 0) dx_X12_waits_31 rfl rfl ?_
  refine go_getI fs_X12_325 (Or.inl rfl) (go_ok rfl rfl) dx_X12_waits_32 ?_
  refine go_asI (y := (s.length : Int)) (by rw [wr_n (by omega), wr_n (by omega)]; exact h1) ?_
  refine go_imul dx_X12_waits_35 ?_
  refine go_iconst dx_X12_waits_36 ?_
  refine go_iadd dx_X12_waits_37 ?_
  refine go_iload_n (i := 3) dx_X12_waits_38 rfl rfl ?_
  refine go_iastoreV (i := 5 * s.length + 2) dx_X12_waits_39 (go_ok rfl rfl) (by omega) (show 5 * s.length + 2 < 400 by omega) ?_
  refine go_aload_n (i := 0) dx_X12_waits_40 rfl rfl ?_
  refine go_getA (b := 120) fs_X12_91 rfl (go_ok rfl rfl) rfl dx_X12_waits_41 ?_
  refine go_iconst dx_X12_waits_44 ?_
  refine go_aload_n (i := 0) dx_X12_waits_45 rfl rfl ?_
  refine go_getI fs_X12_325 (Or.inl rfl) (go_ok rfl rfl) dx_X12_waits_46 ?_
  refine go_asI (y := (s.length : Int)) (by rw [wr_n (by omega), wr_n (by omega), wr_n (by omega)]; exact h1) ?_
  refine go_imul dx_X12_waits_49 ?_
  refine go_iconst dx_X12_waits_50 ?_
  refine go_iadd dx_X12_waits_51 ?_
  refine go_iload dx_X12_waits_52 rfl ?_
  refine go_iastoreV (i := 5 * s.length + 3) dx_X12_waits_54 (go_ok rfl rfl) (by omega) (show 5 * s.length + 3 < 400 by omega) ?_
  refine go_aload_n (i := 0) dx_X12_waits_55 rfl rfl ?_
  refine go_getA (b := 120) fs_X12_91 rfl (go_ok rfl rfl) rfl dx_X12_waits_56 ?_
  refine go_iconst dx_X12_waits_59 ?_
  refine go_aload_n (i := 0) dx_X12_waits_60 rfl rfl ?_
  refine go_getI fs_X12_325 (Or.inl rfl) (go_ok rfl rfl) dx_X12_waits_61 ?_
  refine go_asI (y := (s.length : Int)) (by rw [wr_n (by omega), wr_n (by omega), wr_n (by omega), wr_n (by omega)]; exact h1) ?_
  refine go_imul dx_X12_waits_64 ?_
  refine go_iconst dx_X12_waits_65 ?_
  refine go_iadd dx_X12_waits_66 ?_
  refine go_iload dx_X12_waits_67 rfl ?_
  refine go_iastoreV (i := 5 * s.length + 4) dx_X12_waits_69 (go_ok rfl rfl) (by omega) (show 5 * s.length + 4 < 400 by omega) ?_
  refine go_aload_n (i := 0) dx_X12_waits_70 rfl rfl ?_
  refine go_dup dx_X12_waits_71 rfl ?_
  refine go_getI fs_X12_325 (Or.inl rfl) (go_ok rfl rfl) dx_X12_waits_72 ?_
  refine go_asI (y := (s.length : Int)) (by rw [wr_n (by omega), wr_n (by omega), wr_n (by omega), wr_n (by omega), wr_n (by omega)]; exact h1) ?_
  refine go_iconst dx_X12_waits_75 ?_
  refine go_iadd dx_X12_waits_76 ?_
  refine go_putI fp_X12_325 rfl rfl (go_ok rfl rfl) dx_X12_waits_77 ?_
  refine go_vreturn dx_X12_waits_80 rfl (Nat.le_refl _) (Nat.le_refl _) ?_
  refine hQ _ ⟨by rw [wr_eq]; rfl, ⟨?_, ?_, ?_, ?_, ?_, ?_⟩, wsx_fr h2 (fun c q hc => by rw [wr_n (by omega), wr_n (by omega), wr_n (by omega), wr_n (by omega), wr_n (by omega), wr_n (by omega)])⟩ (fun c q a b => by rw [wr_n b, wr_n (by omega), wr_n (by omega), wr_n (by omega), wr_n (by omega), wr_n (by omega)])
  · rw [wr_n (by omega), wr_n (by omega), wr_n (by omega), wr_n (by omega), wr_n (by omega), wr_eq]
  · rw [wr_n (by omega), wr_n (by omega), wr_n (by omega), wr_n (by omega), wr_eq]
  · rw [wr_n (by omega), wr_n (by omega), wr_n (by omega), wr_eq]
  · rw [wr_n (by omega), wr_n (by omega), wr_eq]
  · rw [wr_n (by omega), wr_eq]
  · rw [wr_n (by omega), wr_n (by omega), wr_n (by omega), wr_n (by omega), wr_n (by omega), wr_n (by omega)]; exact hn
theorem nr_push {ns : List tN} {nd : tN} {δ δ' : Nat → Nat → Int} (h : nr_at δ ns) (h35 : δ' 94 35 = (ns.length : Int) + 1) (h1 : δ' 115 ns.length = (nd.1 : Int)) (h2 : δ' 116 ns.length = (nd.2.1 : Int)) (h3 : δ' 117 ns.length = (nd.2.2.1 : Int)) (h4 : δ' 118 ns.length = nd.2.2.2.1) (h5 : δ' 119 ns.length = nd.2.2.2.2)
    (f : ∀ c q, (115 ≤ c ∧ c ≤ 119) → q ≠ ns.length → δ' c q = δ c q) : nr_at δ' (ns ++ [nd]) := by
  refine ⟨by rw [h35, List.length_append, List.length_singleton]; omega, fun k hk => ?_⟩
  rw [List.length_append, List.length_singleton] at hk
  by_cases q : k = ns.length
  · subst q
    have e : (ns ++ [nd])[ns.length]'(by rw [List.length_append, List.length_singleton]; omega) = nd := by simp
    rw [e]
    exact ⟨h1, h2, h3, h4, h5⟩
  · have e : (ns ++ [nd])[k]'(by rw [List.length_append, List.length_singleton]; omega) = ns[k]'(by omega) := List.getElem_append_left (by omega)
    rw [e, f _ _ (by omega) q, f _ _ (by omega) q, f _ _ (by omega) q, f _ _ (by omega) q, f _ _ (by omega) q]
    exact h.2 k (by omega)
/-- the parts of a rule come to wait -/
theorem m_laysParts {it : tI} {s : List tI} {ns : List tN} {m : Nat} (h : mb_at δ K) (hit : it_ok K.1 (plw K.2.2) K.2.2.length ns.length it) (hs : ws_at δ s) (hsl : s.length ≤ 13)
    (h2 : (K.1 (lrl K.1 (plw K.2.2) it)).length = 2 → δ 121 0 = (it.2.1 : Int) ∧ δ 121 1 = (it.2.2.1 : Int) ∧ δ 122 0 = (lnm K.1 (plw K.2.2) it : Int))
    (h3 : (K.1 (lrl K.1 (plw K.2.2) it)).length ≠ 2 → en_at δ K ((K.1 (lrl K.1 (plw K.2.2) it)).drop 1) it.2.1 it.2.2.1 (lnm K.1 (plw K.2.2) it) ((K.1 (lrl K.1 (plw K.2.2) it)).length - 1) ∧ ∀ k, k + 1 < (K.1 (lrl K.1 (plw K.2.2) it)).length → δ 122 k = ((dgt K.1 (plw K.2.2) ((K.1 (lrl K.1 (plw K.2.2) it)).drop 1) it.2.1 it.2.2.1 (lnm K.1 (plw K.2.2) it) k : Nat) : Int))
    (hQ : ∀ δ', ws_at δ' (lch2 K.1 (plw K.2.2) it ns.length ++ s) → (∀ c q, c ≠ 120 → c ≠ 123 → (c = 94 → q ≠ 36) → δ' c q = δ c q) → Go E (d + 5) (0, 0) mx_X12_laysTree go_φ 47 [(0, vv_A 94), (1, vv_L (m : Int))] [] δ' Q) :
    Go E (d + 5) (0, 0) mx_X12_laysTree go_φ 337 [(0, vv_A 94), (1, vv_L (m : Int)), (3, vv_I (it.1 : Int)), (4, vv_I (it.2.1 : Int)), (5, vv_I (it.2.2.1 : Int)), (6, vv_I ((it.2.2.2.1 ||| 2 ^ it.1 : Nat) : Int)), (7, vv_I it.2.2.2.2.1), (8, vv_I (lrl K.1 (plw K.2.2) it : Int)), (9, vv_I (ns.length : Int))] [] δ Q := by
  have hR := h.1.1
  have h5 := h.2.2.2.2
  have hd : dstn K.1 := h5.2.2.1
  have h14 := h5.2.2.2.2.1
  have l121 : go_ln 121 = 6 := rfl
  have l122 : go_ln 122 = 5 := rfl
  have l123 : go_ln 123 = 80 := rfl
  obtain ⟨r1, r2, r3, r4, r5, r6⟩ := lrl_spec hR hd hit
  obtain ⟨t1, t2, t3, t4, t5, t6, t7, t8, t9⟩ := id hit
  obtain ⟨r, hr⟩ : ∃ r, lrl K.1 (plw K.2.2) it = r := ⟨_, rfl⟩
  obtain ⟨num, hnum⟩ : ∃ r, lnm K.1 (plw K.2.2) it = r := ⟨_, rfl⟩
  unfold lch2 at hQ
  rw [hr] at r1 r2 r3 r4 r5 h2 h3 hQ ⊢
  rw [hnum] at r4 r6 h2 h3 hQ
  obtain ⟨x, i, j, b, up, nm⟩ := it
  dsimp only at r1 r2 r3 r4 r5 r6 t1 t2 t3 t4 t5 t6 t7 t8 t9 h2 h3 hQ ⊢
  have hl2 : 2 ≤ (K.1 r).length := by
    rcases hR r with q | q
    · exact absurd q r2
    · exact q.1
  have hl6 := (hR r).len
  have hS8 : b ||| 2 ^ x < 256 := Nat.or_lt_two_pow (n := 8) t4 (Nat.pow_lt_pow_right (by decide) t1)
  unfold wrr at r4 r5
  rw [nif_t ⟨r3, hl2⟩] at r4 r5
  have h35 : m = m := rfl
  by_cases e2 : (K.1 r).length = 2
  · obtain ⟨g1, g2, g3⟩ := h2 e2
    rw [if_pos e2] at hQ
    have h1d := rl_getD_lt (hR r) (k := 1) (by omega)
    obtain ⟨p, hp⟩ : ∃ p, p = (K.1 r).getD 1 0 := ⟨_, rfl⟩
    rw [← hp] at hQ h1d
    refine go_aload_n (i := 0) dx_X12_laysTree_337 rfl rfl ?_
    refine go_iload dx_X12_laysTree_338 rfl ?_
    refine go_cV1 sv_X12_148 (go_ok rfl rfl) dx_X12_laysTree_340 (Nat.le_of_ble_eq_true rfl) (Nat.le_of_ble_eq_true rfl) (o_longOf h.1 r1 ?_)
    refine go_iconst dx_X12_laysTree_343 ?_
    refine go_isub dx_X12_laysTree_344 ?_
    refine go_asI (y := ((0 : Nat) : Int)) (by omega) ?_
    refine go_istore (lv' := [(0, vv_A 94), (1, vv_L (m : Int)), (3, vv_I (x : Int)), (4, vv_I (i : Int)), (5, vv_I (j : Int)), (6, vv_I ((b ||| 2 ^ x : Nat) : Int)), (7, vv_I up), (8, vv_I (r : Int)), (9, vv_I (ns.length : Int)), (10, vv_I ((0 : Nat) : Int))]) dx_X12_laysTree_345 (by decide) rfl ?_
    refine go_iload dx_X12_laysTree_347 rfl ?_
    refine go_if_lt (tgt := 437) dx_X12_laysTree_349 rfl (by omega) (fun c349 => by exact absurd c349 (by omega)) (fun c349 => ?_)
    refine go_aload_n (i := 0) dx_X12_laysTree_352 rfl rfl ?_
    refine go_iload dx_X12_laysTree_353 rfl ?_
    refine go_iload dx_X12_laysTree_355 rfl ?_
    refine go_cV2 sv_X12_190 (go_ok rfl rfl) dx_X12_laysTree_357 (Nat.le_of_ble_eq_true rfl) (Nat.le_of_ble_eq_true rfl) (o_partOf h.1 r1 (by omega) ?_)
    refine go_asI (y := (p : Int)) (by rw [hp]) ?_
    refine go_cS1 ss_X12_212 dx_X12_laysTree_360 (Nat.le_of_ble_eq_true rfl) (Nat.le_of_ble_eq_true rfl) (m_isSymbol (by omega) (fun a1 a2 => ?_) (fun b1 => ?_))
    · refine go_if_ne (tgt := 369) dx_X12_laysTree_363 rfl (by omega) (fun c363 => ?_) (fun c363 => absurd c363 (by decide))
      refine go_aload_n (i := 0) dx_X12_laysTree_369 rfl rfl ?_
      refine go_getA (b := 123) fs_X12_100 rfl (go_ok rfl rfl) rfl dx_X12_laysTree_370 ?_
      refine go_aload_n (i := 0) dx_X12_laysTree_373 rfl rfl ?_
      refine go_getI fs_X12_325 (Or.inl rfl) (go_ok rfl rfl) dx_X12_laysTree_374 ?_
      refine go_asI (y := (s.length : Int)) (by exact hs.1) ?_
      refine go_aload_n (i := 0) dx_X12_laysTree_377 rfl rfl ?_
      refine go_getA (b := 122) fs_X12_97 rfl (go_ok rfl rfl) rfl dx_X12_laysTree_378 ?_
      refine go_iload dx_X12_laysTree_381 rfl ?_
      refine go_laloadV (i := 0) (v := ((num : Int))) dx_X12_laysTree_383 (go_ok rfl rfl) (by omega) (show 0 < 5 by omega) (by exact g3) ?_
      refine go_lastoreV (i := s.length) dx_X12_laysTree_384 (go_ok rfl rfl) (by omega) (show s.length < 80 by omega) ?_
      refine go_aload_n (i := 0) dx_X12_laysTree_385 rfl rfl ?_
      refine go_aload_n (i := 0) dx_X12_laysTree_386 rfl rfl ?_
      refine go_iload dx_X12_laysTree_387 rfl ?_
      refine go_iload dx_X12_laysTree_389 rfl ?_
      refine go_cV2 sv_X12_190 (go_ok rfl rfl) dx_X12_laysTree_391 (Nat.le_of_ble_eq_true rfl) (Nat.le_of_ble_eq_true rfl) (o_partOf (bo_fr h.1 (fun q _ => wr_n (by omega))) r1 (by omega) ?_)
      refine go_asI (y := (p : Int)) (by rw [hp]) ?_
      refine go_aload_n (i := 0) dx_X12_laysTree_394 rfl rfl ?_
      refine go_getA (b := 121) fs_X12_94 rfl (go_ok rfl rfl) rfl dx_X12_laysTree_395 ?_
      refine go_iload dx_X12_laysTree_398 rfl ?_
      refine go_ialoadV (i := 0) (v := ((i : Int))) dx_X12_laysTree_400 (go_ok rfl rfl) (by omega) (show 0 < 6 by omega) (by rw [wr_n (by omega)]; exact g1) ?_
      refine go_aload_n (i := 0) dx_X12_laysTree_401 rfl rfl ?_
      refine go_getA (b := 121) fs_X12_94 rfl (go_ok rfl rfl) rfl dx_X12_laysTree_402 ?_
      refine go_iload dx_X12_laysTree_405 rfl ?_
      refine go_iconst dx_X12_laysTree_407 ?_
      refine go_iadd dx_X12_laysTree_408 ?_
      refine go_ialoadV (i := 1) (v := ((j : Int))) dx_X12_laysTree_409 (go_ok rfl rfl) (by omega) (show 1 < 6 by omega) (by rw [wr_n (by omega)]; exact g2) ?_
      refine go_aload_n (i := 0) dx_X12_laysTree_410 rfl rfl ?_
      refine go_iload dx_X12_laysTree_411 rfl ?_
      refine go_cV1 sv_X12_148 (go_ok rfl rfl) dx_X12_laysTree_413 (Nat.le_of_ble_eq_true rfl) (Nat.le_of_ble_eq_true rfl) (o_longOf (bo_fr h.1 (fun q _ => wr_n (by omega))) r1 ?_)
      refine go_iconst dx_X12_laysTree_416 ?_
      refine go_icmp_ne (tgt := 425) dx_X12_laysTree_417 rfl (by omega) (by omega) (fun c417 => by exact absurd (show (((K.1 r).length - 1 : Nat) : Int) = 1 by omega) c417) (fun c417 => ?_)
      refine go_iload dx_X12_laysTree_420 rfl ?_
      refine go_goto (tgt := 426) dx_X12_laysTree_422 rfl ?_
      refine go_iload dx_X12_laysTree_426 rfl ?_
      refine go_cV5 sv_X12_339 (go_ok rfl rfl) dx_X12_laysTree_428 (Nat.le_of_ble_eq_true rfl) (Nat.le_of_ble_eq_true rfl) (m_waits (s := s) (num := num) ⟨by rw [wr_n (by omega)]; exact hs.1, wsx_fr hs.2 (fun c q hc => by rw [wr_n (by omega)])⟩ (by omega) (wr_eq _ _ _ _) (fun δ1 q1 f1 => ?_))
      refine go_iinc (lv' := [(0, vv_A 94), (1, vv_L (m : Int)), (3, vv_I (x : Int)), (4, vv_I (i : Int)), (5, vv_I (j : Int)), (6, vv_I ((b ||| 2 ^ x : Nat) : Int)), (7, vv_I up), (8, vv_I (r : Int)), (9, vv_I (ns.length : Int)), (10, vv_I (((0 : Nat) : Int) + (-1)))]) dx_X12_laysTree_431 rfl (by decide) rfl ?_
      refine go_goto (tgt := 347) dx_X12_laysTree_434 rfl ?_
      rw [if_pos (by omega)] at hQ
      refine go_iload dx_X12_laysTree_347 rfl ?_
      refine go_if_lt (tgt := 437) dx_X12_laysTree_349 rfl (by omega) (fun c349 => ?_) (fun c349 => by exact absurd c349 (by omega))
      refine go_goto (tgt := 47) dx_X12_laysTree_437 rfl ?_
      refine go_keep [0, 1] rfl ?_
      exact hQ δ1 q1 (fun c q a b e => by rw [f1 c q a e, wr_n (by omega)])
    · refine go_if_ne (tgt := 369) dx_X12_laysTree_363 rfl (by omega) (fun c363 => absurd c363 (by decide)) (fun c363 => ?_)
      refine go_goto (tgt := 431) dx_X12_laysTree_366 rfl ?_
      refine go_iinc (lv' := [(0, vv_A 94), (1, vv_L (m : Int)), (3, vv_I (x : Int)), (4, vv_I (i : Int)), (5, vv_I (j : Int)), (6, vv_I ((b ||| 2 ^ x : Nat) : Int)), (7, vv_I up), (8, vv_I (r : Int)), (9, vv_I (ns.length : Int)), (10, vv_I (((0 : Nat) : Int) + (-1)))]) dx_X12_laysTree_431 rfl (by decide) rfl ?_
      refine go_goto (tgt := 347) dx_X12_laysTree_434 rfl ?_
      rw [if_neg (by omega)] at hQ
      refine go_iload dx_X12_laysTree_347 rfl ?_
      refine go_if_lt (tgt := 437) dx_X12_laysTree_349 rfl (by omega) (fun c349 => ?_) (fun c349 => by exact absurd c349 (by omega))
      refine go_goto (tgt := 47) dx_X12_laysTree_437 rfl ?_
      refine go_keep [0, 1] rfl ?_
      exact hQ δ hs (fun _ _ _ _ _ => rfl)
  · obtain ⟨g1, g2⟩ := h3 e2
    rw [if_neg e2] at hQ
    rw [if_neg (fun w => e2 w.1)] at r4 r5
    obtain ⟨ps, hps⟩ : ∃ ps, (K.1 r).drop 1 = ps := ⟨_, rfl⟩
    have hpl : ps.length = (K.1 r).length - 1 := by rw [← hps, List.length_drop]
    rw [hps] at r4 r5 g1 g2 hQ
    rw [← hpl] at g1 hQ
    have hpg : ∀ k, ps.getD k 0 = (K.1 r).getD (k + 1) 0 := fun k => by rw [← hps]; simp only [List.getD_eq_getElem?_getD, List.getElem?_drop, Nat.add_comm 1 k]
    have loop := lp_dn (X := Nat → Nat → Int) (I := fun k δ1 => k ≤ ps.length ∧ ws_at δ1 (chl K.1 (plw K.2.2) ps i j num ns.length k (ps.length - k) ++ s) ∧ (chl K.1 (plw K.2.2) ps i j num ns.length k (ps.length - k)).length ≤ ps.length - k ∧ (∀ c q, c ≠ 120 → c ≠ 123 → (c = 94 → q ≠ 36) → δ1 c q = δ c q))
      (G := fun k δ1 => Go E (d + 5) (0, 0) mx_X12_laysTree go_φ 347 [(0, vv_A 94), (1, vv_L (m : Int)), (3, vv_I (x : Int)), (4, vv_I (i : Int)), (5, vv_I (j : Int)), (6, vv_I ((b ||| 2 ^ x : Nat) : Int)), (7, vv_I up), (8, vv_I (r : Int)), (9, vv_I (ns.length : Int)), (10, vv_I ((k : Int) - 1))] [] δ1 Q) (fun k δ1 hI ih => ?_) (fun δ1 hI => ?_)
    · refine go_aload_n (i := 0) dx_X12_laysTree_337 rfl rfl ?_
      refine go_iload dx_X12_laysTree_338 rfl ?_
      refine go_cV1 sv_X12_148 (go_ok rfl rfl) dx_X12_laysTree_340 (Nat.le_of_ble_eq_true rfl) (Nat.le_of_ble_eq_true rfl) (o_longOf h.1 r1 ?_)
      refine go_asI (y := (ps.length : Int)) (by rw [hpl]) ?_
      refine go_iconst dx_X12_laysTree_343 ?_
      refine go_isub dx_X12_laysTree_344 ?_
      refine go_istore (lv' := [(0, vv_A 94), (1, vv_L (m : Int)), (3, vv_I (x : Int)), (4, vv_I (i : Int)), (5, vv_I (j : Int)), (6, vv_I ((b ||| 2 ^ x : Nat) : Int)), (7, vv_I up), (8, vv_I (r : Int)), (9, vv_I (ns.length : Int)), (10, vv_I ((ps.length : Int) - 1))]) dx_X12_laysTree_345 (by decide) rfl ?_
      exact loop ps.length δ ⟨Nat.le_refl _, by rw [Nat.sub_self]; exact hs, by rw [Nat.sub_self]; exact Nat.le_refl _, fun _ _ _ _ _ => rfl⟩
    · obtain ⟨i0, i1, i2, i3⟩ := hI
      have hk : k < ps.length := i0
      have ih2 : ∀ δ2, ws_at δ2 (chl K.1 (plw K.2.2) ps i j num ns.length k (ps.length - k) ++ s) → (chl K.1 (plw K.2.2) ps i j num ns.length k (ps.length - k)).length ≤ ps.length - k → (∀ c q, c ≠ 120 → c ≠ 123 → (c = 94 → q ≠ 36) → δ2 c q = δ c q) → Go E (d + 5) (0, 0) mx_X12_laysTree go_φ 347 [(0, vv_A 94), (1, vv_L (m : Int)), (3, vv_I (x : Int)), (4, vv_I (i : Int)), (5, vv_I (j : Int)), (6, vv_I ((b ||| 2 ^ x : Nat) : Int)), (7, vv_I up), (8, vv_I (r : Int)), (9, vv_I (ns.length : Int)), (10, vv_I ((k : Int) - 1))] [] δ2 Q := fun δ2 a b c => ih δ2 ⟨by omega, a, b, c⟩
      have hm1 : mb_at δ1 K := mb_fr h (fun c q hc => i3 c q (by omega) (by omega) (by omega))
      have h1d := rl_getD_lt (hR r) (k := k + 1) (by omega)
      have hes : ps.length - k = ps.length - (k + 1) + 1 := by omega
      have hch : chl K.1 (plw K.2.2) ps i j num ns.length k (ps.length - k) = (if ps.getD k 0 < 8 then [(ps.getD k 0, (cK K ps i j num k).1, (cK K ps i j num (k + 1)).1, 0, (ns.length : Int), dgt K.1 (plw K.2.2) ps i j num k)] else []) ++ chl K.1 (plw K.2.2) ps i j num ns.length (k + 1) (ps.length - (k + 1)) := by rw [hes]; rfl
      obtain ⟨L, hL⟩ : ∃ L, L = chl K.1 (plw K.2.2) ps i j num ns.length (k + 1) (ps.length - (k + 1)) := ⟨_, rfl⟩
      rw [← hL] at hch i1 i2
      have hll : (L ++ s).length ≤ 18 := by rw [List.length_append]; omega
      obtain ⟨p, hp⟩ : ∃ p, p = ps.getD k 0 := ⟨_, rfl⟩
      have hpr : (K.1 r).getD (k + 1) 0 = p := by rw [hp, hpg]
      rw [hpr] at h1d
      rw [← hp] at hch
      rw [show (((k + 1 : Nat) : Int) - 1) = (k : Int) by omega]
      refine go_iload dx_X12_laysTree_347 rfl ?_
      refine go_if_lt (tgt := 437) dx_X12_laysTree_349 rfl (by omega) (fun c349 => by exact absurd c349 (by omega)) (fun c349 => ?_)
      refine go_aload_n (i := 0) dx_X12_laysTree_352 rfl rfl ?_
      refine go_iload dx_X12_laysTree_353 rfl ?_
      refine go_iload dx_X12_laysTree_355 rfl ?_
      refine go_cV2 sv_X12_190 (go_ok rfl rfl) dx_X12_laysTree_357 (Nat.le_of_ble_eq_true rfl) (Nat.le_of_ble_eq_true rfl) (o_partOf hm1.1 r1 (by omega) ?_)
      refine go_asI (y := (p : Int)) (by rw [hpr]) ?_
      refine go_cS1 ss_X12_212 dx_X12_laysTree_360 (Nat.le_of_ble_eq_true rfl) (Nat.le_of_ble_eq_true rfl) (m_isSymbol (by omega) (fun a1 a2 => ?_) (fun b1 => ?_))
      · refine go_if_ne (tgt := 369) dx_X12_laysTree_363 rfl (by omega) (fun c363 => ?_) (fun c363 => absurd c363 (by decide))
        refine go_aload_n (i := 0) dx_X12_laysTree_369 rfl rfl ?_
        refine go_getA (b := 123) fs_X12_100 rfl (go_ok rfl rfl) rfl dx_X12_laysTree_370 ?_
        refine go_aload_n (i := 0) dx_X12_laysTree_373 rfl rfl ?_
        refine go_getI fs_X12_325 (Or.inl rfl) (go_ok rfl rfl) dx_X12_laysTree_374 ?_
        refine go_asI (y := ((L ++ s).length : Int)) (by exact i1.1) ?_
        refine go_aload_n (i := 0) dx_X12_laysTree_377 rfl rfl ?_
        refine go_getA (b := 122) fs_X12_97 rfl (go_ok rfl rfl) rfl dx_X12_laysTree_378 ?_
        refine go_iload dx_X12_laysTree_381 rfl ?_
        refine go_laloadV (i := k) (v := (((dgt K.1 (plw K.2.2) ps i j num k : Nat) : Int))) dx_X12_laysTree_383 (go_ok rfl rfl) (by omega) (show k < 5 by omega) (by rw [i3 _ _ (by decide) (by decide) (by omega)]; exact g2 k (by omega)) ?_
        refine go_lastoreV (i := (L ++ s).length) dx_X12_laysTree_384 (go_ok rfl rfl) (by omega) (show (L ++ s).length < 80 by omega) ?_
        refine go_aload_n (i := 0) dx_X12_laysTree_385 rfl rfl ?_
        refine go_aload_n (i := 0) dx_X12_laysTree_386 rfl rfl ?_
        refine go_iload dx_X12_laysTree_387 rfl ?_
        refine go_iload dx_X12_laysTree_389 rfl ?_
        refine go_cV2 sv_X12_190 (go_ok rfl rfl) dx_X12_laysTree_391 (Nat.le_of_ble_eq_true rfl) (Nat.le_of_ble_eq_true rfl) (o_partOf (bo_fr hm1.1 (fun q _ => wr_n (by omega))) r1 (by omega) ?_)
        refine go_asI (y := (p : Int)) (by rw [hpr]) ?_
        refine go_aload_n (i := 0) dx_X12_laysTree_394 rfl rfl ?_
        refine go_getA (b := 121) fs_X12_94 rfl (go_ok rfl rfl) rfl dx_X12_laysTree_395 ?_
        refine go_iload dx_X12_laysTree_398 rfl ?_
        refine go_ialoadV (i := k) (v := (((cK K ps i j num k).1 : Int))) dx_X12_laysTree_400 (go_ok rfl rfl) (by omega) (show k < 6 by omega) (by rw [wr_n (by omega), i3 _ _ (by decide) (by decide) (by omega)]; exact g1 k (by omega)) ?_
        refine go_aload_n (i := 0) dx_X12_laysTree_401 rfl rfl ?_
        refine go_getA (b := 121) fs_X12_94 rfl (go_ok rfl rfl) rfl dx_X12_laysTree_402 ?_
        refine go_iload dx_X12_laysTree_405 rfl ?_
        refine go_iconst dx_X12_laysTree_407 ?_
        refine go_iadd dx_X12_laysTree_408 ?_
        refine go_ialoadV (i := (k + 1)) (v := (((cK K ps i j num (k + 1)).1 : Int))) dx_X12_laysTree_409 (go_ok rfl rfl) (by omega) (show (k + 1) < 6 by omega) (by rw [wr_n (by omega), i3 _ _ (by decide) (by decide) (by omega)]; exact g1 (k + 1) (by omega)) ?_
        refine go_aload_n (i := 0) dx_X12_laysTree_410 rfl rfl ?_
        refine go_iload dx_X12_laysTree_411 rfl ?_
        refine go_cV1 sv_X12_148 (go_ok rfl rfl) dx_X12_laysTree_413 (Nat.le_of_ble_eq_true rfl) (Nat.le_of_ble_eq_true rfl) (o_longOf (bo_fr hm1.1 (fun q _ => wr_n (by omega))) r1 ?_)
        refine go_iconst dx_X12_laysTree_416 ?_
        refine go_icmp_ne (tgt := 425) dx_X12_laysTree_417 rfl (by omega) (by omega) (fun c417 => ?_) (fun c417 => by exact absurd c417 (by omega))
        refine go_iconst dx_X12_laysTree_425 ?_
        refine go_asI (y := ((0 : Nat) : Int)) (by rfl) ?_
        refine go_iload dx_X12_laysTree_426 rfl ?_
        refine go_cV5 sv_X12_339 (go_ok rfl rfl) dx_X12_laysTree_428 (Nat.le_of_ble_eq_true rfl) (Nat.le_of_ble_eq_true rfl) (m_waits (s := L ++ s) (num := dgt K.1 (plw K.2.2) ps i j num k) ⟨by rw [wr_n (by omega)]; exact i1.1, wsx_fr i1.2 (fun c q hc => by rw [wr_n (by omega)])⟩ (by omega) (wr_eq _ _ _ _) (fun δ2 q1 f2 => ?_))
        refine go_iinc (lv' := [(0, vv_A 94), (1, vv_L (m : Int)), (3, vv_I (x : Int)), (4, vv_I (i : Int)), (5, vv_I (j : Int)), (6, vv_I ((b ||| 2 ^ x : Nat) : Int)), (7, vv_I up), (8, vv_I (r : Int)), (9, vv_I (ns.length : Int)), (10, vv_I ((k : Int) + (-1)))]) dx_X12_laysTree_431 rfl (by decide) rfl ?_
        refine go_goto (tgt := 347) dx_X12_laysTree_434 rfl ?_
        refine ih2 δ2 (by rw [hch, if_pos (by omega)]; exact q1) (by rw [hch, if_pos (by omega), List.length_append, List.length_singleton]; omega) (fun c q a b e => by rw [f2 c q a e, wr_n (by omega)]; exact i3 c q a b e)
      · refine go_if_ne (tgt := 369) dx_X12_laysTree_363 rfl (by omega) (fun c363 => absurd c363 (by decide)) (fun c363 => ?_)
        refine go_goto (tgt := 431) dx_X12_laysTree_366 rfl ?_
        refine go_iinc (lv' := [(0, vv_A 94), (1, vv_L (m : Int)), (3, vv_I (x : Int)), (4, vv_I (i : Int)), (5, vv_I (j : Int)), (6, vv_I ((b ||| 2 ^ x : Nat) : Int)), (7, vv_I up), (8, vv_I (r : Int)), (9, vv_I (ns.length : Int)), (10, vv_I ((k : Int) + (-1)))]) dx_X12_laysTree_431 rfl (by decide) rfl ?_
        refine go_goto (tgt := 347) dx_X12_laysTree_434 rfl ?_
        refine ih2 δ1 (by rw [hch, if_neg (by omega)]; exact i1) (by rw [hch, if_neg (by omega)]; show L.length ≤ _; omega) i3
    · obtain ⟨i0, i1, i2, i3⟩ := hI
      refine go_iload dx_X12_laysTree_347 rfl ?_
      refine go_if_lt (tgt := 437) dx_X12_laysTree_349 rfl (by omega) (fun c349 => ?_) (fun c349 => by exact absurd c349 (by omega))
      refine go_goto (tgt := 47) dx_X12_laysTree_437 rfl ?_
      refine go_keep [0, 1] rfl ?_
      rw [Nat.sub_zero] at i1
      exact hQ δ1 i1 i3
end GMTE
