/-! the reference: the tree of a number, whole -/
section GMTF
variable {E : go_E} {d : Nat} {δ : Nat → Nat → Int} {Q : List go_V → go_F → (Nat → Nat → Int) → Prop} {K : sK} {S : sS}
theorem m_treeNode {it : tI} {s : List tI} {ns : List tN} {m : Nat} (h : mb_at δ K) (hli : li_ok K.1 (plw K.2.2) K.2.2.length ns (it :: s)) (hs : ws_at δ s) (hn : nr_at δ ns) (hnum : δ 94 37 = (it.2.2.2.2.2 : Int))
    (hQ : ∀ δ', ws_at δ' (lch2 K.1 (plw K.2.2) it ns.length ++ s) → nr_at δ' (ns ++ [lnd K.1 (plw K.2.2) ns it]) → (∀ c q, ¬ tcP c q → δ' c q = δ c q) → Go E (d + 5) (0, 0) mx_X12_laysTree go_φ 47 [(0, vv_A 94), (1, vv_L (m : Int))] [] δ' Q) :
    Go E (d + 5) (0, 0) mx_X12_laysTree go_φ 156 [(0, vv_A 94), (1, vv_L (m : Int)), (3, vv_I (it.1 : Int)), (4, vv_I (it.2.1 : Int)), (5, vv_I (it.2.2.1 : Int)), (6, vv_I ((it.2.2.2.1 ||| 2 ^ it.1 : Nat) : Int)), (7, vv_I it.2.2.2.2.1), (8, vv_I 0)] [] δ Q := by
  have hR := h.1.1
  have h5 := h.2.2.2.2
  have hd : dstn K.1 := h5.2.2.1
  have h14 := h5.2.2.2.2.1
  have hM := MX_eq
  have l115 : go_ln 115 = 240 := rfl
  have l116 : go_ln 116 = 240 := rfl
  have l117 : go_ln 117 = 240 := rfl
  have l118 : go_ln 118 = 240 := rfl
  have l119 : go_ln 119 = 240 := rfl
  have hit := hli.1 it (List.mem_cons_self ..)
  have hph := it_phi_pos hit
  have hst : ns.length + (it_phi it + st_phi s) ≤ 216 := hli.2.1
  have hlen := st_len_le hli.1
  have hsl : s.length ≤ 13 := by
    have := hli.2.2.1
    rw [List.length_cons] at hlen
    omega
  obtain ⟨t1, t2, t3, t4, t5, t6, t7, t8, t9⟩ := id hit
  obtain ⟨r1, r2, r3, r4, r5, r6⟩ := lrl_spec hR hd hit
  have hS8 : it.2.2.2.1 ||| 2 ^ it.1 < 256 := Nat.or_lt_two_pow (n := 8) t4 (Nat.pow_lt_pow_right (by decide) t1)
  have hS : (it.2.2.2.1 ||| 2 ^ it.1).testBit it.1 = true := (bt_orb _ _ _).mpr (Or.inr ((bt_one _ _).mpr rfl))
  have t6s := t6
  rw [Tw_wrr hR hd t1 hS] at t6s
  obtain ⟨x, hx⟩ : ∃ x, it.1 = x := ⟨_, rfl⟩
  obtain ⟨i, hi⟩ : ∃ x, it.2.1 = x := ⟨_, rfl⟩
  obtain ⟨j, hj⟩ : ∃ x, it.2.2.1 = x := ⟨_, rfl⟩
  obtain ⟨num, hnm⟩ : ∃ x, it.2.2.2.2.2 = x := ⟨_, rfl⟩
  obtain ⟨up, hup⟩ : ∃ x, it.2.2.2.2.1 = x := ⟨_, rfl⟩
  obtain ⟨B, hB⟩ : ∃ x, it.2.2.2.1 ||| 2 ^ it.1 = x := ⟨_, rfl⟩
  obtain ⟨f, hf⟩ : ∃ f : Nat → Nat, (fun r => wrr K.1 (plw K.2.2) B x i j (K.1 r)) = f := ⟨_, rfl⟩
  have hff : ∀ r, f r = wrr K.1 (plw K.2.2) B x i j (K.1 r) := fun r => by rw [← hf]
  have hlr : lrl K.1 (plw K.2.2) it = pickr f num := by unfold lrl; rw [hB, hx, hi, hj, hnm, hf]
  have hln : lnm K.1 (plw K.2.2) it = num - su (pickr f num) f := by unfold lnm; rw [hlr, hB, hx, hi, hj, hnm, hf]
  rw [hB, hx, hi, hj, hnm, hf] at t6s
  rw [hB] at hS8
  rw [hnm] at hnum t7
  have t1x : x < 8 := by rw [← hx]; exact t1
  have t2x : i < j := by rw [← hi, ← hj]; exact t2
  have t3x : j ≤ K.2.2.length := by rw [← hj]; exact t3
  -- behind the choice
  have tail : ∀ δ1, δ1 94 37 = (lnm K.1 (plw K.2.2) it : Int) → (∀ c q, c ≠ 112 → c ≠ 113 → c ≠ 114 → (c = 94 → q ≠ 37) → δ1 c q = δ c q) →
      Go E (d + 5) (0, 0) mx_X12_laysTree go_φ 243 [(0, vv_A 94), (1, vv_L (m : Int)), (3, vv_I (it.1 : Int)), (4, vv_I (it.2.1 : Int)), (5, vv_I (it.2.2.1 : Int)), (6, vv_I ((it.2.2.2.1 ||| 2 ^ it.1 : Nat) : Int)), (7, vv_I it.2.2.2.2.1), (8, vv_I (lrl K.1 (plw K.2.2) it : Int))] [] δ1 Q := fun δ1 h37 f1 => by
    have hm1 : mb_at δ1 K := mb_fr h (fun c q hc => f1 c q (by omega) (by omega) (by omega) (by omega))
    have hl2 : 2 ≤ (K.1 (lrl K.1 (plw K.2.2) it)).length := by
      rcases hR (lrl K.1 (plw K.2.2) it) with q | q
      · exact absurd q r2
      · exact q.1
    have hlt : (K.1 (lrl K.1 (plw K.2.2) it)).length = 2 ∨ lnm K.1 (plw K.2.2) it < fK K ((K.1 (lrl K.1 (plw K.2.2) it)).drop 1) it.2.1 it.2.2.1 := by
      by_cases e2 : (K.1 (lrl K.1 (plw K.2.2) it)).length = 2
      · exact Or.inl e2
      · refine Or.inr ?_
        unfold wrr at r4
        rw [nif_t ⟨r3, hl2⟩, if_neg (fun w => e2 w.1)] at r4
        exact r4
    have hzz : (K.1 (lrl K.1 (plw K.2.2) it)).length ≠ 2 → (lnm K.1 (plw K.2.2) it = 0 ∨ fK K ((K.1 (lrl K.1 (plw K.2.2) it)).drop 1) it.2.1 it.2.2.1 ≤ MX) := fun e2 => by
      have r5' := r5
      unfold wrr at r5'
      rw [nif_t ⟨r3, hl2⟩, if_neg (fun w => e2 w.1)] at r5'
      rcases t8 with q | q
      · exact Or.inl (by omega)
      · exact Or.inr (Nat.le_trans r5' q)
    have hn7 : lnm K.1 (plw K.2.2) it ≤ 2147483647 := by rw [hnm] at r6; omega
    have hns := hn
    refine go_aload_n (i := 0) dx_X12_laysTree_243 rfl rfl ?_
    refine go_iload dx_X12_laysTree_244 rfl ?_
    refine go_iload dx_X12_laysTree_246 rfl ?_
    refine go_iload dx_X12_laysTree_248 rfl ?_
    refine go_cV3 sv_X12_346 (go_ok rfl rfl) dx_X12_laysTree_250 (Nat.le_of_ble_eq_true rfl) (Nat.le_of_ble_eq_true rfl) (m_laysEnds hm1 r1 hl2 t2 t3 hn7 h37 hlt (fun δ2 e1 e2 f2 => ?_))
    have hm2 : mb_at δ2 K := mb_fr hm1 (fun c q hc => f2 c q (by omega) (by omega) (by omega))
    refine go_aload_n (i := 0) dx_X12_laysTree_253 rfl rfl ?_
    refine go_iload dx_X12_laysTree_254 rfl ?_
    refine go_cV1 sv_X12_349 (go_ok rfl rfl) dx_X12_laysTree_256 (Nat.le_of_ble_eq_true rfl) (Nat.le_of_ble_eq_true rfl) (m_splits hm2 r1 hl2 t2 t3 hn7 (fun q => (e1 q).2.2) (fun q => ⟨hlt.resolve_left q, hzz q, (e2 q).1, (e2 q).2⟩) (fun δ3 p1 p2 f3 => ?_))
    have hm3 : mb_at δ3 K := mb_fr hm2 (fun c q hc => f3 c q (by omega) (by omega))
    have fr3 : ∀ c q, c ≠ 112 → c ≠ 113 → c ≠ 114 → c ≠ 121 → c ≠ 122 → (c = 94 → q ≠ 37) → δ3 c q = δ c q := fun c q a1 a2 a3 a4 a5 a6 => by rw [f3 c q a5 a6, f2 c q a1 a4 a6, f1 c q a1 a2 a3 a6]
    have hn3 : nr_at δ3 ns := nr_fr hn (fun c q hc => fr3 c q (by omega) (by omega) (by omega) (by omega) (by omega) (by omega))
    have hs3 : ws_at δ3 s := ⟨by rw [fr3 _ _ (by decide) (by decide) (by decide) (by decide) (by decide) (by decide)]; exact hs.1, wsx_fr hs.2 (fun c q hc => fr3 c q (by omega) (by omega) (by omega) (by omega) (by omega) (by omega))⟩
    obtain ⟨L, hL⟩ : ∃ L, L = ns.length := ⟨_, rfl⟩
    have fin : ∀ (v : Int) δ4, v = ldp ns it.2.2.2.2.1 → δ4 = wr (wr (wr (wr δ3 115 L (lrl K.1 (plw K.2.2) it : Int)) 116 L (it.2.1 : Int)) 117 L (it.2.2.1 : Int)) 118 L it.2.2.2.2.1 →
        Go E (d + 5) (0, 0) mx_X12_laysTree go_φ 326 [(0, vv_A 94), (1, vv_L (m : Int)), (3, vv_I (it.1 : Int)), (4, vv_I (it.2.1 : Int)), (5, vv_I (it.2.2.1 : Int)), (6, vv_I ((it.2.2.2.1 ||| 2 ^ it.1 : Nat) : Int)), (7, vv_I it.2.2.2.2.1), (8, vv_I (lrl K.1 (plw K.2.2) it : Int)), (9, vv_I (L : Int))] [vv_I v, vv_I (L : Int), vv_A 119] δ4 Q := fun v δ4 hv h4 => by
      subst hv h4
      have h35 : δ3 94 35 = (L : Int) := by rw [hL]; exact hn3.1
      refine go_iastoreV (i := L) dx_X12_laysTree_326 (go_ok rfl rfl) (by omega) (show L < 240 by omega) ?_
      refine go_aload_n (i := 0) dx_X12_laysTree_327 rfl rfl ?_
      refine go_dup dx_X12_laysTree_328 rfl ?_
      refine go_getI fs_X12_336 (Or.inl rfl) (go_ok rfl rfl) dx_X12_laysTree_329 ?_
      refine go_asI (y := (L : Int)) (by rw [wr_n (by omega), wr_n (by omega), wr_n (by omega), wr_n (by omega), wr_n (by omega)]; exact h35) ?_
      refine go_iconst dx_X12_laysTree_332 ?_
      refine go_iadd dx_X12_laysTree_333 ?_
      refine go_putI fp_X12_336 rfl rfl (go_ok rfl rfl) dx_X12_laysTree_334 ?_
      rw [hL]
      have g : ∀ c q, ¬ (115 ≤ c ∧ c ≤ 119) → (c = 94 → q ≠ 35) → (wr (wr (wr (wr (wr (wr δ3 115 ns.length (lrl K.1 (plw K.2.2) it : Int)) 116 ns.length (it.2.1 : Int)) 117 ns.length (it.2.2.1 : Int)) 118 ns.length it.2.2.2.2.1) 119 ns.length (ldp ns it.2.2.2.2.1)) 94 35 ((ns.length : Int) + 1)) c q = δ3 c q := fun c q a b => by rw [wr_n (by omega), wr_n (by omega), wr_n (by omega), wr_n (by omega), wr_n (by omega), wr_n (by omega)]
      refine m_laysParts (it := it) (s := s) (ns := ns) (mb_fr hm3 (fun c q hc => g c q (by omega) (by omega))) hit ⟨by rw [g _ _ (by omega) (by omega)]; exact hs3.1, wsx_fr hs3.2 (fun c q hc => g _ _ (by omega) (by omega))⟩ hsl (fun q => ⟨by rw [g _ _ (by omega) (by omega), f3 _ _ (by decide) (by decide)]; exact (e1 q).1, by rw [g _ _ (by omega) (by omega), f3 _ _ (by decide) (by decide)]; exact (e1 q).2.1, by rw [g _ _ (by omega) (by omega)]; exact p1 q⟩) (fun q => ⟨fun t ht => by rw [g _ _ (by omega) (by omega), f3 _ _ (by decide) (by omega)]; exact (e2 q).1 t ht, fun t ht => by rw [g _ _ (by omega) (by omega)]; exact p2 q t ht⟩) (fun δ5 q1 f5 => ?_)
      refine hQ δ5 q1 (nr_fr (δ := wr (wr (wr (wr (wr (wr δ3 115 ns.length (lrl K.1 (plw K.2.2) it : Int)) 116 ns.length (it.2.1 : Int)) 117 ns.length (it.2.2.1 : Int)) 118 ns.length it.2.2.2.2.1) 119 ns.length (ldp ns it.2.2.2.2.1)) 94 35 ((ns.length : Int) + 1)) ?_ (fun c q hc => f5 c q (by omega) (by omega) (by omega))) (fun c q hc => by unfold tcP at hc; rw [f5 c q (by omega) (by omega) (by omega), g c q (by omega) (by omega)]; exact fr3 c q (by omega) (by omega) (by omega) (by omega) (by omega) (by omega))
      refine nr_push hn3 (wr_eq _ _ _ _) ?_ ?_ ?_ ?_ ?_ (fun c q a b => by rw [wr_n (by omega), wr_n (by omega), wr_n (by omega), wr_n (by omega), wr_n (by omega), wr_n (by omega)])
      · rw [wr_n (by omega), wr_n (by omega), wr_n (by omega), wr_n (by omega), wr_n (by omega), wr_eq]; rfl
      · rw [wr_n (by omega), wr_n (by omega), wr_n (by omega), wr_n (by omega), wr_eq]; rfl
      · rw [wr_n (by omega), wr_n (by omega), wr_n (by omega), wr_eq]; rfl
      · rw [wr_n (by omega), wr_n (by omega), wr_eq]; rfl
      · rw [wr_n (by omega), wr_eq]; rfl
    refine go_aload_n (i := 0) dx_X12_laysTree_259 rfl rfl ?_
    refine go_getI fs_X12_336 (Or.inl rfl) (go_ok rfl rfl) dx_X12_laysTree_260 ?_
    refine go_asI (y := (L : Int)) (by rw [hL]; exact hn3.1) ?_
    refine go_istore (lv' := [(0, vv_A 94), (1, vv_L (m : Int)), (3, vv_I (it.1 : Int)), (4, vv_I (it.2.1 : Int)), (5, vv_I (it.2.2.1 : Int)), (6, vv_I ((it.2.2.2.1 ||| 2 ^ it.1 : Nat) : Int)), (7, vv_I it.2.2.2.2.1), (8, vv_I (lrl K.1 (plw K.2.2) it : Int)), (9, vv_I (L : Int))]) dx_X12_laysTree_263 (by decide) rfl ?_
    refine go_aload_n (i := 0) dx_X12_laysTree_265 rfl rfl ?_
    refine go_getA (b := 115) fs_X12_76 rfl (go_ok rfl rfl) rfl dx_X12_laysTree_266 ?_
    refine go_iload dx_X12_laysTree_269 rfl ?_
    refine go_iload dx_X12_laysTree_271 rfl ?_
    refine go_iastoreV (i := L) dx_X12_laysTree_273 (go_ok rfl rfl) (by omega) (show L < 240 by omega) ?_
    refine go_aload_n (i := 0) dx_X12_laysTree_274 rfl rfl ?_
    refine go_getA (b := 116) fs_X12_79 rfl (go_ok rfl rfl) rfl dx_X12_laysTree_275 ?_
    refine go_iload dx_X12_laysTree_278 rfl ?_
    refine go_iload dx_X12_laysTree_280 rfl ?_
    refine go_iastoreV (i := L) dx_X12_laysTree_282 (go_ok rfl rfl) (by omega) (show L < 240 by omega) ?_
    refine go_aload_n (i := 0) dx_X12_laysTree_283 rfl rfl ?_
    refine go_getA (b := 117) fs_X12_82 rfl (go_ok rfl rfl) rfl dx_X12_laysTree_284 ?_
    refine go_iload dx_X12_laysTree_287 rfl ?_
    refine go_iload dx_X12_laysTree_289 rfl ?_
    refine go_iastoreV (i := L) dx_X12_laysTree_291 (go_ok rfl rfl) (by omega) (show L < 240 by omega) ?_
    refine go_aload_n (i := 0) dx_X12_laysTree_292 rfl rfl ?_
    refine go_getA (b := 118) fs_X12_85 rfl (go_ok rfl rfl) rfl dx_X12_laysTree_293 ?_
    refine go_iload dx_X12_laysTree_296 rfl ?_
    refine go_iload dx_X12_laysTree_298 rfl ?_
    refine go_iastoreV (i := L) dx_X12_laysTree_300 (go_ok rfl rfl) (by omega) (show L < 240 by omega) ?_
    refine go_aload_n (i := 0) dx_X12_laysTree_301 rfl rfl ?_
    refine go_getA (b := 119) fs_X12_88 rfl (go_ok rfl rfl) rfl dx_X12_laysTree_302 ?_
    refine go_iload dx_X12_laysTree_305 rfl ?_
    refine go_iload dx_X12_laysTree_307 rfl ?_
    refine go_iconst dx_X12_laysTree_309 ?_
    refine go_icmp_ne (tgt := 317) dx_X12_laysTree_310 rfl (by first | omega | (rcases t9 with w | ⟨u, w, _⟩ <;> omega)) (by first | omega | (rcases t9 with w | ⟨u, w, _⟩ <;> omega)) (fun c310 => ?_) (fun c310 => ?_)
    · obtain ⟨u, w1, w2⟩ := t9.resolve_left (by assumption)
      refine go_aload_n (i := 0) dx_X12_laysTree_317 rfl rfl ?_
      refine go_getA (b := 119) fs_X12_88 rfl (go_ok rfl rfl) rfl dx_X12_laysTree_318 ?_
      refine go_iload dx_X12_laysTree_321 rfl ?_
      refine go_ialoadV (i := u) (v := ((ns[u]'w2).2.2.2.2)) dx_X12_laysTree_323 (go_ok rfl rfl) (by omega) (show u < 240 by omega) (by rw [wr_n (by omega), wr_n (by omega), wr_n (by omega), wr_n (by omega)]; exact (hn3.2 u w2).2.2.2.2) ?_
      refine go_iconst dx_X12_laysTree_324 ?_
      refine go_iadd dx_X12_laysTree_325 ?_
      refine fin _ _ ?_ rfl
      unfold ldp
      rw [w1, if_neg (by omega), Int.toNat_natCast, List.getD_eq_getElem?_getD, List.getElem?_eq_getElem w2]
      rfl
    · refine go_iconst dx_X12_laysTree_313 ?_
      refine go_goto (tgt := 326) dx_X12_laysTree_314 rfl ?_
      refine fin _ _ ?_ rfl
      unfold ldp
      rw [if_pos (by assumption)]
  have loop := lp_up (X := Nat → Nat → Int) (hi := 16) (I := fun r δ1 => su r f ≤ num ∧ δ1 94 37 = ((num - su r f : Nat) : Int) ∧ (∀ c q, c ≠ 112 → c ≠ 113 → c ≠ 114 → (c = 94 → q ≠ 37) → δ1 c q = δ c q))
    (G := fun r δ1 => ∀ lv0, lv0 = [(0, vv_A 94), (1, vv_L (m : Int)), (3, vv_I (x : Int)), (4, vv_I (i : Int)), (5, vv_I (j : Int)), (6, vv_I (B : Int)), (7, vv_I up), (8, vv_I (r : Int))] → Go E (d + 5) (0, 0) mx_X12_laysTree go_φ 156 lv0 [] δ1 Q)
    (fun r δ1 hr hI ih lv0 e0 => by
      subst e0
      obtain ⟨i1, i2, i3⟩ := hI
      have hm1 : mb_at δ1 K := mb_fr h (fun c q hc => i3 c q (by omega) (by omega) (by omega) (by omega))
      have skip : f r = 0 → Go E (d + 5) (0, 0) mx_X12_laysTree go_φ 156 [(0, vv_A 94), (1, vv_L (m : Int)), (3, vv_I (x : Int)), (4, vv_I (i : Int)), (5, vv_I (j : Int)), (6, vv_I (B : Int)), (7, vv_I up), (8, vv_I ((r + 1 : Nat) : Int))] [] δ1 Q := fun h0 => ih δ1 ⟨by rw [su_s, h0]; omega, by rw [su_s, h0, Nat.add_zero]; exact i2, i3⟩ _ rfl
      have hl6 := (hR r).len
      by_cases hne : K.1 r = []
      · have hlen0 : (K.1 r).length - 1 = 0 := by rw [hne]; rfl
        refine go_aload_n (i := 0) dx_X12_laysTree_156 rfl rfl ?_
        refine go_iload dx_X12_laysTree_157 rfl ?_
        refine go_cV1 sv_X12_148 (go_ok rfl rfl) dx_X12_laysTree_159 (Nat.le_of_ble_eq_true rfl) (Nat.le_of_ble_eq_true rfl) (o_longOf hm1.1 hr ?_)
        refine go_if_eq (tgt := 197) dx_X12_laysTree_162 rfl (by omega) (fun c162 => ?_) (fun c162 => by exact absurd c162 (by omega))
        refine go_aload_n (i := 0) dx_X12_laysTree_197 rfl rfl ?_
        refine go_iload dx_X12_laysTree_198 rfl ?_
        refine go_cV1 sv_X12_148 (go_ok rfl rfl) dx_X12_laysTree_200 (Nat.le_of_ble_eq_true rfl) (Nat.le_of_ble_eq_true rfl) (o_longOf hm1.1 hr ?_)
        refine go_if_le (tgt := 237) dx_X12_laysTree_203 rfl (by omega) (fun c203 => ?_) (fun c203 => by exact absurd c203 (by omega))
        refine go_iinc (lv' := [(0, vv_A 94), (1, vv_L (m : Int)), (3, vv_I (x : Int)), (4, vv_I (i : Int)), (5, vv_I (j : Int)), (6, vv_I (B : Int)), (7, vv_I up), (8, vv_I ((r : Int) + 1))]) dx_X12_laysTree_237 rfl (by decide) rfl ?_
        refine go_goto (tgt := 156) dx_X12_laysTree_240 rfl ?_
        exact skip (by rw [hff, hne]; exact nif_f (fun q => absurd q.2 (by decide)))
      · have hl2 : 2 ≤ (K.1 r).length := by
          rcases hR r with q | q
          · exact absurd q hne
          · exact q.1
        have hh8 : (K.1 r).getD 0 0 < 8 := by
          rcases hR r with q | ⟨_, _, q, _⟩
          · exact absurd q hne
          · exact q
        obtain ⟨y, hy⟩ : ∃ y, y = (K.1 r).getD 0 0 := ⟨_, rfl⟩
        by_cases hxy : y = x
        · have hw : f r = wrr K.1 (plw K.2.2) B x i j (K.1 r) := hff r
          refine go_aload_n (i := 0) dx_X12_laysTree_156 rfl rfl ?_
          refine go_iload dx_X12_laysTree_157 rfl ?_
          refine go_cV1 sv_X12_148 (go_ok rfl rfl) dx_X12_laysTree_159 (Nat.le_of_ble_eq_true rfl) (Nat.le_of_ble_eq_true rfl) (o_longOf hm1.1 hr ?_)
          refine go_if_eq (tgt := 197) dx_X12_laysTree_162 rfl (by omega) (fun c162 => by exact absurd c162 (by omega)) (fun c162 => ?_)
          refine go_aload_n (i := 0) dx_X12_laysTree_165 rfl rfl ?_
          refine go_iload dx_X12_laysTree_166 rfl ?_
          refine go_cV1 sv_X12_184 (go_ok rfl rfl) dx_X12_laysTree_168 (Nat.le_of_ble_eq_true rfl) (Nat.le_of_ble_eq_true rfl) (o_symbolOf hm1.1 hr (by omega) ?_)
          refine go_asI (y := (y : Int)) (by rw [hy]) ?_
          refine go_iload_n (i := 3) dx_X12_laysTree_171 rfl rfl ?_
          refine go_icmp_ne (tgt := 197) dx_X12_laysTree_172 rfl (by omega) (by omega) (fun c172 => by exact absurd (show (y : Int) = (x : Int) by rw [hxy]) c172) (fun c172 => ?_)
          refine go_aload_n (i := 0) dx_X12_laysTree_175 rfl rfl ?_
          refine go_getL fs_X12_328 rfl (go_ok rfl rfl) dx_X12_laysTree_176 ?_
          refine go_asL (y := ((num - su r f : Nat) : Int)) (by exact i2) ?_
          refine go_aload_n (i := 0) dx_X12_laysTree_179 rfl rfl ?_
          refine go_iload dx_X12_laysTree_180 rfl ?_
          refine go_iload dx_X12_laysTree_182 rfl ?_
          refine go_iload dx_X12_laysTree_184 rfl ?_
          refine go_iload dx_X12_laysTree_186 rfl ?_
          refine go_cV4 sv_X12_342 (go_ok rfl rfl) dx_X12_laysTree_188 (Nat.le_of_ble_eq_true rfl) (Nat.le_of_ble_eq_true rfl) (m_waysWith hm1 hr hl2 (hy.symm.trans hxy) hS8 t2x t3x (fun δ2 f2 => ?_))
          refine go_asL (y := (st (f r))) (by rw [hw]) ?_
          refine go_cS2 ss_X12_332 dx_X12_laysTree_191 (Nat.le_of_ble_eq_true rfl) (Nat.le_of_ble_eq_true rfl) (m_isPast (by omega) ?_)
          refine go_b_eq (tgt := 243) dx_X12_laysTree_194 rfl (fun c194 => ?_) (fun c194 => ?_)
          · have e : pickr f num = r := pickr_eq i1 (by rw [su_s]; omega)
            rw [e] at hlr hln
            have tl := tail δ2 (by rw [hln, f2 _ _ (by decide) (by decide) (by decide)]; exact i2) (fun c q a1 a2 a3 a4 => by rw [f2 c q a1 a2 a3]; exact i3 c q a1 a2 a3 a4)
            rw [hlr, hB, hx, hi, hj, hup] at tl
            exact tl
          · have hm2 : mb_at δ2 K := mb_fr hm1 (fun c q hc => f2 c q (by omega) (by omega) (by omega))
            have h37 : δ2 94 37 = ((num - su r f : Nat) : Int) := by rw [f2 _ _ (by decide) (by decide) (by decide)]; exact i2
            have hfr : st (f r) = (f r : Int) := st_le (by omega)
            refine go_aload_n (i := 0) dx_X12_laysTree_197 rfl rfl ?_
            refine go_iload dx_X12_laysTree_198 rfl ?_
            refine go_cV1 sv_X12_148 (go_ok rfl rfl) dx_X12_laysTree_200 (Nat.le_of_ble_eq_true rfl) (Nat.le_of_ble_eq_true rfl) (o_longOf hm2.1 hr ?_)
            refine go_if_le (tgt := 237) dx_X12_laysTree_203 rfl (by omega) (fun c203 => by exact absurd c203 (by omega)) (fun c203 => ?_)
            refine go_aload_n (i := 0) dx_X12_laysTree_206 rfl rfl ?_
            refine go_iload dx_X12_laysTree_207 rfl ?_
            refine go_cV1 sv_X12_184 (go_ok rfl rfl) dx_X12_laysTree_209 (Nat.le_of_ble_eq_true rfl) (Nat.le_of_ble_eq_true rfl) (o_symbolOf hm2.1 hr (by omega) ?_)
            refine go_asI (y := (y : Int)) (by rw [hy]) ?_
            refine go_iload_n (i := 3) dx_X12_laysTree_212 rfl rfl ?_
            refine go_icmp_ne (tgt := 237) dx_X12_laysTree_213 rfl (by omega) (by omega) (fun c213 => by exact absurd (show (y : Int) = (x : Int) by rw [hxy]) c213) (fun c213 => ?_)
            refine go_aload_n (i := 0) dx_X12_laysTree_216 rfl rfl ?_
            refine go_dup dx_X12_laysTree_217 rfl ?_
            refine go_getL fs_X12_328 rfl (go_ok rfl rfl) dx_X12_laysTree_218 ?_
            refine go_asL (y := ((num - su r f : Nat) : Int)) (by exact h37) ?_
            refine go_aload_n (i := 0) dx_X12_laysTree_221 rfl rfl ?_
            refine go_iload dx_X12_laysTree_222 rfl ?_
            refine go_iload dx_X12_laysTree_224 rfl ?_
            refine go_iload dx_X12_laysTree_226 rfl ?_
            refine go_iload dx_X12_laysTree_228 rfl ?_
            refine go_cV4 sv_X12_342 (go_ok rfl rfl) dx_X12_laysTree_230 (Nat.le_of_ble_eq_true rfl) (Nat.le_of_ble_eq_true rfl) (m_waysWith hm2 hr hl2 (hy.symm.trans hxy) hS8 t2x t3x (fun δ3 f3 => ?_))
            refine go_asL (y := (st (f r))) (by rw [hw]) ?_
            refine go_lsub dx_X12_laysTree_233 ?_
            refine go_asL (y := ((num - su (r + 1) f : Nat) : Int)) (by rw [hfr, su_s]; omega) ?_
            refine go_putL fp_X12_328 rfl rfl (go_ok rfl rfl) dx_X12_laysTree_234 ?_
            refine go_iinc (lv' := [(0, vv_A 94), (1, vv_L (m : Int)), (3, vv_I (x : Int)), (4, vv_I (i : Int)), (5, vv_I (j : Int)), (6, vv_I (B : Int)), (7, vv_I up), (8, vv_I ((r : Int) + 1))]) dx_X12_laysTree_237 rfl (by decide) rfl ?_
            refine go_goto (tgt := 156) dx_X12_laysTree_240 rfl ?_
            exact ih _ ⟨by rw [su_s]; omega, wr_eq _ _ _ _, fun c q a1 a2 a3 a4 => by rw [wr_n a4, f3 c q a1 a2 a3, f2 c q a1 a2 a3]; exact i3 c q a1 a2 a3 a4⟩ _ rfl
        · refine go_aload_n (i := 0) dx_X12_laysTree_156 rfl rfl ?_
          refine go_iload dx_X12_laysTree_157 rfl ?_
          refine go_cV1 sv_X12_148 (go_ok rfl rfl) dx_X12_laysTree_159 (Nat.le_of_ble_eq_true rfl) (Nat.le_of_ble_eq_true rfl) (o_longOf hm1.1 hr ?_)
          refine go_if_eq (tgt := 197) dx_X12_laysTree_162 rfl (by omega) (fun c162 => by exact absurd c162 (by omega)) (fun c162 => ?_)
          refine go_aload_n (i := 0) dx_X12_laysTree_165 rfl rfl ?_
          refine go_iload dx_X12_laysTree_166 rfl ?_
          refine go_cV1 sv_X12_184 (go_ok rfl rfl) dx_X12_laysTree_168 (Nat.le_of_ble_eq_true rfl) (Nat.le_of_ble_eq_true rfl) (o_symbolOf hm1.1 hr (by omega) ?_)
          refine go_asI (y := (y : Int)) (by rw [hy]) ?_
          refine go_iload_n (i := 3) dx_X12_laysTree_171 rfl rfl ?_
          refine go_icmp_ne (tgt := 197) dx_X12_laysTree_172 rfl (by omega) (by omega) (fun c172 => ?_) (fun c172 => by exact absurd c172 (by omega))
          refine go_aload_n (i := 0) dx_X12_laysTree_197 rfl rfl ?_
          refine go_iload dx_X12_laysTree_198 rfl ?_
          refine go_cV1 sv_X12_148 (go_ok rfl rfl) dx_X12_laysTree_200 (Nat.le_of_ble_eq_true rfl) (Nat.le_of_ble_eq_true rfl) (o_longOf hm1.1 hr ?_)
          refine go_if_le (tgt := 237) dx_X12_laysTree_203 rfl (by omega) (fun c203 => by exact absurd c203 (by omega)) (fun c203 => ?_)
          refine go_aload_n (i := 0) dx_X12_laysTree_206 rfl rfl ?_
          refine go_iload dx_X12_laysTree_207 rfl ?_
          refine go_cV1 sv_X12_184 (go_ok rfl rfl) dx_X12_laysTree_209 (Nat.le_of_ble_eq_true rfl) (Nat.le_of_ble_eq_true rfl) (o_symbolOf hm1.1 hr (by omega) ?_)
          refine go_asI (y := (y : Int)) (by rw [hy]) ?_
          refine go_iload_n (i := 3) dx_X12_laysTree_212 rfl rfl ?_
          refine go_icmp_ne (tgt := 237) dx_X12_laysTree_213 rfl (by omega) (by omega) (fun c213 => ?_) (fun c213 => by exact absurd c213 (by omega))
          refine go_iinc (lv' := [(0, vv_A 94), (1, vv_L (m : Int)), (3, vv_I (x : Int)), (4, vv_I (i : Int)), (5, vv_I (j : Int)), (6, vv_I (B : Int)), (7, vv_I up), (8, vv_I ((r : Int) + 1))]) dx_X12_laysTree_237 rfl (by decide) rfl ?_
          refine go_goto (tgt := 156) dx_X12_laysTree_240 rfl ?_
          exact skip (by rw [hff]; exact nif_f (fun q => hxy (by rw [hy]; exact q.1)))
    ) (fun δ1 hI => absurd hI.1 (by omega))
  rw [hB, hx, hi, hj, hup]
  exact loop 0 δ (Nat.zero_le _) ⟨Nat.zero_le _, hnum, fun _ _ _ _ _ _ => rfl⟩ _ rfl
theorem m_laysTree {m : Nat} (hb : bk_at δ 95 0 K) (hl : ml_at δ K) (hm : acK K → m < toK K ∧ (m = 0 ∨ toK K ≤ MX)) (hm2 : m ≤ 2147483647)
    (hQ : ∀ δ', ml_at δ' K → (∀ c j, ¬ sc c j → δ' c j = δ c j) → (acK K → nr_at δ' (nds K m)) → (¬ acK K → δ' 94 35 = 0) → Q [] go_φ δ') :
    Go E (d + 5) (0, 0) mx_X12_laysTree go_φ 0 [(0, vv_A 94), (1, vv_L (m : Int))] [] δ Q := by
  have hK := hb.2.2.2.2
  have hR := hK.1
  have hd : dstn K.1 := hK.2.2.1
  have h14 := hK.2.2.2.2.1
  have l95 : go_ln 95 = 384 := rfl
  have l123 : go_ln 123 = 80 := rfl
  have l120 : go_ln 120 = 400 := rfl
  refine go_aload_n (i := 0) dx_X12_laysTree_0 rfl rfl ?_
  refine go_iconst dx_X12_laysTree_1 ?_
  refine go_putI fp_X12_336 rfl rfl (go_ok rfl rfl) dx_X12_laysTree_2 ?_
  refine go_aload_n (i := 0) dx_X12_laysTree_5 rfl rfl ?_
  refine go_iconst dx_X12_laysTree_6 ?_
  refine go_putI fp_X12_325 rfl rfl (go_ok rfl rfl) dx_X12_laysTree_7 ?_
  refine go_aload_n (i := 0) dx_X12_laysTree_10 rfl rfl ?_
  refine go_cV0 sv_X12_272 (go_ok rfl rfl) dx_X12_laysTree_11 (Nat.le_of_ble_eq_true rfl) (Nat.le_of_ble_eq_true rfl) (m_isAccepted (K := K) (bk_fr hb (fun q => by rw [wr_n (by omega), wr_n (by omega)])) (ml_fr hl (fun c q hc => by rw [wr_n (by omega), wr_n (by omega)])) (fun δ1 w1 w2 w3 w4 f1 => ?_))
  refine go_b_ne (tgt := 18) dx_X12_laysTree_14 rfl (fun c14 => ?_) (fun c14 => ?_)
  · have hac : acK K := by assumption
    have hn0 : 0 < K.2.2.length := dp_lt hac
    obtain ⟨m1, m3⟩ := hm hac
    have hb1 : bk_at δ1 95 0 K := bk_fr hb (fun q => by rw [f1 _ _ (by unfold mfP mqP; omega) (by omega) (by omega), wr_n (by omega), wr_n (by omega)])
    refine go_aload_n (i := 0) dx_X12_laysTree_18 rfl rfl ?_
    refine go_cV0 sv_X12_319 (go_ok rfl rfl) dx_X12_laysTree_19 (Nat.le_of_ble_eq_true rfl) (Nat.le_of_ble_eq_true rfl) (m_laysTrees hb1 (ml_1 w1 w2 w3) (fun δ2 v1 v2 v3 v4 v5 f2 => ?_))
    have hb2 : bk_at δ2 95 0 K := bk_fr hb1 (fun q => f2 95 q (by unfold ltc; omega))
    have e112 : δ2 95 112 = (K.2.1 : Int) := by have := hb2.2.1; rwa [Nat.zero_add] at this
    have e35 : δ2 94 35 = 0 := by rw [f2 _ _ (by unfold ltc; omega), f1 _ _ (by unfold mfP mqP; omega) (by omega) (by omega), wr_n (by omega), wr_eq]
    have e36 : δ2 94 36 = 0 := by rw [f2 _ _ (by unfold ltc; omega), f1 _ _ (by unfold mfP mqP; omega) (by omega) (by omega), wr_eq]
    have fr2 : ∀ c q, ¬ sc c q → δ2 c q = δ c q := fun c q hc => by unfold sc at hc; rw [f2 c q (by unfold ltc; omega), f1 c q (by unfold mfP mqP; omega) (by omega) (by omega), wr_n (by omega), wr_n (by omega)]
    have hini := li_init (R := K.1) (pl := plw K.2.2) hK.2.2.2.1 hn0 h14 m1 hm2 m3
    have hmb2 : mb_at δ2 K := ⟨bo_of hb2, v2, v4, v5, hK⟩
    have loop := lp_up (X := (Nat → Nat → Int) × List tN × List tI) (hi := 217) (I := fun t X => X.2.1.length = t ∧ t ≤ 216 ∧ li_ok K.1 (plw K.2.2) K.2.2.length X.2.1 X.2.2 ∧ lrn K.1 (plw K.2.2) (216 - t) X.2.1 X.2.2 = nds K m ∧ nr_at X.1 X.2.1 ∧ ws_at X.1 X.2.2 ∧ (∀ c q, ¬ tcP c q → X.1 c q = δ2 c q))
      (G := fun t X => ∀ lv0, lv0 = [(0, vv_A 94), (1, vv_L (m : Int))] → Go E (d + 5) (0, 0) mx_X12_laysTree go_φ 47 lv0 [] X.1 Q)
      (fun t X ht hI ih lv0 e0 => by
        subst e0
        obtain ⟨δ3, ns, s⟩ := X
        obtain ⟨i1, i2, i3, i4, i5, i6, i7⟩ := hI
        dsimp only at i1 i2 i3 i4 i5 i6 i7 ⊢
        cases s with
        | nil =>
          rw [lrn_nil] at i4
          rw [i4] at i5
          refine go_aload_n (i := 0) dx_X12_laysTree_47 rfl rfl ?_
          refine go_getI fs_X12_325 (Or.inl rfl) (go_ok rfl rfl) dx_X12_laysTree_48 ?_
          refine go_asI (y := 0) (by exact i6.1) ?_
          refine go_if_le (tgt := 440) dx_X12_laysTree_51 rfl (by omega) (fun c51 => ?_) (fun c51 => absurd c51 (by decide))
          refine go_vreturn dx_X12_laysTree_440 rfl (Nat.le_refl _) (Nat.le_refl _) ?_
          exact hQ δ3 (ml_fr (ml_1 v1 v2 v3) (fun c q hc => i7 c q (by unfold tcP; omega))) (fun c q hc => by rw [i7 c q (by unfold tcP; unfold sc at hc; omega)]; exact fr2 c q hc) (fun _ => i5) (fun q => absurd hac q)
        | cons it s =>
          obtain ⟨z1, ⟨g1, g2, g3, g4, g5, g6⟩, z3⟩ := i6
          have hit := i3.1 it (List.mem_cons_self ..)
          have hlen := st_len_le i3.1
          have hlb := i3.2.2.1
          have hstep := li_step hR hd i3
          have hph := it_phi_pos hit
          have hst : ns.length + (it_phi it + st_phi s) ≤ 216 := i3.2.1
          rw [List.length_cons] at hlen
          obtain ⟨t1, t2, t3, t4, t5, t6, t7, t8, t9⟩ := id hit
          have hm3 : mb_at δ3 K := mb_fr hmb2 (fun c q hc => i7 c q (by unfold tcP; omega))
          have ih2 : ∀ δ4, ws_at δ4 (lch2 K.1 (plw K.2.2) it ns.length ++ s) → nr_at δ4 (ns ++ [lnd K.1 (plw K.2.2) ns it]) → (∀ c q, ¬ tcP c q → δ4 c q = δ2 c q) → Go E (d + 5) (0, 0) mx_X12_laysTree go_φ 47 [(0, vv_A 94), (1, vv_L (m : Int))] [] δ4 Q := fun δ4 a b c => ih (δ4, ns ++ [lnd K.1 (plw K.2.2) ns it], lch2 K.1 (plw K.2.2) it ns.length ++ s) ⟨by show (ns ++ [_]).length = _; rw [List.length_append, List.length_singleton]; omega, by omega, hstep, by
            show lrn _ _ (216 - (t + 1)) _ _ = _
            rw [← i4, show 216 - t = 216 - (t + 1) + 1 by omega]
            rfl, b, a, c⟩ _ rfl
          have h1x := bv_bit (x := it.1) (by omega)
          refine go_aload_n (i := 0) dx_X12_laysTree_47 rfl rfl ?_
          refine go_getI fs_X12_325 (Or.inl rfl) (go_ok rfl rfl) dx_X12_laysTree_48 ?_
          refine go_asI (y := ((s.length + 1 : Nat) : Int)) (by exact z1) ?_
          refine go_if_le (tgt := 440) dx_X12_laysTree_51 rfl (by omega) (fun c51 => by exact absurd c51 (by omega)) (fun c51 => ?_)
          refine go_aload_n (i := 0) dx_X12_laysTree_54 rfl rfl ?_
          refine go_dup dx_X12_laysTree_55 rfl ?_
          refine go_getI fs_X12_325 (Or.inl rfl) (go_ok rfl rfl) dx_X12_laysTree_56 ?_
          refine go_asI (y := ((s.length + 1 : Nat) : Int)) (by exact z1) ?_
          refine go_iconst dx_X12_laysTree_59 ?_
          refine go_isub dx_X12_laysTree_60 ?_
          refine go_asI (y := (s.length : Int)) (by omega) ?_
          refine go_putI fp_X12_325 rfl rfl (go_ok rfl rfl) dx_X12_laysTree_61 ?_
          refine go_aload_n (i := 0) dx_X12_laysTree_64 rfl rfl ?_
          refine go_getA (b := 120) fs_X12_91 rfl (go_ok rfl rfl) rfl dx_X12_laysTree_65 ?_
          refine go_iconst dx_X12_laysTree_68 ?_
          refine go_aload_n (i := 0) dx_X12_laysTree_69 rfl rfl ?_
          refine go_getI fs_X12_325 (Or.inl rfl) (go_ok rfl rfl) dx_X12_laysTree_70 ?_
          refine go_asI (y := (s.length : Int)) (by exact wr_eq _ _ _ _) ?_
          refine go_imul dx_X12_laysTree_73 ?_
          refine go_ialoadV (i := (5 * s.length)) (v := ((it.1 : Int))) dx_X12_laysTree_74 (go_ok rfl rfl) (by omega) (show (5 * s.length) < 400 by omega) (by rw [wr_n (by omega)]; exact g1) ?_
          refine go_istore_n (i := 3) (lv' := [(0, vv_A 94), (1, vv_L (m : Int)), (3, vv_I ((it.1 : Int)))]) dx_X12_laysTree_75 rfl (by decide) rfl ?_
          refine go_aload_n (i := 0) dx_X12_laysTree_76 rfl rfl ?_
          refine go_getA (b := 120) fs_X12_91 rfl (go_ok rfl rfl) rfl dx_X12_laysTree_77 ?_
          refine go_iconst dx_X12_laysTree_80 ?_
          refine go_aload_n (i := 0) dx_X12_laysTree_81 rfl rfl ?_
          refine go_getI fs_X12_325 (Or.inl rfl) (go_ok rfl rfl) dx_X12_laysTree_82 ?_
          refine go_asI (y := (s.length : Int)) (by exact wr_eq _ _ _ _) ?_
          refine go_imul dx_X12_laysTree_85 ?_
          refine go_iconst dx_X12_laysTree_86 ?_
          refine go_iadd dx_X12_laysTree_87 ?_
          refine go_ialoadV (i := (5 * s.length + 1)) (v := ((it.2.1 : Int))) dx_X12_laysTree_88 (go_ok rfl rfl) (by omega) (show (5 * s.length + 1) < 400 by omega) (by rw [wr_n (by omega)]; exact g2) ?_
          refine go_istore (lv' := [(0, vv_A 94), (1, vv_L (m : Int)), (3, vv_I ((it.1 : Int))), (4, vv_I ((it.2.1 : Int)))]) dx_X12_laysTree_89 (by decide) rfl ?_
          refine go_aload_n (i := 0) dx_X12_laysTree_91 rfl rfl ?_
          refine go_getA (b := 120) fs_X12_91 rfl (go_ok rfl rfl) rfl dx_X12_laysTree_92 ?_
          refine go_iconst dx_X12_laysTree_95 ?_
          refine go_aload_n (i := 0) dx_X12_laysTree_96 rfl rfl ?_
          refine go_getI fs_X12_325 (Or.inl rfl) (go_ok rfl rfl) dx_X12_laysTree_97 ?_
          refine go_asI (y := (s.length : Int)) (by exact wr_eq _ _ _ _) ?_
          refine go_imul dx_X12_laysTree_100 ?_
          refine go_iconst dx_X12_laysTree_101 ?_
          refine go_iadd dx_X12_laysTree_102 ?_
          refine go_ialoadV (i := (5 * s.length + 2)) (v := ((it.2.2.1 : Int))) dx_X12_laysTree_103 (go_ok rfl rfl) (by omega) (show (5 * s.length + 2) < 400 by omega) (by rw [wr_n (by omega)]; exact g3) ?_
          refine go_istore (lv' := [(0, vv_A 94), (1, vv_L (m : Int)), (3, vv_I ((it.1 : Int))), (4, vv_I ((it.2.1 : Int))), (5, vv_I ((it.2.2.1 : Int)))]) dx_X12_laysTree_104 (by decide) rfl ?_
          refine go_aload_n (i := 0) dx_X12_laysTree_106 rfl rfl ?_
          refine go_getA (b := 120) fs_X12_91 rfl (go_ok rfl rfl) rfl dx_X12_laysTree_107 ?_
          refine go_iconst dx_X12_laysTree_110 ?_
          refine go_aload_n (i := 0) dx_X12_laysTree_111 rfl rfl ?_
          refine go_getI fs_X12_325 (Or.inl rfl) (go_ok rfl rfl) dx_X12_laysTree_112 ?_
          refine go_asI (y := (s.length : Int)) (by exact wr_eq _ _ _ _) ?_
          refine go_imul dx_X12_laysTree_115 ?_
          refine go_iconst dx_X12_laysTree_116 ?_
          refine go_iadd dx_X12_laysTree_117 ?_
          refine go_ialoadV (i := (5 * s.length + 3)) (v := ((it.2.2.2.1 : Int))) dx_X12_laysTree_118 (go_ok rfl rfl) (by omega) (show (5 * s.length + 3) < 400 by omega) (by rw [wr_n (by omega)]; exact g4) ?_
          refine go_iconst dx_X12_laysTree_119 ?_
          refine go_iload_n (i := 3) dx_X12_laysTree_120 rfl rfl ?_
          refine go_ishl dx_X12_laysTree_121 ?_
          refine go_asI (y := ((2 ^ it.1 : Nat) : Int)) (by exact h1x) ?_
          refine go_ior dx_X12_laysTree_122 ?_
          refine go_asI (y := ((it.2.2.2.1 ||| 2 ^ it.1 : Nat) : Int)) (by exact bv_orN (by omega) (bt_p31 t1 (by decide))) ?_
          refine go_istore (lv' := [(0, vv_A 94), (1, vv_L (m : Int)), (3, vv_I ((it.1 : Int))), (4, vv_I ((it.2.1 : Int))), (5, vv_I ((it.2.2.1 : Int))), (6, vv_I ((it.2.2.2.1 ||| 2 ^ it.1 : Nat) : Int))]) dx_X12_laysTree_123 (by decide) rfl ?_
          refine go_aload_n (i := 0) dx_X12_laysTree_125 rfl rfl ?_
          refine go_getA (b := 120) fs_X12_91 rfl (go_ok rfl rfl) rfl dx_X12_laysTree_126 ?_
          refine go_iconst dx_X12_laysTree_129 ?_
          refine go_aload_n (i := 0) dx_X12_laysTree_130 rfl rfl ?_
          refine go_getI fs_X12_325 (Or.inl rfl) (go_ok rfl rfl) dx_X12_laysTree_131 ?_
          refine go_asI (y := (s.length : Int)) (by exact wr_eq _ _ _ _) ?_
          refine go_imul dx_X12_laysTree_134 ?_
          refine go_iconst dx_X12_laysTree_135 ?_
          refine go_iadd dx_X12_laysTree_136 ?_
          refine go_ialoadV (i := (5 * s.length + 4)) (v := it.2.2.2.2.1) dx_X12_laysTree_137 (go_ok rfl rfl) (by omega) (show (5 * s.length + 4) < 400 by omega) (by rw [wr_n (by omega)]; exact g5) ?_
          refine go_istore (lv' := [(0, vv_A 94), (1, vv_L (m : Int)), (3, vv_I ((it.1 : Int))), (4, vv_I ((it.2.1 : Int))), (5, vv_I ((it.2.2.1 : Int))), (6, vv_I ((it.2.2.2.1 ||| 2 ^ it.1 : Nat) : Int)), (7, vv_I it.2.2.2.2.1)]) dx_X12_laysTree_138 (by decide) rfl ?_
          refine go_aload_n (i := 0) dx_X12_laysTree_140 rfl rfl ?_
          refine go_aload_n (i := 0) dx_X12_laysTree_141 rfl rfl ?_
          refine go_getA (b := 123) fs_X12_100 rfl (go_ok rfl rfl) rfl dx_X12_laysTree_142 ?_
          refine go_aload_n (i := 0) dx_X12_laysTree_145 rfl rfl ?_
          refine go_getI fs_X12_325 (Or.inl rfl) (go_ok rfl rfl) dx_X12_laysTree_146 ?_
          refine go_asI (y := (s.length : Int)) (by exact wr_eq _ _ _ _) ?_
          refine go_laloadV (i := s.length) (v := ((it.2.2.2.2.2 : Int))) dx_X12_laysTree_149 (go_ok rfl rfl) (by omega) (show s.length < 80 by omega) (by rw [wr_n (by omega)]; exact g6) ?_
          refine go_putL fp_X12_328 rfl rfl (go_ok rfl rfl) dx_X12_laysTree_150 ?_
          refine go_iconst dx_X12_laysTree_153 ?_
          refine go_istore (lv' := [(0, vv_A 94), (1, vv_L (m : Int)), (3, vv_I ((it.1 : Int))), (4, vv_I ((it.2.1 : Int))), (5, vv_I ((it.2.2.1 : Int))), (6, vv_I ((it.2.2.2.1 ||| 2 ^ it.1 : Nat) : Int)), (7, vv_I it.2.2.2.2.1), (8, vv_I 0)]) dx_X12_laysTree_154 (by decide) rfl ?_
          have g : ∀ c q, (c = 94 → q ≠ 36 ∧ q ≠ 37) → (wr (wr δ3 94 36 (s.length : Int)) 94 37 (it.2.2.2.2.2 : Int)) c q = δ3 c q := fun c q hc => by rw [wr_n (by omega), wr_n (by omega)]
          exact m_treeNode (it := it) (s := s) (ns := ns) (mb_fr hm3 (fun c q hc => g c q (by omega))) i3 ⟨by rw [wr_n (by omega), wr_eq], wsx_fr z3 (fun c q hc => g c q (by omega))⟩ (nr_fr i5 (fun c q hc => g c q (by omega))) (wr_eq _ _ _ _) (fun δ4 a b c => ih2 δ4 a b (fun c' q hc => by rw [c c' q hc, g c' q (by unfold tcP at hc; omega)]; exact i7 c' q hc))
      ) (fun X hI => absurd hI.2.1 (by omega))
    refine go_aload_n (i := 0) dx_X12_laysTree_22 rfl rfl ?_
    refine go_getA (b := 123) fs_X12_100 rfl (go_ok rfl rfl) rfl dx_X12_laysTree_23 ?_
    refine go_iconst dx_X12_laysTree_26 ?_
    refine go_lload_n (i := 1) dx_X12_laysTree_27 rfl rfl ?_
    refine go_lastoreV (i := 0) dx_X12_laysTree_28 (go_ok rfl rfl) (by omega) (show 0 < 80 by omega) ?_
    refine go_aload_n (i := 0) dx_X12_laysTree_29 rfl rfl ?_
    refine go_aload_n (i := 0) dx_X12_laysTree_30 rfl rfl ?_
    refine go_getA (b := 95) fs_X12_7 rfl (go_ok rfl rfl) rfl dx_X12_laysTree_31 ?_
    refine go_bipush dx_X12_laysTree_34 rfl ?_
    refine go_ialoadV (i := 112) (v := ((K.2.1 : Int))) dx_X12_laysTree_36 (go_ok rfl rfl) (by omega) (show 112 < 384 by omega) (by rw [wr_n (by omega)]; exact e112) ?_
    refine go_iconst dx_X12_laysTree_37 ?_
    refine go_asI (y := ((0 : Nat) : Int)) (by rfl) ?_
    refine go_aload_n (i := 0) dx_X12_laysTree_38 rfl rfl ?_
    refine go_cV0 sv_X12_253 (go_ok rfl rfl) dx_X12_laysTree_39 (Nat.le_of_ble_eq_true rfl) (Nat.le_of_ble_eq_true rfl) (o_letters (n := K.2.2.length) (by rw [wr_n (by omega)]; have := hb2.2.2.1; rwa [Nat.zero_add] at this) ?_)
    refine go_iconst dx_X12_laysTree_42 ?_
    refine go_asI (y := ((0 : Nat) : Int)) (by rfl) ?_
    refine go_iconst dx_X12_laysTree_43 ?_
    refine go_cV5 sv_X12_339 (go_ok rfl rfl) dx_X12_laysTree_44 (Nat.le_of_ble_eq_true rfl) (Nat.le_of_ble_eq_true rfl) (m_waits (s := []) (num := m) ⟨by rw [wr_n (by omega)]; exact e36, trivial⟩ (Nat.zero_le _) (wr_eq _ _ _ _) (fun δ3 q1 f3 => ?_))
    refine loop 0 (δ3, [], _) (Nat.zero_le _) ⟨rfl, Nat.zero_le _, hini, rfl, ⟨?_, fun k hk => absurd hk (Nat.not_lt_zero _)⟩, q1, fun c q hc => ?_⟩ _ rfl
    · show δ3 94 35 = _
      rw [f3 _ _ (by decide) (by decide), wr_n (by omega)]; exact e35
    · show δ3 c q = _
      unfold tcP at hc
      rw [f3 _ _ (by omega) (by omega), wr_n (by omega)]
  · have fr1 : ∀ c q, ¬ sc c q → δ1 c q = δ c q := fun c q hc => by unfold sc at hc; rw [f1 c q (by unfold mfP mqP; omega) (by omega) (by omega), wr_n (by omega), wr_n (by omega)]
    refine go_vreturn dx_X12_laysTree_17 rfl (Nat.le_refl _) (Nat.le_refl _) ?_
    exact hQ δ1 (ml_1 w1 w2 w3) fr1 (fun q => absurd q (by assumption)) (fun _ => by rw [f1 _ _ (by unfold mfP mqP; omega) (by omega) (by omega), wr_n (by omega), wr_eq])
end GMTF
