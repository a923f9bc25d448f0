/-! Vocabulary: fill, and what is asked of it -/
theorem wa_step {R : Nat → List Nat} {n p k : Nat} {e : tP} (he : (gP R)[p]? = some e) (hk : 1 ≤ k) (hkn : k < n) {x m v : Nat} : wj (WA R n p k) e k (n - k) x m v ↔ WA R n p (k + 1) x m v := by
  have hn : k + (n - k) = n := by omega
  constructor
  · rintro ((⟨a1, a2⟩ | ⟨a1, a2⟩ | a) | ⟨b1, b2, u, t, b3, b4, b5⟩)
    · exact Or.inl ⟨a1, a2⟩
    · refine Or.inr (Or.inl ⟨a1, a2.imp id (fun ⟨q, e', k', u, t, c1, c2, c3⟩ => ⟨q, e', k', u, t, c1, by omega, c3⟩)⟩)
    · exact Or.inr (Or.inr a)
    · rw [hn] at b2
      have t1 : TW R e.2.1 k u := by
        rcases b3 with ⟨_, w⟩ | ⟨w, _⟩ | ⟨w, _⟩
        · exact w
        · omega
        · omega
      have t2 : TW R e.2.2.1 (n - k) t := by
        rcases b4 with ⟨_, w⟩ | ⟨w, _⟩ | ⟨w, _⟩
        · exact w
        · omega
        · omega
      exact Or.inr (Or.inl ⟨b2, Or.inr ⟨p, e, k, u, t, he, Or.inr ⟨rfl, Nat.lt_succ_self _⟩, hk, hkn, b1.symm, t1, t2, b5⟩⟩)
  · rintro (⟨a1, a2⟩ | ⟨a1, a2 | ⟨q, e', k', u, t, c1, c2, c3, c4, c5, c6, c7, c8⟩⟩ | a)
    · exact Or.inl (Or.inl ⟨a1, a2⟩)
    · exact Or.inl (Or.inr (Or.inl ⟨a1, Or.inl a2⟩))
    · by_cases h : q < p ∨ (q = p ∧ k' < k)
      · exact Or.inl (Or.inr (Or.inl ⟨a1, Or.inr ⟨q, e', k', u, t, c1, h, c3, c4, c5, c6, c7, c8⟩⟩))
      · have e1 : q = p := by omega
        have e2 : k' = k := by omega
        subst e1 e2
        have e3 : e' = e := Option.some.inj (c1.symm.trans he)
        subst e3
        exact Or.inr ⟨c5.symm, by rw [hn]; exact a1, u, t, Or.inl ⟨c4, c6⟩, Or.inl ⟨by omega, c7⟩, c8⟩
    · exact Or.inl (Or.inr (Or.inr a))
theorem wa_next {R : Nat → List Nat} {n p x m v : Nat} : WA R n p n x m v ↔ WA R n (p + 1) 1 x m v := by
  unfold WA WB
  refine or_congr Iff.rfl (or_congr (and_congr_right (fun _ => or_congr Iff.rfl ?_)) Iff.rfl)
  exact ⟨fun ⟨q, e, k', u, t, c1, c2, c3⟩ => ⟨q, e, k', u, t, c1, by omega, c3⟩, fun ⟨q, e, k', u, t, c1, c2, c3, c4, c5⟩ => ⟨q, e, k', u, t, c1, by omega, c3, c4, c5⟩⟩
theorem wa_0 {R : Nat → List Nat} {x m v : Nat} (hm : 1 ≤ m) : W0 x m v ↔ WA R 1 0 1 x m v := by
  constructor
  · intro h
    have e1 := h.2.2.1
    subst e1
    exact Or.inr (Or.inl ⟨rfl, Or.inl h⟩)
  · rintro (⟨a1, _⟩ | ⟨a1, a2 | ⟨q, e, k', u, t, c1, c2, c3, c4, _⟩⟩ | ⟨_, a⟩)
    · omega
    · rw [← a1] at a2; exact a2
    · omega
    · exact a
theorem wa_lift {R : Nat → List Nat} (hR : ∀ r, rl_ok (R r)) {n x m v : Nat} (h1 : 1 ≤ n) : ((m = n ∧ ufn R (fun x v => WA R n (gP R).length 1 x n v) x v) ∨ (m ≠ n ∧ WA R n (gP R).length 1 x m v)) ↔ WA R (n + 1) 0 1 x m v := by
  have hw : ∀ x v, WA R n (gP R).length 1 x n v ↔ (v < 6 ^ n ∧ dxB R x (wdn n v)) := fun x v => by
    rw [← wb_dxB h1 (Nat.le_refl _)]
    exact ⟨fun q => q.elim (fun q => absurd q.1 (Nat.lt_irrefl _)) (fun q => q.elim (fun q => q.2) (fun q => absurd q.1 (Nat.lt_irrefl _))), fun q => Or.inr (Or.inl ⟨rfl, q⟩)⟩
  have hu : ufn R (fun x v => WA R n (gP R).length 1 x n v) x v ↔ TW R x n v := by
    show (WA R n (gP R).length 1 x n v ∨ ∃ y, ut R x y ∧ WA R n (gP R).length 1 y n v) ↔ (v < 6 ^ n ∧ dx R x (wdn n v))
    rw [hw, dx_step hR]
    constructor
    · rintro (⟨a, b⟩ | ⟨y, a, b⟩)
      · exact ⟨a, Or.inl b⟩
      · have b := (hw y v).mp b
        exact ⟨b.1, Or.inr ⟨y, a, b.2⟩⟩
    · rintro ⟨a, b | ⟨y, b1, b2⟩⟩
      · exact Or.inl ⟨a, b⟩
      · exact Or.inr ⟨y, b1, (hw y v).mpr ⟨a, b2⟩⟩
  rw [hu]
  constructor
  · rintro (⟨a, b⟩ | ⟨a, b⟩)
    · rw [← a] at b; exact Or.inl ⟨by omega, b⟩
    · rcases b with ⟨b1, b2⟩ | ⟨b1, _⟩ | ⟨b1, b2⟩
      · exact Or.inl ⟨by omega, b2⟩
      · exact absurd b1 a
      · have := b2.2.2.1
        omega
  · rintro (⟨b1, b2⟩ | ⟨b1, b2 | ⟨q, e, k', u, t, c1, c2, c3, c4, _⟩⟩ | ⟨_, b2⟩)
    · by_cases e : m = n
      · subst e; exact Or.inl ⟨rfl, b2⟩
      · exact Or.inr ⟨e, Or.inl ⟨by omega, b2⟩⟩
    · have := b2.2.2.1
      omega
    · omega
    · have := b2.2.2.1
      omega
section GVOC6
variable {E : go_E} {d : Nat} {δ : Nat → Nat → Int} {Q : List go_V → go_F → (Nat → Nat → Int) → Prop} {R : Nat → List Nat}
theorem g_Voc_fillN (hb : bi_at δ 33 R) (h : vt δ W0) (hQ : ∀ δ', vt δ' (fun x n v => TW R x n v) → (∀ c q, c ≠ 75 → δ' c q = δ c q) → Q [] go_φ δ') : Go E (d + 3) (0, 0) mx_X10_fill go_φ 58 [(0, vv_A 74), (1, vv_A 33), (2, vv_I 1)] [] δ Q := by
  have hR := hb.2.2.2.2.2.2
  have hcnt := hb.1.1
  have hP64 := gP_le hR
  have kloop : ∀ n p e, 1 ≤ n → n ≤ 4 → (gP R)[p]? = some e → p < 64 → ∀ δ1 : Nat → Nat → Int, vt δ1 (WA R n p 1) → (∀ c q, c ≠ 75 → δ1 c q = δ c q) →
      (∀ δ2 : Nat → Nat → Int, vt δ2 (WA R n (p + 1) 1) → (∀ c q, c ≠ 75 → δ2 c q = δ c q) → Go E (d + 3) (0, 0) mx_X10_fill go_φ 65 [(0, vv_A 74), (1, vv_A 33), (2, vv_I (n : Int)), (3, vv_I ((p + 1 : Nat) : Int))] [] δ2 Q) →
      Go E (d + 3) (0, 0) mx_X10_fill go_φ 76 [(0, vv_A 74), (1, vv_A 33), (2, vv_I (n : Int)), (3, vv_I (p : Int)), (4, vv_I 1)] [] δ1 Q := by
    intro n p e hn1 hn4 he hp δ1 g1 g2 KK
    have hem : e ∈ gP R := List.mem_of_getElem? he
    have hpe := pe_ok_of hR hem
    obtain ⟨p1, p2, p3⟩ := pe_lt62 hR hem
    have hpl : p < (gP R).length := (List.getElem?_eq_some_iff.mp he).1
    have hcode : δ 34 p = (pe e : Int) := by
      have := hb.1.2.1 p hpl
      rw [this, (List.getElem?_eq_some_iff.mp he).2]
    refine lp_up (X := Nat → Nat → Int) (hi := n) (I := fun k δ2 => 1 ≤ k ∧ vt δ2 (WA R n p k) ∧ (∀ c q, c ≠ 75 → δ2 c q = δ c q))
      (G := fun k δ2 => Go E (d + 3) (0, 0) mx_X10_fill go_φ 76 [(0, vv_A 74), (1, vv_A 33), (2, vv_I (n : Int)), (3, vv_I (p : Int)), (4, vv_I (k : Int))] [] δ2 Q)
      (fun k δ2 hk hI ih => ?_) (fun δ2 hI => ?_) 1 δ1 hn1 ⟨Nat.le_refl _, g1, g2⟩
    · obtain ⟨i0, i1, i2⟩ := hI
      have hcode2 : δ2 34 p = (pe e : Int) := by rw [i2 34 p (by decide)]; exact hcode
      refine go_iload dx_X10_fill_76 rfl ?_
      refine go_iload_n (i := 2) dx_X10_fill_78 rfl rfl ?_
      refine go_icmp_ge (tgt := 106) dx_X10_fill_79 rfl (by omega) (by omega) (fun c79 => by exact absurd c79 (by omega)) (fun c79 => ?_)
      refine go_aload_n (i := 0) dx_X10_fill_82 rfl rfl ?_
      refine go_aload_n (i := 1) dx_X10_fill_83 rfl rfl ?_
      refine go_getA (b := 34) fs_X10_25 rfl (go_ok rfl rfl) rfl dx_X10_fill_84 ?_
      refine go_iload_n (i := 3) dx_X10_fill_87 rfl rfl ?_
      refine go_cS2 ss_X10_29 dx_X10_fill_88 (Nat.le_of_ble_eq_true rfl) (Nat.le_of_ble_eq_true rfl) (g_intAtV (i := p) (v := ((pe e : Int))) (go_ok rfl rfl) (by omega) (show p < 64 by omega) (by exact hcode2) ?_)
      refine go_iload dx_X10_fill_91 rfl ?_
      refine go_iload_n (i := 2) dx_X10_fill_93 rfl rfl ?_
      refine go_iload dx_X10_fill_94 rfl ?_
      refine go_isub dx_X10_fill_96 ?_
      refine go_asI (y := ((n - k : Nat) : Int)) (by omega) ?_
      refine go_cV3 sv_X10_33 (go_ok rfl rfl) dx_X10_fill_97 (Nat.le_of_ble_eq_true rfl) (Nat.le_of_ble_eq_true rfl) (g_Voc_joinSets (WS := WA R n p k) hpe p1 p2 p3 i0 (by omega) (by omega) (fun x m v hm1 hm2 hw => by
      rcases hw with ⟨_, w⟩ | ⟨w, _⟩ | ⟨w, _⟩
      · exact w.1
      · omega
      · omega) i1 (fun δ3 q1 q2 => ?_))
      refine go_iinc (lv' := [(0, vv_A 74), (1, vv_A 33), (2, vv_I (n : Int)), (3, vv_I (p : Int)), (4, vv_I ((k : Int) + 1))]) dx_X10_fill_100 rfl (by decide) rfl ?_
      refine go_goto (tgt := 76) dx_X10_fill_103 rfl ?_
      exact ih δ3 ⟨by omega, vt_cg q1 (fun x _ m v _ _ => wa_step he i0 hk), fun c q hc => (q2 c q hc).trans (i2 c q hc)⟩
    · obtain ⟨i0, i1, i2⟩ := hI
      refine go_iload dx_X10_fill_76 rfl ?_
      refine go_iload_n (i := 2) dx_X10_fill_78 rfl rfl ?_
      refine go_icmp_ge (tgt := 106) dx_X10_fill_79 rfl (by omega) (by omega) (fun c79 => ?_) (fun c79 => by exact absurd c79 (by omega))
      refine go_iinc (lv' := [(0, vv_A 74), (1, vv_A 33), (2, vv_I (n : Int)), (3, vv_I ((p : Int) + 1)), (4, vv_I (n : Int))]) dx_X10_fill_106 rfl (by decide) rfl ?_
      refine go_goto (tgt := 65) dx_X10_fill_109 rfl ?_
      refine go_keep [0, 1, 2, 3] rfl ?_
      exact KK δ2 (vt_cg i1 (fun x _ m v _ _ => wa_next)) i2
  have ploop : ∀ n, 1 ≤ n → n ≤ 4 → ∀ δ1 : Nat → Nat → Int, vt δ1 (WA R n 0 1) → (∀ c q, c ≠ 75 → δ1 c q = δ c q) →
      (∀ δ2 : Nat → Nat → Int, vt δ2 (WA R (n + 1) 0 1) → (∀ c q, c ≠ 75 → δ2 c q = δ c q) → Go E (d + 3) (0, 0) mx_X10_fill go_φ 58 [(0, vv_A 74), (1, vv_A 33), (2, vv_I ((n + 1 : Nat) : Int))] [] δ2 Q) →
      Go E (d + 3) (0, 0) mx_X10_fill go_φ 65 [(0, vv_A 74), (1, vv_A 33), (2, vv_I (n : Int)), (3, vv_I 0)] [] δ1 Q := by
    intro n hn1 hn4 δ1 g1 g2 KK
    refine lp_up (X := Nat → Nat → Int) (hi := (gP R).length) (I := fun p δ2 => vt δ2 (WA R n p 1) ∧ (∀ c q, c ≠ 75 → δ2 c q = δ c q))
      (G := fun p δ2 => Go E (d + 3) (0, 0) mx_X10_fill go_φ 65 [(0, vv_A 74), (1, vv_A 33), (2, vv_I (n : Int)), (3, vv_I (p : Int))] [] δ2 Q)
      (fun p δ2 hp hI ih => ?_) (fun δ2 hI => ?_) 0 δ1 (Nat.zero_le _) ⟨g1, g2⟩
    · obtain ⟨i1, i2⟩ := hI
      have hcnt2 : δ2 33 1 = ((gP R).length : Int) := by rw [i2 33 1 (by decide)]; exact hcnt
      refine go_iload_n (i := 3) dx_X10_fill_65 rfl rfl ?_
      refine go_aload_n (i := 1) dx_X10_fill_66 rfl rfl ?_
      refine go_getI fs_X10_19 (Or.inl rfl) (go_ok rfl rfl) dx_X10_fill_67 ?_
      refine go_asI (y := ((gP R).length : Int)) (by exact hcnt2) ?_
      refine go_icmp_ge (tgt := 112) dx_X10_fill_70 rfl (by omega) (by omega) (fun c70 => by exact absurd c70 (by omega)) (fun c70 => ?_)
      refine go_iconst dx_X10_fill_73 ?_
      refine go_istore (lv' := [(0, vv_A 74), (1, vv_A 33), (2, vv_I (n : Int)), (3, vv_I (p : Int)), (4, vv_I 1)]) dx_X10_fill_74 (by decide) rfl ?_
      exact kloop n p _ hn1 hn4 (List.getElem?_eq_getElem hp) (by omega) δ2 i1 i2 (fun δ3 q1 q2 => ih δ3 ⟨q1, q2⟩)
    · obtain ⟨i1, i2⟩ := hI
      have hcnt2 : δ2 33 1 = ((gP R).length : Int) := by rw [i2 33 1 (by decide)]; exact hcnt
      refine go_iload_n (i := 3) dx_X10_fill_65 rfl rfl ?_
      refine go_aload_n (i := 1) dx_X10_fill_66 rfl rfl ?_
      refine go_getI fs_X10_19 (Or.inl rfl) (go_ok rfl rfl) dx_X10_fill_67 ?_
      refine go_asI (y := ((gP R).length : Int)) (by exact hcnt2) ?_
      refine go_icmp_ge (tgt := 112) dx_X10_fill_70 rfl (by omega) (by omega) (fun c70 => ?_) (fun c70 => by exact absurd c70 (by omega))
      refine go_aload_n (i := 0) dx_X10_fill_112 rfl rfl ?_
      refine go_aload_n (i := 1) dx_X10_fill_113 rfl rfl ?_
      refine go_iload_n (i := 2) dx_X10_fill_114 rfl rfl ?_
      refine go_cV2 sv_X10_37 (go_ok rfl rfl) dx_X10_fill_115 (Nat.le_of_ble_eq_true rfl) (Nat.le_of_ble_eq_true rfl) (g_Voc_liftSets (bi_fr hb (fun c j h1 h2 => i2 c j (by omega))) hn1 hn4 i1 (fun δ3 q1 q2 => ?_))
      refine go_iinc (lv' := [(0, vv_A 74), (1, vv_A 33), (2, vv_I ((n : Int) + 1)), (3, vv_I ((gP R).length : Int))]) dx_X10_fill_118 rfl (by decide) rfl ?_
      refine go_goto (tgt := 58) dx_X10_fill_121 rfl ?_
      refine go_keep [0, 1, 2] rfl ?_
      exact KK δ3 (vt_cg q1 (fun x _ m v _ _ => wa_lift hR hn1)) (fun c q hc => (q2 c q hc).trans (i2 c q hc))
  have nloop := lp_up (X := Nat → Nat → Int) (hi := 5) (I := fun n δ1 => 1 ≤ n ∧ vt δ1 (WA R n 0 1) ∧ (∀ c q, c ≠ 75 → δ1 c q = δ c q))
    (G := fun n δ1 => Go E (d + 3) (0, 0) mx_X10_fill go_φ 58 [(0, vv_A 74), (1, vv_A 33), (2, vv_I (n : Int))] [] δ1 Q)
    (fun n δ1 hn hI ih => by
      obtain ⟨i0, i1, i2⟩ := hI
      refine go_iload_n (i := 2) dx_X10_fill_58 rfl rfl ?_
      refine go_iconst dx_X10_fill_59 ?_
      refine go_icmp_gt (tgt := 124) dx_X10_fill_60 rfl (by omega) (by omega) (fun c60 => by exact absurd c60 (by omega)) (fun c60 => ?_)
      refine go_iconst dx_X10_fill_63 ?_
      refine go_istore_n (i := 3) (lv' := [(0, vv_A 74), (1, vv_A 33), (2, vv_I (n : Int)), (3, vv_I 0)]) dx_X10_fill_64 rfl (by decide) rfl ?_
      exact ploop n i0 (by omega) δ1 i1 i2 (fun δ2 q1 q2 => ih δ2 ⟨by omega, q1, q2⟩)
    ) (fun δ1 hI => by
      obtain ⟨i0, i1, i2⟩ := hI
      refine go_iload_n (i := 2) dx_X10_fill_58 rfl rfl ?_
      refine go_iconst dx_X10_fill_59 ?_
      refine go_icmp_gt (tgt := 124) dx_X10_fill_60 rfl (by omega) (by omega) (fun c60 => ?_) (fun c60 => by exact absurd c60 (by omega))
      refine go_vreturn dx_X10_fill_124 rfl (Nat.le_refl _) (Nat.le_refl _) ?_
      exact hQ δ1 (vt_cg i1 (fun x _ m v h1 h4 => ⟨fun q => q.elim (fun q => q.2) (fun q => q.elim (fun q => by omega) (fun q => by omega)), fun q => Or.inl ⟨by omega, q⟩⟩)) i2
    )
  exact nloop 1 δ (by decide) ⟨Nat.le_refl _, vt_cg h (fun x _ m v hm _ => wa_0 hm), fun _ _ _ => rfl⟩
theorem g_Voc_fill (hb : bi_at δ 33 R) (hQ : ∀ δ', vt δ' (fun x n v => TW R x n v) → (∀ c q, c ≠ 75 → δ' c q = δ c q) → Q [] go_φ δ') : Go E (d + 3) (0, 0) mx_X10_fill go_φ 0 [(0, vv_A 74), (1, vv_A 33)] [] δ Q := by
  have l75 : go_ln 75 = 1674 := rfl
  have lets := lp_up (X := Nat → Nat → Int) (hi := 14) (I := fun l δ1 => 8 ≤ l ∧ (∀ x, 8 ≤ x → x < l → δ1 75 (27 * x) = vb (fun k => k = x - 8)) ∧ (∀ q, q < 1674 → (∀ x, 8 ≤ x → x < l → q ≠ 27 * x) → δ1 75 q = 0) ∧ (∀ c q, c ≠ 75 → δ1 c q = δ c q))
    (G := fun l δ1 => Go E (d + 3) (0, 0) mx_X10_fill go_φ 27 [(0, vv_A 74), (1, vv_A 33), (2, vv_I (l : Int))] [] δ1 Q)
    (fun l δ1 hl hI ih => by
      obtain ⟨i0, i1, i2, i3⟩ := hI
      refine go_iload_n (i := 2) dx_X10_fill_27 rfl rfl ?_
      refine go_bipush dx_X10_fill_28 rfl ?_
      refine go_icmp_ge (tgt := 56) dx_X10_fill_30 rfl (by omega) (by omega) (fun c30 => by exact absurd c30 (by omega)) (fun c30 => ?_)
      refine go_aload_n (i := 0) dx_X10_fill_33 rfl rfl ?_
      refine go_getA (b := 75) fs_X10_11 rfl (go_ok rfl rfl) rfl dx_X10_fill_34 ?_
      refine go_iload_n (i := 2) dx_X10_fill_37 rfl rfl ?_
      refine go_bipush dx_X10_fill_38 rfl ?_
      refine go_imul dx_X10_fill_40 ?_
      refine go_asI (y := ((27 * l : Nat) : Int)) (by omega) ?_
      refine go_lconst (x := 1) dx_X10_fill_41 rfl ?_
      refine go_iload_n (i := 2) dx_X10_fill_42 rfl rfl ?_
      refine go_bipush dx_X10_fill_43 rfl ?_
      refine go_isub dx_X10_fill_45 ?_
      refine go_asI (y := ((l - 8 : Nat) : Int)) (by omega) ?_
      refine go_lshl dx_X10_fill_46 ?_
      refine go_asL (y := (vb (fun k => k = l - 8))) (by rw [bw_bit (by omega), vb_one (by omega)]) ?_
      refine go_cS3 ss_X10_15 dx_X10_fill_47 (Nat.le_of_ble_eq_true rfl) (Nat.le_of_ble_eq_true rfl) (g_putLongN (i := 27 * l) (go_ok rfl rfl) (by omega) (show 27 * l < 1674 by omega) ?_)
      refine go_iinc (lv' := [(0, vv_A 74), (1, vv_A 33), (2, vv_I ((l : Int) + 1))]) dx_X10_fill_50 rfl (by decide) rfl ?_
      refine go_goto (tgt := 27) dx_X10_fill_53 rfl ?_
      refine ih _ ⟨by omega, fun x h8 hx => ?_, fun q hq hne => ?_, fun c q hc => by rw [wr_n (by omega)]; exact i3 c q hc⟩
      · by_cases e : x = l
        · subst e; rw [wr_eq]
        · rw [wr_n (by omega)]; exact i1 x h8 (by omega)
      · rw [wr_n (fun _ => hne l i0 (Nat.lt_succ_self _))]
        exact i2 q hq (fun x h8 hx => hne x h8 (by omega))
    ) (fun δ1 hI => by
      obtain ⟨i0, i1, i2, i3⟩ := hI
      refine go_iload_n (i := 2) dx_X10_fill_27 rfl rfl ?_
      refine go_bipush dx_X10_fill_28 rfl ?_
      refine go_icmp_ge (tgt := 56) dx_X10_fill_30 rfl (by omega) (by omega) (fun c30 => ?_) (fun c30 => by exact absurd c30 (by omega))
      refine go_iconst dx_X10_fill_56 ?_
      refine go_istore_n (i := 2) (lv' := [(0, vv_A 74), (1, vv_A 33), (2, vv_I 1)]) dx_X10_fill_57 rfl (by decide) rfl ?_
      refine g_Voc_fillN (bi_fr hb (fun c j h1 h2 => i3 c j (by omega))) (fun x hx n hn1 hn4 w hw => ?_) (fun δ2 q1 q2 => hQ δ2 q1 (fun c q hc => (q2 c q hc).trans (i3 c q hc)))
      obtain ⟨vn1, vn2⟩ := vof_up (show n < 5 by omega)
      by_cases e : n = 1 ∧ 8 ≤ x ∧ x < 14
      · obtain ⟨e1, e2, e3⟩ := e
        subst e1
        have hw : w < 1 - 0 := hw
        have w0 : w = 0 := by omega
        subst w0
        rw [show 27 * x + (vof 1 + 0) = 27 * x from rfl, i1 x e2 e3]
        exact vb_congr (fun b _ => ⟨fun q => ⟨e2, e3, rfl, by omega⟩, fun q => by have := q.2.2.2; omega⟩)
      · have v1 : n ≠ 1 → 1 ≤ vof n := fun q => by
          rcases (show n = 2 ∨ n = 3 ∨ n = 4 by omega) with z | z | z <;> subst z <;> decide
        have v2 : n = 1 → vof n = 0 ∧ w = 0 := fun q => by
          subst q
          have hw : w < 1 - 0 := hw
          exact ⟨rfl, by omega⟩
        rw [i2 _ (by omega) (fun x' h8 h14 hq => ?_), vb_0]
        · exact vb_congr (fun b _ => ⟨fun q => q.elim, fun q => e ⟨q.2.2.1, q.1, q.2.1⟩⟩)
        · by_cases z : n = 1
          · obtain ⟨z1, z2⟩ := v2 z
            exact e ⟨z, by omega, by omega⟩
          · have := v1 z
            omega
    )
  have zero := lp_up (X := Nat → Nat → Int) (hi := 1674) (I := fun i δ1 => (∀ q, q < i → δ1 75 q = 0) ∧ (∀ c q, c ≠ 75 → δ1 c q = δ c q))
    (G := fun i δ1 => Go E (d + 3) (0, 0) mx_X10_fill go_φ 2 [(0, vv_A 74), (1, vv_A 33), (2, vv_I (i : Int))] [] δ1 Q)
    (fun i δ1 hi hI ih => by
      obtain ⟨i1, i2⟩ := hI
      refine go_iload_n (i := 2) dx_X10_fill_2 rfl rfl ?_
      refine go_aload_n (i := 0) dx_X10_fill_3 rfl rfl ?_
      refine go_getA (b := 75) fs_X10_11 rfl (go_ok rfl rfl) rfl dx_X10_fill_4 ?_
      refine go_arraylength dx_X10_fill_7 ⟨(Or.inr (Or.inl rfl)), by decide⟩ ?_
      refine go_asI (y := 1674) (by rfl) ?_
      refine go_icmp_ge (tgt := 24) dx_X10_fill_8 rfl (by omega) (by omega) (fun c8 => by exact absurd c8 (by omega)) (fun c8 => ?_)
      refine go_aload_n (i := 0) dx_X10_fill_11 rfl rfl ?_
      refine go_getA (b := 75) fs_X10_11 rfl (go_ok rfl rfl) rfl dx_X10_fill_12 ?_
      refine go_iload_n (i := 2) dx_X10_fill_15 rfl rfl ?_
      refine go_lconst (x := 0) dx_X10_fill_16 rfl ?_
      refine go_lastoreV (i := i) dx_X10_fill_17 (go_ok rfl rfl) (by omega) (show i < 1674 by omega) ?_
      refine go_iinc (lv' := [(0, vv_A 74), (1, vv_A 33), (2, vv_I ((i : Int) + 1))]) dx_X10_fill_18 rfl (by decide) rfl ?_
      refine go_goto (tgt := 2) dx_X10_fill_21 rfl ?_
      refine ih _ ⟨fun q hq => ?_, fun c q hc => by rw [wr_n (by omega)]; exact i2 c q hc⟩
      by_cases e : q = i
      · subst e; rw [wr_eq]
      · rw [wr_n (by omega)]; exact i1 q (by omega)
    ) (fun δ1 hI => by
      obtain ⟨i1, i2⟩ := hI
      refine go_iload_n (i := 2) dx_X10_fill_2 rfl rfl ?_
      refine go_aload_n (i := 0) dx_X10_fill_3 rfl rfl ?_
      refine go_getA (b := 75) fs_X10_11 rfl (go_ok rfl rfl) rfl dx_X10_fill_4 ?_
      refine go_arraylength dx_X10_fill_7 ⟨(Or.inr (Or.inl rfl)), by decide⟩ ?_
      refine go_asI (y := 1674) (by rfl) ?_
      refine go_icmp_ge (tgt := 24) dx_X10_fill_8 rfl (by omega) (by omega) (fun c8 => ?_) (fun c8 => by exact absurd c8 (by omega))
      refine go_bipush dx_X10_fill_24 rfl ?_
      refine go_istore_n (i := 2) (lv' := [(0, vv_A 74), (1, vv_A 33), (2, vv_I ((8 : Nat) : Int))]) dx_X10_fill_26 rfl (by decide) rfl ?_
      exact lets 8 δ1 (by decide) ⟨Nat.le_refl _, fun x h8 hx => by omega, fun q hq _ => i1 q hq, i2⟩
    )
  refine go_iconst dx_X10_fill_0 ?_
  refine go_istore_n (i := 2) (lv' := [(0, vv_A 74), (1, vv_A 33), (2, vv_I 0)]) dx_X10_fill_1 rfl (by decide) rfl ?_
  exact zero 0 δ (Nat.zero_le _) ⟨fun q hq => absurd hq (Nat.not_lt_zero _), fun _ _ _ => rfl⟩
end GVOC6
