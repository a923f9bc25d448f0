/-! Vocabulary: liftSets, fill -/
theorem vt_cg {δ : Nat → Nat → Int} {WS WS' : Nat → Nat → Nat → Prop} (h : vt δ WS) (e : ∀ x, x < 62 → ∀ n v, 1 ≤ n → n ≤ 4 → (WS x n v ↔ WS' x n v)) : vt δ WS' := fun x hx n h1 h4 w hw => by
  rw [h x hx n h1 h4 w hw]
  exact vb_congr (fun b _ => e x hx n _ h1 h4)
theorem vt_fr {δ δ' : Nat → Nat → Int} {WS : Nat → Nat → Nat → Prop} (h : vt δ WS) (f : ∀ q, δ' 75 q = δ 75 q) : vt δ' WS := fun x hx n h1 h4 w hw => by rw [f]; exact h x hx n h1 h4 w hw
def TW (R : Nat → List Nat) (x n v : Nat) : Prop := v < 6 ^ n ∧ dx R x (wdn n v)
def W0 (x n v : Nat) : Prop := 8 ≤ x ∧ x < 14 ∧ n = 1 ∧ v = x - 8
def WB (R : Nat → List Nat) (n p k x v : Nat) : Prop := W0 x n v ∨ ∃ q e k' u t, (gP R)[q]? = some e ∧ (q < p ∨ (q = p ∧ k' < k)) ∧ 1 ≤ k' ∧ k' < n ∧ e.1 = x ∧ TW R e.2.1 k' u ∧ TW R e.2.2.1 (n - k') t ∧ v = u * 6 ^ (n - k') + t
def WA (R : Nat → List Nat) (n p k x m v : Nat) : Prop := (m < n ∧ TW R x m v) ∨ (m = n ∧ WB R n p k x v) ∨ (n < m ∧ W0 x m v)
theorem wdn_app : ∀ (j t k u : Nat), t < 6 ^ j → wdn (k + j) (u * 6 ^ j + t) = wdn k u ++ wdn j t
  | 0, t, k, u, h => by
    have e : t = 0 := by rw [Nat.pow_zero] at h; omega
    subst e
    rw [Nat.pow_zero, Nat.mul_one, Nat.add_zero, Nat.add_zero]
    show _ = wdn k u ++ []
    rw [List.append_nil]
  | j + 1, t, k, u, h => by
    rw [Nat.pow_succ] at h
    have e1 : u * 6 ^ (j + 1) + t = 6 * (u * 6 ^ j) + t := by rw [Nat.pow_succ, ← Nat.mul_assoc, Nat.mul_comm _ 6]
    show wdn (k + j) ((u * 6 ^ (j + 1) + t) / 6) ++ [8 + (u * 6 ^ (j + 1) + t) % 6] = wdn k u ++ (wdn j (t / 6) ++ [8 + t % 6])
    rw [e1, show (6 * (u * 6 ^ j) + t) / 6 = u * 6 ^ j + t / 6 by omega, show (6 * (u * 6 ^ j) + t) % 6 = t % 6 by omega, wdn_app j (t / 6) k u (by omega), List.append_assoc]
theorem wb_dxB {R : Nat → List Nat} {n k x v : Nat} (h1 : 1 ≤ n) (hk : k ≤ 1) : WB R n (gP R).length k x v ↔ (v < 6 ^ n ∧ dxB R x (wdn n v)) := by
  constructor
  · rintro (⟨a1, a2, a3, a4⟩ | ⟨q, e, k', u, t, b1, b2, b3, b4, b5, b6, b7, b8⟩)
    · subst a3 a4
      refine ⟨by omega, Or.inl ⟨a1, a2, ?_⟩⟩
      show [] ++ [8 + (x - 8) % 6] = [x]
      rw [show 8 + (x - 8) % 6 = x by omega]
      rfl
    · have hn : n = k' + (n - k') := by omega
      have hlt : v < 6 ^ n := by
        have e1 : (u + 1) * 6 ^ (n - k') ≤ 6 ^ k' * 6 ^ (n - k') := Nat.mul_le_mul_right _ b6.1
        rw [← Nat.pow_add, ← hn, Nat.add_mul, Nat.one_mul] at e1
        have := b7.1
        omega
      refine ⟨hlt, Or.inr ⟨e, List.mem_of_getElem? b1, b5, wdn k' u, wdn (n - k') t, ?_, b6.2, b7.2⟩⟩
      have ea := wdn_app (n - k') t k' u b7.1
      rw [← hn, ← b8] at ea
      exact ea
  · rintro ⟨hv, ⟨a1, a2, a3⟩ | ⟨e, he, b1, a, b, b2, b3, b4⟩⟩
    · have hl := congrArg List.length a3
      rw [wdn_len] at hl
      have e1 : n = 1 := hl
      subst e1
      have hv : v < 6 := hv
      have e2 : [8 + v % 6] = [x] := a3
      have e3 : 8 + v % 6 = x := by injection e2
      exact Or.inl ⟨a1, a2, rfl, by omega⟩
    · have hl := congrArg List.length b2
      rw [wdn_len, List.length_append] at hl
      have la : 0 < a.length := List.length_pos_iff.mpr b3.1
      have lb : 0 < b.length := List.length_pos_iff.mpr b4.1
      obtain ⟨q, hq, eq⟩ := List.getElem_of_mem he
      have hp := Nat.pow_pos (show 0 < 6 by decide) (n := b.length)
      have hdm := Nat.div_add_mod v (6 ^ b.length)
      have hmod := Nat.mod_lt v hp
      have ea := wdn_app b.length (v % 6 ^ b.length) a.length (v / 6 ^ b.length) hmod
      have ev : v / 6 ^ b.length * 6 ^ b.length + v % 6 ^ b.length = v := by rw [Nat.mul_comm]; exact hdm
      rw [ev, ← hl, b2] at ea
      obtain ⟨i1, i2⟩ := List.append_inj ea (by rw [wdn_len])
      have hu : v / 6 ^ b.length < 6 ^ a.length := by
        refine Nat.div_lt_of_lt_mul ?_
        rw [← Nat.pow_add, Nat.add_comm, ← hl]
        exact hv
      have enb : n - a.length = b.length := by omega
      refine Or.inr ⟨q, e, a.length, v / 6 ^ b.length, v % 6 ^ b.length, ?_, Or.inl hq, la, by omega, b1, ⟨hu, by rw [← i1]; exact b3⟩, by rw [enb]; exact ⟨hmod, by rw [← i2]; exact b4⟩, by rw [enb]; exact ev.symm⟩
      rw [List.getElem?_eq_getElem hq, eq]
section GVOC5
variable {E : go_E} {d : Nat} {δ : Nat → Nat → Int} {Q : List go_V → go_F → (Nat → Nat → Int) → Prop} {R : Nat → List Nat}
theorem g_Voc_liftSets {n : Nat} {WS : Nat → Nat → Nat → Prop} (hb : bi_at δ 33 R) (h1 : 1 ≤ n) (h4 : n ≤ 4) (h : vt δ WS) (hQ : ∀ δ', vt δ' (fun x m v => (m = n ∧ ufn R (fun x v => WS x n v) x v) ∨ (m ≠ n ∧ WS x m v)) → (∀ c q, c ≠ 75 → δ' c q = δ c q) → Q [] go_φ δ') :
    Go E (d + 2) (0, 0) mx_X10_liftSets go_φ 0 [(0, vv_A 74), (1, vv_A 33), (2, vv_I (n : Int))] [] δ Q := by
  have hR := hb.2.2.2.2.2.2
  have l39 : go_ln 39 = 8 := rfl
  obtain ⟨vn1, vn2⟩ := vof_up (show n < 5 by omega)
  obtain ⟨C, hC⟩ : ∃ C : Nat → Nat → Prop, C = fun x v => WS x n v := ⟨_, rfl⟩
  rw [← hC] at hQ
  have inner : ∀ x, x < 8 → ∀ X : (Nat → Nat → Int) × (Nat → Nat → Prop), (vt X.1 (fun x m v => (m = n ∧ X.2 x v) ∨ (m ≠ n ∧ WS x m v)) ∧ (∀ z v, C z v → X.2 z v) ∧ (∀ z v, X.2 z v → ufn R C z v) ∧ (∀ z v, z < x → ufn R C z v → X.2 z v) ∧ (∀ c q, c ≠ 75 → X.1 c q = δ c q)) →
      (∀ X : (Nat → Nat → Int) × (Nat → Nat → Prop), (vt X.1 (fun x m v => (m = n ∧ X.2 x v) ∨ (m ≠ n ∧ WS x m v)) ∧ (∀ z v, C z v → X.2 z v) ∧ (∀ z v, X.2 z v → ufn R C z v) ∧ (∀ z v, z < x + 1 → ufn R C z v → X.2 z v) ∧ (∀ c q, c ≠ 75 → X.1 c q = δ c q)) → Go E (d + 2) (0, 0) mx_X10_liftSets go_φ 2 [(0, vv_A 74), (1, vv_A 33), (2, vv_I (n : Int)), (3, vv_I ((x + 1 : Nat) : Int))] [] X.1 Q) →
      Go E (d + 2) (0, 0) mx_X10_liftSets go_φ 21 [(0, vv_A 74), (1, vv_A 33), (2, vv_I (n : Int)), (3, vv_I (x : Int)), (4, vv_I (mk 14 (ut R x) : Int)), (5, vv_I 0)] [] X.1 Q := by
    intro x hx X hX KK
    have h14 := mk_31 14 (ut R x) (by decide)
    refine lp_up (X := (Nat → Nat → Int) × (Nat → Nat → Prop)) (hi := 14)
      (I := fun y0 X => vt X.1 (fun x m v => (m = n ∧ X.2 x v) ∨ (m ≠ n ∧ WS x m v)) ∧ (∀ z v, C z v → X.2 z v) ∧ (∀ z v, X.2 z v → ufn R C z v) ∧ (∀ z v, z < x → ufn R C z v → X.2 z v) ∧ (∀ y v, y < y0 → ut R x y → C y v → X.2 x v) ∧ (∀ c q, c ≠ 75 → X.1 c q = δ c q))
      (G := fun y0 X => Go E (d + 2) (0, 0) mx_X10_liftSets go_φ 21 [(0, vv_A 74), (1, vv_A 33), (2, vv_I (n : Int)), (3, vv_I (x : Int)), (4, vv_I (mk 14 (ut R x) : Int)), (5, vv_I (y0 : Int))] [] X.1 Q)
      (fun y0 X hy hI ih => ?_) (fun X hI => ?_) 0 X (Nat.zero_le _) ⟨hX.1, hX.2.1, hX.2.2.1, hX.2.2.2.1, fun y v q => absurd q (Nat.not_lt_zero _), hX.2.2.2.2⟩
    · obtain ⟨δ1, D⟩ := X
      obtain ⟨i1, i2, i3, i4, i5, i6⟩ := hI
      dsimp only at i1 i2 i3 i4 i5 i6 ⊢
      have rowD : ∀ z, z < 62 → ∀ w, vof n ≤ w → w < vof (n + 1) → δ1 75 (27 * z + w) = vb (fun b => D z (64 * (w - vof n) + b)) := fun z hz w ha hb2 => by
        have := i1 z hz n h1 h4 (w - vof n) (by omega)
        rw [show vof n + (w - vof n) = w by omega] at this
        rw [this]
        exact vb_congr (fun b _ => ⟨fun q => q.elim (fun q => q.2) (fun q => absurd rfl q.1), fun q => Or.inl ⟨rfl, q⟩⟩)
      have ex := rowD x (by omega)
      have ey := rowD y0 (by omega)
      refine go_iload dx_X10_liftSets_21 rfl ?_
      refine go_bipush dx_X10_liftSets_23 rfl ?_
      refine go_icmp_ge (tgt := 58) dx_X10_liftSets_25 rfl (by omega) (by omega) (fun c25 => by exact absurd c25 (by omega)) (fun c25 => ?_)
      refine go_iload dx_X10_liftSets_28 rfl ?_
      refine go_iload dx_X10_liftSets_30 rfl ?_
      refine go_iushr dx_X10_liftSets_32 ?_
      refine go_iconst dx_X10_liftSets_33 ?_
      refine go_iand dx_X10_liftSets_34 ?_
      refine go_asI (y := (b01 ((mk 14 (ut R x)).testBit y0 = true))) (by exact bv_tstb h14 (by omega)) ?_
      refine go_b_eq (tgt := 52) dx_X10_liftSets_35 rfl (fun c35 => ?_) (fun c35 => ?_)
      · refine go_iinc (lv' := [(0, vv_A 74), (1, vv_A 33), (2, vv_I (n : Int)), (3, vv_I (x : Int)), (4, vv_I (mk 14 (ut R x) : Int)), (5, vv_I ((y0 : Int) + 1))]) dx_X10_liftSets_52 rfl (by decide) rfl ?_
        refine go_goto (tgt := 21) dx_X10_liftSets_55 rfl ?_
        exact ih (δ1, D) ⟨i1, i2, i3, i4, fun y v hy hu hc => by
          by_cases e : y = y0
          · subst e; exact absurd ((mk_bit _ _ _).mpr ⟨by omega, hu⟩) c35
          · exact i5 y v (by omega) hu hc, i6⟩
      · refine go_aload_n (i := 0) dx_X10_liftSets_38 rfl rfl ?_
        refine go_iload_n (i := 3) dx_X10_liftSets_39 rfl rfl ?_
        refine go_bipush dx_X10_liftSets_40 rfl ?_
        refine go_imul dx_X10_liftSets_42 ?_
        refine go_asI (y := ((27 * x : Nat) : Int)) (by omega) ?_
        refine go_iload dx_X10_liftSets_43 rfl ?_
        refine go_bipush dx_X10_liftSets_45 rfl ?_
        refine go_imul dx_X10_liftSets_47 ?_
        refine go_asI (y := ((27 * y0 : Nat) : Int)) (by omega) ?_
        refine go_iload_n (i := 2) dx_X10_liftSets_48 rfl rfl ?_
        refine go_cV3 sv_X10_68 (go_ok rfl rfl) dx_X10_liftSets_49 (Nat.le_of_ble_eq_true rfl) (Nat.le_of_ble_eq_true rfl) (g_Voc_addSet (P := fun w b => D x (64 * (w - vof n) + b)) (P' := fun w b => D y0 (64 * (w - vof n) + b)) (by omega) (by omega) (by omega) ex ey (fun δ2 q1 q2 => ?_))
        refine go_iinc (lv' := [(0, vv_A 74), (1, vv_A 33), (2, vv_I (n : Int)), (3, vv_I (x : Int)), (4, vv_I (mk 14 (ut R x) : Int)), (5, vv_I ((y0 : Int) + 1))]) dx_X10_liftSets_52 rfl (by decide) rfl ?_
        refine go_goto (tgt := 21) dx_X10_liftSets_55 rfl ?_
        have hu : ut R x y0 := ((mk_bit _ _ _).mp c35).2
        refine ih (δ2, fun z v => if z = x then D x v ∨ D y0 v else D z v) ⟨fun z hz m hm1 hm4 w hw => ?_, fun z v hc => ?_, fun z v hd => ?_, fun z v hz hf2 => ?_, fun y v hy2 hu2 hc => ?_, fun c q hc => (q2 c q (fun e => absurd e hc)).trans (i6 c q hc)⟩
        · obtain ⟨vm1, vm2⟩ := vof_up (show m < 5 by omega)
          show δ2 75 (27 * z + (vof m + w)) = _
          by_cases e : z = x ∧ m = n
          · obtain ⟨e1, e2⟩ := e
            rw [e2] at hw ⊢
            rw [e1, q1 (vof n + w) (by omega) (by omega), show vof n + w - vof n = w by omega]
            exact vb_congr (fun b _ => ⟨fun q => Or.inl ⟨rfl, show (if x = x then D x (64 * w + b) ∨ D y0 (64 * w + b) else D x (64 * w + b)) by rw [if_pos rfl]; exact q⟩, fun q => q.elim (fun q => by have q2 : (if x = x then D x (64 * w + b) ∨ D y0 (64 * w + b) else D x (64 * w + b)) := q.2; rw [if_pos rfl] at q2; exact q2) (fun q => absurd rfl q.1)⟩)
          · rw [q2 75 _ (fun _ w' ha hb2 => by
              by_cases e1 : z = x
              · have hmn : m ≠ n := fun q => e ⟨e1, q⟩
                rcases Nat.lt_or_ge m n with q | q
                · have := vof_mono q (by omega)
                  omega
                · have := vof_mono (show n < m by omega) hm4
                  omega
              · omega), i1 z hz m hm1 hm4 w hw]
            refine vb_congr (fun b _ => or_congr (and_congr_right (fun em => ?_)) Iff.rfl)
            have hzx : z ≠ x := fun q => e ⟨q, em⟩
            dsimp only
            rw [if_neg hzx]
        · dsimp only
          by_cases e : z = x
          · subst e; rw [if_pos rfl]; exact Or.inl (i2 z v hc)
          · rw [if_neg e]; exact i2 z v hc
        · dsimp only at hd
          by_cases e : z = x
          · subst e
            rw [if_pos rfl] at hd
            rcases hd with q | q
            · exact i3 z v q
            · rcases i3 y0 v q with w | ⟨y, w1, w2⟩
              · exact Or.inr ⟨y0, hu, w⟩
              · exact Or.inr ⟨y, ut_trans hu w1, w2⟩
          · rw [if_neg e] at hd; exact i3 z v hd
        · dsimp only
          rw [if_neg (by omega)]
          exact i4 z v hz hf2
        · dsimp only
          rw [if_pos rfl]
          by_cases e : y = y0
          · subst e; exact Or.inr (i2 y v hc)
          · exact Or.inl (i5 y v (by omega) hu2 hc)
    · obtain ⟨δ1, D⟩ := X
      obtain ⟨i1, i2, i3, i4, i5, i6⟩ := hI
      dsimp only at i1 i2 i3 i4 i5 i6 ⊢
      refine go_iload dx_X10_liftSets_21 rfl ?_
      refine go_bipush dx_X10_liftSets_23 rfl ?_
      refine go_icmp_ge (tgt := 58) dx_X10_liftSets_25 rfl (by omega) (by omega) (fun c25 => ?_) (fun c25 => by exact absurd c25 (by omega))
      refine go_iinc (lv' := [(0, vv_A 74), (1, vv_A 33), (2, vv_I (n : Int)), (3, vv_I ((x : Int) + 1)), (4, vv_I (mk 14 (ut R x) : Int)), (5, vv_I ((14 : Nat) : Int))]) dx_X10_liftSets_58 rfl (by decide) rfl ?_
      refine go_goto (tgt := 2) dx_X10_liftSets_61 rfl ?_
      refine go_keep [0, 1, 2, 3] rfl ?_
      exact KK (δ1, D) ⟨i1, i2, i3, fun z v hz hf2 => by
        by_cases e : z = x
        · subst e
          rcases hf2 with q | ⟨y, q1, q2⟩
          · exact i2 z v q
          · exact i5 y v (ut_lt hR q1).2 q1 q2
        · exact i4 z v (by omega) hf2, i6⟩
  have outer := lp_up (X := (Nat → Nat → Int) × (Nat → Nat → Prop)) (hi := 8)
    (I := fun x X => vt X.1 (fun x m v => (m = n ∧ X.2 x v) ∨ (m ≠ n ∧ WS x m v)) ∧ (∀ z v, C z v → X.2 z v) ∧ (∀ z v, X.2 z v → ufn R C z v) ∧ (∀ z v, z < x → ufn R C z v → X.2 z v) ∧ (∀ c q, c ≠ 75 → X.1 c q = δ c q))
    (G := fun x X => Go E (d + 2) (0, 0) mx_X10_liftSets go_φ 2 [(0, vv_A 74), (1, vv_A 33), (2, vv_I (n : Int)), (3, vv_I (x : Int))] [] X.1 Q)
    (fun x X hx hI ih => by
      have hur : X.1 39 x = (mk 14 (ut R x) : Int) := by rw [hI.2.2.2.2 _ _ (by omega)]; exact hb.2.2.2.2.2.1 x hx
      refine go_iload_n (i := 3) dx_X10_liftSets_2 rfl rfl ?_
      refine go_bipush dx_X10_liftSets_3 rfl ?_
      refine go_icmp_ge (tgt := 64) dx_X10_liftSets_5 rfl (by omega) (by omega) (fun c5 => by exact absurd c5 (by omega)) (fun c5 => ?_)
      refine go_aload_n (i := 1) dx_X10_liftSets_8 rfl rfl ?_
      refine go_getA (b := 39) fs_X10_65 rfl (go_ok rfl rfl) rfl dx_X10_liftSets_9 ?_
      refine go_iload_n (i := 3) dx_X10_liftSets_12 rfl rfl ?_
      refine go_cS2 ss_X10_29 dx_X10_liftSets_13 (Nat.le_of_ble_eq_true rfl) (Nat.le_of_ble_eq_true rfl) (g_intAtV (i := x) (v := ((mk 14 (ut R x) : Int))) (go_ok rfl rfl) (by omega) (show x < 8 by omega) (by exact hur) ?_)
      refine go_istore (lv' := [(0, vv_A 74), (1, vv_A 33), (2, vv_I (n : Int)), (3, vv_I (x : Int)), (4, vv_I ((mk 14 (ut R x) : Int)))]) dx_X10_liftSets_16 (by decide) rfl ?_
      refine go_iconst dx_X10_liftSets_18 ?_
      refine go_istore (lv' := [(0, vv_A 74), (1, vv_A 33), (2, vv_I (n : Int)), (3, vv_I (x : Int)), (4, vv_I ((mk 14 (ut R x) : Int))), (5, vv_I 0)]) dx_X10_liftSets_19 (by decide) rfl ?_
      exact inner x hx X hI ih
    ) (fun X hI => by
      refine go_iload_n (i := 3) dx_X10_liftSets_2 rfl rfl ?_
      refine go_bipush dx_X10_liftSets_3 rfl ?_
      refine go_icmp_ge (tgt := 64) dx_X10_liftSets_5 rfl (by omega) (by omega) (fun c5 => ?_) (fun c5 => by exact absurd c5 (by omega))
      refine go_vreturn dx_X10_liftSets_64 rfl (Nat.le_refl _) (Nat.le_refl _) ?_
      refine hQ X.1 (vt_cg hI.1 (fun x _ m v _ _ => or_congr (and_congr_right (fun _ => ⟨hI.2.2.1 x v, fun q => ?_⟩)) Iff.rfl)) hI.2.2.2.2
      by_cases h8 : x < 8
      · exact hI.2.2.2.1 x v h8 q
      · exact hI.2.1 x v (q.elim id (fun ⟨y, y1, _⟩ => absurd (ut_lt hR y1).1 h8))
    )
  refine go_iconst dx_X10_liftSets_0 ?_
  refine go_istore_n (i := 3) (lv' := [(0, vv_A 74), (1, vv_A 33), (2, vv_I (n : Int)), (3, vv_I 0)]) dx_X10_liftSets_1 rfl (by decide) rfl ?_
  refine outer 0 (δ, C) (Nat.zero_le _) ⟨vt_cg h (fun x _ m v _ _ => ?_), fun _ _ q => q, fun _ _ q => Or.inl q, fun z v q => absurd q (Nat.not_lt_zero _), fun _ _ _ => rfl⟩
  by_cases e : m = n
  · subst e
    rw [hC]
    exact ⟨fun q => Or.inl ⟨rfl, q⟩, fun q => q.elim (fun q => q.2) (fun q => q.2)⟩
  · exact ⟨fun q => Or.inr ⟨e, q⟩, fun q => q.elim (fun q => absurd q.1 e) (fun q => q.2)⟩
end GVOC5
