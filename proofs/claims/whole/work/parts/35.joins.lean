/-! the class's binary rules: joins, lifts, what is open, what is reached -/
def sy_at (δ : Nat → Nat → Int) (o : Nat) (F : Nat) : Prop := δ o 11 = (F : Int)
/-- from one, step by step, what rules have -/
def rc (R : Nat → List Nat) (t y : Nat) : Prop := ∀ P : Nat → Prop, P t → (∀ a b, P a → usp R 16 a b → b < 8 → P b) → P y
theorem rc_rf {R : Nat → List Nat} {t : Nat} : rc R t t := fun _ h _ => h
theorem rc_st {R : Nat → List Nat} {t a b : Nat} (h : rc R t a) (h1 : usp R 16 a b) (h2 : b < 8) : rc R t b := fun P g1 g2 => g2 a b (h P g1 g2) h1 h2
/-- what is open: some, what begins by one of them, what units lead to one of them -/
def oc (R : Nat → List Nat) (F s x : Nat) : Prop := ∀ P : Nat → Prop, (∀ y, s.testBit y = true → P y) → (∀ e, e ∈ gP R → P e.2.1 → F.testBit e.2.2.1 = true → P e.1) → (∀ a b, ut R a b → P b → P a) → P x
theorem oc_in {R : Nat → List Nat} {F s x : Nat} (h : s.testBit x = true) : oc R F s x := fun _ h1 _ _ => h1 x h
theorem oc_pr {R : Nat → List Nat} {F s : Nat} {e : tP} (he : e ∈ gP R) (h : oc R F s e.2.1) (h2 : F.testBit e.2.2.1 = true) : oc R F s e.1 := fun P g1 g2 g3 => g2 e he (h P g1 g2 g3) h2
theorem oc_ut {R : Nat → List Nat} {F s a b : Nat} (h : ut R a b) (h2 : oc R F s b) : oc R F s a := fun P g1 g2 g3 => g3 a b h (h2 P g1 g2 g3)
theorem jnp_s {R : Nat → List Nat} {l r p x : Nat} (hp : p < (gP R).length) : jnp R l r (p + 1) x ↔ jnp R l r p x ∨ (((gP R)[p]'hp).1 = x ∧ l.testBit ((gP R)[p]'hp).2.1 = true ∧ r.testBit ((gP R)[p]'hp).2.2.1 = true) := by
  unfold jnp
  rw [← List.take_append_getElem hp]
  constructor
  · rintro ⟨e, he, h⟩
    rcases List.mem_append.mp he with q | q
    · exact Or.inl ⟨e, q, h⟩
    · rw [List.mem_singleton] at q
      subst q
      exact Or.inr h
  · rintro (⟨e, he, h⟩ | h)
    · exact ⟨e, List.mem_append.mpr (Or.inl he), h⟩
    · exact ⟨_, List.mem_append.mpr (Or.inr (List.mem_singleton.mpr rfl)), h⟩
theorem jnp_0 {R : Nat → List Nat} {l r x : Nat} : ¬ jnp R l r 0 x := fun ⟨e, he, _⟩ => by rw [List.take_zero] at he; cases he
theorem jnp_e {R : Nat → List Nat} {l r x : Nat} : jnp R l r (gP R).length x ↔ jn R l r x := by unfold jnp jn; rw [List.take_length]
theorem lfp_s {R : Nat → List Nat} {s n x : Nat} : lfp R s (n + 1) x ↔ lfp R s n x ∨ (n = x ∧ ∃ y, ut R n y ∧ s.testBit y = true) := by
  unfold lfp
  constructor
  · rintro (h | ⟨h1, h2⟩)
    · exact Or.inl (Or.inl h)
    · by_cases e : n = x
      · subst e; exact Or.inr ⟨rfl, h2⟩
      · exact Or.inl (Or.inr ⟨by omega, h2⟩)
  · rintro ((h | ⟨h1, h2⟩) | ⟨h1, h2⟩)
    · exact Or.inl h
    · exact Or.inr ⟨by omega, h2⟩
    · subst h1; exact Or.inr ⟨by omega, h2⟩
section GJOIN
variable {E : go_E} {d : Nat} {δ : Nat → Nat → Int} {Q : List go_V → go_F → (Nat → Nat → Int) → Prop} {o : Nat} {R : Nat → List Nat} {K : sK}
theorem g_Binary_fits {e : tP} {l r : Nat} (h : pe_ok e) (hl : l < 9223372036854775808) (hr : r < 9223372036854775808) (hQ : Q [vv_I (b01 (l.testBit e.2.1 = true ∧ r.testBit e.2.2.1 = true))] go_φ δ) :
    Go E (d + 1) (0, 0) mx_X0_fits go_φ 0 [(0, vv_I (pe e : Int)), (1, vv_L (l : Int)), (3, vv_L (r : Int))] [] δ Q := by
  refine go_lload_n (i := 1) dx_X0_fits_0 rfl rfl ?_
  refine go_iload_n (i := 0) dx_X0_fits_1 rfl rfl ?_
  refine go_cS1 ss_X0_110 dx_X0_fits_2 (Nat.le_of_ble_eq_true rfl) (Nat.le_of_ble_eq_true rfl) (g_leftOf h ?_)
  refine go_lushr dx_X0_fits_5 ?_
  refine go_lload_n (i := 3) dx_X0_fits_6 rfl rfl ?_
  refine go_iload_n (i := 0) dx_X0_fits_7 rfl rfl ?_
  refine go_cS1 ss_X0_113 dx_X0_fits_8 (Nat.le_of_ble_eq_true rfl) (Nat.le_of_ble_eq_true rfl) (g_rightOf h ?_)
  refine go_lushr dx_X0_fits_11 ?_
  refine go_land dx_X0_fits_12 ?_
  refine go_lconst (x := 1) dx_X0_fits_13 rfl ?_
  refine go_land dx_X0_fits_14 ?_
  refine go_asL (y := (b01 (l.testBit e.2.1 = true ∧ r.testBit e.2.2.1 = true))) (by exact bw_fit hl hr h.2.1 h.2.2.1) ?_
  refine go_lconst (x := 0) dx_X0_fits_15 rfl ?_
  refine go_bl_eq (tgt := 24) dx_X0_fits_16 dx_X0_fits_17 rfl (fun c16 => ?_) (fun c16 => ?_)
  · refine go_iconst dx_X0_fits_24 ?_
    refine go_zreturn dx_X0_fits_25 rfl (by first | exact Or.inl rfl | exact Or.inr rfl | assumption | omega) (Nat.le_refl _) (Nat.le_refl _) ?_
    first | (rw [b01_t c16] at hQ; exact hQ) | (rw [b01_f c16] at hQ; exact hQ)
  · refine go_iconst dx_X0_fits_20 ?_
    refine go_goto (tgt := 25) dx_X0_fits_21 rfl ?_
    refine go_zreturn dx_X0_fits_25 rfl (by first | exact Or.inl rfl | exact Or.inr rfl | assumption | omega) (Nat.le_refl _) (Nat.le_refl _) ?_
    first | (rw [b01_t c16] at hQ; exact hQ) | (rw [b01_f c16] at hQ; exact hQ)
theorem g_Binary_joinAll {l r : Nat} (ho : bi_ok o) (h : bi_at δ o R) (hl : l < 2 ^ 62) (hr : r < 2 ^ 62) (hQ : Q [vv_L (mk 62 (jn R l r) : Int)] go_φ δ) :
    Go E (d + 2) (0, 0) mx_X0_joinAll go_φ 0 [(0, vv_A o), (1, vv_L (l : Int)), (3, vv_L (r : Int))] [] δ Q := by
  have hl63 := bt_m63 hl (by decide)
  have hr63 := bt_m63 hr (by decide)
  have hpl := gP_le h.2.2.2.2.2.2
  have hcnt := h.1.1
  have loop := lp_up (X := Unit) (hi := (gP R).length) (I := fun _ _ => True)
    (G := fun p _ => ∀ lv0, lv0 = [(0, vv_A o), (1, vv_L (l : Int)), (3, vv_L (r : Int)), (5, vv_L (mk 62 (jnp R l r p) : Int)), (7, vv_I (p : Int))] → Go E (d + 2) (0, 0) mx_X0_joinAll go_φ 20 lv0 [] δ Q)
    (fun p _ hp _ ih lv0 e0 => by
      subst e0
      obtain ⟨e, he⟩ : ∃ e, (gP R)[p]'hp = e := ⟨_, rfl⟩
      have hem : e ∈ gP R := by rw [← he]; exact List.getElem_mem hp
      have hpe := pe_ok_of h.2.2.2.2.2.2 hem
      have hm := (pe_lt62 h.2.2.2.2.2.2 hem).1
      have hcode := h.1.2.1 p hp
      have hjs := fun x => @jnp_s R l r p x hp
      rw [he] at hcode
      simp only [he] at hjs
      refine go_iload dx_X0_joinAll_20 rfl ?_
      refine go_aload_n (i := 0) dx_X0_joinAll_22 rfl rfl ?_
      refine go_getI fs_X0_42 (Or.inl rfl) (bi_k0 ho) dx_X0_joinAll_23 ?_
      refine go_asI (y := ((gP R).length : Int)) (by exact hcnt) ?_
      refine go_icmp_ge (tgt := 68) dx_X0_joinAll_26 rfl (by omega) (by omega) (fun c26 => by exact absurd c26 (by omega)) (fun c26 => ?_)
      refine go_aload_n (i := 0) dx_X0_joinAll_29 rfl rfl ?_
      refine go_getA (b := (o + 1)) fs_X0_9 rfl (bi_k0 ho) (bi_r0 ho) dx_X0_joinAll_30 ?_
      refine go_iload dx_X0_joinAll_33 rfl ?_
      refine go_cS2 ss_X0_75 dx_X0_joinAll_35 (Nat.le_of_ble_eq_true rfl) (Nat.le_of_ble_eq_true rfl) (g_intAtV (i := p) (v := ((pe e : Int))) (bi_k1 ho) (by omega) (by rw [(bi_l1 ho)]; omega) (by exact hcode) ?_)
      refine go_istore (lv' := [(0, vv_A o), (1, vv_L (l : Int)), (3, vv_L (r : Int)), (5, vv_L (mk 62 (jnp R l r p) : Int)), (7, vv_I (p : Int)), (8, vv_I ((pe e : Int)))]) dx_X0_joinAll_38 (by decide) rfl ?_
      refine go_iload dx_X0_joinAll_40 rfl ?_
      refine go_lload_n (i := 1) dx_X0_joinAll_42 rfl rfl ?_
      refine go_lload_n (i := 3) dx_X0_joinAll_43 rfl rfl ?_
      refine go_cS3 ss_X0_116 dx_X0_joinAll_44 (Nat.le_of_ble_eq_true rfl) (Nat.le_of_ble_eq_true rfl) (g_Binary_fits hpe hl63 hr63 ?_)
      refine go_b_eq (tgt := 62) dx_X0_joinAll_47 rfl (fun c47 => ?_) (fun c47 => ?_)
      · refine go_iinc (lv' := [(0, vv_A o), (1, vv_L (l : Int)), (3, vv_L (r : Int)), (5, vv_L (mk 62 (jnp R l r p) : Int)), (7, vv_I ((p : Int) + 1)), (8, vv_I ((pe e : Int)))]) dx_X0_joinAll_62 rfl (by decide) rfl ?_
        refine go_goto (tgt := 20) dx_X0_joinAll_65 rfl ?_
        refine go_keep [0, 1, 2, 3, 4] rfl ?_
        have e3 : mk 62 (jnp R l r p) = mk 62 (jnp R l r (p + 1)) := mk_congr (fun x _ => by rw [hjs]; exact ⟨Or.inl, fun q => q.elim id (fun z => absurd z.2 c47)⟩)
        rw [e3]
        exact ih () trivial _ rfl
      · refine go_lload dx_X0_joinAll_50 rfl ?_
        refine go_lconst (x := 1) dx_X0_joinAll_52 rfl ?_
        refine go_iload dx_X0_joinAll_53 rfl ?_
        refine go_cS1 ss_X0_120 dx_X0_joinAll_55 (Nat.le_of_ble_eq_true rfl) (Nat.le_of_ble_eq_true rfl) (g_madeOf hpe ?_)
        refine go_lshl dx_X0_joinAll_58 ?_
        refine go_asL (y := ((2 ^ e.1 : Nat) : Int)) (by exact bw_bit (by omega)) ?_
        refine go_lor dx_X0_joinAll_59 ?_
        refine go_asL (y := (mk 62 (jnp R l r (p + 1)) : Int)) (by rw [bw_orN (mk_63 62 _ (by decide)) (bt_p63 hm (by decide)), mk_one hm, mk_or]; exact congrArg _ (mk_congr (fun x _ => by rw [hjs]; exact ⟨fun q => q.elim Or.inl (fun z => Or.inr ⟨z, c47⟩), fun q => q.elim Or.inl (fun z => Or.inr z.1)⟩))) ?_
        refine go_lstore (lv' := [(0, vv_A o), (1, vv_L (l : Int)), (3, vv_L (r : Int)), (5, vv_L (mk 62 (jnp R l r (p + 1)) : Int)), (7, vv_I (p : Int)), (8, vv_I ((pe e : Int)))]) dx_X0_joinAll_60 (by decide) rfl ?_
        refine go_iinc (lv' := [(0, vv_A o), (1, vv_L (l : Int)), (3, vv_L (r : Int)), (5, vv_L (mk 62 (jnp R l r (p + 1)) : Int)), (7, vv_I ((p : Int) + 1)), (8, vv_I ((pe e : Int)))]) dx_X0_joinAll_62 rfl (by decide) rfl ?_
        refine go_goto (tgt := 20) dx_X0_joinAll_65 rfl ?_
        refine go_keep [0, 1, 2, 3, 4] rfl ?_
        exact ih () trivial _ rfl
    ) (fun _ _ lv0 e0 => by
      subst e0
      refine go_iload dx_X0_joinAll_20 rfl ?_
      refine go_aload_n (i := 0) dx_X0_joinAll_22 rfl rfl ?_
      refine go_getI fs_X0_42 (Or.inl rfl) (bi_k0 ho) dx_X0_joinAll_23 ?_
      refine go_asI (y := ((gP R).length : Int)) (by exact hcnt) ?_
      refine go_icmp_ge (tgt := 68) dx_X0_joinAll_26 rfl (by omega) (by omega) (fun c26 => ?_) (fun c26 => by exact absurd c26 (by omega))
      refine go_lload dx_X0_joinAll_68 rfl ?_
      refine go_lreturn dx_X0_joinAll_70 rfl (Nat.le_refl _) (Nat.le_refl _) ?_
      rw [mk_congr (fun x _ => jnp_e)]
      exact hQ
    )
  refine go_lload_n (i := 1) dx_X0_joinAll_0 rfl rfl ?_
  refine go_lconst (x := 0) dx_X0_joinAll_1 rfl ?_
  refine go_lcmp_eq (tgt := 12) dx_X0_joinAll_2 dx_X0_joinAll_3 rfl (by omega) (by omega) (fun c2 => ?_) (fun c2 => ?_)
  · refine go_lconst (x := 0) dx_X0_joinAll_12 rfl ?_
    refine go_lreturn dx_X0_joinAll_13 rfl (Nat.le_refl _) (Nat.le_refl _) ?_
    have e : mk 62 (jn R l r) = 0 := mk_zero (fun x _ ⟨e, _, _, q1, q2⟩ => by
      first
        | (have hz : l = 0 := by omega
           subst hz
           rw [Nat.zero_testBit] at q1
           cases q1)
        | (have hz : r = 0 := by omega
           subst hz
           rw [Nat.zero_testBit] at q2
           cases q2))
    rw [e] at hQ
    exact hQ
  · refine go_lload_n (i := 3) dx_X0_joinAll_6 rfl rfl ?_
    refine go_lconst (x := 0) dx_X0_joinAll_7 rfl ?_
    refine go_lcmp_ne (tgt := 14) dx_X0_joinAll_8 dx_X0_joinAll_9 rfl (by omega) (by omega) (fun c8 => ?_) (fun c8 => ?_)
    · have e : (0 : Int) = (mk 62 (jnp R l r 0) : Int) := by rw [mk_zero (fun x _ => jnp_0)]; rfl
      refine go_lconst (x := 0) dx_X0_joinAll_14 rfl ?_
      refine go_asL (y := (mk 62 (jnp R l r 0) : Int)) (by exact e) ?_
      refine go_lstore (lv' := [(0, vv_A o), (1, vv_L (l : Int)), (3, vv_L (r : Int)), (5, vv_L (mk 62 (jnp R l r 0) : Int))]) dx_X0_joinAll_15 (by decide) rfl ?_
      refine go_iconst dx_X0_joinAll_17 ?_
      refine go_istore (lv' := [(0, vv_A o), (1, vv_L (l : Int)), (3, vv_L (r : Int)), (5, vv_L (mk 62 (jnp R l r 0) : Int)), (7, vv_I 0)]) dx_X0_joinAll_18 (by decide) rfl ?_
      exact loop 0 () (Nat.zero_le _) trivial _ rfl
    · refine go_lconst (x := 0) dx_X0_joinAll_12 rfl ?_
      refine go_lreturn dx_X0_joinAll_13 rfl (Nat.le_refl _) (Nat.le_refl _) ?_
      have e : mk 62 (jn R l r) = 0 := mk_zero (fun x _ ⟨e, _, _, q1, q2⟩ => by
        first
          | (have hz : l = 0 := by omega
             subst hz
             rw [Nat.zero_testBit] at q1
             cases q1)
          | (have hz : r = 0 := by omega
             subst hz
             rw [Nat.zero_testBit] at q2
             cases q2))
      rw [e] at hQ
      exact hQ
theorem g_Binary_liftAll {s : Nat} (ho : bi_ok o) (h : bi_at δ o R) (hs : s < 2 ^ 62) (hQ : Q [vv_L (mk 62 (lf R s) : Int)] go_φ δ) :
    Go E (d + 1) (0, 0) mx_X0_liftAll go_φ 0 [(0, vv_A o), (1, vv_L (s : Int))] [] δ Q := by
  have hs63 := bt_m63 hs (by decide)
  have loop := lp_up (X := Unit) (hi := 8) (I := fun _ _ => True)
    (G := fun x _ => Go E (d + 1) (0, 0) mx_X0_liftAll go_φ 5 [(0, vv_A o), (1, vv_L (s : Int)), (3, vv_L (mk 62 (lfp R s x) : Int)), (5, vv_I (x : Int))] [] δ Q)
    (fun x _ hx _ ih => by
      have h14 := mk_31 14 (ut R x) (by decide)
      have hlt : mk 14 (ut R x) &&& s < 9223372036854775808 := Nat.lt_of_le_of_lt Nat.and_le_right hs63
      have hnz : mk 14 (ut R x) &&& s = 0 ↔ ¬ ∃ y, ut R x y ∧ s.testBit y = true := by
        rw [bt_and0]
        exact ⟨fun q ⟨y, q1, q2⟩ => q y ((mk_bit14 R x y h.2.2.2.2.2.2).mpr q1) q2, fun q y q1 q2 => q ⟨y, (mk_bit14 R x y h.2.2.2.2.2.2).mp q1, q2⟩⟩
      refine go_iload dx_X0_liftAll_5 rfl ?_
      refine go_bipush dx_X0_liftAll_7 rfl ?_
      refine go_icmp_ge (tgt := 42) dx_X0_liftAll_9 rfl (by omega) (by omega) (fun c9 => by exact absurd c9 (by omega)) (fun c9 => ?_)
      refine go_aload_n (i := 0) dx_X0_liftAll_12 rfl rfl ?_
      refine go_getA (b := (o + 6)) fs_X0_27 rfl (bi_k0 ho) (bi_r7 ho) dx_X0_liftAll_13 ?_
      refine go_iload dx_X0_liftAll_16 rfl ?_
      refine go_cS2 ss_X0_75 dx_X0_liftAll_18 (Nat.le_of_ble_eq_true rfl) (Nat.le_of_ble_eq_true rfl) (g_intAtV (i := x) (v := ((mk 14 (ut R x) : Int))) (bi_k6 ho) (by omega) (by rw [(bi_l6 ho)]; omega) (by exact h.2.2.2.2.2.1 x hx) ?_)
      refine go_i2l dx_X0_liftAll_21 (by omega) ?_
      refine go_lload_n (i := 1) dx_X0_liftAll_22 rfl rfl ?_
      refine go_land dx_X0_liftAll_23 ?_
      refine go_asL (y := ((mk 14 (ut R x) &&& s : Nat) : Int)) (by exact bw_andN (by omega) hs63) ?_
      refine go_lconst (x := 0) dx_X0_liftAll_24 rfl ?_
      refine go_lcmp_eq (tgt := 36) dx_X0_liftAll_25 dx_X0_liftAll_26 rfl (by omega) (by omega) (fun c25 => ?_) (fun c25 => ?_)
      · refine go_iinc (lv' := [(0, vv_A o), (1, vv_L (s : Int)), (3, vv_L (mk 62 (lfp R s x) : Int)), (5, vv_I ((x : Int) + 1))]) dx_X0_liftAll_36 rfl (by decide) rfl ?_
        refine go_goto (tgt := 5) dx_X0_liftAll_39 rfl ?_
        have e : mk 62 (lfp R s x) = mk 62 (lfp R s (x + 1)) := mk_congr (fun y _ => by rw [lfp_s]; exact ⟨Or.inl, fun q => q.elim id (fun z => absurd z.2 (hnz.mp (by omega)))⟩)
        rw [e]
        exact ih () trivial
      · refine go_lload_n (i := 3) dx_X0_liftAll_29 rfl rfl ?_
        refine go_lconst (x := 1) dx_X0_liftAll_30 rfl ?_
        refine go_iload dx_X0_liftAll_31 rfl ?_
        refine go_lshl dx_X0_liftAll_33 ?_
        refine go_asL (y := ((2 ^ x : Nat) : Int)) (by exact bw_bit (by omega)) ?_
        refine go_lor dx_X0_liftAll_34 ?_
        refine go_asL (y := (mk 62 (lfp R s (x + 1)) : Int)) (by rw [bw_orN (mk_63 62 _ (by decide)) (bt_p63 (show x < 62 by omega) (by decide)), mk_one (show x < 62 by omega), mk_or]; exact congrArg _ (mk_congr (fun y _ => by rw [lfp_s]; exact ⟨fun q => q.elim Or.inl (fun z => Or.inr ⟨z, Classical.byContradiction (fun w => c25 (by rw [hnz.mpr w]; rfl))⟩), fun q => q.elim Or.inl (fun z => Or.inr z.1)⟩))) ?_
        refine go_lstore_n (i := 3) (lv' := [(0, vv_A o), (1, vv_L (s : Int)), (3, vv_L (mk 62 (lfp R s (x + 1)) : Int)), (5, vv_I (x : Int))]) dx_X0_liftAll_35 rfl (by decide) rfl ?_
        refine go_iinc (lv' := [(0, vv_A o), (1, vv_L (s : Int)), (3, vv_L (mk 62 (lfp R s (x + 1)) : Int)), (5, vv_I ((x : Int) + 1))]) dx_X0_liftAll_36 rfl (by decide) rfl ?_
        refine go_goto (tgt := 5) dx_X0_liftAll_39 rfl ?_
        exact ih () trivial
    ) (fun _ _ => by
      refine go_iload dx_X0_liftAll_5 rfl ?_
      refine go_bipush dx_X0_liftAll_7 rfl ?_
      refine go_icmp_ge (tgt := 42) dx_X0_liftAll_9 rfl (by omega) (by omega) (fun c9 => ?_) (fun c9 => by exact absurd c9 (by omega))
      refine go_lload_n (i := 3) dx_X0_liftAll_42 rfl rfl ?_
      refine go_lreturn dx_X0_liftAll_43 rfl (Nat.le_refl _) (Nat.le_refl _) ?_
      have e : mk 62 (lfp R s 8) = mk 62 (lf R s) := mk_congr (fun x _ => ⟨fun q => q.elim Or.inl (fun z => Or.inr z.2), fun q => q.elim Or.inl (fun ⟨y, z1, z2⟩ => Or.inr ⟨(ut_lt h.2.2.2.2.2.2 z1).1, y, z1, z2⟩)⟩)
      rw [e]
      exact hQ
    )
  refine go_lload_n (i := 1) dx_X0_liftAll_0 rfl rfl ?_
  refine go_lstore_n (i := 3) (lv' := [(0, vv_A o), (1, vv_L (s : Int)), (3, vv_L (s : Int))]) dx_X0_liftAll_1 rfl (by decide) rfl ?_
  refine go_iconst dx_X0_liftAll_2 ?_
  refine go_istore (lv' := [(0, vv_A o), (1, vv_L (s : Int)), (3, vv_L (s : Int)), (5, vv_I 0)]) dx_X0_liftAll_3 (by decide) rfl ?_
  have e : s = mk 62 (lfp R s 0) := mk_eq hs (fun x _ => ⟨Or.inl, fun q => q.elim id (fun z => absurd z.1 (Nat.not_lt_zero _))⟩)
  have k := loop 0 () (Nat.zero_le _) trivial
  rw [← e] at k
  exact k
theorem g_Binary_reachedFrom {t : Nat} (ho : bi_ok o) (h : bi_at δ o R) (ht : t < 8) (hQ : Q [vv_I (mk 8 (rc R t) : Int)] go_φ δ) :
    Go E (d + 1) (0, 0) mx_X0_reachedFrom go_φ 0 [(0, vv_A o), (1, vv_I (t : Int))] [] δ Q := by
  -- a pass over all
  have inner : ∀ (n : Nat) (S : Nat), S < 2 ^ 8 → (∀ y, S.testBit y = true → rc R t y) →
      (∀ T : Nat, T < 2 ^ 8 → (∀ y, S.testBit y = true → T.testBit y = true) → (∀ y, T.testBit y = true → rc R t y) → (∀ a b, S.testBit a = true → usp R 16 a b → b < 8 → T.testBit b = true) → Go E (d + 1) (0, 0) mx_X0_reachedFrom go_φ 6 [(0, vv_A o), (1, vv_I (t : Int)), (2, vv_I (T : Int)), (3, vv_I ((n + 1 : Nat) : Int))] [] δ Q) →
      Go E (d + 1) (0, 0) mx_X0_reachedFrom go_φ 15 [(0, vv_A o), (1, vv_I (t : Int)), (2, vv_I (S : Int)), (3, vv_I (n : Int)), (4, vv_I 0)] [] δ Q := by
    intro n S hS hr KK
    refine lp_up (X := Nat) (hi := 8) (I := fun x T => T < 2 ^ 8 ∧ (∀ y, S.testBit y = true → T.testBit y = true) ∧ (∀ y, T.testBit y = true → rc R t y) ∧ (∀ a b, a < x → S.testBit a = true → usp R 16 a b → b < 8 → T.testBit b = true))
      (G := fun x T => Go E (d + 1) (0, 0) mx_X0_reachedFrom go_φ 15 [(0, vv_A o), (1, vv_I (t : Int)), (2, vv_I (T : Int)), (3, vv_I (n : Int)), (4, vv_I (x : Int))] [] δ Q)
      (fun x T hx hI ih => ?_) (fun T hI => ?_) 0 S (Nat.zero_le _) ⟨hS, fun _ q => q, hr, fun a b ha => absurd ha (Nat.not_lt_zero _)⟩
    · obtain ⟨i1, i2, i3, i4⟩ := hI
      have hT := bt_m31 i1 (by decide)
      refine go_iload dx_X0_reachedFrom_15 rfl ?_
      refine go_bipush dx_X0_reachedFrom_17 rfl ?_
      refine go_icmp_ge (tgt := 49) dx_X0_reachedFrom_19 rfl (by omega) (by omega) (fun c19 => by exact absurd c19 (by omega)) (fun c19 => ?_)
      refine go_iload_n (i := 2) dx_X0_reachedFrom_22 rfl rfl ?_
      refine go_iload dx_X0_reachedFrom_23 rfl ?_
      refine go_iushr dx_X0_reachedFrom_25 ?_
      refine go_iconst dx_X0_reachedFrom_26 ?_
      refine go_iand dx_X0_reachedFrom_27 ?_
      refine go_asI (y := (b01 (T.testBit x = true))) (by exact bv_tstb hT (by omega)) ?_
      refine go_b_eq (tgt := 43) dx_X0_reachedFrom_28 rfl (fun c28 => ?_) (fun c28 => ?_)
      · refine go_iinc (lv' := [(0, vv_A o), (1, vv_I (t : Int)), (2, vv_I (T : Int)), (3, vv_I (n : Int)), (4, vv_I ((x : Int) + 1))]) dx_X0_reachedFrom_43 rfl (by decide) rfl ?_
        refine go_goto (tgt := 15) dx_X0_reachedFrom_46 rfl ?_
        exact ih T ⟨i1, i2, i3, fun a b ha hs hu hb => by
          by_cases e : a = x
          · subst e; exact absurd (i2 a hs) c28
          · exact i4 a b (by omega) hs hu hb⟩
      · refine go_iload_n (i := 2) dx_X0_reachedFrom_31 rfl rfl ?_
        refine go_aload_n (i := 0) dx_X0_reachedFrom_32 rfl rfl ?_
        refine go_getA (b := (o + 7)) fs_X0_30 rfl (bi_k0 ho) (bi_r9 ho) dx_X0_reachedFrom_33 ?_
        refine go_iload dx_X0_reachedFrom_36 rfl ?_
        refine go_cS2 ss_X0_75 dx_X0_reachedFrom_38 (Nat.le_of_ble_eq_true rfl) (Nat.le_of_ble_eq_true rfl) (g_intAtV (i := x) (v := ((mk 8 (usp R 16 x) : Int))) (bi_k7 ho) (by omega) (by rw [(bi_l7 ho)]; omega) (by exact h.2.2.2.2.1 x hx) ?_)
        refine go_ior dx_X0_reachedFrom_41 ?_
        refine go_asI (y := ((T ||| mk 8 (usp R 16 x) : Nat) : Int)) (by exact bv_orN hT (mk_31 8 _ (by decide))) ?_
        refine go_istore_n (i := 2) (lv' := [(0, vv_A o), (1, vv_I (t : Int)), (2, vv_I ((T ||| mk 8 (usp R 16 x) : Nat) : Int)), (3, vv_I (n : Int)), (4, vv_I (x : Int))]) dx_X0_reachedFrom_42 rfl (by decide) rfl ?_
        refine go_iinc (lv' := [(0, vv_A o), (1, vv_I (t : Int)), (2, vv_I ((T ||| mk 8 (usp R 16 x) : Nat) : Int)), (3, vv_I (n : Int)), (4, vv_I ((x : Int) + 1))]) dx_X0_reachedFrom_43 rfl (by decide) rfl ?_
        refine go_goto (tgt := 15) dx_X0_reachedFrom_46 rfl ?_
        refine ih _ ⟨Nat.or_lt_two_pow i1 (mk_lt 8 _), fun y hy => (bt_orb _ _ _).mpr (Or.inl (i2 y hy)), fun y hy => ?_, fun a b ha hs hu hb => (bt_orb _ _ _).mpr ?_⟩
        · rcases (bt_orb _ _ _).mp hy with q | q
          · exact i3 y q
          · exact rc_st (i3 x c28) ((mk_bit _ _ _).mp q).2 ((mk_bit _ _ _).mp q).1
        · by_cases e : a = x
          · subst e; exact Or.inr ((mk_bit _ _ _).mpr ⟨hb, hu⟩)
          · exact Or.inl (i4 a b (by omega) hs hu hb)
    · obtain ⟨i1, i2, i3, i4⟩ := hI
      refine go_iload dx_X0_reachedFrom_15 rfl ?_
      refine go_bipush dx_X0_reachedFrom_17 rfl ?_
      refine go_icmp_ge (tgt := 49) dx_X0_reachedFrom_19 rfl (by omega) (by omega) (fun c19 => ?_) (fun c19 => by exact absurd c19 (by omega))
      refine go_iinc (lv' := [(0, vv_A o), (1, vv_I (t : Int)), (2, vv_I (T : Int)), (3, vv_I ((n : Int) + 1)), (4, vv_I ((8 : Nat) : Int))]) dx_X0_reachedFrom_49 rfl (by decide) rfl ?_
      refine go_goto (tgt := 6) dx_X0_reachedFrom_52 rfl ?_
      refine go_keep [0, 1, 2, 3] rfl ?_
      exact KK T i1 i2 i3 (fun a b hs hu hb => i4 a b (Nat.lt_of_not_le (fun z => by rw [mk_hi hS z] at hs; cases hs)) hs hu hb)
  have outer := lp_up (X := Nat) (hi := 8) (I := fun n S => S < 2 ^ 8 ∧ S.testBit t = true ∧ (∀ y, S.testBit y = true → rc R t y) ∧ ((∀ a b, S.testBit a = true → usp R 16 a b → b < 8 → S.testBit b = true) ∨ n + 1 ≤ cn 8 (fun y => S.testBit y = true)))
      (G := fun n S => Go E (d + 1) (0, 0) mx_X0_reachedFrom go_φ 6 [(0, vv_A o), (1, vv_I (t : Int)), (2, vv_I (S : Int)), (3, vv_I (n : Int))] [] δ Q) (fun n S hn hI ih => by
        obtain ⟨i1, i2, i3, i4⟩ := hI
        refine go_iload_n (i := 3) dx_X0_reachedFrom_6 rfl rfl ?_
        refine go_bipush dx_X0_reachedFrom_7 rfl ?_
        refine go_icmp_ge (tgt := 55) dx_X0_reachedFrom_9 rfl (by omega) (by omega) (fun c9 => by exact absurd c9 (by omega)) (fun c9 => ?_)
        refine go_iconst dx_X0_reachedFrom_12 ?_
        refine go_istore (lv' := [(0, vv_A o), (1, vv_I (t : Int)), (2, vv_I (S : Int)), (3, vv_I (n : Int)), (4, vv_I 0)]) dx_X0_reachedFrom_13 (by decide) rfl ?_
        refine inner n S i1 i3 (fun T g1 g2 g3 g4 => ih T ⟨g1, g2 t i2, g3, ?_⟩)
        by_cases q : ∀ a b, S.testBit a = true → usp R 16 a b → b < 8 → S.testBit b = true
        · refine Or.inl (fun a b ha hu hb => g4 a b ?_ hu hb)
          exact g3 a ha (fun y => S.testBit y = true) i2 (fun a b => q a b)
        · refine Or.inr ?_
          have i5 := i4.resolve_left q
          have : ∃ b, b < 8 ∧ T.testBit b = true ∧ ¬ S.testBit b = true := Classical.byContradiction (fun w => q (fun a b ha hu hb => Classical.byContradiction (fun z => w ⟨b, hb, g4 a b ha hu hb, z⟩)))
          obtain ⟨b, b1, b2, b3⟩ := this
          have := cn_lt (n := 8) (P := fun y => S.testBit y = true) (P' := fun y => T.testBit y = true) (fun y _ => g2 y) b1 b2 b3
          omega
      ) (fun S hI => by
        obtain ⟨i1, i2, i3, i4⟩ := hI
        have i5 := i4.resolve_right (fun q => by have := cn_le 8 (fun y => S.testBit y = true); omega)
        refine go_iload_n (i := 3) dx_X0_reachedFrom_6 rfl rfl ?_
        refine go_bipush dx_X0_reachedFrom_7 rfl ?_
        refine go_icmp_ge (tgt := 55) dx_X0_reachedFrom_9 rfl (by omega) (by omega) (fun c9 => ?_) (fun c9 => by exact absurd c9 (by omega))
        refine go_iload_n (i := 2) dx_X0_reachedFrom_55 rfl rfl ?_
        refine go_ireturn dx_X0_reachedFrom_56 rfl (Nat.le_refl _) (Nat.le_refl _) ?_
        rw [mk_eq i1 (P := rc R t) (fun x _ => ⟨i3 x, fun q => q (fun y => S.testBit y = true) i2 i5⟩)]
        exact hQ
      )
  refine go_iconst dx_X0_reachedFrom_0 ?_
  refine go_iload_n (i := 1) dx_X0_reachedFrom_1 rfl rfl ?_
  refine go_ishl dx_X0_reachedFrom_2 ?_
  refine go_asI (y := ((2 ^ t : Nat) : Int)) (by exact bv_bit (by omega)) ?_
  refine go_istore_n (i := 2) (lv' := [(0, vv_A o), (1, vv_I (t : Int)), (2, vv_I ((2 ^ t : Nat) : Int))]) dx_X0_reachedFrom_3 rfl (by decide) rfl ?_
  refine go_iconst dx_X0_reachedFrom_4 ?_
  refine go_istore_n (i := 3) (lv' := [(0, vv_A o), (1, vv_I (t : Int)), (2, vv_I ((2 ^ t : Nat) : Int)), (3, vv_I 0)]) dx_X0_reachedFrom_5 rfl (by decide) rfl ?_
  refine outer 0 (2 ^ t) (Nat.zero_le _) ⟨Nat.pow_lt_pow_right (by decide) ht, (bt_one _ _).mpr rfl, fun y hy => by rw [← (bt_one _ _).mp hy]; exact rc_rf, Or.inr ?_⟩
  have := cn_lt (n := 8) (P := fun _ => False) (P' := fun y => (2 ^ t).testBit y = true) (fun _ _ q => q.elim) ht ((bt_one _ _).mpr rfl) id
  omega
theorem g_Binary_openAll {s F : Nat} (ho : bi_ok o) (h : bi_at δ o R) (hs : s < 2 ^ 62) (hF : F < 2 ^ 62) (hf : δ o 11 = (F : Int)) (hQ : Q [vv_L (mk 62 (oc R F s) : Int)] go_φ δ) :
    Go E (d + 3) (0, 0) mx_X0_openAll go_φ 0 [(0, vv_A o), (1, vv_L (s : Int))] [] δ Q := by
  have loop := lp_up (X := Nat) (hi := 63) (I := fun n m => m < 2 ^ 62 ∧ (∀ x, s.testBit x = true → m.testBit x = true) ∧ (∀ x, m.testBit x = true → oc R F s x) ∧ n ≤ cn 62 (fun y => m.testBit y = true))
      (G := fun n m => ∀ lv0, lv0 = [(0, vv_A o), (1, vv_L (s : Int)), (3, vv_L (m : Int)), (5, vv_I (n : Int))] → Go E (d + 3) (0, 0) mx_X0_openAll go_φ 5 lv0 [] δ Q) (fun n m hn hI ih lv0 e0 => by
        subst e0
        obtain ⟨i1, i2, i3, i4⟩ := hI
        have hm := bt_m63 i1 (by decide)
        have hj : m ||| mk 62 (jn R m F) < 2 ^ 62 := Nat.or_lt_two_pow i1 (mk_lt 62 _)
        have up : ∀ x, m.testBit x = true → (mk 62 (lf R (m ||| mk 62 (jn R m F)))).testBit x = true := fun x hx => (mk_bit _ _ _).mpr ⟨Nat.lt_of_not_le (fun z => by rw [mk_hi i1 z] at hx; cases hx), Or.inl ((bt_orb _ _ _).mpr (Or.inl hx))⟩
        refine go_iload dx_X0_openAll_5 rfl ?_
        refine go_bipush dx_X0_openAll_7 rfl ?_
        refine go_icmp_gt (tgt := 46) dx_X0_openAll_9 rfl (by omega) (by omega) (fun c9 => by exact absurd c9 (by omega)) (fun c9 => ?_)
        refine go_lload_n (i := 3) dx_X0_openAll_12 rfl rfl ?_
        refine go_lstore (lv' := [(0, vv_A o), (1, vv_L (s : Int)), (3, vv_L (m : Int)), (5, vv_I (n : Int)), (6, vv_L (m : Int))]) dx_X0_openAll_13 (by decide) rfl ?_
        refine go_aload_n (i := 0) dx_X0_openAll_15 rfl rfl ?_
        refine go_lload_n (i := 3) dx_X0_openAll_16 rfl rfl ?_
        refine go_aload_n (i := 0) dx_X0_openAll_17 rfl rfl ?_
        refine go_lload_n (i := 3) dx_X0_openAll_18 rfl rfl ?_
        refine go_aload_n (i := 0) dx_X0_openAll_19 rfl rfl ?_
        refine go_getL fs_X0_99 rfl (bi_k0 ho) dx_X0_openAll_20 ?_
        refine go_asL (y := (F : Int)) (by exact hf) ?_
        refine go_cV2 sv_X0_131 (bi_k0 ho) dx_X0_openAll_23 (Nat.le_of_ble_eq_true rfl) (Nat.le_of_ble_eq_true rfl) (g_Binary_joinAll ho h i1 hF ?_)
        refine go_lor dx_X0_openAll_26 ?_
        refine go_asL (y := ((m ||| mk 62 (jn R m F) : Nat) : Int)) (by exact bw_orN hm (mk_63 62 _ (by decide))) ?_
        refine go_cV1 sv_X0_135 (bi_k0 ho) dx_X0_openAll_27 (Nat.le_of_ble_eq_true rfl) (Nat.le_of_ble_eq_true rfl) (g_Binary_liftAll ho h hj ?_)
        refine go_lstore_n (i := 3) (lv' := [(0, vv_A o), (1, vv_L (s : Int)), (3, vv_L (mk 62 (lf R (m ||| mk 62 (jn R m F))) : Int)), (5, vv_I (n : Int)), (6, vv_L (m : Int))]) dx_X0_openAll_30 rfl (by decide) rfl ?_
        refine go_lload_n (i := 3) dx_X0_openAll_31 rfl rfl ?_
        refine go_lload dx_X0_openAll_32 rfl ?_
        refine go_lcmp_ne (tgt := 40) dx_X0_openAll_34 dx_X0_openAll_35 rfl (by first | omega | (have := mk_63 62 (lf R (m ||| mk 62 (jn R m F))) (by decide); omega)) (by first | omega | (have := mk_63 62 (lf R (m ||| mk 62 (jn R m F))) (by decide); omega)) (fun c34 => ?_) (fun c34 => ?_)
        · refine go_iinc (lv' := [(0, vv_A o), (1, vv_L (s : Int)), (3, vv_L (mk 62 (lf R (m ||| mk 62 (jn R m F))) : Int)), (5, vv_I ((n : Int) + 1)), (6, vv_L (m : Int))]) dx_X0_openAll_40 rfl (by decide) rfl ?_
          refine go_goto (tgt := 5) dx_X0_openAll_43 rfl ?_
          refine go_keep [0, 1, 2, 3] rfl ?_
          refine ih _ ⟨mk_lt 62 _, fun x hx => up x (i2 x hx), fun x hx => ?_, ?_⟩ _ rfl
          · have hj1 : ∀ z, (m ||| mk 62 (jn R m F)).testBit z = true → oc R F s z := fun z hz => by
              rcases (bt_orb _ _ _).mp hz with q | q
              · exact i3 z q
              · obtain ⟨e, he, e1, e2, e3⟩ := ((mk_bit _ _ _).mp q).2
                rw [← e1]
                exact oc_pr he (i3 _ e2) e3
            rcases ((mk_bit _ _ _).mp hx).2 with q | ⟨y, q1, q2⟩
            · exact hj1 x q
            · exact oc_ut q1 (hj1 y q2)
          · have : ∃ x, ¬ m.testBit x = true ∧ (mk 62 (lf R (m ||| mk 62 (jn R m F)))).testBit x = true := Classical.byContradiction (fun w => c34 (by
              rw [bt_ext (fun x => ⟨fun q => Classical.byContradiction (fun z => w ⟨x, z, q⟩), up x⟩)]))
            obtain ⟨x, x1, x2⟩ := this
            have := cn_lt (n := 62) (P := fun y => m.testBit y = true) (P' := fun y => (mk 62 (lf R (m ||| mk 62 (jn R m F)))).testBit y = true) (fun y _ => up y) ((mk_bit _ _ _).mp x2).1 x2 x1
            omega
        · refine go_lload_n (i := 3) dx_X0_openAll_38 rfl rfl ?_
          refine go_lreturn dx_X0_openAll_39 rfl (Nat.le_refl _) (Nat.le_refl _) ?_
          have em : mk 62 (lf R (m ||| mk 62 (jn R m F))) = m := by omega
          rw [em, mk_eq i1 (P := oc R F s) (fun x _ => ⟨i3 x, fun q => q (fun y => m.testBit y = true) i2 (fun e he q1 q2 => ?_) (fun a b q1 q2 => ?_)⟩)]
          · exact hQ
          · rw [← em]
            exact (mk_bit _ _ _).mpr ⟨(pe_lt62 h.2.2.2.2.2.2 he).1, Or.inl ((bt_orb _ _ _).mpr (Or.inr ((mk_bit _ _ _).mpr ⟨(pe_lt62 h.2.2.2.2.2.2 he).1, e, he, rfl, q1, q2⟩)))⟩
          · rw [← em]
            exact (mk_bit _ _ _).mpr ⟨by have := (ut_lt h.2.2.2.2.2.2 q1).1; omega, Or.inr ⟨b, q1, (bt_orb _ _ _).mpr (Or.inl q2)⟩⟩
      ) (fun m hI => absurd hI.2.2.2 (by have := cn_le 62 (fun y => m.testBit y = true); omega))
  refine go_lload_n (i := 1) dx_X0_openAll_0 rfl rfl ?_
  refine go_lstore_n (i := 3) (lv' := [(0, vv_A o), (1, vv_L (s : Int)), (3, vv_L (s : Int))]) dx_X0_openAll_1 rfl (by decide) rfl ?_
  refine go_iconst dx_X0_openAll_2 ?_
  refine go_istore (lv' := [(0, vv_A o), (1, vv_L (s : Int)), (3, vv_L (s : Int)), (5, vv_I 0)]) dx_X0_openAll_3 (by decide) rfl ?_
  exact loop 0 s (Nat.zero_le _) ⟨hs, fun _ q => q, fun _ q => oc_in q, Nat.zero_le _⟩ _ rfl
end GJOIN
