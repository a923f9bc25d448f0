/-! more rows: loops by count, answers of two kinds, values told again -/
theorem lp_up {X : Type} {hi : Nat} {I G : Nat → X → Prop} (step : ∀ i x, i < hi → I i x → (∀ y, I (i + 1) y → G (i + 1) y) → G i x) (last : ∀ x, I hi x → G hi x) : ∀ i x, i ≤ hi → I i x → G i x := by
  intro i x h hI
  obtain ⟨n, hn⟩ : ∃ n, hi - i = n := ⟨_, rfl⟩
  induction n generalizing i x with
  | zero =>
    have e : i = hi := by omega
    subst e
    exact last x hI
  | succ n ih => exact step i x (by omega) hI (fun y hy => ih (i + 1) y (by omega) hy (by omega))
theorem lp_dn {X : Type} {I G : Nat → X → Prop} (step : ∀ i x, I (i + 1) x → (∀ y, I i y → G i y) → G (i + 1) x) (last : ∀ x, I 0 x → G 0 x) : ∀ i x, I i x → G i x := by
  intro i
  induction i with
  | zero => exact last
  | succ n ih => exact fun x hx => step n x hx ih
theorem lp_wf {X : Type} {I G : X → Prop} (m : X → Nat) (step : ∀ x, I x → (∀ y, I y → m y < m x → G y) → G x) : ∀ x, I x → G x := by
  intro x hx
  obtain ⟨n, hn⟩ : ∃ n, m x < n := ⟨m x + 1, Nat.lt_succ_self _⟩
  induction n generalizing x with
  | zero => exact absurd hn (Nat.not_lt_zero _)
  | succ n ih => exact step x hx (fun y hy h => ih y hy (by omega))
noncomputable def b01 (P : Prop) : Int := @ite Int P (Classical.propDecidable P) 1 0
theorem b01_t {P : Prop} (h : P) : b01 P = 1 := by unfold b01; rw [if_pos h]
theorem b01_f {P : Prop} (h : ¬ P) : b01 P = 0 := by unfold b01; rw [if_neg h]
theorem b01_01 (P : Prop) : b01 P = 0 ∨ b01 P = 1 := by
  by_cases h : P
  · exact Or.inr (b01_t h)
  · exact Or.inl (b01_f h)
theorem b01_c {P P' : Prop} (h : P ↔ P') : b01 P = b01 P' := by
  by_cases q : P
  · rw [b01_t q, b01_t (h.mp q)]
  · rw [b01_f q, b01_f (fun z => q (h.mpr z))]
theorem b01_0 {P : Prop} : b01 P = 0 ↔ ¬ P := by
  by_cases h : P
  · rw [b01_t h]; exact ⟨fun q => absurd q (by decide), fun q => absurd h q⟩
  · rw [b01_f h]; exact ⟨fun _ => h, fun _ => rfl⟩
theorem b01_iI (P : Prop) : go_iI (b01 P) := by rcases b01_01 P with h | h <;> rw [h] <;> exact ⟨by decide, by decide⟩
theorem b01_iL (P : Prop) : go_iL (b01 P) := by rcases b01_01 P with h | h <;> rw [h] <;> exact ⟨by decide, by decide⟩
theorem bv_tstb {m x : Nat} (hm : m < 2147483648) (hx : x < 32) : bv_and (bv_ushr m x) 1 = b01 (m.testBit x = true) := by
  rw [bv_tst hm hx]
  by_cases h : m.testBit x = true
  · rw [if_pos h, b01_t h]
  · rw [if_neg h, b01_f h]
theorem bv_tstbS {m x : Nat} (hm : m < 2147483648) (hx : x < 32) : bv_and (bv_shr m x) 1 = b01 (m.testBit x = true) := by
  rw [bv_tstS hm hx]
  by_cases h : m.testBit x = true
  · rw [if_pos h, b01_t h]
  · rw [if_neg h, b01_f h]
theorem bw_tstb {m x : Nat} (hm : m < 9223372036854775808) (hx : x < 64) : bw_and (bw_ushr m x) 1 = b01 (m.testBit x = true) := by
  rw [bw_tst hm hx]
  by_cases h : m.testBit x = true
  · rw [if_pos h, b01_t h]
  · rw [if_neg h, b01_f h]
theorem bw_tstbS {m x : Nat} (hm : m < 9223372036854775808) (hx : x < 64) : bw_and (bw_shr m x) 1 = b01 (m.testBit x = true) := by
  rw [bw_tstS hm hx]
  by_cases h : m.testBit x = true
  · rw [if_pos h, b01_t h]
  · rw [if_neg h, b01_f h]
section GMORE
variable {E : go_E} {d : Nat} {mm : Nat × Nat} {M M' : go_M} {φ : go_F} {pc : Nat} {lv : List (Nat × go_V)} {st : List go_V} {δ : Nat → Nat → Int} {Q : List go_V → go_F → (Nat → Nat → Int) → Prop}
theorem go_b_eq {P : Prop} {off : Int} {tgt : Nat} (hdg : decode (go_cc M) pc = .ok (.ifCond .eq off, 3)) (ht : (pc : Int) + off = (tgt : Int)) (kt : ¬ P → Go E d mm M φ tgt lv st δ Q) (kf : P → Go E d mm M φ (pc + 3) lv st δ Q) : Go E d mm M φ pc lv (vv_I (b01 P) :: st) δ Q :=
  go_if_eq hdg ht (b01_iI P) (fun h => kt (b01_0.mp h)) (fun h => kf (Classical.byContradiction (fun q => h (b01_0.mpr q))))
theorem go_b_ne {P : Prop} {off : Int} {tgt : Nat} (hdg : decode (go_cc M) pc = .ok (.ifCond .ne off, 3)) (ht : (pc : Int) + off = (tgt : Int)) (kt : P → Go E d mm M φ tgt lv st δ Q) (kf : ¬ P → Go E d mm M φ (pc + 3) lv st δ Q) : Go E d mm M φ pc lv (vv_I (b01 P) :: st) δ Q :=
  go_if_ne hdg ht (b01_iI P) (fun h => kt (Classical.byContradiction (fun q => h (b01_0.mpr q)))) (fun h => kf (b01_0.mp h))
theorem go_bl_eq {P : Prop} {off : Int} {tgt : Nat} (hdg : decode (go_cc M) pc = .ok (.lcmp, 1)) (hdg2 : decode (go_cc M) (pc + 1) = .ok (.ifCond .eq off, 3)) (ht : ((pc + 1 : Nat) : Int) + off = (tgt : Int)) (kt : ¬ P → Go E d mm M φ tgt lv st δ Q) (kf : P → Go E d mm M φ (pc + 1 + 3) lv st δ Q) : Go E d mm M φ pc lv (vv_L 0 :: vv_L (b01 P) :: st) δ Q :=
  go_lcmp_eq hdg hdg2 ht (b01_iL P) ⟨by decide, by decide⟩ (fun h => kt (b01_0.mp h)) (fun h => kf (Classical.byContradiction (fun q => h (b01_0.mpr q))))
theorem go_bl_ne {P : Prop} {off : Int} {tgt : Nat} (hdg : decode (go_cc M) pc = .ok (.lcmp, 1)) (hdg2 : decode (go_cc M) (pc + 1) = .ok (.ifCond .ne off, 3)) (ht : ((pc + 1 : Nat) : Int) + off = (tgt : Int)) (kt : P → Go E d mm M φ tgt lv st δ Q) (kf : ¬ P → Go E d mm M φ (pc + 1 + 3) lv st δ Q) : Go E d mm M φ pc lv (vv_L 0 :: vv_L (b01 P) :: st) δ Q :=
  go_lcmp_ne hdg hdg2 ht (b01_iL P) ⟨by decide, by decide⟩ (fun h => kt (Classical.byContradiction (fun q => h (b01_0.mpr q)))) (fun h => kf (b01_0.mp h))
theorem go_cI_eq {x y : Int} {off : Int} {tgt : Nat} (P : Prop) (hP : x = y ↔ P) (hdg : decode (go_cc M) pc = .ok (.if_icmp .eq off, 3)) (ht : (pc : Int) + off = (tgt : Int)) (hx : go_iI x) (hy : go_iI y) (kt : P → Go E d mm M φ tgt lv st δ Q) (kf : ¬ P → Go E d mm M φ (pc + 3) lv st δ Q) : Go E d mm M φ pc lv (vv_I y :: vv_I x :: st) δ Q :=
  go_icmp_eq hdg ht hx hy (fun h => kt (hP.mp h)) (fun h => kf (fun q => h (hP.mpr q)))
theorem go_ialoadV {a i : Nat} {x v : Int} (hdg : decode (go_cc M) pc = .ok (.iaload, 1)) (ha : go_kd a = 20 ∧ a < φ.1) (hx : x = (i : Int)) (hi : i < go_ln a) (e : δ a i = v)
    (kk : Go E d mm M φ (pc + 1) lv (vv_I v :: st) δ Q) : Go E d mm M φ pc lv (vv_I x :: vv_A a :: st) δ Q := by
  subst hx
  refine go_iaload hdg ha (by omega) (by omega) ?_
  rw [Int.toNat_natCast, e]
  exact kk
theorem go_laloadV {a i : Nat} {x v : Int} (hdg : decode (go_cc M) pc = .ok (.laload, 1)) (ha : go_kd a = 21 ∧ a < φ.1) (hx : x = (i : Int)) (hi : i < go_ln a) (e : δ a i = v)
    (kk : Go E d mm M φ (pc + 1) lv (vv_L v :: st) δ Q) : Go E d mm M φ pc lv (vv_I x :: vv_A a :: st) δ Q := by
  subst hx
  refine go_laload hdg ha (by omega) (by omega) ?_
  rw [Int.toNat_natCast, e]
  exact kk
theorem go_baloadV {a i : Nat} {x v : Int} (hdg : decode (go_cc M) pc = .ok (.baload, 1)) (ha : go_kd a = 22 ∧ a < φ.1) (hx : x = (i : Int)) (hi : i < go_ln a) (e : δ a i = v)
    (kk : Go E d mm M φ (pc + 1) lv (vv_I v :: st) δ Q) : Go E d mm M φ pc lv (vv_I x :: vv_A a :: st) δ Q := by
  subst hx
  refine go_baload hdg ha (by omega) (by omega) ?_
  rw [Int.toNat_natCast, e]
  exact kk
theorem go_iastoreV {a i : Nat} {x y : Int} (hdg : decode (go_cc M) pc = .ok (.iastore, 1)) (ha : go_kd a = 20 ∧ a < φ.1) (hx : x = (i : Int)) (hi : i < go_ln a)
    (kk : Go E d mm M φ (pc + 1) lv st (wr δ a i y) Q) : Go E d mm M φ pc lv (vv_I y :: vv_I x :: vv_A a :: st) δ Q := by
  subst hx
  refine go_iastore hdg ha (by omega) (by omega) ?_
  rw [Int.toNat_natCast]
  exact kk
theorem go_lastoreV {a i : Nat} {x y : Int} (hdg : decode (go_cc M) pc = .ok (.lastore, 1)) (ha : go_kd a = 21 ∧ a < φ.1) (hx : x = (i : Int)) (hi : i < go_ln a)
    (kk : Go E d mm M φ (pc + 1) lv st (wr δ a i y) Q) : Go E d mm M φ pc lv (vv_L y :: vv_I x :: vv_A a :: st) δ Q := by
  subst hx
  refine go_lastore hdg ha (by omega) (by omega) ?_
  rw [Int.toNat_natCast]
  exact kk
theorem go_bastoreV {a i : Nat} {x y : Int} (hdg : decode (go_cc M) pc = .ok (.bastore, 1)) (ha : go_kd a = 22 ∧ a < φ.1) (hx : x = (i : Int)) (hi : i < go_ln a) (hy : y = 0 ∨ y = 1)
    (kk : Go E d mm M φ (pc + 1) lv st (wr δ a i y) Q) : Go E d mm M φ pc lv (vv_I y :: vv_I x :: vv_A a :: st) δ Q := by
  subst hx
  refine go_bastore hdg ha (by omega) (by omega) hy ?_
  rw [Int.toNat_natCast]
  exact kk
theorem g_intAtV {a i : Nat} {x v : Int} (ha : go_kd a = 20 ∧ a < go_φ.1) (hx : x = (i : Int)) (hi : i < go_ln a) (e : δ a i = v) (h : Q [vv_I v] go_φ δ) : Go E d (0, 0) mx_X11_intAt go_φ 0 [(0, vv_A a), (1, vv_I x)] [] δ Q := by
  subst hx
  refine g_intAt ha (by omega) (by omega) ?_
  rw [Int.toNat_natCast, e]
  exact h
theorem g_longAtV {a i : Nat} {x v : Int} (ha : go_kd a = 21 ∧ a < go_φ.1) (hx : x = (i : Int)) (hi : i < go_ln a) (e : δ a i = v) (h : Q [vv_L v] go_φ δ) : Go E d (0, 0) mx_X11_longAt go_φ 0 [(0, vv_A a), (1, vv_I x)] [] δ Q := by
  subst hx
  refine g_longAt ha (by omega) (by omega) ?_
  rw [Int.toNat_natCast, e]
  exact h
theorem g_putIntN {a i : Nat} {x y : Int} (ha : go_kd a = 20 ∧ a < go_φ.1) (hx : x = (i : Int)) (hi : i < go_ln a) (h : Q [] go_φ (wr δ a i y)) : Go E d (0, 0) mx_X11_putInt go_φ 0 [(0, vv_A a), (1, vv_I x), (2, vv_I y)] [] δ Q := by
  subst hx
  refine g_putInt ha (by omega) (by omega) ?_
  rw [Int.toNat_natCast]
  exact h
theorem g_putLongN {a i : Nat} {x y : Int} (ha : go_kd a = 21 ∧ a < go_φ.1) (hx : x = (i : Int)) (hi : i < go_ln a) (h : Q [] go_φ (wr δ a i y)) : Go E d (0, 0) mx_X11_putLong go_φ 0 [(0, vv_A a), (1, vv_I x), (2, vv_L y)] [] δ Q := by
  subst hx
  refine g_putLong ha (by omega) (by omega) ?_
  rw [Int.toNat_natCast]
  exact h
end GMORE
/-! chains of predicates over finitely many -/
noncomputable def cn (n : Nat) (P : Nat → Prop) : Nat := match n with
  | 0 => 0
  | m + 1 => cn m P + @ite Nat (P m) (Classical.propDecidable (P m)) 1 0
theorem cn_s (n : Nat) (P : Nat → Prop) : cn (n + 1) P = cn n P + @ite Nat (P n) (Classical.propDecidable (P n)) 1 0 := rfl
theorem cn_st {n : Nat} {P : Nat → Prop} (h : P n) : cn (n + 1) P = cn n P + 1 := by rw [cn_s, if_pos h]
theorem cn_sf {n : Nat} {P : Nat → Prop} (h : ¬ P n) : cn (n + 1) P = cn n P := by rw [cn_s, if_neg h, Nat.add_zero]
theorem cn_le (n : Nat) (P : Nat → Prop) : cn n P ≤ n := by
  induction n with
  | zero => exact Nat.le_refl _
  | succ n ih =>
    by_cases h : P n
    · rw [cn_st h]; omega
    · rw [cn_sf h]; omega
theorem cn_mono {n : Nat} {P P' : Nat → Prop} (h : ∀ x, x < n → P x → P' x) : cn n P ≤ cn n P' := by
  induction n with
  | zero => exact Nat.le_refl _
  | succ n ih =>
    have i1 := ih (fun x hx => h x (by omega))
    by_cases q : P n
    · rw [cn_st q, cn_st (h n (by omega) q)]; omega
    · rw [cn_sf q]
      by_cases q2 : P' n
      · rw [cn_st q2]; omega
      · rw [cn_sf q2]; exact i1
theorem cn_congr {n : Nat} {P P' : Nat → Prop} (h : ∀ x, x < n → (P x ↔ P' x)) : cn n P = cn n P' :=
  Nat.le_antisymm (cn_mono (fun x hx => (h x hx).mp)) (cn_mono (fun x hx => (h x hx).mpr))
theorem cn_lt {n : Nat} {P P' : Nat → Prop} (h : ∀ x, x < n → P x → P' x) {y : Nat} (hy : y < n) (h1 : P' y) (h2 : ¬ P y) : cn n P < cn n P' := by
  induction n with
  | zero => exact absurd hy (Nat.not_lt_zero _)
  | succ n ih =>
    by_cases e : y = n
    · subst e
      have := cn_mono (n := y) (fun x hx => h x (by omega))
      rw [cn_sf h2, cn_st h1]
      omega
    · have i1 := ih (fun x hx => h x (by omega)) (by omega)
      by_cases q : P n
      · rw [cn_st q, cn_st (h n (by omega) q)]; omega
      · rw [cn_sf q]
        by_cases q2 : P' n
        · rw [cn_st q2]; omega
        · rw [cn_sf q2]; exact i1
theorem cn_0 {n : Nat} {P : Nat → Prop} (h : ∀ x, x < n → ¬ P x) : cn n P = 0 := by
  induction n with
  | zero => rfl
  | succ n ih => rw [cn_sf (h n (by omega)), ih (fun x hx => h x (by omega))]
theorem cn_all {n : Nat} {P : Nat → Prop} (h : ∀ x, x < n → P x) : cn n P = n := by
  induction n with
  | zero => rfl
  | succ n ih => rw [cn_st (h n (by omega)), ih (fun x hx => h x (by omega))]
/-- a chain that grows until something is so: it is so within n steps -/
theorem cn_sat {n : Nat} {F : Nat → Nat → Prop} {C : Nat → Prop} (mono : ∀ t x, x < n → F t x → F (t + 1) x) (prog : ∀ t, C t ∨ ∃ x, x < n ∧ F (t + 1) x ∧ ¬ F t x) : ∃ t, t ≤ n ∧ C t := by
  refine Classical.byContradiction (fun hn => ?_)
  have h : ∀ t, t ≤ n + 1 → t ≤ cn n (F t) := by
    intro t
    induction t with
    | zero => intro _; exact Nat.zero_le _
    | succ t ih =>
      intro ht
      have i1 := ih (by omega)
      rcases prog t with q | ⟨x, h1, h2, h3⟩
      · exact absurd ⟨t, by omega, q⟩ hn
      · have := cn_lt (mono t) h1 h2 h3
        omega
  have h1 := h (n + 1) (Nat.le_refl _)
  have h2 := cn_le n (F (n + 1))
  omega
/-! the least one -/
noncomputable def mn (P : Nat → Prop) : Nat := @ite Nat (∃ n, P n ∧ ∀ m, P m → n ≤ m) (Classical.propDecidable _) (Classical.epsilon (fun n => P n ∧ ∀ m, P m → n ≤ m)) 0
theorem mn_ex {P : Nat → Prop} {n : Nat} (h : P n) : ∃ n, P n ∧ ∀ m, P m → n ≤ m := by
  induction n using Nat.strongRecOn with
  | ind n ih =>
    by_cases q : ∃ m, m < n ∧ P m
    · obtain ⟨m, h1, h2⟩ := q
      exact ih m h1 h2
    · exact ⟨n, h, fun m hm => Nat.le_of_not_lt (fun z => q ⟨m, z, hm⟩)⟩
theorem mn_spec {P : Nat → Prop} {n : Nat} (h : P n) : P (mn P) ∧ ∀ m, P m → mn P ≤ m := by
  have := mn_ex h
  unfold mn
  rw [if_pos this]
  exact Classical.epsilon_spec this
theorem mn_eq {P : Nat → Prop} {n : Nat} (h : P n) (h2 : ∀ m, P m → n ≤ m) : mn P = n :=
  Nat.le_antisymm ((mn_spec h).2 n h) (h2 _ (mn_spec h).1)
noncomputable def li (P : Nat → Prop) : Int := @ite Int (∃ n, P n) (Classical.propDecidable _) (mn P : Int) (-1)
theorem li_t {P : Nat → Prop} {n : Nat} (h : P n) (h2 : ∀ m, P m → n ≤ m) : li P = (n : Int) := by unfold li; rw [if_pos ⟨n, h⟩, mn_eq h h2]
theorem li_f {P : Nat → Prop} (h : ∀ n, ¬ P n) : li P = -1 := by unfold li; rw [if_neg (fun ⟨n, q⟩ => h n q)]
theorem li_cases (P : Nat → Prop) : (li P = -1 ∧ ∀ n, ¬ P n) ∨ ∃ n : Nat, li P = (n : Int) ∧ P n ∧ ∀ m, P m → n ≤ m := by
  by_cases h : ∃ n, P n
  · obtain ⟨n, hn⟩ := h
    obtain ⟨m, h1, h2⟩ := mn_ex hn
    exact Or.inr ⟨m, li_t h1 h2, h1, h2⟩
  · exact Or.inl ⟨li_f (fun n q => h ⟨n, q⟩), fun n q => h ⟨n, q⟩⟩
theorem li_congr {P P' : Nat → Prop} (h : ∀ n, P n ↔ P' n) : li P = li P' := by
  rcases li_cases P with ⟨e, q⟩ | ⟨n, e, q1, q2⟩
  · rw [e, li_f (fun n z => q n ((h n).mpr z))]
  · rw [e, li_t ((h n).mp q1) (fun m hm => q2 m ((h m).mpr hm))]
