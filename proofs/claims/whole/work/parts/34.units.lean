/-! the class's binary rules: units step by step, joins, lifts -/
def um (R : Nat → List Nat) (n x y : Nat) : Prop := ∀ P : Nat → Nat → Prop, (∀ a b, un R a b → P a b) → (∀ a b c, b < n → P a b → P b c → P a c) → P x y
section GUM
variable {R : Nat → List Nat} {n x y z : Nat}
theorem um_un (h : un R x y) : um R n x y := fun _ h1 _ => h1 _ _ h
theorem um_tr (hz : z < n) (h1 : um R n x z) (h2 : um R n z y) : um R n x y := fun P g1 g2 => g2 _ _ _ hz (h1 P g1 g2) (h2 P g1 g2)
theorem um_mono {m : Nat} (hm : n ≤ m) (h : um R n x y) : um R m x y := h (um R m) (fun _ _ => um_un) (fun _ _ _ hb => um_tr (by omega))
theorem um_0 : um R 0 x y ↔ un R x y := ⟨fun h => h (un R) (fun _ _ q => q) (fun _ _ _ hb => absurd hb (Nat.not_lt_zero _)), um_un⟩
theorem um_s : um R (n + 1) x y ↔ um R n x y ∨ (um R n x n ∧ um R n n y) := by
  constructor
  · intro h
    refine h (fun x y => um R n x y ∨ (um R n x n ∧ um R n n y)) (fun _ _ q => Or.inl (um_un q)) (fun a b c hb h1 h2 => ?_)
    by_cases e : b = n
    · subst e
      have q1 : um R b a b := h1.elim id (fun q => q.1)
      have q2 : um R b b c := h2.elim id (fun q => q.2)
      exact Or.inr ⟨q1, q2⟩
    · have hb' : b < n := by omega
      rcases h1 with h1 | ⟨h1, h3⟩
      · rcases h2 with h2 | ⟨h2, h4⟩
        · exact Or.inl (um_tr hb' h1 h2)
        · exact Or.inr ⟨um_tr hb' h1 h2, h4⟩
      · rcases h2 with h2 | ⟨h2, h4⟩
        · exact Or.inr ⟨h1, um_tr hb' h3 h2⟩
        · exact Or.inr ⟨h1, h4⟩
  · rintro (h | ⟨h1, h2⟩)
    · exact um_mono (by omega) h
    · exact um_tr (by omega) (um_mono (by omega) h1) (um_mono (by omega) h2)
theorem um_n : um R (n + 1) n y ↔ um R n n y := um_s.trans ⟨fun h => h.elim id (fun q => q.2), Or.inl⟩
theorem um_8 (hR : ∀ r, rl_ok (R r)) : um R 8 x y ↔ ut R x y := by
  constructor
  · intro h
    exact h (ut R) (fun _ _ => ut_one) (fun _ _ _ _ => ut_trans)
  · intro h
    refine (ut_ind (P := fun a b => um R 8 a b ∧ a < 8) (fun a b q => ⟨um_un q, (un_lt hR q).1⟩) (fun a b c q _ k => ⟨um_tr k.2 (um_un q) k.1, (un_lt hR q).1⟩) h).1
end GUM
def bi_at (δ : Nat → Nat → Int) (o : Nat) (R : Nat → List Nat) : Prop := bq_at δ o (gP R) (gH R) ∧ (∀ r, r < 16 → 3 ≤ (R r).length → δ (o + 2) r = ((gp R r).length : Int)) ∧ (∀ x, x < 8 → δ (o + 5) x = (mk 14 (un R x) : Int)) ∧ δ o 8 = (ucp R 16 : Int) ∧
  (∀ x, x < 8 → δ (o + 7) x = (mk 8 (usp R 16 x) : Int)) ∧ (∀ x, x < 8 → δ (o + 6) x = (mk 14 (ut R x) : Int)) ∧ (∀ r, rl_ok (R r))
theorem bi_fr {δ δ' : Nat → Nat → Int} {o : Nat} {R : Nat → List Nat} (h : bi_at δ o R) (f : ∀ c j, (o ≤ c ∧ c ≤ o + 7) → (c = o → j = 1 ∨ j = 5 ∨ j = 8) → δ' c j = δ c j) : bi_at δ' o R := by
  obtain ⟨h1, h2, h3, h4, h5, h6, h7⟩ := h
  exact ⟨bq_fr h1 (fun c j a b _ => f c j (by omega) (by omega)), fun r hr hl => by rw [f _ _ (by omega) (by omega)]; exact h2 r hr hl, fun x hx => by rw [f _ _ (by omega) (by omega)]; exact h3 x hx, by rw [f _ _ (by omega) (by omega)]; exact h4, fun x hx => by rw [f _ _ (by omega) (by omega)]; exact h5 x hx, fun x hx => by rw [f _ _ (by omega) (by omega)]; exact h6 x hx, h7⟩
theorem bi_of {δ : Nat → Nat → Int} {o : Nat} {R : Nat → List Nat} (h : bp_at δ o R 16) (h6 : ∀ x, x < 8 → δ (o + 6) x = (mk 14 (ut R x) : Int)) (hR : ∀ r, rl_ok (R r)) : bi_at δ o R := by
  obtain ⟨h1, h2, h3, h4, h5⟩ := h
  exact ⟨by rw [gP_eq, gH_eq]; exact h1, h2, h3, h4, h5, h6, hR⟩
theorem bp_fr {δ δ' : Nat → Nat → Int} {o n : Nat} {R : Nat → List Nat} (h : bp_at δ o R n) (f : ∀ c j, (o ≤ c ∧ c ≤ o + 5 ∨ c = o + 7) → (c = o → j = 1 ∨ j = 5 ∨ j = 8) → δ' c j = δ c j) : bp_at δ' o R n := by
  obtain ⟨h1, h2, h3, h4, h5⟩ := h
  exact ⟨bq_fr h1 (fun c j a b _ => f c j (by omega) (by omega)), fun r hr hl => by rw [f _ _ (by omega) (by omega)]; exact h2 r hr hl, fun x hx => by rw [f _ _ (by omega) (by omega)]; exact h3 x hx, by rw [f _ _ (by omega) (by omega)]; exact h4, fun x hx => by rw [f _ _ (by omega) (by omega)]; exact h5 x hx⟩
theorem mk_bit14 (R : Nat → List Nat) (x y : Nat) (hR : ∀ r, rl_ok (R r)) : (mk 14 (ut R x)).testBit y = true ↔ ut R x y := by
  rw [mk_bit]
  exact ⟨fun q => q.2, fun q => ⟨(ut_lt hR q).2, q⟩⟩
theorem td_fr3 {δ δ' : Nat → Nat → Int} {K : sK} (h : td_at δ 3 K) (f : ∀ c j, (c = 3 ∨ c = 4) → δ' c j = δ c j) : td_at δ' 3 K :=
  ⟨fun r hr => by rw [f _ _ (Or.inr rfl)]; exact h.1 r hr, by rw [f _ _ (Or.inl rfl)]; exact h.2.1, by rw [f _ _ (Or.inl rfl)]; exact h.2.2.1, by rw [f _ _ (Or.inl rfl)]; exact h.2.2.2.1, h.2.2.2.2⟩
def rl_wo (R : Nat → List Nat) (wo : Int) : Nat → List Nat := fun s => if (s : Int) = wo then [] else R s
theorem rl_wo_ok {R : Nat → List Nat} {wo : Int} (h : ∀ r, rl_ok (R r)) : ∀ r, rl_ok (rl_wo R wo r) := fun r => by
  unfold rl_wo
  split
  · exact Or.inl rfl
  · exact h r
theorem pe_ok_of {R : Nat → List Nat} (hR : ∀ r, rl_ok (R r)) {e : tP} (h : e ∈ gP R) : pe_ok e := by
  have := pr_lt hR h
  have := gH_le hR
  exact ⟨by omega, by omega, by omega, by omega⟩
theorem pe_lt62 {R : Nat → List Nat} (hR : ∀ r, rl_ok (R r)) {e : tP} (h : e ∈ gP R) : e.1 < 62 ∧ e.2.1 < 62 ∧ e.2.2.1 < 62 := by
  have := pr_lt hR h
  have := gH_le hR
  exact ⟨by omega, by omega, by omega⟩
def jn (R : Nat → List Nat) (l r x : Nat) : Prop := ∃ e, e ∈ gP R ∧ e.1 = x ∧ l.testBit e.2.1 = true ∧ r.testBit e.2.2.1 = true
def jnp (R : Nat → List Nat) (l r p x : Nat) : Prop := ∃ e, e ∈ (gP R).take p ∧ e.1 = x ∧ l.testBit e.2.1 = true ∧ r.testBit e.2.2.1 = true
def lf (R : Nat → List Nat) (s x : Nat) : Prop := s.testBit x = true ∨ ∃ y, ut R x y ∧ s.testBit y = true
def lfp (R : Nat → List Nat) (s n x : Nat) : Prop := s.testBit x = true ∨ (x < n ∧ ∃ y, ut R x y ∧ s.testBit y = true)
theorem bt_and0 (m n : Nat) : m &&& n = 0 ↔ ∀ x, m.testBit x = true → ¬ n.testBit x = true := by
  constructor
  · intro h x hx hn
    have := (bt_andb m n x).mpr ⟨hx, hn⟩
    rw [h, Nat.zero_testBit] at this
    cases this
  · intro h
    refine bt_ext (fun x => ?_)
    rw [bt_andb, Nat.zero_testBit]
    exact ⟨fun q => absurd q.2 (h x q.1), fun q => by cases q⟩
theorem bt_z (m : Nat) (h : ∀ x, ¬ m.testBit x = true) : m = 0 := bt_ext (fun x => by rw [Nat.zero_testBit]; exact ⟨fun q => absurd q (h x), fun q => by cases q⟩)
theorem bw_fit {l r a b : Nat} (hl : l < 9223372036854775808) (hr : r < 9223372036854775808) (ha : a < 64) (hb : b < 64) : bw_and (bw_and (bw_ushr l a) (bw_ushr r b)) 1 = b01 (l.testBit a = true ∧ r.testBit b = true) := by
  have h1 := Nat.div_le_self l (2 ^ a)
  have h2 := Nat.div_le_self r (2 ^ b)
  rw [bw_ushrN hl ha, bw_ushrN hr hb, bw_andN (by omega) (by omega), show (1 : Int) = ((1 : Nat) : Int) from rfl, bw_andN (Nat.lt_of_le_of_lt Nat.and_le_left (by omega)) (by decide)]
  have e : l / 2 ^ a &&& r / 2 ^ b &&& 1 = (l / 2 ^ a &&& 1) &&& (r / 2 ^ b &&& 1) := by
    refine bt_ext (fun x => ?_)
    simp only [bt_andb]
    exact ⟨fun q => ⟨⟨q.1.1, q.2⟩, ⟨q.1.2, q.2⟩⟩, fun q => ⟨⟨q.1.1, q.2.1⟩, q.1.2⟩⟩
  rw [e, bt_tst, bt_tst]
  by_cases q1 : l.testBit a = true
  · by_cases q2 : r.testBit b = true
    · rw [if_pos q1, if_pos q2, b01_t ⟨q1, q2⟩]; rfl
    · rw [if_pos q1, if_neg q2, b01_f (fun z => q2 z.2)]; rfl
  · rw [if_neg q1, Nat.zero_and, b01_f (fun z => q1 z.1)]; rfl
section GUNITS
variable {E : go_E} {d : Nat} {δ : Nat → Nat → Int} {Q : List go_V → go_F → (Nat → Nat → Int) → Prop} {o : Nat} {R : Nat → List Nat} {K : sK}
theorem g_Binary_followUnits (ho : bi_ok o) (hR : ∀ r, rl_ok (R r)) (h : bp_at δ o R 16) (hQ : ∀ δ', bi_at δ' o R → (∀ c j, c ≠ o + 6 → δ' c j = δ c j) → Q [] go_φ δ') :
    Go E (d + 1) (0, 0) mx_X0_followUnits go_φ 0 [(0, vv_A o)] [] δ Q := by
  have inner : ∀ (n : Nat) (δ1 : Nat → Nat → Int), n < 8 → (∀ z, z < 8 → δ1 (o + 6) z = (mk 14 (um R n z) : Int)) → (∀ c j, c ≠ o + 6 → δ1 c j = δ c j) →
      (∀ δ2, (∀ z, z < 8 → δ2 (o + 6) z = (mk 14 (um R (n + 1) z) : Int)) → (∀ c j, c ≠ o + 6 → δ2 c j = δ c j) → Go E (d + 1) (0, 0) mx_X0_followUnits go_φ 32 [(0, vv_A o), (1, vv_I ((n + 1 : Nat) : Int))] [] δ2 Q) →
      Go E (d + 1) (0, 0) mx_X0_followUnits go_φ 40 [(0, vv_A o), (1, vv_I (n : Int)), (2, vv_I 0)] [] δ1 Q := by
    intro n δ1 hn h1 f1 K
    refine lp_up (X := Nat → Nat → Int) (hi := 8) (I := fun x δ2 => (∀ z, z < 8 → δ2 (o + 6) z = (mk 14 (um R (if z < x then n + 1 else n) z) : Int)) ∧ (∀ c j, c ≠ o + 6 → δ2 c j = δ c j))
      (G := fun x δ2 => Go E (d + 1) (0, 0) mx_X0_followUnits go_φ 40 [(0, vv_A o), (1, vv_I (n : Int)), (2, vv_I (x : Int))] [] δ2 Q) (fun x δ2 hx hI ih => ?_) (fun δ2 hI => ?_) 0 δ1 (Nat.zero_le _) ⟨fun z hz => by rw [if_neg (Nat.not_lt_zero _)]; exact h1 z hz, f1⟩
    · obtain ⟨i1, i2⟩ := hI
      have ix := i1 x hx
      rw [if_neg (Nat.lt_irrefl _)] at ix
      have io : δ2 (o + 6) n = (mk 14 (um R n n) : Int) := by
        rw [i1 n hn]
        split
        · rw [mk_congr (fun y _ => um_n)]
        · rfl
      have hs : ∀ δ3, (∀ c j, (c = o + 6 → j ≠ x) → δ3 c j = δ2 c j) → δ3 (o + 6) x = (mk 14 (um R (n + 1) x) : Int) → Go E (d + 1) (0, 0) mx_X0_followUnits go_φ 40 [(0, vv_A o), (1, vv_I (n : Int)), (2, vv_I ((x + 1 : Nat) : Int))] [] δ3 Q := fun δ3 g1 g2 =>
        ih δ3 ⟨fun z hz => by
          by_cases e : z = x
          · subst e; rw [if_pos (by omega)]; exact g2
          · rw [g1 _ _ (by omega), i1 z hz]
            congr 3
            by_cases q : z < x
            · rw [if_pos q, if_pos (by omega)]
            · rw [if_neg q, if_neg (by omega)], fun c j hc => by rw [g1 c j (fun q => absurd q hc)]; exact i2 c j hc⟩
      refine go_iload_n (i := 2) dx_X0_followUnits_40 rfl rfl ?_
      refine go_bipush dx_X0_followUnits_41 rfl ?_
      refine go_icmp_ge (tgt := 87) dx_X0_followUnits_43 rfl (by omega) (by omega) (fun c43 => by exact absurd c43 (by omega)) (fun c43 => ?_)
      refine go_aload_n (i := 0) dx_X0_followUnits_46 rfl rfl ?_
      refine go_getA (b := (o + 6)) fs_X0_27 rfl (bi_k0 ho) (bi_r7 ho) dx_X0_followUnits_47 ?_
      refine go_iload_n (i := 2) dx_X0_followUnits_50 rfl rfl ?_
      refine go_cS2 ss_X0_75 dx_X0_followUnits_51 (Nat.le_of_ble_eq_true rfl) (Nat.le_of_ble_eq_true rfl) (g_intAtV (i := x) (v := ((mk 14 (um R n x) : Int))) (bi_k6 ho) (by omega) (by rw [(bi_l6 ho)]; omega) (by exact ix) ?_)
      refine go_istore_n (i := 3) (lv' := [(0, vv_A o), (1, vv_I (n : Int)), (2, vv_I (x : Int)), (3, vv_I ((mk 14 (um R n x) : Int)))]) dx_X0_followUnits_54 rfl (by decide) rfl ?_
      refine go_iload_n (i := 3) dx_X0_followUnits_55 rfl rfl ?_
      refine go_iload_n (i := 1) dx_X0_followUnits_56 rfl rfl ?_
      refine go_iushr dx_X0_followUnits_57 ?_
      refine go_iconst dx_X0_followUnits_58 ?_
      refine go_iand dx_X0_followUnits_59 ?_
      refine go_asI (y := (b01 ((mk 14 (um R n x)).testBit n = true))) (by exact bv_tstb (mk_31 14 _ (by decide)) (by omega)) ?_
      refine go_b_eq (tgt := 81) dx_X0_followUnits_60 rfl (fun c60 => ?_) (fun c60 => ?_)
      · refine go_keep [0, 1, 2] rfl ?_
        have e : um R n x n → False := fun q => c60 ((mk_bit _ _ _).mpr ⟨by omega, q⟩)
        refine go_iinc (lv' := [(0, vv_A o), (1, vv_I (n : Int)), (2, vv_I ((x : Int) + 1))]) dx_X0_followUnits_81 rfl (by decide) rfl ?_
        refine go_goto (tgt := 40) dx_X0_followUnits_84 rfl ?_
        exact hs _ (fun _ _ _ => rfl) (by rw [ix, mk_congr (P' := um R (n + 1) x) (fun y _ => by rw [um_s]; exact ⟨Or.inl, fun q => q.elim id (fun z => absurd z.1 e)⟩)])
      · refine go_aload_n (i := 0) dx_X0_followUnits_63 rfl rfl ?_
        refine go_getA (b := (o + 6)) fs_X0_27 rfl (bi_k0 ho) (bi_r7 ho) dx_X0_followUnits_64 ?_
        refine go_iload_n (i := 2) dx_X0_followUnits_67 rfl rfl ?_
        refine go_iload_n (i := 3) dx_X0_followUnits_68 rfl rfl ?_
        refine go_aload_n (i := 0) dx_X0_followUnits_69 rfl rfl ?_
        refine go_getA (b := (o + 6)) fs_X0_27 rfl (bi_k0 ho) (bi_r7 ho) dx_X0_followUnits_70 ?_
        refine go_iload_n (i := 1) dx_X0_followUnits_73 rfl rfl ?_
        refine go_cS2 ss_X0_75 dx_X0_followUnits_74 (Nat.le_of_ble_eq_true rfl) (Nat.le_of_ble_eq_true rfl) (g_intAtV (i := n) (v := ((mk 14 (um R n n) : Int))) (bi_k6 ho) (by omega) (by rw [(bi_l6 ho)]; omega) (by exact io) ?_)
        refine go_ior dx_X0_followUnits_77 ?_
        refine go_asI (y := (mk 14 (um R (n + 1) x) : Int)) (by rw [bv_orN (mk_31 14 _ (by decide)) (mk_31 14 _ (by decide)), mk_or]; congr 1; refine mk_congr (fun y _ => ?_); rw [um_s]; exact ⟨fun q => q.elim Or.inl (fun z => Or.inr ⟨((mk_bit _ _ _).mp c60).2, z⟩), fun q => q.elim Or.inl (fun z => Or.inr z.2)⟩) ?_
        refine go_cS3 ss_X0_52 dx_X0_followUnits_78 (Nat.le_of_ble_eq_true rfl) (Nat.le_of_ble_eq_true rfl) (g_putIntN (i := x) (bi_k6 ho) (by omega) (by rw [(bi_l6 ho)]; omega) ?_)
        refine go_keep [0, 1, 2] rfl ?_
        refine go_iinc (lv' := [(0, vv_A o), (1, vv_I (n : Int)), (2, vv_I ((x : Int) + 1))]) dx_X0_followUnits_81 rfl (by decide) rfl ?_
        refine go_goto (tgt := 40) dx_X0_followUnits_84 rfl ?_
        exact hs _ (fun c j hc => wr_n hc) (wr_eq _ _ _ _)
    · obtain ⟨i1, i2⟩ := hI
      refine go_iload_n (i := 2) dx_X0_followUnits_40 rfl rfl ?_
      refine go_bipush dx_X0_followUnits_41 rfl ?_
      refine go_icmp_ge (tgt := 87) dx_X0_followUnits_43 rfl (by omega) (by omega) (fun c43 => ?_) (fun c43 => by exact absurd c43 (by omega))
      refine go_iinc (lv' := [(0, vv_A o), (1, vv_I ((n : Int) + 1)), (2, vv_I ((8 : Nat) : Int))]) dx_X0_followUnits_87 rfl (by decide) rfl ?_
      refine go_goto (tgt := 32) dx_X0_followUnits_90 rfl ?_
      refine go_keep [0, 1] rfl ?_
      exact K δ2 (fun z hz => by have := i1 z hz; rw [if_pos hz] at this; exact this) i2
  have outer := lp_up (X := Nat → Nat → Int) (hi := 8) (I := fun n δ1 => (∀ z, z < 8 → δ1 (o + 6) z = (mk 14 (um R n z) : Int)) ∧ (∀ c j, c ≠ o + 6 → δ1 c j = δ c j))
      (G := fun n δ1 => Go E (d + 1) (0, 0) mx_X0_followUnits go_φ 32 [(0, vv_A o), (1, vv_I (n : Int))] [] δ1 Q) (fun n δ1 hn hI ih => by
        refine go_iload_n (i := 1) dx_X0_followUnits_32 rfl rfl ?_
        refine go_bipush dx_X0_followUnits_33 rfl ?_
        refine go_icmp_ge (tgt := 93) dx_X0_followUnits_35 rfl (by omega) (by omega) (fun c35 => by exact absurd c35 (by omega)) (fun c35 => ?_)
        refine go_iconst dx_X0_followUnits_38 ?_
        refine go_istore_n (i := 2) (lv' := [(0, vv_A o), (1, vv_I (n : Int)), (2, vv_I 0)]) dx_X0_followUnits_39 rfl (by decide) rfl ?_
        exact inner n δ1 hn hI.1 hI.2 (fun δ2 g1 g2 => ih δ2 ⟨g1, g2⟩)
      ) (fun δ1 hI => by
        refine go_iload_n (i := 1) dx_X0_followUnits_32 rfl rfl ?_
        refine go_bipush dx_X0_followUnits_33 rfl ?_
        refine go_icmp_ge (tgt := 93) dx_X0_followUnits_35 rfl (by omega) (by omega) (fun c35 => ?_) (fun c35 => by exact absurd c35 (by omega))
        refine go_vreturn dx_X0_followUnits_93 rfl (Nat.le_refl _) (Nat.le_refl _) ?_
        exact hQ δ1 (bi_of (bp_fr h (fun c j a _ => hI.2 c j (by omega))) (fun x hx => by rw [hI.1 x hx, mk_congr (fun y _ => um_8 hR)]) hR) hI.2
      )
  have first := lp_up (X := Nat → Nat → Int) (hi := 8) (I := fun x δ1 => (∀ z, z < x → δ1 (o + 6) z = (mk 14 (un R z) : Int)) ∧ (∀ c j, c ≠ o + 6 → δ1 c j = δ c j))
      (G := fun x δ1 => Go E (d + 1) (0, 0) mx_X0_followUnits go_φ 2 [(0, vv_A o), (1, vv_I (x : Int))] [] δ1 Q) (fun x δ1 hx hI ih => by
        refine go_iload_n (i := 1) dx_X0_followUnits_2 rfl rfl ?_
        refine go_bipush dx_X0_followUnits_3 rfl ?_
        refine go_icmp_ge (tgt := 30) dx_X0_followUnits_5 rfl (by omega) (by omega) (fun c5 => by exact absurd c5 (by omega)) (fun c5 => ?_)
        refine go_aload_n (i := 0) dx_X0_followUnits_8 rfl rfl ?_
        refine go_getA (b := (o + 6)) fs_X0_27 rfl (bi_k0 ho) (bi_r7 ho) dx_X0_followUnits_9 ?_
        refine go_iload_n (i := 1) dx_X0_followUnits_12 rfl rfl ?_
        refine go_aload_n (i := 0) dx_X0_followUnits_13 rfl rfl ?_
        refine go_getA (b := (o + 5)) fs_X0_24 rfl (bi_k0 ho) (bi_r6 ho) dx_X0_followUnits_14 ?_
        refine go_iload_n (i := 1) dx_X0_followUnits_17 rfl rfl ?_
        refine go_cS2 ss_X0_75 dx_X0_followUnits_18 (Nat.le_of_ble_eq_true rfl) (Nat.le_of_ble_eq_true rfl) (g_intAtV (i := x) (v := ((mk 14 (un R x) : Int))) (bi_k5 ho) (by omega) (by rw [(bi_l5 ho)]; omega) (by rw [hI.2 _ _ (by omega)]; exact h.2.2.1 x hx) ?_)
        refine go_cS3 ss_X0_52 dx_X0_followUnits_21 (Nat.le_of_ble_eq_true rfl) (Nat.le_of_ble_eq_true rfl) (g_putIntN (i := x) (bi_k6 ho) (by omega) (by rw [(bi_l6 ho)]; omega) ?_)
        refine go_iinc (lv' := [(0, vv_A o), (1, vv_I ((x : Int) + 1))]) dx_X0_followUnits_24 rfl (by decide) rfl ?_
        refine go_goto (tgt := 2) dx_X0_followUnits_27 rfl ?_
        refine ih _ ⟨fun z hz => ?_, fun c j hc => by rw [wr_a _ _ _ _ hc]; exact hI.2 c j hc⟩
        by_cases e : z = x
        · subst e; rw [wr_eq]
        · rw [wr_i _ _ _ _ e]; exact hI.1 z (by omega)
      ) (fun δ1 hI => by
        refine go_iload_n (i := 1) dx_X0_followUnits_2 rfl rfl ?_
        refine go_bipush dx_X0_followUnits_3 rfl ?_
        refine go_icmp_ge (tgt := 30) dx_X0_followUnits_5 rfl (by omega) (by omega) (fun c5 => ?_) (fun c5 => by exact absurd c5 (by omega))
        refine go_iconst dx_X0_followUnits_30 ?_
        refine go_istore_n (i := 1) (lv' := [(0, vv_A o), (1, vv_I 0)]) dx_X0_followUnits_31 rfl (by decide) rfl ?_
        exact outer 0 δ1 (Nat.zero_le _) ⟨fun z hz => by rw [hI.1 z hz, mk_congr (fun y _ => um_0.symm)], hI.2⟩
      )
  refine go_iconst dx_X0_followUnits_0 ?_
  refine go_istore_n (i := 1) (lv' := [(0, vv_A o), (1, vv_I 0)]) dx_X0_followUnits_1 rfl (by decide) rfl ?_
  exact first 0 δ (Nat.zero_le _) ⟨fun z hz => absurd hz (Nat.not_lt_zero _), fun _ _ _ => rfl⟩
theorem g_Binary_addRuleN {r : Nat} {l : List Nat} (ho : bi_ok o) (hR : ∀ r, rl_ok (R r)) (e : R r = l) (h : bp_at δ o R r) (hr : r < 16) (hne : l ≠ [])
    (hQ : ∀ δ', bp_at δ' o R (r + 1) → (∀ c j, ¬ (o + 1 ≤ c ∧ c ≤ o + 5) → c ≠ o + 7 → (c = o → j ≠ 1 ∧ j ≠ 5 ∧ j ≠ 8) → δ' c j = δ c j) → Q [] go_φ δ') :
    Go E (d + 2) (0, 0) mx_X0_addRule go_φ 0 [(0, vv_A o), (1, vv_I (r : Int)), (2, vv_I (rl_enc l : Int))] [] δ Q := by
  subst e
  exact g_Binary_addRule ho hR h hr hne hQ
theorem g_Binary_build {wo : Int} (ho : bi_ok o) (h4 : 4 < o) (ht : td_at δ 3 K) (hw : go_iI wo)
    (hQ : ∀ δ', bi_at δ' o (rl_wo K.1 wo) → (∀ c j, ¬ (o + 1 ≤ c ∧ c ≤ o + 7) → (c = o → j ≠ 1 ∧ j ≠ 5 ∧ j ≠ 8) → δ' c j = δ c j) → Q [] go_φ δ') :
    Go E (d + 3) (0, 0) mx_X0_build go_φ 0 [(0, vv_A o), (1, vv_A 3), (2, vv_I wo)] [] δ Q := by
  have hR : ∀ r, rl_ok (rl_wo K.1 wo r) := rl_wo_ok ht.2.2.2.2.1
  have second := lp_up (X := Nat → Nat → Int) (hi := 16) (I := fun n δ1 => bp_at δ1 o (rl_wo K.1 wo) n ∧ (∀ c j, ¬ (o + 1 ≤ c ∧ c ≤ o + 7) → (c = o → j ≠ 1 ∧ j ≠ 5 ∧ j ≠ 8) → δ1 c j = δ c j))
      (G := fun n δ1 => Go E (d + 3) (0, 0) mx_X0_build go_φ 49 [(0, vv_A o), (1, vv_A 3), (2, vv_I wo), (3, vv_I (n : Int))] [] δ1 Q) (fun n δ1 hn hI ih => by
        have ht1 : td_at δ1 3 K := td_fr3 ht (fun c j hc => hI.2 c j (by omega) (by omega))
        have tail : ∀ δ2, bp_at δ2 o (rl_wo K.1 wo) (n + 1) → (∀ c j, ¬ (o + 1 ≤ c ∧ c ≤ o + 7) → (c = o → j ≠ 1 ∧ j ≠ 5 ∧ j ≠ 8) → δ2 c j = δ c j) → Go E (d + 3) (0, 0) mx_X0_build go_φ 79 [(0, vv_A o), (1, vv_A 3), (2, vv_I wo), (3, vv_I (n : Int))] [] δ2 Q := fun δ2 g1 g2 => by
          refine go_iinc (lv' := [(0, vv_A o), (1, vv_A 3), (2, vv_I wo), (3, vv_I ((n : Int) + 1))]) dx_X0_build_79 rfl (by decide) rfl ?_
          refine go_goto (tgt := 49) dx_X0_build_82 rfl ?_
          exact ih δ2 ⟨g1, g2⟩
        refine go_iload_n (i := 3) dx_X0_build_49 rfl rfl ?_
        refine go_bipush dx_X0_build_50 rfl ?_
        refine go_icmp_ge (tgt := 85) dx_X0_build_52 rfl (by omega) (by omega) (fun c52 => by exact absurd c52 (by omega)) (fun c52 => ?_)
        refine go_aload_n (i := 1) dx_X0_build_55 rfl rfl ?_
        refine go_iload_n (i := 3) dx_X0_build_56 rfl rfl ?_
        refine go_cV1 sv_X0_56 (go_ok rfl rfl) dx_X0_build_57 (Nat.le_of_ble_eq_true rfl) (Nat.le_of_ble_eq_true rfl) (g_Told_ruleAtN td_ok3 ht1 hn ?_)
        refine go_istore (lv' := [(0, vv_A o), (1, vv_A 3), (2, vv_I wo), (3, vv_I (n : Int)), (4, vv_I (rl_enc (K.1 n) : Int))]) dx_X0_build_60 (by decide) rfl ?_
        refine go_iload dx_X0_build_62 rfl ?_
        refine go_if_eq (tgt := 79) dx_X0_build_64 rfl (by first | omega | (have := rl_enc_lt (ht.2.2.2.2.1 n); omega)) (fun c64 => ?_) (fun c64 => ?_)
        · refine go_keep [0, 1, 2, 3] rfl ?_
          exact tail δ1 (bp_emp hI.1 (by unfold rl_wo; split; exact rfl; exact (rl_enc_eq0 ht.2.2.2.2 n).mp c64)) hI.2
        · refine go_iload_n (i := 3) dx_X0_build_67 rfl rfl ?_
          refine go_iload_n (i := 2) dx_X0_build_68 rfl rfl ?_
          refine go_icmp_eq (tgt := 79) dx_X0_build_69 rfl (by omega) (by omega) (fun c69 => ?_) (fun c69 => ?_)
          · refine go_keep [0, 1, 2, 3] rfl ?_
            exact tail δ1 (bp_emp hI.1 (by unfold rl_wo; rw [if_pos c69])) hI.2
          · refine go_aload_n (i := 0) dx_X0_build_72 rfl rfl ?_
            refine go_iload_n (i := 3) dx_X0_build_73 rfl rfl ?_
            refine go_iload dx_X0_build_74 rfl ?_
            have ern : rl_wo K.1 wo n = K.1 n := by { unfold rl_wo; rw [if_neg c69] }
            refine go_cV2 sv_X0_62 (bi_k0 ho) dx_X0_build_76 (Nat.le_of_ble_eq_true rfl) (Nat.le_of_ble_eq_true rfl) (g_Binary_addRuleN ho hR ern hI.1 hn (fun q => c64 ((rl_enc_eq0 ht.2.2.2.2 n).mpr q)) (fun δ2 h2 f2 => ?_))
            refine go_keep [0, 1, 2, 3] rfl ?_
            exact tail δ2 h2 (fun c j a b => by rw [f2 c j (by omega) (by omega) b]; exact hI.2 c j a b)
      ) (fun δ1 hI => by
        refine go_iload_n (i := 3) dx_X0_build_49 rfl rfl ?_
        refine go_bipush dx_X0_build_50 rfl ?_
        refine go_icmp_ge (tgt := 85) dx_X0_build_52 rfl (by omega) (by omega) (fun c52 => ?_) (fun c52 => by exact absurd c52 (by omega))
        refine go_aload_n (i := 0) dx_X0_build_85 rfl rfl ?_
        refine go_cV0 sv_X0_66 (bi_k0 ho) dx_X0_build_86 (Nat.le_of_ble_eq_true rfl) (Nat.le_of_ble_eq_true rfl) (g_Binary_followUnits ho hR hI.1 (fun δ2 h2 f2 => ?_))
        refine go_vreturn dx_X0_build_89 rfl (Nat.le_refl _) (Nat.le_refl _) ?_
        exact hQ δ2 h2 (fun c j a b => by rw [f2 c j (by omega)]; exact hI.2 c j a b)
      )
  have first := lp_up (X := Nat → Nat → Int) (hi := 8) (I := fun x δ1 => (∀ z, z < x → δ1 (o + 5) z = 0 ∧ δ1 (o + 7) z = 0) ∧ δ1 o 1 = 0 ∧ δ1 o 5 = 0 ∧ δ1 o 8 = 0 ∧ (∀ c j, ¬ (o + 1 ≤ c ∧ c ≤ o + 7) → (c = o → j ≠ 1 ∧ j ≠ 5 ∧ j ≠ 8) → δ1 c j = δ c j))
      (G := fun x δ1 => Go E (d + 3) (0, 0) mx_X0_build go_φ 17 [(0, vv_A o), (1, vv_A 3), (2, vv_I wo), (3, vv_I (x : Int))] [] δ1 Q) (fun x δ1 hx hI ih => by
        obtain ⟨i1, i2, i3, i4, i5⟩ := hI
        refine go_iload_n (i := 3) dx_X0_build_17 rfl rfl ?_
        refine go_bipush dx_X0_build_18 rfl ?_
        refine go_icmp_ge (tgt := 47) dx_X0_build_20 rfl (by omega) (by omega) (fun c20 => by exact absurd c20 (by omega)) (fun c20 => ?_)
        refine go_aload_n (i := 0) dx_X0_build_23 rfl rfl ?_
        refine go_getA (b := (o + 5)) fs_X0_24 rfl (bi_k0 ho) (bi_r6 ho) dx_X0_build_24 ?_
        refine go_iload_n (i := 3) dx_X0_build_27 rfl rfl ?_
        refine go_iconst dx_X0_build_28 ?_
        refine go_cS3 ss_X0_52 dx_X0_build_29 (Nat.le_of_ble_eq_true rfl) (Nat.le_of_ble_eq_true rfl) (g_putIntN (i := x) (bi_k5 ho) (by omega) (by rw [(bi_l5 ho)]; omega) ?_)
        refine go_aload_n (i := 0) dx_X0_build_32 rfl rfl ?_
        refine go_getA (b := (o + 7)) fs_X0_30 rfl (bi_k0 ho) (bi_r9 ho) dx_X0_build_33 ?_
        refine go_iload_n (i := 3) dx_X0_build_36 rfl rfl ?_
        refine go_iconst dx_X0_build_37 ?_
        refine go_cS3 ss_X0_52 dx_X0_build_38 (Nat.le_of_ble_eq_true rfl) (Nat.le_of_ble_eq_true rfl) (g_putIntN (i := x) (bi_k7 ho) (by omega) (by rw [(bi_l7 ho)]; omega) ?_)
        refine go_iinc (lv' := [(0, vv_A o), (1, vv_A 3), (2, vv_I wo), (3, vv_I ((x : Int) + 1))]) dx_X0_build_41 rfl (by decide) rfl ?_
        refine go_goto (tgt := 17) dx_X0_build_44 rfl ?_
        refine ih _ ⟨fun z hz => ?_, by rw [wr_n (by omega), wr_n (by omega)]; exact i2, by rw [wr_n (by omega), wr_n (by omega)]; exact i3, by rw [wr_n (by omega), wr_n (by omega)]; exact i4, fun c j a b => by rw [wr_n (by omega), wr_n (by omega)]; exact i5 c j a b⟩
        by_cases e : z = x
        · subst e; exact ⟨by rw [wr_n (by omega), wr_eq], by rw [wr_eq]⟩
        · exact ⟨by rw [wr_n (by omega), wr_i _ _ _ _ e]; exact (i1 z (by omega)).1, by rw [wr_i _ _ _ _ e, wr_n (by omega)]; exact (i1 z (by omega)).2⟩
      ) (fun δ1 hI => by
        obtain ⟨i1, i2, i3, i4, i5⟩ := hI
        refine go_iload_n (i := 3) dx_X0_build_17 rfl rfl ?_
        refine go_bipush dx_X0_build_18 rfl ?_
        refine go_icmp_ge (tgt := 47) dx_X0_build_20 rfl (by omega) (by omega) (fun c20 => ?_) (fun c20 => by exact absurd c20 (by omega))
        refine go_iconst dx_X0_build_47 ?_
        refine go_istore_n (i := 3) (lv' := [(0, vv_A o), (1, vv_A 3), (2, vv_I wo), (3, vv_I 0)]) dx_X0_build_48 rfl (by decide) rfl ?_
        refine second 0 δ1 (Nat.zero_le _) ⟨⟨⟨i2, fun k hk => absurd hk (Nat.not_lt_zero _), i3, fun k hk => absurd hk (Nat.not_lt_zero _)⟩, fun r hr => absurd hr (Nat.not_lt_zero _), fun x hx => ?_, i4, fun x hx => ?_⟩, i5⟩
        · rw [(i1 x hx).1, mk_zero (fun y _ ⟨r, a, _⟩ => absurd a (Nat.not_lt_zero _))]; rfl
        · rw [(i1 x hx).2, mk_zero (fun y _ ⟨r, a, _⟩ => absurd a (Nat.not_lt_zero _))]; rfl
      )
  refine go_aload_n (i := 0) dx_X0_build_0 rfl rfl ?_
  refine go_iconst dx_X0_build_1 ?_
  refine go_putI fp_X0_42 rfl rfl (bi_k0 ho) dx_X0_build_2 ?_
  refine go_aload_n (i := 0) dx_X0_build_5 rfl rfl ?_
  refine go_iconst dx_X0_build_6 ?_
  refine go_putI fp_X0_46 rfl rfl (bi_k0 ho) dx_X0_build_7 ?_
  refine go_aload_n (i := 0) dx_X0_build_10 rfl rfl ?_
  refine go_iconst dx_X0_build_11 ?_
  refine go_putI fp_X0_49 rfl rfl (bi_k0 ho) dx_X0_build_12 ?_
  refine go_iconst dx_X0_build_15 ?_
  refine go_istore_n (i := 3) (lv' := [(0, vv_A o), (1, vv_A 3), (2, vv_I wo), (3, vv_I 0)]) dx_X0_build_16 rfl (by decide) rfl ?_
  exact first 0 _ (Nat.zero_le _) ⟨fun z hz => absurd hz (Nat.not_lt_zero _), by rw [wr_n (by omega), wr_n (by omega), wr_eq], by rw [wr_n (by omega), wr_eq], by rw [wr_eq], fun c j a b => by rw [wr_n (by omega), wr_n (by omega), wr_n (by omega)]⟩
end GUNITS
