/-! the class's state with what it keeps -/
def fc (δ δ' : Nat → Nat → Int) : Prop := ∀ b, 94 ≤ b → ∀ j, δ' b j = δ b j
theorem fc_rf {δ : Nat → Nat → Int} : fc δ δ := fun _ _ _ => rfl
theorem fc_tr {δ δ1 δ2 : Nat → Nat → Int} (h1 : fc δ δ1) (h2 : fc δ1 δ2) : fc δ δ2 := fun b hb j => by rw [h2 b hb j, h1 b hb j]
theorem xs_fr {δ δ' : Nat → Nat → Int} {S : sS} (h : xs_at δ S) (f : ∀ b, 1 ≤ b → (b < 33 ∨ b = 92 ∨ b = 93) → ∀ j, δ' b j = δ b j) : xs_at δ' S := by
  obtain ⟨g1, ⟨t1, t2, t3, t4, t5, t6⟩, ⟨p1, nw, p2, p3, p4, p5⟩, g4, g5⟩ := h
  have td : ∀ o K, 1 ≤ o → o + 1 < 33 → td_at δ o K → td_at δ' o K := fun o K a b q => ⟨fun r hr => by rw [f _ (by omega) (by omega)]; exact q.1 r hr, by rw [f _ (by omega) (by omega)]; exact q.2.1, by rw [f _ (by omega) (by omega)]; exact q.2.2.1, by rw [f _ (by omega) (by omega)]; exact q.2.2.2.1, q.2.2.2.2⟩
  refine ⟨td 3 _ (by decide) (by decide) g1, ⟨t1, by rw [f _ (by decide) (by decide)]; exact t2, fun k hk => by rw [f _ (by decide) (by decide)]; exact t3 k hk, t4, by rw [f _ (by decide) (by decide)]; exact t5, by rw [f _ (by decide) (by decide)]; exact t6⟩, ⟨p1, nw, p2, by rw [f _ (by decide) (by decide)]; exact p3, by rw [f _ (by decide) (by decide)]; exact p4, fun k hk => td _ _ (by omega) (by omega) (p5 k hk)⟩, fun i hi => ?_, fun t ht => ?_⟩
  · rcases g4 i hi with ⟨a, b⟩ | ⟨K, a, b, c⟩
    · exact Or.inl ⟨a, by rw [f _ (by decide) (by decide)]; exact b⟩
    · exact Or.inr ⟨K, a, by rw [f _ (by decide) (by decide)]; exact b, td _ _ (by omega) (by omega) c⟩
  · rcases g5 t ht with ⟨a, b⟩ | ⟨l, a, b, c, e, g⟩
    · exact Or.inl ⟨a, by rw [f _ (by decide) (by decide)]; exact b⟩
    · exact Or.inr ⟨l, a, b, by rw [f _ (by decide) (by decide)]; exact c, fun i hi => by rw [f _ (by decide) (by decide)]; exact e i hi, g⟩
def vof (n : Nat) : Nat := [0, 0, 1, 2, 6, 27].getD n 0
/-- the words of up to four letters that each symbol derives -/
def vo_at (δ : Nat → Nat → Int) (R : Nat → List Nat) : Prop := ∀ x, x < 14 + (gH R).length → ∀ n, 1 ≤ n → n ≤ 4 → ∀ w, vof n + w < vof (n + 1) → δ 75 (27 * x + (vof n + w)) = vb (fun b => 64 * w + b < 6 ^ n ∧ dx R x (wdn n (64 * w + b)))
def kst (δ : Nat → Nat → Int) (c q : Nat) : Prop := 0 ≤ δ c q ∧ δ c q ≤ δ 0 16
def kts (Tm : Int) (δ : Nat → Nat → Int) : Prop := (1 ≤ δ 0 16 ∧ δ 0 16 ≤ Tm ∧ Tm ≤ 2147483647) ∧ kst δ 0 17 ∧ kst δ 49 6 ∧ kst δ 52 6 ∧ kst δ 56 17 ∧ kst δ 62 6 ∧ kst δ 67 6 ∧ kst δ 71 6 ∧ kst δ 74 1
def kno (δ : Nat → Nat → Int) : Prop := δ 44 0 = bI false ∧ δ 62 0 = bI true ∧ δ 87 0 = bI false ∧ δ 49 2 = 0 ∧ δ 49 3 = -1 ∧ δ 52 2 = bI false ∧ δ 52 3 = 0 ∧ δ 67 2 = bI true ∧ δ 67 3 = 0 ∧ δ 71 2 = 0 ∧ δ 71 3 = -1
def k17 (δ : Nat → Nat → Int) (K : sK) : Prop := δ 0 17 = δ 0 16 → bi_at δ 33 K.1 ∧ bm_at δ 33 K.1 ∧ ct_at δ 44 false K.1 (plw K.2.2) K.2.2.length
def k49 (δ : Nat → Nat → Int) (K : sK) : Prop := δ 49 6 = δ 0 16 → rt_at δ K
def k52 (δ : Nat → Nat → Int) (K : sK) : Prop := δ 52 6 = δ 0 16 → ft_at δ 52 false K.1 (plw K.2.2) K.2.2.length
def k56 (δ : Nat → Nat → Int) (K : sK) : Prop := δ 56 17 = δ 0 16 → ∃ m : Nat, δ 56 18 = (m : Int) ∧ m ≤ 2147483647 ∧ ln_at δ (ltr2 K m)
def k62 (δ : Nat → Nat → Int) (K : sK) : Prop := δ 62 6 = δ 0 16 → ct_at δ 62 true K.1 pla 14
def k67 (δ : Nat → Nat → Int) (K : sK) : Prop := δ 67 6 = δ 0 16 → ft_at δ 67 true K.1 pla 14
def k71 (δ : Nat → Nat → Int) (K : sK) : Prop := δ 71 6 = δ 0 16 → nt_at δ K
def k74 (δ : Nat → Nat → Int) (K : sK) : Prop := δ 74 1 = δ 0 16 → vo_at δ K.1
theorem k17_fr {δ δ' : Nat → Nat → Int} {K : sK} (h : k17 δ K) (f : ∀ b j, (33 ≤ b ∧ b ≤ 42) ∨ b = 44 ∨ b = 46 ∨ (b = 0 ∧ (j = 16 ∨ j = 17)) → δ' b j = δ b j) : k17 δ' K := fun e => by
  rw [f 0 17 (by omega), f 0 16 (by omega)] at e
  obtain ⟨a, b, c⟩ := h e
  exact ⟨bi_fr a (fun c j h1 _ => f c j (by omega)), bm_fr b (fun c j h1 => f c j (by omega)), ct_fr c (fun c j h1 => f c j (by omega))⟩
theorem k49_fr {δ δ' : Nat → Nat → Int} {K : sK} (h : k49 δ K) (f : ∀ b j, b = 50 ∨ (b = 49 ∧ j = 6) ∨ (b = 0 ∧ j = 16) → δ' b j = δ b j) : k49 δ' K := fun e => by
  rw [f 49 6 (by omega), f 0 16 (by omega)] at e
  exact fun i j a b c x hx => by rw [f _ _ (by omega)]; exact h e i j a b c x hx
theorem k52_fr {δ δ' : Nat → Nat → Int} {K : sK} (h : k52 δ K) (f : ∀ b j, b = 53 ∨ b = 55 ∨ (b = 52 ∧ j = 6) ∨ (b = 0 ∧ j = 16) → δ' b j = δ b j) : k52 δ' K := fun e => by
  rw [f 52 6 (by omega), f 0 16 (by omega)] at e
  exact tvF_fr (h e) (fun c j q => f c j (by omega))
theorem k56_fr {δ δ' : Nat → Nat → Int} {K : sK} (h : k56 δ K) (f : ∀ b j, b = 57 ∨ (b = 56 ∧ (j = 4 ∨ j = 17 ∨ j = 18)) ∨ (b = 0 ∧ j = 16) → δ' b j = δ b j) : k56 δ' K := fun e => by
  rw [f 56 17 (by omega), f 0 16 (by omega)] at e
  obtain ⟨m, a, b, c⟩ := h e
  exact ⟨m, by rw [f 56 18 (by omega)]; exact a, b, ln_fr c (fun c j q => f c j (by omega))⟩
theorem k62_fr {δ δ' : Nat → Nat → Int} {K : sK} (h : k62 δ K) (f : ∀ b j, b = 64 ∨ (b = 62 ∧ (j = 0 ∨ j = 5 ∨ j = 6)) ∨ (b = 0 ∧ j = 16) → δ' b j = δ b j) : k62 δ' K := fun e => by
  rw [f 62 6 (by omega), f 0 16 (by omega)] at e
  exact ct_fr (h e) (fun c j h1 => f c j (by omega))
theorem k67_fr {δ δ' : Nat → Nat → Int} {K : sK} (h : k67 δ K) (f : ∀ b j, b = 68 ∨ b = 70 ∨ (b = 67 ∧ j = 6) ∨ (b = 0 ∧ j = 16) → δ' b j = δ b j) : k67 δ' K := fun e => by
  rw [f 67 6 (by omega), f 0 16 (by omega)] at e
  exact tvF_fr (h e) (fun c j q => f c j (by omega))
theorem k71_fr {δ δ' : Nat → Nat → Int} {K : sK} (h : k71 δ K) (f : ∀ b j, b = 72 ∨ (b = 71 ∧ j = 6) ∨ (b = 0 ∧ j = 16) → δ' b j = δ b j) : k71 δ' K := fun e => by
  rw [f 71 6 (by omega), f 0 16 (by omega)] at e
  exact fun i j a b c x hx => by rw [f _ _ (by omega)]; exact h e i j a b c x hx
theorem k74_fr {δ δ' : Nat → Nat → Int} {K : sK} (h : k74 δ K) (f : ∀ b j, b = 75 ∨ (b = 74 ∧ j = 1) ∨ (b = 0 ∧ j = 16) → δ' b j = δ b j) : k74 δ' K := fun e => by
  rw [f 74 1 (by omega), f 0 16 (by omega)] at e
  exact fun x hx n a b w c => by rw [f _ _ (by omega)]; exact h e x hx n a b w c
def xk_at (Tm : Int) (δ : Nat → Nat → Int) (S : sS) : Prop := xs_at δ S ∧ kts Tm δ ∧ kno δ ∧ k17 δ S.1 ∧ k49 δ S.1 ∧ k52 δ S.1 ∧ k56 δ S.1 ∧ k62 δ S.1 ∧ k67 δ S.1 ∧ k71 δ S.1 ∧ k74 δ S.1
section GST
variable {E : go_E} {d : Nat} {δ : Nat → Nat → Int} {Q : List go_V → go_F → (Nat → Nat → Int) → Prop} {S : sS} {Tm : Int}
theorem kno_fr {δ δ' : Nat → Nat → Int} (h : kno δ) (f : ∀ b j, ((b = 44 ∨ b = 62 ∨ b = 87) ∧ j = 0) ∨ ((b = 49 ∨ b = 52 ∨ b = 67 ∨ b = 71) ∧ (j = 2 ∨ j = 3)) → δ' b j = δ b j) : kno δ' := by
  obtain ⟨a1, a2, a3, a4, a5, a6, a7, a8, a9, a10, a11⟩ := h
  exact ⟨by rw [f _ _ (by omega)]; exact a1, by rw [f _ _ (by omega)]; exact a2, by rw [f _ _ (by omega)]; exact a3, by rw [f _ _ (by omega)]; exact a4, by rw [f _ _ (by omega)]; exact a5, by rw [f _ _ (by omega)]; exact a6, by rw [f _ _ (by omega)]; exact a7, by rw [f _ _ (by omega)]; exact a8, by rw [f _ _ (by omega)]; exact a9, by rw [f _ _ (by omega)]; exact a10, by rw [f _ _ (by omega)]; exact a11⟩
/-- a stamp renewed -/
theorem kts_fr {δ δ' : Nat → Nat → Int} (h : kts Tm δ) (c q : Nat) (f0 : δ' 0 16 = δ 0 16) (f : ∀ b j, (b = 0 ∧ j = 17) ∨ ((b = 49 ∨ b = 52 ∨ b = 62 ∨ b = 67 ∨ b = 71) ∧ j = 6) ∨ (b = 56 ∧ j = 17) ∨ (b = 74 ∧ j = 1) → δ' b j = δ b j ∨ δ' b j = δ 0 16) : kts Tm δ' := by
  obtain ⟨a0, a1, a2, a3, a4, a5, a6, a7, a8⟩ := h
  have key : ∀ b j, kst δ b j → (δ' b j = δ b j ∨ δ' b j = δ 0 16) → kst δ' b j := fun b j g e => by
    unfold kst at g ⊢
    rw [f0]
    rcases e with e | e <;> rw [e] <;> omega
  exact ⟨by rw [f0]; exact a0, key _ _ a1 (f _ _ (by omega)), key _ _ a2 (f _ _ (by omega)), key _ _ a3 (f _ _ (by omega)), key _ _ a4 (f _ _ (by omega)), key _ _ a5 (f _ _ (by omega)), key _ _ a6 (f _ _ (by omega)), key _ _ a7 (f _ _ (by omega)), key _ _ a8 (f _ _ (by omega))⟩
/-- only the reference moved -/
theorem xk_fl {δ' : Nat → Nat → Int} (h : xk_at Tm δ S) (f : fl δ δ') : xk_at Tm δ' S := by
  obtain ⟨a1, a2, a3, a4, a5, a6, a7, a8, a9, a10, a11⟩ := h
  refine ⟨xs_fr a1 (fun b _ h2 j => f b (by omega) j), kts_fr a2 0 0 (f 0 (by decide) 16) (fun b j h => Or.inl (f b (by omega) j)), kno_fr a3 (fun b j h => f b (by omega) j), k17_fr a4 (fun b j h => f b (by omega) j), k49_fr a5 (fun b j h => f b (by omega) j), k52_fr a6 (fun b j h => f b (by omega) j), k56_fr a7 (fun b j h => f b (by omega) j), k62_fr a8 (fun b j h => f b (by omega) j), k67_fr a9 (fun b j h => f b (by omega) j), k71_fr a10 (fun b j h => f b (by omega) j), k74_fr a11 (fun b j h => f b (by omega) j)⟩
theorem g_freshen (h : xk_at Tm δ S) (hQ : ∀ δ', xk_at Tm δ' S → δ' 0 17 = δ' 0 16 → fc δ δ' → Q [] go_φ δ') : Go E (d + 11) (0, 0) mx_X11_freshen go_φ 0 [(0, vv_A 0)] [] δ Q := by
  obtain ⟨a1, a2, a3, a4, a5, a6, a7, a8, a9, a10, a11⟩ := id h
  have htd := a1.1
  have hst := a2.1
  have hs17 := a2.2.1
  unfold kst at hs17
  have e3 := htd.2.2.2.1
  have h14 := htd.2.2.2.2.2.2.2.2.1
  have hlet := htd.2.2.2.2.2.2.2.2.2
  by_cases z : δ 0 17 = δ 0 16
  · refine go_aload_n (i := 0) dx_X11_freshen_0 rfl rfl ?_
    refine go_getI fs_X11_113 (Or.inl rfl) (go_ok rfl rfl) dx_X11_freshen_1 ?_
    refine go_aload_n (i := 0) dx_X11_freshen_4 rfl rfl ?_
    refine go_getI fs_X11_109 (Or.inl rfl) (go_ok rfl rfl) dx_X11_freshen_5 ?_
    refine go_icmp_ne (tgt := 12) dx_X11_freshen_8 rfl (by omega) (by omega) (fun c8 => by exact absurd z c8) (fun c8 => ?_)
    refine go_vreturn dx_X11_freshen_11 rfl (Nat.le_refl _) (Nat.le_refl _) ?_
    exact hQ δ h z fc_rf
  · have hwo : rl_wo S.1.1 (-1) = S.1.1 := by
      funext s
      unfold rl_wo
      rw [if_neg (by omega)]
    refine go_aload_n (i := 0) dx_X11_freshen_0 rfl rfl ?_
    refine go_getI fs_X11_113 (Or.inl rfl) (go_ok rfl rfl) dx_X11_freshen_1 ?_
    refine go_aload_n (i := 0) dx_X11_freshen_4 rfl rfl ?_
    refine go_getI fs_X11_109 (Or.inl rfl) (go_ok rfl rfl) dx_X11_freshen_5 ?_
    refine go_icmp_ne (tgt := 12) dx_X11_freshen_8 rfl (by omega) (by omega) (fun c8 => ?_) (fun c8 => by exact absurd c8 z)
    refine go_aload_n (i := 0) dx_X11_freshen_12 rfl rfl ?_
    refine go_getA (b := 33) fs_X11_33 rfl (go_ok rfl rfl) rfl dx_X11_freshen_13 ?_
    refine go_aload_n (i := 0) dx_X11_freshen_16 rfl rfl ?_
    refine go_getA (b := 3) fs_X11_19 rfl (go_ok rfl rfl) rfl dx_X11_freshen_17 ?_
    refine go_iconst dx_X11_freshen_20 ?_
    refine go_cV2 sv_X11_293 (go_ok rfl rfl) dx_X11_freshen_21 (Nat.le_of_ble_eq_true rfl) (Nat.le_of_ble_eq_true rfl) (g_Binary_build bi_ok33 (by decide) htd (by decide) (fun δ1 b1 f1 => ?_))
    refine go_aload_n (i := 0) dx_X11_freshen_24 rfl rfl ?_
    refine go_getA (b := 33) fs_X11_33 rfl (go_ok rfl rfl) rfl dx_X11_freshen_25 ?_
    refine go_cV0 sv_X11_405 (go_ok rfl rfl) dx_X11_freshen_28 (Nat.le_of_ble_eq_true rfl) (Nat.le_of_ble_eq_true rfl) (g_Binary_measure bi_ok33 b1 (fun δ2 b2 f2 => ?_))
    refine go_aload_n (i := 0) dx_X11_freshen_31 rfl rfl ?_
    refine go_getA (b := 44) fs_X11_42 rfl (go_ok rfl rfl) rfl dx_X11_freshen_32 ?_
    refine go_aload_n (i := 0) dx_X11_freshen_35 rfl rfl ?_
    refine go_getA (b := 3) fs_X11_19 rfl (go_ok rfl rfl) rfl dx_X11_freshen_36 ?_
    refine go_iconst dx_X11_freshen_39 ?_
    refine go_cV2 sv_X11_297 (go_ok rfl rfl) dx_X11_freshen_40 (Nat.le_of_ble_eq_true rfl) (Nat.le_of_ble_eq_true rfl) (g_Chart_readWord (rv := false) (w := S.1.2.2) ch_ok44 (by decide) (td_fr3 htd (fun c j hc => by rw [f2 c j (by omega) (by omega), f1 c j (by omega) (by omega)])) rfl (fun δ3 b3 f3 => ?_))
    rw [hwo] at b1 b2
    have fr3 : ∀ c j, (c < 33 ∨ 45 < c ∨ (c = 44)) → δ3 c j = δ c j := fun c j hc => by rw [f3 c j (by omega), f2 c j (by omega) (by omega), f1 c j (by omega) (by omega)]
    have hb3 : bi_at δ3 33 S.1.1 := bi_fr b1 (fun c j h1 h2 => by rw [f3 c j (by omega), f2 c j (by omega) (by omega)])
    have e33 : δ3 3 3 = (S.1.2.2.length : Int) := by rw [fr3 3 3 (by omega)]; exact e3
    refine go_aload_n (i := 0) dx_X11_freshen_43 rfl rfl ?_
    refine go_getA (b := 44) fs_X11_42 rfl (go_ok rfl rfl) rfl dx_X11_freshen_44 ?_
    refine go_aload_n (i := 0) dx_X11_freshen_47 rfl rfl ?_
    refine go_getA (b := 33) fs_X11_33 rfl (go_ok rfl rfl) rfl dx_X11_freshen_48 ?_
    refine go_aload_n (i := 0) dx_X11_freshen_51 rfl rfl ?_
    refine go_getA (b := 3) fs_X11_19 rfl (go_ok rfl rfl) rfl dx_X11_freshen_52 ?_
    refine go_getI fs_X11_239 (Or.inl rfl) (go_ok rfl rfl) dx_X11_freshen_55 ?_
    refine go_asI (y := (S.1.2.2.length : Int)) (by exact e33) ?_
    refine go_cV2 sv_X11_301 (go_ok rfl rfl) dx_X11_freshen_58 (Nat.le_of_ble_eq_true rfl) (Nat.le_of_ble_eq_true rfl) (g_Chart_fill ch_ok44 bi_ok33 (by omega) hb3 (by rw [fr3 44 0 (by omega)]; exact a3.1) h14 b3 (fun i c q => hlet c (List.mem_of_getElem? q)) (fun q => by cases q) (fun δ4 b4 f4 => ?_))
    have fr4 : ∀ c j, (c < 33 ∨ 46 < c ∨ (c = 44 ∧ j ≠ 5)) → δ4 c j = δ c j := fun c j hc => by rw [f4 c j (by omega) (by omega), fr3 c j (by omega)]
    refine go_aload_n (i := 0) dx_X11_freshen_61 rfl rfl ?_
    refine go_aload_n (i := 0) dx_X11_freshen_62 rfl rfl ?_
    refine go_getI fs_X11_109 (Or.inl rfl) (go_ok rfl rfl) dx_X11_freshen_63 ?_
    refine go_putI fp_X11_113 rfl rfl (go_ok rfl rfl) dx_X11_freshen_66 ?_
    refine go_vreturn dx_X11_freshen_69 rfl (Nat.le_refl _) (Nat.le_refl _) ?_
    refine hQ _ ⟨xs_fr a1 (fun b h1 h2 j => by rw [wr_n (by omega)]; exact fr4 b j (by omega)), kts_fr a2 0 0 (by rw [wr_n (by omega)]; exact fr4 0 16 (by omega)) (fun b j h => ?_), kno_fr a3 (fun b j h => by rw [wr_n (by omega)]; exact fr4 b j (by omega)), fun _ => ⟨?_, ?_, ?_⟩, k49_fr a5 (fun b j h => by rw [wr_n (by omega)]; exact fr4 b j (by omega)), k52_fr a6 (fun b j h => by rw [wr_n (by omega)]; exact fr4 b j (by omega)), k56_fr a7 (fun b j h => by rw [wr_n (by omega)]; exact fr4 b j (by omega)), k62_fr a8 (fun b j h => by rw [wr_n (by omega)]; exact fr4 b j (by omega)), k67_fr a9 (fun b j h => by rw [wr_n (by omega)]; exact fr4 b j (by omega)), k71_fr a10 (fun b j h => by rw [wr_n (by omega)]; exact fr4 b j (by omega)), k74_fr a11 (fun b j h => by rw [wr_n (by omega)]; exact fr4 b j (by omega))⟩ ?_ (fun b hb j => by rw [wr_n (by omega)]; exact fr4 b j (by omega))
    · by_cases y : b = 0 ∧ j = 17
      · obtain ⟨y1, y2⟩ := y
        subst y1 y2
        rw [wr_eq]
        exact Or.inr (fr4 0 16 (by omega))
      · rw [wr_n (by omega)]
        exact Or.inl (fr4 b j (by omega))
    · exact bi_fr hb3 (fun c j h1 h2 => by rw [wr_n (by omega)]; exact f4 c j (by omega) (by omega))
    · exact bm_fr b2 (fun c j h1 => by rw [wr_n (by omega), f4 c j (by omega) (by omega), f3 c j (by omega)])
    · exact ct_fr b4 (fun c j h1 => wr_n (by omega))
    · rw [wr_eq, wr_n (by omega)]
end GST
