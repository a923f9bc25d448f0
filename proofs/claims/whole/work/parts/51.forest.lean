/-! the class's counts of trees -/
noncomputable def MX : Nat := Classical.choose (Exists.intro 9223372036854775807 rfl : ∃ m, m = 9223372036854775807)
theorem MX_eq : MX = 9223372036854775807 := Classical.choose_spec (Exists.intro 9223372036854775807 rfl : ∃ m, m = 9223372036854775807)
/-- a number, or too many -/
noncomputable def st (n : Nat) : Int := if n ≤ MX then (n : Int) else -7
theorem st_le {n : Nat} (h : n ≤ MX) : st n = (n : Int) := if_pos h
theorem st_gt {n : Nat} (h : ¬ n ≤ MX) : st n = -7 := if_neg h
theorem st_iL (n : Nat) : go_iL (st n) := by
  have h := MX_eq
  by_cases q : n ≤ MX
  · rw [st_le q]; exact ⟨by omega, by omega⟩
  · rw [st_gt q]; exact ⟨by decide, by decide⟩
theorem st_0 : st 0 = 0 := st_le (Nat.zero_le _)
theorem st_small {n : Nat} (h : n ≤ 2147483647) : st n = (n : Int) := st_le (by have := MX_eq; omega)
theorem fo_add_st (a b : Nat) : fo_add (st a) (st b) = st (a + b) := by
  have h := MX_eq
  unfold fo_add
  by_cases ha : a ≤ MX
  · by_cases hb : b ≤ MX
    · rw [st_le ha, st_le hb, if_neg (by omega)]
      by_cases q : a + b ≤ MX
      · rw [st_le q, if_neg (by omega)]; omega
      · rw [st_gt q, if_pos (by omega)]
    · rw [st_gt hb, st_gt (n := a + b) (by omega), if_pos (Or.inr (by decide))]
  · rw [st_gt ha, st_gt (n := a + b) (by omega), if_pos (Or.inl (by decide))]
theorem fo_mul_st (a b : Nat) : fo_mul (st a) (st b) = st (a * b) := by
  have h := MX_eq
  unfold fo_mul
  by_cases ha0 : a = 0
  · subst ha0; rw [Nat.zero_mul, st_0, if_pos (Or.inl rfl)]
  by_cases hb0 : b = 0
  · subst hb0; rw [Nat.mul_zero, st_0, if_pos (Or.inr rfl)]
  by_cases ha : a ≤ MX
  · by_cases hb : b ≤ MX
    · rw [st_le ha, st_le hb, if_neg (by omega), if_neg (by omega), show (9223372036854775807 : Int) = (MX : Int) by rw [h]; rfl, ← Int.natCast_ediv]
      by_cases q : a * b ≤ MX
      · have : a ≤ MX / b := (Nat.le_div_iff_mul_le (by omega)).mpr q
        rw [st_le q, if_neg (by omega), Int.natCast_mul]
      · have : ¬ a ≤ MX / b := fun w => q ((Nat.le_div_iff_mul_le (by omega)).mp w)
        rw [st_gt q, if_pos (by omega)]
    · have : b ≤ a * b := Nat.le_mul_of_pos_left b (by omega)
      rw [st_le ha, st_gt hb, st_gt (n := a * b) (by omega), if_neg (by omega), if_pos (Or.inr (by decide))]
  · have : a ≤ a * b := Nat.le_mul_of_pos_right a (by omega)
    rw [st_gt ha, st_gt (n := a * b) (by omega)]
    by_cases hb : b ≤ MX
    · rw [st_le hb, if_neg (by omega), if_pos (Or.inl (by decide))]
    · rw [st_gt hb, if_neg (by decide), if_pos (Or.inl (by decide))]
theorem su_shift (m s : Nat) (g : Nat → Nat) : su (m + s) g = su s g + su m (fun k => g (k + s)) := by
  induction m with
  | zero => rw [Nat.zero_add]; rfl
  | succ m ih => rw [show m + 1 + s = m + s + 1 by omega, su_s, ih, su_s, Nat.add_assoc]
section GSH
variable {t : Nat → Nat → Nat → Nat} {pl : Nat → Nat → Prop} {R : Nat → List Nat}
theorem fit_shift (hp : ∀ i s c, pl (i + s) c ↔ pl i c) (s : Nat) (ht : ∀ p a b, t p (a + s) (b + s) = t p a b) : ∀ (l : List Nat) (i j : Nat), fit t pl l (i + s) (j + s) = fit t pl l i j
  | [], i, j => by
    show n01 (i + s = j + s) = n01 (i = j)
    by_cases e : i = j
    · rw [n01_t e, n01_t (by omega)]
    · rw [n01_f e, n01_f (by omega)]
  | p :: l, i, j => by
    rw [fit_cons, fit_cons, show j + s + 1 = j + 1 + s by omega, su_shift, su_zero (n := s) (fun k hk => nif_f (by omega)), Nat.zero_add]
    refine su_congr (fun k hk => nif_c ⟨fun q => by omega, fun q => by omega⟩ (fun q => ?_))
    rw [fit_shift hp s ht l k j]
    congr 1
    unfold pw
    by_cases p8 : p < 8
    · rw [if_pos p8, if_pos p8, ht]
    · rw [if_neg p8, if_neg p8]
      by_cases e : k = i + 1 ∧ pl i p
      · rw [n01_t e, n01_t ⟨by omega, (hp i s p).mpr e.2⟩]
      · rw [n01_f e, n01_f (fun w => e ⟨by omega, (hp i s p).mp w.2⟩)]
theorem trg_shift (hp : ∀ i s c, pl (i + s) c ↔ pl i c) (s : Nat) (ht : ∀ p a b, t p (a + s) (b + s) = t p a b) (z i j : Nat) : trg t pl R z (i + s) (j + s) = trg t pl R z i j :=
  su_congr (fun r _ => nif_c Iff.rfl (fun _ => fit_shift hp s ht _ i j))
theorem TT_shift (hp : ∀ i s c, pl (i + s) c ↔ pl i c) (s : Nat) : ∀ n x i j, TT R pl n x (i + s) (j + s) = TT R pl n x i j := by
  intro n
  induction n with
  | zero => intro x i j; rfl
  | succ n ih => intro x i j; exact su_congr (fun z _ => by rw [trg_shift hp s ih z i j])
theorem Tn_shift (hp : ∀ i s c, pl (i + s) c ↔ pl i c) (s x i j : Nat) : Tn R pl x (i + s) (j + s) = Tn R pl x i j := by
  unfold Tn
  rw [show j + s - (i + s) = j - i by omega, TT_shift hp s]
theorem Vn_shift (hp : ∀ i s c, pl (i + s) c ↔ pl i c) (s x i j : Nat) : Vn R pl x (i + s) (j + s) = Vn R pl x i j := fit_shift hp s (fun p a b => Tn_shift hp s p a b) _ i j
theorem Gn_shift (hp : ∀ i s c, pl (i + s) c ↔ pl i c) (s x i j : Nat) : Gn R pl x (i + s) (j + s) = Gn R pl x i j := trg_shift hp s (fun p a b => Tn_shift hp s p a b) x i j
theorem Vn_sh (hp : ∀ i s c, pl (i + s) c ↔ pl i c) {x i j i' j' : Nat} (h1 : i < j) (h2 : i' < j') (e : j - i = j' - i') : Vn R pl x i j = Vn R pl x i' j' ∧ Gn R pl x i j = Gn R pl x i' j' := by
  have a1 := Vn_shift (R := R) hp i x 0 (j - i)
  have a2 := Vn_shift (R := R) hp i' x 0 (j - i)
  have b1 := Gn_shift (R := R) hp i x 0 (j - i)
  have b2 := Gn_shift (R := R) hp i' x 0 (j - i)
  rw [Nat.zero_add, show j - i + i = j by omega] at a1 b1
  rw [Nat.zero_add, show j - i + i' = j' by omega] at a2 b2
  rw [a1, a2, b1, b2]
  exact ⟨rfl, rfl⟩
end GSH
/-- what comes together over the cuts of a span, in numbers -/
noncomputable def cnm (R : Nat → List Nat) (pl : Nat → Nat → Prop) (i j k p x : Nat) : Nat :=
  nif (8 ≤ x ∧ x < 14) (n01 (j = i + 1 ∧ pl i x)) + su k (fun c => nif (i < c) (lsu (gP R) (fun e => nif (e.1 = x) (Vn R pl e.2.1 i c * Vn R pl e.2.2.1 c j)))) + lsu ((gP R).take p) (fun e => nif (e.1 = x) (Vn R pl e.2.1 i k * Vn R pl e.2.2.1 k j))
section GCNM
variable {R : Nat → List Nat} {pl : Nat → Nat → Prop} {i j k p x : Nat}
theorem cnm_s {e : tP} (he : (gP R)[p]? = some e) : cnm R pl i j k (p + 1) x = cnm R pl i j k p x + nif (e.1 = x) (Vn R pl e.2.1 i k * Vn R pl e.2.2.1 k j) := by
  obtain ⟨hp, hpe⟩ := List.getElem?_eq_some_iff.mp he
  have ht : (gP R).take (p + 1) = (gP R).take p ++ [e] := by rw [← List.take_append_getElem hp, hpe]
  unfold cnm
  rw [ht, lsu_app]
  show _ + (_ + (nif _ _ + 0)) = _
  omega
theorem cnm_n (hk : i < k) : cnm R pl i j (k + 1) 0 x = cnm R pl i j k (gP R).length x := by
  unfold cnm
  rw [List.take_zero, List.take_length, su_s, nif_t hk]
  show _ + 0 = _
  omega
theorem lsu_0 (l : List tP) : lsu l (fun _ => 0) = 0 := by
  induction l with
  | nil => rfl
  | cons e l ih => exact (Nat.zero_add _).trans ih
theorem cnm_e : cnm R pl i j j 0 x = nif (8 ≤ x ∧ x < 14) (n01 (j = i + 1 ∧ pl i x)) + psm R pl x i j := by
  unfold cnm psm pcs
  rw [List.take_zero, show lsu [] (fun e => nif (e.1 = x) (Vn R pl e.2.1 i j * Vn R pl e.2.2.1 j j)) = 0 from rfl, Nat.add_zero]
  congr 1
  rw [lsu_congr (g' := fun e => su j (fun c => nif (i < c) (nif (e.1 = x) (Vn R pl e.2.1 i c * Vn R pl e.2.2.1 c j)))) (fun e _ => by
    by_cases q : e.1 = x
    · rw [nif_t q]; exact su_congr (fun c _ => nif_c Iff.rfl (fun _ => (nif_t q).symm))
    · rw [nif_f q]; exact (su_zero (fun c _ => by
        by_cases w : i < c
        · rw [nif_t w, nif_f q]
        · exact nif_f w)).symm), lsu_su]
  refine su_congr (fun c _ => ?_)
  by_cases w : i < c
  · rw [nif_t w]; exact lsu_congr (fun e _ => (nif_t w).symm)
  · rw [nif_f w, lsu_congr (g' := fun _ => 0) (fun e _ => nif_f w), lsu_0]
end GCNM
noncomputable def Tw (R : Nat → List Nat) (pl : Nat → Nat → Prop) (S x i j : Nat) : Nat := su 8 (fun z => wy (un R) 8 S x z * Gn R pl z i j)
section GFOREST
variable {E : go_E} {d : Nat} {δ : Nat → Nat → Int} {Q : List go_V → go_F → (Nat → Nat → Int) → Prop} {o c n ns : Nat} {al : Bool} {R : Nat → List Nat} {pl : Nat → Nat → Prop} {K : sK}
theorem tf_idx {i j x : Nat} (h : tf_ok o al) (hi : i < j) (hj : j ≤ 14) (hx : x < 8) : slt al i j * 8 + x < go_ln (o + 3) := by
  have := slt_lt2 (al := al) hi hj
  rw [tf_l3 h]
  cases al with
  | true => rw [if_pos rfl] at this ⊢; omega
  | false => rw [if_neg Bool.false_ne_true] at this ⊢; omega
theorem g_Forest_unitsToLetters {x i j : Nat} (ho : tb_ok 2 o c al) (hb : bi_at δ 33 R) (hns : ns = 14 + (gH R).length) (hx : x < 8) (hij : i < j) (hf : ∀ y, 8 ≤ y → y < 14 → δ (o + 2) y = st (Vn R pl y i j))
    (hQ : Q [vv_L (su 14 (fun c => nif (8 ≤ c ∧ un R x c) (Vn R pl c i j)) : Int)] go_φ δ) : Go E (d + 1) (0, 0) mx_X2_unitsToLetters go_φ 0 [(0, vv_A o), (1, vv_I (x : Int))] [] δ Q := by
  have hR := hb.2.2.2.2.2.2
  have hl1 : ∀ y, 8 ≤ y → y < 14 → Vn R pl y i j ≤ 1 := fun y h8 h14 => by
    rw [Vn_let h8 h14 hij]
    by_cases q : j = i + 1 ∧ pl i y
    · rw [n01_t q]; exact Nat.le_refl _
    · rw [n01_f q]; exact Nat.zero_le _
  have h14 := mk_31 14 (un R x) (by decide)
  have loop := lp_up (X := Unit) (hi := 14) (I := fun y _ => 8 ≤ y)
    (G := fun y _ => Go E (d + 1) (0, 0) mx_X2_unitsToLetters go_φ 18 [(0, vv_A o), (1, vv_I (x : Int)), (2, vv_I (mk 14 (un R x) : Int)), (3, vv_L (su y (fun c => nif (8 ≤ c ∧ un R x c) (Vn R pl c i j)) : Int)), (5, vv_I (y : Int))] [] δ Q) (fun y _ hy h8 ih => by
      have hv := hl1 y h8 hy
      refine go_iload dx_X2_unitsToLetters_18 rfl ?_
      refine go_bipush dx_X2_unitsToLetters_20 rfl ?_
      refine go_icmp_ge (tgt := 52) dx_X2_unitsToLetters_22 rfl (by omega) (by omega) (fun c22 => by exact absurd c22 (by omega)) (fun c22 => ?_)
      refine go_iload_n (i := 2) dx_X2_unitsToLetters_25 rfl rfl ?_
      refine go_iload dx_X2_unitsToLetters_26 rfl ?_
      refine go_iushr dx_X2_unitsToLetters_28 ?_
      refine go_iconst dx_X2_unitsToLetters_29 ?_
      refine go_iand dx_X2_unitsToLetters_30 ?_
      refine go_asI (y := (b01 ((mk 14 (un R x)).testBit y = true))) (by exact bv_tstb h14 (by omega)) ?_
      refine go_b_eq (tgt := 46) dx_X2_unitsToLetters_31 rfl (fun c31 => ?_) (fun c31 => ?_)
      · refine go_iinc (lv' := [(0, vv_A o), (1, vv_I (x : Int)), (2, vv_I (mk 14 (un R x) : Int)), (3, vv_L (su y (fun c => nif (8 ≤ c ∧ un R x c) (Vn R pl c i j)) : Int)), (5, vv_I ((y : Int) + 1))]) dx_X2_unitsToLetters_46 rfl (by decide) rfl ?_
        refine go_goto (tgt := 18) dx_X2_unitsToLetters_49 rfl ?_
        have e : su y (fun c => nif (8 ≤ c ∧ un R x c) (Vn R pl c i j)) = su (y + 1) (fun c => nif (8 ≤ c ∧ un R x c) (Vn R pl c i j)) := by
          rw [su_s, nif_f (fun q => c31 ((mk_bit _ _ _).mpr ⟨hy, q.2⟩)), Nat.add_zero]
        rw [e]
        exact ih () (by omega)
      · refine go_lload_n (i := 3) dx_X2_unitsToLetters_34 rfl rfl ?_
        refine go_aload_n (i := 0) dx_X2_unitsToLetters_35 rfl rfl ?_
        refine go_getA (b := (o + 2)) fs_X2_22 rfl (tb_k0 ho) (tb_r5 ho) dx_X2_unitsToLetters_36 ?_
        refine go_iload dx_X2_unitsToLetters_39 rfl ?_
        refine go_cS2 ss_X2_25 dx_X2_unitsToLetters_41 (Nat.le_of_ble_eq_true rfl) (Nat.le_of_ble_eq_true rfl) (g_longAtV (i := y) (v := ((Vn R pl y i j : Int))) (tb_k2 ho) (by omega) (by rw [(tb_l2 ho)]; omega) (by rw [hf y h8 hy, st_small (by omega)]) ?_)
        refine go_ladd dx_X2_unitsToLetters_44 ?_
        rw [show (su y (fun c => nif (8 ≤ c ∧ un R x c) (Vn R pl c i j)) : Int) + (Vn R pl y i j : Int) = (su (y + 1) (fun c => nif (8 ≤ c ∧ un R x c) (Vn R pl c i j)) : Int) by rw [su_s, nif_t ⟨h8, ((mk_bit _ _ _).mp c31).2⟩]; omega]
        refine go_lstore_n (i := 3) (lv' := [(0, vv_A o), (1, vv_I (x : Int)), (2, vv_I (mk 14 (un R x) : Int)), (3, vv_L (su (y + 1) (fun c => nif (8 ≤ c ∧ un R x c) (Vn R pl c i j)) : Int)), (5, vv_I (y : Int))]) dx_X2_unitsToLetters_45 rfl (by decide) rfl ?_
        refine go_iinc (lv' := [(0, vv_A o), (1, vv_I (x : Int)), (2, vv_I (mk 14 (un R x) : Int)), (3, vv_L (su (y + 1) (fun c => nif (8 ≤ c ∧ un R x c) (Vn R pl c i j)) : Int)), (5, vv_I ((y : Int) + 1))]) dx_X2_unitsToLetters_46 rfl (by decide) rfl ?_
        refine go_goto (tgt := 18) dx_X2_unitsToLetters_49 rfl ?_
        exact ih () (by omega)
    ) (fun _ _ => by
      refine go_iload dx_X2_unitsToLetters_18 rfl ?_
      refine go_bipush dx_X2_unitsToLetters_20 rfl ?_
      refine go_icmp_ge (tgt := 52) dx_X2_unitsToLetters_22 rfl (by omega) (by omega) (fun c22 => ?_) (fun c22 => by exact absurd c22 (by omega))
      refine go_lload_n (i := 3) dx_X2_unitsToLetters_52 rfl rfl ?_
      refine go_lreturn dx_X2_unitsToLetters_53 rfl (Nat.le_refl _) (Nat.le_refl _) ?_
      exact hQ
    )
  refine go_aload_n (i := 0) dx_X2_unitsToLetters_0 rfl rfl ?_
  refine go_getA (b := 33) fs_X2_37 rfl (tb_k0 ho) (tb_r0 ho) dx_X2_unitsToLetters_1 ?_
  refine go_getA (b := 38) fs_X2_51 rfl (go_ok rfl rfl) rfl dx_X2_unitsToLetters_4 ?_
  refine go_iload_n (i := 1) dx_X2_unitsToLetters_7 rfl rfl ?_
  refine go_cS2 ss_X2_47 dx_X2_unitsToLetters_8 (Nat.le_of_ble_eq_true rfl) (Nat.le_of_ble_eq_true rfl) (g_intAtV (i := x) (v := ((mk 14 (un R x) : Int))) (go_ok rfl rfl) (by omega) (show x < 8 by omega) (by exact hb.2.2.1 x hx) ?_)
  refine go_istore_n (i := 2) (lv' := [(0, vv_A o), (1, vv_I (x : Int)), (2, vv_I ((mk 14 (un R x) : Int)))]) dx_X2_unitsToLetters_11 rfl (by decide) rfl ?_
  refine go_lconst (x := 0) dx_X2_unitsToLetters_12 rfl ?_
  refine go_lstore_n (i := 3) (lv' := [(0, vv_A o), (1, vv_I (x : Int)), (2, vv_I ((mk 14 (un R x) : Int))), (3, vv_L 0)]) dx_X2_unitsToLetters_13 rfl (by decide) rfl ?_
  refine go_bipush dx_X2_unitsToLetters_14 rfl ?_
  refine go_istore (lv' := [(0, vv_A o), (1, vv_I (x : Int)), (2, vv_I ((mk 14 (un R x) : Int))), (3, vv_L 0), (5, vv_I 8)]) dx_X2_unitsToLetters_16 (by decide) rfl ?_
  have k := loop 8 () (by decide) (Nat.le_refl _)
  rw [su_zero (n := 8) (fun c hc => nif_f (by omega))] at k
  exact k
theorem g_Forest_takeUnits {i j : Nat} {f : Nat → Int} (ho : tb_ok 2 o c al) (hf3 : tf_ok o al) (hb : bi_at δ 33 R) (hm : bm_at δ 33 R) (hd : dstn R) (hns : ns = 14 + (gH R).length) (hij : i < j) (hj : j ≤ 14)
    (hf : tfr δ o ns f) (hv : ∀ x, x < ns → f x = st (cnm R pl i j j 0 x))
    (hQ : ∀ δ', tfr δ' o ns (fun x => st (Vn R pl x i j)) → (∀ c q, c ≠ o + 2 → (c = o + 3 → ∀ x, x < 8 → q ≠ slt al i j * 8 + x) → δ' c q = δ c q) → (∀ x, x < 8 → δ' (o + 3) (slt al i j * 8 + x) = st (Gn R pl x i j)) → Q [] go_φ δ') :
    Go E (d + 3) (0, 0) mx_X2_takeUnits go_φ 0 [(0, vv_A o), (1, vv_I (slt al i j : Int))] [] δ Q := by
  have hoo := tb_o ho
  have hR := hb.2.2.2.2.2.2
  have hbase : ∀ x, 8 ≤ x → x < ns → f x = st (Vn R pl x i j) := fun x h8 hx => by
    rw [hv x hx, cnm_e]
    by_cases h14 : x < 14
    · rw [nif_t ⟨h8, h14⟩, psm_let hR h8 h14, Nat.add_zero, Vn_let h8 h14 hij]
    · rw [nif_f (fun q => h14 q.2), Nat.zero_add, psm_help hR (by omega) (by omega)]
  have hname : ∀ x, x < 8 → f x = st (psm R pl x i j) := fun x h8 => by rw [hv x (by omega), cnm_e, nif_f (by omega), Nat.zero_add]
  -- the second loop's sums
  have inner : ∀ (x : Nat) (δ1 : Nat → Nat → Int), x < 8 → (∀ z, z < 8 → δ1 (o + 3) (slt al i j * 8 + z) = st (Gn R pl z i j)) → (∀ z, z < 8 → δ1 42 (8 * x + z) = (wy (un R) 8 (2 ^ x) x z : Int)) →
      Go E (d + 3) (0, 0) mx_X2_takeUnits go_φ 111 [(0, vv_A o), (1, vv_I (slt al i j : Int)), (2, vv_I ((slt al i j * 8 : Nat) : Int)), (3, vv_I (x : Int)), (4, vv_L (st (Tn R pl x i j)))] [] δ1 Q →
      Go E (d + 3) (0, 0) mx_X2_takeUnits go_φ 59 [(0, vv_A o), (1, vv_I (slt al i j : Int)), (2, vv_I ((slt al i j * 8 : Nat) : Int)), (3, vv_I (x : Int)), (4, vv_L 0), (6, vv_I 0)] [] δ1 Q := by
    intro x δ1 hx hB hW KK
    have loop := lp_up (X := Unit) (hi := 8) (I := fun _ _ => True)
      (G := fun z _ => Go E (d + 3) (0, 0) mx_X2_takeUnits go_φ 59 [(0, vv_A o), (1, vv_I (slt al i j : Int)), (2, vv_I ((slt al i j * 8 : Nat) : Int)), (3, vv_I (x : Int)), (4, vv_L (st (su z (fun z => wy (un R) 8 (2 ^ x) x z * Gn R pl z i j)))), (6, vv_I (z : Int))] [] δ1 Q) (fun z _ hz _ ih => by
        have hwl := wy_lt (s := un R) (S := 2 ^ x) (y := x) (z := z)
        refine go_iload dx_X2_takeUnits_59 rfl ?_
        refine go_bipush dx_X2_takeUnits_61 rfl ?_
        refine go_icmp_ge (tgt := 111) dx_X2_takeUnits_63 rfl (by omega) (by omega) (fun c63 => by exact absurd c63 (by omega)) (fun c63 => ?_)
        refine go_lload dx_X2_takeUnits_66 rfl ?_
        refine go_aload_n (i := 0) dx_X2_takeUnits_68 rfl rfl ?_
        refine go_getA (b := 33) fs_X2_37 rfl (tb_k0 ho) (tb_r0 ho) dx_X2_takeUnits_69 ?_
        refine go_getA (b := 42) fs_X2_41 rfl (go_ok rfl rfl) rfl dx_X2_takeUnits_72 ?_
        refine go_iload_n (i := 3) dx_X2_takeUnits_75 rfl rfl ?_
        refine go_bipush dx_X2_takeUnits_76 rfl ?_
        refine go_imul dx_X2_takeUnits_78 ?_
        refine go_iload dx_X2_takeUnits_79 rfl ?_
        refine go_iadd dx_X2_takeUnits_81 ?_
        refine go_cS2 ss_X2_47 dx_X2_takeUnits_82 (Nat.le_of_ble_eq_true rfl) (Nat.le_of_ble_eq_true rfl) (g_intAtV (i := (8 * x + z)) (v := ((wy (un R) 8 (2 ^ x) x z : Int))) (go_ok rfl rfl) (by omega) (show (8 * x + z) < 64 by omega) (by exact hW z hz) ?_)
        refine go_i2l dx_X2_takeUnits_85 (by omega) ?_
        refine go_asL (y := (st (wy (un R) 8 (2 ^ x) x z))) (by exact (st_small (by omega)).symm) ?_
        refine go_aload_n (i := 0) dx_X2_takeUnits_86 rfl rfl ?_
        refine go_getA (b := (o + 3)) fs_X2_9 rfl (tb_k0 ho) (tf_r7 hf3) dx_X2_takeUnits_87 ?_
        refine go_iload_n (i := 2) dx_X2_takeUnits_90 rfl rfl ?_
        refine go_iload dx_X2_takeUnits_91 rfl ?_
        refine go_iadd dx_X2_takeUnits_93 ?_
        refine go_cS2 ss_X2_25 dx_X2_takeUnits_94 (Nat.le_of_ble_eq_true rfl) (Nat.le_of_ble_eq_true rfl) (g_longAtV (i := slt al i j * 8 + z) (tf_k3 hf3) (by omega) (tf_idx hf3 hij hj hz) (hB z hz) ?_)
        refine go_cS2 ss_X2_15 dx_X2_takeUnits_97 (Nat.le_of_ble_eq_true rfl) (Nat.le_of_ble_eq_true rfl) (g_Forest_times (st_iL _) (st_iL _) ?_)
        refine go_asL (y := (st (wy (un R) 8 (2 ^ x) x z * Gn R pl z i j))) (by exact fo_mul_st _ _) ?_
        refine go_cS2 ss_X2_19 dx_X2_takeUnits_100 (Nat.le_of_ble_eq_true rfl) (Nat.le_of_ble_eq_true rfl) (g_Forest_plus (st_iL _) (st_iL _) ?_)
        refine go_asL (y := (st (su (z + 1) (fun z => wy (un R) 8 (2 ^ x) x z * Gn R pl z i j)))) (by exact fo_add_st _ _) ?_
        refine go_lstore (lv' := [(0, vv_A o), (1, vv_I (slt al i j : Int)), (2, vv_I ((slt al i j * 8 : Nat) : Int)), (3, vv_I (x : Int)), (4, vv_L (st (su (z + 1) (fun z => wy (un R) 8 (2 ^ x) x z * Gn R pl z i j)))), (6, vv_I (z : Int))]) dx_X2_takeUnits_103 (by decide) rfl ?_
        refine go_iinc (lv' := [(0, vv_A o), (1, vv_I (slt al i j : Int)), (2, vv_I ((slt al i j * 8 : Nat) : Int)), (3, vv_I (x : Int)), (4, vv_L (st (su (z + 1) (fun z => wy (un R) 8 (2 ^ x) x z * Gn R pl z i j)))), (6, vv_I ((z : Int) + 1))]) dx_X2_takeUnits_105 rfl (by decide) rfl ?_
        refine go_goto (tgt := 59) dx_X2_takeUnits_108 rfl ?_
        exact ih () trivial
      ) (fun _ _ => by
        rw [← Tn_eq]
        refine go_iload dx_X2_takeUnits_59 rfl ?_
        refine go_bipush dx_X2_takeUnits_61 rfl ?_
        refine go_icmp_ge (tgt := 111) dx_X2_takeUnits_63 rfl (by omega) (by omega) (fun c63 => ?_) (fun c63 => by exact absurd c63 (by omega))
        refine go_keep [0, 1, 2, 3, 4] rfl ?_
        exact KK
      )
    have k := loop 0 () (Nat.zero_le _) trivial
    rw [su_0, st_0] at k
    exact k
  have second := lp_up (X := Nat → Nat → Int) (hi := 8) (I := fun x δ1 => (∀ y, y < x → δ1 (o + 2) y = st (Vn R pl y i j)) ∧ (∀ y, 8 ≤ y → y < ns → δ1 (o + 2) y = st (Vn R pl y i j)) ∧ (∀ z, z < 8 → δ1 (o + 3) (slt al i j * 8 + z) = st (Gn R pl z i j)) ∧ (∀ c q, c ≠ o + 2 → (c = o + 3 → ∀ x, x < 8 → q ≠ slt al i j * 8 + x) → δ1 c q = δ c q))
    (G := fun x δ1 => ∀ lv0, lv0 = [(0, vv_A o), (1, vv_I (slt al i j : Int)), (2, vv_I ((slt al i j * 8 : Nat) : Int)), (3, vv_I (x : Int))] → Go E (d + 3) (0, 0) mx_X2_takeUnits go_φ 47 lv0 [] δ1 Q) (fun x δ1 hx hI ih lv0 e0 => by
      subst e0
      obtain ⟨i1, i2, i3, i4⟩ := hI
      refine go_iload_n (i := 3) dx_X2_takeUnits_47 rfl rfl ?_
      refine go_bipush dx_X2_takeUnits_48 rfl ?_
      refine go_icmp_ge (tgt := 127) dx_X2_takeUnits_50 rfl (by omega) (by omega) (fun c50 => by exact absurd c50 (by omega)) (fun c50 => ?_)
      refine go_lconst (x := 0) dx_X2_takeUnits_53 rfl ?_
      refine go_lstore (lv' := [(0, vv_A o), (1, vv_I (slt al i j : Int)), (2, vv_I ((slt al i j * 8 : Nat) : Int)), (3, vv_I (x : Int)), (4, vv_L 0)]) dx_X2_takeUnits_54 (by decide) rfl ?_
      refine go_iconst dx_X2_takeUnits_56 ?_
      refine go_istore (lv' := [(0, vv_A o), (1, vv_I (slt al i j : Int)), (2, vv_I ((slt al i j * 8 : Nat) : Int)), (3, vv_I (x : Int)), (4, vv_L 0), (6, vv_I 0)]) dx_X2_takeUnits_57 (by decide) rfl ?_
      refine inner x δ1 hx i3 (fun z hz => by rw [i4 _ _ (by omega) (fun w => by omega)]; exact hm.2 x z hx hz) ?_
      refine go_aload_n (i := 0) dx_X2_takeUnits_111 rfl rfl ?_
      refine go_getA (b := (o + 2)) fs_X2_22 rfl (tb_k0 ho) (tb_r5 ho) dx_X2_takeUnits_112 ?_
      refine go_iload_n (i := 3) dx_X2_takeUnits_115 rfl rfl ?_
      refine go_lload dx_X2_takeUnits_116 rfl ?_
      refine go_cS3 ss_X2_33 dx_X2_takeUnits_118 (Nat.le_of_ble_eq_true rfl) (Nat.le_of_ble_eq_true rfl) (g_putLongN (i := x) (tb_k2 ho) (by omega) (by rw [(tb_l2 ho)]; omega) ?_)
      refine go_iinc (lv' := [(0, vv_A o), (1, vv_I (slt al i j : Int)), (2, vv_I ((slt al i j * 8 : Nat) : Int)), (3, vv_I ((x : Int) + 1)), (4, vv_L (st (Tn R pl x i j)))]) dx_X2_takeUnits_121 rfl (by decide) rfl ?_
      refine go_goto (tgt := 47) dx_X2_takeUnits_124 rfl ?_
      refine go_keep [0, 1, 2, 3] rfl ?_
      refine ih _ ⟨fun y hy => ?_, fun y h8 hy => by rw [wr_i _ _ _ _ (by omega)]; exact i2 y h8 hy, fun z hz => by rw [wr_n (by omega)]; exact i3 z hz, fun c' q a b => by rw [wr_a _ _ _ _ a]; exact i4 c' q a b⟩ _ rfl
      by_cases e : y = x
      · subst e; rw [wr_eq, Vn_name hx hij]
      · rw [wr_i _ _ _ _ e]; exact i1 y (by omega)
    ) (fun δ1 hI lv0 e0 => by
      subst e0
      obtain ⟨i1, i2, i3, i4⟩ := hI
      refine go_iload_n (i := 3) dx_X2_takeUnits_47 rfl rfl ?_
      refine go_bipush dx_X2_takeUnits_48 rfl ?_
      refine go_icmp_ge (tgt := 127) dx_X2_takeUnits_50 rfl (by omega) (by omega) (fun c50 => ?_) (fun c50 => by exact absurd c50 (by omega))
      refine go_vreturn dx_X2_takeUnits_127 rfl (Nat.le_refl _) (Nat.le_refl _) ?_
      exact hQ δ1 (fun x hx => by
        by_cases h8 : x < 8
        · exact i1 x h8
        · exact i2 x (by omega) hx) i4 i3
    )
  have first := lp_up (X := Nat → Nat → Int) (hi := 8) (I := fun x δ1 => tfr δ1 o ns f ∧ (∀ z, z < x → δ1 (o + 3) (slt al i j * 8 + z) = st (Gn R pl z i j)) ∧ (∀ c q, (c = o + 3 → ∀ x, x < 8 → q ≠ slt al i j * 8 + x) → δ1 c q = δ c q))
    (G := fun x δ1 => ∀ lv0, lv0 = [(0, vv_A o), (1, vv_I (slt al i j : Int)), (2, vv_I ((slt al i j * 8 : Nat) : Int)), (3, vv_I (x : Int))] → Go E (d + 3) (0, 0) mx_X2_takeUnits go_φ 7 lv0 [] δ1 Q) (fun x δ1 hx hI ih lv0 e0 => by
      subst e0
      obtain ⟨i1, i3, i4⟩ := hI
      have hb1 : bi_at δ1 33 R := bi_fr hb (fun c' j a b => i4 c' j (by omega))
      have hul : su 14 (fun c => nif (8 ≤ c ∧ un R x c) (Vn R pl c i j)) ≤ 14 := by
        refine Nat.le_trans (su_le (g := fun _ => 1) (fun c hc => ?_)) (Nat.le_of_eq (su_const 14 1))
        by_cases q : 8 ≤ c ∧ un R x c
        · rw [nif_t q, Vn_let q.1 hc hij]
          by_cases w : j = i + 1 ∧ pl i c
          · rw [n01_t w]; exact Nat.le_refl _
          · rw [n01_f w]; exact Nat.zero_le _
        · rw [nif_f q]; exact Nat.zero_le _
      refine go_iload_n (i := 3) dx_X2_takeUnits_7 rfl rfl ?_
      refine go_bipush dx_X2_takeUnits_8 rfl ?_
      refine go_icmp_ge (tgt := 45) dx_X2_takeUnits_10 rfl (by omega) (by omega) (fun c10 => by exact absurd c10 (by omega)) (fun c10 => ?_)
      refine go_aload_n (i := 0) dx_X2_takeUnits_13 rfl rfl ?_
      refine go_getA (b := (o + 3)) fs_X2_9 rfl (tb_k0 ho) (tf_r7 hf3) dx_X2_takeUnits_14 ?_
      refine go_iload_n (i := 2) dx_X2_takeUnits_17 rfl rfl ?_
      refine go_iload_n (i := 3) dx_X2_takeUnits_18 rfl rfl ?_
      refine go_iadd dx_X2_takeUnits_19 ?_
      refine go_aload_n (i := 0) dx_X2_takeUnits_20 rfl rfl ?_
      refine go_getA (b := (o + 2)) fs_X2_22 rfl (tb_k0 ho) (tb_r5 ho) dx_X2_takeUnits_21 ?_
      refine go_iload_n (i := 3) dx_X2_takeUnits_24 rfl rfl ?_
      refine go_cS2 ss_X2_25 dx_X2_takeUnits_25 (Nat.le_of_ble_eq_true rfl) (Nat.le_of_ble_eq_true rfl) (g_longAtV (i := x) (v := ((st (psm R pl x i j)))) (tb_k2 ho) (by omega) (by rw [(tb_l2 ho)]; omega) (by rw [i1 x (by omega)]; exact hname x hx) ?_)
      refine go_aload_n (i := 0) dx_X2_takeUnits_28 rfl rfl ?_
      refine go_iload_n (i := 3) dx_X2_takeUnits_29 rfl rfl ?_
      refine go_cV1 sv_X2_29 (tb_k0 ho) dx_X2_takeUnits_30 (Nat.le_of_ble_eq_true rfl) (Nat.le_of_ble_eq_true rfl) (g_Forest_unitsToLetters (pl := pl) ho hb1 hns hx hij (fun y h8 h14 => by rw [i1 y (by omega)]; exact hbase y h8 (by omega)) ?_)
      refine go_asL (y := (st (su 14 (fun c => nif (8 ≤ c ∧ un R x c) (Vn R pl c i j))))) (by exact (st_small (by omega)).symm) ?_
      refine go_cS2 ss_X2_19 dx_X2_takeUnits_33 (Nat.le_of_ble_eq_true rfl) (Nat.le_of_ble_eq_true rfl) (g_Forest_plus (st_iL _) (st_iL _) ?_)
      refine go_asL (y := (st (Gn R pl x i j))) (by rw [fo_add_st, ← Gn_split hR hd hx hij]) ?_
      refine go_cS3 ss_X2_33 dx_X2_takeUnits_36 (Nat.le_of_ble_eq_true rfl) (Nat.le_of_ble_eq_true rfl) (g_putLongN (i := slt al i j * 8 + x) (tf_k3 hf3) (by omega) (tf_idx hf3 hij hj hx) ?_)
      refine go_iinc (lv' := [(0, vv_A o), (1, vv_I (slt al i j : Int)), (2, vv_I ((slt al i j * 8 : Nat) : Int)), (3, vv_I ((x : Int) + 1))]) dx_X2_takeUnits_39 rfl (by decide) rfl ?_
      refine go_goto (tgt := 7) dx_X2_takeUnits_42 rfl ?_
      refine ih _ ⟨fun y hy => by rw [wr_n (by omega)]; exact i1 y hy, fun z hz => ?_, fun c' q a => by rw [wr_n (fun w => a w x hx)]; exact i4 c' q a⟩ _ rfl
      by_cases e : z = x
      · subst e; rw [wr_eq]
      · rw [wr_i _ _ _ _ (by omega)]; exact i3 z (by omega)
    ) (fun δ1 hI lv0 e0 => by
      subst e0
      obtain ⟨i1, i3, i4⟩ := hI
      refine go_iload_n (i := 3) dx_X2_takeUnits_7 rfl rfl ?_
      refine go_bipush dx_X2_takeUnits_8 rfl ?_
      refine go_icmp_ge (tgt := 45) dx_X2_takeUnits_10 rfl (by omega) (by omega) (fun c10 => ?_) (fun c10 => by exact absurd c10 (by omega))
      refine go_iconst dx_X2_takeUnits_45 ?_
      refine go_istore_n (i := 3) (lv' := [(0, vv_A o), (1, vv_I (slt al i j : Int)), (2, vv_I ((slt al i j * 8 : Nat) : Int)), (3, vv_I 0)]) dx_X2_takeUnits_46 rfl (by decide) rfl ?_
      exact second 0 δ1 (Nat.zero_le _) ⟨fun y hy => absurd hy (Nat.not_lt_zero _), fun y h8 hy => by rw [i1 y hy]; exact hbase y h8 hy, i3, fun c' q a b => i4 c' q b⟩ _ rfl
    )
  refine go_iload_n (i := 1) dx_X2_takeUnits_0 rfl rfl ?_
  refine go_bipush dx_X2_takeUnits_1 rfl ?_
  refine go_imul dx_X2_takeUnits_3 ?_
  refine go_istore_n (i := 2) (lv' := [(0, vv_A o), (1, vv_I (slt al i j : Int)), (2, vv_I ((slt al i j * 8 : Nat) : Int))]) dx_X2_takeUnits_4 rfl (by decide) rfl ?_
  refine go_iconst dx_X2_takeUnits_5 ?_
  refine go_istore_n (i := 3) (lv' := [(0, vv_A o), (1, vv_I (slt al i j : Int)), (2, vv_I ((slt al i j * 8 : Nat) : Int)), (3, vv_I 0)]) dx_X2_takeUnits_6 rfl (by decide) rfl ?_
  exact first 0 δ (Nat.zero_le _) ⟨hf, fun z hz => absurd hz (Nat.not_lt_zero _), fun _ _ _ => rfl⟩ _ rfl
/-- the table of trees -/
def ft_at (δ : Nat → Nat → Int) (o : Nat) (al : Bool) (R : Nat → List Nat) (pl : Nat → Nat → Prop) (n : Nat) : Prop := tvForest_at δ o al (fun x i j => st (Vn R pl x i j)) (14 + (gH R).length) n (n + 1) 0 (fun x i j => st (Gn R pl x i j))
theorem g_Forest_fillAll (ho : tb_ok 2 o c al) (hf3 : tf_ok o al) (hco : ch_ok c al) (hb : bi_at δ 33 R) (hm : bm_at δ 33 R) (hd : dstn R) (hc : ct_at δ c al R pl n) (ht : td_at δ 3 K) (h2 : δ o 2 = bI al) (h3 : δ o 3 = 0) (hn : n ≤ 14) (hpl : ∀ i c, pl i c → 8 ≤ c ∧ c < 14) (hsh : al = true → ∀ i s c, pl (i + s) c ↔ pl i c)
    (hQ : ∀ δ', ft_at δ' o al R pl n → (∀ c q, c ≠ o + 1 → c ≠ o + 2 → c ≠ o + 3 → δ' c q = δ c q) → Q [] go_φ δ') : Go E (d + 5) (0, 0) mx_X7_fill go_φ 0 [(0, vv_A o), (1, vv_I (n : Int))] [] δ Q := by
  have hoo := tb_o ho
  have hR := hb.2.2.2.2.2.2
  have hH := gH_le hR
  refine g_Forest_fill (d := d) (o := o) (ns := 14 + (gH R).length) (V := fun x i j => st (Vn R pl x i j)) (B := fun x i j => st (Gn R pl x i j)) ho h2 hn (by omega) (fun q x i j i' j' h1 h2 e => by
    have := Vn_sh (R := R) (x := x) (hsh q) h1 h2 e
    rw [this.1, this.2]
    exact ⟨rfl, rfl⟩) (fun E d Q δ1 i j hij hj f1 hV K1 => ?_) (fun δ' h f => hQ δ' h f)
  have hb1 : bi_at δ1 33 R := bi_fr hb (fun c' j a b => f1 c' j (by omega) (by omega) (by omega))
  have hm1 : bm_at δ1 33 R := bm_fr hm (fun c' j a => f1 c' j (by omega) (by omega) (by omega))
  have hc1 : ct_at δ1 c al R pl n := ct_fr hc (fun c' j hc' => f1 c' j (by omega) (by omega) (by omega))
  have ht1 : td_at δ1 3 K := td_fr3 ht (fun c' j hc' => f1 c' j (by omega) (by omega) (by omega))
  refine g_Forest_fillSpan (d := d) (V := fun x i j => st (Vn R pl x i j)) (B := fun x i j => st (Gn R pl x i j)) (J := fun k p f => ∀ x, x < 14 + (gH R).length → f x = st (cnm R pl i j k p x))
    ho hf3 hco hb1 ht1 (Or.inr trivial) rfl hc1 (by rw [f1 _ _ (by omega) (by omega) (by omega)]; exact h2) (by rw [f1 _ _ (by omega) (by omega) (by omega)]; exact h3) hij hj hV ?_ ?_ ?_ ?_ (fun δ2 h2 p2 f2 => K1 δ2 h2 p2 f2)
  · intro x hx
    have e0 : cnm R pl i j (i + 1) 0 x = nif (8 ≤ x ∧ x < 14) (n01 (j = i + 1 ∧ pl i x)) := by
      unfold cnm
      rw [List.take_zero, su_zero (fun c hc => nif_f (by omega))]
      rfl
    rw [e0]
    by_cases e : j = i + 1
    · rw [if_pos e]
      by_cases q : 8 ≤ x ∧ x < 14
      · rw [nif_t q]
        by_cases w : pl i x
        · rw [n01_t ⟨e, w⟩, st_small (by decide)]
          unfold tlf
          exact if_pos ⟨q.1, q.2, [x], rfl, dpw_one.mpr w, dx_let q.1 q.2⟩
        · rw [n01_f (fun z => w z.2), st_0]
          unfold tlf
          refine if_neg (fun z => w ?_)
          obtain ⟨u, u1, u2, u3⟩ := z.2.2
          rw [dx_ltr q.1 q.2 u3] at u2
          exact dpw_one.mp u2
      · rw [nif_f q, st_0]
        unfold tlf
        exact if_neg (fun z => q ⟨z.1, z.2.1⟩)
    · rw [if_neg e, show nif (8 ≤ x ∧ x < 14) (n01 (j = i + 1 ∧ pl i x)) = 0 by rw [n01_f (fun z => e z.1)]; exact Nat.le_zero.mp (nif_le _ _), st_0]
  · intro k p e hik hkj he f hf
    have hem : e ∈ gP R := List.mem_of_getElem? he
    have hlt := pr_lt hR hem
    refine ⟨fun hno x hx => ?_, fun q1 q2 => ⟨⟨st_iL _, st_iL _⟩, ?_, ?_, fun x hx => ?_⟩⟩
    · have h0 : Vn R pl e.2.1 i k * Vn R pl e.2.2.1 k j = 0 := Nat.eq_zero_of_not_pos (fun w => hno ⟨Vn_dp hR (by omega) hik (Nat.pos_of_mul_pos_right w), Vn_dp hR (by omega) hkj (Nat.pos_of_mul_pos_left w)⟩)
      rw [hf x hx, cnm_s he, h0, show nif (e.1 = x) 0 = 0 from Nat.le_zero.mp (nif_le _ _), Nat.add_zero]
    · rw [hf e.1 hlt.1]; exact st_iL _
    · rw [fo_mul_st]; exact st_iL _
    · show fup f e.1 _ x = _
      by_cases ex : x = e.1
      · subst ex
        rw [fup_eq, hf e.1 hlt.1, fo_mul_st, fo_add_st, cnm_s he, nif_t rfl]
      · rw [fup_ne ex, hf x hx, cnm_s he, nif_f (fun w => ex w.symm), Nat.add_zero]
  · intro k f hik hkj hf x hx
    rw [hf x hx, cnm_n hik]
  · intro E d Q δ3 f hf h3' f3 K3
    have hb3 : bi_at δ3 33 R := bi_fr hb1 (fun c' j a b => f3 c' j (by omega))
    have hm3 : bm_at δ3 33 R := bm_fr hm1 (fun c' j a => f3 c' j (by omega))
    exact g_Forest_takeUnits ho hf3 hb3 hm3 hd rfl hij (by omega) h3' hf (fun δ4 h4 f4 p4 => K3 δ4 h4 f4 p4)
theorem g_Forest_valueAll {x i j : Nat} (ho : tb_ok 2 o c al) (hf3 : tf_ok o al) (h : ft_at δ o al R pl n) (h2 : δ o 2 = bI al) (hn : n ≤ 14) (hx : x < 14 + (gH R).length) (hx62 : x < 62) (hij : i < j) (hj : j ≤ n) (hQ : Q [vv_L (st (Vn R pl x i j))] go_φ δ) :
    Go E (d + 1) (0, 0) mx_X7_valueAt go_φ 0 [(0, vv_A o), (1, vv_I (x : Int)), (2, vv_I (i : Int)), (3, vv_I (j : Int))] [] δ Q :=
  g_Forest_valueAt ho hf3 h2 hij (by omega) hx62 ((h i j hij hj (Or.inl (by omega))).1 x hx) hQ
theorem g_Forest_treesWithout {x b i j : Nat} (ho : tb_ok 2 o c al) (hf3 : tf_ok o al) (hb : bi_at δ 33 R) (h : ft_at δ o al R pl n) (h2 : δ o 2 = bI al) (hn : n ≤ 14) (hx : x < 8) (hb2 : b < 256) (hij : i < j) (hj : j ≤ n)
    (hQ : ∀ δ', (∀ c q, c ≠ 43 → δ' c q = δ c q) → Q [vv_L (st (Tw R pl (b ||| 2 ^ x) x i j))] go_φ δ') :
    Go E (d + 10) (0, 0) mx_X2_treesWithout go_φ 0 [(0, vv_A o), (1, vv_I (b : Int)), (2, vv_I (x : Int)), (3, vv_I (i : Int)), (4, vv_I (j : Int))] [] δ Q := by
  have hoo := tb_o ho
  have loop : ∀ δ2 : Nat → Nat → Int, (∀ z, z < 8 → δ2 43 z = (wy (un R) 8 (b ||| 2 ^ x) x z : Int)) → (∀ c q, c ≠ 43 → δ2 c q = δ c q) →
      Go E (d + 10) (0, 0) mx_X2_treesWithout go_φ 30 [(0, vv_A o), (1, vv_I (b : Int)), (2, vv_I (x : Int)), (3, vv_I (i : Int)), (4, vv_I (j : Int)), (5, vv_I ((slt al i j * 8 : Nat) : Int)), (6, vv_L 0), (8, vv_I 0)] [] δ2 Q := fun δ2 hW f2 => by
    have loop := lp_up (X := Unit) (hi := 8) (I := fun _ _ => True)
      (G := fun z _ => Go E (d + 10) (0, 0) mx_X2_treesWithout go_φ 30 [(0, vv_A o), (1, vv_I (b : Int)), (2, vv_I (x : Int)), (3, vv_I (i : Int)), (4, vv_I (j : Int)), (5, vv_I ((slt al i j * 8 : Nat) : Int)), (6, vv_L (st (su z (fun z => wy (un R) 8 (b ||| 2 ^ x) x z * Gn R pl z i j)))), (8, vv_I (z : Int))] [] δ2 Q) (fun z _ hz _ ih => by
        have hwl := wy_lt (s := un R) (S := b ||| 2 ^ x) (y := x) (z := z)
        refine go_iload dx_X2_treesWithout_30 rfl ?_
        refine go_bipush dx_X2_treesWithout_32 rfl ?_
        refine go_icmp_ge (tgt := 78) dx_X2_treesWithout_34 rfl (by omega) (by omega) (fun c34 => by exact absurd c34 (by omega)) (fun c34 => ?_)
        refine go_lload dx_X2_treesWithout_37 rfl ?_
        refine go_aload_n (i := 0) dx_X2_treesWithout_39 rfl rfl ?_
        refine go_getA (b := 33) fs_X2_37 rfl (tb_k0 ho) (tb_r0 ho) dx_X2_treesWithout_40 ?_
        refine go_getA (b := 43) fs_X2_66 rfl (go_ok rfl rfl) rfl dx_X2_treesWithout_43 ?_
        refine go_iload dx_X2_treesWithout_46 rfl ?_
        refine go_cS2 ss_X2_47 dx_X2_treesWithout_48 (Nat.le_of_ble_eq_true rfl) (Nat.le_of_ble_eq_true rfl) (g_intAtV (i := z) (v := ((wy (un R) 8 (b ||| 2 ^ x) x z : Int))) (go_ok rfl rfl) (by omega) (show z < 8 by omega) (by exact hW z hz) ?_)
        refine go_i2l dx_X2_treesWithout_51 (by omega) ?_
        refine go_asL (y := (st (wy (un R) 8 (b ||| 2 ^ x) x z))) (by exact (st_small (by omega)).symm) ?_
        refine go_aload_n (i := 0) dx_X2_treesWithout_52 rfl rfl ?_
        refine go_getA (b := (o + 3)) fs_X2_9 rfl (tb_k0 ho) (tf_r7 hf3) dx_X2_treesWithout_53 ?_
        refine go_iload dx_X2_treesWithout_56 rfl ?_
        refine go_iload dx_X2_treesWithout_58 rfl ?_
        refine go_iadd dx_X2_treesWithout_60 ?_
        refine go_cS2 ss_X2_25 dx_X2_treesWithout_61 (Nat.le_of_ble_eq_true rfl) (Nat.le_of_ble_eq_true rfl) (g_longAtV (i := slt al i j * 8 + z) (tf_k3 hf3) (by omega) (tf_idx hf3 hij (by omega) hz) (by rw [f2 _ _ (by omega)]; exact (h i j hij hj (Or.inl (by omega))).2 z hz : δ2 (o + 3) (slt al i j * 8 + z) = st (Gn R pl z i j)) ?_)
        refine go_cS2 ss_X2_15 dx_X2_treesWithout_64 (Nat.le_of_ble_eq_true rfl) (Nat.le_of_ble_eq_true rfl) (g_Forest_times (st_iL _) (st_iL _) ?_)
        refine go_asL (y := (st (wy (un R) 8 (b ||| 2 ^ x) x z * Gn R pl z i j))) (by exact fo_mul_st _ _) ?_
        refine go_cS2 ss_X2_19 dx_X2_treesWithout_67 (Nat.le_of_ble_eq_true rfl) (Nat.le_of_ble_eq_true rfl) (g_Forest_plus (st_iL _) (st_iL _) ?_)
        refine go_asL (y := (st (su (z + 1) (fun z => wy (un R) 8 (b ||| 2 ^ x) x z * Gn R pl z i j)))) (by exact fo_add_st _ _) ?_
        refine go_lstore (lv' := [(0, vv_A o), (1, vv_I (b : Int)), (2, vv_I (x : Int)), (3, vv_I (i : Int)), (4, vv_I (j : Int)), (5, vv_I ((slt al i j * 8 : Nat) : Int)), (6, vv_L (st (su (z + 1) (fun z => wy (un R) 8 (b ||| 2 ^ x) x z * Gn R pl z i j)))), (8, vv_I (z : Int))]) dx_X2_treesWithout_70 (by decide) rfl ?_
        refine go_iinc (lv' := [(0, vv_A o), (1, vv_I (b : Int)), (2, vv_I (x : Int)), (3, vv_I (i : Int)), (4, vv_I (j : Int)), (5, vv_I ((slt al i j * 8 : Nat) : Int)), (6, vv_L (st (su (z + 1) (fun z => wy (un R) 8 (b ||| 2 ^ x) x z * Gn R pl z i j)))), (8, vv_I ((z : Int) + 1))]) dx_X2_treesWithout_72 rfl (by decide) rfl ?_
        refine go_goto (tgt := 30) dx_X2_treesWithout_75 rfl ?_
        exact ih () trivial
      ) (fun _ _ => by
        refine go_iload dx_X2_treesWithout_30 rfl ?_
        refine go_bipush dx_X2_treesWithout_32 rfl ?_
        refine go_icmp_ge (tgt := 78) dx_X2_treesWithout_34 rfl (by omega) (by omega) (fun c34 => ?_) (fun c34 => by exact absurd c34 (by omega))
        refine go_lload dx_X2_treesWithout_78 rfl ?_
        refine go_lreturn dx_X2_treesWithout_80 rfl (Nat.le_refl _) (Nat.le_refl _) ?_
        exact hQ δ2 f2
      )
    have k := loop 0 () (Nat.zero_le _) trivial
    rw [su_0, st_0] at k
    exact k
  refine go_aload_n (i := 0) dx_X2_treesWithout_0 rfl rfl ?_
  refine go_getA (b := 33) fs_X2_37 rfl (tb_k0 ho) (tb_r0 ho) dx_X2_treesWithout_1 ?_
  refine go_iload_n (i := 2) dx_X2_treesWithout_4 rfl rfl ?_
  refine go_iload_n (i := 1) dx_X2_treesWithout_5 rfl rfl ?_
  refine go_cV2 sv_X2_54 (go_ok rfl rfl) dx_X2_treesWithout_6 (Nat.le_of_ble_eq_true rfl) (Nat.le_of_ble_eq_true rfl) (g_Binary_countWays bi_ok33 hb hx hb2 (fun δ2 h2' f2 => ?_))
  refine go_iload_n (i := 3) dx_X2_treesWithout_9 rfl rfl ?_
  refine go_iload dx_X2_treesWithout_10 rfl ?_
  refine go_aload_n (i := 0) dx_X2_treesWithout_12 rfl rfl ?_
  refine go_getI fs_X2_58 (Or.inr rfl) (tb_k0 ho) dx_X2_treesWithout_13 ?_
  refine go_asI (y := (bI al)) (by rw [f2 _ _ (by omega)]; exact h2) ?_
  refine go_cS3 ss_X2_62 dx_X2_treesWithout_16 (Nat.le_of_ble_eq_true rfl) (Nat.le_of_ble_eq_true rfl) (g_slotOf hij (by omega) ?_)
  refine go_bipush dx_X2_treesWithout_19 rfl ?_
  refine go_imul dx_X2_treesWithout_21 ?_
  refine go_istore (lv' := [(0, vv_A o), (1, vv_I (b : Int)), (2, vv_I (x : Int)), (3, vv_I (i : Int)), (4, vv_I (j : Int)), (5, vv_I ((slt al i j * 8 : Nat) : Int))]) dx_X2_treesWithout_22 (by decide) rfl ?_
  refine go_lconst (x := 0) dx_X2_treesWithout_24 rfl ?_
  refine go_lstore (lv' := [(0, vv_A o), (1, vv_I (b : Int)), (2, vv_I (x : Int)), (3, vv_I (i : Int)), (4, vv_I (j : Int)), (5, vv_I ((slt al i j * 8 : Nat) : Int)), (6, vv_L 0)]) dx_X2_treesWithout_25 (by decide) rfl ?_
  refine go_iconst dx_X2_treesWithout_27 ?_
  refine go_istore (lv' := [(0, vv_A o), (1, vv_I (b : Int)), (2, vv_I (x : Int)), (3, vv_I (i : Int)), (4, vv_I (j : Int)), (5, vv_I ((slt al i j * 8 : Nat) : Int)), (6, vv_L 0), (8, vv_I 0)]) dx_X2_treesWithout_28 (by decide) rfl ?_
  exact loop δ2 (fun z hz => h2' z hz) (fun c' q a => f2 c' q a)
/-- the least name with two trees or more, or too many -/
noncomputable def dba (R : Nat → List Nat) (pl : Nat → Nat → Prop) (i j : Nat) : Int := @ite Int (∃ x, x < 8 ∧ ¬ Tn R pl x i j ≤ MX) (Classical.propDecidable _) (-7) (li (fun x => x < 8 ∧ 2 ≤ Tn R pl x i j))
theorem g_Forest_doubtfulAt {i j : Nat} (ho : tb_ok 2 o c al) (hf3 : tf_ok o al) (h : ft_at δ o al R pl n) (h2 : δ o 2 = bI al) (hn : n ≤ 14) (hij : i < j) (hj : j ≤ n) (hQ : Q [vv_I (dba R pl i j)] go_φ δ) :
    Go E (d + 2) (0, 0) mx_X2_doubtfulAt go_φ 0 [(0, vv_A o), (1, vv_I (i : Int)), (2, vv_I (j : Int))] [] δ Q := by
  have loop := lp_dn (X := Unit) (I := fun m _ => m ≤ 8 ∧ ∀ x, m ≤ x → x < 8 → Tn R pl x i j ≤ MX)
    (G := fun m _ => Go E (d + 2) (0, 0) mx_X2_doubtfulAt go_φ 6 [(0, vv_A o), (1, vv_I (i : Int)), (2, vv_I (j : Int)), (3, vv_I (li (fun x => m ≤ x ∧ x < 8 ∧ 2 ≤ Tn R pl x i j))), (4, vv_I ((m : Int) - 1))] [] δ Q) (fun m _ hI ih => by
      obtain ⟨i1, i2⟩ := hI
      have hv := st_iL (Tn R pl m i j)
      rw [show ((m + 1 : Nat) : Int) - 1 = (m : Int) by omega]
      refine go_iload dx_X2_doubtfulAt_6 rfl ?_
      refine go_if_lt (tgt := 51) dx_X2_doubtfulAt_8 rfl (by omega) (fun c8 => by exact absurd c8 (by omega)) (fun c8 => ?_)
      refine go_aload_n (i := 0) dx_X2_doubtfulAt_11 rfl rfl ?_
      refine go_iload dx_X2_doubtfulAt_12 rfl ?_
      refine go_iload_n (i := 1) dx_X2_doubtfulAt_14 rfl rfl ?_
      refine go_iload_n (i := 2) dx_X2_doubtfulAt_15 rfl rfl ?_
      refine go_cV3 sv_X2_69 (tb_k0 ho) dx_X2_doubtfulAt_16 (Nat.le_of_ble_eq_true rfl) (Nat.le_of_ble_eq_true rfl) (g_Forest_valueAll ho hf3 h h2 hn (by omega) (by omega) hij hj ?_)
      refine go_asL (y := (st (Tn R pl m i j))) (by rw [Vn_name (by omega) hij]) ?_
      refine go_lstore (lv' := [(0, vv_A o), (1, vv_I (i : Int)), (2, vv_I (j : Int)), (3, vv_I (li (fun x => m + 1 ≤ x ∧ x < 8 ∧ 2 ≤ Tn R pl x i j))), (4, vv_I (m : Int)), (5, vv_L (st (Tn R pl m i j)))]) dx_X2_doubtfulAt_19 (by decide) rfl ?_
      refine go_lload dx_X2_doubtfulAt_21 rfl ?_
      refine go_lconst (x := 0) dx_X2_doubtfulAt_23 rfl ?_
      refine go_lcmp_ge (tgt := 31) dx_X2_doubtfulAt_24 dx_X2_doubtfulAt_25 rfl (by omega) (by omega) (fun c24 => ?_) (fun c24 => ?_)
      · refine go_lload dx_X2_doubtfulAt_31 rfl ?_
        refine go_lconst (x := 1) dx_X2_doubtfulAt_33 rfl ?_
        refine go_lcmp_le (tgt := 43) dx_X2_doubtfulAt_34 dx_X2_doubtfulAt_35 rfl (by omega) (by omega) (fun c34 => ?_) (fun c34 => ?_)
        · refine go_iload_n (i := 3) dx_X2_doubtfulAt_43 rfl rfl ?_
          have hg : Tn R pl m i j ≤ MX := Classical.byContradiction (fun w => by rw [st_gt w] at c24; exact absurd c24 (by decide))
          rw [st_le hg] at c34
          have e : (li (fun x => m + 1 ≤ x ∧ x < 8 ∧ 2 ≤ Tn R pl x i j)) = li (fun x => m ≤ x ∧ x < 8 ∧ 2 ≤ Tn R pl x i j) := li_congr (fun x => ⟨fun q => ⟨by omega, q.2⟩, fun q => ⟨by
            by_cases w : x = m
            · subst w; omega
            · omega, q.2⟩⟩)
          refine go_istore_n (i := 3) (lv' := [(0, vv_A o), (1, vv_I (i : Int)), (2, vv_I (j : Int)), (3, vv_I (li (fun x => m + 1 ≤ x ∧ x < 8 ∧ 2 ≤ Tn R pl x i j))), (4, vv_I (m : Int)), (5, vv_L (st (Tn R pl m i j)))]) dx_X2_doubtfulAt_44 rfl (by decide) rfl ?_
          refine go_iinc (lv' := [(0, vv_A o), (1, vv_I (i : Int)), (2, vv_I (j : Int)), (3, vv_I (li (fun x => m + 1 ≤ x ∧ x < 8 ∧ 2 ≤ Tn R pl x i j))), (4, vv_I ((m : Int) + (-1))), (5, vv_L (st (Tn R pl m i j)))]) dx_X2_doubtfulAt_45 rfl (by decide) rfl ?_
          refine go_goto (tgt := 6) dx_X2_doubtfulAt_48 rfl ?_
          refine go_keep [0, 1, 2, 3, 4] rfl ?_
          rw [e, show (m : Int) + -1 = (m : Int) - 1 by omega]
          exact ih () ⟨by omega, fun x hx hx8 => by
            by_cases w : x = m
            · subst w; exact hg
            · exact i2 x (by omega) hx8⟩
        · refine go_iload dx_X2_doubtfulAt_38 rfl ?_
          refine go_goto (tgt := 44) dx_X2_doubtfulAt_40 rfl ?_
          have hg : Tn R pl m i j ≤ MX := Classical.byContradiction (fun w => by rw [st_gt w] at c24; exact absurd c24 (by decide))
          rw [st_le hg] at c34
          have e : (m : Int) = li (fun x => m ≤ x ∧ x < 8 ∧ 2 ≤ Tn R pl x i j) := (li_t ⟨Nat.le_refl _, by omega, by omega⟩ (fun k hk => hk.1)).symm
          refine go_istore_n (i := 3) (lv' := [(0, vv_A o), (1, vv_I (i : Int)), (2, vv_I (j : Int)), (3, vv_I (m : Int)), (4, vv_I (m : Int)), (5, vv_L (st (Tn R pl m i j)))]) dx_X2_doubtfulAt_44 rfl (by decide) rfl ?_
          refine go_iinc (lv' := [(0, vv_A o), (1, vv_I (i : Int)), (2, vv_I (j : Int)), (3, vv_I (m : Int)), (4, vv_I ((m : Int) + (-1))), (5, vv_L (st (Tn R pl m i j)))]) dx_X2_doubtfulAt_45 rfl (by decide) rfl ?_
          refine go_goto (tgt := 6) dx_X2_doubtfulAt_48 rfl ?_
          refine go_keep [0, 1, 2, 3, 4] rfl ?_
          have k := ih () ⟨by omega, fun x hx hx8 => by
            by_cases w : x = m
            · subst w; exact hg
            · exact i2 x (by omega) hx8⟩
          rw [← e] at k
          rw [show (m : Int) + -1 = (m : Int) - 1 by omega]
          exact k
      · refine go_bipush dx_X2_doubtfulAt_28 rfl ?_
        refine go_ireturn dx_X2_doubtfulAt_30 rfl (Nat.le_refl _) (Nat.le_refl _) ?_
        have hg : ¬ Tn R pl m i j ≤ MX := fun w => by rw [st_le w] at c24; omega
        have e : dba R pl i j = -7 := if_pos ⟨m, by omega, hg⟩
        rw [e] at hQ
        exact hQ
    ) (fun _ hI => by
      refine go_iload dx_X2_doubtfulAt_6 rfl ?_
      refine go_if_lt (tgt := 51) dx_X2_doubtfulAt_8 rfl (by omega) (fun c8 => ?_) (fun c8 => by exact absurd c8 (by omega))
      refine go_iload_n (i := 3) dx_X2_doubtfulAt_51 rfl rfl ?_
      refine go_ireturn dx_X2_doubtfulAt_52 rfl (Nat.le_refl _) (Nat.le_refl _) ?_
      have e : dba R pl i j = li (fun x => 0 ≤ x ∧ x < 8 ∧ 2 ≤ Tn R pl x i j) := (if_neg (fun ⟨x, x1, x2⟩ => x2 (hI.2 x (Nat.zero_le _) x1))).trans (li_congr (fun x => ⟨fun q => ⟨Nat.zero_le _, q⟩, fun q => q.2⟩))
      rw [e] at hQ
      exact hQ
    )
  refine go_iconst dx_X2_doubtfulAt_0 ?_
  refine go_istore_n (i := 3) (lv' := [(0, vv_A o), (1, vv_I (i : Int)), (2, vv_I (j : Int)), (3, vv_I (-1))]) dx_X2_doubtfulAt_1 rfl (by decide) rfl ?_
  refine go_bipush dx_X2_doubtfulAt_2 rfl ?_
  refine go_istore (lv' := [(0, vv_A o), (1, vv_I (i : Int)), (2, vv_I (j : Int)), (3, vv_I (-1)), (4, vv_I 7)]) dx_X2_doubtfulAt_4 (by decide) rfl ?_
  have k := loop 8 () ⟨Nat.le_refl _, fun x h1 h2 => by omega⟩
  rw [li_f (fun x q => by omega)] at k
  exact k
end GFOREST
