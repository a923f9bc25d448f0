/-! the reference's calls: lengths -/
def lna (T : Nat → Nat → Prop) (F : Nat → Prop) (y A n : Nat) : Prop := ∃ a b, 1 ≤ a ∧ a < A ∧ T y a ∧ F b ∧ n = a + b
def lnf (T : Nat → Nat → Prop) : List Nat → (Nat → Prop) → Nat → Prop
  | [], F => F
  | y :: l, F => lnf T l (fun n => n < 15 ∧ lna T F y 15 n)
def ln (T : Nat → Nat → Prop) : List Nat → Nat → Prop
  | [], n => n = 0
  | y :: l, n => ∃ a c, 1 ≤ a ∧ T y a ∧ ln T l c ∧ n = a + c
theorem lnf_ln {T : Nat → Nat → Prop} (hT : ∀ y a, T y a → a < 15) : ∀ {l : List Nat} {F : Nat → Prop} {n : Nat}, (∀ b, F b → b < 15) → (lnf T l F n ↔ n < 15 ∧ ∃ b c, F b ∧ ln T l c ∧ n = b + c)
  | [], F, n, hF => ⟨fun h => ⟨hF n h, n, 0, h, rfl, rfl⟩, fun ⟨_, b, c, h1, h2, h3⟩ => by have h2 : c = 0 := h2; subst h2; rw [h3]; exact h1⟩
  | y :: l, F, n, hF => by
    show lnf T l _ n ↔ _
    rw [lnf_ln hT (fun b hb => hb.1)]
    constructor
    · rintro ⟨h, b, c, ⟨_, a, b', h1, _, h2, h3, rfl⟩, h4, rfl⟩
      exact ⟨h, b', a + c, h3, ⟨a, c, h1, h2, h4, rfl⟩, by omega⟩
    · rintro ⟨h, b, c, h1, ⟨a, c', h2, h3, h4, rfl⟩, rfl⟩
      exact ⟨h, a + b, c', ⟨by omega, a, b, h2, hT y a h3, h3, h1, rfl⟩, h4, by omega⟩
theorem lnf_0 {T : Nat → Nat → Prop} (hT : ∀ y a, T y a → a < 15) {l : List Nat} {n : Nat} : lnf T l (fun n => n = 0) n ↔ n < 15 ∧ ln T l n := by
  rw [lnf_ln hT (fun b hb => by have hb : b = 0 := hb; omega)]
  constructor
  · rintro ⟨h, b, c, h1, h2, h3⟩
    have h1 : b = 0 := h1
    have : n = c := by omega
    subst this
    exact ⟨h, h2⟩
  · rintro ⟨h, h2⟩
    exact ⟨h, 0, n, rfl, h2, by omega⟩
section GLEN
variable {R : Nat → List Nat} {T : Nat → Nat → Prop}
theorem ln_ds (hs : ∀ x a, x < 14 → T x a → ∃ u, u.length = a ∧ ds R [x] u) : ∀ {l : List Nat} {n : Nat}, (∀ z ∈ l, z < 14) → ln T l n → ∃ u, u.length = n ∧ ds R l u
  | [], n, _, h => ⟨[], by have h : n = 0 := h; rw [h]; rfl, ds_nil⟩
  | y :: l, n, hz, ⟨a, c, _, h2, h3, h4⟩ => by
    obtain ⟨u, u1, u2⟩ := hs y a (hz y (List.mem_cons_self ..)) h2
    obtain ⟨v, v1, v2⟩ := ln_ds hs (fun z hm => hz z (List.mem_cons_of_mem _ hm)) h3
    exact ⟨u ++ v, by rw [List.length_append]; omega, ds_app (l := [y]) u2 v2⟩
theorem ds_ln (hR : ∀ r, rl_ok (R r)) (hl : ∀ c, 8 ≤ c → c < 14 → T c 1) (hcl : ∀ r x q n, r < 16 → R r = x :: q → q ≠ [] → n < 15 → ln T q n → T x n) {l u : List Nat} (h : ds R l u) : u.length ≤ 14 → ln T l u.length := by
  refine ds_ind (P := fun l u => u.length ≤ 14 → ln T l u.length) (fun _ => rfl) (fun c l u a b _ ih hle => ?_) (fun r x q l u v hr hx hq h8 f _ ih1 ih2 hle => ?_) h
  · rw [List.length_cons] at hle ⊢
    exact ⟨1, u.length, Nat.le_refl _, hl c a b, ih (by omega), by omega⟩
  · rw [List.length_append] at hle ⊢
    have := ds_len f
    have hqp := List.length_pos_iff.mpr hq
    exact ⟨u.length, v.length, by omega, hcl r x q _ hr hx hq (by omega) (ih1 (by omega)), ih2 (by omega), rfl⟩
end GLEN
def lns_at (δ : Nat → Nat → Int) (tv : Nat → Nat) : Prop := ∀ x, x < 14 → δ 130 x = (tv x : Int)
def tbs (tv : Nat → Nat) (y a : Nat) : Prop := y < 14 ∧ (tv y).testBit a = true
section GLEN2
variable {E : go_E} {d : Nat} {δ : Nat → Nat → Int} {Q : List go_V → go_F → (Nat → Nat → Int) → Prop} {K : sK} {S : sS} {R : Nat → List Nat} {tv : Nat → Nat}
theorem mk_low {P : Nat → Prop} : mk 29 P % 2 ^ 15 = mk 15 P := mk_eq (Nat.mod_lt _ (Nat.pow_pos (by decide))) (fun x hx => by
  rw [Nat.testBit_mod_two_pow]
  have := mk_bit 29 P x
  simp only [hx, decide_true, Bool.true_and]
  rw [this]
  exact ⟨fun q => q.2, fun q => ⟨by omega, q⟩⟩)
theorem m_lengthsFrom {r p : Nat} (h : bo_at δ R) (hv : lns_at δ tv) (htv : ∀ x, x < 14 → tv x < 2 ^ 15) (hr : r < 16) (hp : p + 1 ≤ (R r).length) (hQ : Q [vv_I (mk 15 (ln (tbs tv) ((R r).drop (p + 1))) : Int)] go_φ δ) :
    Go E (d + 1) (0, 0) mx_X12_lengthsFrom go_φ 0 [(0, vv_A 94), (1, vv_I (r : Int)), (2, vv_I (p : Int))] [] δ Q := by
  have hR := h.1
  have hlen := (hR r).len
  have l130 : go_ln 130 = 14 := rfl
  have hT : ∀ y a, tbs tv y a → a < 15 := fun y a q => Nat.lt_of_not_le (fun z => by have := mk_hi (htv y q.1) z; rw [q.2] at this; cases this)
  obtain ⟨l, hl⟩ : ∃ l, l = (R r).drop (p + 1) := ⟨_, rfl⟩
  have hll : l.length = (R r).length - (p + 1) := by rw [hl, List.length_drop]
  have hlg : ∀ k, l.getD k 0 = (R r).getD (p + k + 1) 0 := fun k => by rw [hl, List.getD_eq_getElem?_getD, List.getD_eq_getElem?_getD, List.getElem?_drop, show p + 1 + k = p + k + 1 by omega]
  rw [← hl] at hQ
  have loop := lp_up (X := Nat → Prop) (hi := l.length) (I := fun k F => (∀ b, F b → b < 15) ∧ ∀ n, lnf (tbs tv) (l.drop k) F n ↔ lnf (tbs tv) l (fun n => n = 0) n)
    (G := fun k F => ∀ lv0, lv0 = [(0, vv_A 94), (1, vv_I (r : Int)), (2, vv_I (p : Int)), (3, vv_I (mk 15 F : Int)), (4, vv_I ((p + k : Nat) : Int))] → Go E (d + 1) (0, 0) mx_X12_lengthsFrom go_φ 5 lv0 [] δ Q) (fun k F hk hI ih lv0 e0 => ?_) (fun F hI lv0 e0 => ?_)
  · refine go_iconst dx_X12_lengthsFrom_0 ?_
    refine go_istore_n (i := 3) (lv' := [(0, vv_A 94), (1, vv_I (r : Int)), (2, vv_I (p : Int)), (3, vv_I 1)]) dx_X12_lengthsFrom_1 rfl (by decide) rfl ?_
    refine go_iload_n (i := 2) dx_X12_lengthsFrom_2 rfl rfl ?_
    refine go_istore (lv' := [(0, vv_A 94), (1, vv_I (r : Int)), (2, vv_I (p : Int)), (3, vv_I 1), (4, vv_I (p : Int))]) dx_X12_lengthsFrom_3 (by decide) rfl ?_
    exact loop 0 (fun n => n = 0) (Nat.zero_le _) ⟨fun b hb => by have hb : b = 0 := hb; omega, fun n => Iff.rfl⟩ _ (by rw [← mk_eq (n := 15) (m := 1) (by decide) (fun x _ => by rw [show (1 : Nat) = 2 ^ 0 from rfl, bt_one]; exact ⟨fun q => q.symm, fun q => q.symm⟩)]; rfl)
  · subst e0
    obtain ⟨i1, i2⟩ := hI
    obtain ⟨y, hy⟩ : ∃ y, y = l.getD k 0 := ⟨_, rfl⟩
    have hy14 : y < 14 := by rw [hy, hlg]; exact rl_getD_lt (hR r) (by omega)
    have hty := htv y hy14
    rw [li_drop1 hk, ← hy] at i2
    obtain ⟨f, hf⟩ : ∃ f, f = mk 15 F := ⟨_, rfl⟩
    have hf15 : f < 2 ^ 15 := by rw [hf]; exact mk_lt 15 _
    have hfb : ∀ b, f.testBit b = true ↔ F b := fun b => by rw [hf, mk_bit]; exact ⟨fun q => q.2, fun q => ⟨i1 b q, q⟩⟩
    rw [← hf]
    have inner := lp_up (X := Unit) (hi := 15) (I := fun a _ => 1 ≤ a)
      (G := fun a _ => ∀ lv0, lv0 = [(0, vv_A 94), (1, vv_I (r : Int)), (2, vv_I (p : Int)), (3, vv_I (f : Int)), (4, vv_I ((p + k : Nat) : Int)), (5, vv_I (mk 29 (lna (tbs tv) F y a) : Int)), (6, vv_I (a : Int))] → Go E (d + 1) (0, 0) mx_X12_lengthsFrom go_φ 21 lv0 [] δ Q) (fun a _ ha hI2 ih2 lv0 e0 => ?_) (fun _ hI2 lv0 e0 => ?_)
    · refine go_iload dx_X12_lengthsFrom_5 rfl ?_
      refine go_aload_n (i := 0) dx_X12_lengthsFrom_7 rfl rfl ?_
      refine go_iload_n (i := 1) dx_X12_lengthsFrom_8 rfl rfl ?_
      refine go_cV1 sv_X12_148 (go_ok rfl rfl) dx_X12_lengthsFrom_9 (Nat.le_of_ble_eq_true rfl) (Nat.le_of_ble_eq_true rfl) (o_longOf h hr ?_)
      refine go_icmp_ge (tgt := 81) dx_X12_lengthsFrom_12 rfl (by omega) (by omega) (fun c12 => by exact absurd c12 (by omega)) (fun c12 => ?_)
      refine go_iconst dx_X12_lengthsFrom_15 ?_
      refine go_istore (lv' := [(0, vv_A 94), (1, vv_I (r : Int)), (2, vv_I (p : Int)), (3, vv_I (f : Int)), (4, vv_I ((p + k : Nat) : Int)), (5, vv_I 0)]) dx_X12_lengthsFrom_16 (by decide) rfl ?_
      refine go_iconst dx_X12_lengthsFrom_18 ?_
      refine go_istore (lv' := [(0, vv_A 94), (1, vv_I (r : Int)), (2, vv_I (p : Int)), (3, vv_I (f : Int)), (4, vv_I ((p + k : Nat) : Int)), (5, vv_I 0), (6, vv_I 1)]) dx_X12_lengthsFrom_19 (by decide) rfl ?_
      exact inner 1 () (by decide) (Nat.le_refl _) _ (by rw [mk_zero (fun x _ ⟨a, b, h1, h2, _⟩ => by omega)]; rfl)
    · subst e0
      obtain ⟨M, hM⟩ : ∃ M, M = mk 29 (lna (tbs tv) F y a) := ⟨_, rfl⟩
      have hM29 : M < 2 ^ 29 := by rw [hM]; exact mk_lt 29 _
      rw [← hM]
      have hs : ∀ n, lna (tbs tv) F y (a + 1) n ↔ lna (tbs tv) F y a n ∨ (tbs tv y a ∧ ∃ b, F b ∧ n = a + b) := fun n => by
        constructor
        · rintro ⟨a', b, h1, h2, h3, h4, h5⟩
          by_cases e : a' = a
          · subst e; exact Or.inr ⟨h3, b, h4, h5⟩
          · exact Or.inl ⟨a', b, h1, by omega, h3, h4, h5⟩
        · rintro (⟨a', b, h1, h2, h3, h4, h5⟩ | ⟨h3, b, h4, h5⟩)
          · exact ⟨a', b, h1, by omega, h3, h4, h5⟩
          · exact ⟨a, b, hI2, by omega, h3, h4, h5⟩
      have hpa : 2 ^ a ≤ 2 ^ 14 := Nat.pow_le_pow_right (by decide) (by omega)
      have hfa : f * 2 ^ a < 2 ^ 29 := Nat.lt_of_lt_of_le (Nat.mul_lt_mul_of_pos_right hf15 (Nat.pow_pos (by decide))) (by have := Nat.mul_le_mul_left (2 ^ 15) hpa; omega)
      have hon : tbs tv y a → M ||| (f * 2 ^ a) = mk 29 (lna (tbs tv) F y (a + 1)) := fun ht => mk_eq (Nat.or_lt_two_pow hM29 hfa) (fun x hx => by
        rw [bt_orb, hs x, Nat.mul_comm f, Nat.testBit_two_pow_mul, hM, mk_bit]
        constructor
        · rintro (q | q)
          · exact Or.inl q.2
          · rw [Bool.and_eq_true, decide_eq_true_eq] at q
            exact Or.inr ⟨ht, x - a, (hfb _).mp q.2, by omega⟩
        · rintro (q | ⟨_, b, q, e⟩)
          · exact Or.inl ⟨hx, q⟩
          · refine Or.inr ?_
            rw [Bool.and_eq_true, decide_eq_true_eq]
            exact ⟨by omega, by rw [show x - a = b by omega]; exact (hfb b).mpr q⟩)
      have hoff : ¬ tbs tv y a → M = mk 29 (lna (tbs tv) F y (a + 1)) := fun ht => by
        rw [hM]
        exact mk_congr (fun x _ => by rw [hs x]; exact ⟨Or.inl, fun q => q.elim id (fun z => absurd z.1 ht)⟩)
      have M31 : M < 2147483648 := Nat.lt_of_lt_of_le hM29 (by decide)
      refine go_iload dx_X12_lengthsFrom_21 rfl ?_
      refine go_bipush dx_X12_lengthsFrom_23 rfl ?_
      refine go_icmp_gt (tgt := 68) dx_X12_lengthsFrom_25 rfl (by omega) (by omega) (fun c25 => by exact absurd c25 (by omega)) (fun c25 => ?_)
      refine go_iload dx_X12_lengthsFrom_28 rfl ?_
      refine go_aload_n (i := 0) dx_X12_lengthsFrom_30 rfl rfl ?_
      refine go_getA (b := 130) fs_X12_121 rfl (go_ok rfl rfl) rfl dx_X12_lengthsFrom_31 ?_
      refine go_aload_n (i := 0) dx_X12_lengthsFrom_34 rfl rfl ?_
      refine go_iload_n (i := 1) dx_X12_lengthsFrom_35 rfl rfl ?_
      refine go_iload dx_X12_lengthsFrom_36 rfl ?_
      refine go_cV2 sv_X12_190 (go_ok rfl rfl) dx_X12_lengthsFrom_38 (Nat.le_of_ble_eq_true rfl) (Nat.le_of_ble_eq_true rfl) (o_partOf h hr (by omega) ?_)
      refine go_asI (y := (y : Int)) (by rw [hy, hlg]) ?_
      refine go_ialoadV (i := y) (v := ((tv y : Int))) dx_X12_lengthsFrom_41 (go_ok rfl rfl) (by omega) (show y < 14 by omega) (by exact hv y hy14) ?_
      refine go_iload dx_X12_lengthsFrom_42 rfl ?_
      refine go_ishr dx_X12_lengthsFrom_44 ?_
      refine go_iconst dx_X12_lengthsFrom_45 ?_
      refine go_iand dx_X12_lengthsFrom_46 ?_
      refine go_asI (y := (b01 ((tv y).testBit a = true))) (by exact bv_tstbS (Nat.lt_of_lt_of_le hty (by decide)) (by omega)) ?_
      refine go_iconst dx_X12_lengthsFrom_47 ?_
      refine go_icmp_ne (tgt := 58) dx_X12_lengthsFrom_48 rfl (by first | omega | (have := b01_iI ((tv y).testBit a = true); omega)) (by first | omega | (have := b01_iI ((tv y).testBit a = true); omega)) (fun c48 => ?_) (fun c48 => ?_)
      · refine go_iconst dx_X12_lengthsFrom_58 ?_
        refine go_ior dx_X12_lengthsFrom_59 ?_
        refine go_nmI (fun z ez => ?_)
        refine go_istore (lv' := [(0, vv_A 94), (1, vv_I (r : Int)), (2, vv_I (p : Int)), (3, vv_I (f : Int)), (4, vv_I ((p + k : Nat) : Int)), (5, vv_I z), (6, vv_I (a : Int))]) dx_X12_lengthsFrom_60 (by decide) rfl ?_
        refine go_iinc (lv' := [(0, vv_A 94), (1, vv_I (r : Int)), (2, vv_I (p : Int)), (3, vv_I (f : Int)), (4, vv_I ((p + k : Nat) : Int)), (5, vv_I z), (6, vv_I ((a : Int) + 1))]) dx_X12_lengthsFrom_62 rfl (by decide) rfl ?_
        refine go_goto (tgt := 21) dx_X12_lengthsFrom_65 rfl ?_
        first
        | exact ih2 () (by omega) _ (by rw [ez, bv_orN M31 (Nat.lt_of_lt_of_le hfa (by decide)), hon ⟨hy14, b01_1.mp c48⟩]; rfl)
        | exact ih2 () (by omega) _ (by rw [ez, show (0 : Int) = ((0 : Nat) : Int) from rfl, bv_orN M31 (by decide), Nat.or_zero, hoff (fun q => c48 (b01_1.mpr q.2))]; rfl)
      · refine go_iload_n (i := 3) dx_X12_lengthsFrom_51 rfl rfl ?_
        refine go_iload dx_X12_lengthsFrom_52 rfl ?_
        refine go_ishl dx_X12_lengthsFrom_54 ?_
        refine go_asI (y := ((f * 2 ^ a : Nat) : Int)) (by exact bv_shlN (by omega) (Nat.lt_of_lt_of_le hfa (by decide))) ?_
        refine go_goto (tgt := 59) dx_X12_lengthsFrom_55 rfl ?_
        refine go_ior dx_X12_lengthsFrom_59 ?_
        refine go_nmI (fun z ez => ?_)
        refine go_istore (lv' := [(0, vv_A 94), (1, vv_I (r : Int)), (2, vv_I (p : Int)), (3, vv_I (f : Int)), (4, vv_I ((p + k : Nat) : Int)), (5, vv_I z), (6, vv_I (a : Int))]) dx_X12_lengthsFrom_60 (by decide) rfl ?_
        refine go_iinc (lv' := [(0, vv_A 94), (1, vv_I (r : Int)), (2, vv_I (p : Int)), (3, vv_I (f : Int)), (4, vv_I ((p + k : Nat) : Int)), (5, vv_I z), (6, vv_I ((a : Int) + 1))]) dx_X12_lengthsFrom_62 rfl (by decide) rfl ?_
        refine go_goto (tgt := 21) dx_X12_lengthsFrom_65 rfl ?_
        first
        | exact ih2 () (by omega) _ (by rw [ez, bv_orN M31 (Nat.lt_of_lt_of_le hfa (by decide)), hon ⟨hy14, b01_1.mp c48⟩]; rfl)
        | exact ih2 () (by omega) _ (by rw [ez, show (0 : Int) = ((0 : Nat) : Int) from rfl, bv_orN M31 (by decide), Nat.or_zero, hoff (fun q => c48 (b01_1.mpr q.2))]; rfl)
    · subst e0
      refine go_iload dx_X12_lengthsFrom_21 rfl ?_
      refine go_bipush dx_X12_lengthsFrom_23 rfl ?_
      refine go_icmp_gt (tgt := 68) dx_X12_lengthsFrom_25 rfl (by omega) (by omega) (fun c25 => ?_) (fun c25 => by exact absurd c25 (by omega))
      refine go_iload dx_X12_lengthsFrom_68 rfl ?_
      refine go_sipush dx_X12_lengthsFrom_70 rfl ?_
      refine go_iand dx_X12_lengthsFrom_73 ?_
      refine go_asI (y := (mk 15 (fun n => n < 15 ∧ lna (tbs tv) F y 15 n) : Int)) (by rw [show (32767 : Int) = ((2 ^ 15 - 1 : Nat) : Int) from rfl, bv_andN (Nat.lt_of_lt_of_le (mk_lt 29 _) (by decide)) (by decide), Nat.and_two_pow_sub_one_eq_mod, mk_low]; exact congrArg _ (mk_congr (fun x hx => ⟨fun q => ⟨hx, q⟩, fun q => q.2⟩))) ?_
      refine go_istore_n (i := 3) (lv' := [(0, vv_A 94), (1, vv_I (r : Int)), (2, vv_I (p : Int)), (3, vv_I (mk 15 (fun n => n < 15 ∧ lna (tbs tv) F y 15 n) : Int)), (4, vv_I ((p + k : Nat) : Int)), (5, vv_I (mk 29 (lna (tbs tv) F y 15) : Int)), (6, vv_I ((15 : Nat) : Int))]) dx_X12_lengthsFrom_74 rfl (by decide) rfl ?_
      refine go_iinc (lv' := [(0, vv_A 94), (1, vv_I (r : Int)), (2, vv_I (p : Int)), (3, vv_I (mk 15 (fun n => n < 15 ∧ lna (tbs tv) F y 15 n) : Int)), (4, vv_I (((p + k : Nat) : Int) + 1)), (5, vv_I (mk 29 (lna (tbs tv) F y 15) : Int)), (6, vv_I ((15 : Nat) : Int))]) dx_X12_lengthsFrom_75 rfl (by decide) rfl ?_
      refine go_goto (tgt := 5) dx_X12_lengthsFrom_78 rfl ?_
      refine go_keep [0, 1, 2, 3, 4] rfl ?_
      exact ih (fun n => n < 15 ∧ lna (tbs tv) F y 15 n) ⟨fun b hb => hb.1, i2⟩ _ rfl
  · subst e0
    obtain ⟨i1, i2⟩ := hI
    rw [List.drop_length] at i2
    have e : mk 15 F = mk 15 (ln (tbs tv) l) := mk_congr (fun n hn => (i2 n).trans ((lnf_0 hT).trans ⟨fun q => q.2, fun q => ⟨hn, q⟩⟩))
    rw [← e] at hQ
    refine go_iload dx_X12_lengthsFrom_5 rfl ?_
    refine go_aload_n (i := 0) dx_X12_lengthsFrom_7 rfl rfl ?_
    refine go_iload_n (i := 1) dx_X12_lengthsFrom_8 rfl rfl ?_
    refine go_cV1 sv_X12_148 (go_ok rfl rfl) dx_X12_lengthsFrom_9 (Nat.le_of_ble_eq_true rfl) (Nat.le_of_ble_eq_true rfl) (o_longOf h hr ?_)
    refine go_icmp_ge (tgt := 81) dx_X12_lengthsFrom_12 rfl (by omega) (by omega) (fun c12 => ?_) (fun c12 => by exact absurd c12 (by omega))
    refine go_iload_n (i := 3) dx_X12_lengthsFrom_81 rfl rfl ?_
    refine go_ireturn dx_X12_lengthsFrom_82 rfl (Nat.le_refl _) (Nat.le_refl _) ?_
    exact hQ
/-- what the sets of lengths keep -/
def lns_ok (R : Nat → List Nat) (tv : Nat → Nat) : Prop := (∀ x, x < 14 → tv x < 2 ^ 15) ∧ (∀ c, 8 ≤ c → c < 14 → tv c = 2) ∧ ∀ x a, x < 14 → tbs tv x a → ∃ u, u.length = a ∧ ds R [x] u
theorem lns_up (hR : ∀ r, rl_ok (R r)) (h : lns_ok R tv) {r x : Nat} {q : List Nat} (hr : r < 16) (hx : R r = x :: q) (hq : q ≠ []) (h8 : x < 8) (hz : ∀ z ∈ q, z < 14) : lns_ok R (fun z => if z = x then tv x ||| mk 15 (ln (tbs tv) q) else tv z) := by
  refine ⟨fun z hz2 => ?_, fun c a b => ?_, fun z a hz2 hb => ?_⟩
  · show (if z = x then _ else _) < _
    by_cases e : z = x
    · rw [if_pos e]; exact Nat.or_lt_two_pow (h.1 x (by omega)) (mk_lt 15 _)
    · rw [if_neg e]; exact h.1 z hz2
  · show (if c = x then _ else _) = _
    rw [if_neg (by omega)]
    exact h.2.1 c a b
  · have hb2 := hb.2
    dsimp only at hb2
    by_cases e : z = x
    · rw [if_pos e, bt_orb, mk_bit] at hb2
      subst e
      rcases hb2 with g | ⟨_, g⟩
      · exact h.2.2 z a hz2 ⟨hz2, g⟩
      · obtain ⟨u, u1, u2⟩ := ln_ds h.2.2 hz g
        have := ds_rule hr hx hq h8 u2 (ds_nil (R := R))
        rw [List.append_nil] at this
        exact ⟨u, u1, this⟩
    · rw [if_neg e] at hb2
      exact h.2.2 z a hz2 ⟨hz2, hb2⟩
def lns_cl (R : Nat → List Nat) (tv : Nat → Nat) (m : Nat) : Prop := ∀ r x q n, r < m → R r = x :: q → q ≠ [] → n < 15 → ln (tbs tv) q n → tbs tv x n
theorem lns_set (hR : ∀ r, rl_ok (R r)) (h : lns_ok R tv) (hc : lns_cl R tv 16) {l : List Nat} (hz : ∀ z ∈ l, z < 14) {n : Nat} (hn : n < 15) : ln (tbs tv) l n ↔ ∃ u, u.length = n ∧ ds R l u :=
  ⟨ln_ds h.2.2 hz, fun ⟨u, u1, u2⟩ => by
    rw [← u1]
    exact ds_ln hR (fun c a b => ⟨b, by rw [h.2.1 c a b]; rfl⟩) hc u2 (by omega)⟩
theorem lns_dp (hR : ∀ r, rl_ok (R r)) {x : Nat} (hx : x < 14 + (gH R).length) {n : Nat} : (n ≤ 14 ∧ dp R pla x 0 n) ↔ n < 15 ∧ ∃ u, u.length = n ∧ ds R (sm R x) u := by
  constructor
  · rintro ⟨h, u, h1, _, h2⟩
    exact ⟨by omega, u, by omega, h2.2⟩
  · rintro ⟨h, u, h1, h2⟩
    refine ⟨by omega, u, by omega, fun k c hk => ds_lets h2 c (List.mem_of_getElem? hk), fun e => ?_, h2⟩
    subst e
    have := ds_len h2
    exact (sm_mem hR hx).2 (List.eq_nil_of_length_eq_zero (Nat.le_zero.mp this))
theorem m_lengths {x : Int} (hx : go_iI x) (h : mx_at δ S) (hQ : ∀ δ', mx_at δ' S → fl δ δ' → Q [vv_I (oq_lengths S.1 x)] go_φ δ') : Go E (d + 3) (0, 0) mx_X12_lengths go_φ 0 [(0, vv_A 94), (1, vv_I x)] [] δ Q := by
  refine go_aload_n (i := 0) dx_X12_lengths_0 rfl rfl ?_
  refine go_iconst dx_X12_lengths_1 ?_
  refine go_putI fp_X12_139 rfl rfl (go_ok rfl rfl) dx_X12_lengths_2 ?_
  have h := mx_thr (v := 0) h
  have f0 : fl δ (wr δ 94 0 0) := fl_thr
  generalize wr δ 94 0 0 = δ0 at h f0 ⊢
  have hQ := fun δ' a (b : fl δ0 δ') => hQ δ' a (fl_tr f0 b)
  have hsc := @mx_of δ0 S h
  have hb := h.1.1
  have hlaid := h.2
  have ho := bo_of hb
  have hR := ho.1
  have h48 := gH_le hR
  have l103 : go_ln 103 = 48 := rfl
  have l104 : go_ln 104 = 48 := rfl
  have l130 : go_ln 130 = 14 := rfl
  unfold oq_lengths isy at hQ
  rw [nsy_eq] at hQ
  refine go_aload_n (i := 0) dx_X12_lengths_5 rfl rfl ?_
  refine go_iload_n (i := 1) dx_X12_lengths_6 rfl rfl ?_
  refine go_cV1 sv_X12_235 (go_ok rfl rfl) dx_X12_lengths_7 (Nat.le_of_ble_eq_true rfl) (Nat.le_of_ble_eq_true rfl) (m_isAny hx ho (fun δ1 q1 f1 => ?_))
  refine go_b_ne (tgt := 16) dx_X12_lengths_10 rfl (fun c10 => ?_) (fun c10 => ?_)
  · obtain ⟨m, rfl⟩ : ∃ m : Nat, x = (m : Int) := ⟨x.toNat, by omega⟩
    have hm : m < 14 + (gH S.1.1).length := by omega
    rw [cif_t c10, Int.toNat_natCast] at hQ
    have hQ2 : ∀ δ', (∀ c j, c ≠ 130 → δ' c j = δ1 c j) → Q [vv_I (mk 15 (fun j => j ≤ 14 ∧ dp S.1.1 pla m 0 j) : Int)] go_φ δ' := fun δ' f => by
      obtain ⟨a, b⟩ := hsc (δ' := δ') (fun c j hc => by unfold sc at hc; rw [f c j (by omega), f1 c j (by unfold mqP; omega)]) (ml_fr hlaid (fun c j hc => by rw [f c j (by omega), f1 c j (by unfold mqP; omega)]))
      exact hQ δ' a b
    have ho1 : bo_at δ1 S.1.1 := bo_fr ho (fun j _ => f1 95 j (by unfold mqP; omega))
    have outer := lp_wf (X := (Nat → Nat → Int) × (Nat → Nat) × Nat) (fun X => 2 * su 8 (fun x => cn 15 (fun a => ¬ (X.2.1 x).testBit a = true)) + X.2.2)
      (I := fun X => lns_at X.1 X.2.1 ∧ lns_ok S.1.1 X.2.1 ∧ (∀ c j, c ≠ 130 → X.1 c j = δ1 c j) ∧ (X.2.2 = 0 ∨ X.2.2 = 1) ∧ (X.2.2 = 0 → lns_cl S.1.1 X.2.1 16))
      (G := fun X => Go E (d + 3) (0, 0) mx_X12_lengths go_φ 49 [(0, vv_A 94), (1, vv_I (m : Int)), (2, vv_I (X.2.2 : Int))] [] X.1 Q) (fun X hI ih => ?_)
    · have first := lp_up (X := Nat → Nat → Int) (hi := 14) (I := fun k δ2 => (∀ y, y < k → δ2 130 y = ((if y < 8 then 0 else 2 : Nat) : Int)) ∧ (∀ c j, c ≠ 130 → δ2 c j = δ1 c j))
        (G := fun k δ2 => Go E (d + 3) (0, 0) mx_X12_lengths go_φ 18 [(0, vv_A 94), (1, vv_I (m : Int)), (2, vv_I (k : Int))] [] δ2 Q) (fun k δ2 hk hI ih => ?_) (fun δ2 hI => ?_)
      · refine go_iconst dx_X12_lengths_16 ?_
        refine go_istore_n (i := 2) (lv' := [(0, vv_A 94), (1, vv_I (m : Int)), (2, vv_I 0)]) dx_X12_lengths_17 rfl (by decide) rfl ?_
        exact first 0 δ1 (Nat.zero_le _) ⟨fun y hy => absurd hy (Nat.not_lt_zero _), fun _ _ _ => rfl⟩
      · refine go_iload_n (i := 2) dx_X12_lengths_18 rfl rfl ?_
        refine go_bipush dx_X12_lengths_19 rfl ?_
        refine go_icmp_ge (tgt := 47) dx_X12_lengths_21 rfl (by omega) (by omega) (fun c21 => by exact absurd c21 (by omega)) (fun c21 => ?_)
        refine go_aload_n (i := 0) dx_X12_lengths_24 rfl rfl ?_
        refine go_getA (b := 130) fs_X12_121 rfl (go_ok rfl rfl) rfl dx_X12_lengths_25 ?_
        refine go_iload_n (i := 2) dx_X12_lengths_28 rfl rfl ?_
        refine go_iload_n (i := 2) dx_X12_lengths_29 rfl rfl ?_
        refine go_bipush dx_X12_lengths_30 rfl ?_
        refine go_icmp_ge (tgt := 39) dx_X12_lengths_32 rfl (by omega) (by omega) (fun c32 => ?_) (fun c32 => ?_)
        · refine go_iconst dx_X12_lengths_39 ?_
          refine go_iastoreV (i := k) dx_X12_lengths_40 (go_ok rfl rfl) (by omega) (show k < 14 by omega) ?_
          refine go_iinc (lv' := [(0, vv_A 94), (1, vv_I (m : Int)), (2, vv_I ((k : Int) + 1))]) dx_X12_lengths_41 rfl (by decide) rfl ?_
          refine go_goto (tgt := 18) dx_X12_lengths_44 rfl ?_
          refine ih _ ⟨fun y hy => ?_, fun c j hc => by rw [wr_a _ _ _ _ hc]; exact hI.2 c j hc⟩
          by_cases q : y = k
          · subst q; rw [wr_eq]; first | rw [if_pos (by omega)]; rfl | rw [if_neg (by omega)]; rfl
          · rw [wr_i _ _ _ _ q]; exact hI.1 y (by omega)
        · refine go_iconst dx_X12_lengths_35 ?_
          refine go_goto (tgt := 40) dx_X12_lengths_36 rfl ?_
          refine go_iastoreV (i := k) dx_X12_lengths_40 (go_ok rfl rfl) (by omega) (show k < 14 by omega) ?_
          refine go_iinc (lv' := [(0, vv_A 94), (1, vv_I (m : Int)), (2, vv_I ((k : Int) + 1))]) dx_X12_lengths_41 rfl (by decide) rfl ?_
          refine go_goto (tgt := 18) dx_X12_lengths_44 rfl ?_
          refine ih _ ⟨fun y hy => ?_, fun c j hc => by rw [wr_a _ _ _ _ hc]; exact hI.2 c j hc⟩
          by_cases q : y = k
          · subst q; rw [wr_eq]; first | rw [if_pos (by omega)]; rfl | rw [if_neg (by omega)]; rfl
          · rw [wr_i _ _ _ _ q]; exact hI.1 y (by omega)
      · refine go_iload_n (i := 2) dx_X12_lengths_18 rfl rfl ?_
        refine go_bipush dx_X12_lengths_19 rfl ?_
        refine go_icmp_ge (tgt := 47) dx_X12_lengths_21 rfl (by omega) (by omega) (fun c21 => ?_) (fun c21 => by exact absurd c21 (by omega))
        refine go_iconst dx_X12_lengths_47 ?_
        refine go_istore_n (i := 2) (lv' := [(0, vv_A 94), (1, vv_I (m : Int)), (2, vv_I 1)]) dx_X12_lengths_48 rfl (by decide) rfl ?_
        refine go_keep [0, 1, 2] rfl ?_
        refine outer (δ2, (fun y => if y < 8 then 0 else 2), 1) ⟨fun y hy => hI.1 y hy, ⟨fun y hy => ?_, fun y h8 hy => if_neg (by omega), fun y a hy hb => ?_⟩, hI.2, Or.inr rfl, fun q => absurd (show (1 : Nat) = 0 from q) (by decide)⟩
        · show (if y < 8 then 0 else 2) < _
          split <;> omega
        · have hb2 := hb.2
          dsimp only at hb2
          by_cases e : y < 8
          · rw [if_pos e, Nat.zero_testBit] at hb2; cases hb2
          · rw [if_neg e, show (2 : Nat) = 2 ^ 1 from rfl, bt_one] at hb2
            exact ⟨[y], hb2, ds_let (by omega) hy ds_nil⟩
    · obtain ⟨δ2, tv, f⟩ := X
      obtain ⟨j1, j2, j3, j4, j5⟩ := hI
      dsimp only at j1 j2 j3 j4 j5 ih ⊢
      rcases j4 with q | q
      · subst q
        have hcl := j5 rfl
        have hset : mk 15 (fun j => j ≤ 14 ∧ dp S.1.1 pla m 0 j) = mk 15 (ln (tbs tv) (sm S.1.1 m)) := mk_congr (fun j hj => (lns_dp hR hm).trans ((and_iff_right hj).trans (lns_set hR j2 hcl (sm_mem hR hm).1 hj).symm))
        have hQ3 := hQ2 δ2 j3
        rw [hset] at hQ3
        by_cases h14 : m < 14
        · have e : tv m = mk 15 (ln (tbs tv) (sm S.1.1 m)) := mk_eq (j2.1 m h14) (fun n hn => by
            rw [sm_lo h14, lns_set hR j2 hcl (fun z hz => by rw [List.mem_singleton.mp hz]; exact h14) hn]
            refine ⟨fun g => j2.2.2 m n h14 ⟨h14, g⟩, fun g => ?_⟩
            obtain ⟨a, c, a1, a2, a3, a4⟩ := (lns_set hR j2 hcl (l := [m]) (fun z hz => by rw [List.mem_singleton.mp hz]; exact h14) hn).mpr g
            have a3 : c = 0 := a3
            rw [show n = a by omega]
            exact a2.2)
          rw [← e] at hQ3
          refine go_iload_n (i := 2) dx_X12_lengths_49 rfl rfl ?_
          refine go_if_eq (tgt := 137) dx_X12_lengths_50 rfl (by omega) (fun c50 => ?_) (fun c50 => by exact absurd rfl c50)
          refine go_iload_n (i := 1) dx_X12_lengths_137 rfl rfl ?_
          refine go_bipush dx_X12_lengths_138 rfl ?_
          refine go_icmp_ge (tgt := 152) dx_X12_lengths_140 rfl (by omega) (by omega) (fun c140 => by exact absurd c140 (by omega)) (fun c140 => ?_)
          refine go_aload_n (i := 0) dx_X12_lengths_143 rfl rfl ?_
          refine go_getA (b := 130) fs_X12_121 rfl (go_ok rfl rfl) rfl dx_X12_lengths_144 ?_
          refine go_iload_n (i := 1) dx_X12_lengths_147 rfl rfl ?_
          refine go_ialoadV (i := m) (v := ((tv m : Int))) dx_X12_lengths_148 (go_ok rfl rfl) (by omega) (show m < 14 by omega) (by exact j1 m h14) ?_
          refine go_goto (tgt := 174) dx_X12_lengths_149 rfl ?_
          refine go_ireturn dx_X12_lengths_174 rfl (Nat.le_refl _) (Nat.le_refl _) ?_
          exact hQ3
        · obtain ⟨r, k, hr, hk, e⟩ := gH_idx (show m - 14 < (gH S.1.1).length by omega)
          have hg := gh_get hr hk
          have hi : m - 14 < (gH S.1.1).length := by omega
          have hv := q1.2.2.2 (m - 14) hi
          have ev : (gH S.1.1)[m - 14]'hi = (r, k + 1) := by
            have this : (gH S.1.1)[m - 14]? = some (r, k + 1) := by rw [e]; exact hg
            exact Option.some.inj ((List.getElem?_eq_getElem hi).symm.trans this)
          rw [ev] at hv
          have esm : sm S.1.1 m = (S.1.1 r).drop (k + 1 + 1) := by rw [show m = 14 + (gh S.1.1 r).length + k by omega, sm_hi hr hk]
          rw [esm] at hQ3
          refine go_iload_n (i := 2) dx_X12_lengths_49 rfl rfl ?_
          refine go_if_eq (tgt := 137) dx_X12_lengths_50 rfl (by omega) (fun c50 => ?_) (fun c50 => by exact absurd rfl c50)
          refine go_iload_n (i := 1) dx_X12_lengths_137 rfl rfl ?_
          refine go_bipush dx_X12_lengths_138 rfl ?_
          refine go_icmp_ge (tgt := 152) dx_X12_lengths_140 rfl (by omega) (by omega) (fun c140 => ?_) (fun c140 => by exact absurd c140 (by omega))
          refine go_aload_n (i := 0) dx_X12_lengths_152 rfl rfl ?_
          refine go_aload_n (i := 0) dx_X12_lengths_153 rfl rfl ?_
          refine go_getA (b := 103) fs_X12_39 rfl (go_ok rfl rfl) rfl dx_X12_lengths_154 ?_
          refine go_iload_n (i := 1) dx_X12_lengths_157 rfl rfl ?_
          refine go_bipush dx_X12_lengths_158 rfl ?_
          refine go_isub dx_X12_lengths_160 ?_
          refine go_ialoadV (i := (m - 14)) (v := ((r : Int))) dx_X12_lengths_161 (go_ok rfl rfl) (by omega) (show (m - 14) < 48 by omega) (by rw [j3 _ _ (by decide)]; exact hv.1) ?_
          refine go_aload_n (i := 0) dx_X12_lengths_162 rfl rfl ?_
          refine go_getA (b := 104) fs_X12_42 rfl (go_ok rfl rfl) rfl dx_X12_lengths_163 ?_
          refine go_iload_n (i := 1) dx_X12_lengths_166 rfl rfl ?_
          refine go_bipush dx_X12_lengths_167 rfl ?_
          refine go_isub dx_X12_lengths_169 ?_
          refine go_ialoadV (i := (m - 14)) (v := (((k + 1 : Nat) : Int))) dx_X12_lengths_170 (go_ok rfl rfl) (by omega) (show (m - 14) < 48 by omega) (by rw [j3 _ _ (by decide)]; exact hv.2) ?_
          refine go_cV2 sv_X12_411 (go_ok rfl rfl) dx_X12_lengths_171 (Nat.le_of_ble_eq_true rfl) (Nat.le_of_ble_eq_true rfl) (m_lengthsFrom (bo_fr ho1 (fun j _ => j3 95 j (by decide))) j1 j2.1 hr (by omega) ?_)
          refine go_ireturn dx_X12_lengths_174 rfl (Nat.le_refl _) (Nat.le_refl _) ?_
          exact hQ3
      · subst q
        have inner := lp_up (X := (Nat → Nat → Int) × (Nat → Nat) × Nat) (hi := 16)
          (I := fun r X => lns_at X.1 X.2.1 ∧ lns_ok S.1.1 X.2.1 ∧ (∀ c j, c ≠ 130 → X.1 c j = δ1 c j) ∧ ((X.2.2 = 0 ∧ X.2.1 = tv ∧ lns_cl S.1.1 tv r) ∨ (X.2.2 = 1 ∧ su 8 (fun x => cn 15 (fun a => ¬ (X.2.1 x).testBit a = true)) < su 8 (fun x => cn 15 (fun a => ¬ (tv x).testBit a = true)))))
          (G := fun r X => Go E (d + 3) (0, 0) mx_X12_lengths go_φ 57 [(0, vv_A 94), (1, vv_I (m : Int)), (2, vv_I (X.2.2 : Int)), (3, vv_I (r : Int))] [] X.1 Q) (fun r X hr hI ih2 => ?_) (fun X hI => ?_)
        · refine go_iload_n (i := 2) dx_X12_lengths_49 rfl rfl ?_
          refine go_if_eq (tgt := 137) dx_X12_lengths_50 rfl (by omega) (fun c50 => by exact absurd c50 (by decide)) (fun c50 => ?_)
          refine go_iconst dx_X12_lengths_53 ?_
          refine go_istore_n (i := 2) (lv' := [(0, vv_A 94), (1, vv_I (m : Int)), (2, vv_I 0)]) dx_X12_lengths_54 rfl (by decide) rfl ?_
          refine go_iconst dx_X12_lengths_55 ?_
          refine go_istore_n (i := 3) (lv' := [(0, vv_A 94), (1, vv_I (m : Int)), (2, vv_I 0), (3, vv_I 0)]) dx_X12_lengths_56 rfl (by decide) rfl ?_
          exact inner 0 (δ2, tv, 0) (Nat.zero_le _) ⟨j1, j2, j3, Or.inl ⟨rfl, rfl, fun r' x q n hr' => absurd hr' (Nat.not_lt_zero _)⟩⟩
        · obtain ⟨δ3, v2, f⟩ := X
          obtain ⟨i1, i2, i3, i4⟩ := hI
          dsimp only at i1 i2 i3 i4 ⊢
          have hb2 : bo_at δ3 S.1.1 := bo_fr ho1 (fun j hj => i3 95 j (by decide))
          have hok := hR r
          have hlen := hok.len
          have hf01 : f = 0 ∨ f = 1 := i4.elim (fun q => Or.inl q.1) (fun q => Or.inr q.1)
          have more : ∀ (δ4 : Nat → Nat → Int) (v3 : Nat → Nat), lns_at δ4 v3 → lns_ok S.1.1 v3 → (∀ c j, c ≠ 130 → δ4 c j = δ1 c j) → su 8 (fun x => cn 15 (fun a => ¬ (v3 x).testBit a = true)) < su 8 (fun x => cn 15 (fun a => ¬ (tv x).testBit a = true)) → Go E (d + 3) (0, 0) mx_X12_lengths go_φ 57 [(0, vv_A 94), (1, vv_I (m : Int)), (2, vv_I 1), (3, vv_I ((r + 1 : Nat) : Int))] [] δ4 Q := fun δ4 v3 a b c e => ih2 (δ4, v3, 1) ⟨a, b, c, Or.inr ⟨rfl, e⟩⟩
          have same : ∀ δ4, lns_at δ4 v2 → (∀ c j, c ≠ 130 → δ4 c j = δ1 c j) → (∀ x q n, S.1.1 r = x :: q → q ≠ [] → n < 15 → ln (tbs v2) q n → tbs v2 x n) → Go E (d + 3) (0, 0) mx_X12_lengths go_φ 57 [(0, vv_A 94), (1, vv_I (m : Int)), (2, vv_I (f : Int)), (3, vv_I ((r + 1 : Nat) : Int))] [] δ4 Q := fun δ4 a b hno =>
            ih2 (δ4, v2, f) ⟨a, i2, b, i4.imp (fun ⟨a1, a2, a3⟩ => ⟨a1, a2, fun r' x q n hr' e hq hn hl => by
              by_cases z : r' = r
              · subst z
                rw [a2] at hno
                exact hno x q n e hq hn hl
              · exact a3 r' x q n (by omega) e hq hn hl⟩) id⟩
          refine go_iload_n (i := 3) dx_X12_lengths_57 rfl rfl ?_
          refine go_bipush dx_X12_lengths_58 rfl ?_
          refine go_icmp_ge (tgt := 134) dx_X12_lengths_60 rfl (by omega) (by omega) (fun c60 => by exact absurd c60 (by omega)) (fun c60 => ?_)
          refine go_aload_n (i := 0) dx_X12_lengths_63 rfl rfl ?_
          refine go_iload_n (i := 3) dx_X12_lengths_64 rfl rfl ?_
          refine go_cV1 sv_X12_148 (go_ok rfl rfl) dx_X12_lengths_65 (Nat.le_of_ble_eq_true rfl) (Nat.le_of_ble_eq_true rfl) (o_longOf hb2 hr ?_)
          refine go_if_ne (tgt := 74) dx_X12_lengths_68 rfl (by omega) (fun c68 => ?_) (fun c68 => ?_)
          · obtain ⟨x, y, q, hl, hx, hy, hq⟩ := rl_split hR (r := r) (fun z => by rw [z] at c68; simp at c68)
            have hlen2 : (S.1.1 r).length = q.length + 2 := by rw [hl]; rfl
            have hdr : (S.1.1 r).drop 1 = y :: q := by rw [hl]; rfl
            have hz : ∀ z ∈ y :: q, z < 14 := fun z hm => by
              rcases hok with g | ⟨_, _, _, g⟩
              · rw [hl] at g; cases g
              · exact g z (by rw [hl]; exact List.mem_cons_of_mem _ hm)
            obtain ⟨N, hN⟩ : ∃ N, N = v2 x ||| mk 15 (ln (tbs v2) (y :: q)) := ⟨_, rfl⟩
            have hN15 : N < 2 ^ 15 := by rw [hN]; exact Nat.or_lt_two_pow (i2.1 x (by omega)) (mk_lt 15 _)
            have hx31 : v2 x < 2147483648 := Nat.lt_of_lt_of_le (i2.1 x (by omega)) (by decide)
            have hok2 := lns_up hR i2 hr hl (List.cons_ne_nil _ _) hx hz
            rw [← hN] at hok2
            have hat : lns_at (wr δ3 130 x (N : Int)) (fun z => if z = x then N else v2 z) := fun z hz2 => by
              show wr δ3 130 x _ 130 z = ((if z = x then N else v2 z : Nat) : Int)
              by_cases e : z = x
              · rw [if_pos e, e, wr_eq]
              · rw [if_neg e, wr_n (by omega)]; exact i1 z hz2
            have hfr : ∀ c j, c ≠ 130 → wr δ3 130 x (N : Int) c j = δ1 c j := fun c j hc => by rw [wr_n (by omega)]; exact i3 c j hc
            have grow : ¬ N = v2 x → Go E (d + 3) (0, 0) mx_X12_lengths go_φ 57 [(0, vv_A 94), (1, vv_I (m : Int)), (2, vv_I 1), (3, vv_I ((r + 1 : Nat) : Int))] [] (wr δ3 130 x (N : Int)) Q := fun hne => by
              refine more _ _ hat hok2 hfr ?_
              have hsub : ∀ a, (v2 x).testBit a = true → N.testBit a = true := fun a g => by rw [hN, bt_orb]; exact Or.inl g
              have h1 : su 8 (fun z => cn 15 (fun a => ¬ ((fun z => if z = x then N else v2 z) z).testBit a = true)) < su 8 (fun z => cn 15 (fun a => ¬ (v2 z).testBit a = true)) := by
                refine su_lt (k := x) hx (fun z hz => ?_) ?_
                · dsimp only
                  by_cases e : z = x
                  · rw [if_pos e, e]; exact Nat.le_of_lt (bs_lt hsub hne hN15)
                  · rw [if_neg e]; exact Nat.le_refl _
                · dsimp only
                  rw [if_pos rfl]
                  exact bs_lt hsub hne hN15
              rcases i4 with ⟨_, b, _⟩ | ⟨_, b⟩
              · rw [b] at h1
                rw [b]
                exact h1
              · exact Nat.lt_trans h1 b
            have keepv : N = v2 x → Go E (d + 3) (0, 0) mx_X12_lengths go_φ 57 [(0, vv_A 94), (1, vv_I (m : Int)), (2, vv_I (f : Int)), (3, vv_I ((r + 1 : Nat) : Int))] [] (wr δ3 130 x (N : Int)) Q := fun he => by
              refine same _ (fun z hz2 => ?_) hfr (fun x' q' n e hq' hn hln => ?_)
              · have := hat z hz2
                rw [this]
                dsimp only
                by_cases e : z = x
                · rw [if_pos e, he, e]
                · rw [if_neg e]
              · rw [hl] at e
                injection e with e1 e2
                subst e1 e2
                exact ⟨by omega, by rw [← he, hN, bt_orb, mk_bit]; exact Or.inr ⟨hn, hln⟩⟩
            refine go_aload_n (i := 0) dx_X12_lengths_74 rfl rfl ?_
            refine go_getA (b := 130) fs_X12_121 rfl (go_ok rfl rfl) rfl dx_X12_lengths_75 ?_
            refine go_aload_n (i := 0) dx_X12_lengths_78 rfl rfl ?_
            refine go_iload_n (i := 3) dx_X12_lengths_79 rfl rfl ?_
            refine go_cV1 sv_X12_184 (go_ok rfl rfl) dx_X12_lengths_80 (Nat.le_of_ble_eq_true rfl) (Nat.le_of_ble_eq_true rfl) (o_symbolOf hb2 hr (by omega) ?_)
            refine go_asI (y := (x : Int)) (by rw [hl]; rfl) ?_
            refine go_ialoadV (i := x) (v := ((v2 x : Int))) dx_X12_lengths_83 (go_ok rfl rfl) (by omega) (show x < 14 by omega) (by exact i1 x (by omega)) ?_
            refine go_istore (lv' := [(0, vv_A 94), (1, vv_I (m : Int)), (2, vv_I (f : Int)), (3, vv_I (r : Int)), (4, vv_I ((v2 x : Int)))]) dx_X12_lengths_84 (by decide) rfl ?_
            refine go_aload_n (i := 0) dx_X12_lengths_86 rfl rfl ?_
            refine go_getA (b := 130) fs_X12_121 rfl (go_ok rfl rfl) rfl dx_X12_lengths_87 ?_
            refine go_aload_n (i := 0) dx_X12_lengths_90 rfl rfl ?_
            refine go_iload_n (i := 3) dx_X12_lengths_91 rfl rfl ?_
            refine go_cV1 sv_X12_184 (go_ok rfl rfl) dx_X12_lengths_92 (Nat.le_of_ble_eq_true rfl) (Nat.le_of_ble_eq_true rfl) (o_symbolOf hb2 hr (by omega) ?_)
            refine go_asI (y := (x : Int)) (by rw [hl]; rfl) ?_
            refine go_dup2 dx_X12_lengths_95 rfl rfl ?_
            refine go_ialoadV (i := x) (v := ((v2 x : Int))) dx_X12_lengths_96 (go_ok rfl rfl) (by omega) (show x < 14 by omega) (by exact i1 x (by omega)) ?_
            refine go_aload_n (i := 0) dx_X12_lengths_97 rfl rfl ?_
            refine go_iload_n (i := 3) dx_X12_lengths_98 rfl rfl ?_
            refine go_iconst dx_X12_lengths_99 ?_
            refine go_asI (y := ((0 : Nat) : Int)) (by rfl) ?_
            refine go_cV2 sv_X12_411 (go_ok rfl rfl) dx_X12_lengths_100 (Nat.le_of_ble_eq_true rfl) (Nat.le_of_ble_eq_true rfl) (m_lengthsFrom hb2 i1 i2.1 hr (by omega) ?_)
            refine go_asI (y := (mk 15 (ln (tbs v2) (y :: q)) : Int)) (by rw [Nat.zero_add, hdr]) ?_
            refine go_ior dx_X12_lengths_103 ?_
            refine go_asI (y := (N : Int)) (by rw [hN]; exact bv_orN hx31 (mk_31 15 _ (by decide))) ?_
            refine go_iastoreV (i := x) dx_X12_lengths_104 (go_ok rfl rfl) (by omega) (show x < 14 by omega) ?_
            refine go_iload_n (i := 2) dx_X12_lengths_105 rfl rfl ?_
            refine go_aload_n (i := 0) dx_X12_lengths_106 rfl rfl ?_
            refine go_getA (b := 130) fs_X12_121 rfl (go_ok rfl rfl) rfl dx_X12_lengths_107 ?_
            refine go_aload_n (i := 0) dx_X12_lengths_110 rfl rfl ?_
            refine go_iload_n (i := 3) dx_X12_lengths_111 rfl rfl ?_
            refine go_cV1 sv_X12_184 (go_ok rfl rfl) dx_X12_lengths_112 (Nat.le_of_ble_eq_true rfl) (Nat.le_of_ble_eq_true rfl) (o_symbolOf (bo_fr hb2 (fun j _ => wr_n (by omega))) hr (by omega) ?_)
            refine go_asI (y := (x : Int)) (by rw [hl]; rfl) ?_
            refine go_ialoadV (i := x) (v := ((N : Int))) dx_X12_lengths_115 (go_ok rfl rfl) (by omega) (show x < 14 by omega) (by exact wr_eq ..) ?_
            refine go_iload dx_X12_lengths_116 rfl ?_
            refine go_icmp_eq (tgt := 125) dx_X12_lengths_118 rfl (by omega) (by omega) (fun c118 => ?_) (fun c118 => ?_)
            · refine go_iconst dx_X12_lengths_125 ?_
              refine go_ior dx_X12_lengths_126 ?_
              refine go_nmI (fun g eg => ?_)
              refine go_istore_n (i := 2) (lv' := [(0, vv_A 94), (1, vv_I (m : Int)), (2, vv_I g), (3, vv_I (r : Int)), (4, vv_I ((v2 x : Int)))]) dx_X12_lengths_127 rfl (by decide) rfl ?_
              refine go_iinc (lv' := [(0, vv_A 94), (1, vv_I (m : Int)), (2, vv_I g), (3, vv_I ((r : Int) + 1)), (4, vv_I ((v2 x : Int)))]) dx_X12_lengths_128 rfl (by decide) rfl ?_
              refine go_goto (tgt := 57) dx_X12_lengths_131 rfl ?_
              refine go_keep [0, 1, 2, 3] rfl ?_
              first
              | (have e : g = (f : Int) := by (rw [eg]; rcases hf01 with z | z <;> rw [z] <;> rfl)
                 rw [e]
                 exact keepv (by omega))
              | (have e : g = 1 := by (rw [eg]; rcases hf01 with z | z <;> rw [z] <;> rfl)
                 rw [e]
                 exact grow (by omega))
            · refine go_iconst dx_X12_lengths_121 ?_
              refine go_goto (tgt := 126) dx_X12_lengths_122 rfl ?_
              refine go_ior dx_X12_lengths_126 ?_
              refine go_nmI (fun g eg => ?_)
              refine go_istore_n (i := 2) (lv' := [(0, vv_A 94), (1, vv_I (m : Int)), (2, vv_I g), (3, vv_I (r : Int)), (4, vv_I ((v2 x : Int)))]) dx_X12_lengths_127 rfl (by decide) rfl ?_
              refine go_iinc (lv' := [(0, vv_A 94), (1, vv_I (m : Int)), (2, vv_I g), (3, vv_I ((r : Int) + 1)), (4, vv_I ((v2 x : Int)))]) dx_X12_lengths_128 rfl (by decide) rfl ?_
              refine go_goto (tgt := 57) dx_X12_lengths_131 rfl ?_
              refine go_keep [0, 1, 2, 3] rfl ?_
              first
              | (have e : g = (f : Int) := by (rw [eg]; rcases hf01 with z | z <;> rw [z] <;> rfl)
                 rw [e]
                 exact keepv (by omega))
              | (have e : g = 1 := by (rw [eg]; rcases hf01 with z | z <;> rw [z] <;> rfl)
                 rw [e]
                 exact grow (by omega))
          · refine go_goto (tgt := 128) dx_X12_lengths_71 rfl ?_
            refine go_iinc (lv' := [(0, vv_A 94), (1, vv_I (m : Int)), (2, vv_I (f : Int)), (3, vv_I ((r : Int) + 1))]) dx_X12_lengths_128 rfl (by decide) rfl ?_
            refine go_goto (tgt := 57) dx_X12_lengths_131 rfl ?_
            exact same δ3 i1 i3 (fun x q n e hq _ _ => by
            rw [e] at c68
            cases q with
            | nil => exact absurd rfl hq
            | cons y q => simp at c68; omega)
        · obtain ⟨δ3, v2, f⟩ := X
          obtain ⟨i1, i2, i3, i4⟩ := hI
          dsimp only at i1 i2 i3 i4 ⊢
          refine go_iload_n (i := 3) dx_X12_lengths_57 rfl rfl ?_
          refine go_bipush dx_X12_lengths_58 rfl ?_
          refine go_icmp_ge (tgt := 134) dx_X12_lengths_60 rfl (by omega) (by omega) (fun c60 => ?_) (fun c60 => by exact absurd c60 (by omega))
          refine go_goto (tgt := 49) dx_X12_lengths_134 rfl ?_
          refine go_keep [0, 1, 2] rfl ?_
          rcases i4 with ⟨a, b, c⟩ | ⟨a, b⟩
          · subst a b
            exact ih (δ3, v2, 0) ⟨i1, i2, i3, Or.inl rfl, fun _ => c⟩ (Nat.lt_succ_self _)
          · subst a
            refine ih (δ3, v2, 1) ⟨i1, i2, i3, Or.inr rfl, fun q => absurd (show (1 : Nat) = 0 from q) (by decide)⟩ ?_
            dsimp only
            omega
  · refine go_bipush dx_X12_lengths_13 rfl ?_
    refine go_ireturn dx_X12_lengths_15 rfl (Nat.le_refl _) (Nat.le_refl _) ?_
    obtain ⟨a, b⟩ := hsc (δ' := δ1) (fun c j hc => f1 c j (by unfold mqP; unfold sc at hc; omega)) (ml_fr hlaid (fun c j hc => f1 c j (by unfold mqP; omega)))
    have hQ := hQ δ1 a b
    rw [cif_f c10] at hQ
    exact hQ
end GLEN2
