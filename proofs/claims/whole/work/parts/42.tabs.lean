/-! the class's tables: code shared by all kinds -/
def tb_ok (kd o c : Nat) (al : Bool) : Prop := (go_kd o = kd ∧ o < go_φ.1) ∧ (go_kd (o + 1) = 21 ∧ o + 1 < go_φ.1) ∧ (go_kd (o + 2) = 21 ∧ o + 2 < go_φ.1) ∧ go_ln (o + 1) = (if al = true then 14 else 105) * 62 ∧ go_ln (o + 2) = 62 ∧ go_rf o 0 = 33 + 1 ∧ go_rf o 1 = c + 1 ∧ go_rf o 4 = o + 1 + 1 ∧ go_rf o 5 = o + 2 + 1 ∧ 44 < o ∧ (c + 4 < o)
theorem tb_k0 {kd o c : Nat} {al : Bool} (h : tb_ok kd o c al) : go_kd o = kd ∧ o < go_φ.1 := h.1
theorem tb_k1 {kd o c : Nat} {al : Bool} (h : tb_ok kd o c al) : go_kd (o + 1) = 21 ∧ o + 1 < go_φ.1 := h.2.1
theorem tb_k2 {kd o c : Nat} {al : Bool} (h : tb_ok kd o c al) : go_kd (o + 2) = 21 ∧ o + 2 < go_φ.1 := h.2.2.1
theorem tb_l1 {kd o c : Nat} {al : Bool} (h : tb_ok kd o c al) : go_ln (o + 1) = (if al = true then 14 else 105) * 62 := h.2.2.2.1
theorem tb_l2 {kd o c : Nat} {al : Bool} (h : tb_ok kd o c al) : go_ln (o + 2) = 62 := h.2.2.2.2.1
theorem tb_r0 {kd o c : Nat} {al : Bool} (h : tb_ok kd o c al) : go_rf o 0 = 33 + 1 := h.2.2.2.2.2.1
theorem tb_r1 {kd o c : Nat} {al : Bool} (h : tb_ok kd o c al) : go_rf o 1 = c + 1 := h.2.2.2.2.2.2.1
theorem tb_r4 {kd o c : Nat} {al : Bool} (h : tb_ok kd o c al) : go_rf o 4 = o + 1 + 1 := h.2.2.2.2.2.2.2.1
theorem tb_r5 {kd o c : Nat} {al : Bool} (h : tb_ok kd o c al) : go_rf o 5 = o + 2 + 1 := h.2.2.2.2.2.2.2.2.1
theorem tb_o {kd o c : Nat} {al : Bool} (h : tb_ok kd o c al) : 44 < o ∧ c + 4 < o := h.2.2.2.2.2.2.2.2.2
theorem tb_ok49 : tb_ok 6 49 44 false := by unfold tb_ok; decide +kernel
theorem tb_ok52 : tb_ok 2 52 44 false := by unfold tb_ok; decide +kernel
theorem tb_ok67 : tb_ok 2 67 62 true := by unfold tb_ok; decide +kernel
theorem tb_ok71 : tb_ok 4 71 62 false := by unfold tb_ok; decide +kernel
theorem slt_lt2 {al : Bool} {i j : Nat} (hi : i < j) (hj : j ≤ 14) : slt al i j < (if al = true then 14 else 105) := by
  unfold slt
  cases al with
  | true => rw [if_pos rfl, if_pos rfl]; omega
  | false => rw [if_neg Bool.false_ne_true, if_neg Bool.false_ne_true]; exact tri_lt hi hj
theorem tb_idx {kd o c : Nat} {al : Bool} (h : tb_ok kd o c al) {i j x : Nat} (hi : i < j) (hj : j ≤ 14) (hx : x < 62) : slt al i j * 62 + x < go_ln (o + 1) := by
  have := slt_lt2 (al := al) hi hj
  rw [tb_l1 h]
  cases al with
  | true => rw [if_pos rfl] at this ⊢; omega
  | false => rw [if_neg Bool.false_ne_true] at this ⊢; omega
def tf_ok (o : Nat) (al : Bool) : Prop := (go_kd (o + 3) = 21 ∧ o + 3 < go_φ.1) ∧ go_ln (o + 3) = (if al = true then 14 else 105) * 8 ∧ go_rf o 7 = o + 3 + 1
theorem tf_k3 {o : Nat} {al : Bool} (h : tf_ok o al) : go_kd (o + 3) = 21 ∧ o + 3 < go_φ.1 := h.1
theorem tf_l3 {o : Nat} {al : Bool} (h : tf_ok o al) : go_ln (o + 3) = (if al = true then 14 else 105) * 8 := h.2.1
theorem tf_r7 {o : Nat} {al : Bool} (h : tf_ok o al) : go_rf o 7 = o + 3 + 1 := h.2.2
theorem tf_ok52 : tf_ok 52 false := by unfold tf_ok; decide +kernel
theorem tf_ok67 : tf_ok 67 true := by unfold tf_ok; decide +kernel
theorem tn_r71 : go_rf 71 7 = 3 + 1 := by decide +kernel
def fup (f : Nat → Int) (x : Nat) (v : Int) : Nat → Int := fun y => if y = x then v else f y
theorem fup_eq {f : Nat → Int} {x : Nat} {v : Int} : fup f x v x = v := if_pos rfl
theorem fup_ne {f : Nat → Int} {x y : Nat} {v : Int} (h : y ≠ x) : fup f x v y = f y := if_neg h
noncomputable def tlf (P : Nat → Prop) (g f : Nat → Int) (l x : Nat) : Int := @ite Int (8 ≤ x ∧ x < l ∧ P x) (Classical.propDecidable _) (g x) (f x)
theorem tlf_8 {P : Nat → Prop} {g f : Nat → Int} {x : Nat} : tlf P g f 8 x = f x := by unfold tlf; exact if_neg (by omega)
theorem tlf_l {P : Nat → Prop} {g f : Nat → Int} {x : Nat} : tlf P g f x x = f x := by unfold tlf; exact if_neg (by omega)
theorem tlf_t {P : Nat → Prop} {g f : Nat → Int} {l : Nat} (h : 8 ≤ l) (hP : P l) : tlf P g f (l + 1) l = g l := by unfold tlf; exact if_pos ⟨h, by omega, hP⟩
theorem tlf_f {P : Nat → Prop} {g f : Nat → Int} {l : Nat} (hP : ¬ P l) : tlf P g f (l + 1) l = f l := by unfold tlf; exact if_neg (fun q => hP q.2.2)
theorem tlf_s {P : Nat → Prop} {g f : Nat → Int} {l x : Nat} (h : x ≠ l) : tlf P g f (l + 1) x = tlf P g f l x := by
  unfold tlf
  by_cases q : 8 ≤ x ∧ x < l ∧ P x
  · rw [if_pos q, if_pos ⟨q.1, by omega, q.2.2⟩]
  · rw [if_neg q, if_neg (fun z => q ⟨z.1, by omega, z.2.2⟩)]
/-- what the table's row of fresh values holds -/
def tfr (δ : Nat → Nat → Int) (o ns : Nat) (f : Nat → Int) : Prop := ∀ x, x < ns → δ (o + 2) x = f x
theorem tfr_put {δ : Nat → Nat → Int} {o ns x : Nat} {f : Nat → Int} {v : Int} (h : tfr δ o ns f) : tfr (wr δ (o + 2) x v) o ns (fup f x v) := fun y hy => by
  by_cases e : y = x
  · subst e; rw [wr_eq, fup_eq]
  · rw [wr_i _ _ _ _ e, fup_ne e]; exact h y hy
