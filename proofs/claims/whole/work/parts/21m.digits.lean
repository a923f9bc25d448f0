/-! digits -/
def dg (b : Nat) : List Nat → Nat
  | [] => 0
  | x :: t => x + b * dg b t
theorem dg_lt {b : Nat} (hb : 0 < b) {l : List Nat} (h : ∀ x ∈ l, x < b) : dg b l < b ^ l.length := by
  induction l with
  | nil => simp [dg]
  | cons x t ih =>
    have h1 := ih (fun y hy => h y (List.mem_cons_of_mem _ hy))
    have h2 := h x List.mem_cons_self
    have h3 : b * dg b t + b ≤ b * b ^ t.length := by
      have := Nat.mul_le_mul_left b (Nat.succ_le_of_lt h1)
      rw [Nat.mul_succ] at this
      exact this
    rw [List.length_cons, Nat.pow_succ, Nat.mul_comm (b ^ t.length)]
    show x + b * dg b t < _
    omega
theorem dg_snoc (b : Nat) (l : List Nat) (x : Nat) : dg b (l ++ [x]) = dg b l + x * b ^ l.length := by
  induction l with
  | nil => simp [dg]
  | cons y t ih =>
    show y + b * dg b (t ++ [x]) = y + b * dg b t + x * b ^ (t.length + 1)
    rw [ih, Nat.mul_add, Nat.pow_succ, ← Nat.add_assoc]
    congr 1
    rw [Nat.mul_comm b, Nat.mul_assoc]
theorem dg_get {b : Nat} (hb : 0 < b) {l : List Nat} (h : ∀ x ∈ l, x < b) : ∀ i, dg b l / b ^ i % b = l.getD i 0 := by
  induction l with
  | nil => intro i; simp [dg]
  | cons x t ih =>
    intro i
    have h1 := ih (fun y hy => h y (List.mem_cons_of_mem _ hy))
    have h2 := h x List.mem_cons_self
    cases i with
    | zero =>
      show (x + b * dg b t) / b ^ 0 % b = x
      rw [Nat.pow_zero, Nat.div_one, Nat.add_mul_mod_self_left, Nat.mod_eq_of_lt h2]
    | succ i =>
      show (x + b * dg b t) / b ^ (i + 1) % b = t.getD i 0
      rw [Nat.pow_succ, Nat.mul_comm (b ^ i), ← Nat.div_div_eq_div_mul, Nat.add_mul_div_left _ _ hb, Nat.div_eq_of_lt h2, Nat.zero_add, h1]
theorem dg_inj {b : Nat} (hb : 0 < b) : ∀ {l m : List Nat}, (∀ x ∈ l, x < b) → (∀ x ∈ m, x < b) → l.length = m.length → dg b l = dg b m → l = m := by
  intro l m h1 h2 h3 h4
  apply List.ext_getElem h3
  intro i hi hj
  have e1 := dg_get hb h1 i
  have e2 := dg_get hb h2 i
  rw [h4, e2] at e1
  simp [List.getD_eq_getElem?_getD, hi, hj] at e1
  exact e1.symm
/-- bits side by side -/
theorem bt_or_add {a b i : Nat} (h : b < 2 ^ i) : b ||| a * 2 ^ i = b + a * 2 ^ i := by
  have := Nat.two_pow_add_eq_or_of_lt h a
  rw [Nat.mul_comm] at this
  rw [Nat.or_comm, ← this, Nat.add_comm]
/-- a rule's code: how many parts, the symbol, the parts -/
def rl_enc (l : List Nat) : Nat := if l = [] then 0 else (l.length - 1) + 8 * dg 16 l
theorem rl_enc_0 : rl_enc [] = 0 := rfl
/-- a rule, or none -/
def rl_ok (l : List Nat) : Prop := l = [] ∨ (2 ≤ l.length ∧ l.length ≤ 6 ∧ l.getD 0 0 < 8 ∧ ∀ x ∈ l, x < 14)
theorem rl_ok.lt {l : List Nat} (h : rl_ok l) : ∀ x ∈ l, x < 16 := by
  rcases h with rfl | ⟨-, -, -, h⟩
  · intro x hx; cases hx
  · intro x hx; have := h x hx; omega
theorem rl_ok.len {l : List Nat} (h : rl_ok l) : l.length ≤ 6 := by
  rcases h with rfl | ⟨-, h, -⟩
  · exact Nat.zero_le _
  · exact h
theorem rl_enc_ne {l : List Nat} (h : rl_ok l) : rl_enc l = 0 ↔ l = [] := by
  refine ⟨fun e => ?_, fun e => by rw [e]; rfl⟩
  rcases h with rfl | ⟨h1, -⟩
  · rfl
  · unfold rl_enc at e
    rw [if_neg (by intro q; rw [q] at h1; simp at h1)] at e
    omega
theorem rl_enc_lt {l : List Nat} (h : rl_ok l) : rl_enc l < 134217728 := by
  have h1 := dg_lt (b := 16) (by decide) h.lt
  have h2 := h.len
  unfold rl_enc
  split
  · decide
  · have h3 : (16 : Nat) ^ l.length ≤ 16 ^ 6 := Nat.pow_le_pow_right (by decide) h2
    have : (16 : Nat) ^ 6 = 16777216 := by decide
    omega
theorem rl_size {l : List Nat} (h : rl_ok l) : rl_enc l % 8 = l.length - 1 := by
  have h2 := h.len
  unfold rl_enc
  split
  next e => rw [e]; rfl
  next => omega
theorem rl_digit {l : List Nat} (h : rl_ok l) (i : Nat) : rl_enc l / 2 ^ (3 + 4 * i) % 16 = l.getD i 0 := by
  unfold rl_enc
  split
  next e => rw [e]; simp
  next e =>
    have h2 := h.len
    rw [Nat.pow_add, ← Nat.div_div_eq_div_mul, show (2 : Nat) ^ 3 = 8 from rfl, show (l.length - 1 + 8 * dg 16 l) / 8 = dg 16 l by omega, Nat.pow_mul, show (2 : Nat) ^ 4 = 16 from rfl]
    exact dg_get (by decide) h.lt i
theorem rl_inj {l m : List Nat} (h1 : rl_ok l) (h2 : rl_ok m) (h : rl_enc l = rl_enc m) : l = m := by
  by_cases hl : l = []
  · rw [hl, rl_enc_0] at h
    rw [hl, (rl_enc_ne h2).mp h.symm]
  · have hm : m ≠ [] := fun q => hl ((rl_enc_ne h1).mp (by rw [h, q]; rfl))
    have e1 := rl_size h1
    have e2 := rl_size h2
    rw [h, e2] at e1
    have k1 : l.length ≠ 0 := fun q => hl (List.length_eq_zero_iff.mp q)
    have k2 : m.length ≠ 0 := fun q => hm (List.length_eq_zero_iff.mp q)
    have e3 : l.length = m.length := by omega
    refine dg_inj (by decide) h1.lt h2.lt e3 ?_
    unfold rl_enc at h
    rw [if_neg hl, if_neg hm] at h
    omega
/-- what byte stands for which symbol -/
def sy (c : Nat) : Int := if 65 ≤ c ∧ c ≤ 72 then (c : Int) - 65 else if 97 ≤ c ∧ c ≤ 102 then (c : Int) - 97 + 8 else -1
theorem sy_range (c : Nat) : -1 ≤ sy c ∧ sy c ≤ 13 := by
  unfold sy
  split
  · omega
  · split <;> omega
def rl_flt : Nat → List Nat → Option (Int × Int)
  | _, [] => none
  | i, c :: t => if 5 < i then some (3, (i : Int)) else if sy c = -1 ∨ (i = 0 ∧ 8 ≤ sy c) then some (1, (i : Int)) else rl_flt (i + 1) t
/-- the fault of bytes as a rule -/
def rl_fault (bs : List Nat) : Int × Int := match rl_flt 0 bs with
  | some f => f
  | none => if bs.length < 2 then (2, (bs.length : Int)) else (0, -1)
def rl_of (bs : List Nat) : List Nat := bs.map (fun c => (sy c).toNat)
theorem rl_of_get {l : List Nat} {i : Nat} (h : i < l.length) : (rl_of l)[i]? = some (sy l[i]).toNat := by
  unfold rl_of
  rw [List.getElem?_map, List.getElem?_eq_getElem h]
  rfl
def wd_flt : Nat → List Nat → Option (Int × Int)
  | _, [] => none
  | i, c :: t => if 14 ≤ i then some (3, (i : Int)) else if sy c < 8 then some (1, (i : Int)) else wd_flt (i + 1) t
def wd_fault (bs : List Nat) : Int × Int := (wd_flt 0 bs).getD (0, -1)
theorem rl_flt_some {bs : List Nat} {f : Int × Int} : ∀ {i : Nat}, rl_flt i bs = some f → f.1 = 3 ∨ f.1 = 1 := by
  induction bs with
  | nil => intro i h; cases h
  | cons c t ih =>
    intro i h
    unfold rl_flt at h
    split at h
    · cases h; exact Or.inl rfl
    · split at h
      · cases h; exact Or.inr rfl
      · exact ih h
theorem wd_flt_some {bs : List Nat} {f : Int × Int} : ∀ {i : Nat}, wd_flt i bs = some f → f.1 = 3 ∨ f.1 = 1 := by
  induction bs with
  | nil => intro i h; cases h
  | cons c t ih =>
    intro i h
    unfold wd_flt at h
    split at h
    · cases h; exact Or.inl rfl
    · split at h
      · cases h; exact Or.inr rfl
      · exact ih h
/-- no fault: a rule -/
theorem rl_flt_none {bs : List Nat} : ∀ {i : Nat}, rl_flt i bs = none → (bs = [] ∨ i + bs.length ≤ 6) ∧ (∀ k (h : k < bs.length), 0 ≤ sy bs[k] ∧ (i + k = 0 → sy bs[k] < 8)) := by
  induction bs with
  | nil => intro i _; exact ⟨Or.inl rfl, fun k h => by simp at h⟩
  | cons c t ih =>
    intro i h
    unfold rl_flt at h
    split at h
    · cases h
    next h5 =>
      split at h
      · cases h
      next h6 =>
        obtain ⟨h1, h2⟩ := ih h
        rw [not_or] at h6
        have hc := sy_range c
        refine ⟨Or.inr ?_, fun k hk => ?_⟩
        · rw [List.length_cons]
          rcases h1 with rfl | h1
          · simp; omega
          · omega
        · cases k with
          | zero => exact ⟨by show 0 ≤ sy c; have := h6.1; omega, fun h0 => by show sy c < 8; have := h6.2; omega⟩
          | succ k =>
            have := h2 k (by simpa using hk)
            exact ⟨this.1, fun h0 => by omega⟩
theorem wd_flt_none {bs : List Nat} : ∀ {i : Nat}, wd_flt i bs = none → (bs = [] ∨ i + bs.length ≤ 14) ∧ (∀ k (h : k < bs.length), 8 ≤ sy bs[k]) := by
  induction bs with
  | nil => intro i _; exact ⟨Or.inl rfl, fun k h => by simp at h⟩
  | cons c t ih =>
    intro i h
    unfold wd_flt at h
    split at h
    · cases h
    next h5 =>
      split at h
      · cases h
      next h6 =>
        obtain ⟨h1, h2⟩ := ih h
        refine ⟨Or.inr ?_, fun k hk => ?_⟩
        · rw [List.length_cons]
          rcases h1 with rfl | h1
          · simp; omega
          · omega
        · cases k with
          | zero => show 8 ≤ sy c; omega
          | succ k => exact h2 k (by simpa using hk)
theorem rl_fault_ok {bs : List Nat} (h : (rl_fault bs).1 = 0) : rl_flt 0 bs = none ∧ 2 ≤ bs.length ∧ bs.length ≤ 6 ∧ rl_ok (rl_of bs) := by
  unfold rl_fault at h
  cases hf : rl_flt 0 bs with
  | some f => rw [hf] at h; rcases rl_flt_some hf with q | q <;> (rw [show f.1 = 0 from h] at q; cases q)
  | none =>
    rw [hf] at h
    by_cases h2 : bs.length < 2
    · simp [h2] at h
    · obtain ⟨h3, h4⟩ := rl_flt_none hf
      have h5 : bs.length ≤ 6 := by
        rcases h3 with rfl | h3
        · simp at h2
        · omega
      refine ⟨rfl, by omega, h5, Or.inr ⟨by unfold rl_of; rw [List.length_map]; omega, by unfold rl_of; rw [List.length_map]; omega, ?_, ?_⟩⟩
      · unfold rl_of
        have h0 : 0 < bs.length := by omega
        rw [List.getD_eq_getElem?_getD, List.getElem?_map, List.getElem?_eq_getElem h0]
        have := h4 0 h0
        show (sy bs[0]).toNat < 8
        have := this.2 rfl
        omega
      · intro x hx
        obtain ⟨c, -, rfl⟩ := List.mem_map.mp hx
        have := sy_range c
        omega
theorem rl_fault_none {bs : List Nat} (h : rl_flt 0 bs = none) (h2 : 2 ≤ bs.length) : rl_fault bs = (0, -1) := by
  unfold rl_fault
  rw [h]
  show (if bs.length < 2 then _ else _) = _
  rw [if_neg (by omega)]
