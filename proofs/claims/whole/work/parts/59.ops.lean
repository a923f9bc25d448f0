/-! what the calls that need tables answer, in words of the rules and the word alone -/
noncomputable def cif (P : Prop) (a b : Int) : Int := @ite Int P (Classical.propDecidable P) a b
theorem cif_t {P : Prop} {a b : Int} (h : P) : cif P a b = a := by unfold cif; rw [if_pos h]
theorem cif_f {P : Prop} {a b : Int} (h : ¬ P) : cif P a b = b := by unfold cif; rw [if_neg h]
theorem cif_c {P P' : Prop} {a b : Int} (h : P ↔ P') : cif P a b = cif P' a b := by
  by_cases q : P
  · rw [cif_t q, cif_t (h.mp q)]
  · rw [cif_f q, cif_f (fun w => q (h.mpr w))]
noncomputable def nsy (R : Nat → List Nat) : Nat := 14 + (gH R).length
theorem nsy_eq (R : Nat → List Nat) : nsy R = 14 + (gH R).length := rfl
theorem nsy_le {R : Nat → List Nat} (hR : ∀ r, rl_ok (R r)) : nsy R ≤ 62 := by have := gH_le hR; rw [nsy_eq]; omega
theorem nsy_ge (R : Nat → List Nat) : 14 ≤ nsy R := by rw [nsy_eq]; omega
def isy (K : sK) (x : Int) : Prop := 0 ≤ x ∧ x < (nsy K.1 : Int)
def isp (K : sK) (i j : Int) : Prop := 0 ≤ i ∧ i < j ∧ j ≤ (K.2.2.length : Int)
def ipl (K : sK) (i : Int) : Prop := 0 ≤ i ∧ i ≤ (K.2.2.length : Int)
def dK (K : sK) (x i j : Nat) : Prop := dp K.1 (plw K.2.2) x i j
noncomputable def oq_pairs (K : sK) : Int := ((gP K.1).length : Int)
def oq_pr (e : tP) (q : Int) : Int := if q = 0 then (e.1 : Int) else if q = 1 then (e.2.1 : Int) else if q = 2 then (e.2.2.1 : Int) else (e.2.2.2 : Int)
noncomputable def oq_pair (K : sK) (i q : Int) : Int := cif (0 ≤ i ∧ i < ((gP K.1).length : Int) ∧ 0 ≤ q ∧ q ≤ 3) (oq_pr ((gP K.1).getD i.toNat (0, 0, 0, 0)) q) (-2)
noncomputable def oq_back (K : sK) (x q : Int) : Int := cif (14 ≤ x ∧ x < (nsy K.1 : Int) ∧ 0 ≤ q ∧ q ≤ 1) (if q = 0 then (((gH K.1).getD (x.toNat - 14) (0, 0)).1 : Int) else (((gH K.1).getD (x.toNat - 14) (0, 0)).2 : Int)) (-2)
noncomputable def oq_units (K : sK) (x : Int) : Int := cif (0 ≤ x ∧ x < 8) (mk 14 (fun y => y = x.toNat ∨ ut K.1 x.toNat y) : Int) (-2)
noncomputable def oq_rounds (K : sK) : Int := (mk 8 (fun x => ut K.1 x x) : Int)
noncomputable def oq_least (K : sK) (x : Int) : Int := cif (isy K x) (ll K.1 x.toNat) (-2)
noncomputable def oq_reached (K : sK) (q : Int) : Int := if q = 0 then (mk 8 (rc K.1 K.2.1) : Int) else if q = 1 then (mk 8 (fun y => rc K.1 K.2.1 y ∧ frt K.1 y) : Int) else -2
noncomputable def oq_cell (K : sK) (i j : Int) : Int := cif (isp K i j) (mk 62 (fun x => dK K x i.toNat j.toNat) : Int) (-2)
noncomputable def oq_accepted (K : sK) : Int := b01 (dK K K.2.1 0 K.2.2.length)
noncomputable def oq_round (K : sK) (x i j : Int) : Int := cif (isy K x ∧ isp K i j) (rv K.1 x.toNat (sl K.2.2 i.toNat j.toNat)) (-2)
noncomputable def oq_last (K : sK) : Int := li (fun m => 0 < K.2.2.length ∧ ∀ x i j, i < j → j ≤ K.2.2.length → rv K.1 x (sl K.2.2 i j) ≤ (m : Int))
def pdp (K : sK) (x y i j : Nat) : Prop := ∃ k, i < k ∧ k < j ∧ dK K x i k ∧ dK K y k j
noncomputable def oq_product (K : sK) (x y i : Int) : Int := cif (isy K x ∧ isy K y ∧ ipl K i) (mk 15 (fun j => j ≤ K.2.2.length ∧ pdp K x.toNat y.toNat i.toNat j) : Int) (-2)
noncomputable def cutn (K : sK) (x y i j m : Nat) : Nat := cn m (fun k => i < k ∧ dK K x i k ∧ dK K y k j)
noncomputable def oq_cuts (K : sK) (x y i j : Int) : Int := cif (isy K x ∧ isy K y ∧ isp K i j) (cutn K x.toNat y.toNat i.toNat j.toNat j.toNat : Int) (-2)
noncomputable def oq_row (K : sK) (x i : Int) : Int := cif (isy K x ∧ ipl K i) (mk 15 (fun j => j ≤ K.2.2.length ∧ dK K x.toNat i.toNat j) : Int) (-2)
/-- the greatest below a bound, or 0 -/
noncomputable def hib (P : Nat → Prop) : Nat → Nat
  | 0 => 0
  | n + 1 => @ite Nat (P n) (Classical.propDecidable _) n (hib P n)
theorem hib_t {P : Nat → Prop} {n : Nat} (h : P n) : hib P (n + 1) = n := if_pos h
theorem hib_f {P : Nat → Prop} {n : Nat} (h : ¬ P n) : hib P (n + 1) = hib P n := if_neg h
theorem hib_lt (P : Nat → Prop) (n : Nat) : hib P n < n ∨ hib P n = 0 := by
  induction n with
  | zero => exact Or.inr rfl
  | succ n ih =>
    by_cases h : P n
    · rw [hib_t h]; exact Or.inl (Nat.lt_succ_self _)
    · rw [hib_f h]; omega
theorem hib_0 {P : Nat → Prop} {n : Nat} (h : ∀ k, k < n → ¬ P k) : hib P n = 0 := by
  induction n with
  | zero => rfl
  | succ n ih => rw [hib_f (h n (Nat.lt_succ_self _))]; exact ih (fun k hk => h k (by omega))
theorem hib_eq {P : Nat → Prop} {n m : Nat} (hm : m < n) (h : P m) (h2 : ∀ k, m < k → k < n → ¬ P k) : hib P n = m := by
  induction n with
  | zero => exact absurd hm (Nat.not_lt_zero _)
  | succ n ih =>
    by_cases e : m = n
    · subst e; exact hib_t h
    · rw [hib_f (h2 n (by omega) (Nat.lt_succ_self _))]; exact ih (by omega) (fun k a b => h2 k a (by omega))
def spu (s : Nat × Int) (i f : Nat) : Nat × Int := if s.1 < f - i then (f - i, (i : Int)) else s
noncomputable def spf (K : sK) (x : Nat) : Nat → Nat × Int
  | 0 => (0, -1)
  | i + 1 => spu (spf K x i) i (hib (fun j => dK K x i j) (K.2.2.length + 1))
theorem spf_s (K : sK) (x i : Nat) : spf K x (i + 1) = spu (spf K x i) i (hib (fun j => dK K x i j) (K.2.2.length + 1)) := rfl
theorem spf_rng (K : sK) (x i : Nat) (hi : i ≤ K.2.2.length) : (spf K x i).1 ≤ K.2.2.length ∧ -1 ≤ (spf K x i).2 ∧ (spf K x i).2 ≤ K.2.2.length := by
  induction i with
  | zero => exact ⟨Nat.zero_le _, by show (-1 : Int) ≤ -1; omega, by show (-1 : Int) ≤ _; omega⟩
  | succ i ih =>
    have := ih (by omega)
    have h := hib_lt (fun j => dK K x i j) (K.2.2.length + 1)
    rw [spf_s]
    unfold spu
    split
    · exact ⟨by dsimp only; omega, by dsimp only; omega, by dsimp only; omega⟩
    · exact this
noncomputable def oq_spans (K : sK) (x q : Int) : Int := cif (isy K x ∧ 0 ≤ q ∧ q ≤ 2) (if q = 0 then (su K.2.2.length (fun i => cn (K.2.2.length + 1) (fun j => dK K x.toNat i j)) : Int) else if q = 1 then ((spf K x.toNat K.2.2.length).1 : Int) else (spf K x.toNat K.2.2.length).2) (-2)
noncomputable def tK (K : sK) (x i j : Nat) : Nat := Tn K.1 (plw K.2.2) x i j
noncomputable def oq_trees (K : sK) (x i j : Int) : Int := cif ((0 ≤ x ∧ x < 8) ∧ isp K i j) (st (tK K x.toNat i.toNat j.toNat)) (-2)
def dbk (K : sK) (k : Nat) : Prop := ∃ s i x, k = (s * 16 + i) * 8 + x ∧ 1 ≤ s ∧ i + s ≤ K.2.2.length ∧ x < 8 ∧ 2 ≤ tK K x i (i + s)
def dbo (K : sK) : Prop := ∃ s i x, 1 ≤ s ∧ i + s ≤ K.2.2.length ∧ x < 8 ∧ ¬ tK K x i (i + s) ≤ MX
def dbv (k q : Int) : Int := if k = -1 then -1 else if q = 0 then k % 8 else if q = 1 then k / 8 % 16 else k / 8 % 16 + k / 128
noncomputable def oq_doubtful (K : sK) (q : Int) : Int := if ¬ (0 ≤ q ∧ q ≤ 2) then -2 else cif (dbo K) (-7) (dbv (li (dbk K)) q)
def acK (K : sK) : Prop := dK K K.2.1 0 K.2.2.length
noncomputable def nds (K : sK) (m : Nat) : List tN := ltr2 K m
noncomputable def oq_nodes (K : sK) : Int := cif (acK K) ((nds K 0).length : Int) 0
noncomputable def oq_nd (K : sK) (m : Nat) (k q : Int) : Int := cif (0 ≤ k ∧ k < ((nds K m).length : Int) ∧ 0 ≤ q ∧ q < 5) (ndv ((nds K m).getD k.toNat (0, 0, 0, 0, 0)) q.toNat) (-2)
noncomputable def oq_node (K : sK) (k q : Int) : Int := cif (acK K) (oq_nd K 0 k q) (-2)
noncomputable def toK (K : sK) : Nat := tK K K.2.1 0 K.2.2.length
noncomputable def oq_tree (K : sK) (m k q : Int) : Int := cif (¬ toK K ≤ MX) (-7) (cif (0 ≤ m ∧ m < (toK K : Int)) (cif (k = -1) (cif (0 ≤ q ∧ q < 5) ((nds K m.toNat).length : Int) (-2)) (oq_nd K m.toNat k q)) (-3))
noncomputable def fms (K : sK) (m : Nat) : List Nat := fmn K.1 K.2.1 (nds K 0) m
noncomputable def oq_form (K : sK) (m i : Int) : Int := cif (acK K ∧ 0 ≤ m ∧ m ≤ ((nds K 0).length : Int)) (if i < 0 then -3 else if i < ((fms K m.toNat).length : Int) then (((fms K m.toNat).getD i.toNat 0 : Nat) : Int) else -1) (-2)
noncomputable def oq_length (K : sK) (m : Int) : Int := cif (acK K ∧ 0 ≤ m ∧ m ≤ ((nds K 0).length : Int)) ((fms K m.toNat).length : Int) (-2)
noncomputable def oq_beginnings (K : sK) : Int := (mk 15 (fun j => j ≤ K.2.2.length ∧ dK K K.2.1 0 j) : Int)
noncomputable def lcK (K : sK) : Int := cif (K.2.2.length = 0) (-1) (lch (dK K K.2.1) K.2.2.length 0)
noncomputable def oq_pieces (K : sK) (i : Int) : Int := if i < -1 then -3 else if i = -1 then lcK K else cif (i < lcK K) (eop (dK K K.2.1) K.2.2.length (i.toNat + 1) : Int) (-1)
noncomputable def oq_turned (K : sK) : Int := b01 (dp K.1 (plw K.2.2.reverse) K.2.1 0 K.2.2.length)
noncomputable def oq_viable (K : sK) : Int := b01 (bgn K.1 (plw K.2.2) 0 K.2.2.length K.2.1)
noncomputable def oq_next (K : sK) : Int := (mk 14 (fun c => 8 ≤ c ∧ bgn K.1 (plw (K.2.2 ++ [c])) 0 (K.2.2.length + 1) K.2.1) : Int)
noncomputable def oq_lengths (K : sK) (x : Int) : Int := cif (isy K x) (mk 15 (fun j => j ≤ 14 ∧ dp K.1 pla x.toNat 0 j) : Int) (-2)
noncomputable def oq_shapes (K : sK) (x n : Int) : Int := if ¬ (0 ≤ x ∧ x < 8) then -2 else if n < 1 ∨ 14 < n then -3 else st (Tn K.1 pla x.toNat 0 n.toNat)
noncomputable def nvK (K : sK) : Int := nv K.1 K.2.2 K.2.1 0 K.2.2.length
noncomputable def oq_changes (K : sK) : Int := cif (K.2.2.length = 0 ∨ nvK K = -1) (-1) ((((nvK K).toNat / M42 : Nat)) : Int)
noncomputable def oq_changed (K : sK) (i : Int) : Int := if i < 0 then -3 else cif (K.2.2.length = 0 ∨ nvK K = -1 ∨ (K.2.2.length : Int) ≤ i) (-1) ((8 + (nvK K).toNat / 8 ^ (K.2.2.length - 1 - i.toNat) % 8 : Nat) : Int)
/-- the word of so many letters that has a number -/
def wdn : Nat → Nat → List Nat
  | 0, _ => []
  | n + 1, k => wdn n (k / 6) ++ [8 + k % 6]
noncomputable def oq_words (K : sK) (n : Int) : Int := if n < 1 ∨ 4 < n then -3 else (cn (6 ^ n.toNat) (fun k => dx K.1 K.2.1 (wdn n.toNat k)) : Int)
noncomputable def oq_first (K : sK) (n i : Int) : Int := if n < 1 ∨ 4 < n ∨ i < 0 then -3 else if n ≤ i then -1 else cif (li (fun k => k < 6 ^ n.toNat ∧ dx K.1 K.2.1 (wdn n.toNat k)) = -1) (-1) (((wdn n.toNat (li (fun k => k < 6 ^ n.toNat ∧ dx K.1 K.2.1 (wdn n.toNat k))).toNat).getD i.toNat 0 : Nat) : Int)
noncomputable def cpl (K : sK) (i : Nat) : List Int := (List.range (K.2.2.length - i)).map (fun k => (mk 62 (fun x => dK K x i (i + 1 + k)) : Int))
/-- some numbers in place of those of a row from a place on -/
def puts (l : List Int) (p : Nat) (c : List Int) : List Int := l.take p ++ c ++ l.drop (p + c.length)
noncomputable def op_copy (S : sS) (t p i : Int) : Int × sS := match @decide (0 ≤ t ∧ t < 3 ∧ ipl S.1 i) (Classical.propDecidable _) with
  | false => (-2, S)
  | true => match S.2.2.2.2.2 t.toNat with
    | none => (-6, S)
    | some l => if p < 0 ∨ (l.length : Int) - ((S.1.2.2.length : Int) - i) < p then (-7, S) else
      ((S.1.2.2.length : Int) - i, (S.1, S.2.1, S.2.2.1, S.2.2.2.1, S.2.2.2.2.1, fun u => if u = t.toNat then some (puts l p.toNat (cpl S.1 i.toNat)) else S.2.2.2.2.2 u))
noncomputable def oq_count (S : sS) (q : Int) : Int := if q = 0 then (rl_many S.1.1 16 : Int) else if q = 1 then (rl_bits S.1.1 16 : Int) else if q = 2 then (ucp S.1.1 16 : Int) else if q = 3 then ((gH S.1.1).length : Int) else if q = 4 then (S.1.2.1 : Int) else if q = 5 then (S.1.2.2.length : Int) else if q = 6 then (S.2.2.2.1.length : Int) else if q = 7 then (S.2.1.length : Int) else -1
