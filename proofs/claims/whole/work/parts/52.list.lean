/-! the tree of a number, step by step -/
noncomputable def pickr (f : Nat → Nat) (m : Nat) : Nat := mn (fun r => m < su (r + 1) f)
theorem su_mono {f : Nat → Nat} {a b : Nat} (h : a ≤ b) : su a f ≤ su b f := by
  induction b with
  | zero => have : a = 0 := by omega
            subst this; exact Nat.le_refl _
  | succ b ih =>
    by_cases e : a = b + 1
    · subst e; exact Nat.le_refl _
    · have := ih (by omega); rw [su_s]; omega
theorem pickr_eq {f : Nat → Nat} {m r : Nat} (h1 : su r f ≤ m) (h2 : m < su (r + 1) f) : pickr f m = r :=
  mn_eq h2 (fun k hk => Nat.le_of_not_lt (fun q => by have := su_mono (f := f) (show k + 1 ≤ r by omega); omega))
theorem pickr_spec {f : Nat → Nat} {m N : Nat} (h : m < su N f) : pickr f m < N ∧ su (pickr f m) f ≤ m ∧ m < su (pickr f m + 1) f := by
  have hN : ∃ k, k < N ∧ m < su (k + 1) f := by
    cases N with
    | zero => exact absurd h (Nat.not_lt_zero _)
    | succ k => exact ⟨k, Nat.lt_succ_self _, h⟩
  obtain ⟨k, k1, k2⟩ := hN
  obtain ⟨s1, s2⟩ := mn_spec (P := fun r => m < su (r + 1) f) k2
  refine ⟨Nat.lt_of_le_of_lt (s2 k k2) k1, ?_, s1⟩
  show su (mn _) f ≤ m
  cases e : mn (fun r => m < su (r + 1) f) with
  | zero => exact Nat.zero_le _
  | succ r =>
    refine Nat.le_of_not_lt (fun q => ?_)
    have := s2 r q
    omega
abbrev tI : Type := Nat × Nat × Nat × Nat × Int × Nat
abbrev tN : Type := Nat × Nat × Nat × Int × Int
section GLIST
variable (R : Nat → List Nat) (pl : Nat → Nat → Prop)
/-- how many trees begin with a rule, some symbols aside along units -/
noncomputable def wrr (S x i j : Nat) (l : List Nat) : Nat := nif (l.getD 0 0 = x ∧ 2 ≤ l.length) (if l.length = 2 ∧ l.getD 1 0 < 8 then nif (¬ S.testBit (l.getD 1 0) = true) (Tw R pl (S ||| 2 ^ l.getD 1 0) (l.getD 1 0) i j) else fit (Tn R pl) pl (l.drop 1) i j)
noncomputable def ckf (ps : List Nat) (j a ah k e : Nat) : Nat := nif (a < e) (ah * (pw (Tn R pl) pl (ps.getD k 0) a e * fit (Tn R pl) pl (ps.drop (k + 1)) e j))
/-- the cuts: where, the product of what is ahead, the number that is left -/
noncomputable def cke (ps : List Nat) (j k : Nat) (c : Nat × Nat × Nat) : Nat := pickr (ckf R pl ps j c.1 c.2.1 k) c.2.2
noncomputable def ck (ps : List Nat) (i j num : Nat) : Nat → Nat × Nat × Nat
  | 0 => (i, 1, num)
  | k + 1 => (cke R pl ps j k (ck ps i j num k), (ck ps i j num k).2.1 * pw (Tn R pl) pl (ps.getD k 0) (ck ps i j num k).1 (cke R pl ps j k (ck ps i j num k)),
      (ck ps i j num k).2.2 - su (cke R pl ps j k (ck ps i j num k)) (ckf R pl ps j (ck ps i j num k).1 (ck ps i j num k).2.1 k))
noncomputable def ckp (ps : List Nat) (i j num k : Nat) : Nat := pw (Tn R pl) pl (ps.getD k 0) (ck R pl ps i j num k).1 (ck R pl ps i j num (k + 1)).1
/-- what is left of the number when the parts from the last one to one are split off -/
noncomputable def lef (ps : List Nat) (i j num : Nat) : Nat → Nat
  | 0 => (ck R pl ps i j num ps.length).2.2
  | s + 1 => lef ps i j num s / ckp R pl ps i j num (ps.length - 1 - s)
noncomputable def dgt (ps : List Nat) (i j num k : Nat) : Nat := lef R pl ps i j num (ps.length - 1 - k) % ckp R pl ps i j num k
noncomputable def chl (ps : List Nat) (i j num : Nat) (up : Int) : Nat → Nat → List tI
  | _, 0 => []
  | k, c + 1 => (if ps.getD k 0 < 8 then [(ps.getD k 0, (ck R pl ps i j num k).1, (ck R pl ps i j num (k + 1)).1, 0, up, dgt R pl ps i j num k)] else []) ++ chl ps i j num up (k + 1) c
noncomputable def lrl (it : tI) : Nat := pickr (fun r => wrr R pl (it.2.2.2.1 ||| 2 ^ it.1) it.1 it.2.1 it.2.2.1 (R r)) it.2.2.2.2.2
noncomputable def lnm (it : tI) : Nat := it.2.2.2.2.2 - su (lrl R pl it) (fun r => wrr R pl (it.2.2.2.1 ||| 2 ^ it.1) it.1 it.2.1 it.2.2.1 (R r))
/-- what comes behind a node in place of what was waiting -/
noncomputable def lch2 (it : tI) (node : Int) : List tI :=
  if (R (lrl R pl it)).length = 2 then (if (R (lrl R pl it)).getD 1 0 < 8 then [((R (lrl R pl it)).getD 1 0, it.2.1, it.2.2.1, it.2.2.2.1 ||| 2 ^ it.1, node, lnm R pl it)] else [])
  else chl R pl ((R (lrl R pl it)).drop 1) it.2.1 it.2.2.1 (lnm R pl it) node 0 ((R (lrl R pl it)).length - 1)
def ldp (ns : List tN) (up : Int) : Int := if up = -1 then 0 else (ns.getD up.toNat (0, 0, 0, 0, 0)).2.2.2.2 + 1
noncomputable def lnd (ns : List tN) (it : tI) : tN := (lrl R pl it, it.2.1, it.2.2.1, it.2.2.2.2.1, ldp ns it.2.2.2.2.1)
noncomputable def lrn : Nat → List tN → List tI → List tN
  | 0, ns, _ => ns
  | _ + 1, ns, [] => ns
  | f + 1, ns, it :: s => lrn f (ns ++ [lnd R pl ns it]) (lch2 R pl it ns.length ++ s)
end GLIST
section GLIST2
variable {R : Nat → List Nat} {pl : Nat → Nat → Prop}
theorem ck_inv {ps : List Nat} {i j num : Nat} (hij : i ≤ j) (h : num < fit (Tn R pl) pl ps i j) : ∀ k, k ≤ ps.length →
    (ck R pl ps i j num k).2.2 < (ck R pl ps i j num k).2.1 * fit (Tn R pl) pl (ps.drop k) (ck R pl ps i j num k).1 j ∧ i + k ≤ (ck R pl ps i j num k).1 ∧ (ck R pl ps i j num k).1 ≤ j ∧ (ck R pl ps i j num k).2.2 ≤ num := by
  intro k
  induction k with
  | zero => intro _; exact ⟨by show num < 1 * fit _ _ ps i j; omega, Nat.le_refl _, hij, Nat.le_refl _⟩
  | succ k ih =>
    intro hk
    obtain ⟨h1, h2, h3, h4⟩ := ih (by omega)
    have e1 : ck R pl ps i j num (k + 1) = (cke R pl ps j k (ck R pl ps i j num k), (ck R pl ps i j num k).2.1 * pw (Tn R pl) pl (ps.getD k 0) (ck R pl ps i j num k).1 (cke R pl ps j k (ck R pl ps i j num k)), (ck R pl ps i j num k).2.2 - su (cke R pl ps j k (ck R pl ps i j num k)) (ckf R pl ps j (ck R pl ps i j num k).1 (ck R pl ps i j num k).2.1 k)) := rfl
    rw [e1]
    generalize ck R pl ps i j num k = c at h1 h2 h3 h4 ⊢
    dsimp only
    have hs : su (j + 1) (ckf R pl ps j c.1 c.2.1 k) = c.2.1 * fit (Tn R pl) pl (ps.drop k) c.1 j := by
      rw [li_drop1 (by omega), fit_cons, ← su_mul]
      refine su_congr (fun e _ => ?_)
      unfold ckf
      by_cases q : c.1 < e
      · rw [nif_t q, nif_t q]
      · rw [nif_f q, nif_f q, Nat.mul_zero]
    rw [← hs] at h1
    obtain ⟨p1, p2, p3⟩ := pickr_spec h1
    show (c.2.2 - su (cke R pl ps j k c) (ckf R pl ps j c.1 c.2.1 k) < c.2.1 * pw (Tn R pl) pl (ps.getD k 0) c.1 (cke R pl ps j k c) * fit (Tn R pl) pl (ps.drop (k + 1)) (cke R pl ps j k c) j) ∧ i + (k + 1) ≤ cke R pl ps j k c ∧ cke R pl ps j k c ≤ j ∧ c.2.2 - su (cke R pl ps j k c) (ckf R pl ps j c.1 c.2.1 k) ≤ num
    have p1 : cke R pl ps j k c < j + 1 := p1
    have p2 : su (cke R pl ps j k c) (ckf R pl ps j c.1 c.2.1 k) ≤ c.2.2 := p2
    have p3 : c.2.2 < su (cke R pl ps j k c + 1) (ckf R pl ps j c.1 c.2.1 k) := p3
    generalize cke R pl ps j k c = e at p1 p2 p3 ⊢
    rw [su_s] at p3
    have hlt : c.2.2 - su e (ckf R pl ps j c.1 c.2.1 k) < ckf R pl ps j c.1 c.2.1 k e := by omega
    have hae : c.1 < e := Nat.lt_of_not_le (fun q => by
      unfold ckf at hlt
      rw [nif_f (by omega)] at hlt
      exact absurd hlt (Nat.not_lt_zero _))
    refine ⟨?_, by omega, by omega, by omega⟩
    have he : ckf R pl ps j c.1 c.2.1 k e = c.2.1 * pw (Tn R pl) pl (ps.getD k 0) c.1 e * fit (Tn R pl) pl (ps.drop (k + 1)) e j := by
      unfold ckf
      rw [nif_t hae, Nat.mul_assoc]
    rw [← he]
    exact hlt
theorem ck_fin {ps : List Nat} {i j num : Nat} (hij : i ≤ j) (h : num < fit (Tn R pl) pl ps i j) : (ck R pl ps i j num ps.length).1 = j ∧ (ck R pl ps i j num ps.length).2.2 < (ck R pl ps i j num ps.length).2.1 := by
  have h1 := (ck_inv hij h ps.length (Nat.le_refl _)).1
  rw [List.drop_length] at h1
  by_cases e : (ck R pl ps i j num ps.length).1 = j
  · rw [show fit (Tn R pl) pl [] (ck R pl ps i j num ps.length).1 j = 1 from n01_t e, Nat.mul_one] at h1
    exact ⟨e, h1⟩
  · rw [show fit (Tn R pl) pl [] (ck R pl ps i j num ps.length).1 j = 0 from n01_f e, Nat.mul_zero] at h1
    exact absurd h1 (Nat.not_lt_zero _)
theorem ck_lt {ps : List Nat} {i j num : Nat} (hij : i ≤ j) (h : num < fit (Tn R pl) pl ps i j) {k : Nat} (hk : k < ps.length) : (ck R pl ps i j num k).1 < (ck R pl ps i j num (k + 1)).1 := by
  obtain ⟨h1, h2, h3, h4⟩ := ck_inv hij h k (by omega)
  obtain ⟨g1, -⟩ := ck_inv hij h (k + 1) (by omega)
  refine Nat.lt_of_not_le (fun q => ?_)
  have hs : su (j + 1) (ckf R pl ps j (ck R pl ps i j num k).1 (ck R pl ps i j num k).2.1 k) = (ck R pl ps i j num k).2.1 * fit (Tn R pl) pl (ps.drop k) (ck R pl ps i j num k).1 j := by
    rw [li_drop1 hk, fit_cons, ← su_mul]
    refine su_congr (fun e _ => ?_)
    unfold ckf
    by_cases q : (ck R pl ps i j num k).1 < e
    · rw [nif_t q, nif_t q]
    · rw [nif_f q, nif_f q, Nat.mul_zero]
  rw [← hs] at h1
  obtain ⟨p1, p2, p3⟩ := pickr_spec h1
  rw [su_s] at p3
  have q : cke R pl ps j k (ck R pl ps i j num k) ≤ (ck R pl ps i j num k).1 := q
  unfold cke at q
  have q2 : ckf R pl ps j (ck R pl ps i j num k).1 (ck R pl ps i j num k).2.1 k (pickr (ckf R pl ps j (ck R pl ps i j num k).1 (ck R pl ps i j num k).2.1 k) (ck R pl ps i j num k).2.2) = 0 := by
    unfold ckf
    exact nif_f (Nat.not_lt.mpr q)
  omega
theorem ck_ah {ps : List Nat} {i j num k : Nat} : (ck R pl ps i j num (k + 1)).2.1 = (ck R pl ps i j num k).2.1 * ckp R pl ps i j num k := rfl
/-- what is left stays below the product of the parts that are left -/
theorem lef_inv {ps : List Nat} {i j num : Nat} (hij : i ≤ j) (h : num < fit (Tn R pl) pl ps i j) : ∀ s, s ≤ ps.length → lef R pl ps i j num s < (ck R pl ps i j num (ps.length - s)).2.1 ∧ lef R pl ps i j num s ≤ num := by
  intro s
  induction s with
  | zero => intro _; exact ⟨(ck_fin hij h).2, (ck_inv hij h _ (Nat.le_refl _)).2.2.2⟩
  | succ s ih =>
    intro hs
    obtain ⟨h1, h2⟩ := ih (by omega)
    have e : ps.length - s = ps.length - 1 - s + 1 := by omega
    rw [e, ck_ah] at h1
    refine ⟨?_, Nat.le_trans (Nat.div_le_self _ _) h2⟩
    show lef R pl ps i j num s / _ < _
    rw [show ps.length - (s + 1) = ps.length - 1 - s by omega]
    exact Nat.div_lt_of_lt_mul (by rw [Nat.mul_comm]; exact h1)
theorem ckp_pos {ps : List Nat} {i j num k : Nat} (hij : i ≤ j) (h : num < fit (Tn R pl) pl ps i j) (hk : k < ps.length) : 0 < ckp R pl ps i j num k := by
  have h1 := (ck_inv hij h (k + 1) hk).1
  refine Nat.pos_of_ne_zero (fun q => ?_)
  rw [ck_ah, q, Nat.mul_zero, Nat.zero_mul] at h1
  exact absurd h1 (Nat.not_lt_zero _)
theorem dgt_lt {ps : List Nat} {i j num k : Nat} (hij : i ≤ j) (h : num < fit (Tn R pl) pl ps i j) (hk : k < ps.length) : dgt R pl ps i j num k < ckp R pl ps i j num k := Nat.mod_lt _ (ckp_pos hij h hk)
theorem ck_big {ps : List Nat} {i j num : Nat} (hij : i ≤ j) (h : num < fit (Tn R pl) pl ps i j) : ∀ k, k ≤ ps.length → (ck R pl ps i j num k).2.1 ≤ fit (Tn R pl) pl ps i j ∧ 0 < (ck R pl ps i j num k).2.1 ∧ ((ck R pl ps i j num k).2.1 * fit (Tn R pl) pl (ps.drop k) (ck R pl ps i j num k).1 j ≤ fit (Tn R pl) pl ps i j) := by
  intro k hk
  have hpos : 0 < (ck R pl ps i j num k).2.1 * fit (Tn R pl) pl (ps.drop k) (ck R pl ps i j num k).1 j := Nat.lt_of_le_of_lt (Nat.zero_le _) (ck_inv hij h k hk).1
  have hle : (ck R pl ps i j num k).2.1 * fit (Tn R pl) pl (ps.drop k) (ck R pl ps i j num k).1 j ≤ fit (Tn R pl) pl ps i j := by
    clear hpos
    induction k with
    | zero => show 1 * fit _ _ ps i j ≤ _; omega
    | succ k ih =>
      refine Nat.le_trans ?_ (ih (by omega))
      have hlt := ck_lt hij h (k := k) hk
      obtain ⟨_, _, h3, _⟩ := ck_inv hij h (k + 1) hk
      rw [li_drop1 (l := ps) (k := k) hk, fit_cons, ck_ah, Nat.mul_assoc]
      refine Nat.mul_le_mul_left _ ?_
      have := su_term (n := j + 1) (fun e => nif ((ck R pl ps i j num k).1 < e) (pw (Tn R pl) pl (ps.getD k 0) (ck R pl ps i j num k).1 e * fit (Tn R pl) pl (ps.drop (k + 1)) e j)) (show (ck R pl ps i j num (k + 1)).1 < j + 1 by omega)
      rw [nif_t hlt] at this
      exact this
  refine ⟨Nat.le_trans (Nat.le_mul_of_pos_right _ (Nat.pos_of_mul_pos_left hpos)) hle, Nat.pos_of_mul_pos_right hpos, hle⟩
/-- trees of a symbol, some aside, by rules -/
theorem Tw_wrr (hR : ∀ r, rl_ok (R r)) (hd : dstn R) {S x i j : Nat} (hx : x < 8) (hS : S.testBit x = true) : Tw R pl S x i j = su 16 (fun r => wrr R pl S x i j (R r)) := by
  have e1 : Tw R pl S x i j = Gn R pl x i j + su 8 (fun p => nif (un R x p ∧ ¬ S.testBit p = true) (Tw R pl (S ||| 2 ^ p) p i j)) := by
    unfold Tw
    rw [su_congr (g := fun z => n01 (x = z) * Gn R pl z i j + su 8 (fun p => nif (un R x p ∧ ¬ S.testBit p = true) (wy (un R) 8 (S ||| 2 ^ p) p z) * Gn R pl z i j)) (fun z _ => by rw [wy_8 (un R) hx hS, Nat.add_mul, ← su_mulr]), su_add]
    congr 1
    · rw [su_one (k := x) _ hx (fun z _ hz => by rw [n01_f (fun w => hz w.symm), Nat.zero_mul]), n01_t rfl, Nat.one_mul]
    · rw [su_comm]
      refine su_congr (fun p _ => ?_)
      by_cases q : un R x p ∧ ¬ S.testBit p = true
      · rw [nif_t q]; exact su_congr (fun z _ => by rw [nif_t q])
      · rw [nif_f q]; exact su_zero (fun z _ => by rw [nif_f q, Nat.zero_mul])
  have e2 : su 8 (fun p => nif (un R x p ∧ ¬ S.testBit p = true) (Tw R pl (S ||| 2 ^ p) p i j)) = su 16 (fun r => su 8 (fun p => nif (R r = [x, p] ∧ ¬ S.testBit p = true) (Tw R pl (S ||| 2 ^ p) p i j))) := by
    rw [su_comm]
    refine su_congr (fun c hc => ?_)
    by_cases q : un R x c ∧ ¬ S.testBit c = true
    · obtain ⟨⟨r, hr, e⟩, q1⟩ := q
      rw [nif_t ⟨⟨r, hr, e⟩, q1⟩, su_one (k := r) _ hr (fun s hs hne => nif_f (fun w => hd r s (fun z => hne z.symm) (by rw [e]; exact List.cons_ne_nil _ _) (by rw [e, w.1]))), nif_t ⟨e, q1⟩]
    · rw [nif_f q, su_zero (fun r hr => nif_f (fun w => q ⟨⟨r, hr, w.1⟩, w.2⟩))]
  rw [e1, e2]
  unfold Gn trg
  rw [← su_add]
  refine su_congr (fun r hr => ?_)
  unfold gb wrr
  by_cases q : (R r).getD 0 0 = x ∧ 2 ≤ (R r).length
  · rw [nif_t (P := (R r).getD 0 0 = x ∧ 2 ≤ (R r).length) q]
    by_cases q2 : (R r).length = 2 ∧ (R r).getD 1 0 < 8
    · rw [nif_f (fun w => w.2.2 q2), if_pos q2, Nat.zero_add]
      have e3 : R r = [x, (R r).getD 1 0] := by
        have h0 := li_drop1 (l := R r) (k := 0) (by omega)
        rw [List.drop_zero, li_drop1 (l := R r) (k := 1) (by omega), List.drop_eq_nil_of_le (by omega), q.1] at h0
        exact h0
      rw [su_one (k := (R r).getD 1 0) _ q2.2 (fun p hp hne => nif_f (fun w => hne (by
        have := e3.symm.trans w.1
        injection this with _ this
        injection this with this
        exact this.symm)))]
      exact nif_c ⟨fun w => w.2, fun w => ⟨e3, w⟩⟩ (fun _ => rfl)
    · rw [nif_t ⟨q.1, q.2, q2⟩, if_neg q2, su_zero (fun p hp => nif_f (fun w => q2 ⟨by rw [w.1]; rfl, by rw [w.1]; exact hp⟩)), Nat.add_zero]
  · rw [nif_f (P := (R r).getD 0 0 = x ∧ 2 ≤ (R r).length) q, nif_f (fun w => q ⟨w.1, w.2.1⟩), Nat.zero_add]
    exact su_zero (fun p hp => nif_f (fun w => q ⟨by rw [w.1]; rfl, by rw [w.1]; exact Nat.le_refl 2⟩))
/-- what holds of all that waits -/
def it_ok (R : Nat → List Nat) (pl : Nat → Nat → Prop) (n nd : Nat) (it : tI) : Prop := it.1 < 8 ∧ it.2.1 < it.2.2.1 ∧ it.2.2.1 ≤ n ∧ it.2.2.2.1 < 256 ∧ ¬ it.2.2.2.1.testBit it.1 = true ∧ it.2.2.2.2.2 < Tw R pl (it.2.2.2.1 ||| 2 ^ it.1) it.1 it.2.1 it.2.2.1 ∧ it.2.2.2.2.2 ≤ 2147483647 ∧
  (it.2.2.2.2.2 = 0 ∨ Tw R pl (it.2.2.2.1 ||| 2 ^ it.1) it.1 it.2.1 it.2.2.1 ≤ MX) ∧ (it.2.2.2.2.1 = -1 ∨ ∃ u : Nat, it.2.2.2.2.1 = (u : Int) ∧ u < nd)
noncomputable def it_phi (it : tI) : Nat := 8 * (2 * (it.2.2.1 - it.2.1) - 1) - cn 8 (fun p => it.2.2.2.1.testBit p = true)
noncomputable def st_phi : List tI → Nat
  | [] => 0
  | it :: s => it_phi it + st_phi s
def st_len : List tI → Nat
  | [] => 0
  | it :: s => (it.2.2.1 - it.2.1) + st_len s
theorem st_phi_app (a b : List tI) : st_phi (a ++ b) = st_phi a + st_phi b := by
  induction a with
  | nil => exact (Nat.zero_add _).symm
  | cons it a ih => show it_phi it + st_phi (a ++ b) = it_phi it + st_phi a + st_phi b; rw [ih, Nat.add_assoc]
theorem st_len_app (a b : List tI) : st_len (a ++ b) = st_len a + st_len b := by
  induction a with
  | nil => exact (Nat.zero_add _).symm
  | cons it a ih => show (it.2.2.1 - it.2.1) + st_len (a ++ b) = (it.2.2.1 - it.2.1) + st_len a + st_len b; rw [ih, Nat.add_assoc]
def li_ok (R : Nat → List Nat) (pl : Nat → Nat → Prop) (n : Nat) (ns : List tN) (s : List tI) : Prop := (∀ it ∈ s, it_ok R pl n ns.length it) ∧ ns.length + st_phi s ≤ 216 ∧ st_len s ≤ 14 ∧ (∀ nd ∈ ns, nd.1 < 16 ∧ R nd.1 ≠ [])
theorem st_len_le {n nd : Nat} {s : List tI} (h : ∀ it ∈ s, it_ok R pl n nd it) : s.length ≤ st_len s := by
  induction s with
  | nil => exact Nat.le_refl _
  | cons it s ih =>
    have h1 := (h it (List.mem_cons_self ..)).2.1
    have h2 := ih (fun x hx => h x (List.mem_cons_of_mem _ hx))
    show s.length + 1 ≤ (it.2.2.1 - it.2.1) + st_len s
    omega
theorem it_phi_pos {n nd : Nat} {it : tI} (h : it_ok R pl n nd it) : 1 ≤ it_phi it := by
  obtain ⟨h1, h2, h3, h4, h5, -⟩ := h
  have := cn_lt (n := 8) (P := fun p => it.2.2.2.1.testBit p = true) (P' := fun _ => True) (fun _ _ _ => trivial) h1 trivial h5
  have := cn_le 8 (fun _ => True)
  unfold it_phi
  omega
theorem lrl_spec (hR : ∀ r, rl_ok (R r)) (hd : dstn R) {n nd : Nat} {it : tI} (h : it_ok R pl n nd it) : lrl R pl it < 16 ∧ R (lrl R pl it) ≠ [] ∧ (R (lrl R pl it)).getD 0 0 = it.1 ∧ lnm R pl it < wrr R pl (it.2.2.2.1 ||| 2 ^ it.1) it.1 it.2.1 it.2.2.1 (R (lrl R pl it)) ∧
    wrr R pl (it.2.2.2.1 ||| 2 ^ it.1) it.1 it.2.1 it.2.2.1 (R (lrl R pl it)) ≤ Tw R pl (it.2.2.2.1 ||| 2 ^ it.1) it.1 it.2.1 it.2.2.1 ∧ lnm R pl it ≤ it.2.2.2.2.2 := by
  obtain ⟨h1, h2, h3, h4, h5, h6, -⟩ := h
  have hS : (it.2.2.2.1 ||| 2 ^ it.1).testBit it.1 = true := (bt_orb _ _ _).mpr (Or.inr ((bt_one _ _).mpr rfl))
  rw [Tw_wrr hR hd h1 hS] at h6 ⊢
  obtain ⟨p1, p2, p3⟩ := pickr_spec h6
  have p1 : lrl R pl it < 16 := p1
  have p2 : su (lrl R pl it) _ ≤ _ := p2
  have p3 : _ < su (lrl R pl it + 1) _ := p3
  rw [su_s] at p3
  have hlt : lnm R pl it < wrr R pl (it.2.2.2.1 ||| 2 ^ it.1) it.1 it.2.1 it.2.2.1 (R (lrl R pl it)) := by
    show it.2.2.2.2.2 - su (lrl R pl it) (fun r => wrr R pl (it.2.2.2.1 ||| 2 ^ it.1) it.1 it.2.1 it.2.2.1 (R r)) < _
    omega
  have hq : (R (lrl R pl it)).getD 0 0 = it.1 ∧ 2 ≤ (R (lrl R pl it)).length := Classical.byContradiction (fun q => by
    unfold wrr at hlt
    rw [nif_f q] at hlt
    exact absurd hlt (Nat.not_lt_zero _))
  exact ⟨p1, fun q => by rw [q] at hq; exact absurd hq.2 (by decide), hq.1, hlt, su_term (fun r => wrr R pl (it.2.2.2.1 ||| 2 ^ it.1) it.1 it.2.1 it.2.2.1 (R r)) p1, Nat.sub_le _ _⟩
theorem Tw_Tn {x i j : Nat} : Tw R pl (0 ||| 2 ^ x) x i j = Tn R pl x i j := by rw [Nat.zero_or, Tn_eq]; rfl
theorem chl_ok {ps : List Nat} {i j num n nd : Nat} {up : Int} (hij : i < j) (hj : j ≤ n) (h : num < fit (Tn R pl) pl ps i j) (hn : num ≤ 2147483647) (hz : num = 0 ∨ fit (Tn R pl) pl ps i j ≤ MX) (hup : ∃ u : Nat, up = (u : Int) ∧ u < nd) :
    ∀ c k, k + c = ps.length → (∀ it ∈ chl R pl ps i j num up k c, it_ok R pl n nd it) ∧ st_phi (chl R pl ps i j num up k c) + 8 * c ≤ 16 * (j - (ck R pl ps i j num k).1) ∧ st_len (chl R pl ps i j num up k c) ≤ j - (ck R pl ps i j num k).1 := by
  intro c
  induction c with
  | zero =>
    intro k hk
    exact ⟨fun it hit => (by cases hit), by show 0 + 8 * 0 ≤ _; omega, by show 0 ≤ _; omega⟩
  | succ c ih =>
    intro k hk
    have hkl : k < ps.length := by omega
    obtain ⟨i1, i2, i3⟩ := ih (k + 1) (by omega)
    have hlt := ck_lt (by omega) h hkl
    obtain ⟨g1, g2, g3, g4⟩ := ck_inv (by omega) h (k + 1) hkl
    obtain ⟨f1, f2, f3, f4⟩ := ck_inv (by omega) h k (by omega)
    have hd := dgt_lt (by omega) h hkl
    show (∀ it ∈ _ ++ _, _) ∧ st_phi (_ ++ _) + _ ≤ _ ∧ st_len (_ ++ _) ≤ _
    by_cases p8 : ps.getD k 0 < 8
    · rw [if_pos p8]
      refine ⟨fun it hit => ?_, ?_, ?_⟩
      · rcases List.mem_append.mp hit with q | q
        · rw [List.mem_singleton] at q
          subst q
          have hT : ckp R pl ps i j num k = Tn R pl (ps.getD k 0) (ck R pl ps i j num k).1 (ck R pl ps i j num (k + 1)).1 := by unfold ckp pw; rw [if_pos p8]
          have hle := (lef_inv (by omega) h (ps.length - 1 - k) (by omega)).2
          have hmod : dgt R pl ps i j num k ≤ num := Nat.le_trans (Nat.mod_le _ _) hle
          refine ⟨p8, hlt, by show (ck R pl ps i j num (k + 1)).1 ≤ n; omega, (show (0 : Nat) < 256 by decide), by show ¬ (0 : Nat).testBit _ = true; rw [Nat.zero_testBit]; exact Bool.false_ne_true, ?_, by show dgt R pl ps i j num k ≤ _; omega, ?_, Or.inr hup⟩
          · show dgt R pl ps i j num k < Tw R pl (0 ||| 2 ^ ps.getD k 0) (ps.getD k 0) _ _
            rw [Tw_Tn, ← hT]
            exact hd
          · show dgt R pl ps i j num k = 0 ∨ Tw R pl (0 ||| 2 ^ ps.getD k 0) (ps.getD k 0) _ _ ≤ MX
            rw [Tw_Tn, ← hT]
            rcases hz with q | q
            · exact Or.inl (by omega)
            · refine Or.inr (Nat.le_trans ?_ q)
              have hb := (ck_big (by omega) h (k + 1) hkl).1
              have hp := (ck_big (by omega) h k (by omega)).2.1
              rw [ck_ah] at hb
              exact Nat.le_trans (Nat.le_mul_of_pos_left _ hp) hb
        · exact i1 it q
      · rw [st_phi_app]
        show it_phi _ + 0 + st_phi _ + 8 * (c + 1) ≤ _
        have : it_phi (ps.getD k 0, (ck R pl ps i j num k).1, (ck R pl ps i j num (k + 1)).1, 0, up, dgt R pl ps i j num k) ≤ 8 * (2 * ((ck R pl ps i j num (k + 1)).1 - (ck R pl ps i j num k).1) - 1) := Nat.sub_le _ _
        omega
      · rw [st_len_app]
        show ((ck R pl ps i j num (k + 1)).1 - (ck R pl ps i j num k).1) + 0 + st_len _ ≤ _
        omega
    · rw [if_neg p8]
      refine ⟨i1, ?_, ?_⟩
      · show st_phi (chl R pl ps i j num up (k + 1) c) + 8 * (c + 1) ≤ _; omega
      · show st_len (chl R pl ps i j num up (k + 1) c) ≤ _; omega
theorem cn_or {S x : Nat} (hx : x < 8) (h : ¬ S.testBit x = true) : cn 8 (fun p => S.testBit p = true) + 1 ≤ cn 8 (fun p => (S ||| 2 ^ x).testBit p = true) :=
  cn_lt (fun p _ hp => (bt_orb _ _ _).mpr (Or.inl hp)) hx ((bt_orb _ _ _).mpr (Or.inr ((bt_one _ _).mpr rfl))) h
theorem it_ok_mono {n nd nd' : Nat} {it : tI} (h : it_ok R pl n nd it) (hn : nd ≤ nd') : it_ok R pl n nd' it := by
  obtain ⟨h1, h2, h3, h4, h5, h6, h7, h8, h9⟩ := h
  exact ⟨h1, h2, h3, h4, h5, h6, h7, h8, h9.imp id (fun ⟨u, a, b⟩ => ⟨u, a, by omega⟩)⟩
/-- a step keeps what holds -/
theorem li_step (hR : ∀ r, rl_ok (R r)) (hd : dstn R) {n : Nat} {ns : List tN} {it : tI} {s : List tI} (h : li_ok R pl n ns (it :: s)) : li_ok R pl n (ns ++ [lnd R pl ns it]) (lch2 R pl it ns.length ++ s) := by
  obtain ⟨h1, h2, h3, h4⟩ := h
  have hit := h1 it (List.mem_cons_self ..)
  obtain ⟨r1, r2, r3, r4, r5, r6⟩ := lrl_spec hR hd hit
  have hph := it_phi_pos hit
  obtain ⟨t1, t2, t3, t4, t5, t6, t7, t8, t9⟩ := id hit
  have hl2 : 2 ≤ (R (lrl R pl it)).length := by
    rcases hR (lrl R pl it) with q | q
    · exact absurd q r2
    · exact q.1
  have hcn : cn 8 (fun p => it.2.2.2.1.testBit p = true) ≤ 7 := by
    have := cn_lt (n := 8) (P := fun p => it.2.2.2.1.testBit p = true) (P' := fun _ => True) (fun _ _ _ => trivial) t1 trivial t5
    have := cn_le 8 (fun _ => True)
    omega
  have hS8 : it.2.2.2.1 ||| 2 ^ it.1 < 256 := Nat.or_lt_two_pow (n := 8) t4 (Nat.pow_lt_pow_right (by decide) t1)
  have key : (∀ c ∈ lch2 R pl it ns.length, it_ok R pl n (ns.length + 1) c) ∧ st_phi (lch2 R pl it ns.length) + 1 ≤ it_phi it ∧ st_len (lch2 R pl it ns.length) ≤ it.2.2.1 - it.2.1 := by
    unfold lch2
    by_cases e2 : (R (lrl R pl it)).length = 2
    · rw [if_pos e2]
      by_cases p8 : (R (lrl R pl it)).getD 1 0 < 8
      · rw [if_pos p8]
        unfold wrr at r4 r5
        rw [nif_t ⟨r3, hl2⟩, if_pos ⟨e2, p8⟩] at r4 r5
        have hns : ¬ (it.2.2.2.1 ||| 2 ^ it.1).testBit ((R (lrl R pl it)).getD 1 0) = true := Classical.byContradiction (fun q => by
          rw [nif_f q] at r4
          exact absurd r4 (Nat.not_lt_zero _))
        rw [nif_t hns] at r4 r5
        refine ⟨fun c hc => ?_, ?_, by show (it.2.2.1 - it.2.1) + 0 ≤ _; omega⟩
        · rw [List.mem_singleton] at hc
          subst hc
          exact ⟨p8, t2, t3, hS8, hns, r4, by show lnm R pl it ≤ _; omega, by rcases t8 with q | q; exact Or.inl (by show lnm R pl it = 0; omega); exact Or.inr (Nat.le_trans r5 q), Or.inr ⟨ns.length, rfl, by omega⟩⟩
        · show it_phi _ + 0 + 1 ≤ _
          have := cn_or t1 t5
          have hc8 := cn_le 8 (fun p => (it.2.2.2.1 ||| 2 ^ it.1).testBit p = true)
          unfold it_phi
          dsimp only
          omega
      · rw [if_neg p8]
        exact ⟨fun c hc => (by cases hc), by show 0 + 1 ≤ _; omega, Nat.zero_le _⟩
    · rw [if_neg e2]
      unfold wrr at r4 r5
      rw [nif_t ⟨r3, hl2⟩, if_neg (fun w => e2 w.1)] at r4 r5
      have hlen : ((R (lrl R pl it)).drop 1).length = (R (lrl R pl it)).length - 1 := List.length_drop
      obtain ⟨c1, c2, c3⟩ := chl_ok (n := n) (nd := ns.length + 1) (up := (ns.length : Int)) t2 t3 r4 (by omega) (by rcases t8 with q | q; exact Or.inl (by omega); exact Or.inr (Nat.le_trans r5 q)) ⟨ns.length, rfl, by omega⟩ ((R (lrl R pl it)).length - 1) 0 (by omega)
      have c2 : st_phi _ + 8 * ((R (lrl R pl it)).length - 1) ≤ 16 * (it.2.2.1 - it.2.1) := c2
      refine ⟨c1, ?_, c3⟩
      unfold it_phi
      omega
  obtain ⟨k1, k2, k3⟩ := key
  have h2 : ns.length + (it_phi it + st_phi s) ≤ 216 := h2
  have h3 : (it.2.2.1 - it.2.1) + st_len s ≤ 14 := h3
  refine ⟨fun c hc => ?_, ?_, ?_, fun nd hnd => ?_⟩
  · rw [List.length_append, List.length_singleton]
    rcases List.mem_append.mp hc with q | q
    · exact k1 c q
    · exact it_ok_mono (h1 c (List.mem_cons_of_mem _ q)) (by omega)
  · rw [List.length_append, List.length_singleton, st_phi_app]; omega
  · rw [st_len_app]; omega
  · rcases List.mem_append.mp hnd with q | q
    · exact h4 nd q
    · rw [List.mem_singleton] at q; subst q; exact ⟨r1, r2⟩
theorem li_init {n x num : Nat} (hx : x < 8) (hn : 0 < n) (h14 : n ≤ 14) (h1 : num < Tn R pl x 0 n) (h2 : num ≤ 2147483647) (h3 : num = 0 ∨ Tn R pl x 0 n ≤ MX) : li_ok R pl n [] [(x, 0, n, 0, -1, num)] := by
  refine ⟨fun it hit => ?_, ?_, ?_, fun nd hnd => (by cases hnd)⟩
  · rw [List.mem_singleton] at hit
    subst hit
    refine ⟨hx, hn, Nat.le_refl _, (show (0 : Nat) < 256 by decide), by show ¬ (0 : Nat).testBit _ = true; rw [Nat.zero_testBit]; exact Bool.false_ne_true, ?_, h2, ?_, Or.inl rfl⟩
    · show num < Tw R pl (0 ||| 2 ^ x) x 0 n; rw [Tw_Tn]; exact h1
    · show num = 0 ∨ Tw R pl (0 ||| 2 ^ x) x 0 n ≤ MX; rw [Tw_Tn]; exact h3
  · show 0 + (it_phi _ + 0) ≤ 216
    have : it_phi (x, 0, n, 0, -1, num) ≤ 8 * (2 * (n - 0) - 1) := Nat.sub_le _ _
    omega
  · show (n - 0) + 0 ≤ 14; omega
end GLIST2
