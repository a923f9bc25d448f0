/-! the forms of the first tree -/
def rpl (ps : List Nat) : List Nat → List Nat
  | [] => []
  | y :: t => if y < 8 then ps ++ t else y :: rpl ps t
def nms : List Nat → List Nat
  | [] => []
  | y :: t => if y < 8 then y :: nms t else nms t
def lets : List Nat → Nat
  | [] => 0
  | y :: t => (if y < 8 then 0 else 1) + lets t
def fmn (R : Nat → List Nat) (top : Nat) (ns : List tN) : Nat → List Nat
  | 0 => [top]
  | k + 1 => rpl ((R (ns.getD k (0, 0, 0, 0, 0)).1).drop 1) (fmn R top ns k)
theorem nms_app (a b : List Nat) : nms (a ++ b) = nms a ++ nms b := by
  induction a with
  | nil => rfl
  | cons y t ih =>
    show (if y < 8 then y :: nms (t ++ b) else nms (t ++ b)) = (if y < 8 then y :: nms t else nms t) ++ nms b
    by_cases e : y < 8
    · rw [if_pos e, if_pos e, ih]; rfl
    · rw [if_neg e, if_neg e, ih]
theorem lets_app (a b : List Nat) : lets (a ++ b) = lets a + lets b := by
  induction a with
  | nil => exact (Nat.zero_add _).symm
  | cons y t ih =>
    show _ + lets (t ++ b) = _ + lets t + lets b
    rw [ih, Nat.add_assoc]
theorem fo_len (l : List Nat) : l.length = lets l + (nms l).length := by
  induction l with
  | nil => rfl
  | cons y t ih =>
    show t.length + 1 = ((if y < 8 then 0 else 1) + lets t) + (if y < 8 then y :: nms t else nms t).length
    by_cases e : y < 8
    · rw [if_pos e, if_pos e, List.length_cons]; omega
    · rw [if_neg e, if_neg e]; omega
theorem rpl_nms {ps l t : List Nat} {x : Nat} (h : nms l = x :: t) : nms (rpl ps l) = nms ps ++ t ∧ lets (rpl ps l) = lets ps + lets l := by
  induction l with
  | nil => cases h
  | cons y l ih =>
    have h : (if y < 8 then y :: nms l else nms l) = x :: t := h
    show nms (if y < 8 then ps ++ l else y :: rpl ps l) = _ ∧ lets (if y < 8 then ps ++ l else y :: rpl ps l) = _ + ((if y < 8 then 0 else 1) + lets l)
    by_cases e : y < 8
    · rw [if_pos e] at h ⊢
      injection h with _ h
      rw [if_pos e, nms_app, lets_app, h, Nat.zero_add]
      exact ⟨rfl, rfl⟩
    · rw [if_neg e] at h ⊢
      obtain ⟨i1, i2⟩ := ih h
      rw [if_neg e]
      refine ⟨?_, ?_⟩
      · show (if y < 8 then _ else nms (rpl ps l)) = _
        rw [if_neg e, i1]
      · show (if y < 8 then 0 else 1) + lets (rpl ps l) = _
        rw [if_neg e, i2]; omega
theorem rpl_mem {ps l : List Nat} {y : Nat} (h : y ∈ rpl ps l) : y ∈ ps ∨ y ∈ l := by
  induction l with
  | nil => cases h
  | cons z l ih =>
    have h : y ∈ (if z < 8 then ps ++ l else z :: rpl ps l) := h
    by_cases e : z < 8
    · rw [if_pos e] at h
      exact (List.mem_append.mp h).imp id (List.mem_cons_of_mem _)
    · rw [if_neg e] at h
      rcases List.mem_cons.mp h with q | q
      · exact Or.inr (by rw [q]; exact List.mem_cons_self ..)
      · exact (ih q).imp id (List.mem_cons_of_mem _)
theorem rpl_at {ps : List Nat} : ∀ {l : List Nat} {p : Nat}, p < l.length → l.getD p 0 < 8 → (∀ q, q < p → 8 ≤ l.getD q 0) → rpl ps l = l.take p ++ ps ++ l.drop (p + 1) := by
  intro l
  induction l with
  | nil => intro p h1; exact absurd h1 (Nat.not_lt_zero _)
  | cons y l ih =>
    intro p h1 h2 h3
    show (if y < 8 then ps ++ l else y :: rpl ps l) = _
    cases p with
    | zero =>
      have h2 : y < 8 := h2
      rw [if_pos h2]; rfl
    | succ p =>
      have h0 := h3 0 (by omega)
      have h0 : 8 ≤ y := h0
      rw [if_neg (by omega), ih (p := p) (by rw [List.length_cons] at h1; omega) h2 (fun q hq => h3 (q + 1) (by omega))]
      rfl
theorem rpl_get {ps l : List Nat} {p : Nat} (h1 : p < l.length) (h2 : l.getD p 0 < 8) (h3 : ∀ q, q < p → 8 ≤ l.getD q 0) (hp : 1 ≤ ps.length) :
    (rpl ps l).length = l.length + (ps.length - 1) ∧ (∀ k, k < p → (rpl ps l).getD k 0 = l.getD k 0) ∧ (∀ k, k < ps.length → (rpl ps l).getD (p + k) 0 = ps.getD k 0) ∧ (∀ k, p < k → (rpl ps l).getD (k + (ps.length - 1)) 0 = l.getD k 0) := by
  rw [rpl_at h1 h2 h3]
  have ht : (l.take p).length = p := by rw [List.length_take]; omega
  refine ⟨?_, fun k hk => ?_, fun k hk => ?_, fun k hk => ?_⟩
  · rw [List.length_append, List.length_append, List.length_drop, ht]; omega
  · simp only [List.getD_eq_getElem?_getD]
    rw [List.append_assoc, List.getElem?_append_left (by omega), List.getElem?_take_of_lt hk]
  · simp only [List.getD_eq_getElem?_getD]
    rw [List.append_assoc, List.getElem?_append_right (by omega), List.getElem?_append_left (by omega), ht]
    congr 2
    omega
  · simp only [List.getD_eq_getElem?_getD]
    rw [List.getElem?_append_right (by rw [List.length_append]; omega), List.getElem?_drop, List.length_append, ht]
    congr 2
    omega
theorem fo_first {l t : List Nat} {x : Nat} (h : nms l = x :: t) : ∃ p, p < l.length ∧ l.getD p 0 < 8 ∧ ∀ q, q < p → 8 ≤ l.getD q 0 := by
  induction l with
  | nil => cases h
  | cons y l ih =>
    have h : (if y < 8 then y :: nms l else nms l) = x :: t := h
    by_cases e : y < 8
    · exact ⟨0, by rw [List.length_cons]; omega, e, fun q hq => absurd hq (Nat.not_lt_zero _)⟩
    · rw [if_neg e] at h
      obtain ⟨p, p1, p2, p3⟩ := ih h
      refine ⟨p + 1, by rw [List.length_cons]; omega, p2, fun q hq => ?_⟩
      cases q with
      | zero => exact Nat.le_of_not_lt e
      | succ q => exact p3 q (by omega)
theorem lrn_pre {R : Nat → List Nat} {pl : Nat → Nat → Prop} : ∀ (f : Nat) (ns : List tN) (s : List tI), ∃ t, lrn R pl f ns s = ns ++ t := by
  intro f
  induction f with
  | zero => intro ns s; exact ⟨[], (List.append_nil _).symm⟩
  | succ f ih =>
    intro ns s
    cases s with
    | nil => exact ⟨[], (List.append_nil _).symm⟩
    | cons it s =>
      obtain ⟨t, ht⟩ := ih (ns ++ [lnd R pl ns it]) (lch2 R pl it ns.length ++ s)
      exact ⟨[lnd R pl ns it] ++ t, ht.trans (List.append_assoc _ _ _)⟩
theorem fmn_pre {R : Nat → List Nat} {top : Nat} {ns t : List tN} : ∀ k, k ≤ ns.length → fmn R top (ns ++ t) k = fmn R top ns k := by
  intro k
  induction k with
  | zero => intro _; rfl
  | succ k ih =>
    intro hk
    show rpl _ (fmn R top (ns ++ t) k) = rpl _ (fmn R top ns k)
    rw [ih (by omega)]
    congr 4
    simp only [List.getD_eq_getElem?_getD]
    rw [List.getElem?_append_left (by omega)]
section GFORM
variable {R : Nat → List Nat} {pl : Nat → Nat → Prop}
theorem chl_nms {ps : List Nat} {i j num : Nat} {up : Int} (hij : i ≤ j) (h : num < fit (Tn R pl) pl ps i j) : ∀ c k, k + c = ps.length →
    nms (ps.drop k) = (chl R pl ps i j num up k c).map (·.1) ∧ lets (ps.drop k) + st_len (chl R pl ps i j num up k c) ≤ j - (ck R pl ps i j num k).1 := by
  intro c
  induction c with
  | zero =>
    intro k hk
    rw [List.drop_eq_nil_of_le (by omega)]
    exact ⟨rfl, Nat.zero_le _⟩
  | succ c ih =>
    intro k hk
    have hkl : k < ps.length := by omega
    obtain ⟨i1, i2⟩ := ih (k + 1) (by omega)
    have hlt := ck_lt hij h hkl
    obtain ⟨g1, g2, g3, g4⟩ := ck_inv hij h (k + 1) hkl
    rw [li_drop1 hkl]
    have en : nms (ps.getD k 0 :: ps.drop (k + 1)) = if ps.getD k 0 < 8 then ps.getD k 0 :: nms (ps.drop (k + 1)) else nms (ps.drop (k + 1)) := rfl
    have el : lets (ps.getD k 0 :: ps.drop (k + 1)) = (if ps.getD k 0 < 8 then 0 else 1) + lets (ps.drop (k + 1)) := rfl
    have ec : chl R pl ps i j num up k (c + 1) = (if ps.getD k 0 < 8 then [(ps.getD k 0, (ck R pl ps i j num k).1, (ck R pl ps i j num (k + 1)).1, 0, up, dgt R pl ps i j num k)] else []) ++ chl R pl ps i j num up (k + 1) c := rfl
    rw [en, el, ec]
    by_cases p8 : ps.getD k 0 < 8
    · rw [if_pos p8, if_pos p8, if_pos p8, List.map_append, st_len_app, i1]
      refine ⟨rfl, ?_⟩
      show _ + ((ck R pl ps i j num (k + 1)).1 - (ck R pl ps i j num k).1 + 0 + _) ≤ _
      omega
    · rw [if_neg p8, if_neg p8, if_neg p8, List.map_append, st_len_app, i1]
      refine ⟨rfl, ?_⟩
      show _ + (0 + _) ≤ _
      omega
theorem lch2_nms (hR : ∀ r, rl_ok (R r)) (hd : dstn R) {n nd : Nat} {it : tI} {node : Int} (h : it_ok R pl n nd it) :
    nms ((R (lrl R pl it)).drop 1) = (lch2 R pl it node).map (·.1) ∧ lets ((R (lrl R pl it)).drop 1) + st_len (lch2 R pl it node) ≤ it.2.2.1 - it.2.1 := by
  obtain ⟨r1, r2, r3, r4, r5, r6⟩ := lrl_spec hR hd h
  obtain ⟨t1, t2, t3, t4, t5, t6, t7, t8, t9⟩ := id h
  have hl2 : 2 ≤ (R (lrl R pl it)).length := by
    rcases hR (lrl R pl it) with q | q
    · exact absurd q r2
    · exact q.1
  unfold lch2
  by_cases e2 : (R (lrl R pl it)).length = 2
  · rw [if_pos e2, li_drop1 (k := 1) (by omega), List.drop_eq_nil_of_le (by omega)]
    by_cases p8 : (R (lrl R pl it)).getD 1 0 < 8
    · rw [if_pos p8]
      refine ⟨if_pos p8, ?_⟩
      show ((if _ < 8 then 0 else 1) + 0) + (it.2.2.1 - it.2.1 + 0) ≤ _
      rw [if_pos p8]; omega
    · rw [if_neg p8]
      refine ⟨if_neg p8, ?_⟩
      show ((if _ < 8 then 0 else 1) + 0) + 0 ≤ _
      rw [if_neg p8]; omega
  · rw [if_neg e2]
    unfold wrr at r4
    rw [nif_t ⟨r3, hl2⟩, if_neg (fun w => e2 w.1)] at r4
    have hlen : ((R (lrl R pl it)).drop 1).length = (R (lrl R pl it)).length - 1 := List.length_drop
    have := chl_nms (up := node) (by omega) r4 ((R (lrl R pl it)).length - 1) 0 (by omega)
    rw [List.drop_zero] at this
    exact this
def fo_ok (l : List Nat) (s : List tI) : Prop := nms l = s.map (·.1) ∧ lets l + st_len s ≤ 14 ∧ ∀ y ∈ l, y < 14
theorem fo_step (hR : ∀ r, rl_ok (R r)) (hd : dstn R) {n nd : Nat} {it : tI} {s : List tI} {l : List Nat} {node : Int} (h : it_ok R pl n nd it) (hl : fo_ok l (it :: s)) : fo_ok (rpl ((R (lrl R pl it)).drop 1) l) (lch2 R pl it node ++ s) := by
  obtain ⟨g1, g2, g3⟩ := hl
  obtain ⟨c1, c2⟩ := lch2_nms (node := node) hR hd h
  have g1 : nms l = it.1 :: s.map (·.1) := g1
  obtain ⟨e1, e2⟩ := rpl_nms (ps := (R (lrl R pl it)).drop 1) g1
  have g2 : lets l + ((it.2.2.1 - it.2.1) + st_len s) ≤ 14 := g2
  refine ⟨?_, ?_, fun y hy => ?_⟩
  · rw [e1, List.map_append, c1]
  · rw [e2, st_len_app]; omega
  · rcases rpl_mem hy with q | q
    · rcases hR (lrl R pl it) with w | w
      · rw [w] at q; cases q
      · exact w.2.2.2 y (List.mem_of_mem_drop q)
    · exact g3 y q
def fp_ok (l : List Nat) : Prop := l.length ≤ 14 ∧ ∀ y ∈ l, y < 14
theorem fo_fp {n nd : Nat} {s : List tI} {l : List Nat} (h : fo_ok l s) (hs : ∀ it ∈ s, it_ok R pl n nd it) : fp_ok l := by
  obtain ⟨g1, g2, g3⟩ := h
  have := st_len_le hs
  have e := fo_len l
  rw [g1, List.length_map] at e
  exact ⟨by omega, g3⟩
theorem fo_all (hR : ∀ r, rl_ok (R r)) (hd : dstn R) {n top : Nat} : ∀ (f : Nat) (ns : List tN) (s : List tI), li_ok R pl n ns s → fo_ok (fmn R top ns ns.length) s →
    ∀ k, ns.length ≤ k → k ≤ (lrn R pl f ns s).length → fp_ok (fmn R top (lrn R pl f ns s) k) ∧ (k < (lrn R pl f ns s).length → nms (fmn R top (lrn R pl f ns s) k) ≠ []) := by
  intro f
  induction f with
  | zero =>
    intro ns s h1 h2 k k1 k2
    have k2 : k ≤ ns.length := k2
    have : k = ns.length := by omega
    subst this
    exact ⟨fo_fp h2 h1.1, fun w => absurd w (Nat.lt_irrefl _)⟩
  | succ f ih =>
    intro ns s h1 h2 k k1 k2
    cases s with
    | nil =>
      have k2 : k ≤ ns.length := k2
      have : k = ns.length := by omega
      subst this
      exact ⟨fo_fp h2 h1.1, fun w => absurd w (Nat.lt_irrefl _)⟩
    | cons it s =>
      by_cases e : k = ns.length
      · subst e
        obtain ⟨t, ht⟩ := lrn_pre (R := R) (pl := pl) (f + 1) ns (it :: s)
        rw [ht, fmn_pre _ (Nat.le_refl _)]
        refine ⟨fo_fp h2 h1.1, fun _ => ?_⟩
        rw [h2.1]
        exact List.cons_ne_nil _ _
      · refine ih (ns ++ [lnd R pl ns it]) (lch2 R pl it ns.length ++ s) (li_step hR hd h1) ?_ k (by rw [List.length_append, List.length_singleton]; omega) k2
        rw [List.length_append, List.length_singleton]
        show fo_ok (rpl ((R ((ns ++ [lnd R pl ns it]).getD ns.length (0, 0, 0, 0, 0)).1).drop 1) (fmn R top (ns ++ [lnd R pl ns it]) ns.length)) _
        rw [fmn_pre _ (Nat.le_refl _)]
        have e0 : (ns ++ [lnd R pl ns it]).getD ns.length (0, 0, 0, 0, 0) = lnd R pl ns it := by
          rw [List.getD_eq_getElem?_getD, List.getElem?_append_right (Nat.le_refl _), Nat.sub_self]
          rfl
        rw [e0]
        exact fo_step hR hd (h1.1 it (List.mem_cons_self ..)) h2
end GFORM
theorem fm_ok {K : sK} (hK : sk_ok K) (hn : 0 < K.2.2.length) (h1 : 0 < Tn K.1 (plw K.2.2) K.2.1 0 K.2.2.length) : ∀ k, k ≤ (ltr2 K 0).length → fp_ok (fmn K.1 K.2.1 (ltr2 K 0) k) ∧ (k < (ltr2 K 0).length → ∃ p, p < (fmn K.1 K.2.1 (ltr2 K 0) k).length ∧ (fmn K.1 K.2.1 (ltr2 K 0) k).getD p 0 < 8 ∧ ∀ q, q < p → 8 ≤ (fmn K.1 K.2.1 (ltr2 K 0) k).getD q 0) := by
  intro k hk
  have htop : K.2.1 < 8 := hK.2.2.2.1
  have hl : K.2.2.length ≤ 14 := hK.2.2.2.2.1
  obtain ⟨a, b⟩ := fo_all (top := K.2.1) (pl := plw K.2.2) hK.1 hK.2.2.1 216 [] _ (li_init hK.2.2.2.1 hn hl h1 (by decide) (Or.inl rfl)) ⟨if_pos htop, by
    show ((if K.2.1 < 8 then 0 else 1) + 0) + ((K.2.2.length - 0) + 0) ≤ 14
    rw [if_pos htop]; omega, fun y hy => by
    have hy : y ∈ [K.2.1] := hy
    rw [List.mem_singleton] at hy; omega⟩ k (Nat.zero_le _) hk
  refine ⟨a, fun hk2 => ?_⟩
  cases e : nms (fmn K.1 K.2.1 (ltr2 K 0) k) with
  | nil => exact absurd e (b hk2)
  | cons x t => exact fo_first e
