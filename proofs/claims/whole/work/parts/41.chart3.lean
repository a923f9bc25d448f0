/-! the class's charts: pieces, beginnings -/
theorem li_or {P P' S : Nat → Prop} (h : ∀ k, S k ↔ P k ∨ P' k) : li S = if li P' = -1 then li P else if li P = -1 ∨ li P' < li P then li P' else li P := by
  rcases li_cases P with ⟨e1, q1⟩ | ⟨n, e1, q1, q2⟩
  · rcases li_cases P' with ⟨e2, q3⟩ | ⟨m, e2, q3, q4⟩
    · rw [e1, e2, if_pos rfl]
      exact li_f (fun k hk => ((h k).mp hk).elim (q1 k) (q3 k))
    · rw [e1, e2, if_neg (by omega), if_pos (Or.inl rfl)]
      exact li_t ((h m).mpr (Or.inr q3)) (fun k hk => ((h k).mp hk).elim (fun z => absurd z (q1 k)) (q4 k))
  · rcases li_cases P' with ⟨e2, q3⟩ | ⟨m, e2, q3, q4⟩
    · rw [e1, e2, if_pos rfl]
      exact li_t ((h n).mpr (Or.inl q1)) (fun k hk => ((h k).mp hk).elim (q2 k) (fun z => absurd z (q3 k)))
    · rw [e1, e2, if_neg (by omega)]
      by_cases q : (m : Int) < n
      · rw [if_pos (Or.inr q)]
        exact li_t ((h m).mpr (Or.inr q3)) (fun k hk => ((h k).mp hk).elim (fun z => by have := q2 k z; omega) (q4 k))
      · rw [if_neg (by omega)]
        exact li_t ((h n).mpr (Or.inl q1)) (fun k hk => ((h k).mp hk).elim (q2 k) (fun z => by have := q4 k z; omega))
theorem li_succ (P : Nat → Prop) : li (fun k => ∃ k', k = k' + 1 ∧ P k') = if li P = -1 then -1 else li P + 1 := by
  rcases li_cases P with ⟨e1, q1⟩ | ⟨n, e1, q1, q2⟩
  · rw [e1, if_pos rfl]
    exact li_f (fun k ⟨k', _, hk⟩ => q1 k' hk)
  · rw [e1, if_neg (by omega)]
    rw [li_t (n := n + 1) ⟨n, rfl, q1⟩ (fun k ⟨k', e, hk⟩ => by have := q2 k' hk; omega)]
    omega
theorem li_ge (P : Nat → Prop) : -1 ≤ li P := by
  rcases li_cases P with ⟨e, _⟩ | ⟨n, e, _, _⟩ <;> rw [e] <;> omega
section GCHN
variable {D : Nat → Nat → Prop} {n k p : Nat}
theorem chn_le : ∀ {k p : Nat}, chn D n k p → p + k ≤ n := by
  intro k
  induction k with
  | zero => intro p h; have h : p = n := h; omega
  | succ k ih => rintro p ⟨e, h1, h2, _, h3⟩; have := ih h3; omega
noncomputable def lch (D : Nat → Nat → Prop) (n p : Nat) : Int := li (fun k => chn D n k p)
theorem lch_le (D : Nat → Nat → Prop) (n p : Nat) : -1 ≤ lch D n p ∧ lch D n p ≤ n := by
  unfold lch
  rcases li_cases (fun k => chn D n k p) with ⟨e, _⟩ | ⟨m, e, h, _⟩
  · rw [e]; omega
  · have := chn_le h; rw [e]; omega
theorem lch_n : lch D n n = 0 := li_t (n := 0) (show n = n from rfl) (fun m _ => Nat.zero_le _)
/-- the fewest pieces from a place, of those that end ahead of one -/
noncomputable def lcb (D : Nat → Nat → Prop) (n p j : Nat) : Int := li (fun k => ∃ e, e < j ∧ p < e ∧ e ≤ n ∧ D p e ∧ ∃ k', k = k' + 1 ∧ chn D n k' e)
theorem lcb_0 : lcb D n p (p + 1) = -1 := li_f (fun k ⟨e, h1, h2, _⟩ => by omega)
theorem lcb_e (h : p < n) : lcb D n p (n + 1) = lch D n p := li_congr (fun k => by
  constructor
  · rintro ⟨e, h1, h2, h3, h4, k', rfl, h5⟩; exact ⟨e, h2, h3, h4, h5⟩
  · intro q
    cases k with
    | zero => have q : p = n := q; omega
    | succ k => obtain ⟨e, h2, h3, h4, h5⟩ := q; exact ⟨e, by omega, h2, h3, h4, k, rfl, h5⟩)
theorem lcb_f {j : Nat} (h : ¬ D p j) : lcb D n p (j + 1) = lcb D n p j := li_congr (fun k => ⟨fun ⟨e, h1, h2, h3, h4, h5⟩ => ⟨e, Nat.lt_of_le_of_ne (by omega) (fun q => h (by rw [← q]; exact h4)), h2, h3, h4, h5⟩, fun ⟨e, h1, h2, h3, h4, h5⟩ => ⟨e, by omega, h2, h3, h4, h5⟩⟩)
theorem lcb_t {j : Nat} (h : D p j) (h1 : p < j) (h2 : j ≤ n) : lcb D n p (j + 1) = if lch D n j = -1 then lcb D n p j else if lcb D n p j = -1 ∨ lch D n j + 1 < lcb D n p j then lch D n j + 1 else lcb D n p j := by
  have hs := li_succ (fun k => chn D n k j)
  have ho := li_or (S := fun k => ∃ e, e < j + 1 ∧ p < e ∧ e ≤ n ∧ D p e ∧ ∃ k', k = k' + 1 ∧ chn D n k' e) (P := fun k => ∃ e, e < j ∧ p < e ∧ e ≤ n ∧ D p e ∧ ∃ k', k = k' + 1 ∧ chn D n k' e) (P' := fun k => ∃ k', k = k' + 1 ∧ chn D n k' j) (fun k => by
    constructor
    · rintro ⟨e, a, b, c, d, f⟩
      by_cases q : e = j
      · subst q; exact Or.inr f
      · exact Or.inl ⟨e, by omega, b, c, d, f⟩
    · rintro (⟨e, a, b, c, d, f⟩ | f)
      · exact ⟨e, by omega, b, c, d, f⟩
      · exact ⟨j, by omega, h1, h2, h, f⟩)
  have hl := lch_le D n j
  by_cases q : lch D n j = -1
  · have hs' : li (fun k => ∃ k', k = k' + 1 ∧ chn D n k' j) = -1 := by rw [hs]; exact if_pos q
    rw [if_pos q]
    show li _ = li _
    rw [ho, if_pos hs']
  · have hs' : li (fun k => ∃ k', k = k' + 1 ∧ chn D n k' j) = lch D n j + 1 := by rw [hs]; exact if_neg q
    rw [if_neg q]
    show li _ = _
    rw [ho, if_neg (by rw [hs']; omega), hs']
    rfl
theorem lcb_le (D : Nat → Nat → Prop) (n p j : Nat) : -1 ≤ lcb D n p j ∧ lcb D n p j ≤ n := by
  unfold lcb
  rcases li_cases (fun k => ∃ e, e < j ∧ p < e ∧ e ≤ n ∧ D p e ∧ ∃ k', k = k' + 1 ∧ chn D n k' e) with ⟨e, _⟩ | ⟨m, e, ⟨a, h1, h2, h3, h4, k', rfl, h5⟩, _⟩
  · rw [e]; omega
  · have := chn_le h5; rw [e]; omega
/-- where the next piece ends -/
def nxp (D : Nat → Nat → Prop) (n p j : Nat) : Prop := p < j ∧ j ≤ n ∧ D p j ∧ lch D n j + 1 = lch D n p
noncomputable def eop (D : Nat → Nat → Prop) (n : Nat) : Nat → Nat
  | 0 => 0
  | k + 1 => mn (nxp D n (eop D n k))
theorem nxp_ex (h : 0 < lch D n p) : ∃ j, nxp D n p j := by
  unfold lch at h
  rcases li_cases (fun k => chn D n k p) with ⟨e, _⟩ | ⟨m, e, h1, h2⟩
  · rw [e] at h; omega
  · rw [e] at h
    cases m with
    | zero => exact absurd h (by decide)
    | succ m =>
      obtain ⟨j, a1, a2, a3, a4⟩ := h1
      refine ⟨j, a1, a2, a3, ?_⟩
      have e2 : lch D n j = (m : Int) := li_t a4 (fun k hk => by have := h2 (k + 1) ⟨j, a1, a2, a3, hk⟩; omega)
      show _ = li _
      rw [e2, e]
      omega
theorem eop_spec (k : Nat) (h : (k : Int) ≤ lch D n 0) : eop D n k ≤ n ∧ lch D n (eop D n k) = lch D n 0 - k := by
  induction k with
  | zero => exact ⟨Nat.zero_le _, by show lch D n 0 = _; omega⟩
  | succ k ih =>
    obtain ⟨i1, i2⟩ := ih (by omega)
    obtain ⟨j, hj⟩ := nxp_ex (D := D) (n := n) (p := eop D n k) (by omega)
    have := (mn_spec (P := nxp D n (eop D n k)) hj).1
    refine ⟨this.2.1, ?_⟩
    have e := this.2.2.2
    show lch D n (mn (nxp D n (eop D n k))) = _
    omega
end GCHN
section GBGN
variable {R : Nat → List Nat} {pl pl' : Nat → Nat → Prop} {x i j : Nat}
theorem dp_congr {n : Nat} (h : ∀ k c, k < n → (pl k c ↔ pl' k c)) (hj : j ≤ n) : dp R pl x i j ↔ dp R pl' x i j := by
  have key : ∀ (pl pl' : Nat → Nat → Prop), (∀ k c, k < n → (pl k c ↔ pl' k c)) → dp R pl x i j → dp R pl' x i j := fun pl pl' h ⟨u, a, b, c⟩ => ⟨u, a, fun k d hk => (h _ _ (by have := (List.getElem?_eq_some_iff.mp hk).1; omega)).mp (b k d hk), c⟩
  exact ⟨key _ _ h, key _ _ (fun k c hk => (h k c hk).symm)⟩
theorem bgn_oc (hR : ∀ r, rl_ok (R r)) {S : Nat} (hij : i < j) (hlet : ∀ c, pl i c → 8 ≤ c ∧ c < 14) (hS : ∀ x, S.testBit x = true ↔ ((j = i + 1 ∧ pl i x) ∨ ∃ e, e ∈ gP R ∧ e.1 = x ∧ ∃ k, i < k ∧ k < j ∧ dp R pl e.2.1 i k ∧ bgn R pl k j e.2.2.1)) : oc R (mk 62 (frt R)) S x ↔ bgn R pl i j x := by
  constructor
  · intro h
    refine h (bgn R pl i j) (fun y hy => ?_) (fun e he ⟨u, v, h1, h2, h3⟩ hf => ?_) (fun a b hab ⟨u, v, h1, h2, h3⟩ => ⟨u, v, h1, h2, dx_ut hR hab h3⟩)
    · rcases (hS y).mp hy with ⟨rfl, q⟩ | ⟨e, he, rfl, k, k1, k2, ⟨u, a1, a2, a3⟩, ⟨u', v, b1, b2, b3⟩⟩
      · exact ⟨[y], [], rfl, dpw_one.mpr q, dx_let (hlet y q).1 (hlet y q).2⟩
      · refine ⟨u ++ u', v, by rw [List.length_append]; omega, dpw_app.mpr ⟨a2, by rw [a1]; exact b2⟩, ?_⟩
        rw [List.append_assoc]
        exact dx_pr hR he a3 b3
    · obtain ⟨w, hw⟩ := ((mk_bit _ _ _).mp hf).2
      refine ⟨u, v ++ w, h1, h2, ?_⟩
      rw [← List.append_assoc]
      exact dx_pr hR he h3 hw
  · rintro ⟨u, v, h1, h2, h3⟩
    refine dx_least hR (C := fun x w => ∀ u v, w = u ++ v → i + u.length = j → dpw pl i u → oc R (mk 62 (frt R)) S x) (fun c a b u v e1 e2 e3 => ?_) (fun a b w h4 h5 ih u v e1 e2 e3 => ?_) (fun e he a b ha hb ia ib u v e1 e2 e3 => ?_) h3 u v rfl h1 h2
    · cases u with
      | nil => simp at e2; omega
      | cons y u =>
        injection e1 with f1 f2
        subst f1
        have f3 : u = [] := (List.append_eq_nil_iff.mp f2.symm).1
        subst f3
        exact oc_in ((hS c).mpr (Or.inl ⟨e2.symm, dpw_one.mp e3⟩))
    · exact oc_ut (ut_one h4) (ih u v e1 e2 e3)
    · by_cases q : u.length ≤ a.length
      · have f1 : a = u ++ a.drop u.length := by
          have := congrArg (List.take u.length) e1
          rw [List.take_append_of_le_length q, List.take_append_of_le_length (Nat.le_refl _), List.take_length] at this
          rw [← this, List.length_take, Nat.min_eq_left q, List.take_append_drop]
        exact oc_pr he (ia u _ f1 e2 e3) ((mk_bit _ _ _).mpr ⟨(pe_lt62 hR he).2.2, b, hb⟩)
      · have f1 : u = a ++ u.drop a.length := by
          have := congrArg (List.take a.length) e1
          rw [List.take_append_of_le_length (Nat.le_refl _), List.take_length, List.take_append_of_le_length (by omega)] at this
          exact (List.take_append_drop a.length u).symm.trans (by rw [← this])
        have f2 : b = u.drop a.length ++ v := by
          have := congrArg (List.drop a.length) e1
          rw [List.drop_left, List.drop_append_of_le_length (by omega)] at this
          exact this
        have f4 := List.length_pos_iff.mpr ha.1
        rw [f1] at e3
        obtain ⟨g1, g2⟩ := dpw_app.mp e3
        refine oc_in ((hS e.1).mpr (Or.inr ⟨e, he, rfl, i + a.length, by omega, by omega, ⟨a, rfl, g1, ha⟩, ⟨u.drop a.length, v, by rw [List.length_drop]; omega, g2, by rw [← f2]; exact hb⟩⟩))
end GBGN
section GCHART3
variable {E : go_E} {d : Nat} {δ : Nat → Nat → Int} {Q : List go_V → go_F → (Nat → Nat → Int) → Prop} {o p n : Nat} {al : Bool} {R : Nat → List Nat} {pl pl' : Nat → Nat → Prop} {K : sK}
theorem g_Chart_countPieces {x : Nat} (ho : ch_ok o al) (hR : ∀ r, rl_ok (R r)) (h : ct_at δ o al R pl n) (hx : x < 64)
    (hQ : ∀ δ', (∀ p, p ≤ n → δ' (o + 3) p = lch (dp R pl x) n p) → (∀ c j, c ≠ o + 3 → δ' c j = δ c j) → Q [vv_I (if n = 0 then -1 else lch (dp R pl x) n 0)] go_φ δ') :
    Go E (d + 3) (0, 0) mx_X1_countPieces go_φ 0 [(0, vv_A o), (1, vv_I (x : Int))] [] δ Q := by
  have hn14 := h.2.2.1
  have outer := lp_dn (X := Nat → Nat → Int) (I := fun m δ1 => m ≤ n ∧ (∀ p, m ≤ p → p ≤ n → δ1 (o + 3) p = lch (dp R pl x) n p) ∧ (∀ c j, c ≠ o + 3 → δ1 c j = δ c j))
    (G := fun m δ1 => Go E (d + 3) (0, 0) mx_X1_countPieces go_φ 19 [(0, vv_A o), (1, vv_I (x : Int)), (2, vv_I ((m : Int) - 1))] [] δ1 Q)
    (fun m δ1 hI ih => by
      obtain ⟨i0, i1, i2⟩ := hI
      have h1 : ct_at δ1 o al R pl n := ct_fr h (fun c j hc => i2 c j (by omega))
      have h5 := h1.2.1
      have inner := lp_up (X := Unit) (hi := n + 1) (I := fun j _ => m + 1 ≤ j)
        (G := fun j _ => ∀ lv0, lv0 = [(0, vv_A o), (1, vv_I (x : Int)), (2, vv_I (m : Int)), (3, vv_I (lcb (dp R pl x) n m j)), (4, vv_I (j : Int))] → Go E (d + 3) (0, 0) mx_X1_countPieces go_φ 30 lv0 [] δ1 Q)
        (fun j _ hj hjm ih2 lv0 e0 => by
          subst e0
          have hr := lch_le (dp R pl x) n j
          have hb := lcb_le (dp R pl x) n m j
          refine go_iload dx_X1_countPieces_30 rfl ?_
          refine go_aload_n (i := 0) dx_X1_countPieces_32 rfl rfl ?_
          refine go_getI fs_X1_43 (Or.inl rfl) (ch_k0 ho) dx_X1_countPieces_33 ?_
          refine go_asI (y := (n : Int)) (by exact h5) ?_
          refine go_icmp_gt (tgt := 91) dx_X1_countPieces_36 rfl (by omega) (by omega) (fun c36 => by exact absurd c36 (by omega)) (fun c36 => ?_)
          refine go_aload_n (i := 0) dx_X1_countPieces_39 rfl rfl ?_
          refine go_getA (b := (o + 3)) fs_X1_23 rfl (ch_k0 ho) (ch_r3 ho) dx_X1_countPieces_40 ?_
          refine go_iload dx_X1_countPieces_43 rfl ?_
          refine go_cS2 ss_X1_46 dx_X1_countPieces_45 (Nat.le_of_ble_eq_true rfl) (Nat.le_of_ble_eq_true rfl) (g_intAtV (i := j) (v := ((lch (dp R pl x) n j))) (ch_k3 ho) (by omega) (by rw [(ch_l3 ho)]; omega) (by exact i1 j (by omega) (by omega)) ?_)
          refine go_istore (lv' := [(0, vv_A o), (1, vv_I (x : Int)), (2, vv_I (m : Int)), (3, vv_I (lcb (dp R pl x) n m j)), (4, vv_I (j : Int)), (5, vv_I ((lch (dp R pl x) n j)))]) dx_X1_countPieces_48 (by decide) rfl ?_
          refine go_iload dx_X1_countPieces_50 rfl ?_
          refine go_iconst dx_X1_countPieces_52 ?_
          refine go_icmp_eq (tgt := 85) dx_X1_countPieces_53 rfl (by omega) (by omega) (fun c53 => ?_) (fun c53 => ?_)
          · refine go_iinc (lv' := [(0, vv_A o), (1, vv_I (x : Int)), (2, vv_I (m : Int)), (3, vv_I (lcb (dp R pl x) n m j)), (4, vv_I ((j : Int) + 1)), (5, vv_I ((lch (dp R pl x) n j)))]) dx_X1_countPieces_85 rfl (by decide) rfl ?_
            refine go_goto (tgt := 30) dx_X1_countPieces_88 rfl ?_
            refine go_keep [0, 1, 2, 3, 4] rfl ?_
            refine ih2 () (by omega) _ ?_
            by_cases q : dp R pl x m j
            · rw [lcb_t q (by omega) (by omega), if_pos c53]; rfl
            · rw [lcb_f q]; rfl
          · refine go_aload_n (i := 0) dx_X1_countPieces_56 rfl rfl ?_
            refine go_iload_n (i := 1) dx_X1_countPieces_57 rfl rfl ?_
            refine go_iload_n (i := 2) dx_X1_countPieces_58 rfl rfl ?_
            refine go_iload dx_X1_countPieces_59 rfl ?_
            refine go_cV3 sv_X1_84 (ch_k0 ho) dx_X1_countPieces_61 (Nat.le_of_ble_eq_true rfl) (Nat.le_of_ble_eq_true rfl) (g_Chart_derives ho hR h1 hx (by omega) (by omega) ?_)
            refine go_b_eq (tgt := 85) dx_X1_countPieces_64 rfl (fun c64 => ?_) (fun c64 => ?_)
            · refine go_iinc (lv' := [(0, vv_A o), (1, vv_I (x : Int)), (2, vv_I (m : Int)), (3, vv_I (lcb (dp R pl x) n m j)), (4, vv_I ((j : Int) + 1)), (5, vv_I ((lch (dp R pl x) n j)))]) dx_X1_countPieces_85 rfl (by decide) rfl ?_
              refine go_goto (tgt := 30) dx_X1_countPieces_88 rfl ?_
              refine go_keep [0, 1, 2, 3, 4] rfl ?_
              refine ih2 () (by omega) _ ?_
              rw [lcb_f c64]; rfl
            · refine go_iload_n (i := 3) dx_X1_countPieces_67 rfl rfl ?_
              refine go_iconst dx_X1_countPieces_68 ?_
              refine go_icmp_eq (tgt := 80) dx_X1_countPieces_69 rfl (by omega) (by omega) (fun c69 => ?_) (fun c69 => ?_)
              · refine go_iload dx_X1_countPieces_80 rfl ?_
                refine go_iconst dx_X1_countPieces_82 ?_
                refine go_iadd dx_X1_countPieces_83 ?_
                refine go_istore_n (i := 3) (lv' := [(0, vv_A o), (1, vv_I (x : Int)), (2, vv_I (m : Int)), (3, vv_I (lch (dp R pl x) n j + 1)), (4, vv_I (j : Int)), (5, vv_I ((lch (dp R pl x) n j)))]) dx_X1_countPieces_84 rfl (by decide) rfl ?_
                refine go_iinc (lv' := [(0, vv_A o), (1, vv_I (x : Int)), (2, vv_I (m : Int)), (3, vv_I (lch (dp R pl x) n j + 1)), (4, vv_I ((j : Int) + 1)), (5, vv_I ((lch (dp R pl x) n j)))]) dx_X1_countPieces_85 rfl (by decide) rfl ?_
                refine go_goto (tgt := 30) dx_X1_countPieces_88 rfl ?_
                refine go_keep [0, 1, 2, 3, 4] rfl ?_
                refine ih2 () (by omega) _ ?_
                rw [lcb_t c64 (by omega) (by omega), if_neg c53, if_pos (Or.inl c69)]; rfl
              · refine go_iload dx_X1_countPieces_72 rfl ?_
                refine go_iconst dx_X1_countPieces_74 ?_
                refine go_iadd dx_X1_countPieces_75 ?_
                refine go_iload_n (i := 3) dx_X1_countPieces_76 rfl rfl ?_
                refine go_icmp_ge (tgt := 85) dx_X1_countPieces_77 rfl (by omega) (by omega) (fun c77 => ?_) (fun c77 => ?_)
                · refine go_iinc (lv' := [(0, vv_A o), (1, vv_I (x : Int)), (2, vv_I (m : Int)), (3, vv_I (lcb (dp R pl x) n m j)), (4, vv_I ((j : Int) + 1)), (5, vv_I ((lch (dp R pl x) n j)))]) dx_X1_countPieces_85 rfl (by decide) rfl ?_
                  refine go_goto (tgt := 30) dx_X1_countPieces_88 rfl ?_
                  refine go_keep [0, 1, 2, 3, 4] rfl ?_
                  refine ih2 () (by omega) _ ?_
                  rw [lcb_t c64 (by omega) (by omega), if_neg c53, if_neg (by omega)]; rfl
                · refine go_iload dx_X1_countPieces_80 rfl ?_
                  refine go_iconst dx_X1_countPieces_82 ?_
                  refine go_iadd dx_X1_countPieces_83 ?_
                  refine go_istore_n (i := 3) (lv' := [(0, vv_A o), (1, vv_I (x : Int)), (2, vv_I (m : Int)), (3, vv_I (lch (dp R pl x) n j + 1)), (4, vv_I (j : Int)), (5, vv_I ((lch (dp R pl x) n j)))]) dx_X1_countPieces_84 rfl (by decide) rfl ?_
                  refine go_iinc (lv' := [(0, vv_A o), (1, vv_I (x : Int)), (2, vv_I (m : Int)), (3, vv_I (lch (dp R pl x) n j + 1)), (4, vv_I ((j : Int) + 1)), (5, vv_I ((lch (dp R pl x) n j)))]) dx_X1_countPieces_85 rfl (by decide) rfl ?_
                  refine go_goto (tgt := 30) dx_X1_countPieces_88 rfl ?_
                  refine go_keep [0, 1, 2, 3, 4] rfl ?_
                  refine ih2 () (by omega) _ ?_
                  rw [lcb_t c64 (by omega) (by omega), if_neg c53, if_pos (Or.inr (by omega))]; rfl
        ) (fun _ _ lv0 e0 => by
          subst e0
          refine go_iload dx_X1_countPieces_30 rfl ?_
          refine go_aload_n (i := 0) dx_X1_countPieces_32 rfl rfl ?_
          refine go_getI fs_X1_43 (Or.inl rfl) (ch_k0 ho) dx_X1_countPieces_33 ?_
          refine go_asI (y := (n : Int)) (by exact h5) ?_
          refine go_icmp_gt (tgt := 91) dx_X1_countPieces_36 rfl (by omega) (by omega) (fun c36 => ?_) (fun c36 => by exact absurd c36 (by omega))
          refine go_aload_n (i := 0) dx_X1_countPieces_91 rfl rfl ?_
          refine go_getA (b := (o + 3)) fs_X1_23 rfl (ch_k0 ho) (ch_r3 ho) dx_X1_countPieces_92 ?_
          refine go_iload_n (i := 2) dx_X1_countPieces_95 rfl rfl ?_
          refine go_iload_n (i := 3) dx_X1_countPieces_96 rfl rfl ?_
          refine go_cS3 ss_X1_39 dx_X1_countPieces_97 (Nat.le_of_ble_eq_true rfl) (Nat.le_of_ble_eq_true rfl) (g_putIntN (i := m) (ch_k3 ho) (by omega) (by rw [(ch_l3 ho)]; omega) ?_)
          refine go_iinc (lv' := [(0, vv_A o), (1, vv_I (x : Int)), (2, vv_I ((m : Int) + (-1))), (3, vv_I (lcb (dp R pl x) n m (n + 1))), (4, vv_I ((n + 1 : Nat) : Int))]) dx_X1_countPieces_100 rfl (by decide) rfl ?_
          refine go_goto (tgt := 19) dx_X1_countPieces_103 rfl ?_
          refine go_keep [0, 1, 2] rfl ?_
          refine ih _ ⟨by omega, fun p hp hpn => ?_, fun c j hc => by rw [wr_a _ _ _ _ hc]; exact i2 c j hc⟩
          by_cases q : p = m
          · subst q; rw [wr_eq, lcb_e (by omega)]
          · rw [wr_i _ _ _ _ q]; exact i1 p (by omega) hpn
        )
      rw [show ((m + 1 : Nat) : Int) - 1 = (m : Int) by omega]
      refine go_iload_n (i := 2) dx_X1_countPieces_19 rfl rfl ?_
      refine go_if_lt (tgt := 106) dx_X1_countPieces_20 rfl (by omega) (fun c20 => by exact absurd c20 (by omega)) (fun c20 => ?_)
      refine go_iconst dx_X1_countPieces_23 ?_
      refine go_istore_n (i := 3) (lv' := [(0, vv_A o), (1, vv_I (x : Int)), (2, vv_I (m : Int)), (3, vv_I (-1))]) dx_X1_countPieces_24 rfl (by decide) rfl ?_
      refine go_iload_n (i := 2) dx_X1_countPieces_25 rfl rfl ?_
      refine go_iconst dx_X1_countPieces_26 ?_
      refine go_iadd dx_X1_countPieces_27 ?_
      refine go_istore (lv' := [(0, vv_A o), (1, vv_I (x : Int)), (2, vv_I (m : Int)), (3, vv_I (-1)), (4, vv_I ((m + 1 : Nat) : Int))]) dx_X1_countPieces_28 (by decide) rfl ?_
      exact inner (m + 1) () (by omega) (Nat.le_refl _) _ (by rw [lcb_0])
    ) (fun δ1 hI => by
      obtain ⟨i0, i1, i2⟩ := hI
      have h5 : δ1 o 5 = (n : Int) := by rw [i2 _ _ (by omega)]; exact h.2.1
      refine go_iload_n (i := 2) dx_X1_countPieces_19 rfl rfl ?_
      refine go_if_lt (tgt := 106) dx_X1_countPieces_20 rfl (by omega) (fun c20 => ?_) (fun c20 => by exact absurd c20 (by omega))
      refine go_aload_n (i := 0) dx_X1_countPieces_106 rfl rfl ?_
      refine go_getI fs_X1_43 (Or.inl rfl) (ch_k0 ho) dx_X1_countPieces_107 ?_
      refine go_asI (y := (n : Int)) (by exact h5) ?_
      refine go_if_ne (tgt := 117) dx_X1_countPieces_110 rfl (by omega) (fun c110 => ?_) (fun c110 => ?_)
      · refine go_aload_n (i := 0) dx_X1_countPieces_117 rfl rfl ?_
        refine go_getA (b := (o + 3)) fs_X1_23 rfl (ch_k0 ho) (ch_r3 ho) dx_X1_countPieces_118 ?_
        refine go_iconst dx_X1_countPieces_121 ?_
        refine go_cS2 ss_X1_46 dx_X1_countPieces_122 (Nat.le_of_ble_eq_true rfl) (Nat.le_of_ble_eq_true rfl) (g_intAtV (i := 0) (v := ((lch (dp R pl x) n 0))) (ch_k3 ho) (by omega) (by rw [(ch_l3 ho)]; omega) (by exact i1 0 (Nat.le_refl _) (Nat.zero_le _)) ?_)
        refine go_ireturn dx_X1_countPieces_125 rfl (Nat.le_refl _) (Nat.le_refl _) ?_
        have e := hQ δ1 (fun p hp => i1 p (Nat.zero_le _) hp) i2
        first | (rw [if_neg (by omega)] at e; exact e) | (rw [if_pos (by omega)] at e; exact e)
      · refine go_iconst dx_X1_countPieces_113 ?_
        refine go_goto (tgt := 125) dx_X1_countPieces_114 rfl ?_
        refine go_ireturn dx_X1_countPieces_125 rfl (Nat.le_refl _) (Nat.le_refl _) ?_
        have e := hQ δ1 (fun p hp => i1 p (Nat.zero_le _) hp) i2
        first | (rw [if_neg (by omega)] at e; exact e) | (rw [if_pos (by omega)] at e; exact e)
    )
  refine go_aload_n (i := 0) dx_X1_countPieces_0 rfl rfl ?_
  refine go_getA (b := (o + 3)) fs_X1_23 rfl (ch_k0 ho) (ch_r3 ho) dx_X1_countPieces_1 ?_
  refine go_aload_n (i := 0) dx_X1_countPieces_4 rfl rfl ?_
  refine go_getI fs_X1_43 (Or.inl rfl) (ch_k0 ho) dx_X1_countPieces_5 ?_
  refine go_asI (y := (n : Int)) (by exact h.2.1) ?_
  refine go_iconst dx_X1_countPieces_8 ?_
  refine go_cS3 ss_X1_39 dx_X1_countPieces_9 (Nat.le_of_ble_eq_true rfl) (Nat.le_of_ble_eq_true rfl) (g_putIntN (i := n) (ch_k3 ho) (by omega) (by rw [(ch_l3 ho)]; omega) ?_)
  refine go_aload_n (i := 0) dx_X1_countPieces_12 rfl rfl ?_
  refine go_getI fs_X1_43 (Or.inl rfl) (ch_k0 ho) dx_X1_countPieces_13 ?_
  refine go_asI (y := (n : Int)) (by rw [wr_n (by omega)]; exact h.2.1) ?_
  refine go_iconst dx_X1_countPieces_16 ?_
  refine go_isub dx_X1_countPieces_17 ?_
  refine go_istore_n (i := 2) (lv' := [(0, vv_A o), (1, vv_I (x : Int)), (2, vv_I ((n : Int) - 1))]) dx_X1_countPieces_18 rfl (by decide) rfl ?_
  exact outer n _ ⟨Nat.le_refl _, fun p h1 h2 => by rw [show p = n by omega, wr_eq, lch_n], fun c j hc => wr_a _ _ _ _ hc _⟩
theorem g_Chart_nextEnd {x i m : Nat} (ho : ch_ok o al) (hR : ∀ r, rl_ok (R r)) (h : ct_at δ o al R pl n) (hx : x < 64) (hf : ∀ p, p ≤ n → δ (o + 3) p = lch (dp R pl x) n p) (hi : i ≤ n) (hm : nxp (dp R pl x) n i m) (hl : ∀ j, nxp (dp R pl x) n i j → m ≤ j)
    (hQ : Q [vv_I (m : Int)] go_φ δ) : Go E (d + 3) (0, 0) mx_X1_nextEnd go_φ 0 [(0, vv_A o), (1, vv_I (x : Int)), (2, vv_I (i : Int))] [] δ Q := by
  have h5 := h.2.1
  have h14 := h.2.2.1
  have hri := lch_le (dp R pl x) n i
  have loop := lp_up (X := Unit) (hi := m) (I := fun j _ => i < j)
    (G := fun j _ => Go E (d + 3) (0, 0) mx_X1_nextEnd go_φ 4 [(0, vv_A o), (1, vv_I (x : Int)), (2, vv_I (i : Int)), (3, vv_I (j : Int))] [] δ Q)
    (fun j _ hj hij ih => by
      have hrj := lch_le (dp R pl x) n j
      have hmn := hm.2.1
      refine go_iload_n (i := 3) dx_X1_nextEnd_4 rfl rfl ?_
      refine go_aload_n (i := 0) dx_X1_nextEnd_5 rfl rfl ?_
      refine go_getI fs_X1_43 (Or.inl rfl) (ch_k0 ho) dx_X1_nextEnd_6 ?_
      refine go_asI (y := (n : Int)) (by exact h5) ?_
      refine go_icmp_gt (tgt := 51) dx_X1_nextEnd_9 rfl (by omega) (by omega) (fun c9 => by exact absurd c9 (by omega)) (fun c9 => ?_)
      refine go_aload_n (i := 0) dx_X1_nextEnd_12 rfl rfl ?_
      refine go_iload_n (i := 1) dx_X1_nextEnd_13 rfl rfl ?_
      refine go_iload_n (i := 2) dx_X1_nextEnd_14 rfl rfl ?_
      refine go_iload_n (i := 3) dx_X1_nextEnd_15 rfl rfl ?_
      refine go_cV3 sv_X1_84 (ch_k0 ho) dx_X1_nextEnd_16 (Nat.le_of_ble_eq_true rfl) (Nat.le_of_ble_eq_true rfl) (g_Chart_derives ho hR h hx (by omega) hi ?_)
      refine go_b_eq (tgt := 45) dx_X1_nextEnd_19 rfl (fun c19 => ?_) (fun c19 => ?_)
      · refine go_iinc (lv' := [(0, vv_A o), (1, vv_I (x : Int)), (2, vv_I (i : Int)), (3, vv_I ((j : Int) + 1))]) dx_X1_nextEnd_45 rfl (by decide) rfl ?_
        refine go_goto (tgt := 4) dx_X1_nextEnd_48 rfl ?_
        exact ih () (by omega)
      · refine go_aload_n (i := 0) dx_X1_nextEnd_22 rfl rfl ?_
        refine go_getA (b := (o + 3)) fs_X1_23 rfl (ch_k0 ho) (ch_r3 ho) dx_X1_nextEnd_23 ?_
        refine go_iload_n (i := 3) dx_X1_nextEnd_26 rfl rfl ?_
        refine go_cS2 ss_X1_46 dx_X1_nextEnd_27 (Nat.le_of_ble_eq_true rfl) (Nat.le_of_ble_eq_true rfl) (g_intAtV (i := j) (v := ((lch (dp R pl x) n j))) (ch_k3 ho) (by omega) (by rw [(ch_l3 ho)]; omega) (by exact hf j (by omega)) ?_)
        refine go_aload_n (i := 0) dx_X1_nextEnd_30 rfl rfl ?_
        refine go_getA (b := (o + 3)) fs_X1_23 rfl (ch_k0 ho) (ch_r3 ho) dx_X1_nextEnd_31 ?_
        refine go_iload_n (i := 2) dx_X1_nextEnd_34 rfl rfl ?_
        refine go_cS2 ss_X1_46 dx_X1_nextEnd_35 (Nat.le_of_ble_eq_true rfl) (Nat.le_of_ble_eq_true rfl) (g_intAtV (i := i) (v := ((lch (dp R pl x) n i))) (ch_k3 ho) (by omega) (by rw [(ch_l3 ho)]; omega) (by exact hf i (by omega)) ?_)
        refine go_iconst dx_X1_nextEnd_38 ?_
        refine go_isub dx_X1_nextEnd_39 ?_
        refine go_icmp_ne (tgt := 45) dx_X1_nextEnd_40 rfl (by omega) (by omega) (fun c40 => ?_) (fun c40 => ?_)
        · refine go_iinc (lv' := [(0, vv_A o), (1, vv_I (x : Int)), (2, vv_I (i : Int)), (3, vv_I ((j : Int) + 1))]) dx_X1_nextEnd_45 rfl (by decide) rfl ?_
          refine go_goto (tgt := 4) dx_X1_nextEnd_48 rfl ?_
          exact ih () (by omega)
        · refine go_iload_n (i := 3) dx_X1_nextEnd_43 rfl rfl ?_
          refine go_ireturn dx_X1_nextEnd_44 rfl (Nat.le_refl _) (Nat.le_refl _) ?_
          exact absurd (hl j ⟨hij, by omega, c19, by omega⟩) (by omega)
    ) (fun _ hij => by
      have hrj := lch_le (dp R pl x) n m
      obtain ⟨m1, m2, m3, m4⟩ := hm
      refine go_iload_n (i := 3) dx_X1_nextEnd_4 rfl rfl ?_
      refine go_aload_n (i := 0) dx_X1_nextEnd_5 rfl rfl ?_
      refine go_getI fs_X1_43 (Or.inl rfl) (ch_k0 ho) dx_X1_nextEnd_6 ?_
      refine go_asI (y := (n : Int)) (by exact h5) ?_
      refine go_icmp_gt (tgt := 51) dx_X1_nextEnd_9 rfl (by omega) (by omega) (fun c9 => by exact absurd c9 (by omega)) (fun c9 => ?_)
      refine go_aload_n (i := 0) dx_X1_nextEnd_12 rfl rfl ?_
      refine go_iload_n (i := 1) dx_X1_nextEnd_13 rfl rfl ?_
      refine go_iload_n (i := 2) dx_X1_nextEnd_14 rfl rfl ?_
      refine go_iload_n (i := 3) dx_X1_nextEnd_15 rfl rfl ?_
      refine go_cV3 sv_X1_84 (ch_k0 ho) dx_X1_nextEnd_16 (Nat.le_of_ble_eq_true rfl) (Nat.le_of_ble_eq_true rfl) (g_Chart_derives ho hR h hx (by omega) hi ?_)
      refine go_b_eq (tgt := 45) dx_X1_nextEnd_19 rfl (fun c19 => by exact absurd m3 c19) (fun c19 => ?_)
      refine go_aload_n (i := 0) dx_X1_nextEnd_22 rfl rfl ?_
      refine go_getA (b := (o + 3)) fs_X1_23 rfl (ch_k0 ho) (ch_r3 ho) dx_X1_nextEnd_23 ?_
      refine go_iload_n (i := 3) dx_X1_nextEnd_26 rfl rfl ?_
      refine go_cS2 ss_X1_46 dx_X1_nextEnd_27 (Nat.le_of_ble_eq_true rfl) (Nat.le_of_ble_eq_true rfl) (g_intAtV (i := m) (v := ((lch (dp R pl x) n m))) (ch_k3 ho) (by omega) (by rw [(ch_l3 ho)]; omega) (by exact hf m (by omega)) ?_)
      refine go_aload_n (i := 0) dx_X1_nextEnd_30 rfl rfl ?_
      refine go_getA (b := (o + 3)) fs_X1_23 rfl (ch_k0 ho) (ch_r3 ho) dx_X1_nextEnd_31 ?_
      refine go_iload_n (i := 2) dx_X1_nextEnd_34 rfl rfl ?_
      refine go_cS2 ss_X1_46 dx_X1_nextEnd_35 (Nat.le_of_ble_eq_true rfl) (Nat.le_of_ble_eq_true rfl) (g_intAtV (i := i) (v := ((lch (dp R pl x) n i))) (ch_k3 ho) (by omega) (by rw [(ch_l3 ho)]; omega) (by exact hf i (by omega)) ?_)
      refine go_iconst dx_X1_nextEnd_38 ?_
      refine go_isub dx_X1_nextEnd_39 ?_
      refine go_icmp_ne (tgt := 45) dx_X1_nextEnd_40 rfl (by omega) (by omega) (fun c40 => by exact absurd (by omega) c40) (fun c40 => ?_)
      refine go_iload_n (i := 3) dx_X1_nextEnd_43 rfl rfl ?_
      refine go_ireturn dx_X1_nextEnd_44 rfl (Nat.le_refl _) (Nat.le_refl _) ?_
      exact hQ
    )
  refine go_iload_n (i := 2) dx_X1_nextEnd_0 rfl rfl ?_
  refine go_iconst dx_X1_nextEnd_1 ?_
  refine go_iadd dx_X1_nextEnd_2 ?_
  refine go_istore_n (i := 3) (lv' := [(0, vv_A o), (1, vv_I (x : Int)), (2, vv_I (i : Int)), (3, vv_I ((i + 1 : Nat) : Int))]) dx_X1_nextEnd_3 rfl (by decide) rfl ?_
  exact loop (i + 1) () hm.1 (by omega)
theorem g_Chart_endOfPiece {x k : Nat} (ho : ch_ok o al) (hR : ∀ r, rl_ok (R r)) (h : ct_at δ o al R pl n) (hx : x < 64) (hf : ∀ p, p ≤ n → δ (o + 3) p = lch (dp R pl x) n p) (hk : (k : Int) < lch (dp R pl x) n 0)
    (hQ : Q [vv_I (eop (dp R pl x) n (k + 1) : Int)] go_φ δ) : Go E (d + 4) (0, 0) mx_X1_endOfPiece go_φ 0 [(0, vv_A o), (1, vv_I (x : Int)), (2, vv_I (k : Int))] [] δ Q := by
  have h14 := h.2.2.1
  have hr0 := lch_le (dp R pl x) n 0
  have loop := lp_up (X := Unit) (hi := k + 1) (I := fun _ _ => True)
    (G := fun i _ => Go E (d + 4) (0, 0) mx_X1_endOfPiece go_φ 5 [(0, vv_A o), (1, vv_I (x : Int)), (2, vv_I (k : Int)), (3, vv_I (eop (dp R pl x) n i : Int)), (4, vv_I (i : Int))] [] δ Q)
    (fun i _ hi _ ih => by
      obtain ⟨e1, e2⟩ := eop_spec (D := dp R pl x) (n := n) i (by omega)
      obtain ⟨j, hj⟩ := nxp_ex (D := dp R pl x) (n := n) (p := eop (dp R pl x) n i) (by omega)
      obtain ⟨s1, s2⟩ := mn_spec hj
      refine go_iload dx_X1_endOfPiece_5 rfl ?_
      refine go_iload_n (i := 2) dx_X1_endOfPiece_7 rfl rfl ?_
      refine go_icmp_gt (tgt := 24) dx_X1_endOfPiece_8 rfl (by omega) (by omega) (fun c8 => by exact absurd c8 (by omega)) (fun c8 => ?_)
      refine go_aload_n (i := 0) dx_X1_endOfPiece_11 rfl rfl ?_
      refine go_iload_n (i := 1) dx_X1_endOfPiece_12 rfl rfl ?_
      refine go_iload_n (i := 3) dx_X1_endOfPiece_13 rfl rfl ?_
      refine go_cV2 sv_X1_88 (ch_k0 ho) dx_X1_endOfPiece_14 (Nat.le_of_ble_eq_true rfl) (Nat.le_of_ble_eq_true rfl) (g_Chart_nextEnd ho hR h hx hf e1 s1 s2 ?_)
      refine go_istore_n (i := 3) (lv' := [(0, vv_A o), (1, vv_I (x : Int)), (2, vv_I (k : Int)), (3, vv_I (eop (dp R pl x) n (i + 1) : Int)), (4, vv_I (i : Int))]) dx_X1_endOfPiece_17 rfl (by decide) rfl ?_
      refine go_iinc (lv' := [(0, vv_A o), (1, vv_I (x : Int)), (2, vv_I (k : Int)), (3, vv_I (eop (dp R pl x) n (i + 1) : Int)), (4, vv_I ((i : Int) + 1))]) dx_X1_endOfPiece_18 rfl (by decide) rfl ?_
      refine go_goto (tgt := 5) dx_X1_endOfPiece_21 rfl ?_
      exact ih () trivial
    ) (fun _ _ => by
      refine go_iload dx_X1_endOfPiece_5 rfl ?_
      refine go_iload_n (i := 2) dx_X1_endOfPiece_7 rfl rfl ?_
      refine go_icmp_gt (tgt := 24) dx_X1_endOfPiece_8 rfl (by omega) (by omega) (fun c8 => ?_) (fun c8 => by exact absurd c8 (by omega))
      refine go_iload_n (i := 3) dx_X1_endOfPiece_24 rfl rfl ?_
      refine go_ireturn dx_X1_endOfPiece_25 rfl (Nat.le_refl _) (Nat.le_refl _) ?_
      exact hQ
    )
  refine go_iconst dx_X1_endOfPiece_0 ?_
  refine go_istore_n (i := 3) (lv' := [(0, vv_A o), (1, vv_I (x : Int)), (2, vv_I (k : Int)), (3, vv_I 0)]) dx_X1_endOfPiece_1 rfl (by decide) rfl ?_
  refine go_iconst dx_X1_endOfPiece_2 ?_
  refine go_istore (lv' := [(0, vv_A o), (1, vv_I (x : Int)), (2, vv_I (k : Int)), (3, vv_I 0), (4, vv_I 0)]) dx_X1_endOfPiece_3 (by decide) rfl ?_
  exact loop 0 () (Nat.zero_le _) trivial
def bjs (R : Nat → List Nat) (pl : Nat → Nat → Prop) (i j m x : Nat) : Prop := ∃ e, e ∈ gP R ∧ e.1 = x ∧ ∃ k, i < k ∧ k < m ∧ k < j ∧ dp R pl e.2.1 i k ∧ bgn R pl k j e.2.2.1
theorem bgn_62 (hR : ∀ r, rl_ok (R r)) {x i j : Nat} (h : bgn R pl i j x) : x < 62 := by
  obtain ⟨u, v, _, _, q⟩ := h
  have := dx_lt hR q
  have := gH_le hR
  omega
theorem g_Chart_beginnersOf {l s : Nat} (ho : ch_ok o al) (hp : bi_ok p) (hop : o + 4 < p ∨ p + 10 < o) (hb : bi_at δ p R) (hf : δ p 11 = (mk 62 (frt R) : Int)) (h : ct_at δ o al R pl n) (hl : l ≤ n) (hs : s < 2 ^ 62) (hpl : ∀ i c, i < l → (pl i c ↔ pl' i c)) (hsl : ∀ c, s.testBit c = true ↔ pl' l c) (hlet : ∀ i c, i ≤ l → pl' i c → 8 ≤ c ∧ c < 14)
    (hQ : ∀ δ', (∀ c j, c ≠ o + 4 → δ' c j = δ c j) → Q [vv_L (mk 62 (bgn R pl' 0 (l + 1)) : Int)] go_φ δ') :
    Go E (d + 4) (0, 0) mx_X1_beginnersOf go_φ 0 [(0, vv_A o), (1, vv_A p), (2, vv_I (l : Int)), (3, vv_L (s : Int))] [] δ Q := by
  have hR := hb.2.2.2.2.2.2
  have h14 := h.2.2.1
  have outer := lp_dn (X := Nat → Nat → Int) (I := fun m δ1 => m ≤ l ∧ (∀ i, m ≤ i → i ≤ l → δ1 (o + 4) i = (mk 62 (bgn R pl' i (l + 1)) : Int)) ∧ (∀ c j, c ≠ o + 4 → δ1 c j = δ c j))
    (G := fun m δ1 => Go E (d + 4) (0, 0) mx_X1_beginnersOf go_φ 18 [(0, vv_A o), (1, vv_A p), (2, vv_I (l : Int)), (3, vv_L (s : Int)), (5, vv_I ((m : Int) - 1))] [] δ1 Q)
    (fun m δ1 hI ih => by
      obtain ⟨i0, i1, i2⟩ := hI
      have h1 : ct_at δ1 o al R pl n := ct_fr h (fun c j hc => i2 c j (by omega))
      have hb1 : bi_at δ1 p R := bi_fr hb (fun c j a b => i2 c j (by omega))
      have hf1 : δ1 p 11 = (mk 62 (frt R) : Int) := by rw [i2 _ _ (by omega)]; exact hf
      have inner := lp_up (X := Unit) (hi := l + 1) (I := fun k _ => m + 1 ≤ k)
        (G := fun k _ => ∀ lv0, lv0 = [(0, vv_A o), (1, vv_A p), (2, vv_I (l : Int)), (3, vv_L (s : Int)), (5, vv_I (m : Int)), (6, vv_L (mk 62 (bjs R pl' m (l + 1) k) : Int)), (8, vv_I (k : Int))] → Go E (d + 4) (0, 0) mx_X1_beginnersOf go_φ 32 lv0 [] δ1 Q)
        (fun k _ hk hkm ih2 lv0 e0 => by
          subst e0
          have h63 := mk_63 62 (bjs R pl' m (l + 1) k) (by decide)
          refine go_iload dx_X1_beginnersOf_32 rfl ?_
          refine go_iload_n (i := 2) dx_X1_beginnersOf_34 rfl rfl ?_
          refine go_icmp_gt (tgt := 70) dx_X1_beginnersOf_35 rfl (by omega) (by omega) (fun c35 => by exact absurd c35 (by omega)) (fun c35 => ?_)
          refine go_lload dx_X1_beginnersOf_38 rfl ?_
          refine go_aload_n (i := 1) dx_X1_beginnersOf_40 rfl rfl ?_
          refine go_aload_n (i := 0) dx_X1_beginnersOf_41 rfl rfl ?_
          refine go_iload dx_X1_beginnersOf_42 rfl ?_
          refine go_iload dx_X1_beginnersOf_44 rfl ?_
          refine go_cV2 sv_X1_68 (ch_k0 ho) dx_X1_beginnersOf_46 (Nat.le_of_ble_eq_true rfl) (Nat.le_of_ble_eq_true rfl) (g_Chart_cellAt ho h1 (by omega) (by omega) ?_)
          refine go_aload_n (i := 0) dx_X1_beginnersOf_49 rfl rfl ?_
          refine go_getA (b := (o + 4)) fs_X1_26 rfl (ch_k0 ho) (ch_r4 ho) dx_X1_beginnersOf_50 ?_
          refine go_iload dx_X1_beginnersOf_53 rfl ?_
          refine go_cS2 ss_X1_80 dx_X1_beginnersOf_55 (Nat.le_of_ble_eq_true rfl) (Nat.le_of_ble_eq_true rfl) (g_longAtV (i := k) (v := ((mk 62 (bgn R pl' k (l + 1)) : Int))) (ch_k4 ho) (by omega) (by rw [(ch_l4 ho)]; omega) (by exact i1 k (by omega) (by omega)) ?_)
          refine go_cV2 sv_X1_72 (bi_k0 hp) dx_X1_beginnersOf_58 (Nat.le_of_ble_eq_true rfl) (Nat.le_of_ble_eq_true rfl) (g_Binary_joinAll hp hb1 (mk_lt 62 _) (mk_lt 62 _) ?_)
          refine go_lor dx_X1_beginnersOf_61 ?_
          refine go_asL (y := (mk 62 (bjs R pl' m (l + 1) (k + 1)) : Int)) (by rw [bw_orN h63 (mk_63 62 _ (by decide)), mk_or]; refine congrArg _ (mk_congr (fun x _ => ⟨fun q => ?_, fun q => ?_⟩)); (· rcases q with ⟨e, he, e1, k', k1, k2, k3, k4, k5⟩ | ⟨e, he, e1, q1, q2⟩; (· exact ⟨e, he, e1, k', k1, by omega, k3, k4, k5⟩); (· exact ⟨e, he, e1, k, by omega, by omega, by omega, (dp_congr hpl (by omega)).mp ((dp_bit hR).mp q1), ((mk_bit _ _ _).mp q2).2⟩)); (· obtain ⟨e, he, e1, k', k1, k2, k3, k4, k5⟩ := q; by_cases z : k' = k; (· subst z; exact Or.inr ⟨e, he, e1, (dp_bit hR).mpr ((dp_congr hpl (by omega)).mpr k4), (mk_bit _ _ _).mpr ⟨bgn_62 hR k5, k5⟩⟩); (· exact Or.inl ⟨e, he, e1, k', k1, by omega, k3, k4, k5⟩))) ?_
          refine go_lstore (lv' := [(0, vv_A o), (1, vv_A p), (2, vv_I (l : Int)), (3, vv_L (s : Int)), (5, vv_I (m : Int)), (6, vv_L (mk 62 (bjs R pl' m (l + 1) (k + 1)) : Int)), (8, vv_I (k : Int))]) dx_X1_beginnersOf_62 (by decide) rfl ?_
          refine go_iinc (lv' := [(0, vv_A o), (1, vv_A p), (2, vv_I (l : Int)), (3, vv_L (s : Int)), (5, vv_I (m : Int)), (6, vv_L (mk 62 (bjs R pl' m (l + 1) (k + 1)) : Int)), (8, vv_I ((k : Int) + 1))]) dx_X1_beginnersOf_64 rfl (by decide) rfl ?_
          refine go_goto (tgt := 32) dx_X1_beginnersOf_67 rfl ?_
          exact ih2 () (by omega) _ rfl
        ) (fun _ _ lv0 e0 => by
          subst e0
          refine go_iload dx_X1_beginnersOf_32 rfl ?_
          refine go_iload_n (i := 2) dx_X1_beginnersOf_34 rfl rfl ?_
          refine go_icmp_gt (tgt := 70) dx_X1_beginnersOf_35 rfl (by omega) (by omega) (fun c35 => ?_) (fun c35 => by exact absurd c35 (by omega))
          refine go_aload_n (i := 0) dx_X1_beginnersOf_70 rfl rfl ?_
          refine go_getA (b := (o + 4)) fs_X1_26 rfl (ch_k0 ho) (ch_r4 ho) dx_X1_beginnersOf_71 ?_
          refine go_iload dx_X1_beginnersOf_74 rfl ?_
          refine go_aload_n (i := 1) dx_X1_beginnersOf_76 rfl rfl ?_
          refine go_lload dx_X1_beginnersOf_77 rfl ?_
          refine go_cV1 sv_X1_92 (bi_k0 hp) dx_X1_beginnersOf_79 (Nat.le_of_ble_eq_true rfl) (Nat.le_of_ble_eq_true rfl) (g_Binary_openAll hp hb1 (mk_lt 62 _) (mk_lt 62 _) hf1 ?_)
          refine go_asL (y := (mk 62 (bgn R pl' m (l + 1)) : Int)) (by refine congrArg _ (mk_congr (fun x _ => bgn_oc hR (by omega) (fun c => hlet m c (by omega)) (fun x => ?_))); rw [mk_bit]; exact ⟨fun ⟨_, e, he, e1, k, k1, k2, k3, k4, k5⟩ => Or.inr ⟨e, he, e1, k, k1, k3, k4, k5⟩, fun q => q.elim (fun z => absurd z.1 (by omega)) (fun ⟨e, he, e1, k, k1, k2, k4, k5⟩ => ⟨by rw [← e1]; exact (pe_lt62 hR he).1, e, he, e1, k, k1, k2, k2, k4, k5⟩)⟩) ?_
          refine go_cS3 ss_X1_64 dx_X1_beginnersOf_82 (Nat.le_of_ble_eq_true rfl) (Nat.le_of_ble_eq_true rfl) (g_putLongN (i := m) (ch_k4 ho) (by omega) (by rw [(ch_l4 ho)]; omega) ?_)
          refine go_iinc (lv' := [(0, vv_A o), (1, vv_A p), (2, vv_I (l : Int)), (3, vv_L (s : Int)), (5, vv_I ((m : Int) + (-1))), (6, vv_L (mk 62 (bjs R pl' m (l + 1) (l + 1)) : Int)), (8, vv_I ((l + 1 : Nat) : Int))]) dx_X1_beginnersOf_85 rfl (by decide) rfl ?_
          refine go_goto (tgt := 18) dx_X1_beginnersOf_88 rfl ?_
          refine go_keep [0, 1, 2, 3, 4] rfl ?_
          refine ih _ ⟨by omega, fun i hi hil => ?_, fun c j hc => by rw [wr_a _ _ _ _ hc]; exact i2 c j hc⟩
          by_cases q : i = m
          · subst q; rw [wr_eq]
          · rw [wr_i _ _ _ _ q]; exact i1 i (by omega) hil
        )
      rw [show ((m + 1 : Nat) : Int) - 1 = (m : Int) by omega]
      refine go_iload dx_X1_beginnersOf_18 rfl ?_
      refine go_if_lt (tgt := 91) dx_X1_beginnersOf_20 rfl (by omega) (fun c20 => by exact absurd c20 (by omega)) (fun c20 => ?_)
      refine go_lconst (x := 0) dx_X1_beginnersOf_23 rfl ?_
      refine go_lstore (lv' := [(0, vv_A o), (1, vv_A p), (2, vv_I (l : Int)), (3, vv_L (s : Int)), (5, vv_I (m : Int)), (6, vv_L 0)]) dx_X1_beginnersOf_24 (by decide) rfl ?_
      refine go_iload dx_X1_beginnersOf_26 rfl ?_
      refine go_iconst dx_X1_beginnersOf_28 ?_
      refine go_iadd dx_X1_beginnersOf_29 ?_
      refine go_istore (lv' := [(0, vv_A o), (1, vv_A p), (2, vv_I (l : Int)), (3, vv_L (s : Int)), (5, vv_I (m : Int)), (6, vv_L 0), (8, vv_I ((m + 1 : Nat) : Int))]) dx_X1_beginnersOf_30 (by decide) rfl ?_
      exact inner (m + 1) () (by omega) (Nat.le_refl _) _ (by rw [mk_zero (P := bjs R pl' m (l + 1) (m + 1)) (fun x _ ⟨e, he, e1, k, k1, k2, k3, k4⟩ => by omega)]; rfl)
    ) (fun δ1 hI => by
      obtain ⟨i0, i1, i2⟩ := hI
      refine go_iload dx_X1_beginnersOf_18 rfl ?_
      refine go_if_lt (tgt := 91) dx_X1_beginnersOf_20 rfl (by omega) (fun c20 => ?_) (fun c20 => by exact absurd c20 (by omega))
      refine go_aload_n (i := 0) dx_X1_beginnersOf_91 rfl rfl ?_
      refine go_getA (b := (o + 4)) fs_X1_26 rfl (ch_k0 ho) (ch_r4 ho) dx_X1_beginnersOf_92 ?_
      refine go_iconst dx_X1_beginnersOf_95 ?_
      refine go_cS2 ss_X1_80 dx_X1_beginnersOf_96 (Nat.le_of_ble_eq_true rfl) (Nat.le_of_ble_eq_true rfl) (g_longAtV (i := 0) (v := ((mk 62 (bgn R pl' 0 (l + 1)) : Int))) (ch_k4 ho) (by omega) (by rw [(ch_l4 ho)]; omega) (by exact i1 0 (Nat.le_refl _) (Nat.zero_le _)) ?_)
      refine go_lreturn dx_X1_beginnersOf_99 rfl (Nat.le_refl _) (Nat.le_refl _) ?_
      exact hQ δ1 i2
    )
  refine go_aload_n (i := 0) dx_X1_beginnersOf_0 rfl rfl ?_
  refine go_getA (b := (o + 4)) fs_X1_26 rfl (ch_k0 ho) (ch_r4 ho) dx_X1_beginnersOf_1 ?_
  refine go_iload_n (i := 2) dx_X1_beginnersOf_4 rfl rfl ?_
  refine go_aload_n (i := 1) dx_X1_beginnersOf_5 rfl rfl ?_
  refine go_lload_n (i := 3) dx_X1_beginnersOf_6 rfl rfl ?_
  refine go_cV1 sv_X1_92 (bi_k0 hp) dx_X1_beginnersOf_7 (Nat.le_of_ble_eq_true rfl) (Nat.le_of_ble_eq_true rfl) (g_Binary_openAll hp hb hs (mk_lt 62 _) hf ?_)
  refine go_asL (y := (mk 62 (bgn R pl' l (l + 1)) : Int)) (by refine congrArg _ (mk_congr (fun x _ => bgn_oc hR (by omega) (fun c => hlet l c (Nat.le_refl _)) (fun x => ?_))); rw [hsl]; exact ⟨fun q => Or.inl ⟨rfl, q⟩, fun q => q.elim (fun z => z.2) (fun ⟨e, he, e1, k, k1, k2, k4, k5⟩ => by omega)⟩) ?_
  refine go_cS3 ss_X1_64 dx_X1_beginnersOf_10 (Nat.le_of_ble_eq_true rfl) (Nat.le_of_ble_eq_true rfl) (g_putLongN (i := l) (ch_k4 ho) (by omega) (by rw [(ch_l4 ho)]; omega) ?_)
  refine go_iload_n (i := 2) dx_X1_beginnersOf_13 rfl rfl ?_
  refine go_iconst dx_X1_beginnersOf_14 ?_
  refine go_isub dx_X1_beginnersOf_15 ?_
  refine go_istore (lv' := [(0, vv_A o), (1, vv_A p), (2, vv_I (l : Int)), (3, vv_L (s : Int)), (5, vv_I ((l : Int) - 1))]) dx_X1_beginnersOf_16 (by decide) rfl ?_
  exact outer l _ ⟨Nat.le_refl _, fun i hi hil => by rw [show i = l by omega, wr_eq], fun c j hc => wr_a _ _ _ _ hc _⟩
end GCHART3
