/-! the reference: least lengths -/
def sq (v : Nat → Nat) : List Nat → Nat
  | [] => 0
  | x :: l => v x + sq v l
theorem sq_le {v : Nat → Nat} {b : Nat} : ∀ {l : List Nat}, (∀ x ∈ l, v x ≤ b) → sq v l ≤ l.length * b
  | [], _ => Nat.zero_le _
  | x :: l, h => by
    have h1 := sq_le (l := l) (fun y hy => h y (List.mem_cons_of_mem _ hy))
    have h2 := h x (List.mem_cons_self ..)
    show v x + sq v l ≤ (l.length + 1) * b
    rw [Nat.add_mul, Nat.one_mul]
    omega
theorem sq_mem {v : Nat → Nat} {x : Nat} : ∀ {l : List Nat}, x ∈ l → v x ≤ sq v l
  | y :: l, h => by
    show v x ≤ v y + sq v l
    rcases List.mem_cons.mp h with e | e
    · subst e; omega
    · have := sq_mem (v := v) e; omega
theorem sq_snoc {v : Nat → Nat} {x : Nat} : ∀ {l : List Nat}, sq v (l ++ [x]) = sq v l + v x
  | [] => by show v x + 0 = 0 + v x; omega
  | y :: l => by
    show v y + sq v (l ++ [x]) = v y + sq v l + v x
    rw [sq_snoc (l := l)]; omega
theorem su_lt {n k : Nat} {f g : Nat → Nat} (hk : k < n) (h : ∀ x, x < n → f x ≤ g x) (h2 : f k < g k) : su n f < su n g := by
  induction n with
  | zero => exact absurd hk (Nat.not_lt_zero _)
  | succ n ih =>
    rw [su_s, su_s]
    by_cases e : k = n
    · subst e
      have := su_le (n := k) (fun x hx => h x (by omega))
      omega
    · have := ih (by omega) (fun x hx => h x (by omega))
      have := h n (by omega)
      omega
def lst_c (v : Nat → Nat) : Nat → Prop := fun y => v y < 268435456
def lst_ok (R : Nat → List Nat) (v : Nat → Nat) : Prop := (∀ x, x < 14 → v x ≤ 268435456) ∧ (∀ x, 8 ≤ x → x < 14 → v x = 1) ∧ ∀ x, x < 14 → v x < 268435456 → (∃ u : List Nat, u.length = v x ∧ ds R [x] u) ∧ v x ≤ 5 ^ cn 8 (lst_c v)
def lst_cl (R : Nat → List Nat) (v : Nat → Nat) (n : Nat) : Prop := ∀ r, r < n → ∀ x q, R r = x :: q → q ≠ [] → v x ≤ sq v q ∨ 268435456 ≤ sq v q
theorem lst_b {v : Nat → Nat} : 5 ^ cn 8 (lst_c v) ≤ 390625 := Nat.pow_le_pow_right (n := 5) (by decide) (cn_le 8 _)
theorem lst_fin {v : Nat → Nat} {l : List Nat} (h : sq v l < 268435456) : ∀ x ∈ l, v x < 268435456 := fun x hx => Nat.lt_of_le_of_lt (sq_mem hx) h
section GLST
variable {R : Nat → List Nat} {v : Nat → Nat}
theorem lst_sum (h : lst_ok R v) : ∀ {l : List Nat}, (∀ x ∈ l, x < 14) → (∀ x ∈ l, v x < 268435456) → ∃ u : List Nat, u.length = sq v l ∧ ds R l u
  | [], _, _ => ⟨[], rfl, ds_nil⟩
  | x :: l, h1, h2 => by
    obtain ⟨a, a1, a2⟩ := (h.2.2 x (h1 x (List.mem_cons_self ..)) (h2 x (List.mem_cons_self ..))).1
    obtain ⟨b, b1, b2⟩ := lst_sum h (l := l) (fun y hy => h1 y (List.mem_cons_of_mem _ hy)) (fun y hy => h2 y (List.mem_cons_of_mem _ hy))
    exact ⟨a ++ b, by rw [List.length_append, a1, b1]; rfl, ds_app (l := [x]) a2 b2⟩
theorem lst_up (h : lst_ok R v) {r x : Nat} {q : List Nat} (hr : r < 16) (e : R r = x :: q) (hq : q ≠ []) (hx : x < 8) (hl : ∀ y ∈ q, y < 14) (h5 : q.length ≤ 5) (h1 : sq v q < 268435456) (h2 : sq v q < v x) :
    lst_ok R (fun y => if y = x then sq v q else v y) := by
  have hf := lst_fin h1
  obtain ⟨u, u1, u2⟩ := lst_sum h hl hf
  have hdx : ds R [x] u := by
    have := ds_rule hr e hq hx u2 (ds_nil (R := R))
    rwa [List.append_nil] at this
  have hle : ∀ y ∈ q, v y ≤ 5 ^ cn 8 (lst_c v) := fun y hy => (h.2.2 y (hl y hy) (hf y hy)).2
  have hs := sq_le hle
  have hmono : ∀ y, y < 8 → lst_c v y → lst_c (fun y => if y = x then sq v q else v y) y := fun y _ hy => by
    show (if y = x then sq v q else v y) < 268435456
    split
    · exact h1
    · exact hy
  have hpow : 5 ^ cn 8 (lst_c v) ≤ 5 ^ cn 8 (lst_c (fun y => if y = x then sq v q else v y)) := Nat.pow_le_pow_right (by decide) (cn_mono hmono)
  have hnew : sq v q ≤ 5 ^ cn 8 (lst_c (fun y => if y = x then sq v q else v y)) := by
    by_cases hf2 : v x < 268435456
    · have := (h.2.2 x (by omega) hf2).2
      omega
    · have hlt := cn_lt hmono hx (show lst_c (fun y => if y = x then sq v q else v y) x by show (if x = x then _ else _) < _; rw [if_pos rfl]; exact h1) hf2
      have h6 : 5 ^ (cn 8 (lst_c v) + 1) ≤ 5 ^ cn 8 (lst_c (fun y => if y = x then sq v q else v y)) := Nat.pow_le_pow_right (by decide) hlt
      rw [Nat.pow_succ] at h6
      have h7 : q.length * 5 ^ cn 8 (lst_c v) ≤ 5 * 5 ^ cn 8 (lst_c v) := Nat.mul_le_mul_right _ h5
      omega
  refine ⟨fun y hy => ?_, fun y h8 hy => ?_, fun y hy hyf => ?_⟩
  · show (if y = x then sq v q else v y) ≤ _
    split
    · omega
    · exact h.1 y hy
  · show (if y = x then sq v q else v y) = 1
    rw [if_neg (by omega)]
    exact h.2.1 y h8 hy
  · by_cases ey : y = x
    · subst ey
      dsimp only
      rw [if_pos rfl]
      exact ⟨⟨u, u1, hdx⟩, hnew⟩
    · dsimp only at hyf ⊢
      rw [if_neg ey] at hyf ⊢
      exact ⟨(h.2.2 y hy hyf).1, Nat.le_trans (h.2.2 y hy hyf).2 hpow⟩
theorem lst_ds (hR : ∀ r, rl_ok (R r)) (h : lst_ok R v) (hc : lst_cl R v 16) {l u : List Nat} (hd : ds R l u) : (∀ x ∈ l, v x < 268435456) ∧ sq v l ≤ u.length := by
  refine ds_ind (P := fun l u => (∀ x ∈ l, v x < 268435456) ∧ sq v l ≤ u.length) ⟨fun x hx => (nomatch hx), Nat.le_refl _⟩ (fun c l u a b _ q => ?_) (fun r x q l u w a b c e _ _ g k => ?_) hd
  · have := h.2.1 c a b
    refine ⟨fun x hx => ?_, ?_⟩
    · rcases List.mem_cons.mp hx with z | z
      · subst z; omega
      · exact q.1 x z
    · show v c + sq v l ≤ (c :: u).length
      rw [List.length_cons]
      have := q.2
      omega
  · have hok := hR r
    have hlen := hok.len
    have hl14 : ∀ y ∈ q, y < 14 := fun y hy => by
      rcases hok with z | ⟨_, _, _, z⟩
      · rw [b] at z; cases z
      · exact z y (by rw [b]; exact List.mem_cons_of_mem _ hy)
    have hb : sq v q ≤ q.length * 390625 := sq_le (fun y hy => Nat.le_trans (h.2.2 y (hl14 y hy) (g.1 y hy)).2 lst_b)
    rw [b, List.length_cons] at hlen
    have hx := hc r a x q b c
    have := g.2
    have := k.2
    have hvx : v x ≤ sq v q := by
      rcases hx with z | z
      · exact z
      · omega
    refine ⟨fun y hy => ?_, ?_⟩
    · rcases List.mem_cons.mp hy with z | z
      · subst z; omega
      · exact k.1 y z
    · show v x + sq v l ≤ (u ++ w).length
      rw [List.length_append]
      omega
/-- what sums of a row come to -/
def lst_v (v : Nat → Nat) (l : List Nat) : Nat := if sq v l < 268435456 then sq v l else 268435456
theorem lst_li (hR : ∀ r, rl_ok (R r)) (h : lst_ok R v) (hc : lst_cl R v 16) {l : List Nat} (hl : ∀ x ∈ l, x < 14) (h5 : l.length ≤ 5) : (if lst_v v l = 268435456 then (-1 : Int) else (lst_v v l : Int)) = li (fun n => ∃ u : List Nat, u.length = n ∧ ds R l u) := by
  by_cases q : sq v l < 268435456
  · obtain ⟨u, u1, u2⟩ := lst_sum h hl (lst_fin q)
    unfold lst_v
    rw [if_pos q, if_neg (by omega), li_t (n := sq v l) ⟨u, u1, u2⟩ (fun m ⟨w, w1, w2⟩ => by rw [← w1]; exact (lst_ds hR h hc w2).2)]
  · unfold lst_v
    rw [if_neg q, if_pos rfl, li_f]
    rintro n ⟨u, u1, u2⟩
    obtain ⟨a1, a2⟩ := lst_ds hR h hc u2
    have hb : sq v l ≤ l.length * 390625 := sq_le (fun y hy => Nat.le_trans (h.2.2 y (hl y hy) (a1 y hy)).2 lst_b)
    have : l.length * 390625 ≤ 5 * 390625 := Nat.mul_le_mul_right _ h5
    omega
theorem sm_mem (hR : ∀ r, rl_ok (R r)) {x : Nat} (hx : x < 14 + (gH R).length) : (∀ y ∈ sm R x, y < 14) ∧ sm R x ≠ [] := by
  by_cases q : x < 14
  · rw [sm_lo q]
    exact ⟨fun y hy => by rw [List.mem_singleton.mp hy]; exact q, List.cons_ne_nil _ _⟩
  · obtain ⟨r, k, hr, hk, e⟩ := gH_idx (show x - 14 < (gH R).length by omega)
    rw [show x = 14 + (gh R r).length + k by omega, sm_hi hr hk]
    refine ⟨fun y hy => ?_, fun z => ?_⟩
    · rcases hR r with w | ⟨_, _, _, w⟩
      · rw [w] at hk; simp at hk
      · exact w y (List.mem_of_mem_drop hy)
    · have := congrArg List.length z
      rw [List.length_drop, List.length_nil] at this
      omega
theorem ll_li (hR : ∀ r, rl_ok (R r)) {x : Nat} (hx : x < 14 + (gH R).length) : ll R x = li (fun n => ∃ u : List Nat, u.length = n ∧ ds R (sm R x) u) := by
  unfold ll
  refine li_congr (fun n => ⟨fun ⟨u, a, b⟩ => ⟨u, a, b.2⟩, fun ⟨u, a, b⟩ => ⟨u, a, fun z => ?_, b⟩⟩)
  have := ds_len b
  rw [z, List.length_nil] at this
  exact (sm_mem hR hx).2 (List.length_eq_zero_iff.mp (by omega))
theorem lst_ll (hR : ∀ r, rl_ok (R r)) (h : lst_ok R v) (hc : lst_cl R v 16) {x : Nat} (hx : x < 14 + (gH R).length) : (if lst_v v (sm R x) = 268435456 then (-1 : Int) else (lst_v v (sm R x) : Int)) = ll R x := by
  rw [ll_li hR hx]
  exact lst_li hR h hc (sm_mem hR hx).1 (sm_len hR x)
theorem frt_ll {x : Nat} : frt R x ↔ ll R x ≠ -1 := by
  unfold frt ll
  rcases li_cases (fun n => ∃ u : List Nat, u.length = n ∧ dx R x u) with ⟨a, b⟩ | ⟨n, a, b, _⟩
  · rw [a]; exact ⟨fun ⟨u, hu⟩ => absurd ⟨u, rfl, hu⟩ (b u.length), fun q => absurd rfl q⟩
  · rw [a]; exact ⟨fun _ => by omega, fun _ => by obtain ⟨u, _, hu⟩ := b; exact ⟨u, hu⟩⟩
theorem lst_frt (hR : ∀ r, rl_ok (R r)) (h : lst_ok R v) (hc : lst_cl R v 16) {x : Nat} (hx : x < 14) : v x < 268435456 ↔ frt R x := by
  rw [frt_ll, ← lst_ll hR h hc (show x < 14 + (gH R).length by omega), sm_lo hx]
  have hv := h.1 x hx
  unfold lst_v
  show _ ↔ (if (if v x + 0 < 268435456 then v x + 0 else 268435456) = 268435456 then (-1 : Int) else _) ≠ -1
  by_cases q : v x + 0 < 268435456
  · rw [if_pos q, if_neg (by omega)]; omega
  · rw [if_neg q, if_pos rfl]; omega
end GLST
def le_at (δ : Nat → Nat → Int) (v : Nat → Nat) : Prop := ∀ x, x < 14 → δ 105 x = (v x : Int)
section GMLE
variable {E : go_E} {d : Nat} {δ : Nat → Nat → Int} {Q : List go_V → go_F → (Nat → Nat → Int) → Prop} {K : sK} {R : Nat → List Nat} {v : Nat → Nat}
theorem m_sumFrom {r p : Nat} (h : bo_at δ R) (hv : le_at δ v) (hb : ∀ x, x < 14 → v x ≤ 268435456) (hr : r < 16) (hp : p + 1 ≤ (R r).length) (hQ : Q [vv_I (lst_v v ((R r).drop (p + 1)) : Int)] go_φ δ) :
    Go E (d + 1) (0, 0) mx_X12_sumFrom go_φ 0 [(0, vv_A 94), (1, vv_I (r : Int)), (2, vv_I (p : Int))] [] δ Q := by
  have hok := h.1 r
  have hlen := hok.len
  have l105 : go_ln 105 = 14 := rfl
  have hg : ∀ k, k < (R r).length → (R r).getD k 0 < 14 := fun k hk => rl_getD_lt hok hk
  have loop := lp_up (X := Unit) (hi := (R r).length - 1 - p) (I := fun _ _ => True)
    (G := fun k _ => ∀ lv0, lv0 = [(0, vv_A 94), (1, vv_I (r : Int)), (2, vv_I (p : Int)), (3, vv_I (sq v (((R r).drop (p + 1)).take k) : Int)), (4, vv_I ((p + k : Nat) : Int))] → Go E (d + 1) (0, 0) mx_X12_sumFrom go_φ 5 lv0 [] δ Q)
    (fun k _ hk _ ih lv0 e0 => by
      subst e0
      have hx := hg (p + k + 1) (by omega)
      have e : sq v (((R r).drop (p + 1)).take (k + 1)) = sq v (((R r).drop (p + 1)).take k) + v ((R r).getD (p + k + 1) 0) := by
        have : ((R r).drop (p + 1)).take (k + 1) = ((R r).drop (p + 1)).take k ++ [(R r).getD (p + k + 1) 0] := by
          rw [List.take_add_one, List.getElem?_drop, List.getD_eq_getElem?_getD, show p + 1 + k = p + k + 1 by omega, List.getElem?_eq_getElem (by omega)]
          rfl
        rw [this, sq_snoc]
      have hs : sq v (((R r).drop (p + 1)).take k) ≤ 5 * 268435456 := by
        refine Nat.le_trans (sq_le (b := 268435456) (fun x hx => ?_)) (Nat.mul_le_mul_right _ (by rw [List.length_take, List.length_drop]; omega))
        rcases hok with w | ⟨_, _, _, w⟩
        · rw [w] at hk; simp at hk
        · exact hb x (w x (List.mem_of_mem_drop (List.mem_of_mem_take hx)))
      have hvx := hb _ hx
      refine go_iload dx_X12_sumFrom_5 rfl ?_
      refine go_aload_n (i := 0) dx_X12_sumFrom_7 rfl rfl ?_
      refine go_iload_n (i := 1) dx_X12_sumFrom_8 rfl rfl ?_
      refine go_cV1 sv_X12_148 (go_ok rfl rfl) dx_X12_sumFrom_9 (Nat.le_of_ble_eq_true rfl) (Nat.le_of_ble_eq_true rfl) (o_longOf h hr ?_)
      refine go_icmp_ge (tgt := 36) dx_X12_sumFrom_12 rfl (by omega) (by omega) (fun c12 => by exact absurd c12 (by omega)) (fun c12 => ?_)
      refine go_iload_n (i := 3) dx_X12_sumFrom_15 rfl rfl ?_
      refine go_aload_n (i := 0) dx_X12_sumFrom_16 rfl rfl ?_
      refine go_getA (b := 105) fs_X12_45 rfl (go_ok rfl rfl) rfl dx_X12_sumFrom_17 ?_
      refine go_aload_n (i := 0) dx_X12_sumFrom_20 rfl rfl ?_
      refine go_iload_n (i := 1) dx_X12_sumFrom_21 rfl rfl ?_
      refine go_iload dx_X12_sumFrom_22 rfl ?_
      refine go_cV2 sv_X12_190 (go_ok rfl rfl) dx_X12_sumFrom_24 (Nat.le_of_ble_eq_true rfl) (Nat.le_of_ble_eq_true rfl) (o_partOf h hr (by omega) ?_)
      refine go_ialoadV (i := ((R r).getD (p + k + 1) 0)) (v := ((v ((R r).getD (p + k + 1) 0) : Int))) dx_X12_sumFrom_27 (go_ok rfl rfl) (by omega) (show ((R r).getD (p + k + 1) 0) < 14 by omega) (by exact hv _ hx) ?_
      refine go_iadd dx_X12_sumFrom_28 ?_
      refine go_asI (y := (sq v (((R r).drop (p + 1)).take (k + 1)) : Int)) (by rw [e]; omega) ?_
      refine go_istore_n (i := 3) (lv' := [(0, vv_A 94), (1, vv_I (r : Int)), (2, vv_I (p : Int)), (3, vv_I (sq v (((R r).drop (p + 1)).take (k + 1)) : Int)), (4, vv_I ((p + k : Nat) : Int))]) dx_X12_sumFrom_29 rfl (by decide) rfl ?_
      refine go_iinc (lv' := [(0, vv_A 94), (1, vv_I (r : Int)), (2, vv_I (p : Int)), (3, vv_I (sq v (((R r).drop (p + 1)).take (k + 1)) : Int)), (4, vv_I (((p + k : Nat) : Int) + 1))]) dx_X12_sumFrom_30 rfl (by decide) rfl ?_
      refine go_goto (tgt := 5) dx_X12_sumFrom_33 rfl ?_
      exact ih () trivial _ rfl
    ) (fun _ _ lv0 e0 => by
      subst e0
      have e : ((R r).drop (p + 1)).take ((R r).length - 1 - p) = (R r).drop (p + 1) := List.take_of_length_le (by rw [List.length_drop]; omega)
      have hs : sq v ((R r).drop (p + 1)) ≤ 5 * 268435456 := by
        refine Nat.le_trans (sq_le (b := 268435456) (fun x hx => ?_)) (Nat.mul_le_mul_right _ (by rw [List.length_drop]; omega))
        rcases hok with w | ⟨_, _, _, w⟩
        · rw [w] at hp; simp at hp
        · exact hb x (w x (List.mem_of_mem_drop hx))
      unfold lst_v at hQ
      rw [e]
      refine go_iload dx_X12_sumFrom_5 rfl ?_
      refine go_aload_n (i := 0) dx_X12_sumFrom_7 rfl rfl ?_
      refine go_iload_n (i := 1) dx_X12_sumFrom_8 rfl rfl ?_
      refine go_cV1 sv_X12_148 (go_ok rfl rfl) dx_X12_sumFrom_9 (Nat.le_of_ble_eq_true rfl) (Nat.le_of_ble_eq_true rfl) (o_longOf h hr ?_)
      refine go_icmp_ge (tgt := 36) dx_X12_sumFrom_12 rfl (by omega) (by omega) (fun c12 => ?_) (fun c12 => by exact absurd c12 (by omega))
      refine go_iload_n (i := 3) dx_X12_sumFrom_36 rfl rfl ?_
      refine go_ldc (x := 268435456) kx_X12_231 dx_X12_sumFrom_37 ?_
      refine go_icmp_ge (tgt := 46) dx_X12_sumFrom_39 rfl (by omega) (by omega) (fun c39 => ?_) (fun c39 => ?_)
      · refine go_ldc (x := 268435456) kx_X12_231 dx_X12_sumFrom_46 ?_
        refine go_ireturn dx_X12_sumFrom_48 rfl (Nat.le_refl _) (Nat.le_refl _) ?_
        first | (rw [if_pos (by omega)] at hQ; exact hQ) | (rw [if_neg (by omega)] at hQ; exact hQ)
      · refine go_iload_n (i := 3) dx_X12_sumFrom_42 rfl rfl ?_
        refine go_goto (tgt := 48) dx_X12_sumFrom_43 rfl ?_
        refine go_ireturn dx_X12_sumFrom_48 rfl (Nat.le_refl _) (Nat.le_refl _) ?_
        first | (rw [if_pos (by omega)] at hQ; exact hQ) | (rw [if_neg (by omega)] at hQ; exact hQ)
    )
  refine go_iconst dx_X12_sumFrom_0 ?_
  refine go_istore_n (i := 3) (lv' := [(0, vv_A 94), (1, vv_I (r : Int)), (2, vv_I (p : Int)), (3, vv_I 0)]) dx_X12_sumFrom_1 rfl (by decide) rfl ?_
  refine go_iload_n (i := 2) dx_X12_sumFrom_2 rfl rfl ?_
  refine go_istore (lv' := [(0, vv_A 94), (1, vv_I (r : Int)), (2, vv_I (p : Int)), (3, vv_I 0), (4, vv_I (p : Int))]) dx_X12_sumFrom_3 (by decide) rfl ?_
  have k := loop 0 () (Nat.zero_le _) trivial _ rfl
  exact k
theorem lst_v_le (v : Nat → Nat) (l : List Nat) : lst_v v l ≤ 268435456 := by unfold lst_v; split <;> omega
theorem m_laysLeast (h : bo_at δ R) (hQ : ∀ δ' v, le_at δ' v → lst_ok R v → lst_cl R v 16 → (∀ c j, c ≠ 105 → δ' c j = δ c j) → Q [] go_φ δ') :
    Go E (d + 2) (0, 0) mx_X12_laysLeast go_φ 0 [(0, vv_A 94)] [] δ Q := by
  have hR := h.1
  have l105 : go_ln 105 = 14 := rfl
  have outer := lp_wf (X := (Nat → Nat → Int) × (Nat → Nat) × Nat) (fun X => 2 * su 8 X.2.1 + X.2.2)
    (I := fun X => le_at X.1 X.2.1 ∧ lst_ok R X.2.1 ∧ (∀ c j, c ≠ 105 → X.1 c j = δ c j) ∧ (X.2.2 = 0 ∨ X.2.2 = 1) ∧ (X.2.2 = 0 → lst_cl R X.2.1 16))
    (G := fun X => Go E (d + 2) (0, 0) mx_X12_laysLeast go_φ 34 [(0, vv_A 94), (1, vv_I (X.2.2 : Int))] [] X.1 Q) (fun X hI ih => ?_)
  · have first := lp_up (X := Nat → Nat → Int) (hi := 14) (I := fun x δ1 => (∀ y, y < x → δ1 105 y = ((if y < 8 then 268435456 else 1 : Nat) : Int)) ∧ (∀ c j, c ≠ 105 → δ1 c j = δ c j))
      (G := fun x δ1 => Go E (d + 2) (0, 0) mx_X12_laysLeast go_φ 2 [(0, vv_A 94), (1, vv_I (x : Int))] [] δ1 Q) (fun x δ1 hx hI ih => ?_) (fun δ1 hI => ?_)
    · refine go_iconst dx_X12_laysLeast_0 ?_
      refine go_istore_n (i := 1) (lv' := [(0, vv_A 94), (1, vv_I 0)]) dx_X12_laysLeast_1 rfl (by decide) rfl ?_
      exact first 0 δ (Nat.zero_le _) ⟨fun y hy => absurd hy (Nat.not_lt_zero _), fun _ _ _ => rfl⟩
    · refine go_iload_n (i := 1) dx_X12_laysLeast_2 rfl rfl ?_
      refine go_bipush dx_X12_laysLeast_3 rfl ?_
      refine go_icmp_ge (tgt := 32) dx_X12_laysLeast_5 rfl (by omega) (by omega) (fun c5 => by exact absurd c5 (by omega)) (fun c5 => ?_)
      refine go_aload_n (i := 0) dx_X12_laysLeast_8 rfl rfl ?_
      refine go_getA (b := 105) fs_X12_45 rfl (go_ok rfl rfl) rfl dx_X12_laysLeast_9 ?_
      refine go_iload_n (i := 1) dx_X12_laysLeast_12 rfl rfl ?_
      refine go_iload_n (i := 1) dx_X12_laysLeast_13 rfl rfl ?_
      refine go_bipush dx_X12_laysLeast_14 rfl ?_
      refine go_icmp_ge (tgt := 24) dx_X12_laysLeast_16 rfl (by omega) (by omega) (fun c16 => ?_) (fun c16 => ?_)
      · refine go_iconst dx_X12_laysLeast_24 ?_
        refine go_iastoreV (i := x) dx_X12_laysLeast_25 (go_ok rfl rfl) (by omega) (show x < 14 by omega) ?_
        refine go_iinc (lv' := [(0, vv_A 94), (1, vv_I ((x : Int) + 1))]) dx_X12_laysLeast_26 rfl (by decide) rfl ?_
        refine go_goto (tgt := 2) dx_X12_laysLeast_29 rfl ?_
        refine ih _ ⟨fun y hy => ?_, fun c j hc => by rw [wr_a _ _ _ _ hc]; exact hI.2 c j hc⟩
        by_cases q : y = x
        · subst q; rw [wr_eq]; first | rw [if_pos (by omega)]; rfl | rw [if_neg (by omega)]; rfl
        · rw [wr_i _ _ _ _ q]; exact hI.1 y (by omega)
      · refine go_ldc (x := 268435456) kx_X12_231 dx_X12_laysLeast_19 ?_
        refine go_goto (tgt := 25) dx_X12_laysLeast_21 rfl ?_
        refine go_iastoreV (i := x) dx_X12_laysLeast_25 (go_ok rfl rfl) (by omega) (show x < 14 by omega) ?_
        refine go_iinc (lv' := [(0, vv_A 94), (1, vv_I ((x : Int) + 1))]) dx_X12_laysLeast_26 rfl (by decide) rfl ?_
        refine go_goto (tgt := 2) dx_X12_laysLeast_29 rfl ?_
        refine ih _ ⟨fun y hy => ?_, fun c j hc => by rw [wr_a _ _ _ _ hc]; exact hI.2 c j hc⟩
        by_cases q : y = x
        · subst q; rw [wr_eq]; first | rw [if_pos (by omega)]; rfl | rw [if_neg (by omega)]; rfl
        · rw [wr_i _ _ _ _ q]; exact hI.1 y (by omega)
    · refine go_iload_n (i := 1) dx_X12_laysLeast_2 rfl rfl ?_
      refine go_bipush dx_X12_laysLeast_3 rfl ?_
      refine go_icmp_ge (tgt := 32) dx_X12_laysLeast_5 rfl (by omega) (by omega) (fun c5 => ?_) (fun c5 => by exact absurd c5 (by omega))
      refine go_iconst dx_X12_laysLeast_32 ?_
      refine go_istore_n (i := 1) (lv' := [(0, vv_A 94), (1, vv_I 1)]) dx_X12_laysLeast_33 rfl (by decide) rfl ?_
      refine outer (δ1, (fun y => if y < 8 then 268435456 else 1), 1) ⟨fun y hy => hI.1 y hy, ⟨fun y hy => ?_, fun y h8 hy => if_neg (by omega), fun y hy hf => ?_⟩, hI.2, Or.inr rfl, fun q => absurd (show (1 : Nat) = 0 from q) (by decide)⟩
      · show (if y < 8 then 268435456 else 1) ≤ 268435456
        split <;> omega
      · have hy8 : ¬ y < 8 := fun q => by
          have : (if y < 8 then 268435456 else 1) < 268435456 := hf
          rw [if_pos q] at this
          omega
        show (∃ u : List Nat, u.length = (if y < 8 then 268435456 else 1) ∧ _) ∧ (if y < 8 then 268435456 else 1) ≤ _
        rw [if_neg hy8]
        exact ⟨⟨[y], rfl, ds_let (by omega) hy ds_nil⟩, Nat.one_le_pow _ _ (by decide)⟩
  · obtain ⟨δ1, v, m⟩ := X
    obtain ⟨j1, j2, j3, j4, j5⟩ := hI
    dsimp only at j1 j2 j3 j4 j5 ih ⊢
    have inner := lp_up (X := (Nat → Nat → Int) × (Nat → Nat) × Nat) (hi := 16)
      (I := fun r X => le_at X.1 X.2.1 ∧ lst_ok R X.2.1 ∧ (∀ c j, c ≠ 105 → X.1 c j = δ c j) ∧ ((X.2.2 = 0 ∧ X.2.1 = v ∧ lst_cl R v r) ∨ (X.2.2 = 1 ∧ su 8 X.2.1 < su 8 v)))
      (G := fun r X => m = 1 → Go E (d + 2) (0, 0) mx_X12_laysLeast go_φ 42 [(0, vv_A 94), (1, vv_I (X.2.2 : Int)), (2, vv_I (r : Int))] [] X.1 Q)
      (fun r X hr hI ih2 hm => ?_) (fun X hI hm => ?_)
    · rcases j4 with q | q
      · subst q
        refine go_iload_n (i := 1) dx_X12_laysLeast_34 rfl rfl ?_
        refine go_if_eq (tgt := 105) dx_X12_laysLeast_35 rfl (by omega) (fun c35 => ?_) (fun c35 => by exact absurd rfl c35)
        refine go_vreturn dx_X12_laysLeast_105 rfl (Nat.le_refl _) (Nat.le_refl _) ?_
        exact hQ δ1 v j1 j2 (j5 rfl) j3
      · subst q
        refine go_iload_n (i := 1) dx_X12_laysLeast_34 rfl rfl ?_
        refine go_if_eq (tgt := 105) dx_X12_laysLeast_35 rfl (by omega) (fun c35 => by exact absurd c35 (by decide)) (fun c35 => ?_)
        refine go_iconst dx_X12_laysLeast_38 ?_
        refine go_istore_n (i := 1) (lv' := [(0, vv_A 94), (1, vv_I 0)]) dx_X12_laysLeast_39 rfl (by decide) rfl ?_
        refine go_iconst dx_X12_laysLeast_40 ?_
        refine go_istore_n (i := 2) (lv' := [(0, vv_A 94), (1, vv_I 0), (2, vv_I 0)]) dx_X12_laysLeast_41 rfl (by decide) rfl ?_
        exact inner 0 (δ1, v, 0) (Nat.zero_le _) ⟨j1, j2, j3, Or.inl ⟨rfl, rfl, fun r' hr' => absurd hr' (Nat.not_lt_zero _)⟩⟩ rfl
    · obtain ⟨δ2, v2, m2⟩ := X
      obtain ⟨i1, i2, i3, i4⟩ := hI
      dsimp only at i1 i2 i3 i4 ih2 ⊢
      have hb2 : bo_at δ2 R := bo_fr h (fun j hj => i3 95 j (by decide))
      have hok := hR r
      have hlen := hok.len
      have ih3 : ∀ (δ3 : Nat → Nat → Int) (v3 : Nat → Nat), le_at δ3 v3 → lst_ok R v3 → (∀ c j, c ≠ 105 → δ3 c j = δ c j) → su 8 v3 < su 8 v → Go E (d + 2) (0, 0) mx_X12_laysLeast go_φ 42 [(0, vv_A 94), (1, vv_I 1), (2, vv_I ((r + 1 : Nat) : Int))] [] δ3 Q := fun δ3 v3 a b c e => ih2 (δ3, v3, 1) ⟨a, b, c, Or.inr ⟨rfl, e⟩⟩ hm
      have same : (∀ x q, R r = x :: q → q ≠ [] → v2 x ≤ sq v2 q ∨ 268435456 ≤ sq v2 q) → Go E (d + 2) (0, 0) mx_X12_laysLeast go_φ 42 [(0, vv_A 94), (1, vv_I (m2 : Int)), (2, vv_I ((r + 1 : Nat) : Int))] [] δ2 Q := fun hno =>
        ih2 (δ2, v2, m2) ⟨i1, i2, i3, i4.imp (fun ⟨a, b, c⟩ => ⟨a, b, fun r' hr' x q e hq => by
          by_cases z : r' = r
          · subst z; rw [← b]; exact hno x q e hq
          · exact c r' (by omega) x q e hq⟩) id⟩ hm
      refine go_iload_n (i := 2) dx_X12_laysLeast_42 rfl rfl ?_
      refine go_bipush dx_X12_laysLeast_43 rfl ?_
      refine go_icmp_ge (tgt := 102) dx_X12_laysLeast_45 rfl (by omega) (by omega) (fun c45 => by exact absurd c45 (by omega)) (fun c45 => ?_)
      refine go_aload_n (i := 0) dx_X12_laysLeast_48 rfl rfl ?_
      refine go_iload_n (i := 2) dx_X12_laysLeast_49 rfl rfl ?_
      refine go_cV1 sv_X12_148 (go_ok rfl rfl) dx_X12_laysLeast_50 (Nat.le_of_ble_eq_true rfl) (Nat.le_of_ble_eq_true rfl) (o_longOf hb2 hr ?_)
      refine go_if_eq (tgt := 96) dx_X12_laysLeast_53 rfl (by omega) (fun c53 => ?_) (fun c53 => ?_)
      · refine go_iinc (lv' := [(0, vv_A 94), (1, vv_I (m2 : Int)), (2, vv_I ((r : Int) + 1))]) dx_X12_laysLeast_96 rfl (by decide) rfl ?_
        refine go_goto (tgt := 42) dx_X12_laysLeast_99 rfl ?_
        exact same (fun x q e hq => by
        rw [e] at c53
        cases q with
        | nil => exact absurd rfl hq
        | cons y q => simp at c53; omega)
      · obtain ⟨x, y, q, hl, hx, hy, hq⟩ := rl_split hR (r := r) (fun w => by rw [w] at c53; simp at c53)
        have hlen : (R r).length = q.length + 2 := by rw [hl]; rfl
        have hdr : (R r).drop 1 = y :: q := by rw [hl]; rfl
        have hl14 : ∀ z ∈ y :: q, z < 14 := fun z hz => by
          rcases hok with w | ⟨_, _, _, w⟩
          · rw [hl] at w; cases w
          · exact w z (by rw [hl]; exact List.mem_cons_of_mem _ hz)
        have hvx := i2.1 x (by omega)
        have hle := lst_v_le v2 (y :: q)
        refine go_aload_n (i := 0) dx_X12_laysLeast_56 rfl rfl ?_
        refine go_iload_n (i := 2) dx_X12_laysLeast_57 rfl rfl ?_
        refine go_iconst dx_X12_laysLeast_58 ?_
        refine go_asI (y := ((0 : Nat) : Int)) (by rfl) ?_
        refine go_cV2 sv_X12_232 (go_ok rfl rfl) dx_X12_laysLeast_59 (Nat.le_of_ble_eq_true rfl) (Nat.le_of_ble_eq_true rfl) (m_sumFrom hb2 i1 i2.1 hr (by omega) ?_)
        refine go_asI (y := (lst_v v2 (y :: q) : Int)) (by rw [Nat.zero_add, hdr]) ?_
        refine go_aload_n (i := 0) dx_X12_laysLeast_62 rfl rfl ?_
        refine go_getA (b := 105) fs_X12_45 rfl (go_ok rfl rfl) rfl dx_X12_laysLeast_63 ?_
        refine go_aload_n (i := 0) dx_X12_laysLeast_66 rfl rfl ?_
        refine go_iload_n (i := 2) dx_X12_laysLeast_67 rfl rfl ?_
        refine go_cV1 sv_X12_184 (go_ok rfl rfl) dx_X12_laysLeast_68 (Nat.le_of_ble_eq_true rfl) (Nat.le_of_ble_eq_true rfl) (o_symbolOf hb2 hr (by omega) ?_)
        refine go_asI (y := (x : Int)) (by rw [hl]; rfl) ?_
        refine go_ialoadV (i := x) (v := ((v2 x : Int))) dx_X12_laysLeast_71 (go_ok rfl rfl) (by omega) (show x < 14 by omega) (by exact i1 x (by omega)) ?_
        refine go_icmp_lt (tgt := 78) dx_X12_laysLeast_72 rfl (by omega) (by omega) (fun c72 => ?_) (fun c72 => ?_)
        · refine go_aload_n (i := 0) dx_X12_laysLeast_78 rfl rfl ?_
          refine go_getA (b := 105) fs_X12_45 rfl (go_ok rfl rfl) rfl dx_X12_laysLeast_79 ?_
          refine go_aload_n (i := 0) dx_X12_laysLeast_82 rfl rfl ?_
          refine go_iload_n (i := 2) dx_X12_laysLeast_83 rfl rfl ?_
          refine go_cV1 sv_X12_184 (go_ok rfl rfl) dx_X12_laysLeast_84 (Nat.le_of_ble_eq_true rfl) (Nat.le_of_ble_eq_true rfl) (o_symbolOf hb2 hr (by omega) ?_)
          refine go_asI (y := (x : Int)) (by rw [hl]; rfl) ?_
          refine go_aload_n (i := 0) dx_X12_laysLeast_87 rfl rfl ?_
          refine go_iload_n (i := 2) dx_X12_laysLeast_88 rfl rfl ?_
          refine go_iconst dx_X12_laysLeast_89 ?_
          refine go_asI (y := ((0 : Nat) : Int)) (by rfl) ?_
          refine go_cV2 sv_X12_232 (go_ok rfl rfl) dx_X12_laysLeast_90 (Nat.le_of_ble_eq_true rfl) (Nat.le_of_ble_eq_true rfl) (m_sumFrom hb2 i1 i2.1 hr (by omega) ?_)
          refine go_asI (y := (lst_v v2 (y :: q) : Int)) (by rw [Nat.zero_add, hdr]) ?_
          refine go_iastoreV (i := x) dx_X12_laysLeast_93 (go_ok rfl rfl) (by omega) (show x < 14 by omega) ?_
          refine go_iconst dx_X12_laysLeast_94 ?_
          refine go_istore_n (i := 1) (lv' := [(0, vv_A 94), (1, vv_I 1), (2, vv_I (r : Int))]) dx_X12_laysLeast_95 rfl (by decide) rfl ?_
          refine go_iinc (lv' := [(0, vv_A 94), (1, vv_I 1), (2, vv_I ((r : Int) + 1))]) dx_X12_laysLeast_96 rfl (by decide) rfl ?_
          refine go_goto (tgt := 42) dx_X12_laysLeast_99 rfl ?_
          have hlt : lst_v v2 (y :: q) < v2 x := by omega
          have hsq : sq v2 (y :: q) < 268435456 := by
            unfold lst_v at hlt
            split at hlt <;> omega
          have hv : lst_v v2 (y :: q) = sq v2 (y :: q) := if_pos hsq
          rw [hv] at hlt ⊢
          refine ih3 _ (fun z => if z = x then sq v2 (y :: q) else v2 z) (fun z hz => ?_) (lst_up i2 hr hl (List.cons_ne_nil _ _) hx hl14 (by rw [List.length_cons]; omega) hsq hlt) (fun c j hc => by rw [wr_a _ _ _ _ hc]; exact i3 c j hc) ?_
          · show wr δ2 105 x _ 105 z = (((if z = x then sq v2 (y :: q) else v2 z : Nat)) : Int)
            by_cases e : z = x
            · subst e; rw [wr_eq, if_pos rfl]
            · rw [wr_i _ _ _ _ e, if_neg e]; exact i1 z hz
          · have h1 : su 8 (fun z => if z = x then sq v2 (y :: q) else v2 z) < su 8 v2 := by
              refine su_lt (k := x) hx (fun z hz => ?_) ?_
              · show (if z = x then _ else _) ≤ _
                by_cases e : z = x
                · subst e; rw [if_pos rfl]; omega
                · rw [if_neg e]; exact Nat.le_refl _
              · show (if x = x then _ else _) < _
                rw [if_pos rfl]
                exact hlt
            rcases i4 with ⟨_, b, _⟩ | ⟨_, b⟩
            · rw [b] at h1; rw [b]; exact h1
            · exact Nat.lt_trans h1 b
        · refine go_goto (tgt := 96) dx_X12_laysLeast_75 rfl ?_
          refine go_iinc (lv' := [(0, vv_A 94), (1, vv_I (m2 : Int)), (2, vv_I ((r : Int) + 1))]) dx_X12_laysLeast_96 rfl (by decide) rfl ?_
          refine go_goto (tgt := 42) dx_X12_laysLeast_99 rfl ?_
          refine same (fun x' q' e hq' => ?_)
          rw [hl] at e
          injection e with e1 e2
          subst e1 e2
          have hge : ¬ lst_v v2 (y :: q) < v2 x := by omega
          unfold lst_v at hge
          split at hge <;> omega
    · obtain ⟨δ2, v2, m2⟩ := X
      obtain ⟨i1, i2, i3, i4⟩ := hI
      dsimp only at i1 i2 i3 i4 ⊢
      subst hm
      refine go_iload_n (i := 2) dx_X12_laysLeast_42 rfl rfl ?_
      refine go_bipush dx_X12_laysLeast_43 rfl ?_
      refine go_icmp_ge (tgt := 102) dx_X12_laysLeast_45 rfl (by omega) (by omega) (fun c45 => ?_) (fun c45 => by exact absurd c45 (by omega))
      refine go_goto (tgt := 34) dx_X12_laysLeast_102 rfl ?_
      refine go_keep [0, 1] rfl ?_
      rcases i4 with ⟨a, b, c⟩ | ⟨a, b⟩
      · subst a b
        exact ih (δ2, v2, 0) ⟨i1, i2, i3, Or.inl rfl, fun _ => c⟩ (Nat.lt_succ_self _)
      · subst a
        refine ih (δ2, v2, 1) ⟨i1, i2, i3, Or.inr rfl, fun q => absurd (show (1 : Nat) = 0 from q) (by decide)⟩ ?_
        dsimp only
        omega
end GMLE
