/-! the whole state in words, and the calls that need no tables; the class's side -/
abbrev sS : Type := sK × List Nat × (Int × Int) × List sK × (Nat → Option sK) × (Nat → Option (List Int))
def bt_pop : Nat → Nat → Nat
  | 0, _ => 0
  | k + 1, n => n % 2 + bt_pop k (n / 2)
def rl_many (R : Nat → List Nat) : Nat → Nat
  | 0 => 0
  | n + 1 => rl_many R n + (if R n = [] then 0 else 1)
def rl_free (R : Nat → List Nat) : Option Nat := (List.range 16).find? (fun r => decide (R r = []))
def rl_alike (R : Nat → List Nat) (l : List Nat) : Bool := (List.range 16).any (fun r => decide (R r = l))
/-- what can be undone is kept -/
def op_keep (S : sS) (K : sK) : sS := (K, S.2.1, S.2.2.1, (S.1 :: S.2.2.2.1).take 10, S.2.2.2.2)
def op_tape (S : sS) (t : List Nat) (f : Int × Int) : sS := (S.1, t, f, S.2.2.2)
def op_feed (S : sS) (a b c d e : Int) : Int × sS := if 20 < S.2.1.length then (-4, S) else ((S.2.1.length : Int) + 20, op_tape S (S.2.1 ++ tp_four a ++ tp_four b ++ tp_four c ++ tp_four d ++ tp_four e) S.2.2.1)
def op_rule (S : sS) (n : Int) : Int × sS :=
  if n < 0 ∨ (S.2.1.length : Int) < n then (-3, S) else match rl_free S.1.1 with
  | none => (-4, S)
  | some r =>
    let bs := S.2.1.take n.toNat
    let f := rl_fault bs
    if f.1 ≠ 0 then (-30 - f.1, op_tape S [] f)
    else if rl_alike S.1.1 (rl_of bs) = true then (-5, op_tape S [] f)
    else (r, op_keep (op_tape S [] f) (fun s => if s = r then rl_of bs else S.1.1 s, S.1.2))
def op_word (S : sS) (n : Int) : Int × sS :=
  if n < 0 ∨ (S.2.1.length : Int) < n then (-3, S) else
    let bs := S.2.1.take n.toNat
    let f := wd_fault bs
    if f.1 ≠ 0 then (-30 - f.1, op_tape S [] f)
    else (n, op_keep (op_tape S [] f) (S.1.1, S.1.2.1, rl_of bs))
def op_fault (S : sS) (w : Int) : Int := if w = 0 then S.2.2.1.1 else if w = 1 then S.2.2.1.2 else -1
def rl_is (R : Nat → List Nat) (r : Int) : Prop := 0 ≤ r ∧ r < 16 ∧ R r.toNat ≠ []
def op_drop (S : sS) (r : Int) : Int × sS := if 0 ≤ r ∧ r < 16 ∧ S.1.1 r.toNat ≠ [] then
    let R := fun s => if s = r.toNat then [] else S.1.1 s
    ((rl_many R 16 : Int), op_keep S (R, S.1.2))
  else (-2, S)
def op_start (S : sS) (x : Int) : Int × sS := if ¬ (0 ≤ x ∧ x < 8) then (-2, S) else if x = (S.1.2.1 : Int) then (-5, S) else ((S.1.2.1 : Int), op_keep S (S.1.1, x.toNat, S.1.2.2))
def op_part (S : sS) (r i : Int) : Int := if 0 ≤ r ∧ r < 16 ∧ S.1.1 r.toNat ≠ [] then
    (if i < -1 then -3 else if i + 1 < ((S.1.1 r.toNat).length : Int) then (((S.1.1 r.toNat).getD (i + 1).toNat 0 : Nat) : Int) else -1)
  else -2
def op_tray (S : sS) (t n : Int) : Int × sS := if ¬ (0 ≤ t ∧ t < 3) then (-2, S) else if n < 0 ∨ 20 < n then (-3, S) else
  (0, (S.1, S.2.1, S.2.2.1, S.2.2.2.1, S.2.2.2.2.1, fun u => if u = t.toNat then some (List.replicate n.toNat 0) else S.2.2.2.2.2 u))
def op_number (S : sS) (t i : Int) : Int := if ¬ (0 ≤ t ∧ t < 3) then -2 else match S.2.2.2.2.2 t.toNat with
  | none => -6
  | some l => if 0 ≤ i ∧ i < (l.length : Int) then l.getD i.toNat 0 else -7
def op_undo (S : sS) (n : Int) : Int × sS := if n < 1 ∨ (S.2.2.2.1.length : Int) < n then (-3, S) else
  ((S.2.2.2.1.length : Int) - n, (S.2.2.2.1.getD (n.toNat - 1) S.1, S.2.1, S.2.2.1, S.2.2.2.1.drop n.toNat, S.2.2.2.2))
def op_image (S : sS) (i : Int) : Int × sS := if ¬ (0 ≤ i ∧ i < 2) then (-2, S) else
  (0, (S.1, S.2.1, S.2.2.1, S.2.2.2.1, fun j => if j = i.toNat then some S.1 else S.2.2.2.2.1 j, S.2.2.2.2.2))
def op_restore (S : sS) (i : Int) : Int × sS := if ¬ (0 ≤ i ∧ i < 2) then (-2, S) else match S.2.2.2.2.1 i.toNat with
  | none => (-6, S)
  | some K => (0, (K, S.2.1, S.2.2.1, [], S.2.2.2.2))
def ty_at (δ : Nat → Nat → Int) (ty : Nat → Option (List Int)) : Prop := ∀ t, t < 3 → (ty t = none ∧ δ 93 t = -1) ∨
  ∃ l, ty t = some l ∧ l.length ≤ 20 ∧ δ 93 t = (l.length : Int) ∧ (∀ i (h : i < l.length), δ 92 (20 * t + i) = l[i]) ∧ ∀ v ∈ l, 0 ≤ v ∧ v < 9223372036854775808
theorem ty_fr {δ δ' : Nat → Nat → Int} {ty : Nat → Option (List Int)} {S : List Nat} (h : ty_at δ ty) (f : fr S δ δ') (h1 : 92 ∉ S) (h2 : 93 ∉ S) : ty_at δ' ty := by
  intro t ht
  rcases h t ht with ⟨g1, g2⟩ | ⟨l, g1, g2, g3, g4, g5⟩
  · exact Or.inl ⟨g1, by rw [f _ h2]; exact g2⟩
  · exact Or.inr ⟨l, g1, g2, by rw [f _ h2]; exact g3, fun i hi => by rw [f _ h1]; exact g4 i hi, g5⟩
def xs_at (δ : Nat → Nat → Int) (S : sS) : Prop := td_at δ 3 S.1 ∧ tp_at δ S.2.1 S.2.2.1 ∧ pa_at δ S.2.2.2.1 ∧ im_at δ S.2.2.2.2.1 ∧ ty_at δ S.2.2.2.2.2
/-- what the simple calls leave as it was -/
def fx (δ δ' : Nat → Nat → Int) : Prop := (∀ b, 33 ≤ b → b ≠ 92 → b ≠ 93 → ∀ j, δ' b j = δ b j) ∧ δ' 0 17 = δ 0 17
theorem fx_rf {δ : Nat → Nat → Int} : fx δ δ := ⟨fun _ _ _ _ _ => rfl, rfl⟩
theorem fx_tr {δ δ1 δ2 : Nat → Nat → Int} (h1 : fx δ δ1) (h2 : fx δ1 δ2) : fx δ δ2 := ⟨fun b a1 a2 a3 j => by rw [h2.1 b a1 a2 a3 j, h1.1 b a1 a2 a3 j], h2.2.trans h1.2⟩
theorem fx_fr {δ δ1 : Nat → Nat → Int} {S : List Nat} (f : fr S δ δ1) (h : S.all (fun b => (Nat.blt 0 b && Nat.blt b 33) || Nat.beq b 92 || Nat.beq b 93) = true) : fx δ δ1 := by
  have hb : ∀ b ∈ S, (0 < b ∧ b < 33) ∨ b = 92 ∨ b = 93 := by
    intro b hb
    have := List.all_eq_true.mp h b hb
    simp only [Bool.or_eq_true, Bool.and_eq_true, Nat.beq_eq] at this
    rcases this with (⟨h1, h2⟩ | h1) | h1
    · exact Or.inl ⟨Nat.le_of_ble_eq_true h1, Nat.le_of_ble_eq_true h2⟩
    · exact Or.inr (Or.inl h1)
    · exact Or.inr (Or.inr h1)
  refine ⟨fun b a1 a2 a3 j => f b (fun q => ?_) j, f 0 (fun q => ?_) 17⟩
  · rcases hb b q with q | q | q <;> omega
  · rcases hb 0 q with q | q | q <;> omega
theorem fx_st {δ : Nat → Nat → Int} {v : Int} : fx δ (wr δ 0 16 v) := ⟨fun b a1 a2 a3 j => wr_a _ _ _ _ (by omega) j, wr_i _ _ _ _ (by decide)⟩
section GXS
variable {E : go_E} {d : Nat} {δ : Nat → Nat → Int} {Q : List go_V → go_F → (Nat → Nat → Int) → Prop} {K : sK} {S : sS}
theorem g_isName {x : Int} (hx : go_iI x) (h1 : 0 ≤ x → x < 8 → Q [vv_I 1] go_φ δ) (h0 : ¬ (0 ≤ x ∧ x < 8) → Q [vv_I 0] go_φ δ) : Go E d (0, 0) mx_X11_isName go_φ 0 [(0, vv_A 0), (1, vv_I x)] [] δ Q := by
  refine go_iload_n (i := 1) dx_X11_isName_0 rfl rfl ?_
  refine go_if_lt (tgt := 14) dx_X11_isName_1 rfl (by omega) (fun c1 => ?_) (fun c1 => ?_)
  · refine go_iconst dx_X11_isName_14 ?_
    refine go_zreturn dx_X11_isName_15 rfl (by first | omega | (first | exact Or.inl rfl | exact Or.inr rfl)) (Nat.le_refl _) (Nat.le_refl _) ?_
    first | exact h1 (by omega) (by omega) | exact h0 (by omega)
  · refine go_iload_n (i := 1) dx_X11_isName_4 rfl rfl ?_
    refine go_bipush dx_X11_isName_5 rfl ?_
    refine go_icmp_ge (tgt := 14) dx_X11_isName_7 rfl (by omega) (by omega) (fun c7 => ?_) (fun c7 => ?_)
    · refine go_iconst dx_X11_isName_14 ?_
      refine go_zreturn dx_X11_isName_15 rfl (by first | omega | (first | exact Or.inl rfl | exact Or.inr rfl)) (Nat.le_refl _) (Nat.le_refl _) ?_
      first | exact h1 (by omega) (by omega) | exact h0 (by omega)
    · refine go_iconst dx_X11_isName_10 ?_
      refine go_goto (tgt := 15) dx_X11_isName_11 rfl ?_
      refine go_zreturn dx_X11_isName_15 rfl (by first | omega | (first | exact Or.inl rfl | exact Or.inr rfl)) (Nat.le_refl _) (Nat.le_refl _) ?_
      first | exact h1 (by omega) (by omega) | exact h0 (by omega)
theorem g_isTray {x : Int} (hx : go_iI x) (h1 : 0 ≤ x → x < 3 → Q [vv_I 1] go_φ δ) (h0 : ¬ (0 ≤ x ∧ x < 3) → Q [vv_I 0] go_φ δ) : Go E d (0, 0) mx_X11_isTray go_φ 0 [(0, vv_A 0), (1, vv_I x)] [] δ Q := by
  refine go_iload_n (i := 1) dx_X11_isTray_0 rfl rfl ?_
  refine go_if_lt (tgt := 13) dx_X11_isTray_1 rfl (by omega) (fun c1 => ?_) (fun c1 => ?_)
  · refine go_iconst dx_X11_isTray_13 ?_
    refine go_zreturn dx_X11_isTray_14 rfl (by first | omega | (first | exact Or.inl rfl | exact Or.inr rfl)) (Nat.le_refl _) (Nat.le_refl _) ?_
    first | exact h1 (by omega) (by omega) | exact h0 (by omega)
  · refine go_iload_n (i := 1) dx_X11_isTray_4 rfl rfl ?_
    refine go_iconst dx_X11_isTray_5 ?_
    refine go_icmp_ge (tgt := 13) dx_X11_isTray_6 rfl (by omega) (by omega) (fun c6 => ?_) (fun c6 => ?_)
    · refine go_iconst dx_X11_isTray_13 ?_
      refine go_zreturn dx_X11_isTray_14 rfl (by first | omega | (first | exact Or.inl rfl | exact Or.inr rfl)) (Nat.le_refl _) (Nat.le_refl _) ?_
      first | exact h1 (by omega) (by omega) | exact h0 (by omega)
    · refine go_iconst dx_X11_isTray_9 ?_
      refine go_goto (tgt := 14) dx_X11_isTray_10 rfl ?_
      refine go_zreturn dx_X11_isTray_14 rfl (by first | omega | (first | exact Or.inl rfl | exact Or.inr rfl)) (Nat.le_refl _) (Nat.le_refl _) ?_
      first | exact h1 (by omega) (by omega) | exact h0 (by omega)
theorem g_isPlace {x : Int} (hx : go_iI x) (ht : td_at δ 3 K) (h1 : 0 ≤ x → x ≤ (K.2.2.length : Int) → Q [vv_I 1] go_φ δ) (h0 : ¬ (0 ≤ x ∧ x ≤ (K.2.2.length : Int)) → Q [vv_I 0] go_φ δ) : Go E d (0, 0) mx_X11_isPlace go_φ 0 [(0, vv_A 0), (1, vv_I x)] [] δ Q := by
  have e3 := ht.2.2.2.1
  have e4 := ht.2.2.2.2.2.2.2.2.1
  refine go_iload_n (i := 1) dx_X11_isPlace_0 rfl rfl ?_
  refine go_if_lt (tgt := 19) dx_X11_isPlace_1 rfl (by omega) (fun c1 => ?_) (fun c1 => ?_)
  · refine go_iconst dx_X11_isPlace_19 ?_
    refine go_zreturn dx_X11_isPlace_20 rfl (by first | omega | (first | exact Or.inl rfl | exact Or.inr rfl)) (Nat.le_refl _) (Nat.le_refl _) ?_
    first | exact h1 (by omega) (by omega) | exact h0 (by omega)
  · refine go_iload_n (i := 1) dx_X11_isPlace_4 rfl rfl ?_
    refine go_aload_n (i := 0) dx_X11_isPlace_5 rfl rfl ?_
    refine go_getA (b := 3) fs_X11_19 rfl (go_ok rfl rfl) rfl dx_X11_isPlace_6 ?_
    refine go_getI fs_X11_239 (Or.inl rfl) (go_ok rfl rfl) dx_X11_isPlace_9 ?_
    refine go_icmp_gt (tgt := 19) dx_X11_isPlace_12 rfl (by omega) (by omega) (fun c12 => ?_) (fun c12 => ?_)
    · refine go_iconst dx_X11_isPlace_19 ?_
      refine go_zreturn dx_X11_isPlace_20 rfl (by first | omega | (first | exact Or.inl rfl | exact Or.inr rfl)) (Nat.le_refl _) (Nat.le_refl _) ?_
      first | exact h1 (by omega) (by omega) | exact h0 (by omega)
    · refine go_iconst dx_X11_isPlace_15 ?_
      refine go_goto (tgt := 20) dx_X11_isPlace_16 rfl ?_
      refine go_zreturn dx_X11_isPlace_20 rfl (by first | omega | (first | exact Or.inl rfl | exact Or.inr rfl)) (Nat.le_refl _) (Nat.le_refl _) ?_
      first | exact h1 (by omega) (by omega) | exact h0 (by omega)
theorem g_changing {ps : List sK} (hp : pa_at δ ps) (ht : td_at δ 3 K) (hQ : ∀ δ', pa_at δ' ((K :: ps).take 10) → fr (0 :: pa_S) δ δ' → δ' 0 16 = δ 0 16 + 1 → δ' 0 17 = δ 0 17 → Q [] go_φ δ') :
    Go E (d + 4) (0, 0) mx_X11_changing go_φ 0 [(0, vv_A 0)] [] δ Q := by
  refine go_aload_n (i := 0) dx_X11_changing_0 rfl rfl ?_
  refine go_getA (b := 5) fs_X11_26 rfl (go_ok rfl rfl) rfl dx_X11_changing_1 ?_
  refine go_aload_n (i := 0) dx_X11_changing_4 rfl rfl ?_
  refine go_getA (b := 3) fs_X11_19 rfl (go_ok rfl rfl) rfl dx_X11_changing_5 ?_
  refine go_cV1 sv_X11_401 (go_ok rfl rfl) dx_X11_changing_8 (Nat.le_of_ble_eq_true rfl) (Nat.le_of_ble_eq_true rfl) (g_Past_keep hp ht (fun δ1 h1 f1 => ?_))
  refine go_aload_n (i := 0) dx_X11_changing_11 rfl rfl ?_
  refine go_dup dx_X11_changing_12 rfl ?_
  refine go_getI fs_X11_109 (Or.inl rfl) (go_ok rfl rfl) dx_X11_changing_13 ?_
  refine go_iconst dx_X11_changing_16 ?_
  refine go_iadd dx_X11_changing_17 ?_
  refine go_putI fp_X11_109 rfl rfl (go_ok rfl rfl) dx_X11_changing_18 ?_
  refine go_vreturn dx_X11_changing_21 rfl (Nat.le_refl _) (Nat.le_refl _) ?_
  refine hQ _ (pa_fr h1 (fr_wr (S := [0]) (by decide)) (by decide)) (fr_trs (fr_up f1 (fun b hb => List.mem_cons_of_mem _ hb)) (fr_wr (by simp))) ?_ ?_
  · rw [wr_eq, f1 0 (by decide)]
  · rw [wr_i _ _ _ _ (by decide), f1 0 (by decide)]
theorem g_feed {a b c e x : Int} (h : xs_at δ S) (hQ : ∀ δ', xs_at δ' (op_feed S a b c e x).2 → fx δ δ' → δ' 0 16 = δ 0 16 → Q [vv_I (op_feed S a b c e x).1] go_φ δ') :
    Go E (d + 2) (0, 0) mx_X11_feed go_φ 0 [(0, vv_A 0), (1, vv_I a), (2, vv_I b), (3, vv_I c), (4, vv_I e), (5, vv_I x)] [] δ Q := by
  obtain ⟨g1, g2, g3, g4, g5⟩ := h
  have hh := g2.2.1
  have h40 := g2.1
  unfold op_feed at hQ
  refine go_aload_n (i := 0) dx_X11_feed_0 rfl rfl ?_
  refine go_getA (b := 1) fs_X11_12 rfl (go_ok rfl rfl) rfl dx_X11_feed_1 ?_
  refine go_getI fs_X11_116 (Or.inl rfl) (go_ok rfl rfl) dx_X11_feed_4 ?_
  refine go_bipush dx_X11_feed_7 rfl ?_
  refine go_icmp_le (tgt := 15) dx_X11_feed_9 rfl (by omega) (by omega) (fun c9 => ?_) (fun c9 => ?_)
  · refine go_aload_n (i := 0) dx_X11_feed_15 rfl rfl ?_
    refine go_getA (b := 1) fs_X11_12 rfl (go_ok rfl rfl) rfl dx_X11_feed_16 ?_
    refine go_iload_n (i := 1) dx_X11_feed_19 rfl rfl ?_
    refine go_cV1 sv_X11_119 (go_ok rfl rfl) dx_X11_feed_20 (Nat.le_of_ble_eq_true rfl) (Nat.le_of_ble_eq_true rfl) (g_Tape_append g2 (by omega) (fun δ1 h1 f1 => ?_))
    refine go_aload_n (i := 0) dx_X11_feed_23 rfl rfl ?_
    refine go_getA (b := 1) fs_X11_12 rfl (go_ok rfl rfl) rfl dx_X11_feed_24 ?_
    refine go_iload_n (i := 2) dx_X11_feed_27 rfl rfl ?_
    refine go_cV1 sv_X11_119 (go_ok rfl rfl) dx_X11_feed_28 (Nat.le_of_ble_eq_true rfl) (Nat.le_of_ble_eq_true rfl) (g_Tape_append h1 (by rw [List.length_append]; show _ + 4 + 4 ≤ 40; omega) (fun δ2 h2 f2 => ?_))
    refine go_aload_n (i := 0) dx_X11_feed_31 rfl rfl ?_
    refine go_getA (b := 1) fs_X11_12 rfl (go_ok rfl rfl) rfl dx_X11_feed_32 ?_
    refine go_iload_n (i := 3) dx_X11_feed_35 rfl rfl ?_
    refine go_cV1 sv_X11_119 (go_ok rfl rfl) dx_X11_feed_36 (Nat.le_of_ble_eq_true rfl) (Nat.le_of_ble_eq_true rfl) (g_Tape_append h2 (by rw [List.length_append, List.length_append]; show _ + 4 + 4 + 4 ≤ 40; omega) (fun δ3 h3 f3 => ?_))
    refine go_aload_n (i := 0) dx_X11_feed_39 rfl rfl ?_
    refine go_getA (b := 1) fs_X11_12 rfl (go_ok rfl rfl) rfl dx_X11_feed_40 ?_
    refine go_iload dx_X11_feed_43 rfl ?_
    refine go_cV1 sv_X11_119 (go_ok rfl rfl) dx_X11_feed_45 (Nat.le_of_ble_eq_true rfl) (Nat.le_of_ble_eq_true rfl) (g_Tape_append h3 (by rw [List.length_append, List.length_append, List.length_append]; show _ + 4 + 4 + 4 + 4 ≤ 40; omega) (fun δ4 h4 f4 => ?_))
    refine go_aload_n (i := 0) dx_X11_feed_48 rfl rfl ?_
    refine go_getA (b := 1) fs_X11_12 rfl (go_ok rfl rfl) rfl dx_X11_feed_49 ?_
    refine go_iload dx_X11_feed_52 rfl ?_
    refine go_cV1 sv_X11_119 (go_ok rfl rfl) dx_X11_feed_54 (Nat.le_of_ble_eq_true rfl) (Nat.le_of_ble_eq_true rfl) (g_Tape_append h4 (by rw [List.length_append, List.length_append, List.length_append, List.length_append]; show _ + 4 + 4 + 4 + 4 + 4 ≤ 40; omega) (fun δ5 h5 f5 => ?_))
    refine go_aload_n (i := 0) dx_X11_feed_57 rfl rfl ?_
    refine go_getA (b := 1) fs_X11_12 rfl (go_ok rfl rfl) rfl dx_X11_feed_58 ?_
    refine go_getI fs_X11_116 (Or.inl rfl) (go_ok rfl rfl) dx_X11_feed_61 ?_
    refine go_ireturn dx_X11_feed_64 rfl (Nat.le_refl _) (Nat.le_refl _) ?_
    rw [if_neg (by omega)] at hQ
    have F := fr_trs (fr_trs (fr_trs (fr_trs f1 f2) f3) f4) f5
    have e5 : δ5 1 1 = (S.2.1.length : Int) + 20 := by
      rw [h5.2.1]
      simp only [List.length_append]
      show ((_ + 4 + 4 + 4 + 4 + 4 : Nat) : Int) = _
      omega
    rw [e5]
    exact hQ δ5 ⟨td_fr g1 F (by decide) (by decide), h5, pa_fr g3 F (by decide), im_fr g4 F (by decide), ty_fr g5 F (by decide) (by decide)⟩ (fx_fr F rfl) (F 0 (by decide) 16)
  · refine go_bipush dx_X11_feed_12 rfl ?_
    refine go_ireturn dx_X11_feed_14 rfl (Nat.le_refl _) (Nat.le_refl _) ?_
    rw [if_pos (by omega)] at hQ
    exact hQ δ ⟨g1, g2, g3, g4, g5⟩ fx_rf rfl
theorem g_fault {w : Int} (hw : go_iI w) (h : xs_at δ S) (hQ : Q [vv_I (op_fault S w)] go_φ δ) : Go E d (0, 0) mx_X11_fault go_φ 0 [(0, vv_A 0), (1, vv_I w)] [] δ Q := by
  have e1 := h.2.1.2.2.2.2.1
  have e2 := h.2.1.2.2.2.2.2
  unfold op_fault at hQ
  refine go_iload_n (i := 1) dx_X11_fault_0 rfl rfl ?_
  refine go_if_ne (tgt := 12) dx_X11_fault_1 rfl (by omega) (fun c1 => ?_) (fun c1 => ?_)
  · refine go_iload_n (i := 1) dx_X11_fault_12 rfl rfl ?_
    refine go_iconst dx_X11_fault_13 ?_
    refine go_icmp_ne (tgt := 27) dx_X11_fault_14 rfl (by omega) (by omega) (fun c14 => ?_) (fun c14 => ?_)
    · refine go_iconst dx_X11_fault_27 ?_
      refine go_ireturn dx_X11_fault_28 rfl (Nat.le_refl _) (Nat.le_refl _) ?_
      first | (rw [if_neg (by omega), if_pos (by omega)] at hQ; rw [e2]; exact hQ) | (rw [if_neg (by omega), if_neg (by omega)] at hQ; exact hQ)
    · refine go_aload_n (i := 0) dx_X11_fault_17 rfl rfl ?_
      refine go_getA (b := 1) fs_X11_12 rfl (go_ok rfl rfl) rfl dx_X11_fault_18 ?_
      refine go_getI fs_X11_153 (Or.inl rfl) (go_ok rfl rfl) dx_X11_fault_21 ?_
      refine go_goto (tgt := 28) dx_X11_fault_24 rfl ?_
      refine go_ireturn dx_X11_fault_28 rfl (Nat.le_refl _) (Nat.le_refl _) ?_
      first | (rw [if_neg (by omega), if_pos (by omega)] at hQ; rw [e2]; exact hQ) | (rw [if_neg (by omega), if_neg (by omega)] at hQ; exact hQ)
  · refine go_aload_n (i := 0) dx_X11_fault_4 rfl rfl ?_
    refine go_getA (b := 1) fs_X11_12 rfl (go_ok rfl rfl) rfl dx_X11_fault_5 ?_
    refine go_getI fs_X11_131 (Or.inl rfl) (go_ok rfl rfl) dx_X11_fault_8 ?_
    refine go_ireturn dx_X11_fault_11 rfl (Nat.le_refl _) (Nat.le_refl _) ?_
    rw [if_pos (by omega)] at hQ
    rw [e1]
    exact hQ
end GXS
