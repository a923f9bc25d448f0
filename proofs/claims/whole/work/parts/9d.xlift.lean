/-! the class's changing calls over all that is kept -/
section GXCD
variable {E : go_E} {d : Nat} {δ : Nat → Nat → Int} {Q : List go_V → go_F → (Nat → Nat → Int) → Prop} {S : sS} {K : sK} {Tm : Int}
theorem fx_fc {δ δ' : Nat → Nat → Int} (f : fx δ δ') : fc δ δ' := fun b hb j => f.1 b (by omega) (by omega) (by omega) j
theorem xk_lift {δ δ' : Nat → Nat → Int} {S S' : sS} (h : xk_at Tm δ S) (hx : xs_at δ' S') (f : fx δ δ') (hT : Tm < 2147483647) (hs : (δ' 0 16 = δ 0 16 ∧ S'.1 = S.1) ∨ δ' 0 16 = δ 0 16 + 1) : xk_at (Tm + 1) δ' S' := by
  obtain ⟨a1, a2, a3, a4, a5, a6, a7, a8, a9, a10, a11⟩ := h
  have f2 : ∀ b j, 33 ≤ b → b < 92 → δ' b j = δ b j := fun b j h1 h2 => f.1 b h1 (by omega) (by omega) j
  have hkno : kno δ' := kno_fr a3 (fun b j h => f2 b j (by omega) (by omega))
  obtain ⟨⟨b0, b0'⟩, b1, b2, b3, b4, b5, b6, b7, b8⟩ := a2
  unfold kst at b1 b2 b3 b4 b5 b6 b7 b8
  have e17 := f.2
  have e49 := f2 49 6 (by decide) (by decide)
  have e52 := f2 52 6 (by decide) (by decide)
  have e56 := f2 56 17 (by decide) (by decide)
  have e62 := f2 62 6 (by decide) (by decide)
  have e67 := f2 67 6 (by decide) (by decide)
  have e71 := f2 71 6 (by decide) (by decide)
  have e74 := f2 74 1 (by decide) (by decide)
  have hkts : kts (Tm + 1) δ' := by
    unfold kts kst
    refine ⟨⟨?_, ?_, ?_⟩, ⟨?_, ?_⟩, ⟨?_, ?_⟩, ⟨?_, ?_⟩, ⟨?_, ?_⟩, ⟨?_, ?_⟩, ⟨?_, ?_⟩, ⟨?_, ?_⟩, ⟨?_, ?_⟩⟩ <;> (first | (rw [e17]) | (rw [e49]) | (rw [e52]) | (rw [e56]) | (rw [e62]) | (rw [e67]) | (rw [e71]) | (rw [e74]) | skip) <;> rcases hs with ⟨q, _⟩ | q <;> (try rw [q]) <;> omega
  refine ⟨hx, hkts, hkno, ?_⟩
  rcases hs with ⟨q, e⟩ | q
  · rw [e]
    exact ⟨k17_fr a4 (fun b j h => by
        rcases h with h | h | h | ⟨h, h2 | h2⟩
        · exact f2 b j (by omega) (by omega)
        · exact f2 b j (by omega) (by omega)
        · exact f2 b j (by omega) (by omega)
        · rw [h, h2]; exact q
        · rw [h, h2]; exact e17), k49_fr a5 (fun b j h => by
        rcases h with h | h | ⟨h, h2⟩
        · exact f2 b j (by omega) (by omega)
        · exact f2 b j (by omega) (by omega)
        · rw [h, h2]; exact q), k52_fr a6 (fun b j h => by
        rcases h with h | h | h | ⟨h, h2⟩
        · exact f2 b j (by omega) (by omega)
        · exact f2 b j (by omega) (by omega)
        · exact f2 b j (by omega) (by omega)
        · rw [h, h2]; exact q), k56_fr a7 (fun b j h => by
        rcases h with h | h | ⟨h, h2⟩
        · exact f2 b j (by omega) (by omega)
        · exact f2 b j (by omega) (by omega)
        · rw [h, h2]; exact q), k62_fr a8 (fun b j h => by
        rcases h with h | h | ⟨h, h2⟩
        · exact f2 b j (by omega) (by omega)
        · exact f2 b j (by omega) (by omega)
        · rw [h, h2]; exact q), k67_fr a9 (fun b j h => by
        rcases h with h | h | h | ⟨h, h2⟩
        · exact f2 b j (by omega) (by omega)
        · exact f2 b j (by omega) (by omega)
        · exact f2 b j (by omega) (by omega)
        · rw [h, h2]; exact q), k71_fr a10 (fun b j h => by
        rcases h with h | h | ⟨h, h2⟩
        · exact f2 b j (by omega) (by omega)
        · exact f2 b j (by omega) (by omega)
        · rw [h, h2]; exact q), k74_fr a11 (fun b j h => by
        rcases h with h | h | ⟨h, h2⟩
        · exact f2 b j (by omega) (by omega)
        · exact f2 b j (by omega) (by omega)
        · rw [h, h2]; exact q)⟩
  · exact ⟨fun z => by omega, fun z => by omega, fun z => by omega, fun z => by omega, fun z => by omega, fun z => by omega, fun z => by omega, fun z => by omega⟩
theorem x_rule {n : Int} (hn : go_iI n) (h : xk_at Tm δ S) (hT : Tm < 2147483647) (hQ : ∀ δ', xk_at (Tm + 1) δ' (op_rule S n).2 → fc δ δ' → Q [vv_I (op_rule S n).1] go_φ δ') : Go E (d + 5) (0, 0) mx_X11_rule go_φ 0 [(0, vv_A 0), (1, vv_I n)] [] δ Q :=
  g_rule hn h.1 (fun δ' h1 h2 h3 => hQ δ' (xk_lift h h1 h2 hT h3) (fx_fc h2))
theorem x_undo {n : Int} (hn : go_iI n) (h : xk_at Tm δ S) (hT : Tm < 2147483647) (hQ : ∀ δ', xk_at (Tm + 1) δ' (op_undo S n).2 → fc δ δ' → Q [vv_I (op_undo S n).1] go_φ δ') : Go E (d + 4) (0, 0) mx_X11_undo go_φ 0 [(0, vv_A 0), (1, vv_I n)] [] δ Q :=
  g_undo hn h.1 (fun δ' h1 h2 h3 => hQ δ' (xk_lift h h1 h2 hT h3) (fx_fc h2))
theorem x_word {n : Int} (hn : go_iI n) (h : xk_at Tm δ S) (hT : Tm < 2147483647) (hQ : ∀ δ', xk_at (Tm + 1) δ' (op_word S n).2 → fc δ δ' → Q [vv_I (op_word S n).1] go_φ δ') : Go E (d + 5) (0, 0) mx_X11_word go_φ 0 [(0, vv_A 0), (1, vv_I n)] [] δ Q :=
  g_word hn h.1 (fun δ' h1 h2 h3 => hQ δ' (xk_lift h h1 h2 hT h3) (fx_fc h2))
theorem x_drop {r : Int} (hr : go_iI r) (h : xk_at Tm δ S) (hT : Tm < 2147483647) (hQ : ∀ δ', xk_at (Tm + 1) δ' (op_drop S r).2 → fc δ δ' → Q [vv_I (op_drop S r).1] go_φ δ') : Go E (d + 5) (0, 0) mx_X11_drop go_φ 0 [(0, vv_A 0), (1, vv_I r)] [] δ Q :=
  g_drop hr h.1 (fun δ' h1 h2 h3 => hQ δ' (xk_lift h h1 h2 hT h3) (fx_fc h2))
theorem x_start {x : Int} (hx : go_iI x) (h : xk_at Tm δ S) (hT : Tm < 2147483647) (hQ : ∀ δ', xk_at (Tm + 1) δ' (op_start S x).2 → fc δ δ' → Q [vv_I (op_start S x).1] go_φ δ') : Go E (d + 5) (0, 0) mx_X11_start go_φ 0 [(0, vv_A 0), (1, vv_I x)] [] δ Q :=
  g_start hx h.1 (fun δ' h1 h2 h3 => hQ δ' (xk_lift h h1 h2 hT h3) (fx_fc h2))
theorem x_restore {i : Int} (hi : go_iI i) (h : xk_at Tm δ S) (hT : Tm < 2147483647) (hQ : ∀ δ', xk_at (Tm + 1) δ' (op_restore S i).2 → fc δ δ' → Q [vv_I (op_restore S i).1] go_φ δ') : Go E (d + 4) (0, 0) mx_X11_restore go_φ 0 [(0, vv_A 0), (1, vv_I i)] [] δ Q :=
  g_restore hi h.1 (fun δ' h1 h2 h3 => hQ δ' (xk_lift h h1 h2 hT h3) (fx_fc h2))
theorem x_feed {a b c e x : Int} (h : xk_at Tm δ S) (hT : Tm < 2147483647) (hQ : ∀ δ', xk_at (Tm + 1) δ' (op_feed S a b c e x).2 → fc δ δ' → Q [vv_I (op_feed S a b c e x).1] go_φ δ') : Go E (d + 2) (0, 0) mx_X11_feed go_φ 0 [(0, vv_A 0), (1, vv_I a), (2, vv_I b), (3, vv_I c), (4, vv_I e), (5, vv_I x)] [] δ Q :=
  g_feed h.1 (fun δ' h1 h2 h3 => hQ δ' (xk_lift h h1 h2 hT (Or.inl ⟨h3, by unfold op_feed; split <;> rfl⟩)) (fx_fc h2))
theorem x_tray {t n : Int} (ht : go_iI t) (hn : go_iI n) (h : xk_at Tm δ S) (hT : Tm < 2147483647) (hQ : ∀ δ', xk_at (Tm + 1) δ' (op_tray S t n).2 → fc δ δ' → Q [vv_I (op_tray S t n).1] go_φ δ') : Go E (d + 2) (0, 0) mx_X11_tray go_φ 0 [(0, vv_A 0), (1, vv_I t), (2, vv_I n)] [] δ Q :=
  g_tray ht hn h.1 (fun δ' h1 h2 h3 => hQ δ' (xk_lift h h1 h2 hT (Or.inl ⟨h3, by unfold op_tray; split <;> (try split) <;> rfl⟩)) (fx_fc h2))
theorem x_image {i : Int} (hi : go_iI i) (h : xk_at Tm δ S) (hT : Tm < 2147483647) (hQ : ∀ δ', xk_at (Tm + 1) δ' (op_image S i).2 → fc δ δ' → Q [vv_I (op_image S i).1] go_φ δ') : Go E (d + 4) (0, 0) mx_X11_image go_φ 0 [(0, vv_A 0), (1, vv_I i)] [] δ Q :=
  g_image hi h.1 (fun δ' h1 h2 h3 => hQ δ' (xk_lift h h1 h2 hT (Or.inl ⟨h3, by unfold op_image; split <;> rfl⟩)) (fx_fc h2))
end GXCD
