/-! still open -/
section GOPEN
variable {E : go_E} {d : Nat} {δ : Nat → Nat → Int} {Q : List go_V → go_F → (Nat → Nat → Int) → Prop} {S : sS} {Tm : Int}
theorem x_words {n : Int} (hn : go_iI n) (h : xk_at Tm δ S) (hQ : ∀ δ', xk_at Tm δ' S → fc δ δ' → Q [vv_I (oq_words S.1 n)] go_φ δ') : Go E (d + 12) (0, 0) mx_X11_words go_φ 0 [(0, vv_A 0), (1, vv_I n)] [] δ Q := by
  sorry
theorem x_first {n i : Int} (hn : go_iI n) (hi : go_iI i) (h : xk_at Tm δ S) (hQ : ∀ δ', xk_at Tm δ' S → fc δ δ' → Q [vv_I (oq_first S.1 n i)] go_φ δ') : Go E (d + 12) (0, 0) mx_X11_first go_φ 0 [(0, vv_A 0), (1, vv_I n), (2, vv_I i)] [] δ Q := by
  sorry
end GOPEN
