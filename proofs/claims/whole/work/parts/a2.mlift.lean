/-! the law: the reference's changing calls over what is laid; what both sides keep -/
theorem fl_fm {δ δ' : Nat → Nat → Int} (f : fm δ δ') : fl δ δ' := fun b hb j => f b (Or.inl hb) j
theorem ml_of {δ δ' : Nat → Nat → Int} {K K' : sK} (h : ml_at δ K) (f : fm δ δ') (e : (δ' 94 20 = δ 94 20 ∧ K' = K) ∨ δ' 94 20 = 0) : ml_at δ' K' := by
  rcases e with ⟨e, q⟩ | e
  · rw [q]
    exact ml_fr h (fun c j hc => by
      rcases hc with hc | hc | ⟨hc, hj⟩
      · exact f c (by omega) j
      · exact f c (by omega) j
      · rw [hc, hj]; exact e)
  · exact Or.inl e
theorem mx_fc {δ δ' : Nat → Nat → Int} {S : sS} (h : mx_at δ S) (f : fc δ δ') : mx_at δ' S :=
  ⟨ms_fr h.1 (fun b j hb => f b (by unfold ms_P at hb; omega) j), ml_fr h.2 (fun c j hc => f c (by omega) j)⟩
theorem xk_mono {Tm Tn : Int} {δ : Nat → Nat → Int} {S : sS} (h : xk_at Tm δ S) (h1 : Tm ≤ Tn) (h2 : Tn ≤ 2147483647) : xk_at Tn δ S := by
  obtain ⟨a1, ⟨b1, b2⟩, a3⟩ := h
  exact ⟨a1, ⟨⟨b1.1, by omega, h2⟩, b2⟩, a3⟩
section GMLIFT
variable {E : go_E} {d : Nat} {δ : Nat → Nat → Int} {Q : List go_V → go_F → (Nat → Nat → Int) → Prop} {S : sS} {Tm : Int}
theorem n_feed {a b c e x : Int} (h : mx_at δ S) (hQ : ∀ δ', mx_at δ' (op_feed S a b c e x).2 → fl δ δ' → Q [vv_I (op_feed S a b c e x).1] go_φ δ') : Go E d (0, 0) mx_X12_feed go_φ 0 [(0, vv_A 94), (1, vv_I a), (2, vv_I b), (3, vv_I c), (4, vv_I e), (5, vv_I x)] [] δ Q :=
  m_feed h.1 (fun δ' h1 f1 e1 => hQ δ' ⟨h1, ml_of h.2 f1 (Or.inl ⟨e1, by unfold op_feed; split <;> rfl⟩)⟩ (fl_fm f1))
theorem n_rule {n : Int} (hn : go_iI n) (h : mx_at δ S) (hQ : ∀ δ', mx_at δ' (op_rule S n).2 → fl δ δ' → Q [vv_I (op_rule S n).1] go_φ δ') : Go E (d + 4) (0, 0) mx_X12_rule go_φ 0 [(0, vv_A 94), (1, vv_I n)] [] δ Q :=
  m_rule hn h.1 (fun δ' h1 f1 e1 => hQ δ' ⟨h1, ml_of h.2 f1 e1⟩ (fl_fm f1))
theorem n_word {n : Int} (hn : go_iI n) (h : mx_at δ S) (hQ : ∀ δ', mx_at δ' (op_word S n).2 → fl δ δ' → Q [vv_I (op_word S n).1] go_φ δ') : Go E (d + 4) (0, 0) mx_X12_word go_φ 0 [(0, vv_A 94), (1, vv_I n)] [] δ Q :=
  m_word hn h.1 (fun δ' h1 f1 e1 => hQ δ' ⟨h1, ml_of h.2 f1 e1⟩ (fl_fm f1))
theorem n_drop {n : Int} (hn : go_iI n) (h : mx_at δ S) (hQ : ∀ δ', mx_at δ' (op_drop S n).2 → fl δ δ' → Q [vv_I (op_drop S n).1] go_φ δ') : Go E (d + 3) (0, 0) mx_X12_drop go_φ 0 [(0, vv_A 94), (1, vv_I n)] [] δ Q :=
  m_drop hn h.1 (fun δ' h1 f1 e1 => hQ δ' ⟨h1, ml_of h.2 f1 e1⟩ (fl_fm f1))
theorem n_start {n : Int} (hn : go_iI n) (h : mx_at δ S) (hQ : ∀ δ', mx_at δ' (op_start S n).2 → fl δ δ' → Q [vv_I (op_start S n).1] go_φ δ') : Go E (d + 3) (0, 0) mx_X12_start go_φ 0 [(0, vv_A 94), (1, vv_I n)] [] δ Q :=
  m_start hn h.1 (fun δ' h1 f1 e1 => hQ δ' ⟨h1, ml_of h.2 f1 e1⟩ (fl_fm f1))
theorem n_undo {n : Int} (hn : go_iI n) (h : mx_at δ S) (hQ : ∀ δ', mx_at δ' (op_undo S n).2 → fl δ δ' → Q [vv_I (op_undo S n).1] go_φ δ') : Go E (d + 4) (0, 0) mx_X12_undo go_φ 0 [(0, vv_A 94), (1, vv_I n)] [] δ Q :=
  m_undo hn h.1 (fun δ' h1 f1 e1 => hQ δ' ⟨h1, ml_of h.2 f1 e1⟩ (fl_fm f1))
theorem n_restore {n : Int} (hn : go_iI n) (h : mx_at δ S) (hQ : ∀ δ', mx_at δ' (op_restore S n).2 → fl δ δ' → Q [vv_I (op_restore S n).1] go_φ δ') : Go E (d + 4) (0, 0) mx_X12_restore go_φ 0 [(0, vv_A 94), (1, vv_I n)] [] δ Q :=
  m_restore hn h.1 (fun δ' h1 f1 e1 => hQ δ' ⟨h1, ml_of h.2 f1 e1⟩ (fl_fm f1))
theorem n_tray {t n : Int} (ht : go_iI t) (hn : go_iI n) (h : mx_at δ S) (hQ : ∀ δ', mx_at δ' (op_tray S t n).2 → fl δ δ' → Q [vv_I (op_tray S t n).1] go_φ δ') : Go E (d + 2) (0, 0) mx_X12_tray go_φ 0 [(0, vv_A 94), (1, vv_I t), (2, vv_I n)] [] δ Q :=
  m_tray ht hn h.1 (fun δ' h1 f1 e1 => hQ δ' ⟨h1, ml_of h.2 f1 (Or.inl ⟨e1, by unfold op_tray; split <;> (try split) <;> rfl⟩)⟩ (fl_fm f1))
theorem n_image {n : Int} (hn : go_iI n) (h : mx_at δ S) (hQ : ∀ δ', mx_at δ' (op_image S n).2 → fl δ δ' → Q [vv_I (op_image S n).1] go_φ δ') : Go E (d + 4) (0, 0) mx_X12_image go_φ 0 [(0, vv_A 94), (1, vv_I n)] [] δ Q :=
  m_image hn h.1 (fun δ' h1 f1 e1 => hQ δ' ⟨h1, ml_of h.2 f1 (Or.inl ⟨e1, by unfold op_image; split <;> rfl⟩)⟩ (fl_fm f1))
theorem n_fault {w : Int} (hw : go_iI w) (h : mx_at δ S) (hQ : ∀ δ', mx_at δ' S → fl δ δ' → Q [vv_I (op_fault S w)] go_φ δ') : Go E d (0, 0) mx_X12_fault go_φ 0 [(0, vv_A 94), (1, vv_I w)] [] δ Q :=
  m_fault hw h.1 (fun δ' h1 f1 e1 => hQ δ' ⟨h1, ml_of h.2 f1 (Or.inl ⟨e1, rfl⟩)⟩ (fl_fm f1))
theorem n_part {r i : Int} (hr : go_iI r) (hi : go_iI i) (h : mx_at δ S) (hQ : ∀ δ', mx_at δ' S → fl δ δ' → Q [vv_I (op_part S r i)] go_φ δ') : Go E (d + 3) (0, 0) mx_X12_part go_φ 0 [(0, vv_A 94), (1, vv_I r), (2, vv_I i)] [] δ Q :=
  m_part hr hi h.1 (fun δ' h1 f1 e1 => hQ δ' ⟨h1, ml_of h.2 f1 (Or.inl ⟨e1, rfl⟩)⟩ (fl_fm f1))
theorem n_number {t i : Int} (ht : go_iI t) (hi : go_iI i) (h : mx_at δ S) (hQ : ∀ δ', mx_at δ' S → fl δ δ' → Q [vv_L (op_number S t i)] go_φ δ') : Go E (d + 2) (0, 0) mx_X12_number go_φ 0 [(0, vv_A 94), (1, vv_I t), (2, vv_I i)] [] δ Q :=
  m_number ht hi h.1 (fun δ' h1 f1 e1 => hQ δ' ⟨h1, ml_of h.2 f1 (Or.inl ⟨e1, rfl⟩)⟩ (fl_fm f1))
theorem x_fault {w : Int} (hw : go_iI w) (h : xk_at Tm δ S) (hQ : ∀ δ', xk_at Tm δ' S → fc δ δ' → Q [vv_I (op_fault S w)] go_φ δ') : Go E d (0, 0) mx_X11_fault go_φ 0 [(0, vv_A 0), (1, vv_I w)] [] δ Q := g_fault hw h.1 (hQ δ h fc_rf)
theorem x_part {r i : Int} (hr : go_iI r) (hi : go_iI i) (h : xk_at Tm δ S) (hQ : ∀ δ', xk_at Tm δ' S → fc δ δ' → Q [vv_I (op_part S r i)] go_φ δ') : Go E (d + 2) (0, 0) mx_X11_part go_φ 0 [(0, vv_A 0), (1, vv_I r), (2, vv_I i)] [] δ Q := g_part hr hi h.1 (hQ δ h fc_rf)
theorem x_number {t i : Int} (ht : go_iI t) (hi : go_iI i) (h : xk_at Tm δ S) (hQ : ∀ δ', xk_at Tm δ' S → fc δ δ' → Q [vv_L (op_number S t i)] go_φ δ') : Go E (d + 2) (0, 0) mx_X11_number go_φ 0 [(0, vv_A 0), (1, vv_I t), (2, vv_I i)] [] δ Q := g_number ht hi h.1 (hQ δ h fc_rf)
end GMLIFT
