/-! the class's calls: last -/
section GXC8
variable {E : go_E} {d : Nat} {δ : Nat → Nat → Int} {Q : List go_V → go_F → (Nat → Nat → Int) → Prop} {S : sS} {K : sK} {Tm : Int}
def lst_at (K : sK) (g : Int) (j i : Nat) : Prop := (-1 ≤ g ∧ g ≤ 14) ∧ (∀ x a b, a < b → b ≤ K.2.2.length → (b < j ∨ (b = j ∧ a < i)) → rv K.1 x (sl K.2.2 a b) ≤ g) ∧ (g = -1 ∨ ∃ x a b, a < b ∧ b ≤ K.2.2.length ∧ g = rv K.1 x (sl K.2.2 a b))
theorem lst_end (hK : sk_ok K) {g : Int} (h : lst_at K g (K.2.2.length + 1) 0) : oq_last K = g := by
  obtain ⟨h1, h2, h3⟩ := h
  have hR := hK.1
  have hlet := hK.2.2.2.2.2
  unfold oq_last
  by_cases hn : K.2.2.length = 0
  · rw [li_f (fun m q => by omega)]
    rcases h3 with e | ⟨x, a, b, c1, c2, _⟩
    · exact e.symm
    · omega
  · have h0 : 0 < K.2.2.length := by omega
    have hl := hlet _ (List.getElem_mem h0)
    have hdx : dx K.1 (K.2.2[0]'h0) (sl K.2.2 0 1) := by rw [sl_one h0]; exact dx_let hl.1 hl.2
    have hne : rv K.1 (K.2.2[0]'h0) (sl K.2.2 0 1) ≠ -1 := li_ne (rd_len hR hdx)
    have hle := rv_le hR (K.2.2[0]'h0) (sl K.2.2 0 1)
    have hg := h2 (K.2.2[0]'h0) 0 1 (by decide) (by omega) (by omega)
    obtain ⟨m, hm⟩ : ∃ m : Nat, g = (m : Int) := ⟨g.toNat, by omega⟩
    rw [hm]
    refine li_t ⟨h0, fun x i j a b => ?_⟩ (fun k ⟨_, hk⟩ => ?_)
    · have := h2 x i j a b (by omega)
      omega
    · rcases h3 with e | ⟨x, a, b, c1, c2, c3⟩
      · omega
      · have := hk x a b c1 c2
        omega
theorem x_last (h : xk_at Tm δ S) (hQ : ∀ δ', xk_at Tm δ' S → fc δ δ' → Q [vv_I (oq_last S.1)] go_φ δ') : Go E (d + 12) (0, 0) mx_X11_last go_φ 0 [(0, vv_A 0)] [] δ Q := by
  refine go_aload_n (i := 0) dx_X11_last_0 rfl rfl ?_
  refine go_cV0 sv_X11_183 (go_ok rfl rfl) dx_X11_last_1 (Nat.le_of_ble_eq_true rfl) (Nat.le_of_ble_eq_true rfl) (g_freshen h (fun δ1 h1 e1 f1 => ?_))
  refine go_aload_n (i := 0) dx_X11_last_4 rfl rfl ?_
  refine go_cV0 sv_X11_246 (go_ok rfl rfl) dx_X11_last_5 (Nat.le_of_ble_eq_true rfl) (Nat.le_of_ble_eq_true rfl) (g_readyRounds h1 e1 (fun δ2 h2 e2 r2 f2 => ?_))
  have hQ := hQ δ2 h2 (fc_tr f1 (fun b hb j => f2 b j (by omega)))
  obtain ⟨hb, hm, hc⟩ := h2.2.2.2.1 e2
  have hK : sk_ok S.1 := h2.1.1.2.2.2.2
  have hR := hK.1
  have e3 := h2.1.1.2.2.2.1
  have h14 := h2.1.1.2.2.2.2.2.2.2.2.1
  have rt := h2.2.2.2.2.1 r2
  have z2 := h2.2.2.1.2.2.2.1
  have outer := lp_up (X := Int) (hi := S.1.2.2.length + 1) (I := fun j g => 1 ≤ j ∧ lst_at S.1 g j 0)
    (G := fun j g => Go E (d + 12) (0, 0) mx_X11_last go_φ 14 [(0, vv_A 0), (1, vv_L g), (3, vv_I (j : Int))] [] δ2 Q) (fun j g hj hI ih => ?_) (fun g hI => ?_)
  · refine go_ldc2 (x := (-1)) kx_X11_253 dx_X11_last_8 ?_
    refine go_lstore_n (i := 1) (lv' := [(0, vv_A 0), (1, vv_L (-1))]) dx_X11_last_11 rfl (by decide) rfl ?_
    refine go_iconst dx_X11_last_12 ?_
    refine go_istore_n (i := 3) (lv' := [(0, vv_A 0), (1, vv_L (-1)), (3, vv_I 1)]) dx_X11_last_13 rfl (by decide) rfl ?_
    exact outer 1 (-1) (by omega) ⟨Nat.le_refl _, ⟨by decide, by decide⟩, fun x a b c1 c2 c3 => by omega, Or.inl rfl⟩
  · obtain ⟨j1, i1⟩ := hI
    have inner := lp_up (X := Int) (hi := j) (I := fun i g => lst_at S.1 g j i)
      (G := fun i g => Go E (d + 12) (0, 0) mx_X11_last go_φ 28 [(0, vv_A 0), (1, vv_L g), (3, vv_I (j : Int)), (4, vv_I (i : Int))] [] δ2 Q) (fun i g hi hI2 ih2 => ?_) (fun g hI2 => ?_)
    · refine go_iload_n (i := 3) dx_X11_last_14 rfl rfl ?_
      refine go_aload_n (i := 0) dx_X11_last_15 rfl rfl ?_
      refine go_getA (b := 3) fs_X11_19 rfl (go_ok rfl rfl) rfl dx_X11_last_16 ?_
      refine go_getI fs_X11_239 (Or.inl rfl) (go_ok rfl rfl) dx_X11_last_19 ?_
      refine go_asI (y := (S.1.2.2.length : Int)) (by exact e3) ?_
      refine go_icmp_gt (tgt := 61) dx_X11_last_22 rfl (by omega) (by omega) (fun c22 => by exact absurd c22 (by omega)) (fun c22 => ?_)
      refine go_iconst dx_X11_last_25 ?_
      refine go_istore (lv' := [(0, vv_A 0), (1, vv_L g), (3, vv_I (j : Int)), (4, vv_I 0)]) dx_X11_last_26 (by decide) rfl ?_
      exact inner 0 g (Nat.zero_le _) i1
    · obtain ⟨g1, g2, g3⟩ := hI2
      refine go_iload dx_X11_last_28 rfl ?_
      refine go_iload_n (i := 3) dx_X11_last_30 rfl rfl ?_
      refine go_icmp_ge (tgt := 55) dx_X11_last_31 rfl (by omega) (by omega) (fun c31 => by exact absurd c31 (by omega)) (fun c31 => ?_)
      refine go_lload_n (i := 1) dx_X11_last_34 rfl rfl ?_
      refine go_aload_n (i := 0) dx_X11_last_35 rfl rfl ?_
      refine go_getA (b := 49) fs_X11_51 rfl (go_ok rfl rfl) rfl dx_X11_last_36 ?_
      refine go_iload dx_X11_last_39 rfl ?_
      refine go_iload_n (i := 3) dx_X11_last_41 rfl rfl ?_
      refine go_cV2 sv_X11_255 (go_ok rfl rfl) dx_X11_last_42 (Nat.le_of_ble_eq_true rfl) (Nat.le_of_ble_eq_true rfl) (g_Rounds_greatestAt hb rt z2 h14 hi (by omega) (fun v v1 v2 v3 v4 => ?_))
      refine go_mmaxL mm_X11_258 dx_X11_last_45 (by omega) (by omega) (Nat.le_of_ble_eq_true rfl) (Nat.le_refl _) (Nat.le_refl _) ?_
      refine go_nmL (fun g' eg' => ?_)
      refine go_lstore_n (i := 1) (lv' := [(0, vv_A 0), (1, vv_L g'), (3, vv_I (j : Int)), (4, vv_I (i : Int))]) dx_X11_last_48 rfl (by decide) rfl ?_
      refine go_iinc (lv' := [(0, vv_A 0), (1, vv_L g'), (3, vv_I (j : Int)), (4, vv_I ((i : Int) + 1))]) dx_X11_last_49 rfl (by decide) rfl ?_
      refine go_goto (tgt := 28) dx_X11_last_52 rfl ?_
      have eg' : g' = if v < g then g else v := by first | exact eg' | (rw [eg']; split <;> split <;> omega)
      have all : ∀ x, rv S.1.1 x (sl S.1.2.2 i j) ≤ v := fun x => by
        by_cases hx : x < 14 + (gH S.1.1).length
        · exact v3 x hx
        · have : rv S.1.1 x (sl S.1.2.2 i j) = -1 := li_f (fun m hm => hx (dx_lt hR (rd_dx hR hm)))
          omega
      refine ih2 g' ⟨by rw [eg']; split <;> omega, fun x a b c1 c2 c3 => ?_, ?_⟩
      · by_cases z : b = j ∧ a = i
        · obtain ⟨z1, z2⟩ := z
          have := all x
          rw [z1, z2, eg']
          split <;> omega
        · have := g2 x a b c1 c2 (by omega)
          rw [eg']
          split <;> omega
      · rw [eg']
        split
        · exact g3
        · exact v4.imp id (fun ⟨x, _, e⟩ => ⟨x, i, j, hi, by omega, e⟩)
    · refine go_iload dx_X11_last_28 rfl ?_
      refine go_iload_n (i := 3) dx_X11_last_30 rfl rfl ?_
      refine go_icmp_ge (tgt := 55) dx_X11_last_31 rfl (by omega) (by omega) (fun c31 => ?_) (fun c31 => by exact absurd c31 (by omega))
      refine go_iinc (lv' := [(0, vv_A 0), (1, vv_L g), (3, vv_I ((j : Int) + 1)), (4, vv_I (j : Int))]) dx_X11_last_55 rfl (by decide) rfl ?_
      refine go_goto (tgt := 14) dx_X11_last_58 rfl ?_
      refine go_keep [0, 1, 2] rfl ?_
      exact ih g ⟨by omega, hI2.1, fun x a b c1 c2 c3 => hI2.2.1 x a b c1 c2 (by omega), hI2.2.2⟩
  · obtain ⟨j1, i1⟩ := hI
    have hg := i1.1
    have e := lst_end hK i1
    rw [e] at hQ
    refine go_iload_n (i := 3) dx_X11_last_14 rfl rfl ?_
    refine go_aload_n (i := 0) dx_X11_last_15 rfl rfl ?_
    refine go_getA (b := 3) fs_X11_19 rfl (go_ok rfl rfl) rfl dx_X11_last_16 ?_
    refine go_getI fs_X11_239 (Or.inl rfl) (go_ok rfl rfl) dx_X11_last_19 ?_
    refine go_asI (y := (S.1.2.2.length : Int)) (by exact e3) ?_
    refine go_icmp_gt (tgt := 61) dx_X11_last_22 rfl (by omega) (by omega) (fun c22 => ?_) (fun c22 => by exact absurd c22 (by omega))
    refine go_lload_n (i := 1) dx_X11_last_61 rfl rfl ?_
    refine go_l2i dx_X11_last_62 ?_
    refine go_ireturn dx_X11_last_63 rfl (Nat.le_refl _) (Nat.le_refl _) ?_
    exact hQ
end GXC8
