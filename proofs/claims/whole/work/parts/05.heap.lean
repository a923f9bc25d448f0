/-! rows of Go: fields, arrays, statics, constants, ends -/
theorem go_one {D : va_G} {q : Nat × va_E} {H : Heap} (h : va_at D go_cl q H) : va_P D go_cl [q] H := by
  intro k x hx
  rcases k with _ | k
  · cases hx; exact h
  · simp at hx
theorem go_ent_obj {E : go_E} {ρ : Nat → Nat → Nat} {δ : Nat → Nat → Int} {a ci : Nat} (h : go_kd a = ci) (hc : ci < 20) :
    go_ent E ρ δ a = .inr (ci, (List.range (go_ln a)).map (fun k => go_sl E (go_tg ci k) (ρ a k) (δ a k))) := by
  subst h
  unfold go_ent
  rw [if_neg (by omega), if_neg (by omega), if_neg (by omega), if_neg (by omega)]
theorem go_cl_lt {ci : Nat} {r : vw_C} (h : go_cl[ci]? = some r) : ci < 12 := (List.getElem?_eq_some_iff.mp h).1
theorem go_ln_of {a ci : Nat} {C : String} {T : u_T} {N : Nat} (h : go_kd a = ci) (hc : go_cl[ci]? = some (C, T, N)) : go_ln a = N := by
  have h1 := go_cl_lt hc
  have h2 := go_ln_obj a (go_kd_out (by omega)) (by omega)
  rw [h, hc] at h2
  exact (Option.some.inj h2).symm
def go_FS (own : String) (idx ci k : Nat) : Prop := ∃ (C : String) (T : u_T) (N : Nat) (ref : String), go_cl[ci]? = some (C, T, N) ∧ k < N ∧ Cond.fieldLink own idx ref (T k).2.1 (T k).2.2.1 ∈ go_tbl ∧
  (ref = (T k).1 ∨ Cond.sameField ref (T k).1 (T k).2.1 (T k).2.2.1 ∈ go_tbl)
def go_FP (own nm : String) (idx ci k : Nat) : Prop := go_FS own idx ci k ∧ ∀ (C : String) (T : u_T) (N : Nat), go_cl[ci]? = some (C, T, N) → ((T k).2.2.2 = false ∨ ((T k).2.2.2 = true ∧ nm = "<init>" ∧ (T k).1 = own))
theorem go_getV {f : Nat → Value} {n k : Nat} (hk : k < n) : vp_V ((List.range n).map f) k = f k := by
  unfold vp_V
  simp [List.getD_eq_getElem?_getD, hk]
section GOHEAP
variable {E : go_E} {d : Nat} {mm : Nat × Nat} {M : go_M} {φ : go_F} {pc : Nat} {lv : List (Nat × go_V)} {st : List go_V} {δ : Nat → Nat → Int} {Q : List go_V → go_F → (Nat → Nat → Int) → Prop}
theorem go_getC {idx ci k a : Nat} {v : go_V} (hf : go_FS M.1.cls idx ci k) (ha : go_kd a = ci ∧ a < φ.1) (hv : go_sl E (go_tg ci k) (φ.2.1 a k) (δ a k) = go_cv E v) (hdg : decode (go_cc M) pc = .ok (.getfield idx, 3))
    (kk : Go E d mm M φ (pc + 3) lv (v :: st) δ Q) : Go E d mm M φ pc lv (vv_A a :: st) δ Q := by
  refine go_step (fun p l e R s m args below meth c Z H locs ls B hS hl hW w => ?_) kk
  obtain ⟨C, T, N, ref, hc, hk, hlink, hsame⟩ := hf
  obtain ⟨hin, -, -, -⟩ := go_cf hc
  obtain ⟨hx, hb, hr, hml, hown, hts, hlk, hnme, hCX⟩ := B
  have hat := hW.2 a ha.2
  have hln := go_ln_of ha.1 hc
  rw [go_ent_obj ha.1 (by have := go_cl_lt hc; omega), hln] at hat
  refine va_get (D := go_D E) (ci := ci) (v := go_cv E v) (C := C) (T := T) (N := N) (ref := ref) hx hb hts hin hown hCX.1 (go_one hat) 0 rfl hc k hk (hts _ hlink) (fun x hx0 => ?_) ?_ hdg w
  · rcases hsame with h | h
    · rw [h]; exact hx0
    · exact u_same (hts _ h) x hx0
  · rw [← hv]; simp [hk]
theorem go_getI {idx ci k a : Nat} (hf : go_FS M.1.cls idx ci k) (ht : go_tg ci k = 0 ∨ go_tg ci k = 3) (ha : go_kd a = ci ∧ a < φ.1) (hdg : decode (go_cc M) pc = .ok (.getfield idx, 3))
    (kk : Go E d mm M φ (pc + 3) lv (vv_I (δ a k) :: st) δ Q) : Go E d mm M φ pc lv (vv_A a :: st) δ Q :=
  go_getC hf ha (by rcases ht with h | h <;> (rw [h]; rfl)) hdg kk
theorem go_getL {idx ci k a : Nat} (hf : go_FS M.1.cls idx ci k) (ht : go_tg ci k = 1) (ha : go_kd a = ci ∧ a < φ.1) (hdg : decode (go_cc M) pc = .ok (.getfield idx, 3))
    (kk : Go E d mm M φ (pc + 3) lv (vv_L (δ a k) :: st) δ Q) : Go E d mm M φ pc lv (vv_A a :: st) δ Q :=
  go_getC hf ha (by rw [ht]; rfl) hdg kk
theorem go_getA {idx ci k a b : Nat} (hf : go_FS M.1.cls idx ci k) (ht : go_tg ci k = 2) (ha : go_kd a = ci ∧ a < φ.1) (hb : φ.2.1 a k = b + 1) (hdg : decode (go_cc M) pc = .ok (.getfield idx, 3))
    (kk : Go E d mm M φ (pc + 3) lv (vv_A b :: st) δ Q) : Go E d mm M φ pc lv (vv_A a :: st) δ Q :=
  go_getC hf ha (by rw [ht, hb]; rfl) hdg kk
theorem go_putC {idx ci k a : Nat} {v : go_V} {ty : FieldType} {ρ' : Nat → Nat → Nat} {δ' : Nat → Nat → Int} (hf : go_FP M.1.cls M.1.name idx ci k) (ha : go_kd a = ci ∧ a < φ.1) (hty : go_Y ci k = ty) (hn : narrow ty (go_cv E v) = go_cv E v) (hfit : fits ty (go_cv E v) = true)
    (he : go_sl E (go_tg ci k) (ρ' a k) (δ' a k) = go_cv E v) (h1 : ∀ b, b ≠ a → ∀ j, ρ' b j = φ.2.1 b j) (h2 : ∀ b, b ≠ a → ∀ j, δ' b j = δ b j) (h3 : ∀ j, j ≠ k → ρ' a j = φ.2.1 a j ∧ δ' a j = δ a j)
    (hdg : decode (go_cc M) pc = .ok (.putfield idx, 3)) (kk : Go E d mm M (φ.1, ρ', φ.2.2) (pc + 3) lv st δ' Q) : Go E d mm M φ pc lv (v :: vv_A a :: st) δ Q := by
  intro p l e R s m args below meth c Z H locs ls B g1 g2 g3 g4 hZ hW hS hl
  obtain ⟨⟨C, T, N, ref, hc, hk, hlink, hsame⟩, hfin⟩ := hf
  obtain ⟨hin, htys, hnm, -⟩ := go_cf hc
  have hfin := hfin C T N hc
  have K := kk p l e R s m args below meth c Z
  have B0 := B
  obtain ⟨hx, hb, hr, hml, hown, hts, hlk, hnme, hCX⟩ := B
  have hat := hW.2 a ha.2
  have hln := go_ln_of ha.1 hc
  have hc20 : ci < 20 := by have := go_cl_lt hc; omega
  rw [go_ent_obj ha.1 hc20, hln] at hat
  obtain ⟨r, hr1, cell, q1, q2, q3, q4⟩ := hat
  cases hr1.symm.trans hc
  have hap := va_apart (own := M.1.cls) hts hin (go_Y ci) htys hnm hCX.1 hc
  obtain ⟨hSl, hfc, kC, hkC, hkind⟩ := hCX.1.1 ci _ hc
  obtain ⟨cf, kf, fi, f, hi, hsl⟩ := hSl k hk
  have hi' : s.fieldFound? ref (T k).2.1 (T k).2.2.1 = some (cf, kf, fi, f) := by
    rcases hsame with h | h
    · rw [h]; exact hi
    · exact u_same (hts _ h) _ hi
  have hlay := hts _ (hin _ (u_in_lay hk))
  have hst := (u_facts hfc hkC (u_lays hts hin hk) hi).1
  have hd : parseFieldDescriptor (T k).2.2.1 = some ty := by rw [htys k hk, hty]
  have fin : ∀ (H1 : Heap) (e1 : H1[go_b0 E + a]? = some (cell.setSlot f.slot (go_cv E v))) (e2 : H1.size = H.size) (e3 : ∀ q, q ≠ go_b0 E + a → H1[q]? = H[q]?), go_W E φ.1 ρ' δ' H1 ∧ va_S (go_A E) s.heap H1 (locs ++ [⟨go_b0 E + a, f.slot⟩]) := by
    intro H1 e1 e2 e3
    refine ⟨hW.put e2 ?_ e3 h1 h2, hS.put e2 e3 (Nat.le_add_right _ _)⟩
    rw [go_ent_obj ha.1 hc20, hln]
    rw [hsl] at e1
    refine ⟨_, hc, t_OB.to (V := updV (vp_V ((List.range N).map (fun k => go_sl E (go_tg ci k) (φ.2.1 a k) (δ a k)))) k (go_cv E v)) ⟨_, e1, q2, q3, t_set q4 hap hk (go_cv E v)⟩ (fun j hj => ?_)⟩
    have hj : j < N := hj
    unfold updV
    by_cases hjk : j = k
    · subst hjk
      rw [if_pos rfl]
      show _ = vp_V _ j
      rw [go_getV hj, he]
    · rw [if_neg hjk]
      show _ = vp_V _ j
      rw [go_getV hj, go_getV hj, (h3 j hjk).1, (h3 j hjk).2]
  unfold u_lay at hlay
  rcases hfin with h | ⟨h, hni, hdecl⟩
  · rw [if_neg (by rw [h]; decide)] at hlay
    have h6 := u_store hfc hkC hkind hlay hi hd hn hfit
    refine W.putK hx hb (f := f) ⟨hown, hts _ hlink, ⟨_, _, _, hi'⟩, hst⟩ (by rw [q2]; exact h6) q1 q3 (by rw [hsl]; exact k2_hasslot (q4 k hk)) rfl rfl hdg fun H1 e1 e2 e3 => ?_
    obtain ⟨w1, w2⟩ := fin H1 e1 e2 e3
    exact K H1 _ ls B0 g1 g2 g3 g4 hZ w1 w2 hl
  · rw [if_pos h] at hlay
    have hcf : m.cls = cf := by
      obtain ⟨_, _, c', _, _, _, -, -, hf', -, -, -, hown2, -⟩ := Cond.laysFinal_spec hlay
      have e1 : c' = cf := by have := hi.symm.trans hf'; simp at this; exact this.1.symm
      rw [hdecl] at hown2
      rw [← e1]; exact Option.some.inj (hown.symm.trans hown2)
    have h6 := u_fits hfc hkC hkind (Or.inr hlay) hi hd hn hfit
    refine W.putFinK hx hb hown (hts _ hlink) hi' hst hcf (by rw [hnme, hni]) (by rw [q2]; exact h6) q1 q3 (by rw [hsl]; exact k2_hasslot (q4 k hk)) rfl rfl hdg fun H1 e1 e2 e3 => ?_
    obtain ⟨w1, w2⟩ := fin H1 e1 e2 e3
    exact K H1 _ ls B0 g1 g2 g3 g4 hZ w1 w2 hl
theorem go_putI {idx ci k a : Nat} {x : Int} (hf : go_FP M.1.cls M.1.name idx ci k) (hty : go_Y ci k = .int) (ht : go_tg ci k = 0) (ha : go_kd a = ci ∧ a < φ.1)
    (hdg : decode (go_cc M) pc = .ok (.putfield idx, 3)) (kk : Go E d mm M φ (pc + 3) lv st (wr δ a k x) Q) : Go E d mm M φ pc lv (vv_I x :: vv_A a :: st) δ Q :=
  go_putC (ρ' := φ.2.1) hf ha hty rfl rfl (by rw [ht, wr_eq]; rfl) (fun _ _ _ => rfl) (fun b hb j => wr_a _ _ _ _ hb j) (fun j hj => ⟨rfl, wr_i _ _ _ _ hj⟩) hdg kk
theorem go_putZ {idx ci k a : Nat} {x : Int} (hf : go_FP M.1.cls M.1.name idx ci k) (hty : go_Y ci k = .boolean) (ht : go_tg ci k = 3) (ha : go_kd a = ci ∧ a < φ.1) (hx : x = 0 ∨ x = 1)
    (hdg : decode (go_cc M) pc = .ok (.putfield idx, 3)) (kk : Go E d mm M φ (pc + 3) lv st (wr δ a k x) Q) : Go E d mm M φ pc lv (vv_I x :: vv_A a :: st) δ Q :=
  go_putC (ρ' := φ.2.1) hf ha hty (by rcases hx with rfl | rfl <;> rfl) (by rcases hx with rfl | rfl <;> rfl) (by rw [ht, wr_eq]; rfl) (fun _ _ _ => rfl) (fun b hb j => wr_a _ _ _ _ hb j) (fun j hj => ⟨rfl, wr_i _ _ _ _ hj⟩) hdg kk
theorem go_putL {idx ci k a : Nat} {x : Int} (hf : go_FP M.1.cls M.1.name idx ci k) (hty : go_Y ci k = .long) (ht : go_tg ci k = 1) (ha : go_kd a = ci ∧ a < φ.1)
    (hdg : decode (go_cc M) pc = .ok (.putfield idx, 3)) (kk : Go E d mm M φ (pc + 3) lv st (wr δ a k x) Q) : Go E d mm M φ pc lv (vv_L x :: vv_A a :: st) δ Q :=
  go_putC (ρ' := φ.2.1) hf ha hty rfl rfl (by rw [ht, wr_eq]; rfl) (fun _ _ _ => rfl) (fun b hb j => wr_a _ _ _ _ hb j) (fun j hj => ⟨rfl, wr_i _ _ _ _ hj⟩) hdg kk
theorem go_putA {idx ci k a b : Nat} {ty : FieldType} (hf : go_FP M.1.cls M.1.name idx ci k) (hty : go_Y ci k = ty) (hrt : (∃ n, ty = .object n) ∨ ∃ t, ty = .array t) (ht : go_tg ci k = 2) (ha : go_kd a = ci ∧ a < φ.1)
    (hdg : decode (go_cc M) pc = .ok (.putfield idx, 3)) (kk : Go E d mm M (φ.1, wr φ.2.1 a k (b + 1), φ.2.2) (pc + 3) lv st δ Q) : Go E d mm M φ pc lv (vv_A b :: vv_A a :: st) δ Q :=
  go_putC (δ' := δ) hf ha hty (by rcases hrt with ⟨n, rfl⟩ | ⟨t, rfl⟩ <;> rfl) (by rcases hrt with ⟨n, rfl⟩ | ⟨t, rfl⟩ <;> rfl) (by rw [ht, wr_eq]; rfl) (fun b hb j => wr_a _ _ _ _ hb j) (fun _ _ _ => rfl) (fun j hj => ⟨wr_i _ _ _ _ hj, rfl⟩) hdg kk
end GOHEAP
