/-! rows of Go: makings -/
/-- nothing stands from n on -/
def fz {α : Type} (z : α) (n : Nat) (δ : Nat → Nat → α) : Prop := ∀ a, n ≤ a → ∀ j, δ a j = z
theorem fz_up {α : Type} {z : α} {n m : Nat} {δ : Nat → Nat → α} (h : fz z n δ) (e : n + 1 = m) : fz z m δ := fun a ha j => h a (by omega) j
theorem fz_wr {α : Type} {z v : α} {n a k : Nat} {δ : Nat → Nat → α} (h : fz z n δ) (ha : a < n) : fz z n (wr δ a k v) := fun b hb j => by
  rw [wr_a _ _ _ _ (by omega)]; exact h b hb j
theorem go_W.born {E : go_E} {n : Nat} {ρ : Nat → Nat → Nat} {δ : Nat → Nat → Int} {H H1 : Heap} (h : go_W E n ρ δ H) (z : H1.size = H.size + 1) (o : ∀ q, q < H.size → H1[q]? = H[q]?) (e : va_at (go_D E) go_cl (go_b0 E + n, go_ent E ρ δ n) H1) : go_W E (n + 1) ρ δ H1 := by
  refine ⟨by rw [z, h.1]; omega, fun b hb => ?_⟩
  by_cases hba : b = n
  · subst hba; exact e
  · exact (h.2 b (by omega)).kept (o _ (by rw [h.1]; show go_b0 E + b < go_b0 E + n; omega))
theorem go_Sborn {E : go_E} {s : State} {H H1 : Heap} {locs : List Loc} (hS : va_S (go_A E) s.heap H locs) (z : H1.size = H.size + 1) (o : ∀ q, q < H.size → H1[q]? = H[q]?) : va_S (go_A E) s.heap H1 locs :=
  ⟨Nat.le_trans hS.1 (by omega), fun x h1 h2 => (o x (Nat.lt_of_lt_of_le h1 hS.1)).trans (hS.2.1 x h1 h2), hS.2.2⟩
theorem go_dv (E : go_E) {ty : FieldType} {t : Nat} (h : go_tag ty = t) (hf : t ≠ 2 ∨ (∃ n, ty = .object n) ∨ ∃ x, ty = .array x) : defaultValue ty = go_sl E t 0 0 := by
  subst h
  rcases hf with hf | ⟨n, rfl⟩ | ⟨x, rfl⟩
  · cases ty <;> first | exact absurd rfl hf | rfl
  · rfl
  · rfl
theorem go_Yok : ∀ ci, ci < 12 → ∀ k, k < 53 → (go_tg ci k ≠ 2 ∨ (match go_Y ci k with | .object _ => true | .array _ => true | _ => false) = true) := by decide +kernel
theorem go_clN : ∀ ci, ci < 12 → (match go_cl[ci]? with | some q => decide (q.2.2 ≤ 53) | none => true) = true := by decide +kernel
section GOMAKE
variable {E : go_E} {d : Nat} {mm : Nat × Nat} {M : go_M} {n n' c0 c' sl0 sl' pc : Nat} {ρ : Nat → Nat → Nat} {lv : List (Nat × go_V)} {st : List go_V} {δ : Nat → Nat → Int} {Q : List go_V → go_F → (Nat → Nat → Int) → Prop}
theorem go_new {idx ci : Nat} {C : String} {T : u_T} {N : Nat} (hc : go_cl[ci]? = some (C, T, N)) (hr : fz 0 n ρ) (hd : fz 0 n δ) (hk : go_kd n = ci) (hlk : Cond.classLink M.1.cls idx C ∈ go_tbl) (hin : Cond.instantiable C N ∈ go_tbl) (hini : Cond.initialized C ∈ go_tbl)
    (hdg : decode (go_cc M) pc = .ok (.new idx, 3)) (e1 : n + 1 = n') (e2 : c0 + 1 = c') (e3 : sl0 + N = sl') (h5 : c' ≤ mm.1) (h6 : sl' ≤ mm.2)
    (kk : fz 0 n' ρ → fz 0 n' δ → Go E d mm M (n', ρ, c', sl') (pc + 3) lv (vv_A n :: st) δ Q) : Go E d mm M (n, ρ, c0, sl0) pc lv st δ Q := by
  intro p l e R s m args below meth c Z H locs ls B g1 g2 g3 g4 hZ hW hS hl
  have K := kk (fz_up hr e1) (fz_up hd e1) p l e R s m args below meth c Z
  have B0 := B
  obtain ⟨hx, hb, hrt, hml, hown, hts, hlk2, hnme, hCX⟩ := B
  subst e1 e2 e3
  have hKn := hCX.1.1 ci _ hc
  obtain ⟨hinw, htys, hnm, htag⟩ := go_cf hc
  refine W.newcK hx hb hown (hts _ hlk) (hts _ hin) (hts _ hini) rfl hdg (Nat.le_trans h5 g3) (Nat.le_trans h6 g4) hKn.2.1 hW.1 fun H1 kC hkC f1 z1 o1 => ?_
  refine K H1 locs ls B0 g1 g2 g3 g4 hZ (hW.born (by rw [z1, hW.1]) (fun q hq => o1 q (by rw [← hW.1]; exact hq)) ?_) (go_Sborn hS (by rw [z1, hW.1]) (fun q hq => o1 q (by rw [← hW.1]; exact hq))) hl
  have hlt := go_cl_lt hc
  have hN : N ≤ 53 := by
    have := go_clN ci hlt
    rw [hc] at this
    simpa using this
  rw [go_ent_obj hk (by omega), go_ln_of hk hc]
  refine ⟨_, hc, (u_born (go_Y ci) hts hinw hKn hkC f1 htys).to (fun k hk2 => ?_)⟩
  have hk2 : k < N := hk2
  show _ = vp_V _ k
  rw [go_getV hk2]
  show defaultValue _ = go_sl E _ (ρ n k) (δ n k)
  rw [hr n (Nat.le_refl _) k, hd n (Nat.le_refl _) k]
  refine go_dv E (htag k hk2) ?_
  rcases go_Yok ci hlt k (by omega) with h | h
  · exact Or.inl h
  · refine Or.inr ?_
    cases hy : go_Y ci k with
    | object x => exact Or.inl ⟨_, rfl⟩
    | array x => exact Or.inr ⟨_, rfl⟩
    | _ => rw [hy] at h; cases h
theorem go_newI {x : Int} {N : Nat} (hr : fz 0 n ρ) (hd : fz 0 n δ) (hdg : decode (go_cc M) pc = .ok (.newarray .int, 2)) (hx : x = (N : Int)) (hk : go_kd n = 20) (hn : go_ln n = N) (e1 : n + 1 = n') (e2 : c0 + 1 = c') (e3 : sl0 + N = sl') (h5 : c' ≤ mm.1) (h6 : sl' ≤ mm.2)
    (kk : fz 0 n' ρ → fz 0 n' δ → Go E d mm M (n', ρ, c', sl') (pc + 2) lv (vv_A n :: st) δ Q) : Go E d mm M (n, ρ, c0, sl0) pc lv (vv_I x :: st) δ Q := by
  intro p l e R s m args below meth c Z H locs ls B g1 g2 g3 g4 hZ hW hS hl
  have K := kk (fz_up hr e1) (fz_up hd e1) p l e R s m args below meth c Z
  have hNs : N < 65536 := by rw [← hn]; exact go_ln_small _
  have hK := B.2.2.2.2.2.2.2.2.1
  have hts := B.2.2.2.2.2.1
  subst hx e1 e2 e3
  have e0 : (Int32.ofInt (N : Int)).toNatClampNeg = N := by rw [Int32.toNatClampNeg_ofInt_of_le (by omega) (by omega)]; rfl
  refine va_newaK (atype := .int) B.1 B.2.1 (hts _ ax_int) rfl hdg rfl (fun q => ?_) e0 (show N * 4 ≤ 536870912 by omega) (Nat.le_trans h5 g3) (Nat.le_trans h6 g4) hW.1 (fun H1 cA f1 z1 o1 hAr hNm => ?_)
  · rw [show (0 : Int32) = Int32.ofInt 0 from rfl, go_lt32 ⟨by omega, by omega⟩ go_i0] at q; omega
  · have hc : cA = go_cI E := Option.some.inj (hNm.symm.trans ((hK.2 0 _ rfl).2))
    subst hc
    refine K H1 locs ls B g1 g2 g3 g4 hZ (hW.born (by rw [z1, hW.1]) (fun q hq => o1 q (by rw [← hW.1]; exact hq)) ?_) (go_Sborn hS (by rw [z1, hW.1]) (fun q hq => o1 q (by rw [← hW.1]; exact hq))) hl
    show va_at (go_D E) go_cl (go_b0 E + n, go_ent E ρ δ n) H1
    unfold go_ent
    rw [if_pos hk, hn]
    show H1[go_b0 E + n]? = some (arrV (go_cI E) N (fun j => .int (Int32.ofInt (δ n j))))
    rw [f1]
    congr 2
    funext q
    rw [hd n (Nat.le_refl _) q]
    rfl
theorem go_newL {x : Int} {N : Nat} (hr : fz 0 n ρ) (hd : fz 0 n δ) (hdg : decode (go_cc M) pc = .ok (.newarray .long, 2)) (hx : x = (N : Int)) (hk : go_kd n = 21) (hn : go_ln n = N) (e1 : n + 1 = n') (e2 : c0 + 1 = c') (e3 : sl0 + N = sl') (h5 : c' ≤ mm.1) (h6 : sl' ≤ mm.2)
    (kk : fz 0 n' ρ → fz 0 n' δ → Go E d mm M (n', ρ, c', sl') (pc + 2) lv (vv_A n :: st) δ Q) : Go E d mm M (n, ρ, c0, sl0) pc lv (vv_I x :: st) δ Q := by
  intro p l e R s m args below meth c Z H locs ls B g1 g2 g3 g4 hZ hW hS hl
  have K := kk (fz_up hr e1) (fz_up hd e1) p l e R s m args below meth c Z
  have hNs : N < 65536 := by rw [← hn]; exact go_ln_small _
  have hK := B.2.2.2.2.2.2.2.2.1
  have hts := B.2.2.2.2.2.1
  subst hx e1 e2 e3
  have e0 : (Int32.ofInt (N : Int)).toNatClampNeg = N := by rw [Int32.toNatClampNeg_ofInt_of_le (by omega) (by omega)]; rfl
  refine va_newaK (atype := .long) B.1 B.2.1 (hts _ ax_long) rfl hdg rfl (fun q => ?_) e0 (show N * 8 ≤ 536870912 by omega) (Nat.le_trans h5 g3) (Nat.le_trans h6 g4) hW.1 (fun H1 cA f1 z1 o1 hAr hNm => ?_)
  · rw [show (0 : Int32) = Int32.ofInt 0 from rfl, go_lt32 ⟨by omega, by omega⟩ go_i0] at q; omega
  · have hc : cA = go_cL E := Option.some.inj (hNm.symm.trans ((hK.2 1 _ rfl).2))
    subst hc
    refine K H1 locs ls B g1 g2 g3 g4 hZ (hW.born (by rw [z1, hW.1]) (fun q hq => o1 q (by rw [← hW.1]; exact hq)) ?_) (go_Sborn hS (by rw [z1, hW.1]) (fun q hq => o1 q (by rw [← hW.1]; exact hq))) hl
    show va_at (go_D E) go_cl (go_b0 E + n, go_ent E ρ δ n) H1
    unfold go_ent
    rw [if_neg (by omega), if_pos hk, hn]
    show H1[go_b0 E + n]? = some (arrV (go_cL E) N (fun j => .long (Int64.ofInt (δ n j))))
    rw [f1]
    congr 2
    funext q
    rw [hd n (Nat.le_refl _) q]
    rfl
theorem go_newZ {x : Int} {N : Nat} (hr : fz 0 n ρ) (hd : fz 0 n δ) (hdg : decode (go_cc M) pc = .ok (.newarray .boolean, 2)) (hx : x = (N : Int)) (hk : go_kd n = 22) (hn : go_ln n = N) (e1 : n + 1 = n') (e2 : c0 + 1 = c') (e3 : sl0 + N = sl') (h5 : c' ≤ mm.1) (h6 : sl' ≤ mm.2)
    (kk : fz 0 n' ρ → fz 0 n' δ → Go E d mm M (n', ρ, c', sl') (pc + 2) lv (vv_A n :: st) δ Q) : Go E d mm M (n, ρ, c0, sl0) pc lv (vv_I x :: st) δ Q := by
  intro p l e R s m args below meth c Z H locs ls B g1 g2 g3 g4 hZ hW hS hl
  have K := kk (fz_up hr e1) (fz_up hd e1) p l e R s m args below meth c Z
  have hNs : N < 65536 := by rw [← hn]; exact go_ln_small _
  have hK := B.2.2.2.2.2.2.2.2.1
  have hts := B.2.2.2.2.2.1
  subst hx e1 e2 e3
  have e0 : (Int32.ofInt (N : Int)).toNatClampNeg = N := by rw [Int32.toNatClampNeg_ofInt_of_le (by omega) (by omega)]; rfl
  refine va_newaK (atype := .boolean) B.1 B.2.1 (hts _ ax_boolean) rfl hdg rfl (fun q => ?_) e0 (show N * 1 ≤ 536870912 by omega) (Nat.le_trans h5 g3) (Nat.le_trans h6 g4) hW.1 (fun H1 cA f1 z1 o1 hAr hNm => ?_)
  · rw [show (0 : Int32) = Int32.ofInt 0 from rfl, go_lt32 ⟨by omega, by omega⟩ go_i0] at q; omega
  · have hc : cA = go_cZ E := Option.some.inj (hNm.symm.trans ((hK.2 2 _ rfl).2))
    subst hc
    refine K H1 locs ls B g1 g2 g3 g4 hZ (hW.born (by rw [z1, hW.1]) (fun q hq => o1 q (by rw [← hW.1]; exact hq)) ?_) (go_Sborn hS (by rw [z1, hW.1]) (fun q hq => o1 q (by rw [← hW.1]; exact hq))) hl
    show va_at (go_D E) go_cl (go_b0 E + n, go_ent E ρ δ n) H1
    unfold go_ent
    rw [if_neg (by omega), if_neg (by omega), if_pos hk, hn]
    show H1[go_b0 E + n]? = some (arrV (go_cZ E) N (fun j => .int (Int32.ofInt (δ n j))))
    rw [f1]
    congr 2
    funext q
    rw [hd n (Nat.le_refl _) q]
    rfl
theorem go_anew {idx : Nat} {x : Int} {N : Nat} (hr : fz 0 n ρ) (hd : fz 0 n δ) (hlk : Cond.classLink M.1.cls idx "BitRecogniser$Told" ∈ go_tbl) (hdg : decode (go_cc M) pc = .ok (.anewarray idx, 3)) (hx : x = (N : Int)) (hk : go_kd n = 23) (hn : go_ln n = N) (e1 : n + 1 = n') (e2 : c0 + 1 = c') (e3 : sl0 + N = sl') (h5 : c' ≤ mm.1) (h6 : sl' ≤ mm.2)
    (kk : fz 0 n' ρ → fz 0 n' δ → Go E d mm M (n', ρ, c', sl') (pc + 3) lv (vv_A n :: st) δ Q) : Go E d mm M (n, ρ, c0, sl0) pc lv (vv_I x :: st) δ Q := by
  intro p l e R s m args below meth c Z H locs ls B g1 g2 g3 g4 hZ hW hS hl
  have K := kk (fz_up hr e1) (fz_up hd e1) p l e R s m args below meth c Z
  have hNs : N < 65536 := by rw [← hn]; exact go_ln_small _
  have B0 := B
  obtain ⟨hex, hb, hrt, hml, hown, hts, hlk2, hnme, hCX⟩ := B
  have hK := hCX.1
  have hAO := hCX.2.2.2.2.2.2.2.2.2.2
  subst hx e1 e2
  have e0 : (Int32.ofInt (N : Int)).toNatClampNeg = N := by rw [Int32.toNatClampNeg_ofInt_of_le (by omega) (by omega)]; rfl
  refine W.anew hex hb hown (hts _ hlk) (va_AO.use hAO) rfl hdg rfl (fun q => ?_) (by rw [e0]; omega) (Nat.le_trans h5 g3) (by rw [e0]; show sl0 + N ≤ _; omega) fun cA kA comp f1 f2 f3 f4 => ?_
  · rw [show (0 : Int32) = Int32.ofInt 0 from rfl, go_lt32 ⟨by omega, by omega⟩ go_i0] at q; omega
  · rw [e0]
    generalize hH1 : H.push ({ cls := cA, slots := Array.replicate N .null, vm := .none } : Cell) = H1
    have z1 : H1.size = H.size + 1 := by rw [← hH1, Array.size_push]
    have e4 : H1[H.size]? = some (arrV cA N (fun _ => .null)) := by rw [← hH1, Array.getElem?_push_size, ← arrV_new]
    have o1 : ∀ q : Nat, q < H.size → H1[q]? = H[q]? := fun q hq => by rw [← hH1, Array.getElem?_push, if_neg (Nat.ne_of_lt hq)]
    obtain ⟨kB, compB, -, -, -, hNm⟩ := (hK.2 3 _ rfl).2
    have hc : cA = go_cT E := Option.some.inj (f1.symm.trans hNm)
    subst hc e3
    rw [hW.1] at e4
    have K2 := K H1 locs ls B0 g1 g2 g3 g4 hZ (hW.born z1 o1 ?_) (go_Sborn hS z1 o1) hl
    · rw [hW.1]
      exact K2
    · show va_at (go_D E) go_cl (go_b0 E + n, go_ent E ρ δ n) H1
      unfold go_ent
      rw [if_neg (by omega), if_neg (by omega), if_neg (by omega), if_pos hk, hn]
      show H1[go_b0 E + n]? = some (arrV (go_cT E) N (fun j => va_rf (go_rv E (ρ n j))))
      rw [e4]
      congr 2
      funext q
      rw [hr n (Nat.le_refl _) q]
      rfl
theorem go_objI {a idx : Nat} (hlk : Cond.methodLink M.1.cls idx Lib.objectInit ∈ go_tbl) (hi : Cond.instanceMethod Lib.objectInit ∈ go_tbl) (hcd : Cond.code Lib.objectInit ⟨#[0xb1]⟩ 1 none ∈ go_tbl) (hdg : decode (go_cc M) pc = .ok (.invokespecial idx, 3)) (hr : go_wd st ≤ 8) {φ : go_F}
    (kk : Go E (d + 1) mm M φ (pc + 3) lv st δ Q) : Go E (d + 1) mm M φ pc lv (vv_A a :: st) δ Q := by
  intro p l e R s m args below meth c Z H locs ls B g1 g2 g3 g4 hZ hW hS hl
  have hts := B.2.2.2.2.2.1
  have hroom : 2 * (F0 m pc ls (go_cs E (vv_A a :: st))).monitorRoom + ((go_cs E st).map fun v => v.category).sum ≤ 8 := lv_room (by rw [go_wd_sum]; exact hr)
  refine W.objInit (a := go_b0 E + a) (rest := go_cs E st) B.1 B.2.1 B.2.2.2.2.1 (hts _ hlk) (hts _ hi) (hts _ hcd) rfl (by rw [B.2.2.2.1]; exact hl.1) rfl hdg (by omega) (by omega) ?_
  exact kk p l e R s m args below meth c Z H locs ls B g1 g2 g3 g4 hZ hW hS hl
theorem go_aast {a v i : Nat} (hr : fz 0 n ρ) (hdg : decode (go_cc M) pc = .ok (.aastore, 1)) (ha : go_kd a = 23 ∧ a < n) (hi : i < go_ln a) (hv : go_kd v = 8 ∧ v < n)
    (kk : fz 0 n (wr ρ a i (v + 1)) → Go E d mm M (n, wr ρ a i (v + 1), c0, sl0) (pc + 1) lv st δ Q) : Go E d mm M (n, ρ, c0, sl0) pc lv (vv_A v :: vv_I (i : Int) :: vv_A a :: st) δ Q := by
  intro p l e R s m args below meth c Z H locs ls B g1 g2 g3 g4 hZ hW hS hl
  have K := kk (fz_wr hr ha.2) p l e R s m args below meth c Z
  have B0 := B
  obtain ⟨hx, hb, hrt, hml, hown, hts, hlk2, hnme, hCX⟩ := B
  have hs := go_ln_small a
  have hK := hCX.1
  obtain ⟨hin, e1⟩ := go_idx (i := (i : Int)) (n := go_ln a) (by omega) (by omega) (by omega)
  have e1 : (Int32.ofInt (i : Int)).toNatClampNeg = i := e1
  have hcell := go_cellT (φ := (n, ρ, c0, sl0)) hW ha
  have hat := hW.2 v hv.2
  have hc8 : go_cl[8]? = some (go_R8, go_T8, 4) := rfl
  rw [go_ent_obj hv.1 (by decide)] at hat
  obtain ⟨r', hr', cellV, q1, q2, q3, -⟩ := hat
  have hcls := (hK.1 8 _ hc8).2
  obtain ⟨kA, comp, k1, k2, k3, -⟩ := (hK.2 3 _ rfl).2
  have hcomp : comp = (go_D E).1 8 := Option.some.inj (k3.symm.trans hcls.1)
  subst hcomp
  obtain ⟨kC, hkC, -⟩ := hcls.2
  refine W.aast hx hb hcell (fun q h => by cases h) (fun h => by cases h) k1 k2 rfl hkC ⟨fun q => hin (Or.inl q), by rw [arrV_size, e1]; exact hi⟩ q1 (fun q h => by rw [q3] at h; cases h) (by rw [q2]; exact hkC) (by rw [q2]; exact va_assign hcls) rfl rfl hdg fun H1 f1 z oq => ?_
  refine K H1 _ ls B0 g1 g2 g3 g4 hZ (hW.put z ?_ oq (fun b hb j => wr_a _ _ _ _ hb j) (fun _ _ _ => rfl)) (hS.put z oq (Nat.le_add_right _ _)) hl
  unfold go_ent
  rw [if_neg (by omega), if_neg (by omega), if_neg (by omega), if_pos ha.1]
  show H1[go_b0 E + a]? = some (arrV (go_cT E) (go_ln a) (fun j => va_rf (go_rv E (wr ρ a i (v + 1) a j))))
  rw [f1, arrV_store, e1]
  congr 2
  funext q
  by_cases hq : q = i
  · subst hq
    rw [wr_eq]
    simp [updV]
    rfl
  · rw [wr_i _ _ _ _ hq]
    simp [updV, hq]
theorem go_pA {idx ci k a b : Nat} {ty : FieldType} (hr : fz 0 n ρ) (hf : go_FP M.1.cls M.1.name idx ci k) (hty : go_Y ci k = ty) (hrt : (∃ n, ty = .object n) ∨ ∃ t, ty = .array t) (ht : go_tg ci k = 2) (ha : go_kd a = ci ∧ a < n)
    (hdg : decode (go_cc M) pc = .ok (.putfield idx, 3)) (kk : fz 0 n (wr ρ a k (b + 1)) → Go E d mm M (n, wr ρ a k (b + 1), c0, sl0) (pc + 3) lv st δ Q) : Go E d mm M (n, ρ, c0, sl0) pc lv (vv_A b :: vv_A a :: st) δ Q :=
  go_putA (φ := (n, ρ, c0, sl0)) hf hty hrt ht ha hdg (kk (fz_wr hr ha.2))
theorem go_pI {idx ci k a : Nat} {x : Int} (hd : fz 0 n δ) (hf : go_FP M.1.cls M.1.name idx ci k) (hty : go_Y ci k = .int) (ht : go_tg ci k = 0) (ha : go_kd a = ci ∧ a < n)
    (hdg : decode (go_cc M) pc = .ok (.putfield idx, 3)) (kk : fz 0 n (wr δ a k x) → Go E d mm M (n, ρ, c0, sl0) (pc + 3) lv st (wr δ a k x) Q) : Go E d mm M (n, ρ, c0, sl0) pc lv (vv_I x :: vv_A a :: st) δ Q :=
  go_putI (φ := (n, ρ, c0, sl0)) hf hty ht ha hdg (kk (fz_wr hd ha.2))
theorem go_pZ {idx ci k a : Nat} {x : Int} (hd : fz 0 n δ) (hf : go_FP M.1.cls M.1.name idx ci k) (hty : go_Y ci k = .boolean) (ht : go_tg ci k = 3) (ha : go_kd a = ci ∧ a < n) (hx : x = 0 ∨ x = 1)
    (hdg : decode (go_cc M) pc = .ok (.putfield idx, 3)) (kk : fz 0 n (wr δ a k x) → Go E d mm M (n, ρ, c0, sl0) (pc + 3) lv st (wr δ a k x) Q) : Go E d mm M (n, ρ, c0, sl0) pc lv (vv_I x :: vv_A a :: st) δ Q :=
  go_putZ (φ := (n, ρ, c0, sl0)) hf hty ht ha hx hdg (kk (fz_wr hd ha.2))
theorem go_pL {idx ci k a : Nat} {x : Int} (hd : fz 0 n δ) (hf : go_FP M.1.cls M.1.name idx ci k) (hty : go_Y ci k = .long) (ht : go_tg ci k = 1) (ha : go_kd a = ci ∧ a < n)
    (hdg : decode (go_cc M) pc = .ok (.putfield idx, 3)) (kk : fz 0 n (wr δ a k x) → Go E d mm M (n, ρ, c0, sl0) (pc + 3) lv st (wr δ a k x) Q) : Go E d mm M (n, ρ, c0, sl0) pc lv (vv_L x :: vv_A a :: st) δ Q :=
  go_putL (φ := (n, ρ, c0, sl0)) hf hty ht ha hdg (kk (fz_wr hd ha.2))
theorem go_aI {a i : Nat} {x : Int} (hd : fz 0 n δ) (hdg : decode (go_cc M) pc = .ok (.iastore, 1)) (ha : go_kd a = 20 ∧ a < n) (hi : i < go_ln a)
    (kk : fz 0 n (wr δ a i x) → Go E d mm M (n, ρ, c0, sl0) (pc + 1) lv st (wr δ a i x) Q) : Go E d mm M (n, ρ, c0, sl0) pc lv (vv_I x :: vv_I (i : Int) :: vv_A a :: st) δ Q :=
  go_iastore (φ := (n, ρ, c0, sl0)) hdg ha (by omega) (by omega) (kk (fz_wr hd ha.2))
/-- a constructor called -/
theorem go_ctor {M' : go_M} {As rest : List go_V} {k idx a cm sm n1 : Nat} {ρ1 : Nat → Nat → Nat} {δ1 : Nat → Nat → Int} (hs : go_SI M.1.cls idx M' k) (hdg : decode (go_cc M) pc = .ok (.invokespecial idx, 3)) (hn : As.length = k) (hlen : go_wd (vv_A a :: As) ≤ M'.2.2.1) (hr : go_wd rest ≤ 8)
    (e2 : c0 + cm = c') (e3 : sl0 + sm = sl') (h5 : c' ≤ mm.1) (h6 : sl' ≤ mm.2)
    (g : ∀ Q' : List go_V → go_F → (Nat → Nat → Int) → Prop, (fz 0 n1 ρ1 → fz 0 n1 δ1 → Q' [] (n1, ρ1, cm, sm) δ1) → Go E d (cm, sm) M' (n, ρ, 0, 0) 0 (go_ar 0 (vv_A a :: As)) [] δ Q')
    (kk : fz 0 n1 ρ1 → fz 0 n1 δ1 → Go E (d + 1) mm M (n1, ρ1, c', sl') (pc + 3) lv rest δ1 Q) : Go E (d + 1) mm M (n, ρ, c0, sl0) pc lv (As.reverse ++ vv_A a :: rest) δ Q := by
  subst e2 e3
  exact go_callI (φ := (n, ρ, c0, sl0)) (mc := (cm, sm)) hs hdg hn hlen hr h5 h6 (g _ (fun h1 h2 => kk h1 h2))
end GOMAKE
