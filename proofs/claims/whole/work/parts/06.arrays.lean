/-! rows of Go: arrays, statics, constants, ends of methods -/
theorem go_lns_small : ∀ n ∈ go_lns, n < 65536 := by decide +kernel
theorem go_ln_small (a : Nat) : go_ln a < 65536 := by
  unfold go_ln
  rw [List.getD_eq_getElem?_getD]
  cases h : go_lns[a]? with
  | none => show 0 < 65536; decide
  | some n => exact go_lns_small n (List.mem_of_getElem? h)
theorem go_idx {i : Int} {n : Nat} (h0 : 0 ≤ i) (h1 : i < (n : Int)) (hn : n < 2147483648) : vp_in (Int32.ofInt i) n ∧ (Int32.ofInt i).toNatClampNeg = i.toNat := by
  have e : (Int32.ofInt i).toNatClampNeg = i.toNat := Int32.toNatClampNeg_ofInt_of_le (by omega) (by omega)
  refine ⟨fun h => ?_, e⟩
  rcases h with h | h
  · rw [show (0 : Int32) = Int32.ofInt 0 from rfl, go_lt32 ⟨by omega, by omega⟩ go_i0] at h
    omega
  · rw [e] at h; omega
theorem go_setf {α : Type} (δ : Nat → Nat → Int) (a i : Nat) (x : Int) (g : Int → α) (j : Nat) : g (wr δ a i x a j) = if j = i then g x else g (δ a j) := by
  by_cases h : j = i
  · subst h; rw [wr_eq, if_pos rfl]
  · rw [wr_i _ _ _ _ h, if_neg h]
section GOARR
variable {E : go_E} {d : Nat} {mm : Nat × Nat} {M : go_M} {φ : go_F} {pc : Nat} {lv : List (Nat × go_V)} {st : List go_V} {δ : Nat → Nat → Int} {Q : List go_V → go_F → (Nat → Nat → Int) → Prop}
theorem go_cellI {H : Heap} (hW : go_W E φ.1 φ.2.1 δ H) {a : Nat} (ha : go_kd a = 20 ∧ a < φ.1) : H[go_b0 E + a]? = some (arrV (go_cI E) (go_ln a) (fun j => .int (Int32.ofInt (δ a j)))) := by
  have h := hW.2 a ha.2
  unfold go_ent at h
  rw [if_pos ha.1] at h
  exact h
theorem go_cellL {H : Heap} (hW : go_W E φ.1 φ.2.1 δ H) {a : Nat} (ha : go_kd a = 21 ∧ a < φ.1) : H[go_b0 E + a]? = some (arrV (go_cL E) (go_ln a) (fun j => .long (Int64.ofInt (δ a j)))) := by
  have h := hW.2 a ha.2
  unfold go_ent at h
  rw [if_neg (by omega), if_pos ha.1] at h
  exact h
theorem go_cellZ {H : Heap} (hW : go_W E φ.1 φ.2.1 δ H) {a : Nat} (ha : go_kd a = 22 ∧ a < φ.1) : H[go_b0 E + a]? = some (arrV (go_cZ E) (go_ln a) (fun j => .int (Int32.ofInt (δ a j)))) := by
  have h := hW.2 a ha.2
  unfold go_ent at h
  rw [if_neg (by omega), if_neg (by omega), if_pos ha.1] at h
  exact h
theorem go_cellT {H : Heap} (hW : go_W E φ.1 φ.2.1 δ H) {a : Nat} (ha : go_kd a = 23 ∧ a < φ.1) : H[go_b0 E + a]? = some (arrV (go_cT E) (go_ln a) (fun j => va_rf (go_rv E (φ.2.1 a j)))) := by
  have h := hW.2 a ha.2
  unfold go_ent at h
  rw [if_neg (by omega), if_neg (by omega), if_neg (by omega), if_pos ha.1] at h
  exact h
theorem go_iaload {a : Nat} {i : Int} (hdg : decode (go_cc M) pc = .ok (.iaload, 1)) (ha : go_kd a = 20 ∧ a < φ.1) (h0 : 0 ≤ i) (h1 : i < (go_ln a : Int))
    (kk : Go E d mm M φ (pc + 1) lv (vv_I (δ a i.toNat) :: st) δ Q) : Go E d mm M φ pc lv (vv_I i :: vv_A a :: st) δ Q := by
  refine go_step (fun p l e R s m args below meth c Z H locs ls B hS hl hW w => ?_) kk
  have hs := go_ln_small a
  obtain ⟨hin, e1⟩ := go_idx h0 h1 (by omega)
  exact W.iald B.1 B.2.1 (go_cellI hW ha) ((B.2.2.2.2.2.2.2.2.1.2 0 _ rfl).1 _ _) (fun q => by cases q) (by rw [arrV_size]; exact hin) (by rw [e1]; exact arrV_read _ _ (by omega)) rfl rfl hdg w
theorem go_baload {a : Nat} {i : Int} (hdg : decode (go_cc M) pc = .ok (.baload, 1)) (ha : go_kd a = 22 ∧ a < φ.1) (h0 : 0 ≤ i) (h1 : i < (go_ln a : Int))
    (kk : Go E d mm M φ (pc + 1) lv (vv_I (δ a i.toNat) :: st) δ Q) : Go E d mm M φ pc lv (vv_I i :: vv_A a :: st) δ Q := by
  refine go_step (fun p l e R s m args below meth c Z H locs ls B hS hl hW w => ?_) kk
  have hs := go_ln_small a
  obtain ⟨hin, e1⟩ := go_idx h0 h1 (by omega)
  exact W.zald B.1 B.2.1 (go_cellZ hW ha) ((B.2.2.2.2.2.2.2.2.1.2 2 _ rfl).1 _ _) (fun q => by cases q) (by rw [arrV_size]; exact hin) (by rw [e1]; exact arrV_read _ _ (by omega)) rfl rfl hdg w
theorem go_laload {a : Nat} {i : Int} (hdg : decode (go_cc M) pc = .ok (.laload, 1)) (ha : go_kd a = 21 ∧ a < φ.1) (h0 : 0 ≤ i) (h1 : i < (go_ln a : Int))
    (kk : Go E d mm M φ (pc + 1) lv (vv_L (δ a i.toNat) :: st) δ Q) : Go E d mm M φ pc lv (vv_I i :: vv_A a :: st) δ Q := by
  refine go_step (fun p l e R s m args below meth c Z H locs ls B hS hl hW w => ?_) kk
  have hs := go_ln_small a
  obtain ⟨hin, e1⟩ := go_idx h0 h1 (by omega)
  exact W.lald B.1 B.2.1 (go_cellL hW ha) ((B.2.2.2.2.2.2.2.2.1.2 1 _ rfl).1 _ _) (fun q => by cases q) (by rw [arrV_size]; exact hin) (by rw [e1]; exact arrV_read _ _ (by omega)) rfl rfl hdg w
theorem go_aaload {a b : Nat} {i : Int} (hdg : decode (go_cc M) pc = .ok (.aaload, 1)) (ha : go_kd a = 23 ∧ a < φ.1) (h0 : 0 ≤ i) (h1 : i < (go_ln a : Int)) (hb : φ.2.1 a i.toNat = b + 1)
    (kk : Go E d mm M φ (pc + 1) lv (vv_A b :: st) δ Q) : Go E d mm M φ pc lv (vv_I i :: vv_A a :: st) δ Q := by
  refine go_step (fun p l e R s m args below meth c Z H locs ls B hS hl hW w => ?_) kk
  have hs := go_ln_small a
  obtain ⟨hin, e1⟩ := go_idx h0 h1 (by omega)
  exact W.aald (ty := .object "BitRecogniser$Told") (v := go_cv E (vv_A b)) B.1 B.2.1 (go_cellT hW ha) ((B.2.2.2.2.2.2.2.2.1.2 3 _ rfl).1 _ _) rfl (fun q => by cases q) (by rw [arrV_size]; exact hin) (by rw [e1, arrV_read _ _ (by omega), hb]; rfl) rfl rfl hdg w
theorem go_arraylength {a : Nat} (hdg : decode (go_cc M) pc = .ok (.arraylength, 1)) (ha : (go_kd a = 20 ∨ go_kd a = 21 ∨ go_kd a = 22 ∨ go_kd a = 23) ∧ a < φ.1)
    (kk : Go E d mm M φ (pc + 1) lv (vv_I (go_ln a : Int) :: st) δ Q) : Go E d mm M φ pc lv (vv_A a :: st) δ Q := by
  refine go_step (fun p l e R s m args below meth c Z H locs ls B hS hl hW w => ?_) kk
  have hn : ∀ (cA : ClassId) (f : Nat → Value), (arrV cA (go_ln a) f).slots.size.toInt32 = Int32.ofInt (go_ln a : Int) := fun cA f => by
    rw [arrV_size, Int32.ofInt_eq_ofNat]
  have hK := B.2.2.2.2.2.2.2.2.1
  rcases ha with ⟨h | h | h | h, hlt⟩
  · exact W.alen B.1 B.2.1 (go_cellI hW ⟨h, hlt⟩) ((hK.2 0 _ rfl).1 _ _) (hn _ _) rfl rfl hdg w
  · exact W.alen B.1 B.2.1 (go_cellL hW ⟨h, hlt⟩) ((hK.2 1 _ rfl).1 _ _) (hn _ _) rfl rfl hdg w
  · exact W.alen B.1 B.2.1 (go_cellZ hW ⟨h, hlt⟩) ((hK.2 2 _ rfl).1 _ _) (hn _ _) rfl rfl hdg w
  · exact W.alen B.1 B.2.1 (go_cellT hW ⟨h, hlt⟩) ((hK.2 3 _ rfl).1 _ _) (hn _ _) rfl rfl hdg w
theorem go_iastore {a : Nat} {i x : Int} (hdg : decode (go_cc M) pc = .ok (.iastore, 1)) (ha : go_kd a = 20 ∧ a < φ.1) (h0 : 0 ≤ i) (h1 : i < (go_ln a : Int))
    (kk : Go E d mm M φ (pc + 1) lv st (wr δ a i.toNat x) Q) : Go E d mm M φ pc lv (vv_I x :: vv_I i :: vv_A a :: st) δ Q := by
  intro p l e R s m args below meth c Z H locs ls B g1 g2 g3 g4 hZ hW hS hl
  have hs := go_ln_small a
  obtain ⟨hin, e1⟩ := go_idx h0 h1 (by omega)
  refine W.iast B.1 B.2.1 (go_cellI hW ha) ((B.2.2.2.2.2.2.2.2.1.2 0 _ rfl).1 _ _) (fun q => by cases q) (by rw [arrV_size]; exact hin) rfl rfl hdg fun H1 e z oq => ?_
  refine kk p l _ R s m args below meth c Z H1 _ ls B g1 g2 g3 g4 hZ (hW.put z ?_ oq (fun _ _ _ => rfl) (fun b hb j => wr_a _ _ _ _ hb j)) (hS.put z oq (Nat.le_add_right _ _)) hl
  unfold go_ent
  rw [if_pos ha.1]
  show H1[go_b0 E + a]? = some (arrV (go_cI E) (go_ln a) (fun j => .int (Int32.ofInt (wr δ a i.toNat x a j))))
  rw [e, arrV_store, e1]
  congr 2
  funext q
  rw [go_setf δ a i.toNat x (fun z => Value.int (Int32.ofInt z)) q]
  rfl
theorem go_lastore {a : Nat} {i x : Int} (hdg : decode (go_cc M) pc = .ok (.lastore, 1)) (ha : go_kd a = 21 ∧ a < φ.1) (h0 : 0 ≤ i) (h1 : i < (go_ln a : Int))
    (kk : Go E d mm M φ (pc + 1) lv st (wr δ a i.toNat x) Q) : Go E d mm M φ pc lv (vv_L x :: vv_I i :: vv_A a :: st) δ Q := by
  intro p l e R s m args below meth c Z H locs ls B g1 g2 g3 g4 hZ hW hS hl
  have hs := go_ln_small a
  obtain ⟨hin, e1⟩ := go_idx h0 h1 (by omega)
  refine W.last B.1 B.2.1 (go_cellL hW ha) ((B.2.2.2.2.2.2.2.2.1.2 1 _ rfl).1 _ _) (fun q => by cases q) (by rw [arrV_size]; exact hin) rfl rfl hdg fun H1 e z oq => ?_
  refine kk p l _ R s m args below meth c Z H1 _ ls B g1 g2 g3 g4 hZ (hW.put z ?_ oq (fun _ _ _ => rfl) (fun b hb j => wr_a _ _ _ _ hb j)) (hS.put z oq (Nat.le_add_right _ _)) hl
  unfold go_ent
  rw [if_neg (by omega), if_pos ha.1]
  show H1[go_b0 E + a]? = some (arrV (go_cL E) (go_ln a) (fun j => .long (Int64.ofInt (wr δ a i.toNat x a j))))
  rw [e, arrV_store, e1]
  congr 2
  funext q
  rw [go_setf δ a i.toNat x (fun z => Value.long (Int64.ofInt z)) q]
  rfl
theorem go_bastore {a : Nat} {i x : Int} (hdg : decode (go_cc M) pc = .ok (.bastore, 1)) (ha : go_kd a = 22 ∧ a < φ.1) (h0 : 0 ≤ i) (h1 : i < (go_ln a : Int)) (hx : x = 0 ∨ x = 1)
    (kk : Go E d mm M φ (pc + 1) lv st (wr δ a i.toNat x) Q) : Go E d mm M φ pc lv (vv_I x :: vv_I i :: vv_A a :: st) δ Q := by
  intro p l e R s m args below meth c Z H locs ls B g1 g2 g3 g4 hZ hW hS hl
  have hs := go_ln_small a
  obtain ⟨hin, e1⟩ := go_idx h0 h1 (by omega)
  refine W.zast B.1 B.2.1 (go_cellZ hW ha) ((B.2.2.2.2.2.2.2.2.1.2 2 _ rfl).1 _ _) (fun q => by cases q) (by rw [arrV_size]; exact hin) rfl rfl hdg fun H1 e z oq => ?_
  refine kk p l _ R s m args below meth c Z H1 _ ls B g1 g2 g3 g4 hZ (hW.put z ?_ oq (fun _ _ _ => rfl) (fun b hb j => wr_a _ _ _ _ hb j)) (hS.put z oq (Nat.le_add_right _ _)) hl
  unfold go_ent
  rw [if_neg (by omega), if_neg (by omega), if_pos ha.1]
  show H1[go_b0 E + a]? = some (arrV (go_cZ E) (go_ln a) (fun j => .int (Int32.ofInt (wr δ a i.toNat x a j))))
  have hnx : narrow .boolean (.int (Int32.ofInt x)) = .int (Int32.ofInt x) := by rcases hx with rfl | rfl <;> rfl
  rw [e, hnx, arrV_store, e1]
  congr 2
  funext q
  rw [go_setf δ a i.toNat x (fun z => Value.int (Int32.ofInt z)) q]
  rfl
/-- the static tables, and the script -/
theorem go_getstatic1 {idx : Nat} (hf : Cond.fieldLink M.1.cls idx "BitRecogniser$Vocabulary" "BEGINS" "[I" ∈ go_tbl) (hdg : decode (go_cc M) pc = .ok (.getstatic idx, 3))
    (kk : Go E d mm M φ (pc + 3) lv (vv_S 1 :: st) δ Q) : Go E d mm M φ pc lv st δ Q :=
  go_step (fun p l e R s m args below meth c Z H locs ls B hS hl hW w => va_gets B.1 B.2.1 B.2.2.2.2.2.2.2.2.2.2.1 hS B.2.2.2.2.1 (B.2.2.2.2.2.1 _ hf) (fun _ h => h) hdg w) kk
theorem go_getstatic2 {idx : Nat} (hf : Cond.fieldLink M.1.cls idx "BitRecogniser$Vocabulary" "SIXES" "[I" ∈ go_tbl) (hdg : decode (go_cc M) pc = .ok (.getstatic idx, 3))
    (kk : Go E d mm M φ (pc + 3) lv (vv_S 2 :: st) δ Q) : Go E d mm M φ pc lv st δ Q :=
  go_step (fun p l e R s m args below meth c Z H locs ls B hS hl hW w => va_gets B.1 B.2.1 B.2.2.2.2.2.2.2.2.2.2.2.1 hS B.2.2.2.2.1 (B.2.2.2.2.2.1 _ hf) (fun _ h => h) hdg w) kk
theorem go_slen1 (hdg : decode (go_cc M) pc = .ok (.arraylength, 1)) (kk : Go E d mm M φ (pc + 1) lv (vv_I 6 :: st) δ Q) : Go E d mm M φ pc lv (vv_S 1 :: st) δ Q :=
  go_step (fun p l e R s m args below meth c Z H locs ls B hS hl hW w => va_tlen B.1 B.2.1 B.2.2.2.2.2.2.2.2.2.2.2.2.1 hS rfl hdg w) kk
theorem go_slen2 (hdg : decode (go_cc M) pc = .ok (.arraylength, 1)) (kk : Go E d mm M φ (pc + 1) lv (vv_I 5 :: st) δ Q) : Go E d mm M φ pc lv (vv_S 2 :: st) δ Q :=
  go_step (fun p l e R s m args below meth c Z H locs ls B hS hl hW w => va_tlen B.1 B.2.1 B.2.2.2.2.2.2.2.2.2.2.2.2.2.1 hS rfl hdg w) kk
theorem go_slen3 (hdg : decode (go_cc M) pc = .ok (.arraylength, 1)) (kk : Go E d mm M φ (pc + 1) lv (vv_I (go_L E : Int) :: st) δ Q) : Go E d mm M φ pc lv (vv_S 3 :: st) δ Q :=
  go_step (fun p l e R s m args below meth c Z H locs ls B hS hl hW w => va_slen B.1 B.2.1 B.2.2.2.2.2.2.2.2.2.2.2.2.2.2.1 B.2.2.2.2.2.2.2.2.2.2.2.2.2.2.2.1 B.2.2.2.2.2.2.2.2.2.2.2.2.2.2.2.2.1 hS hdg (by
    have w := w
    simp only [go_cs, List.map_cons, go_cv, Int32.ofInt_eq_ofNat] at w
    exact w)) kk
theorem go_sld1 {i : Int} (hdg : decode (go_cc M) pc = .ok (.iaload, 1)) (h0 : 0 ≤ i) (h1 : i < 6) (kk : Go E d mm M φ (pc + 1) lv (vv_I (go_BG i.toNat) :: st) δ Q) : Go E d mm M φ pc lv (vv_I i :: vv_S 1 :: st) δ Q := by
  obtain ⟨hin, e1⟩ := go_idx (n := 6) h0 (by omega) (by omega)
  exact go_step (fun p l e R s m args below meth c Z H locs ls B hS hl hW w => va_ti B.1 B.2.1 B.2.2.2.2.2.2.2.2.2.2.2.2.1 hS hin (by rw [e1]; rfl) hdg w) kk
theorem go_sld2 {i : Int} (hdg : decode (go_cc M) pc = .ok (.iaload, 1)) (h0 : 0 ≤ i) (h1 : i < 5) (kk : Go E d mm M φ (pc + 1) lv (vv_I (go_SX i.toNat) :: st) δ Q) : Go E d mm M φ pc lv (vv_I i :: vv_S 2 :: st) δ Q := by
  obtain ⟨hin, e1⟩ := go_idx (n := 5) h0 (by omega) (by omega)
  exact go_step (fun p l e R s m args below meth c Z H locs ls B hS hl hW w => va_ti B.1 B.2.1 B.2.2.2.2.2.2.2.2.2.2.2.2.2.1 hS hin (by rw [e1]; rfl) hdg w) kk
theorem go_sld3 {i : Int} (hdg : decode (go_cc M) pc = .ok (.iaload, 1)) (h0 : 0 ≤ i) (h1 : i < (go_L E : Int)) (hL : go_L E < 2147483648) (kk : Go E d mm M φ (pc + 1) lv (vv_I (go_xs E i.toNat).toInt :: st) δ Q) : Go E d mm M φ pc lv (vv_I i :: vv_S 3 :: st) δ Q := by
  obtain ⟨hin, e1⟩ := go_idx h0 h1 hL
  exact go_step (fun p l e R s m args below meth c Z H locs ls B hS hl hW w => va_sld B.1 B.2.1 B.2.2.2.2.2.2.2.2.2.2.2.2.2.2.1 B.2.2.2.2.2.2.2.2.2.2.2.2.2.2.2.1 B.2.2.2.2.2.2.2.2.2.2.2.2.2.2.2.2.1 hS hin hdg (by
    have w := w
    simp only [go_cs, List.map_cons, go_cv, Int32.ofInt_toInt] at w
    rw [e1]
    exact w)) kk
theorem go_ldc {idx : Nat} {x : Int} (hc : Cond.constant M.1.cls idx (Int32.ofInt x) ∈ go_tbl) (hdg : decode (go_cc M) pc = .ok (.ldc idx, 2)) (kk : Go E d mm M φ (pc + 2) lv (vv_I x :: st) δ Q) : Go E d mm M φ pc lv st δ Q :=
  go_step (fun p l e R s m args below meth c Z H locs ls B hS hl hW w => lv_ldc B.1 B.2.1 B.2.2.2.2.1 (B.2.2.2.2.2.1 _ hc) hdg w) kk
theorem go_ldc_w {idx : Nat} {x : Int} (hc : Cond.constant M.1.cls idx (Int32.ofInt x) ∈ go_tbl) (hdg : decode (go_cc M) pc = .ok (.ldc_w idx, 3)) (kk : Go E d mm M φ (pc + 3) lv (vv_I x :: st) δ Q) : Go E d mm M φ pc lv st δ Q :=
  go_step (fun p l e R s m args below meth c Z H locs ls B hS hl hW w => lv_ldcw B.1 B.2.1 B.2.2.2.2.1 (B.2.2.2.2.2.1 _ hc) hdg w) kk
theorem go_ldc2 {idx : Nat} {x : Int} (hc : Cond.constantLong M.1.cls idx (Int64.ofInt x) ∈ go_tbl) (hdg : decode (go_cc M) pc = .ok (.ldc2_w idx, 3)) (kk : Go E d mm M φ (pc + 3) lv (vv_L x :: st) δ Q) : Go E d mm M φ pc lv st δ Q :=
  go_step (fun p l e R s m args below meth c Z H locs ls B hS hl hW w => lv_ldc2 B.1 B.2.1 B.2.2.2.2.1 (B.2.2.2.2.2.1 _ hc) hdg w) kk
theorem go_tableOut {dflt lo hi : Int} {offs : Array Int} {len : Nat} {x : Int} {tgt : Nat} (hdg : decode (go_cc M) pc = .ok (.tableswitch dflt lo hi offs, len)) (hx : go_iI x) (h : x < lo ∨ hi < x) (ht : (pc : Int) + dflt = (tgt : Int)) (kk : Go E d mm M φ tgt lv st δ Q) : Go E d mm M φ pc lv (vv_I x :: st) δ Q :=
  go_step (fun p l e R s m args below meth c Z H locs ls B hS hl hW w => lv_tableOut B.1 B.2.1 hdg (by rw [go_n32 hx]; exact h) ht w) kk
theorem go_tableIn {dflt lo hi : Int} {offs : Array Int} {len : Nat} {x off : Int} {tgt : Nat} (hdg : decode (go_cc M) pc = .ok (.tableswitch dflt lo hi offs, len)) (hx : go_iI x) (h1 : ¬ x < lo) (h2 : ¬ hi < x) (ho : offs[(x - lo).toNat]? = some off) (ht : (pc : Int) + off = (tgt : Int)) (kk : Go E d mm M φ tgt lv st δ Q) : Go E d mm M φ pc lv (vv_I x :: st) δ Q :=
  go_step (fun p l e R s m args below meth c Z H locs ls B hS hl hW w => lv_tableIn B.1 B.2.1 hdg (by rw [go_n32 hx]; exact h1) (by rw [go_n32 hx]; exact h2) (by rw [go_n32 hx]; exact ho) ht w) kk
theorem go_ifnonnull {a : Nat} {off : Int} {tgt : Nat} (hdg : decode (go_cc M) pc = .ok (.ifnonnull off, 3)) (ht : (pc : Int) + off = (tgt : Int)) (kk : Go E d mm M φ tgt lv st δ Q) : Go E d mm M φ pc lv (vv_A a :: st) δ Q :=
  go_step (fun p l e R s m args below meth c Z H locs ls B hS hl hW w => lv_ifnonnull B.1 B.2.1 hdg ht w) kk
theorem go_ifnull {a : Nat} {off : Int} (hdg : decode (go_cc M) pc = .ok (.ifnull off, 3)) (kk : Go E d mm M φ (pc + 3) lv st δ Q) : Go E d mm M φ pc lv (vv_A a :: st) δ Q :=
  go_step (fun p l e R s m args below meth c Z H locs ls B hS hl hW w => lv_ifnull B.1 B.2.1 hdg w) kk
theorem go_end {v : List go_V} (hr : go_rt E M v pc) (h1 : φ.2.2.1 ≤ mm.1) (h2 : φ.2.2.2 ≤ mm.2) (hq : Q v φ δ) : Go E d mm M φ pc lv v δ Q := by
  intro p l e R s m args below meth c Z H locs ls B g1 g2 g3 g4 hZ hW hS hl
  exact W.widen h1 h2 (hZ v φ δ hq H locs ls pc hW hS hr h1 h2)
theorem go_ireturn {x : Int} (hdg : decode (go_cc M) pc = .ok (.ireturn, 1)) (hr : M.2.2.2 = some .int) (h1 : φ.2.2.1 ≤ mm.1) (h2 : φ.2.2.2 ≤ mm.2) (hq : Q [vv_I x] φ δ) : Go E d mm M φ pc lv [vv_I x] δ Q :=
  go_end (Or.inr (Or.inl ⟨x, .int, rfl, hr, rfl, hdg⟩)) h1 h2 hq
theorem go_zreturn {x : Int} (hdg : decode (go_cc M) pc = .ok (.ireturn, 1)) (hr : M.2.2.2 = some .boolean) (hx : x = 0 ∨ x = 1) (h1 : φ.2.2.1 ≤ mm.1) (h2 : φ.2.2.2 ≤ mm.2) (hq : Q [vv_I x] φ δ) : Go E d mm M φ pc lv [vv_I x] δ Q :=
  go_end (Or.inr (Or.inl ⟨x, .boolean, rfl, hr, by rcases hx with rfl | rfl <;> rfl, hdg⟩)) h1 h2 hq
theorem go_lreturn {x : Int} (hdg : decode (go_cc M) pc = .ok (.lreturn, 1)) (hr : M.2.2.2 = some .long) (h1 : φ.2.2.1 ≤ mm.1) (h2 : φ.2.2.2 ≤ mm.2) (hq : Q [vv_L x] φ δ) : Go E d mm M φ pc lv [vv_L x] δ Q :=
  go_end (Or.inr (Or.inr (Or.inl ⟨x, rfl, hr, hdg⟩))) h1 h2 hq
theorem go_areturn {a : Nat} {n : String} (hdg : decode (go_cc M) pc = .ok (.areturn, 1)) (hr : M.2.2.2 = some (.object n)) (h1 : φ.2.2.1 ≤ mm.1) (h2 : φ.2.2.2 ≤ mm.2) (hq : Q [vv_A a] φ δ) : Go E d mm M φ pc lv [vv_A a] δ Q :=
  go_end (Or.inr (Or.inr (Or.inr ⟨vv_A a, n, rfl, Or.inr ⟨a, rfl⟩, hr, hdg⟩))) h1 h2 hq
theorem go_vreturn (hdg : decode (go_cc M) pc = .ok (.return_, 1)) (hr : M.2.2.2 = none) (h1 : φ.2.2.1 ≤ mm.1) (h2 : φ.2.2.2 ≤ mm.2) (hq : Q [] φ δ) : Go E d mm M φ pc lv [] δ Q :=
  go_end (Or.inl ⟨rfl, hr, hdg⟩) h1 h2 hq
end GOARR
