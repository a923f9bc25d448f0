/-! rows of Go: constants, locals, arithmetic, branches -/
abbrev go_iI (x : Int) : Prop := -2147483648 ≤ x ∧ x ≤ 2147483647
abbrev go_iL (x : Int) : Prop := -9223372036854775808 ≤ x ∧ x ≤ 9223372036854775807
theorem go_n32 {x : Int} (h : go_iI x) : (Int32.ofInt x).toInt = x := Int32.toInt_ofInt_of_le (by omega) (by omega)
theorem go_n64 {x : Int} (h : go_iL x) : (Int64.ofInt x).toInt = x := Int64.toInt_ofInt_of_le (by omega) (by omega)
theorem go_eq32 {x y : Int} (hx : go_iI x) (hy : go_iI y) : Int32.ofInt x = Int32.ofInt y ↔ x = y := ⟨fun h => by rw [← go_n32 hx, h, go_n32 hy], fun h => by rw [h]⟩
theorem go_lt32 {x y : Int} (hx : go_iI x) (hy : go_iI y) : Int32.ofInt x < Int32.ofInt y ↔ x < y := by rw [Int32.lt_iff_toInt_lt, go_n32 hx, go_n32 hy]
theorem go_le32 {x y : Int} (hx : go_iI x) (hy : go_iI y) : Int32.ofInt x ≤ Int32.ofInt y ↔ x ≤ y := by rw [Int32.le_iff_toInt_le, go_n32 hx, go_n32 hy]
theorem go_eq64 {x y : Int} (hx : go_iL x) (hy : go_iL y) : Int64.ofInt x = Int64.ofInt y ↔ x = y := ⟨fun h => by rw [← go_n64 hx, h, go_n64 hy], fun h => by rw [h]⟩
theorem go_lt64 {x y : Int} (hx : go_iL x) (hy : go_iL y) : Int64.ofInt x < Int64.ofInt y ↔ x < y := by rw [Int64.lt_iff_toInt_lt, go_n64 hx, go_n64 hy]
theorem go_i0 : go_iI 0 := ⟨by decide, by decide⟩
def go_il (v : go_V) : Bool := match v with
  | .inr (.inl _) => true
  | _ => false
theorem go_il_cat (E : go_E) (v : go_V) : ((go_cv E v).category == 2) = go_il v := by
  rcases v with x | x | a | k
  · rfl
  · rfl
  · rfl
  · rcases k with _ | _ | _ | k <;> rfl
theorem go_cat1 {E : go_E} {v : go_V} (h : go_il v = false) : (go_cv E v).category = 1 := by
  rcases lv_cat (go_cv E v) with q | q
  · exact q
  · have := go_il_cat E v
    rw [q, h] at this
    cases this
def go_lk : List (Nat × go_V) → Nat → Option go_V
  | [], _ => none
  | (j, v) :: t, i => bif Nat.beq j i then some v else go_lk t i
theorem go_lk_mem {lv : List (Nat × go_V)} {i : Nat} {v : go_V} (h : go_lk lv i = some v) : (i, v) ∈ lv := by
  induction lv with
  | nil => cases h
  | cons q t ih =>
    obtain ⟨j, w⟩ := q
    unfold go_lk at h
    cases hb : Nat.beq j i with
    | true =>
      rw [hb] at h
      cases Nat.eq_of_beq_eq_true hb
      cases h
      exact List.mem_cons_self
    | false => rw [hb] at h; exact List.mem_cons_of_mem _ (ih h)
theorem go_ls {E : go_E} {ls : Array Slot} {n i : Nat} {lv : List (Nat × go_V)} {v : go_V} (hl : lv_has ls n (go_cl2 E lv)) (h : go_lk lv i = some v) : ls[i]? = some (.val (go_cv E v)) :=
  hl.2.2 (i, go_cv E v) (List.mem_map.mpr ⟨(i, v), go_lk_mem h, rfl⟩)
def go_kp (i : Nat) (v : go_V) (q : Nat × go_V) : Bool := !(Nat.beq q.1 i) && (!(Nat.beq (q.1 + 1) i && go_il q.2) && !(go_il v && Nat.beq q.1 (i + 1)))
/-- the locals behind a store, by their numbers -/
def go_up (i : Nat) (v : go_V) (lv : List (Nat × go_V)) : List (Nat × go_V) := lv.filter (fun q => Nat.blt q.1 i && go_kp i v q) ++ (i, v) :: lv.filter (fun q => Nat.blt i q.1 && go_kp i v q)
theorem go_up_mem {i : Nat} {v : go_V} {lv : List (Nat × go_V)} {q : Nat × go_V} (h : q ∈ go_up i v lv) : q = (i, v) ∨ (q ∈ lv ∧ go_kp i v q = true) := by
  unfold go_up at h
  simp only [List.mem_append, List.mem_filter, List.mem_cons, Bool.and_eq_true] at h
  rcases h with h | h | h
  · exact Or.inr ⟨h.1, h.2.2⟩
  · exact Or.inl h
  · exact Or.inr ⟨h.1, h.2.2⟩
theorem go_beq {a b : Nat} : Nat.beq a b = (a == b) := by rw [Bool.eq_iff_iff, Nat.beq_eq, beq_iff_eq]
theorem go_has1 {E : go_E} {ls : Array Slot} {n i : Nat} {v : go_V} {lv lv' : List (Nat × go_V)} (hv : go_il v = false) (hl : go_up i v lv = lv')
    (h : lv_has ls n ((i, go_cv E v) :: (go_cl2 E lv).filter (fun q => !(q.1 == i) && !(q.1 + 1 == i && q.2.category == 2)))) : lv_has ls n (go_cl2 E lv') := by
  refine ⟨h.1, h.2.1, fun q hq => h.2.2 q ?_⟩
  subst hl
  obtain ⟨q0, h0, rfl⟩ := List.mem_map.mp hq
  rcases go_up_mem h0 with rfl | ⟨h1, h2⟩
  · exact List.mem_cons_self
  · refine List.mem_cons_of_mem _ (List.mem_filter.mpr ⟨List.mem_map.mpr ⟨q0, h1, rfl⟩, ?_⟩)
    unfold go_kp at h2
    simp only [go_beq, Bool.and_eq_true] at h2
    show (!(q0.1 == i) && !(q0.1 + 1 == i && (go_cv E q0.2).category == 2)) = true
    rw [go_il_cat, Bool.and_eq_true]
    exact ⟨h2.1, h2.2.1⟩
theorem go_has2 {E : go_E} {ls : Array Slot} {n i : Nat} {x : Int} {lv lv' : List (Nat × go_V)} (hl : go_up i (vv_L x) lv = lv')
    (h : lv_has ls n ((i, Value.long (Int64.ofInt x)) :: (go_cl2 E lv).filter (fun q => !(q.1 == i) && (!(q.1 == i + 1) && !(q.1 + 1 == i && q.2.category == 2))))) : lv_has ls n (go_cl2 E lv') := by
  refine ⟨h.1, h.2.1, fun q hq => h.2.2 q ?_⟩
  subst hl
  obtain ⟨q0, h0, rfl⟩ := List.mem_map.mp hq
  rcases go_up_mem h0 with rfl | ⟨h1, h2⟩
  · exact List.mem_cons_self
  · refine List.mem_cons_of_mem _ (List.mem_filter.mpr ⟨List.mem_map.mpr ⟨q0, h1, rfl⟩, ?_⟩)
    unfold go_kp at h2
    simp only [go_beq, Bool.and_eq_true, go_il, Bool.true_and] at h2
    show (!(q0.1 == i) && (!(q0.1 == i + 1) && !(q0.1 + 1 == i && (go_cv E q0.2).category == 2))) = true
    rw [go_il_cat, Bool.and_eq_true, Bool.and_eq_true]
    exact ⟨h2.1, h2.2.2, h2.2.1⟩
def bv_and (x y : Int) : Int := (Int32.ofInt x &&& Int32.ofInt y).toInt
def bv_or (x y : Int) : Int := (Int32.ofInt x ||| Int32.ofInt y).toInt
def bv_xor (x y : Int) : Int := (Int32.ofInt x ^^^ Int32.ofInt y).toInt
def bv_shl (x y : Int) : Int := (Int32.ofInt x <<< (Int32.ofInt y &&& 31)).toInt
def bv_shr (x y : Int) : Int := (Int32.ofInt x >>> (Int32.ofInt y &&& 31)).toInt
def bv_ushr (x y : Int) : Int := ((Int32.ofInt x).toUInt32 >>> ((Int32.ofInt y).toUInt32 &&& Int32.toUInt32 31)).toInt32.toInt
def bw_and (x y : Int) : Int := (Int64.ofInt x &&& Int64.ofInt y).toInt
def bw_or (x y : Int) : Int := (Int64.ofInt x ||| Int64.ofInt y).toInt
def bw_xor (x y : Int) : Int := (Int64.ofInt x ^^^ Int64.ofInt y).toInt
def bw_shl (x y : Int) : Int := (Int64.ofInt x <<< ((Int32.ofInt y).toInt64 &&& 63)).toInt
def bw_shr (x y : Int) : Int := (Int64.ofInt x >>> ((Int32.ofInt y).toInt64 &&& 63)).toInt
def bw_ushr (x y : Int) : Int := ((Int64.ofInt x).toUInt64 >>> ((Int32.ofInt y).toInt64.toUInt64 &&& Int64.toUInt64 63)).toInt64.toInt
def go_cmp (x y : Int) : Int := if y < x then 1 else if x = y then 0 else -1
section GOROWS2
variable {E : go_E} {d : Nat} {mm : Nat × Nat} {M : go_M} {φ : go_F} {pc : Nat} {lv : List (Nat × go_V)} {st : List go_V} {δ : Nat → Nat → Int} {Q : List go_V → go_F → (Nat → Nat → Int) → Prop}
theorem go_lconst {n : Fin 2} {x : Int} (hdg : decode (go_cc M) pc = .ok (.lconst n, 1)) (hx : ((n : Nat) : Int) = x) (k : Go E d mm M φ (pc + 1) lv (vv_L x :: st) δ Q) : Go E d mm M φ pc lv (st) δ Q :=
  go_step (fun p l e R s m args below meth c Z H locs ls B hS hl hW w => by subst hx; exact lv_lconst B.1 B.2.1 hdg (by show _ = Int64.ofInt _; rw [Int64.ofInt_eq_ofNat]) w) k
theorem go_iload_n {k : Fin 4} {i : Nat} {x : Int} (hdg : decode (go_cc M) pc = .ok (.iload_n k, 1)) (hi : (k : Nat) = i) (hl : go_lk lv i = some (vv_I x)) (k : Go E d mm M φ (pc + 1) lv (vv_I x :: st) δ Q) : Go E d mm M φ pc lv (st) δ Q :=
  go_step (fun p l e R s m args below meth c Z H locs ls B hS hlv hW w => lv_iload_n B.1 B.2.1 hdg hi (go_ls hlv hl) w) k
theorem go_iload {i : Nat} {x : Int} (hdg : decode (go_cc M) pc = .ok (.iload i, 2)) (hl : go_lk lv i = some (vv_I x)) (k : Go E d mm M φ (pc + 2) lv (vv_I x :: st) δ Q) : Go E d mm M φ pc lv (st) δ Q :=
  go_step (fun p l e R s m args below meth c Z H locs ls B hS hlv hW w => lv_iload B.1 B.2.1 hdg (go_ls hlv hl) w) k
theorem go_lload_n {k : Fin 4} {i : Nat} {x : Int} (hdg : decode (go_cc M) pc = .ok (.lload_n k, 1)) (hi : (k : Nat) = i) (hl : go_lk lv i = some (vv_L x)) (k : Go E d mm M φ (pc + 1) lv (vv_L x :: st) δ Q) : Go E d mm M φ pc lv (st) δ Q :=
  go_step (fun p l e R s m args below meth c Z H locs ls B hS hlv hW w => lv_lload_n B.1 B.2.1 hdg hi (go_ls hlv hl) w) k
theorem go_lload {i : Nat} {x : Int} (hdg : decode (go_cc M) pc = .ok (.lload i, 2)) (hl : go_lk lv i = some (vv_L x)) (k : Go E d mm M φ (pc + 2) lv (vv_L x :: st) δ Q) : Go E d mm M φ pc lv (st) δ Q :=
  go_step (fun p l e R s m args below meth c Z H locs ls B hS hlv hW w => lv_lload B.1 B.2.1 hdg (go_ls hlv hl) w) k
theorem go_aload_n {k : Fin 4} {i : Nat} {x : Nat} (hdg : decode (go_cc M) pc = .ok (.aload_n k, 1)) (hi : (k : Nat) = i) (hl : go_lk lv i = some (vv_A x)) (k : Go E d mm M φ (pc + 1) lv (vv_A x :: st) δ Q) : Go E d mm M φ pc lv (st) δ Q :=
  go_step (fun p l e R s m args below meth c Z H locs ls B hS hlv hW w => lv_aload_n B.1 B.2.1 hdg hi (go_ls hlv hl) w) k
theorem go_aload {i : Nat} {x : Nat} (hdg : decode (go_cc M) pc = .ok (.aload i, 2)) (hl : go_lk lv i = some (vv_A x)) (k : Go E d mm M φ (pc + 2) lv (vv_A x :: st) δ Q) : Go E d mm M φ pc lv (st) δ Q :=
  go_step (fun p l e R s m args below meth c Z H locs ls B hS hlv hW w => lv_aload B.1 B.2.1 hdg (go_ls hlv hl) w) k
theorem go_aload_nS {k : Fin 4} {i j : Nat} (hdg : decode (go_cc M) pc = .ok (.aload_n k, 1)) (hi : (k : Nat) = i) (hl : go_lk lv i = some (vv_S (j + 1))) (k : Go E d mm M φ (pc + 1) lv (vv_S (j + 1) :: st) δ Q) : Go E d mm M φ pc lv (st) δ Q :=
  go_step (fun p l e R s m args below meth c Z H locs ls B hS hlv hW w => by rcases j with _ | _ | j <;> exact lv_aload_n B.1 B.2.1 hdg hi (go_ls hlv hl) w) k
theorem go_istore_n {k : Fin 4} {i : Nat} {x : Int} {lv' : List (Nat × go_V)} (hdg : decode (go_cc M) pc = .ok (.istore_n k, 1)) (hi : (k : Nat) = i) (hn : i < M.2.2.1) (hl : go_up i (vv_I x) lv = lv') (k : Go E d mm M φ (pc + 1) lv' st δ Q) : Go E d mm M φ pc lv (vv_I x :: st) δ Q := by
  intro p l e R s m args below meth c Z H locs ls B h1 h2 h3 h4 hZ hW hS hlv
  exact lv_istore_n B.1 B.2.1 hdg hi hlv hn rfl (fun ls' hl' => k p l e R s m args below meth c Z H locs ls' B h1 h2 h3 h4 hZ hW hS (go_has1 (v := vv_I x) rfl hl hl'))
theorem go_istore {i : Nat} {x : Int} {lv' : List (Nat × go_V)} (hdg : decode (go_cc M) pc = .ok (.istore i, 2)) (hn : i < M.2.2.1) (hl : go_up i (vv_I x) lv = lv') (k : Go E d mm M φ (pc + 2) lv' st δ Q) : Go E d mm M φ pc lv (vv_I x :: st) δ Q := by
  intro p l e R s m args below meth c Z H locs ls B h1 h2 h3 h4 hZ hW hS hlv
  exact lv_istore B.1 B.2.1 hdg hlv hn rfl (fun ls' hl' => k p l e R s m args below meth c Z H locs ls' B h1 h2 h3 h4 hZ hW hS (go_has1 (v := vv_I x) rfl hl hl'))
theorem go_astore_n {k : Fin 4} {i : Nat} {x : Nat} {lv' : List (Nat × go_V)} (hdg : decode (go_cc M) pc = .ok (.astore_n k, 1)) (hi : (k : Nat) = i) (hn : i < M.2.2.1) (hl : go_up i (vv_A x) lv = lv') (k : Go E d mm M φ (pc + 1) lv' st δ Q) : Go E d mm M φ pc lv (vv_A x :: st) δ Q := by
  intro p l e R s m args below meth c Z H locs ls B h1 h2 h3 h4 hZ hW hS hlv
  exact lv_astore_n B.1 B.2.1 hdg hi hlv hn rfl (fun ls' hl' => k p l e R s m args below meth c Z H locs ls' B h1 h2 h3 h4 hZ hW hS (go_has1 (v := vv_A x) rfl hl hl'))
theorem go_astore {i : Nat} {x : Nat} {lv' : List (Nat × go_V)} (hdg : decode (go_cc M) pc = .ok (.astore i, 2)) (hn : i < M.2.2.1) (hl : go_up i (vv_A x) lv = lv') (k : Go E d mm M φ (pc + 2) lv' st δ Q) : Go E d mm M φ pc lv (vv_A x :: st) δ Q := by
  intro p l e R s m args below meth c Z H locs ls B h1 h2 h3 h4 hZ hW hS hlv
  exact lv_astore B.1 B.2.1 hdg hlv hn rfl (fun ls' hl' => k p l e R s m args below meth c Z H locs ls' B h1 h2 h3 h4 hZ hW hS (go_has1 (v := vv_A x) rfl hl hl'))
theorem go_lstore_n {k : Fin 4} {i : Nat} {x : Int} {lv' : List (Nat × go_V)} (hdg : decode (go_cc M) pc = .ok (.lstore_n k, 1)) (hi : (k : Nat) = i) (hn : i + 1 < M.2.2.1) (hl : go_up i (vv_L x) lv = lv') (k : Go E d mm M φ (pc + 1) lv' st δ Q) : Go E d mm M φ pc lv (vv_L x :: st) δ Q := by
  intro p l e R s m args below meth c Z H locs ls B h1 h2 h3 h4 hZ hW hS hlv
  exact lv_lstore_n B.1 B.2.1 hdg hi hlv hn rfl (fun ls' hl' => k p l e R s m args below meth c Z H locs ls' B h1 h2 h3 h4 hZ hW hS (go_has2 hl hl'))
theorem go_lstore {i : Nat} {x : Int} {lv' : List (Nat × go_V)} (hdg : decode (go_cc M) pc = .ok (.lstore i, 2)) (hn : i + 1 < M.2.2.1) (hl : go_up i (vv_L x) lv = lv') (k : Go E d mm M φ (pc + 2) lv' st δ Q) : Go E d mm M φ pc lv (vv_L x :: st) δ Q := by
  intro p l e R s m args below meth c Z H locs ls B h1 h2 h3 h4 hZ hW hS hlv
  exact lv_lstore B.1 B.2.1 hdg hlv hn rfl (fun ls' hl' => k p l e R s m args below meth c Z H locs ls' B h1 h2 h3 h4 hZ hW hS (go_has2 hl hl'))
theorem go_iinc {i : Nat} {n x : Int} {lv' : List (Nat × go_V)} (hdg : decode (go_cc M) pc = .ok (.iinc i n, 3)) (hx : go_lk lv i = some (vv_I x)) (hn : i < M.2.2.1) (hl : go_up i (vv_I (x + n)) lv = lv') (k : Go E d mm M φ (pc + 3) lv' st δ Q) : Go E d mm M φ pc lv st δ Q := by
  intro p l e R s m args below meth c Z H locs ls B h1 h2 h3 h4 hZ hW hS hlv
  obtain ⟨j, hj⟩ := List.getElem?_of_mem (List.mem_map.mpr ⟨(i, vv_I x), go_lk_mem hx, rfl⟩ : (i, go_cv E (vv_I x)) ∈ go_cl2 E lv)
  exact lv_iinc B.1 B.2.1 hdg hlv hj (Int32.ofInt_add x n).symm hn rfl (fun ls' hl' => k p l e R s m args below meth c Z H locs ls' B h1 h2 h3 h4 hZ hW hS (go_has1 (v := vv_I (x + n)) rfl hl hl'))
theorem go_isub {x y : Int} (hdg : decode (go_cc M) pc = .ok (.isub, 1)) (k : Go E d mm M φ (pc + 1) lv (vv_I (x - y) :: st) δ Q) : Go E d mm M φ pc lv (vv_I y :: vv_I x :: st) δ Q :=
  go_step (fun p l e R s m args below meth c Z H locs ls B hS hl hW w => lv_isub B.1 B.2.1 hdg (by rw [← Int32.ofInt_sub]; exact w)) k
theorem go_imul {x y : Int} (hdg : decode (go_cc M) pc = .ok (.imul, 1)) (k : Go E d mm M φ (pc + 1) lv (vv_I (x * y) :: st) δ Q) : Go E d mm M φ pc lv (vv_I y :: vv_I x :: st) δ Q :=
  go_step (fun p l e R s m args below meth c Z H locs ls B hS hl hW w => lv_imul B.1 B.2.1 hdg (by rw [← Int32.ofInt_mul]; exact w)) k
theorem go_ladd {x y : Int} (hdg : decode (go_cc M) pc = .ok (.ladd, 1)) (k : Go E d mm M φ (pc + 1) lv (vv_L (x + y) :: st) δ Q) : Go E d mm M φ pc lv (vv_L y :: vv_L x :: st) δ Q :=
  go_step (fun p l e R s m args below meth c Z H locs ls B hS hl hW w => lv_ladd B.1 B.2.1 hdg (by rw [← Int64.ofInt_add]; exact w)) k
theorem go_lsub {x y : Int} (hdg : decode (go_cc M) pc = .ok (.lsub, 1)) (k : Go E d mm M φ (pc + 1) lv (vv_L (x - y) :: st) δ Q) : Go E d mm M φ pc lv (vv_L y :: vv_L x :: st) δ Q :=
  go_step (fun p l e R s m args below meth c Z H locs ls B hS hl hW w => lv_lsub B.1 B.2.1 hdg (by rw [← Int64.ofInt_sub]; exact w)) k
theorem go_lmul {x y : Int} (hdg : decode (go_cc M) pc = .ok (.lmul, 1)) (k : Go E d mm M φ (pc + 1) lv (vv_L (x * y) :: st) δ Q) : Go E d mm M φ pc lv (vv_L y :: vv_L x :: st) δ Q :=
  go_step (fun p l e R s m args below meth c Z H locs ls B hS hl hW w => lv_lmul B.1 B.2.1 hdg (by rw [← Int64.ofInt_mul]; exact w)) k
theorem go_iand {x y : Int} (hdg : decode (go_cc M) pc = .ok (.iand, 1)) (k : Go E d mm M φ (pc + 1) lv (vv_I (bv_and x y) :: st) δ Q) : Go E d mm M φ pc lv (vv_I y :: vv_I x :: st) δ Q :=
  go_step (fun p l e R s m args below meth c Z H locs ls B hS hl hW w => lv_iand B.1 B.2.1 hdg (by have w := w; simp only [go_cs, List.map_cons, go_cv, bv_and, Int32.ofInt_toInt] at w; exact w)) k
theorem go_ior {x y : Int} (hdg : decode (go_cc M) pc = .ok (.ior, 1)) (k : Go E d mm M φ (pc + 1) lv (vv_I (bv_or x y) :: st) δ Q) : Go E d mm M φ pc lv (vv_I y :: vv_I x :: st) δ Q :=
  go_step (fun p l e R s m args below meth c Z H locs ls B hS hl hW w => lv_ior B.1 B.2.1 hdg (by have w := w; simp only [go_cs, List.map_cons, go_cv, bv_or, Int32.ofInt_toInt] at w; exact w)) k
theorem go_ixor {x y : Int} (hdg : decode (go_cc M) pc = .ok (.ixor, 1)) (k : Go E d mm M φ (pc + 1) lv (vv_I (bv_xor x y) :: st) δ Q) : Go E d mm M φ pc lv (vv_I y :: vv_I x :: st) δ Q :=
  go_step (fun p l e R s m args below meth c Z H locs ls B hS hl hW w => lv_ixor B.1 B.2.1 hdg (by have w := w; simp only [go_cs, List.map_cons, go_cv, bv_xor, Int32.ofInt_toInt] at w; exact w)) k
theorem go_ishl {x y : Int} (hdg : decode (go_cc M) pc = .ok (.ishl, 1)) (k : Go E d mm M φ (pc + 1) lv (vv_I (bv_shl x y) :: st) δ Q) : Go E d mm M φ pc lv (vv_I y :: vv_I x :: st) δ Q :=
  go_step (fun p l e R s m args below meth c Z H locs ls B hS hl hW w => lv_ishl B.1 B.2.1 hdg (by have w := w; simp only [go_cs, List.map_cons, go_cv, bv_shl, Int32.ofInt_toInt] at w; exact w)) k
theorem go_ishr {x y : Int} (hdg : decode (go_cc M) pc = .ok (.ishr, 1)) (k : Go E d mm M φ (pc + 1) lv (vv_I (bv_shr x y) :: st) δ Q) : Go E d mm M φ pc lv (vv_I y :: vv_I x :: st) δ Q :=
  go_step (fun p l e R s m args below meth c Z H locs ls B hS hl hW w => lv_ishr B.1 B.2.1 hdg (by have w := w; simp only [go_cs, List.map_cons, go_cv, bv_shr, Int32.ofInt_toInt] at w; exact w)) k
theorem go_iushr {x y : Int} (hdg : decode (go_cc M) pc = .ok (.iushr, 1)) (k : Go E d mm M φ (pc + 1) lv (vv_I (bv_ushr x y) :: st) δ Q) : Go E d mm M φ pc lv (vv_I y :: vv_I x :: st) δ Q :=
  go_step (fun p l e R s m args below meth c Z H locs ls B hS hl hW w => lv_iushr B.1 B.2.1 hdg rfl (by have w := w; simp only [go_cs, List.map_cons, go_cv, bv_ushr, Int32.ofInt_toInt] at w; exact w)) k
theorem go_land {x y : Int} (hdg : decode (go_cc M) pc = .ok (.land, 1)) (k : Go E d mm M φ (pc + 1) lv (vv_L (bw_and x y) :: st) δ Q) : Go E d mm M φ pc lv (vv_L y :: vv_L x :: st) δ Q :=
  go_step (fun p l e R s m args below meth c Z H locs ls B hS hl hW w => lv_land B.1 B.2.1 hdg (by have w := w; simp only [go_cs, List.map_cons, go_cv, bw_and, Int64.ofInt_toInt] at w; exact w)) k
theorem go_lor {x y : Int} (hdg : decode (go_cc M) pc = .ok (.lor, 1)) (k : Go E d mm M φ (pc + 1) lv (vv_L (bw_or x y) :: st) δ Q) : Go E d mm M φ pc lv (vv_L y :: vv_L x :: st) δ Q :=
  go_step (fun p l e R s m args below meth c Z H locs ls B hS hl hW w => lv_lor B.1 B.2.1 hdg (by have w := w; simp only [go_cs, List.map_cons, go_cv, bw_or, Int64.ofInt_toInt] at w; exact w)) k
theorem go_lxor {x y : Int} (hdg : decode (go_cc M) pc = .ok (.lxor, 1)) (k : Go E d mm M φ (pc + 1) lv (vv_L (bw_xor x y) :: st) δ Q) : Go E d mm M φ pc lv (vv_L y :: vv_L x :: st) δ Q :=
  go_step (fun p l e R s m args below meth c Z H locs ls B hS hl hW w => lv_lxor B.1 B.2.1 hdg (by have w := w; simp only [go_cs, List.map_cons, go_cv, bw_xor, Int64.ofInt_toInt] at w; exact w)) k
theorem go_lshl {x y : Int} (hdg : decode (go_cc M) pc = .ok (.lshl, 1)) (k : Go E d mm M φ (pc + 1) lv (vv_L (bw_shl x y) :: st) δ Q) : Go E d mm M φ pc lv (vv_I y :: vv_L x :: st) δ Q :=
  go_step (fun p l e R s m args below meth c Z H locs ls B hS hl hW w => lv_lshl B.1 B.2.1 hdg rfl (by have w := w; simp only [go_cs, List.map_cons, go_cv, bw_shl, Int64.ofInt_toInt] at w; exact w)) k
theorem go_lshr {x y : Int} (hdg : decode (go_cc M) pc = .ok (.lshr, 1)) (k : Go E d mm M φ (pc + 1) lv (vv_L (bw_shr x y) :: st) δ Q) : Go E d mm M φ pc lv (vv_I y :: vv_L x :: st) δ Q :=
  go_step (fun p l e R s m args below meth c Z H locs ls B hS hl hW w => lv_lshr B.1 B.2.1 hdg rfl (by have w := w; simp only [go_cs, List.map_cons, go_cv, bw_shr, Int64.ofInt_toInt] at w; exact w)) k
theorem go_lushr {x y : Int} (hdg : decode (go_cc M) pc = .ok (.lushr, 1)) (k : Go E d mm M φ (pc + 1) lv (vv_L (bw_ushr x y) :: st) δ Q) : Go E d mm M φ pc lv (vv_I y :: vv_L x :: st) δ Q :=
  go_step (fun p l e R s m args below meth c Z H locs ls B hS hl hW w => lv_lushr B.1 B.2.1 hdg rfl (by have w := w; simp only [go_cs, List.map_cons, go_cv, bw_ushr, Int64.ofInt_toInt] at w; exact w)) k
theorem go_i2l {x : Int} (hdg : decode (go_cc M) pc = .ok (.i2l, 1)) (hx : go_iI x) (k : Go E d mm M φ (pc + 1) lv (vv_L x :: st) δ Q) : Go E d mm M φ pc lv (vv_I x :: st) δ Q :=
  go_step (fun p l e R s m args below meth c Z H locs ls B hS hl hW w => lv_i2l B.1 B.2.1 hdg (Int32.toInt64_ofInt (by show (-2147483648 : Int) ≤ x; omega) (by show x ≤ (2147483647 : Int); omega)) w) k
theorem go_l2i {x : Int} (hdg : decode (go_cc M) pc = .ok (.l2i, 1)) (k : Go E d mm M φ (pc + 1) lv (vv_I x :: st) δ Q) : Go E d mm M φ pc lv (vv_L x :: st) δ Q :=
  go_step (fun p l e R s m args below meth c Z H locs ls B hS hl hW w => lv_l2i B.1 B.2.1 hdg Int64.toInt32_ofInt w) k
theorem go_lcmp {x y : Int} (hdg : decode (go_cc M) pc = .ok (.lcmp, 1)) (hx : go_iL x) (hy : go_iL y) (k : Go E d mm M φ (pc + 1) lv (vv_I (go_cmp x y) :: st) δ Q) : Go E d mm M φ pc lv (vv_L y :: vv_L x :: st) δ Q :=
  go_step (fun p l e R s m args below meth c Z H locs ls B hS hl hW w => W.lcmp B.1 B.2.1 hdg (by
    have e : lg_cmp (Int64.ofInt x) (Int64.ofInt y) = Int32.ofInt (go_cmp x y) := by
      unfold lg_cmp go_cmp
      simp only [gt_iff_lt, go_lt64 hy hx, go_eq64 hx hy]
      split
      · rfl
      · split <;> rfl
    rw [e]
    exact w)) k
theorem go_tdiv32 {x y : Int} (hx : go_iI x) (h0 : 0 ≤ x) (hy : go_iI y) (h1 : 0 < y) : Int32.ofInt x / Int32.ofInt y = Int32.ofInt (x / y) := by
  rw [← Int32.ofInt_tdiv (by show (-2147483648 : Int) ≤ x; omega) (by show x ≤ (2147483647 : Int); omega) (by show (-2147483648 : Int) ≤ y; omega) (by show y ≤ (2147483647 : Int); omega), Int.tdiv_eq_ediv_of_nonneg h0]
theorem go_tdiv64 {x y : Int} (hx : go_iL x) (h0 : 0 ≤ x) (hy : go_iL y) (h1 : 0 < y) : Int64.ofInt x / Int64.ofInt y = Int64.ofInt (x / y) := by
  rw [← Int64.ofInt_tdiv (by show (-9223372036854775808 : Int) ≤ x; omega) (by show x ≤ (9223372036854775807 : Int); omega) (by show (-9223372036854775808 : Int) ≤ y; omega) (by show y ≤ (9223372036854775807 : Int); omega), Int.tdiv_eq_ediv_of_nonneg h0]
theorem go_idiv {x y : Int} (hdg : decode (go_cc M) pc = .ok (.idiv, 1)) (hx : go_iI x) (h0 : 0 ≤ x) (hy : go_iI y) (h1 : 0 < y) (k : Go E d mm M φ (pc + 1) lv (vv_I (x / y) :: st) δ Q) : Go E d mm M φ pc lv (vv_I y :: vv_I x :: st) δ Q :=
  go_step (fun p l e R s m args below meth c Z H locs ls B hS hl hW w => lv_idiv B.1 B.2.1 hdg (fun q => absurd ((go_eq32 hy go_i0).mp q) (by omega)) (by rw [go_tdiv32 hx h0 hy h1]; exact w)) k
theorem go_irem {x y : Int} (hdg : decode (go_cc M) pc = .ok (.irem, 1)) (hx : go_iI x) (h0 : 0 ≤ x) (hy : go_iI y) (h1 : 0 < y) (k : Go E d mm M φ (pc + 1) lv (vv_I (x % y) :: st) δ Q) : Go E d mm M φ pc lv (vv_I y :: vv_I x :: st) δ Q :=
  go_step (fun p l e R s m args below meth c Z H locs ls B hS hl hW w => lv_irem B.1 B.2.1 hdg (fun q => absurd ((go_eq32 hy go_i0).mp q) (by omega)) (by
    rw [go_tdiv32 hx h0 hy h1, ← Int32.ofInt_mul, ← Int32.ofInt_sub, show x - x / y * y = x % y by rw [Int.emod_def, Int.mul_comm]]; exact w)) k
theorem go_ldiv {x y : Int} (hdg : decode (go_cc M) pc = .ok (.ldiv, 1)) (hx : go_iL x) (h0 : 0 ≤ x) (hy : go_iL y) (h1 : 0 < y) (k : Go E d mm M φ (pc + 1) lv (vv_L (x / y) :: st) δ Q) : Go E d mm M φ pc lv (vv_L y :: vv_L x :: st) δ Q :=
  go_step (fun p l e R s m args below meth c Z H locs ls B hS hl hW w => lv_ldiv B.1 B.2.1 hdg (fun q => absurd ((@go_eq64 y 0 hy ⟨by decide, by decide⟩).mp q) (by omega)) (by rw [go_tdiv64 hx h0 hy h1]; exact w)) k
theorem go_lrem {x y : Int} (hdg : decode (go_cc M) pc = .ok (.lrem, 1)) (hx : go_iL x) (h0 : 0 ≤ x) (hy : go_iL y) (h1 : 0 < y) (k : Go E d mm M φ (pc + 1) lv (vv_L (x % y) :: st) δ Q) : Go E d mm M φ pc lv (vv_L y :: vv_L x :: st) δ Q :=
  go_step (fun p l e R s m args below meth c Z H locs ls B hS hl hW w => lv_lrem B.1 B.2.1 hdg (fun q => absurd ((@go_eq64 y 0 hy ⟨by decide, by decide⟩).mp q) (by omega)) (by
    rw [go_tdiv64 hx h0 hy h1, ← Int64.ofInt_mul, ← Int64.ofInt_sub, show x - x / y * y = x % y by rw [Int.emod_def, Int.mul_comm]]; exact w)) k
theorem go_dup {v : go_V} (hdg : decode (go_cc M) pc = .ok (.dup, 1)) (hv : go_il v = false) (k : Go E d mm M φ (pc + 1) lv (v :: v :: st) δ Q) : Go E d mm M φ pc lv (v :: st) δ Q :=
  go_step (fun p l e R s m args below meth c Z H locs ls B hS hl hW w => lv_dup B.1 B.2.1 hdg (go_cat1 hv) w) k
theorem go_pop {v : go_V} (hdg : decode (go_cc M) pc = .ok (.pop, 1)) (hv : go_il v = false) (k : Go E d mm M φ (pc + 1) lv (st) δ Q) : Go E d mm M φ pc lv (v :: st) δ Q :=
  go_step (fun p l e R s m args below meth c Z H locs ls B hS hl hW w => lv_pop B.1 B.2.1 hdg (go_cat1 hv) w) k
theorem go_dup2 {u v : go_V} (hdg : decode (go_cc M) pc = .ok (.dup2, 1)) (hu : go_il u = false) (hv : go_il v = false) (k : Go E d mm M φ (pc + 1) lv (u :: v :: u :: v :: st) δ Q) : Go E d mm M φ pc lv (u :: v :: st) δ Q :=
  go_step (fun p l e R s m args below meth c Z H locs ls B hS hl hW w => lv_dup2_11 B.1 B.2.1 hdg (go_cat1 hu) (go_cat1 hv) w) k
theorem go_goto {off : Int} {tgt : Nat} (hdg : decode (go_cc M) pc = .ok (.goto off, 3)) (ht : (pc : Int) + off = (tgt : Int)) (k : Go E d mm M φ tgt lv st δ Q) : Go E d mm M φ pc lv st δ Q :=
  go_step (fun p l e R s m args below meth c Z H locs ls B hS hl hW w => lv_goto B.1 B.2.1 hdg ht w) k
theorem go_if_eq {x : Int} {off : Int} {tgt : Nat} (hdg : decode (go_cc M) pc = .ok (.ifCond .eq off, 3)) (ht : (pc : Int) + off = (tgt : Int)) (hx : go_iI x) (kt : x = 0 → Go E d mm M φ tgt lv st δ Q) (kf : ¬ x = 0 → Go E d mm M φ (pc + 3) lv st δ Q) : Go E d mm M φ pc lv (vv_I x :: st) δ Q := by
  intro p l e R s m args below meth c Z H locs ls B h1 h2 h3 h4 hZ hW hS hlv
  exact lv_if_eq B.1 B.2.1 hdg ht (fun h => kt ((go_eq32 hx go_i0).mp h) p l e R s m args below meth c Z H locs ls B h1 h2 h3 h4 hZ hW hS hlv) (fun h => kf (fun q => h ((go_eq32 hx go_i0).mpr q)) p l e R s m args below meth c Z H locs ls B h1 h2 h3 h4 hZ hW hS hlv)
theorem go_icmp_eq {x y : Int} {off : Int} {tgt : Nat} (hdg : decode (go_cc M) pc = .ok (.if_icmp .eq off, 3)) (ht : (pc : Int) + off = (tgt : Int)) (hx : go_iI x) (hy : go_iI y) (kt : x = y → Go E d mm M φ tgt lv st δ Q) (kf : ¬ x = y → Go E d mm M φ (pc + 3) lv st δ Q) : Go E d mm M φ pc lv (vv_I y :: vv_I x :: st) δ Q := by
  intro p l e R s m args below meth c Z H locs ls B h1 h2 h3 h4 hZ hW hS hlv
  exact lv_icmp_eq B.1 B.2.1 hdg ht (fun h => kt ((go_eq32 hx hy).mp h) p l e R s m args below meth c Z H locs ls B h1 h2 h3 h4 hZ hW hS hlv) (fun h => kf (fun q => h ((go_eq32 hx hy).mpr q)) p l e R s m args below meth c Z H locs ls B h1 h2 h3 h4 hZ hW hS hlv)
theorem go_if_ne {x : Int} {off : Int} {tgt : Nat} (hdg : decode (go_cc M) pc = .ok (.ifCond .ne off, 3)) (ht : (pc : Int) + off = (tgt : Int)) (hx : go_iI x) (kt : ¬ x = 0 → Go E d mm M φ tgt lv st δ Q) (kf : x = 0 → Go E d mm M φ (pc + 3) lv st δ Q) : Go E d mm M φ pc lv (vv_I x :: st) δ Q := by
  intro p l e R s m args below meth c Z H locs ls B h1 h2 h3 h4 hZ hW hS hlv
  exact lv_if_ne B.1 B.2.1 hdg ht (fun h => kt (fun q => h ((go_eq32 hx go_i0).mpr q)) p l e R s m args below meth c Z H locs ls B h1 h2 h3 h4 hZ hW hS hlv) (fun h => kf ((go_eq32 hx go_i0).mp h) p l e R s m args below meth c Z H locs ls B h1 h2 h3 h4 hZ hW hS hlv)
theorem go_icmp_ne {x y : Int} {off : Int} {tgt : Nat} (hdg : decode (go_cc M) pc = .ok (.if_icmp .ne off, 3)) (ht : (pc : Int) + off = (tgt : Int)) (hx : go_iI x) (hy : go_iI y) (kt : ¬ x = y → Go E d mm M φ tgt lv st δ Q) (kf : x = y → Go E d mm M φ (pc + 3) lv st δ Q) : Go E d mm M φ pc lv (vv_I y :: vv_I x :: st) δ Q := by
  intro p l e R s m args below meth c Z H locs ls B h1 h2 h3 h4 hZ hW hS hlv
  exact lv_icmp_ne B.1 B.2.1 hdg ht (fun h => kt (fun q => h ((go_eq32 hx hy).mpr q)) p l e R s m args below meth c Z H locs ls B h1 h2 h3 h4 hZ hW hS hlv) (fun h => kf ((go_eq32 hx hy).mp h) p l e R s m args below meth c Z H locs ls B h1 h2 h3 h4 hZ hW hS hlv)
theorem go_if_lt {x : Int} {off : Int} {tgt : Nat} (hdg : decode (go_cc M) pc = .ok (.ifCond .lt off, 3)) (ht : (pc : Int) + off = (tgt : Int)) (hx : go_iI x) (kt : x < 0 → Go E d mm M φ tgt lv st δ Q) (kf : ¬ x < 0 → Go E d mm M φ (pc + 3) lv st δ Q) : Go E d mm M φ pc lv (vv_I x :: st) δ Q := by
  intro p l e R s m args below meth c Z H locs ls B h1 h2 h3 h4 hZ hW hS hlv
  exact lv_if_lt B.1 B.2.1 hdg ht (fun h => kt ((go_lt32 hx go_i0).mp h) p l e R s m args below meth c Z H locs ls B h1 h2 h3 h4 hZ hW hS hlv) (fun h => kf (fun q => h ((go_lt32 hx go_i0).mpr q)) p l e R s m args below meth c Z H locs ls B h1 h2 h3 h4 hZ hW hS hlv)
theorem go_icmp_lt {x y : Int} {off : Int} {tgt : Nat} (hdg : decode (go_cc M) pc = .ok (.if_icmp .lt off, 3)) (ht : (pc : Int) + off = (tgt : Int)) (hx : go_iI x) (hy : go_iI y) (kt : x < y → Go E d mm M φ tgt lv st δ Q) (kf : ¬ x < y → Go E d mm M φ (pc + 3) lv st δ Q) : Go E d mm M φ pc lv (vv_I y :: vv_I x :: st) δ Q := by
  intro p l e R s m args below meth c Z H locs ls B h1 h2 h3 h4 hZ hW hS hlv
  exact lv_icmp_lt B.1 B.2.1 hdg ht (fun h => kt ((go_lt32 hx hy).mp h) p l e R s m args below meth c Z H locs ls B h1 h2 h3 h4 hZ hW hS hlv) (fun h => kf (fun q => h ((go_lt32 hx hy).mpr q)) p l e R s m args below meth c Z H locs ls B h1 h2 h3 h4 hZ hW hS hlv)
theorem go_if_ge {x : Int} {off : Int} {tgt : Nat} (hdg : decode (go_cc M) pc = .ok (.ifCond .ge off, 3)) (ht : (pc : Int) + off = (tgt : Int)) (hx : go_iI x) (kt : 0 ≤ x → Go E d mm M φ tgt lv st δ Q) (kf : ¬ 0 ≤ x → Go E d mm M φ (pc + 3) lv st δ Q) : Go E d mm M φ pc lv (vv_I x :: st) δ Q := by
  intro p l e R s m args below meth c Z H locs ls B h1 h2 h3 h4 hZ hW hS hlv
  exact lv_if_ge B.1 B.2.1 hdg ht (fun h => kt ((go_le32 go_i0 hx).mp h) p l e R s m args below meth c Z H locs ls B h1 h2 h3 h4 hZ hW hS hlv) (fun h => kf (fun q => h ((go_le32 go_i0 hx).mpr q)) p l e R s m args below meth c Z H locs ls B h1 h2 h3 h4 hZ hW hS hlv)
theorem go_icmp_ge {x y : Int} {off : Int} {tgt : Nat} (hdg : decode (go_cc M) pc = .ok (.if_icmp .ge off, 3)) (ht : (pc : Int) + off = (tgt : Int)) (hx : go_iI x) (hy : go_iI y) (kt : y ≤ x → Go E d mm M φ tgt lv st δ Q) (kf : ¬ y ≤ x → Go E d mm M φ (pc + 3) lv st δ Q) : Go E d mm M φ pc lv (vv_I y :: vv_I x :: st) δ Q := by
  intro p l e R s m args below meth c Z H locs ls B h1 h2 h3 h4 hZ hW hS hlv
  exact lv_icmp_ge B.1 B.2.1 hdg ht (fun h => kt ((go_le32 hy hx).mp h) p l e R s m args below meth c Z H locs ls B h1 h2 h3 h4 hZ hW hS hlv) (fun h => kf (fun q => h ((go_le32 hy hx).mpr q)) p l e R s m args below meth c Z H locs ls B h1 h2 h3 h4 hZ hW hS hlv)
theorem go_if_gt {x : Int} {off : Int} {tgt : Nat} (hdg : decode (go_cc M) pc = .ok (.ifCond .gt off, 3)) (ht : (pc : Int) + off = (tgt : Int)) (hx : go_iI x) (kt : 0 < x → Go E d mm M φ tgt lv st δ Q) (kf : ¬ 0 < x → Go E d mm M φ (pc + 3) lv st δ Q) : Go E d mm M φ pc lv (vv_I x :: st) δ Q := by
  intro p l e R s m args below meth c Z H locs ls B h1 h2 h3 h4 hZ hW hS hlv
  exact lv_if_gt B.1 B.2.1 hdg ht (fun h => kt ((go_lt32 go_i0 hx).mp h) p l e R s m args below meth c Z H locs ls B h1 h2 h3 h4 hZ hW hS hlv) (fun h => kf (fun q => h ((go_lt32 go_i0 hx).mpr q)) p l e R s m args below meth c Z H locs ls B h1 h2 h3 h4 hZ hW hS hlv)
theorem go_icmp_gt {x y : Int} {off : Int} {tgt : Nat} (hdg : decode (go_cc M) pc = .ok (.if_icmp .gt off, 3)) (ht : (pc : Int) + off = (tgt : Int)) (hx : go_iI x) (hy : go_iI y) (kt : y < x → Go E d mm M φ tgt lv st δ Q) (kf : ¬ y < x → Go E d mm M φ (pc + 3) lv st δ Q) : Go E d mm M φ pc lv (vv_I y :: vv_I x :: st) δ Q := by
  intro p l e R s m args below meth c Z H locs ls B h1 h2 h3 h4 hZ hW hS hlv
  exact lv_icmp_gt B.1 B.2.1 hdg ht (fun h => kt ((go_lt32 hy hx).mp h) p l e R s m args below meth c Z H locs ls B h1 h2 h3 h4 hZ hW hS hlv) (fun h => kf (fun q => h ((go_lt32 hy hx).mpr q)) p l e R s m args below meth c Z H locs ls B h1 h2 h3 h4 hZ hW hS hlv)
theorem go_if_le {x : Int} {off : Int} {tgt : Nat} (hdg : decode (go_cc M) pc = .ok (.ifCond .le off, 3)) (ht : (pc : Int) + off = (tgt : Int)) (hx : go_iI x) (kt : x ≤ 0 → Go E d mm M φ tgt lv st δ Q) (kf : ¬ x ≤ 0 → Go E d mm M φ (pc + 3) lv st δ Q) : Go E d mm M φ pc lv (vv_I x :: st) δ Q := by
  intro p l e R s m args below meth c Z H locs ls B h1 h2 h3 h4 hZ hW hS hlv
  exact lv_if_le B.1 B.2.1 hdg ht (fun h => kt ((go_le32 hx go_i0).mp h) p l e R s m args below meth c Z H locs ls B h1 h2 h3 h4 hZ hW hS hlv) (fun h => kf (fun q => h ((go_le32 hx go_i0).mpr q)) p l e R s m args below meth c Z H locs ls B h1 h2 h3 h4 hZ hW hS hlv)
theorem go_icmp_le {x y : Int} {off : Int} {tgt : Nat} (hdg : decode (go_cc M) pc = .ok (.if_icmp .le off, 3)) (ht : (pc : Int) + off = (tgt : Int)) (hx : go_iI x) (hy : go_iI y) (kt : x ≤ y → Go E d mm M φ tgt lv st δ Q) (kf : ¬ x ≤ y → Go E d mm M φ (pc + 3) lv st δ Q) : Go E d mm M φ pc lv (vv_I y :: vv_I x :: st) δ Q := by
  intro p l e R s m args below meth c Z H locs ls B h1 h2 h3 h4 hZ hW hS hlv
  exact lv_icmp_le B.1 B.2.1 hdg ht (fun h => kt ((go_le32 hx hy).mp h) p l e R s m args below meth c Z H locs ls B h1 h2 h3 h4 hZ hW hS hlv) (fun h => kf (fun q => h ((go_le32 hx hy).mpr q)) p l e R s m args below meth c Z H locs ls B h1 h2 h3 h4 hZ hW hS hlv)
theorem go_lcmp_eq {x y : Int} {off : Int} {tgt : Nat} (hdg : decode (go_cc M) pc = .ok (.lcmp, 1)) (hdg2 : decode (go_cc M) (pc + 1) = .ok (.ifCond .eq off, 3)) (ht : ((pc + 1 : Nat) : Int) + off = (tgt : Int)) (hx : go_iL x) (hy : go_iL y) (kt : x = y → Go E d mm M φ tgt lv st δ Q) (kf : ¬ x = y → Go E d mm M φ (pc + 1 + 3) lv st δ Q) : Go E d mm M φ pc lv (vv_L y :: vv_L x :: st) δ Q := by
  refine go_lcmp hdg hx hy (go_if_eq hdg2 ht (by unfold go_cmp; split <;> (try split) <;> exact ⟨by decide, by decide⟩) (fun h => kt ?_) (fun h => kf ?_))
  · revert h; unfold go_cmp; (split <;> (try split)) <;> intro h <;> omega
  · revert h; unfold go_cmp; (split <;> (try split)) <;> intro h <;> omega
theorem go_lcmp_ne {x y : Int} {off : Int} {tgt : Nat} (hdg : decode (go_cc M) pc = .ok (.lcmp, 1)) (hdg2 : decode (go_cc M) (pc + 1) = .ok (.ifCond .ne off, 3)) (ht : ((pc + 1 : Nat) : Int) + off = (tgt : Int)) (hx : go_iL x) (hy : go_iL y) (kt : ¬ x = y → Go E d mm M φ tgt lv st δ Q) (kf : x = y → Go E d mm M φ (pc + 1 + 3) lv st δ Q) : Go E d mm M φ pc lv (vv_L y :: vv_L x :: st) δ Q := by
  refine go_lcmp hdg hx hy (go_if_ne hdg2 ht (by unfold go_cmp; split <;> (try split) <;> exact ⟨by decide, by decide⟩) (fun h => kt ?_) (fun h => kf ?_))
  · revert h; unfold go_cmp; (split <;> (try split)) <;> intro h <;> omega
  · revert h; unfold go_cmp; (split <;> (try split)) <;> intro h <;> omega
theorem go_lcmp_lt {x y : Int} {off : Int} {tgt : Nat} (hdg : decode (go_cc M) pc = .ok (.lcmp, 1)) (hdg2 : decode (go_cc M) (pc + 1) = .ok (.ifCond .lt off, 3)) (ht : ((pc + 1 : Nat) : Int) + off = (tgt : Int)) (hx : go_iL x) (hy : go_iL y) (kt : x < y → Go E d mm M φ tgt lv st δ Q) (kf : ¬ x < y → Go E d mm M φ (pc + 1 + 3) lv st δ Q) : Go E d mm M φ pc lv (vv_L y :: vv_L x :: st) δ Q := by
  refine go_lcmp hdg hx hy (go_if_lt hdg2 ht (by unfold go_cmp; split <;> (try split) <;> exact ⟨by decide, by decide⟩) (fun h => kt ?_) (fun h => kf ?_))
  · revert h; unfold go_cmp; (split <;> (try split)) <;> intro h <;> omega
  · revert h; unfold go_cmp; (split <;> (try split)) <;> intro h <;> omega
theorem go_lcmp_ge {x y : Int} {off : Int} {tgt : Nat} (hdg : decode (go_cc M) pc = .ok (.lcmp, 1)) (hdg2 : decode (go_cc M) (pc + 1) = .ok (.ifCond .ge off, 3)) (ht : ((pc + 1 : Nat) : Int) + off = (tgt : Int)) (hx : go_iL x) (hy : go_iL y) (kt : y ≤ x → Go E d mm M φ tgt lv st δ Q) (kf : ¬ y ≤ x → Go E d mm M φ (pc + 1 + 3) lv st δ Q) : Go E d mm M φ pc lv (vv_L y :: vv_L x :: st) δ Q := by
  refine go_lcmp hdg hx hy (go_if_ge hdg2 ht (by unfold go_cmp; split <;> (try split) <;> exact ⟨by decide, by decide⟩) (fun h => kt ?_) (fun h => kf ?_))
  · revert h; unfold go_cmp; (split <;> (try split)) <;> intro h <;> omega
  · revert h; unfold go_cmp; (split <;> (try split)) <;> intro h <;> omega
theorem go_lcmp_gt {x y : Int} {off : Int} {tgt : Nat} (hdg : decode (go_cc M) pc = .ok (.lcmp, 1)) (hdg2 : decode (go_cc M) (pc + 1) = .ok (.ifCond .gt off, 3)) (ht : ((pc + 1 : Nat) : Int) + off = (tgt : Int)) (hx : go_iL x) (hy : go_iL y) (kt : y < x → Go E d mm M φ tgt lv st δ Q) (kf : ¬ y < x → Go E d mm M φ (pc + 1 + 3) lv st δ Q) : Go E d mm M φ pc lv (vv_L y :: vv_L x :: st) δ Q := by
  refine go_lcmp hdg hx hy (go_if_gt hdg2 ht (by unfold go_cmp; split <;> (try split) <;> exact ⟨by decide, by decide⟩) (fun h => kt ?_) (fun h => kf ?_))
  · revert h; unfold go_cmp; (split <;> (try split)) <;> intro h <;> omega
  · revert h; unfold go_cmp; (split <;> (try split)) <;> intro h <;> omega
theorem go_lcmp_le {x y : Int} {off : Int} {tgt : Nat} (hdg : decode (go_cc M) pc = .ok (.lcmp, 1)) (hdg2 : decode (go_cc M) (pc + 1) = .ok (.ifCond .le off, 3)) (ht : ((pc + 1 : Nat) : Int) + off = (tgt : Int)) (hx : go_iL x) (hy : go_iL y) (kt : x ≤ y → Go E d mm M φ tgt lv st δ Q) (kf : ¬ x ≤ y → Go E d mm M φ (pc + 1 + 3) lv st δ Q) : Go E d mm M φ pc lv (vv_L y :: vv_L x :: st) δ Q := by
  refine go_lcmp hdg hx hy (go_if_le hdg2 ht (by unfold go_cmp; split <;> (try split) <;> exact ⟨by decide, by decide⟩) (fun h => kt ?_) (fun h => kf ?_))
  · revert h; unfold go_cmp; (split <;> (try split)) <;> intro h <;> omega
  · revert h; unfold go_cmp; (split <;> (try split)) <;> intro h <;> omega
end GOROWS2
