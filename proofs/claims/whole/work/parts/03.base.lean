/-! the front: values as whole numbers, the heap as a table of whole numbers, one judgement Go for a method's frame -/
abbrev go_V : Type := Int ⊕ Int ⊕ Nat ⊕ Nat
abbrev vv_I (x : Int) : go_V := .inl x
abbrev vv_L (x : Int) : go_V := .inr (.inl x)
abbrev vv_A (a : Nat) : go_V := .inr (.inr (.inl a))
abbrev vv_S (k : Nat) : go_V := .inr (.inr (.inr k))
abbrev go_E : Type := va_G × (ClassId × ClassId × ClassId × ClassId) × Nat × (Nat × Nat × Nat) × Nat × (Nat → Int32)
abbrev go_D (E : go_E) : va_G := E.1
abbrev go_cI (E : go_E) : ClassId := E.2.1.1
abbrev go_cL (E : go_E) : ClassId := E.2.1.2.1
abbrev go_cZ (E : go_E) : ClassId := E.2.1.2.2.1
abbrev go_cT (E : go_E) : ClassId := E.2.1.2.2.2
abbrev go_b0 (E : go_E) : Nat := E.2.2.1
abbrev go_sB (E : go_E) : Nat := E.2.2.2.1.1
abbrev go_sS (E : go_E) : Nat := E.2.2.2.1.2.1
abbrev go_sX (E : go_E) : Nat := E.2.2.2.1.2.2
abbrev go_L (E : go_E) : Nat := E.2.2.2.2.1
abbrev go_xs (E : go_E) : Nat → Int32 := E.2.2.2.2.2
def go_cv (E : go_E) (v : go_V) : Value := match v with
  | .inl x => .int (Int32.ofInt x)
  | .inr (.inl x) => .long (Int64.ofInt x)
  | .inr (.inr (.inl a)) => .ref (go_b0 E + a)
  | .inr (.inr (.inr 0)) => .null
  | .inr (.inr (.inr 1)) => .ref (go_sB E)
  | .inr (.inr (.inr 2)) => .ref (go_sS E)
  | .inr (.inr (.inr _)) => .ref (go_sX E)
abbrev go_cs (E : go_E) (st : List go_V) : List Value := st.map (go_cv E)
abbrev go_cl2 (E : go_E) (lv : List (Nat × go_V)) : List (Nat × Value) := lv.map (fun q => (q.1, go_cv E q.2))
def go_tys (E : go_E) : List (ClassId × FieldType) := [(go_cI E, .int), (go_cL E, .long), (go_cZ E, .boolean), (go_cT E, .object "BitRecogniser$Told")]
def go_A (E : go_E) : Nat → Prop := fun q => go_b0 E ≤ q
def go_sl (E : go_E) (t r : Nat) (x : Int) : Value := if t = 2 then (if r = 0 then .null else .ref (go_b0 E + (r - 1))) else if t = 1 then .long (Int64.ofInt x) else .int (Int32.ofInt x)
def go_rv (E : go_E) (r : Nat) : Option Nat := if r = 0 then none else some (go_b0 E + (r - 1))
def go_ent (E : go_E) (ρ : Nat → Nat → Nat) (δ : Nat → Nat → Int) (a : Nat) : va_E :=
  if go_kd a = 20 then .inl (go_cI E, go_ln a, .inl (fun j => Int32.ofInt (δ a j)))
  else if go_kd a = 21 then .inl (go_cL E, go_ln a, .inr (.inl (fun j => Int64.ofInt (δ a j))))
  else if go_kd a = 22 then .inl (go_cZ E, go_ln a, .inl (fun j => Int32.ofInt (δ a j)))
  else if go_kd a = 23 then .inl (go_cT E, go_ln a, .inr (.inr (.inr (.inr (fun j => go_rv E (ρ a j))))))
  else .inr (go_kd a, (List.range (go_ln a)).map (fun k => go_sl E (go_tg (go_kd a) k) (ρ a k) (δ a k)))
def go_W (E : go_E) (n : Nat) (ρ : Nat → Nat → Nat) (δ : Nat → Nat → Int) (H : Heap) : Prop :=
  H.size = go_b0 E + n ∧ ∀ a, a < n → va_at (go_D E) go_cl (go_b0 E + a, go_ent E ρ δ a) H
def wr {α : Type} (δ : Nat → Nat → α) (a i : Nat) (v : α) : Nat → Nat → α := fun b j => if b = a then (if j = i then v else δ b j) else δ b j
theorem wr_eq {α : Type} (δ : Nat → Nat → α) (a i : Nat) (v : α) : wr δ a i v a i = v := by simp [wr]
theorem wr_i {α : Type} (δ : Nat → Nat → α) (a i : Nat) (v : α) {j : Nat} (h : j ≠ i) : wr δ a i v a j = δ a j := by simp [wr, h]
theorem wr_a {α : Type} (δ : Nat → Nat → α) (a i : Nat) (v : α) {b : Nat} (h : b ≠ a) (j : Nat) : wr δ a i v b j = δ b j := by simp [wr, h]
theorem go_ent_congr {E : go_E} {ρ ρ' : Nat → Nat → Nat} {δ δ' : Nat → Nat → Int} {a : Nat} (h1 : ∀ j, ρ' a j = ρ a j) (h2 : ∀ j, δ' a j = δ a j) : go_ent E ρ' δ' a = go_ent E ρ δ a := by
  unfold go_ent
  simp only [h1, h2]
theorem go_W.put {E : go_E} {n : Nat} {ρ ρ' : Nat → Nat → Nat} {δ δ' : Nat → Nat → Int} {H H1 : Heap} (h : go_W E n ρ δ H) {a : Nat} (z : H1.size = H.size) (e : va_at (go_D E) go_cl (go_b0 E + a, go_ent E ρ' δ' a) H1)
    (oq : ∀ q, q ≠ go_b0 E + a → H1[q]? = H[q]?) (h1 : ∀ b, b ≠ a → ∀ j, ρ' b j = ρ b j) (h2 : ∀ b, b ≠ a → ∀ j, δ' b j = δ b j) : go_W E n ρ' δ' H1 := by
  refine ⟨z.trans h.1, fun b hb => ?_⟩
  by_cases hba : b = a
  · subst hba; exact e
  · rw [go_ent_congr (h1 b hba) (h2 b hba)]
    exact (h.2 b hb).kept (oq _ (by show go_b0 E + b ≠ go_b0 E + a; omega))
def go_BG (j : Nat) : Int := [0, 0, 1, 2, 6, 27].getD j 0
def go_SX (j : Nat) : Int := [1, 6, 36, 216, 1296].getD j 0
def go_isN : Cond → Bool
  | .methodLinkNest .. => true
  | .declares .. => true
  | _ => false
/-- words of the tables that a warmed state keeps by laws of their own -/
def go_nw : List Cond := tables_1.filter go_isN
theorem go_nw_warm {s U : State} (hW : s.WarmedH U.vm) {w : Cond} (hw : w ∈ go_nw) (h : va_Nw w s) : va_Nw w U := by
  have hi := (List.mem_filter.mp hw).2
  cases w with
  | methodLinkNest a i x b => exact va_Nw.warmM hW h
  | declares x => exact va_Nw.warmD hW h
  | _ => cases hi
theorem go_nw_same {s U : State} (hW : s.vm = U.vm) {w : Cond} (hw : w ∈ go_nw) (h : va_Nw w s) : va_Nw w U := by
  have hi := (List.mem_filter.mp hw).2
  cases w with
  | methodLinkNest a i x b => exact va_Nw.same rfl hW h
  | declares x => exact va_Nw.same rfl hW h
  | _ => cases hi
def go_CX (E : go_E) (s : State) : Prop :=
  va_K (go_D E) go_cl (go_tys E) s ∧ go_b0 E ≤ s.heap.size ∧ va_Z "BitRecogniser$Vocabulary" "BEGINS" "[I" (.ref (go_sB E)) (go_A E) s s.heap ∧ va_Z "BitRecogniser$Vocabulary" "SIXES" "[I" (.ref (go_sS E)) (go_A E) s s.heap ∧
  va_T .int (go_sB E) 6 (fun j => .int (Int32.ofInt (go_BG j))) (go_A E) s s.heap ∧ va_T .int (go_sS E) 5 (fun j => .int (Int32.ofInt (go_SX j))) (go_A E) s s.heap ∧
  va_X (go_sX E) (go_L E) (go_xs E) s s.heap ∧ go_sX E < s.heap.size ∧ ¬ go_A E (go_sX E) ∧ (∀ w ∈ go_nw, va_Nw w s) ∧ va_AO "BitRecogniser$Told" s
theorem go_CX.move {E : go_E} {s U : State} {H : Heap} {locs : List Loc} (h : go_CX E s) (hS : va_S (go_A E) s.heap H locs) (hU : U.heap = H) (hW : s.vm.Alike U.vm) (hN : ∀ w ∈ go_nw, va_Nw w s → va_Nw w U) : go_CX E U := by
  obtain ⟨h1, h2, h3, h4, h5, h6, h7, h8, h9, h10, h11⟩ := h
  have hq : ∀ a : Nat, a < s.heap.size → ¬ go_A E a → U.heap[a]? = s.heap[a]? := fun a ha hn => by rw [hU]; exact hS.2.1 a ha hn
  refine ⟨h1.moved hW, by rw [hU]; exact Nat.le_trans h2 hS.1, (h3.moved hW).kept hq, (h4.moved hW).kept hq, (h5.moved hW).kept hq, (h6.moved hW).kept hq, (h7.moved hW).kept (hq _ h8 h9), by rw [hU]; exact Nat.lt_of_lt_of_le h8 hS.1, h9, fun w hw => hN w hw (h10 w hw), h11.moved hW⟩
abbrev go_M : Type := MethodName × ByteArray × Nat × Option FieldType
abbrev go_cc (M : go_M) : ByteArray := M.2.1
def go_B (E : go_E) (p : Program) (s : State) (m : MethodId) (args : Array Value) (meth : Method) (c : Code) (M : go_M) : Prop :=
  p.tables.exec = Jvm.exec ∧ c.code = go_cc M ∧ meth.sig.returnType = M.2.2.2 ∧ c.maxLocals = M.2.2.1 ∧ s.vm.findClass M.1.cls = some m.cls ∧ (∀ w ∈ go_tbl, w.before args s = true) ∧ meth.locks = false ∧ meth.name = M.1.name ∧ go_CX E s
abbrev go_F : Type := Nat × (Nat → Nat → Nat) × Nat × Nat
def go_rt (E : go_E) (M : go_M) (v : List go_V) (pc : Nat) : Prop :=
  (v = [] ∧ M.2.2.2 = none ∧ decode (go_cc M) pc = .ok (.return_, 1)) ∨
  (∃ (x : Int) (ty : FieldType), v = [vv_I x] ∧ M.2.2.2 = some ty ∧ narrow ty (.int (Int32.ofInt x)) = .int (Int32.ofInt x) ∧ decode (go_cc M) pc = .ok (.ireturn, 1)) ∨
  (∃ x : Int, v = [vv_L x] ∧ M.2.2.2 = some .long ∧ decode (go_cc M) pc = .ok (.lreturn, 1)) ∨
  (∃ (w : go_V) (n : String), v = [w] ∧ (w = vv_S 0 ∨ ∃ a, w = vv_A a) ∧ M.2.2.2 = some (.object n) ∧ decode (go_cc M) pc = .ok (.areturn, 1))
def go_Z (E : go_E) (M : go_M) (mm : Nat × Nat) (p : Program) (l : Launch) (e : Env) (R : Room) (s : State) (m : MethodId) (args : Array Value) (below : List Frame) (meth : Method) (c : Code) (Z : State → Prop) (v : List go_V) (φ : go_F) (δ : Nat → Nat → Int) : Prop :=
  ∀ (H : Heap) (locs : List Loc) (ls : Array Slot) (pc : Nat), go_W E φ.1 φ.2.1 δ H → va_S (go_A E) s.heap H locs → go_rt E M v pc → φ.2.2.1 ≤ mm.1 → φ.2.2.2 ≤ mm.2 →
    W p l e R s m args below meth c H locs mm.1 mm.2 Z (F0 m pc ls (go_cs E v))
/-- the frame of the method M at pc, with these locals, this stack, this heap: it comes to its end, and Q holds of what it answers and of the heap behind it -/
def Go (E : go_E) (d : Nat) (mm : Nat × Nat) (M : go_M) (φ : go_F) (pc : Nat) (lv : List (Nat × go_V)) (st : List go_V) (δ : Nat → Nat → Int) (Q : List go_V → go_F → (Nat → Nat → Int) → Prop) : Prop :=
  ∀ (p : Program) (l : Launch) (e : Env) (R : Room) (s : State) (m : MethodId) (args : Array Value) (below : List Frame) (meth : Method) (c : Code) (Z : State → Prop) (H : Heap) (locs : List Loc) (ls : Array Slot),
    go_B E p s m args meth c M → d ≤ R.frames → 60 * d ≤ R.locals → mm.1 ≤ R.cells → mm.2 ≤ R.slots →
    (∀ v φ' δ', Q v φ' δ' → go_Z E M mm p l e R s m args below meth c Z v φ' δ') →
    go_W E φ.1 φ.2.1 δ H → va_S (go_A E) s.heap H locs → lv_has ls M.2.2.1 (go_cl2 E lv) →
    W p l e R s m args below meth c H locs φ.2.2.1 φ.2.2.2 Z (F0 m pc ls (go_cs E st))
section GOROWS
variable {E : go_E} {d : Nat} {mm : Nat × Nat} {M : go_M} {φ : go_F} {pc : Nat} {lv : List (Nat × go_V)} {st : List go_V} {δ : Nat → Nat → Int} {Q : List go_V → go_F → (Nat → Nat → Int) → Prop}
/-- an instruction that changes the stack alone -/
theorem go_step {pc' : Nat} {st' : List go_V}
    (f : ∀ (p : Program) (l : Launch) (e : Env) (R : Room) (s : State) (m : MethodId) (args : Array Value) (below : List Frame) (meth : Method) (c : Code) (Z : State → Prop) (H : Heap) (locs : List Loc) (ls : Array Slot), go_B E p s m args meth c M → va_S (go_A E) s.heap H locs → lv_has ls M.2.2.1 (go_cl2 E lv) → go_W E φ.1 φ.2.1 δ H →
      W p l e R s m args below meth c H locs φ.2.2.1 φ.2.2.2 Z (F0 m pc' ls (go_cs E st')) → W p l e R s m args below meth c H locs φ.2.2.1 φ.2.2.2 Z (F0 m pc ls (go_cs E st)))
    (k : Go E d mm M φ pc' lv st' δ Q) : Go E d mm M φ pc lv st δ Q := by
  intro p l e R s m args below meth c Z H locs ls B h1 h2 h3 h4 hZ hW hS hl
  exact f p l e R s m args below meth c Z H locs ls B hS hl hW (k p l e R s m args below meth c Z H locs ls B h1 h2 h3 h4 hZ hW hS hl)
theorem go_iconst {n : Int} (hdg : decode (go_cc M) pc = .ok (.iconst n, 1)) (k : Go E d mm M φ (pc + 1) lv (vv_I n :: st) δ Q) : Go E d mm M φ pc lv st δ Q :=
  go_step (fun p l e R s m args below meth c Z H locs ls B hS hl hW w => lv_iconst B.1 B.2.1 hdg rfl w) k
theorem go_bipush {n : Int} (hdg : decode (go_cc M) pc = .ok (.bipush n, 2)) (h : (Int8.ofInt n).toInt32 = Int32.ofInt n) (k : Go E d mm M φ (pc + 2) lv (vv_I n :: st) δ Q) : Go E d mm M φ pc lv st δ Q :=
  go_step (fun p l e R s m args below meth c Z H locs ls B hS hl hW w => lv_bipush B.1 B.2.1 hdg h w) k
theorem go_sipush {n : Int} (hdg : decode (go_cc M) pc = .ok (.sipush n, 3)) (h : (Int16.ofInt n).toInt32 = Int32.ofInt n) (k : Go E d mm M φ (pc + 3) lv (vv_I n :: st) δ Q) : Go E d mm M φ pc lv st δ Q :=
  go_step (fun p l e R s m args below meth c Z H locs ls B hS hl hW w => lv_sipush B.1 B.2.1 hdg h w) k
theorem go_iadd {x y : Int} (hdg : decode (go_cc M) pc = .ok (.iadd, 1)) (k : Go E d mm M φ (pc + 1) lv (vv_I (x + y) :: st) δ Q) : Go E d mm M φ pc lv (vv_I y :: vv_I x :: st) δ Q :=
  go_step (fun p l e R s m args below meth c Z H locs ls B hS hl hW w => lv_iadd B.1 B.2.1 hdg (by rw [← Int32.ofInt_add]; exact w)) k
end GOROWS
