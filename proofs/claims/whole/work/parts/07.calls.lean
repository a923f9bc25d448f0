/-! rows of Go: calls, makings -/
def go_ar : Nat → List go_V → List (Nat × go_V)
  | _, [] => []
  | i, v :: vs => (i, v) :: go_ar (bif go_il v then i + 2 else i + 1) vs
theorem go_ar_eq (E : go_E) (vs : List go_V) : ∀ i, lv_args i (go_cs E vs) = go_cl2 E (go_ar i vs) := by
  induction vs with
  | nil => intro i; rfl
  | cons v t ih =>
    intro i
    show (i, go_cv E v) :: lv_args (if (go_cv E v).category = 2 then i + 2 else i + 1) (go_cs E t) = (i, go_cv E v) :: go_cl2 E (go_ar (bif go_il v then i + 2 else i + 1) t)
    rw [ih]
    have h := go_il_cat E v
    cases hv : go_il v with
    | true => rw [hv] at h; rw [if_pos (by simpa using h)]; rfl
    | false => rw [hv] at h; rw [if_neg (by simpa using h)]; rfl
/-- the words of some values -/
def go_wd : List go_V → Nat
  | [] => 0
  | v :: vs => (bif go_il v then 2 else 1) + go_wd vs
theorem go_wd_cat (E : go_E) (v : go_V) : (go_cv E v).category = bif go_il v then 2 else 1 := by
  cases hv : go_il v with
  | true =>
    have h := go_il_cat E v
    rw [hv] at h
    simpa using h
  | false => exact go_cat1 hv
theorem go_wd_sum (E : go_E) (vs : List go_V) : ((go_cs E vs).map fun v => v.category).sum = go_wd vs := by
  induction vs with
  | nil => rfl
  | cons v t ih =>
    show ((go_cv E v).category :: (go_cs E t).map fun v => v.category).sum = (bif go_il v then 2 else 1) + go_wd t
    rw [List.sum_cons, ih, go_wd_cat]
theorem go_wd_sl (E : go_E) (vs : List go_V) : (lg_sl (go_cs E vs)).length = go_wd vs := by
  induction vs with
  | nil => rfl
  | cons v t ih =>
    have e : lg_sl (go_cs E (v :: t)) = (if (go_cv E v).category = 2 then [.val (go_cv E v), .second] else [.val (go_cv E v)]) ++ lg_sl (go_cs E t) := rfl
    rw [e, List.length_append, ih, go_wd_cat]
    show _ = (bif go_il v then 2 else 1) + go_wd t
    cases go_il v <;> rfl
def go_ov (E : go_E) (v : List go_V) : Option Value := match v with
  | [] => none
  | w :: _ => some (go_cv E w)
def go_ap (v st : List go_V) : List go_V := match v with
  | [] => st
  | w :: _ => w :: st
theorem go_ap_eq (E : go_E) (v st : List go_V) : (go_ov E v).toList ++ go_cs E st = go_cs E (go_ap v st) := by
  cases v <;> rfl
def go_Pc (E : go_E) (n : Nat) (ρ : Nat → Nat → Nat) (δ : Nat → Nat → Int) (As : List go_V) : Array Value → State → Prop := fun a U => a = (go_cs E As).toArray ∧ go_W E n ρ δ U.heap ∧ go_CX E U
def go_Qc (E : go_E) (mm : Nat × Nat) (Q : List go_V → go_F → (Nat → Nat → Int) → Prop) : Array Value → State → Outcome → State → Prop := fun _ st oc t =>
  (∃ (v : List go_V) (φ' : go_F) (δ' : Nat → Nat → Int), oc = .returned (go_ov E v) ∧ Q v φ' δ' ∧ go_W E φ'.1 φ'.2.1 δ' t.heap ∧ φ'.2.2.1 ≤ mm.1 ∧ φ'.2.2.2 ≤ mm.2) ∧ va_F (go_A E) st t
theorem go_blind (E : go_E) (n : Nat) (ρ : Nat → Nat → Nat) (δ : Nat → Nat → Int) (As : List go_V) : FrameBlind (go_Pc E n ρ δ As) :=
  fun a U g mk h => ⟨h.1, h.2.1, h.2.2.move (U := U.calling g mk a) (H := U.heap) (locs := []) va_S.rf rfl (Vm.Alike.refl U.vm) (fun w hw hn => go_nw_same (s := U) (U := U.calling g mk a) rfl hw hn)⟩
def go_ws (M : go_M) : List Cond := .code M.1 (go_cc M) M.2.2.1 M.2.2.2 :: go_tbl
def go_rm (d : Nat) (mm : Nat × Nat) : Room := { frames := d, cells := mm.1, slots := mm.2, locals := 60 * d }
set_option maxHeartbeats 4000000 in
theorem go_met {E : go_E} {d : Nat} {mm : Nat × Nat} {M : go_M} {n : Nat} {ρ : Nat → Nat → Nat} {δ : Nat → Nat → Int} {Q : List go_V → go_F → (Nat → Nat → Int) → Prop} {As : List go_V} (l : Launch) (hp : plainName M.1.cls = true) (hlen : go_wd As ≤ M.2.2.1)
    (h : Go E d mm M (n, ρ, 0, 0) 0 (go_ar 0 As) [] δ Q) : Met l M.1 (go_ws M) (go_rm d mm) (go_Pc E n ρ δ As) (go_Qc E mm Q) mm.1 mm.2 (go_A E) := by
  refine Met.ofW (cc := go_cc M) (maxL := M.2.2.1) (ret := M.2.2.2) hp rfl ?_
  intro p e s m args below meth c s₁ B hml hv
  obtain ⟨rfl, hW, hCX⟩ := hv
  have hts := atoms_spec (ws := go_ws M) B.pre
  have hl := lv_entry (go_cs E As) (n := M.2.2.1) (by rw [go_wd_sl]; exact hlen)
  rw [lg_entry_eq]
  rw [go_ar_eq] at hl
  refine h p l e (go_rm d mm) s m _ below meth c _ s.heap [] _ ⟨B.exec, B.bytes, B.returns, hml, findClass_of_methodNamed B.named, fun w hw => hts w (List.mem_cons_of_mem _ hw), B.notSynchronized, (name_of_methodNamed B.named B.method).1, hCX⟩ (Nat.le_refl _) (Nat.le_refl _) (Nat.le_refl _) (Nat.le_refl _) ?_ hW va_S.rf hl
  intro v φ' δ' hQ H locs ls pc hW' hS' hr' k1 k2
  have hq : ∀ t : State, t.heap = H → s.WarmedH t.vm → go_Qc E mm Q (go_cs E As).toArray s (.returned (go_ov E v)) t := fun t ht _ => ⟨⟨v, φ', δ', rfl, hQ, by rw [ht]; exact hW', k1, k2⟩, hS'.F ht⟩
  rcases hr' with ⟨rfl, hret, hd⟩ | ⟨x, ty, rfl, hret, hn, hd⟩ | ⟨x, rfl, hret, hd⟩ | ⟨w, nm, rfl, hw, hret, hd⟩
  · exact W.vret B.exec B.bytes (by rw [B.returns, hret]) hq hS'.2.2 hd
  · exact W.zret (ty := ty) B.exec B.bytes (by rw [B.returns, hret]) hn hq hS'.2.2 hd
  · exact W.lret B.exec B.bytes (by rw [B.returns, hret]) hq hS'.2.2 hd
  · exact W.aret (rt := .object nm) B.exec B.bytes (by rw [B.returns, hret]) (Or.inl ⟨nm, rfl⟩) (by rcases hw with rfl | ⟨a, rfl⟩; exact Or.inl rfl; exact Or.inr ⟨_, rfl⟩) hq hS'.2.2 hd
theorem go_good_tbl : ∀ w ∈ go_tbl, goodWord w = true := fun w h => (List.mem_filter.mp h).2
theorem go_good {ws : List Cond} (h : ∀ w ∈ ws, w ∈ go_tbl) : GoodIn go_tbl ws := fun w hw => ⟨h w hw, good_of_word (go_good_tbl w (h w hw))⟩
/-- what is needed of a method to call it: n parameters beside the object -/
def go_MF (M : go_M) (n : Nat) : Prop := Cond.code M.1 (go_cc M) M.2.2.1 M.2.2.2 ∈ go_tbl ∧ Cond.initialized M.1.cls ∈ go_tbl ∧ plainName M.1.cls = true ∧ (M.1.cls ≠ "java/lang/invoke/MethodHandle" ∧ M.1.cls ≠ "java/lang/invoke/VarHandle") ∧
  (parseMethodDescriptor M.1.desc).map (fun d => d.parameters.length) = some n ∧ M.2.2.1 ≤ 41
theorem go_ws_in {M : go_M} {n : Nat} (h : go_MF M n) : ∀ w ∈ go_ws M, w ∈ go_tbl := by
  intro w hw
  rcases List.mem_cons.mp hw with rfl | hw
  · exact h.1
  · exact hw
def go_SS (own : String) (idx : Nat) (M' : go_M) (n : Nat) : Prop := go_MF M' n ∧ Cond.static M'.1 ∈ go_tbl ∧ (Cond.methodLink own idx M'.1 ∈ go_tbl ∨ ∃ host, Cond.methodLinkNest own idx M'.1 host ∈ go_nw)
def go_SI (own : String) (idx : Nat) (M' : go_M) (n : Nat) : Prop := go_MF M' n ∧ Cond.instanceMethod M'.1 ∈ go_tbl ∧ M'.1.name = "<init>" ∧ M'.2.2.2 = none ∧ Cond.methodLink own idx M'.1 ∈ go_tbl
def go_SV (own : String) (idx ci : Nat) (M' : go_M) (n : Nat) : Prop := go_MF M' n ∧ ∃ (C : String) (T : u_T) (N : Nat) (x : MethodName), go_cl[ci]? = some (C, T, N) ∧ Cond.selects C x M'.1 ∈ go_tbl ∧ Cond.instanceMethod M'.1 ∈ go_tbl ∧
  ((x = M'.1 ∧ Cond.methodLink own idx x ∈ go_tbl) ∨ (x = M'.1 ∧ ∃ host, Cond.methodLinkNest own idx x host ∈ go_nw) ∨
   (∃ owner, Cond.methodLink own idx x ∈ go_tbl ∧ Cond.sameMethod x.cls owner x.name x.desc ∈ go_tbl ∧ (owner ≠ "java/lang/invoke/MethodHandle" ∧ owner ≠ "java/lang/invoke/VarHandle") ∧ x.desc = M'.1.desc ∧
     (Cond.declares ⟨owner, x.name, x.desc⟩ ∈ go_nw ∨ (Cond.instanceMethod ⟨owner, x.name, x.desc⟩ ∈ go_tbl ∧ ∃ b0 m0 r0, Cond.code ⟨owner, x.name, x.desc⟩ b0 m0 r0 ∈ go_tbl))))
section GOCALL
variable {E : go_E} {d : Nat} {mm mc : Nat × Nat} {M M' : go_M} {φ : go_F} {pc : Nat} {lv : List (Nat × go_V)} {st rest As : List go_V} {δ : Nat → Nat → Int} {Q : List go_V → go_F → (Nat → Nat → Int) → Prop}
/-- behind a call -/
theorem go_behind {p : Program} {l : Launch} {e : Env} {R : Room} {s : State} {m : MethodId} {args : Array Value} {below : List Frame} {meth : Method} {c : Code} {Z : State → Prop} {H : Heap} {locs : List Loc} {ls : Array Slot} {a : Array Value}
    (B : go_B E p s m args meth c M) (h1 : d + 1 ≤ R.frames) (h2 : 60 * (d + 1) ≤ R.locals) (h3 : mm.1 ≤ R.cells) (h4 : mm.2 ≤ R.slots) (hZ : ∀ v φ' δ', Q v φ' δ' → go_Z E M mm p l e R s m args below meth c Z v φ' δ')
    (hS : va_S (go_A E) s.heap H locs) (hl : lv_has ls M.2.2.1 (go_cl2 E lv))
    (run : va_Run p l e R s m args below meth c H locs φ.2.2.1 φ.2.2.2 mc.1 mc.2 (F0 m pc ls (go_cs E st)) (go_cs E rest) (go_Qc E mc (fun v φ' δ' => Go E (d + 1) mm M (φ'.1, φ'.2.1, φ.2.2.1 + mc.1, φ.2.2.2 + mc.2) (pc + 3) lv (go_ap v rest) δ' Q) a) (go_A E)) :
    W p l e R s m args below meth c H locs φ.2.2.1 φ.2.2.2 Z (F0 m pc ls (go_cs E st)) := by
  intro T hT X
  obtain ⟨v, st₀, t, T', L, z0, X', hL, e1, e2, ⟨⟨v', φ', δ', hv, hQ, hW', k1, k2⟩, hz, hk⟩, stp⟩ := run T hT X
  cases hv
  rw [z0] at hz hk
  have hS' : va_S (go_A E) s.heap T'.heap (locs ++ L) := ⟨Nat.le_trans hS.1 (by rw [e1]; exact hz), fun q g1 g2 => by rw [e1, hk q (Nat.lt_of_lt_of_le g1 hS.1) g2]; exact hS.2.1 q g1 g2, fun q hq => by
    rcases List.mem_append.mp hq with h | h
    · exact hS.2.2 q h
    · exact hL q h⟩
  have K := hQ p l e R s m args below meth c Z T'.heap (locs ++ L) ls B h1 h2 h3 h4 hZ (by rw [e1]; exact hW') hS' hl
  obtain ⟨t2, a1, b1⟩ := K T' rfl X'
  rw [go_ap_eq] at stp
  exact ⟨t2, stp t2 a1, b1⟩
theorem go_pre {s : State} {args : Array Value} {H : Heap} {locs : List Loc} (hCX : go_CX E s) (hW : go_W E φ.1 φ.2.1 δ H) (hS : va_S (go_A E) s.heap H locs) (As : List go_V) : PreS s H (go_Pc E φ.1 φ.2.1 δ As) (go_cs E As) :=
  ⟨go_blind _ _ _ _ _, fun U hU hWm => ⟨rfl, by rw [hU]; exact hW, hCX.move hS hU hWm.alike (fun w hw hn => go_nw_warm hWm hw hn)⟩⟩
set_option maxHeartbeats 4000000 in
theorem go_callS {n idx : Nat} (hs : go_SS M.1.cls idx M' n) (hdg : decode (go_cc M) pc = .ok (.invokestatic idx, 3)) (hn : As.length = n) (hlen : go_wd As ≤ M'.2.2.1) (hr : go_wd rest ≤ 8) (h5 : φ.2.2.1 + mc.1 ≤ mm.1) (h6 : φ.2.2.2 + mc.2 ≤ mm.2)
    (k : Go E d mc M' (φ.1, φ.2.1, 0, 0) 0 (go_ar 0 As) [] δ (fun v φ' δ' => Go E (d + 1) mm M (φ'.1, φ'.2.1, φ.2.2.1 + mc.1, φ.2.2.2 + mc.2) (pc + 3) lv (go_ap v rest) δ' Q)) : Go E (d + 1) mm M φ pc lv (As.reverse ++ rest) δ Q := by
  intro p l e R s m args below meth c Z H locs ls B h1 h2 h3 h4 hZ hW hS hl
  obtain ⟨hMF, hst, hlink⟩ := hs
  have hM := go_met l hMF.2.2.1 hlen k
  have hpre := go_pre (args := args) B.2.2.2.2.2.2.2.2 hW hS As
  have hts := B.2.2.2.2.2.1
  have hG : GoodIn go_tbl (go_ws M') := go_good (go_ws_in hMF)
  have hroom : (go_rm d mc).frames + 1 ≤ R.frames ∧ 8 + (M'.2.2.1 + 11) + (go_rm d mc).locals ≤ R.locals := ⟨h1, by have := hMF.2.2.2.2.2; show 8 + (M'.2.2.1 + 11) + 60 * d ≤ R.locals; omega⟩
  have hf : φ.2.2.1 + mc.1 ≤ R.cells ∧ φ.2.2.2 + mc.2 ≤ R.slots := ⟨by omega, by omega⟩
  have F : CallFix p m c (go_cc M) M.2.2.1 s args go_tbl M.1.cls := ⟨B.1, B.2.1, B.2.2.2.1, B.2.2.2.2.1, hts⟩
  refine go_behind (mc := mc) (rest := rest) B h1 h2 h3 h4 hZ hS hl (a := (go_cs E As).toArray) ?_
  have hstack : (F0 m pc ls (go_cs E (As.reverse ++ rest))).stack = (go_cs E As).reverse ++ go_cs E rest := by
    show go_cs E (As.reverse ++ rest) = _
    simp
  have hroomW : 2 * (F0 m pc ls (go_cs E (As.reverse ++ rest))).monitorRoom + ((go_cs E rest).map fun v => v.category).sum ≤ 8 := lv_room (by rw [go_wd_sum]; exact hr)
  have hnn : (go_cs E As).length = n := by rw [List.length_map]; exact hn
  rcases hlink with hlink | ⟨host, hlink⟩
  · exact va_runS F hM ⟨callB_of n hts hG rfl rfl rfl (hts _ hMF.2.1) (hts _ hlink) ⟨hMF.2.2.2.1.1, hMF.2.2.2.1.2, hMF.2.2.2.2.1⟩ hroom, hts _ hst⟩ hpre rfl hnn (hl.1) hstack hroomW hdg hf
  · exact va_runSN F hM ⟨va_cnB n hts hG rfl rfl rfl (B.2.2.2.2.2.2.2.2.2.2.2.2.2.2.2.2.2.1 _ hlink) (hts _ hMF.2.1) ⟨hMF.2.2.2.1.1, hMF.2.2.2.1.2, hMF.2.2.2.2.1⟩ hroom, hts _ hst, trivial⟩ hpre rfl hnn (hl.1) hstack hroomW hdg hf
set_option maxHeartbeats 4000000 in
theorem go_callI {n idx a : Nat} (hs : go_SI M.1.cls idx M' n) (hdg : decode (go_cc M) pc = .ok (.invokespecial idx, 3)) (hn : As.length = n) (hlen : go_wd (vv_A a :: As) ≤ M'.2.2.1) (hr : go_wd rest ≤ 8) (h5 : φ.2.2.1 + mc.1 ≤ mm.1) (h6 : φ.2.2.2 + mc.2 ≤ mm.2)
    (k : Go E d mc M' (φ.1, φ.2.1, 0, 0) 0 (go_ar 0 (vv_A a :: As)) [] δ (fun v φ' δ' => Go E (d + 1) mm M (φ'.1, φ'.2.1, φ.2.2.1 + mc.1, φ.2.2.2 + mc.2) (pc + 3) lv (go_ap v rest) δ' Q)) : Go E (d + 1) mm M φ pc lv (As.reverse ++ vv_A a :: rest) δ Q := by
  intro p l e R s m args below meth c Z H locs ls B h1 h2 h3 h4 hZ hW hS hl
  obtain ⟨hMF, hinst, hnm, hret, hlink⟩ := hs
  have hM := go_met l hMF.2.2.1 hlen k
  have hpre := go_pre (args := args) B.2.2.2.2.2.2.2.2 hW hS (vv_A a :: As)
  have hts := B.2.2.2.2.2.1
  have hG : GoodIn go_tbl (go_ws M') := go_good (go_ws_in hMF)
  have hroom : (go_rm d mc).frames + 1 ≤ R.frames ∧ 8 + (M'.2.2.1 + 11) + (go_rm d mc).locals ≤ R.locals := ⟨h1, by have := hMF.2.2.2.2.2; show 8 + (M'.2.2.1 + 11) + 60 * d ≤ R.locals; omega⟩
  have hf : φ.2.2.1 + mc.1 ≤ R.cells ∧ φ.2.2.2 + mc.2 ≤ R.slots := ⟨by omega, by omega⟩
  have F : CallFix p m c (go_cc M) M.2.2.1 s args go_tbl M.1.cls := ⟨B.1, B.2.1, B.2.2.2.1, B.2.2.2.2.1, hts⟩
  refine go_behind (mc := mc) (rest := rest) B h1 h2 h3 h4 hZ hS hl (a := (go_cs E (vv_A a :: As)).toArray) ?_
  have hstack : (F0 m pc ls (go_cs E (As.reverse ++ vv_A a :: rest))).stack = (go_cs E As).reverse ++ .ref (go_b0 E + a) :: go_cs E rest := by
    show go_cs E (As.reverse ++ vv_A a :: rest) = _
    simp
    rfl
  have hroomW : 2 * (F0 m pc ls (go_cs E (As.reverse ++ vv_A a :: rest))).monitorRoom + ((go_cs E rest).map fun v => v.category).sum ≤ 8 := lv_room (by rw [go_wd_sum]; exact hr)
  have hnn : (go_cs E As).length = n := by rw [List.length_map]; exact hn
  exact va_runI F hM (cwI n hts hG (by rw [go_ws, hret]) rfl rfl (hts _ hMF.2.1) (hts _ hlink) (hts _ hinst) hnm ⟨hMF.2.2.2.1.1, hMF.2.2.2.1.2, hMF.2.2.2.2.1⟩ hroom) hpre rfl hnn (hl.1) hstack hroomW hdg hf
set_option maxHeartbeats 4000000 in
theorem go_callV {n idx a ci : Nat} (hs : go_SV M.1.cls idx ci M' n) (ha : go_kd a = ci ∧ a < φ.1) (hdg : decode (go_cc M) pc = .ok (.invokevirtual idx, 3)) (hn : As.length = n) (hlen : go_wd (vv_A a :: As) ≤ M'.2.2.1) (hr : go_wd rest ≤ 8) (h5 : φ.2.2.1 + mc.1 ≤ mm.1) (h6 : φ.2.2.2 + mc.2 ≤ mm.2)
    (k : Go E d mc M' (φ.1, φ.2.1, 0, 0) 0 (go_ar 0 (vv_A a :: As)) [] δ (fun v φ' δ' => Go E (d + 1) mm M (φ'.1, φ'.2.1, φ.2.2.1 + mc.1, φ.2.2.2 + mc.2) (pc + 3) lv (go_ap v rest) δ' Q)) : Go E (d + 1) mm M φ pc lv (As.reverse ++ vv_A a :: rest) δ Q := by
  intro p l e R s m args below meth c Z H locs ls B h1 h2 h3 h4 hZ hW hS hl
  obtain ⟨hMF, C, T, N, x, hc, hsel, hinst, hlink⟩ := hs
  have hM := go_met l hMF.2.2.1 hlen k
  have hpre := go_pre (args := args) B.2.2.2.2.2.2.2.2 hW hS (vv_A a :: As)
  have hts := B.2.2.2.2.2.1
  have hG : GoodIn go_tbl (go_ws M') := go_good (go_ws_in hMF)
  have hroom : (go_rm d mc).frames + 1 ≤ R.frames ∧ 8 + (M'.2.2.1 + 11) + (go_rm d mc).locals ≤ R.locals := ⟨h1, by have := hMF.2.2.2.2.2; show 8 + (M'.2.2.1 + 11) + 60 * d ≤ R.locals; omega⟩
  have hf : φ.2.2.1 + mc.1 ≤ R.cells ∧ φ.2.2.2 + mc.2 ≤ R.slots := ⟨by omega, by omega⟩
  have F : CallFix p m c (go_cc M) M.2.2.1 s args go_tbl M.1.cls := ⟨B.1, B.2.1, B.2.2.2.1, B.2.2.2.2.1, hts⟩
  refine go_behind (mc := mc) (rest := rest) B h1 h2 h3 h4 hZ hS hl (a := (go_cs E (vv_A a :: As)).toArray) ?_
  have hstack : (F0 m pc ls (go_cs E (As.reverse ++ vv_A a :: rest))).stack = (go_cs E As).reverse ++ .ref (go_b0 E + a) :: go_cs E rest := by
    show go_cs E (As.reverse ++ vv_A a :: rest) = _
    simp
    rfl
  have hroomW : 2 * (F0 m pc ls (go_cs E (As.reverse ++ vv_A a :: rest))).monitorRoom + ((go_cs E rest).map fun v => v.category).sum ≤ 8 := lv_room (by rw [go_wd_sum]; exact hr)
  have hnn : (go_cs E As).length = n := by rw [List.length_map]; exact hn
  have hc20 : ci < 20 := by have := go_cl_lt hc; omega
  have hat := hW.2 a ha.2
  rw [go_ent_obj ha.1 hc20] at hat
  obtain ⟨cell, r1, r2, r3⟩ := va_recv (q0 := 0) (B.2.2.2.2.2.2.2.2.1) (go_one hat) hc rfl
  have hpv : PreV s H C (go_b0 E + a) (go_Pc E φ.1 φ.2.1 δ (vv_A a :: As)) (go_cs E As) := ⟨hpre.1, ⟨cell, r1, r2, r3⟩, hpre.2⟩
  rcases hlink with ⟨rfl, hlink⟩ | ⟨rfl, host, hlink⟩ | ⟨owner, hlink, hsame, hown, hdesc, hdecl⟩
  · exact va_runV F hM ⟨callB_of n hts hG rfl rfl rfl (hts _ hMF.2.1) (hts _ hlink) ⟨hMF.2.2.2.1.1, hMF.2.2.2.1.2, hMF.2.2.2.2.1⟩ hroom, hts _ hinst, hts _ hsel⟩ hpv rfl hnn (hl.1) hstack hroomW hdg hf
  · exact va_runVN F hM ⟨va_cnB n hts hG rfl rfl rfl (B.2.2.2.2.2.2.2.2.2.2.2.2.2.2.2.2.2.1 _ hlink) (hts _ hMF.2.1) ⟨hMF.2.2.2.1.1, hMF.2.2.2.1.2, hMF.2.2.2.2.1⟩ hroom, hts _ hinst, hts _ hsel⟩ hpv rfl hnn (hl.1) hstack hroomW hdg hf
  · have hd2 : owner ≠ "java/lang/invoke/MethodHandle" ∧ owner ≠ "java/lang/invoke/VarHandle" ∧ (parseMethodDescriptor x.desc).map (fun d => d.parameters.length) = some n := ⟨hown.1, hown.2, by rw [hdesc]; exact hMF.2.2.2.2.1⟩
    rcases hdecl with hdecl | ⟨hi0, b0, m0, r0, hc0⟩
    · refine va_runU F hM (va_cwA (owner := owner) (x := x) n hts (go_good (fun w hw => ?_)) rfl rfl rfl (B.2.2.2.2.2.2.2.2.2.2.2.2.2.2.2.2.2.1 _ hdecl) hd2 hroom) hpv rfl hnn (hl.1) hstack hroomW hdg hf
      simp only [va_wsU, List.mem_append, List.mem_cons, List.not_mem_nil, or_false] at hw
      rcases hw with (rfl | rfl | rfl | rfl | rfl) | hw
      · exact hlink
      · exact hsame
      · exact hsel
      · exact hinst
      · exact hMF.2.1
      · exact go_ws_in hMF w hw
    · refine va_runU F hM (va_cwO (owner := owner) (x := x) n hts (go_good (fun w hw => ?_)) rfl rfl rfl hc0 hd2 hroom) hpv rfl hnn (hl.1) hstack hroomW hdg hf
      simp only [va_wsO, List.mem_append, List.mem_cons, List.not_mem_nil, or_false] at hw
      rcases hw with (rfl | rfl | rfl | rfl | rfl | rfl) | hw
      · exact hlink
      · exact hsame
      · exact hi0
      · exact hsel
      · exact hinst
      · exact hMF.2.1
      · exact go_ws_in hMF w hw
end GOCALL
section GOMATH
variable {E : go_E} {d : Nat} {mm : Nat × Nat} {M : go_M} {φ : go_F} {pc : Nat} {lv : List (Nat × go_V)} {st : List go_V} {δ : Nat → Nat → Int} {Q : List go_V → go_F → (Nat → Nat → Int) → Prop}
theorem go_mm_s1 : Cond.static Lib.Math.min.name ∈ go_tbl := by decide +kernel
theorem go_mm_s2 : Cond.static Lib.MathLoose.max_long.x ∈ go_tbl := by decide +kernel
theorem go_mm_s3 : Cond.static Lib.MathLoose.min_long.x ∈ go_tbl := by decide +kernel
theorem go_mm_i : Cond.initialized "java/lang/Math" ∈ go_tbl := by decide +kernel
theorem go_mm_c1 : Cond.code Lib.Math.min.name Lib.Math.min.code 2 (some .int) ∈ go_tbl := by decide +kernel
theorem go_mm_c2 : Cond.code Lib.MathLoose.max_long.x Lib.MathLoose.max_long.code 4 (some .long) ∈ go_tbl := by decide +kernel
theorem go_mm_c3 : Cond.code Lib.MathLoose.min_long.x Lib.MathLoose.min_long.code 4 (some .long) ∈ go_tbl := by decide +kernel
theorem go_mminI {idx : Nat} {x y : Int} (hm : Cond.methodLink M.1.cls idx Lib.Math.min.name ∈ go_tbl) (hdg : decode (go_cc M) pc = .ok (.invokestatic idx, 3)) (hx : go_iI x) (hy : go_iI y) (hr : go_wd st ≤ 8) (h5 : φ.2.2.1 ≤ mm.1) (h6 : φ.2.2.2 ≤ mm.2)
    (k : Go E (d + 1) mm M φ (pc + 3) lv (vv_I (if y < x then y else x) :: st) δ Q) : Go E (d + 1) mm M φ pc lv (vv_I y :: vv_I x :: st) δ Q := by
  intro p l e R s m args below meth c Z H locs ls B h1 h2 h3 h4 hZ hW hS hl
  have hts := B.2.2.2.2.2.1
  refine va_mmin B.1 B.2.1 (B.2.2.2.1.trans hl.1.symm) B.2.2.2.2.1 (hts _ hm) (hts _ go_mm_s1) (hts _ go_mm_i) (hts _ go_mm_c1) (by omega) (by rw [go_wd_sum]; omega) (by omega) (by omega) hdg ?_
  have K := k p l e R s m args below meth c Z H locs ls B h1 h2 h3 h4 hZ hW hS hl
  have e0 : (if Int32.ofInt y < Int32.ofInt x then Int32.ofInt y else Int32.ofInt x) = Int32.ofInt (if y < x then y else x) := by
    by_cases h : y < x
    · rw [if_pos ((go_lt32 hy hx).mpr h), if_pos h]
    · rw [if_neg (fun q => h ((go_lt32 hy hx).mp q)), if_neg h]
  rw [e0]
  exact K
theorem go_mmaxL {idx : Nat} {x y : Int} (hm : Cond.methodLink M.1.cls idx Lib.MathLoose.max_long.x ∈ go_tbl) (hdg : decode (go_cc M) pc = .ok (.invokestatic idx, 3)) (hx : go_iL x) (hy : go_iL y) (hr : go_wd st ≤ 8) (h5 : φ.2.2.1 ≤ mm.1) (h6 : φ.2.2.2 ≤ mm.2)
    (k : Go E (d + 1) mm M φ (pc + 3) lv (vv_L (if y < x then x else y) :: st) δ Q) : Go E (d + 1) mm M φ pc lv (vv_L y :: vv_L x :: st) δ Q := by
  intro p l e R s m args below meth c Z H locs ls B h1 h2 h3 h4 hZ hW hS hl
  have hts := B.2.2.2.2.2.1
  refine va_mmax_long B.1 B.2.1 (B.2.2.2.1.trans hl.1.symm) B.2.2.2.2.1 (hts _ hm) (hts _ go_mm_s2) (hts _ go_mm_i) (hts _ go_mm_c2) (by omega) (by rw [go_wd_sum]; omega) (by omega) (by omega) hdg ?_
  have K := k p l e R s m args below meth c Z H locs ls B h1 h2 h3 h4 hZ hW hS hl
  have e0 : (if Int64.ofInt y < Int64.ofInt x then Int64.ofInt x else Int64.ofInt y) = Int64.ofInt (if y < x then x else y) := by
    by_cases h : y < x
    · rw [if_pos ((go_lt64 hy hx).mpr h), if_pos h]
    · rw [if_neg (fun q => h ((go_lt64 hy hx).mp q)), if_neg h]
  rw [e0]
  exact K
theorem go_mminL {idx : Nat} {x y : Int} (hm : Cond.methodLink M.1.cls idx Lib.MathLoose.min_long.x ∈ go_tbl) (hdg : decode (go_cc M) pc = .ok (.invokestatic idx, 3)) (hx : go_iL x) (hy : go_iL y) (hr : go_wd st ≤ 8) (h5 : φ.2.2.1 ≤ mm.1) (h6 : φ.2.2.2 ≤ mm.2)
    (k : Go E (d + 1) mm M φ (pc + 3) lv (vv_L (if y < x then y else x) :: st) δ Q) : Go E (d + 1) mm M φ pc lv (vv_L y :: vv_L x :: st) δ Q := by
  intro p l e R s m args below meth c Z H locs ls B h1 h2 h3 h4 hZ hW hS hl
  have hts := B.2.2.2.2.2.1
  refine va_mmin_long B.1 B.2.1 (B.2.2.2.1.trans hl.1.symm) B.2.2.2.2.1 (hts _ hm) (hts _ go_mm_s3) (hts _ go_mm_i) (hts _ go_mm_c3) (by omega) (by rw [go_wd_sum]; omega) (by omega) (by omega) hdg ?_
  have K := k p l e R s m args below meth c Z H locs ls B h1 h2 h3 h4 hZ hW hS hl
  have e0 : (if Int64.ofInt y < Int64.ofInt x then Int64.ofInt y else Int64.ofInt x) = Int64.ofInt (if y < x then y else x) := by
    by_cases h : y < x
    · rw [if_pos ((go_lt64 hy hx).mpr h), if_pos h]
    · rw [if_neg (fun q => h ((go_lt64 hy hx).mp q)), if_neg h]
  rw [e0]
  exact K
end GOMATH
theorem go_nem_1 {w : Cond} (i : Nat) (h : tables_1_1[i]? = some w) (hg : go_isN w = true) : w ∈ go_nw := List.mem_filter.mpr ⟨by have h := List.mem_of_getElem? h; unfold tables_1; simp only [List.mem_append]; exact Or.inl h, hg⟩
theorem go_nem_2 {w : Cond} (i : Nat) (h : tables_1_2[i]? = some w) (hg : go_isN w = true) : w ∈ go_nw := List.mem_filter.mpr ⟨by have h := List.mem_of_getElem? h; unfold tables_1; simp only [List.mem_append]; exact Or.inr (Or.inl h), hg⟩
theorem go_nem_3 {w : Cond} (i : Nat) (h : tables_1_3[i]? = some w) (hg : go_isN w = true) : w ∈ go_nw := List.mem_filter.mpr ⟨by have h := List.mem_of_getElem? h; unfold tables_1; simp only [List.mem_append]; exact Or.inr (Or.inr (Or.inl h)), hg⟩
theorem go_nem_4 {w : Cond} (i : Nat) (h : tables_1_4[i]? = some w) (hg : go_isN w = true) : w ∈ go_nw := List.mem_filter.mpr ⟨by have h := List.mem_of_getElem? h; unfold tables_1; simp only [List.mem_append]; exact Or.inr (Or.inr (Or.inr (Or.inl h))), hg⟩
theorem go_nem_5 {w : Cond} (i : Nat) (h : tables_1_5[i]? = some w) (hg : go_isN w = true) : w ∈ go_nw := List.mem_filter.mpr ⟨by have h := List.mem_of_getElem? h; unfold tables_1; simp only [List.mem_append]; exact Or.inr (Or.inr (Or.inr (Or.inr (Or.inl h)))), hg⟩
theorem go_nem_6 {w : Cond} (i : Nat) (h : tables_1_6[i]? = some w) (hg : go_isN w = true) : w ∈ go_nw := List.mem_filter.mpr ⟨by have h := List.mem_of_getElem? h; unfold tables_1; simp only [List.mem_append]; exact Or.inr (Or.inr (Or.inr (Or.inr (Or.inr (Or.inl h))))), hg⟩
theorem go_nem_7 {w : Cond} (i : Nat) (h : tables_1_7[i]? = some w) (hg : go_isN w = true) : w ∈ go_nw := List.mem_filter.mpr ⟨by have h := List.mem_of_getElem? h; unfold tables_1; simp only [List.mem_append]; exact Or.inr (Or.inr (Or.inr (Or.inr (Or.inr (Or.inr (Or.inl h)))))), hg⟩
theorem go_nem_8 {w : Cond} (i : Nat) (h : tables_1_8[i]? = some w) (hg : go_isN w = true) : w ∈ go_nw := List.mem_filter.mpr ⟨by have h := List.mem_of_getElem? h; unfold tables_1; simp only [List.mem_append]; exact Or.inr (Or.inr (Or.inr (Or.inr (Or.inr (Or.inr (Or.inr (h))))))), hg⟩
