/-! THE CLAIM OUT OF ONE WALK OF THE LAW'S BODY. Your part is whole_start (and what it stands on); all else here is the same for every law, but numbers. -/
def R_law : String := "BitRecogniserLaw"
def lw_P (b : Addr) (xs : List Int32) (args : Array Value) (s : State) : Prop := args = #[.ref b] ∧ s.IntsAt b xs ∧ xs.length ≤ 3072 ∧ (Jvm.Cond.and given_1 narrow_1).before args s = true
def lw_Q (_ : Array Value) (s : State) (o : Outcome) (t : State) : Prop := o = .returned (some (.int 1)) ∧ Framed s o t [] 600000 7302250
def lw_Z (below : List Frame) (a : Array Value) (s : State) : State → Prop := fun t => ∃ o, t.status = .running ∧ Ended t below o ∧ lw_Q a s o t
/-- the law's own end, with 1 on the stack, nothing written that was there before, its room as the claim has it -/
theorem lw_ret {p : Program} {l : Launch} {e : Env} {s : State} {m : MethodId} {below : List Frame} {meth : Method} {c : Code} {b : Nat} (hx : p.tables.exec = Jvm.exec) (hb : c.code = code) (hr : meth.sig.returnType = ret) (hlocks : meth.locks = false) {pc : Nat} {H : Heap} {ls : Array Slot} (hdg : decode code pc = .ok (.ireturn, 1)) : W p l e room_1 s m #[Value.ref b] below meth c H [] 600000 7302250 (lw_Z below #[Value.ref b] s) (F0 m pc ls [.int 1]) := by
  intro T hT X
  obtain ⟨fs, hret, hrun, hended, hW, hframe⟩ := X.leave (v := some (.int 1)) (hlocks := hlocks) (fun h => by rw [hr] at h; cases h)
  have hmeth' : T.vm.method? m = some meth := X.method'
  refine ⟨T.setFrames fs, ?_, .returned (some (.int 1)), hrun, hended, rfl, ⟨_, rfl⟩, hW, hframe⟩
  jvm_step X.here [X.here.top, hx, hb, hdg, hmeth', hr, ret, narrow_b1]
  (try refine ⟨rfl, ?_⟩); (try refine ⟨rfl, ?_⟩)
  first | (intro acts; rw [hret _ acts rfl rfl rfl]) | rw [hret _ _ rfl rfl rfl]
  exact Steps.refl _
/-- what holds at the law's entry: the machine, the code, the tables' words (any of lw_tbl by 'hts w (by decide +kernel)'), the script of L ints xs at the cell b, what the Statement gives of the start (any of its parts by flat_of_before) -/
def lw_At (p : Program) (s : State) (m : MethodId) (meth : Method) (c : Code) (b L : Nat) (xs : Nat → Int32) : Prop :=
  p.tables.exec = Jvm.exec ∧ c.code = code ∧ meth.sig.returnType = ret ∧ c.maxLocals = 4 ∧ s.vm.findClass R_law = some m.cls ∧ (∀ w ∈ lw_tbl, w.before #[Value.ref b] s = true) ∧ va_X b L xs s s.heap ∧ b < s.heap.size ∧ meth.locks = false ∧ (Jvm.Cond.and given_1 narrow_1).before #[Value.ref b] s = true ∧ meth.name = "law"
theorem lw_in {w : Cond} (i : Nat) (h : tables_1[i]? = some w) : w ∈ lw_tbl := List.mem_append_right _ (List.mem_of_getElem? h)
theorem go_selP {C D : String} {x y : MethodName} {n : Nat} {s : State} {args : Array Value} (hx : x.cls ≠ "java/lang/invoke/MethodHandle" ∧ x.cls ≠ "java/lang/invoke/VarHandle") (hC : (Cond.instantiable C n).before args s = true) (hpriv : (Cond.privateMethod x).before args s = true) (hinst : (Cond.instanceMethod x).before args s = true) (hsel : (Cond.selects D y y).before args s = true) (hy : y.cls = x.cls) : (Cond.selects C x x).before args s = true := by
  obtain ⟨c, k, hc, hk, -, -, -, -⟩ := Cond.instantiable_spec hC
  obtain ⟨mk, methM, hnamed, hmethM, -, -⟩ := Cond.instanceMethod_spec hinst
  have hfound : s.methodFound? x.cls x.name x.desc = some mk := State.methodFound?_of_named hnamed hx
  obtain ⟨c2, r2, m2, q1, q2, q3, q4, mk2, q5, q6⟩ := Cond.selects_spec hsel
  have e : m2.cls = mk.cls := Option.some.inj ((findClass_of_methodNamed q3).symm.trans (by rw [hy]; exact findClass_of_methodNamed hnamed))
  have hsel2 : selectMethod {} s.vm c mk = .method mk := selectMethod_private hmethM (Cond.privateMethod_at hpriv mk methM hnamed hmethM)
  rw [e] at q5
  simp only [Cond.before, Cond.holds, Cond.value, hc, hfound, hnamed, hsel2, q5]
  simp; exact q6
theorem go_tbl_ok {args : Array Value} {s : State} (hts : ∀ w ∈ lw_tbl, w.before args s = true) : ∀ w ∈ go_tbl, w.before args s = true := by
  intro w hw
  have hw := (List.mem_filter.mp hw).1
  rcases List.mem_append.mp hw with hw | hw
  · have hsel := hts (Cond.selects "BitRecogniser$Rounds" ⟨"BitRecogniser$Table", "valueAt", "(III)J"⟩ ⟨"BitRecogniser$Table", "valueAt", "(III)J"⟩) (lw_in 759 (by decide +kernel))
    have k1 := hts (Cond.instantiable "BitRecogniser$Rounds" 7) (lw_in 198 (by decide +kernel))
    have k2 := hts (Cond.instantiable "BitRecogniser$Forest" 8) (lw_in 247 (by decide +kernel))
    have k3 := hts (Cond.instantiable "BitRecogniser$Nearest" 8) (lw_in 331 (by decide +kernel))
    have p1 := hts (Cond.privateMethod ⟨"BitRecogniser$Table", "fillSpan", "(II)V"⟩) (lw_in 723 (by decide +kernel))
    have p2 := hts (Cond.privateMethod ⟨"BitRecogniser$Table", "takeLetters", "(I)V"⟩) (lw_in 729 (by decide +kernel))
    have p3 := hts (Cond.privateMethod ⟨"BitRecogniser$Table", "takeCut", "(III)V"⟩) (lw_in 747 (by decide +kernel))
    have i1 := hts (Cond.instanceMethod ⟨"BitRecogniser$Table", "fillSpan", "(II)V"⟩) (lw_in 724 (by decide +kernel))
    have i2 := hts (Cond.instanceMethod ⟨"BitRecogniser$Table", "takeLetters", "(I)V"⟩) (lw_in 730 (by decide +kernel))
    have i3 := hts (Cond.instanceMethod ⟨"BitRecogniser$Table", "takeCut", "(III)V"⟩) (lw_in 748 (by decide +kernel))
    have hm : ("BitRecogniser$Table" : String) ≠ "java/lang/invoke/MethodHandle" ∧ ("BitRecogniser$Table" : String) ≠ "java/lang/invoke/VarHandle" := ⟨by decide, by decide⟩
    obtain ⟨C, hC, hw⟩ := List.mem_flatMap.mp hw
    obtain ⟨x, hx, rfl⟩ := List.mem_map.mp hw
    have hC : C = "BitRecogniser$Rounds" ∨ C = "BitRecogniser$Forest" ∨ C = "BitRecogniser$Nearest" := by simpa [go_pc] using hC
    have hx : x = ⟨"BitRecogniser$Table", "fillSpan", "(II)V"⟩ ∨ x = ⟨"BitRecogniser$Table", "takeLetters", "(I)V"⟩ ∨ x = ⟨"BitRecogniser$Table", "takeCut", "(III)V"⟩ := by simpa [go_px] using hx
    rcases hC with rfl | rfl | rfl <;> rcases hx with rfl | rfl | rfl
    · exact go_selP hm k1 p1 i1 hsel rfl
    · exact go_selP hm k1 p2 i2 hsel rfl
    · exact go_selP hm k1 p3 i3 hsel rfl
    · exact go_selP hm k2 p1 i1 hsel rfl
    · exact go_selP hm k2 p2 i2 hsel rfl
    · exact go_selP hm k2 p3 i3 hsel rfl
    · exact go_selP hm k3 p1 i1 hsel rfl
    · exact go_selP hm k3 p2 i2 hsel rfl
    · exact go_selP hm k3 p3 i3 hsel rfl
  · exact hts w hw
theorem go_clI : ∀ c, c < 12 → ∃ q : vw_C, go_cl[c]? = some q ∧ ∃ n, Cond.instantiable q.1 n ∈ go_tbl := by
  intro c hc
  rcases (show c = 0 ∨ c = 1 ∨ c = 2 ∨ c = 3 ∨ c = 4 ∨ c = 5 ∨ c = 6 ∨ c = 7 ∨ c = 8 ∨ c = 9 ∨ c = 10 ∨ c = 11 by omega) with q | q | q | q | q | q | q | q | q | q | q | q <;> subst q
  · exact ⟨_, rfl, 14, nx_X0⟩
  · exact ⟨_, rfl, 7, nx_X1⟩
  · exact ⟨_, rfl, 8, nx_X2⟩
  · exact ⟨_, rfl, 19, nx_X3⟩
  · exact ⟨_, rfl, 8, nx_X4⟩
  · exact ⟨_, rfl, 5, nx_X5⟩
  · exact ⟨_, rfl, 7, nx_X6⟩
  · exact ⟨_, rfl, 4, nx_X8⟩
  · exact ⟨_, rfl, 4, nx_X9⟩
  · exact ⟨_, rfl, 2, nx_X10⟩
  · exact ⟨_, rfl, 18, nx_X11⟩
  · exact ⟨_, rfl, 53, nx_X12⟩
theorem go_known {args : Array Value} {s : State} (hts : ∀ w ∈ go_tbl, w.before args s = true) : ∃ D : va_G, ∀ (c : Nat) (q : vw_C), go_cl[c]? = some q → u_Kn s q.1 q.2.1 q.2.2 (D.1 c) (D.2 c) := by
  have h : ∀ c : Nat, ∃ z : ClassId × (Nat → Nat), ∀ q : vw_C, go_cl[c]? = some q → u_Kn s q.1 q.2.1 q.2.2 z.1 z.2 := by
    intro c
    by_cases hc : c < 12
    · obtain ⟨⟨C, T, N⟩, hq, n, hn⟩ := go_clI c hc
      obtain ⟨cC, iS, hk⟩ := u_known hts (go_cf hq).1 (hts _ hn)
      exact ⟨(cC, iS), fun q h => by cases hq.symm.trans h; exact hk⟩
    · exact ⟨(0, fun _ => 0), fun q h => absurd (go_cl_lt h) hc⟩
  exact ⟨(fun c => (Classical.choose (h c)).1, fun c => (Classical.choose (h c)).2), fun c q hq => Classical.choose_spec (h c) q hq⟩
theorem lw_isN {w : Cond} (h : go_isN w = true) : w.onTables = true := by
  cases w <;> first | rfl | cases h
/-- from the entry, for every script of at most 3072 ints, the law comes to its end with true -/
theorem whole_start {p : Program} {e : Env} {s : State} {m : MethodId} {below : List Frame} {meth : Method} {c : Code} (l : Launch) (hflags : l.flags = flags0) {b L : Nat} {xs : Nat → Int32} (hL : L ≤ 3072) (C0 : lw_At p s m meth c b L xs) : W p l e room_1 s m #[Value.ref b] below meth c s.heap [] 0 0 (lw_Z below #[Value.ref b] s) (entryFrame m ([Value.ref b] : List Value).toArray 4) := by
  obtain ⟨hx, hb, hr, hml, hown, hts, hX, hbl, hlk, hgv, hnm⟩ := C0
  have hall := go_tbl_ok hts
  have hs := flat_of_before _ hgv
  obtain ⟨D, hD⟩ := go_known hall
  obtain ⟨cI, kI, oI, i1, i2, i3⟩ := Cond.arrayClass_spec (hall _ ax_int)
  obtain ⟨cL, kL, oL, l1, l2, l3⟩ := Cond.arrayClass_spec (hall _ ax_long)
  obtain ⟨cZ, kZ, oZ, z1, z2, z3⟩ := Cond.arrayClass_spec (hall _ ax_boolean)
  have hover := hts (Cond.arrayOver (.object "BitRecogniser$Told")) (lw_in 79 (by decide +kernel))
  obtain ⟨oT, cT, kT, t1, t2, t3, t4, t5⟩ := Cond.arrayOver_spec hover
  have hA : ∀ a : Nat, a < s.heap.size → ¬ (s.heap.size ≤ a) := fun a h q => by omega
  have hiniV := hts (Cond.initialized "BitRecogniser$Vocabulary") (lw_in 12 (by decide +kernel))
  obtain ⟨sB, vB, tB⟩ := va_Tof (tm := (Term.static "BitRecogniser$Vocabulary" "BEGINS" "[I")) (ty := .int) (N := 6) (f := fun j => .int (Int32.ofInt (go_BG j))) (A := fun q => s.heap.size ≤ q) (by decide) (hs (Cond.arrayOf (Term.static "BitRecogniser$Vocabulary" "BEGINS" "[I") .int) (by decide +kernel)) (va_eqt (z := 6) (hs (Cond.eq (.length (Term.static "BitRecogniser$Vocabulary" "BEGINS" "[I")) (.int 6)) (by decide +kernel))) (fun j hj => by
    rcases (show j = 0 ∨ j = 1 ∨ j = 2 ∨ j = 3 ∨ j = 4 ∨ j = 5 by omega) with q | q | q | q | q | q <;> subst q
    · exact va_eqt (z := 0) (hs (Cond.eq (.elem (Term.static "BitRecogniser$Vocabulary" "BEGINS" "[I") (.int 0)) (.int 0)) (by decide +kernel))
    · exact va_eqt (z := 0) (hs (Cond.eq (.elem (Term.static "BitRecogniser$Vocabulary" "BEGINS" "[I") (.int 1)) (.int 0)) (by decide +kernel))
    · exact va_eqt (z := 1) (hs (Cond.eq (.elem (Term.static "BitRecogniser$Vocabulary" "BEGINS" "[I") (.int 2)) (.int 1)) (by decide +kernel))
    · exact va_eqt (z := 2) (hs (Cond.eq (.elem (Term.static "BitRecogniser$Vocabulary" "BEGINS" "[I") (.int 3)) (.int 2)) (by decide +kernel))
    · exact va_eqt (z := 6) (hs (Cond.eq (.elem (Term.static "BitRecogniser$Vocabulary" "BEGINS" "[I") (.int 4)) (.int 6)) (by decide +kernel))
    · exact va_eqt (z := 27) (hs (Cond.eq (.elem (Term.static "BitRecogniser$Vocabulary" "BEGINS" "[I") (.int 5)) (.int 27)) (by decide +kernel))) hA
  obtain ⟨sS, vS, tS⟩ := va_Tof (tm := (Term.static "BitRecogniser$Vocabulary" "SIXES" "[I")) (ty := .int) (N := 5) (f := fun j => .int (Int32.ofInt (go_SX j))) (A := fun q => s.heap.size ≤ q) (by decide) (hs (Cond.arrayOf (Term.static "BitRecogniser$Vocabulary" "SIXES" "[I") .int) (by decide +kernel)) (va_eqt (z := 5) (hs (Cond.eq (.length (Term.static "BitRecogniser$Vocabulary" "SIXES" "[I")) (.int 5)) (by decide +kernel))) (fun j hj => by
    rcases (show j = 0 ∨ j = 1 ∨ j = 2 ∨ j = 3 ∨ j = 4 by omega) with q | q | q | q | q <;> subst q
    · exact va_eqt (z := 1) (hs (Cond.eq (.elem (Term.static "BitRecogniser$Vocabulary" "SIXES" "[I") (.int 0)) (.int 1)) (by decide +kernel))
    · exact va_eqt (z := 6) (hs (Cond.eq (.elem (Term.static "BitRecogniser$Vocabulary" "SIXES" "[I") (.int 1)) (.int 6)) (by decide +kernel))
    · exact va_eqt (z := 36) (hs (Cond.eq (.elem (Term.static "BitRecogniser$Vocabulary" "SIXES" "[I") (.int 2)) (.int 36)) (by decide +kernel))
    · exact va_eqt (z := 216) (hs (Cond.eq (.elem (Term.static "BitRecogniser$Vocabulary" "SIXES" "[I") (.int 3)) (.int 216)) (by decide +kernel))
    · exact va_eqt (z := 1296) (hs (Cond.eq (.elem (Term.static "BitRecogniser$Vocabulary" "SIXES" "[I") (.int 4)) (.int 1296)) (by decide +kernel))) hA
  obtain ⟨E, hE⟩ : ∃ E : go_E, E = (D, (cI, cL, cZ, cT), s.heap.size, (sB, sS, b), L, xs) := ⟨_, rfl⟩
  have hK : va_K (go_D E) go_cl (go_tys E) s := by
    subst hE
    refine ⟨hD, fun k q hq => ?_⟩
    rcases k with _ | _ | _ | _ | k
    · cases hq; exact ⟨fun n z => ⟨fun k h => (by cases h), kI, i2, oI, i3⟩, i1⟩
    · cases hq; exact ⟨fun n z => ⟨fun k h => (by cases h), kL, l2, oL, l3⟩, l1⟩
    · cases hq; exact ⟨fun n z => ⟨fun k h => (by cases h), kZ, z2, oZ, z3⟩, z1⟩
    · cases hq; exact ⟨fun n z => ⟨fun k h => (by cases h), kT, t3, oT, t4⟩, kT, oT, t3, t4, t1, t5⟩
    · simp [go_tys] at hq
  have hCX : go_CX E s := by
    refine ⟨hK, ?_⟩
    subst hE
    exact ⟨Nat.le_refl _, va_Zref (hts (Cond.laysStatic "BitRecogniser$Vocabulary" "BEGINS" "[I") (lw_in 1108 (by decide +kernel))) hiniV vB hA, va_Zref (hts (Cond.laysStatic "BitRecogniser$Vocabulary" "SIXES" "[I") (lw_in 1112 (by decide +kernel))) hiniV vS hA, tB, tS, hX, hbl, hA b hbl, fun w hw => va_Nw.of (lw_isN (List.mem_filter.mp hw).2) (hts w (List.mem_append_right _ (List.mem_filter.mp hw).1)), va_AO.of hover⟩
  have hB : go_B E p s m #[Value.ref b] meth c mx_L_law := ⟨hx, hb, hr, hml, hown, hall, hlk, hnm, hCX⟩
  have hb0 : go_b0 E = s.heap.size := by rw [hE]
  have hLE : go_L E = L := by rw [hE]
  have hsx : go_sX E = b := by rw [hE]
  have hGo := lw_go (E := E) (d := 0) (Q := fun v _ _ => v = [vv_I 1]) (by rw [hLE]; exact hL) (fun _ => rfl)
  have hl := lv_entry ([Value.ref b] : List Value) (n := 4) (Nat.le_of_ble_eq_true rfl)
  rw [lg_entry_eq]
  refine hGo p l e room_1 s m #[Value.ref b] below meth c (lw_Z below #[Value.ref b] s) s.heap [] _ hB (Nat.le_of_ble_eq_true rfl) (Nat.le_of_ble_eq_true rfl) (Nat.le_of_ble_eq_true rfl) (Nat.le_of_ble_eq_true rfl) ?_ ⟨by rw [hb0]; rfl, fun a ha => absurd ha (Nat.not_lt_zero a)⟩ va_S.rf ?_
  · intro v φ' δ' hv
    subst hv
    intro H locs ls pc hW hS hrt h1 h2
    have hd : decode code pc = .ok (.ireturn, 1) := by
      rcases hrt with ⟨h, -⟩ | ⟨x, ty, h, -, -, hd⟩ | ⟨x, h, -⟩ | ⟨w, nm, h, hw, -⟩
      · cases h
      · exact hd
      · cases h
      · rcases hw with rfl | ⟨a, rfl⟩ <;> cases h
    exact va_forget (fun q hq => by have := hS.2.2 q hq; rw [← hb0]; exact this) (W.widen (k := 600000) (n := 7302250) (Nat.le_of_ble_eq_true rfl) (Nat.le_of_ble_eq_true rfl) (lw_ret hx hb hr hlk hd))
  · have e1 : go_cl2 E [(0, vv_S 3)] = [(0, Value.ref b)] := by
      show [(0, Value.ref (go_sX E))] = _
      rw [hsx]
    rw [e1]
    exact hl
set_option maxHeartbeats 4000000 in
theorem lw_walk (l : Launch) (hflags : l.flags = flags0) (b : Addr) (xs : List Int32) : MetFree l x (headSpec (Jvm.Cond.code x code maxLocals ret :: tables_1) room_1) (lw_P b xs) (fun _ _ _ _ _ => True) lw_Q := by
  refine MetFree.of_bodyS (code := code) (maxLocals := maxLocals) (ret := ret) (by decide) ?_ ?_
  · intro args s m h hn
    obtain ⟨meth, c, h1, h2, h3, h4, h5, h6, -, -⟩ := Cond.code_spec hn (atoms_spec (ws := Jvm.Cond.code x code maxLocals ret :: tables_1) h _ List.mem_cons_self)
    exact ⟨meth, c, h1, h2, h3, h4, h5, h6⟩
  · intro p e s m args below meth c s₁ B hml0 hP _
    obtain ⟨rfl, hx, hbd, hgv⟩ := hP
    obtain ⟨scr, harrAt, hlist, hof, hsmall⟩ := hx
    obtain ⟨hcb, hkn, -, -⟩ := State.arrayAt?_spec harrAt
    have hown : s.vm.findClass R_law = some m.cls := findClass_of_methodNamed B.named
    have hts0 : ∀ c ∈ (Jvm.Cond.code x code maxLocals ret :: tables_1), c.before #[Value.ref b] s = true := atoms_spec (ws := Jvm.Cond.code x code maxLocals ret :: tables_1) B.pre
    have hts : ∀ w ∈ lw_tbl, w.before #[Value.ref b] s = true := k2_hts_sels lw_privs (fun w hw => hts0 w (List.mem_cons_of_mem _ hw)) lw_privs_ok
    have hml : c.maxLocals = 4 := B.maxLocals_eq (hts0 _ List.mem_cons_self)
    have X₀ : Stand p l e room_1 s m #[Value.ref b] below meth c s₁ [] 0 0 := Stand.of_body B
    have hh0 : s₁.heap = s.heap := by rw [B.state]; rfl
    have hsz : scr.slots.size = xs.length := by rw [← Array.length_toList, hlist, List.length_map]
    have hval : ∀ j : Nat, j < xs.length → scr.slots[j]? = some (.int (xs.getD j 0)) := fun j hj => by
      rw [← Array.getElem?_toList, hlist]
      simp [hj]
    have hbl : b < s.heap.size := (Array.getElem?_eq_some_iff.mp hcb).1
    have hX : va_X b xs.length (fun j => xs.getD j 0) s s.heap := ⟨scr, hcb, hof, hkn, hsz, hval⟩
    have K : W p l e room_1 s m #[Value.ref b] below meth c s₁.heap [] 0 0 (lw_Z below #[Value.ref b] s) (entryFrame m ([Value.ref b] : List Value).toArray 4) := by
      rw [hh0]
      exact whole_start l hflags hbd ⟨B.exec, B.bytes, B.returns, hml, hown, hts, hX, hbl, B.notSynchronized, hgv, (name_of_methodNamed B.named B.method).1⟩
    obtain ⟨t, a1, o, b1, b2, b3⟩ := K s₁ rfl X₀
    exact ⟨t, o, a1, b1, b2, b3⟩
theorem lw_pre_spec {args : Array Value} {s : State} (h : (Jvm.Cond.and given_1 narrow_1).before args s = true) (hr : rest_1_c.before args s = true) : ∃ (b : Addr) (xs : List Int32), lw_P b xs args s := by
  have hs := flat_of_before _ h
  have hq := flat_of_before _ hr
  have hc : (Cond.count 1).before args s = true := hs _ (by decide +kernel)
  have harr : (Cond.arrayOf (.arg 0) .int).before args s = true := hs _ (by decide +kernel)
  have hle : (Cond.le (.length (.arg 0)) (.int 3072)).before args s = true := hs _ (by decide +kernel)
  have hlen : (Cond.isInt (.length (.arg 0))).before args s = true := hq _ (by decide +kernel)
  have hall : (Cond.all (.arg 0) (.isInt (.elem (.arg 0) (.index 0)))).before args s = true := hq _ (by decide +kernel)
  obtain ⟨b, xs, hb, hx⟩ := State.ints_of_pre rfl harr hlen hall
  have hsm : xs.length < 2 ^ 31 := hx.choose_spec.2.2.2
  have hev : (Term.length (.arg 0)).eval args s none [] s = some (.int xs.length.toInt32) := hx.length_eval hb
  have hv := Cond.le_ints hev (show (Term.int 3072).eval args s none [] s = some (.int 3072) from rfl)
  have hd : xs.length.toInt32 ≤ 3072 := by
    simpa [Cond.before, Cond.holds, hv] using hle
  have hN : xs.length ≤ 3072 := (Int32.ofNat_le_ofNat hsm (by decide)).mp (show Int32.ofNat xs.length ≤ Int32.ofNat 3072 from hd)
  exact ⟨b, xs, Cond.one_arg hc (show args[0]? = some (.ref b) from hb), hx, hN, h⟩
theorem lw_comes (l : Launch) (hflags : l.flags = flags0) : Comes l x (Jvm.Cond.code x code maxLocals ret :: tables_1) room_1 (fun tb e args s => Calls_1 tb e args s ∧ rest_1 tb e args s ∧ Pre_1 tb e args s)
    (fun _ _ args s o t => lw_Q args s o t) := by
  intro p e ha hc hk s m args below hf hfit hheap happ hpre
  obtain ⟨b, xs, hP⟩ := lw_pre_spec hpre.2.2 hpre.2.1
  obtain ⟨k, o, h1, h2, h3, hQ⟩ := lw_walk l hflags b xs p e ha hc hk s m args below hf ((Spec.applies_iff_loose hf).mp happ).1 hP trivial
  exact ⟨k, o, h1, h2, h3, hQ⟩
theorem lw_frame {s t : State} {o : Outcome} {args : Array Value} (h : Framed s o t [] 600000 7302250) :
    Framed s o t (fieldLocs frame_1_writes args s ++ arrayLocs frame_1_arrays args s ++ staticLocs frame_1_statics s) 600000 7302250 := h
theorem lw_limb (L : Cond) (hL : ∀ (args : Array Value) (s t : State), L.after args s (.returned (some (.int 1))) t = true) :
    ArmFor flags0 classFile x code maxLocals ret World_1 tables_1 room_1 Calls_1 rest_1 Pre_1
      (fun tb e a s o t => postC L tb e a s o t ∧ Framed s o t (fieldLocs frame_1_writes a s ++ arrayLocs frame_1_arrays a s ++ staticLocs frame_1_statics s) 600000 7302250) := by
  intro l hflags _ _ p e ha hc hk s m args below hf hfit hheap happ hpre
  obtain ⟨k, o, h1, h2, h3, rfl, hF⟩ := lw_comes l hflags p e ha hc hk s m args below hf hfit hheap happ hpre
  exact ⟨k, _, h1, h2, h3, hL args s _, lw_frame hF⟩
theorem i_vc : Claimed_1_1 ∧ Claimed_1_2 := ⟨lw_limb limb_1_1 (fun args s t => by simp [limb_1_1, Cond.after, Cond.holds, Cond.value]), lw_limb limb_1_2 (fun args s t => Cond.after_iff.mpr (by
  first | (rw [show limb_1_2 = Cond.eq .result (.int 1) from rfl, Cond.eq_ints (x := 1) (y := 1) rfl rfl]; simp; done) | (simp [limb_1_2, Cond.value, Term.eval]; done)))⟩
