/-! long words with all their bits -/
section GCG
variable {E : go_E} {d : Nat} {mm : Nat × Nat} {M : go_M} {φ : go_F} {pc : Nat} {lv : List (Nat × go_V)} {st : List go_V} {δ : Nat → Nat → Int} {Q : List go_V → go_F → (Nat → Nat → Int) → Prop}
theorem go_cgL {x y : Int} (e : Int64.ofInt x = Int64.ofInt y) (k : Go E d mm M φ pc lv (vv_L y :: st) δ Q) : Go E d mm M φ pc lv (vv_L x :: st) δ Q := by
  have e2 : go_cs E (vv_L x :: st) = go_cs E (vv_L y :: st) := by
    show Value.long (Int64.ofInt x) :: _ = Value.long (Int64.ofInt y) :: _
    rw [e]
  intro p l e R s m args below meth c Z H locs ls
  rw [e2]
  exact k p l e R s m args below meth c Z H locs ls
end GCG
theorem bw_of (n : Nat) : Int64.ofInt (n : Int) = Int64.ofBitVec (BitVec.ofNat 64 n) := bt_of64 n
noncomputable def vb (P : Nat → Prop) : Int := (BitVec.ofNat 64 (mk 64 P)).toInt
theorem mk_264 (P : Nat → Prop) : mk 64 P < 18446744073709551616 := mk_lt 64 P
theorem vb_congr {P P' : Nat → Prop} (h : ∀ x, x < 64 → (P x ↔ P' x)) : vb P = vb P' := by unfold vb; rw [mk_congr h]
theorem vb_bv (P : Nat → Prop) : BitVec.ofInt 64 (vb P) = BitVec.ofNat 64 (mk 64 P) := BitVec.ofInt_toInt
theorem vb_i64 (P : Nat → Prop) : Int64.ofInt (vb P) = Int64.ofBitVec (BitVec.ofNat 64 (mk 64 P)) := by
  apply Int64.toBitVec_inj.mp
  exact vb_bv P
theorem vb_cg (P : Nat → Prop) : Int64.ofInt (vb P) = Int64.ofInt ((mk 64 P : Nat) : Int) := by rw [vb_i64, bw_of]
theorem vb_iL (P : Nat → Prop) : go_iL (vb P) := by
  have h1 := BitVec.le_toInt (BitVec.ofNat 64 (mk 64 P))
  have h2 := BitVec.toInt_lt (x := BitVec.ofNat 64 (mk 64 P))
  unfold vb
  exact ⟨by omega, by omega⟩
theorem vb_nat {P : Nat → Prop} (h : mk 64 P < 9223372036854775808) : vb P = (mk 64 P : Int) := by
  unfold vb
  rw [BitVec.toInt_eq_toNat_cond, BitVec.toNat_ofNat, Nat.mod_eq_of_lt (by omega), if_pos (by omega)]
theorem vb_z {P : Nat → Prop} : vb P = 0 ↔ ∀ k, k < 64 → ¬ P k := by
  constructor
  · intro h k hk hp
    have e : BitVec.ofNat 64 (mk 64 P) = 0 := by
      apply BitVec.eq_of_toInt_eq
      exact h
    have e2 := congrArg BitVec.toNat e
    rw [BitVec.toNat_ofNat, Nat.mod_eq_of_lt (mk_264 P)] at e2
    have := (mk_bit 64 P k).mpr ⟨hk, hp⟩
    rw [e2] at this
    simp at this
  · intro h
    unfold vb
    rw [mk_zero h]
    rfl
theorem vb_0 : (0 : Int) = vb (fun _ => False) := (vb_z.mpr (fun _ _ q => q)).symm
theorem i64b (a b : BitVec 64) (h : a.toNat = b.toNat) : (Int64.ofBitVec a).toInt = b.toInt := congrArg BitVec.toInt (BitVec.eq_of_toNat_eq h)
theorem vb_or (P P' : Nat → Prop) : bw_or (vb P) (vb P') = vb (fun k => P k ∨ P' k) := by
  unfold bw_or
  rw [vb_i64, vb_i64, show Int64.ofBitVec (BitVec.ofNat 64 (mk 64 P)) ||| Int64.ofBitVec (BitVec.ofNat 64 (mk 64 P')) = Int64.ofBitVec (BitVec.ofNat 64 (mk 64 P) ||| BitVec.ofNat 64 (mk 64 P')) from rfl]
  refine i64b _ _ ?_
  rw [BitVec.toNat_or, BitVec.toNat_ofNat, BitVec.toNat_ofNat, BitVec.toNat_ofNat, Nat.mod_eq_of_lt (mk_264 _), Nat.mod_eq_of_lt (mk_264 _), Nat.mod_eq_of_lt (mk_264 _)]
  refine mk_eq (Nat.or_lt_two_pow (mk_lt 64 _) (mk_lt 64 _)) (fun x hx => ?_)
  rw [bt_orb, mk_bit, mk_bit]
  exact ⟨fun q => q.imp (fun w => w.2) (fun w => w.2), fun q => q.imp (fun w => ⟨hx, w⟩) (fun w => ⟨hx, w⟩)⟩
theorem vb_ushr (P : Nat → Prop) {s : Nat} (hs : s < 64) : bw_ushr (vb P) (s : Int) = vb (fun k => k + s < 64 ∧ P (k + s)) := by
  rw [bw_ushrB hs, vb_bv]
  refine i64b _ _ ?_
  rw [BitVec.toNat_ushiftRight, BitVec.toNat_ofNat, BitVec.toNat_ofNat, Nat.mod_eq_of_lt (mk_264 _), Nat.mod_eq_of_lt (mk_264 _)]
  refine mk_eq (Nat.lt_of_le_of_lt (by rw [Nat.shiftRight_eq_div_pow]; exact Nat.div_le_self _ _) (mk_lt 64 P)) (fun x hx => ?_)
  rw [Nat.testBit_shiftRight, mk_bit, Nat.add_comm s x]
theorem vb_shl (P : Nat → Prop) {s : Nat} (hs : s < 64) : bw_shl (vb P) (s : Int) = vb (fun k => s ≤ k ∧ P (k - s)) := by
  unfold bw_shl
  rw [bt_amt64 hs, vb_i64]
  have e2 : Int64.ofBitVec (BitVec.ofNat 64 (mk 64 P)) <<< Int64.ofBitVec (BitVec.ofNat 64 s) = Int64.ofBitVec (BitVec.ofNat 64 (mk 64 P) <<< s) := by
    apply Int64.toBitVec_inj.mp
    rw [Int64.toBitVec_shiftLeft]
    show BitVec.ofNat 64 (mk 64 P) <<< (BitVec.smod (BitVec.ofNat 64 s) 64) = _
    rw [bt_smod64 s hs]
    show BitVec.ofNat 64 (mk 64 P) <<< (BitVec.ofNat 64 s).toNat = _
    rw [BitVec.toNat_ofNat, Nat.mod_eq_of_lt (by omega)]
    rfl
  rw [e2]
  refine i64b _ _ ?_
  rw [BitVec.toNat_shiftLeft, BitVec.toNat_ofNat, BitVec.toNat_ofNat, Nat.mod_eq_of_lt (mk_264 _), Nat.mod_eq_of_lt (mk_264 _)]
  refine mk_eq (Nat.mod_lt _ (Nat.two_pow_pos 64)) (fun x hx => ?_)
  rw [Nat.testBit_mod_two_pow, Nat.testBit_shiftLeft]
  simp only [hx, decide_true, Bool.true_and, Bool.and_eq_true, decide_eq_true_eq]
  rw [mk_bit]
  exact ⟨fun q => ⟨q.1, q.2.2⟩, fun q => ⟨q.1, by omega, q.2⟩⟩
theorem vb_one {x : Nat} (hx : x < 63) : ((2 ^ x : Nat) : Int) = vb (fun k => k = x) := by
  have e : (2 ^ x : Nat) = mk 64 (fun k => k = x) := (mk_one (show x < 64 by omega)).trans (mk_congr (fun k _ => ⟨fun q => q.symm, fun q => q.symm⟩))
  have h := bt_p63 hx (Nat.le_refl 63)
  rw [vb_nat (by rw [← e]; exact h), ← e]
theorem vb_tst (P : Nat → Prop) {s : Nat} (hs : s < 64) : bw_and (bw_ushr (vb P) (s : Int)) 1 = b01 (P s) := by
  rw [vb_ushr P hs]
  unfold bw_and
  rw [vb_i64, show (1 : Int) = ((1 : Nat) : Int) from rfl, bw_of, show ∀ a b : BitVec 64, Int64.ofBitVec a &&& Int64.ofBitVec b = Int64.ofBitVec (a &&& b) from fun _ _ => rfl]
  have e : (BitVec.ofNat 64 (mk 64 (fun k => k + s < 64 ∧ P (k + s))) &&& BitVec.ofNat 64 1).toNat = mk 64 (fun k => k + s < 64 ∧ P (k + s)) % 2 := by
    rw [BitVec.toNat_and, BitVec.toNat_ofNat, BitVec.toNat_ofNat, Nat.mod_eq_of_lt (mk_264 _), show (1 : Nat) % 2 ^ 64 = 1 from rfl, Nat.and_one_is_mod]
  have hb : (mk 64 (fun k => k + s < 64 ∧ P (k + s))).testBit 0 = true ↔ P s := by
    rw [mk_bit, Nat.zero_add]
    exact ⟨fun q => q.2.2, fun q => ⟨by decide, hs, q⟩⟩
  rw [Nat.testBit_zero, decide_eq_true_eq] at hb
  rw [bt_i64 _ (by rw [e]; omega), e]
  by_cases q : P s
  · rw [b01_t q, hb.mpr q]; rfl
  · rw [b01_f q]
    have : ¬ mk 64 (fun k => k + s < 64 ∧ P (k + s)) % 2 = 1 := fun w => q (hb.mp w)
    omega
/-- and, with bits up to the last -/
theorem bw_andU {m n : Nat} (hm : m < 18446744073709551616) (hn : n < 9223372036854775808) : bw_and m n = ((m &&& n : Nat) : Int) := by
  have hlt : m &&& n < 9223372036854775808 := Nat.lt_of_le_of_lt Nat.and_le_right hn
  unfold bw_and
  rw [bw_of, bw_of, show Int64.ofBitVec (BitVec.ofNat 64 m) &&& Int64.ofBitVec (BitVec.ofNat 64 n) = Int64.ofBitVec (BitVec.ofNat 64 m &&& BitVec.ofNat 64 n) from rfl]
  have e : (BitVec.ofNat 64 m &&& BitVec.ofNat 64 n).toNat = m &&& n := by
    rw [BitVec.toNat_and, BitVec.toNat_ofNat, BitVec.toNat_ofNat, Nat.mod_eq_of_lt (by omega), Nat.mod_eq_of_lt (by omega)]
  rw [bt_i64 _ (by rw [e]; exact hlt), e]
theorem bw_ushrU {m k : Nat} (hm : m < 18446744073709551616) (hk : k < 64) (h1 : 1 ≤ k) : bw_ushr m k = ((m / 2 ^ k : Nat) : Int) := by
  rw [bw_ushrB hk]
  have e : ((BitVec.ofInt 64 (m : Int)) >>> k).toNat = m / 2 ^ k := by
    rw [BitVec.toNat_ushiftRight, BitVec.toNat_ofInt, Nat.shiftRight_eq_div_pow]
    congr 1
    omega
  have hle : m / 2 ^ k ≤ m / 2 ^ 1 := Nat.div_le_div_left (Nat.pow_le_pow_right (by decide) h1) (by decide)
  rw [bt_i64 _ (by rw [e]; omega), e]
