/-! the reference's calls: spans, pieces, copy, count -/
def pf (v : Int) : Int := if v = -1 then 268435456 else v
theorem pf_m : pf (-1) = 268435456 := if_pos rfl
theorem pf_n {v : Int} (h : v ≠ -1) : pf v = v := if_neg h
theorem pf_rng {v : Int} (h : -1 ≤ v ∧ v ≤ 14) : 0 ≤ pf v ∧ pf v ≤ 268435456 := by unfold pf; split <;> omega
section GMCE
variable {E : go_E} {d : Nat} {δ : Nat → Nat → Int} {Q : List go_V → go_F → (Nat → Nat → Int) → Prop} {S : sS} {K : sK}
theorem m_spans {x q : Int} (hx : go_iI x) (hq : go_iI q) (h : mx_at δ S) (hQ : ∀ δ', mx_at δ' S → fl δ δ' → Q [vv_I (oq_spans S.1 x q)] go_φ δ') : Go E (d + 4) (0, 0) mx_X12_spans go_φ 0 [(0, vv_A 94), (1, vv_I x), (2, vv_I q)] [] δ Q := by
  refine go_aload_n (i := 0) dx_X12_spans_0 rfl rfl ?_
  refine go_iconst dx_X12_spans_1 ?_
  refine go_putI fp_X12_139 rfl rfl (go_ok rfl rfl) dx_X12_spans_2 ?_
  have h := mx_thr (v := 0) h
  have f0 : fl δ (wr δ 94 0 0) := fl_thr
  generalize wr δ 94 0 0 = δ0 at h f0 ⊢
  have hQ := fun δ' a (b : fl δ0 δ') => hQ δ' a (fl_tr f0 b)
  have hsc := @mx_of δ0 S h
  have hb := h.1.1
  have hlaid := h.2
  have ho := bo_of hb
  have hR := ho.1
  have h14 := hb.2.2.2.2.2.2.2.2.1
  have hns := nsy_le hR
  unfold oq_spans isy at hQ
  rw [nsy_eq] at hQ hns
  refine go_aload_n (i := 0) dx_X12_spans_5 rfl rfl ?_
  refine go_iload_n (i := 1) dx_X12_spans_6 rfl rfl ?_
  refine go_cV1 sv_X12_235 (go_ok rfl rfl) dx_X12_spans_7 (Nat.le_of_ble_eq_true rfl) (Nat.le_of_ble_eq_true rfl) (m_isAny hx ho (fun δ2 q1 f1 => ?_))
  refine go_b_eq (tgt := 25) dx_X12_spans_10 rfl (fun c10 => ?_) (fun c10 => ?_)
  · obtain ⟨a1, b1⟩ := hsc (δ' := δ2) (fun c j hc => f1 c j (by unfold mqP; unfold sc at hc; omega)) (ml_fr hlaid (fun c j hc => f1 c j (by unfold mqP; omega)))
    have hQ := hQ δ2 a1 b1
    rw [cif_f (fun q => c10 q.1)] at hQ
    refine go_bipush dx_X12_spans_25 rfl ?_
    refine go_ireturn dx_X12_spans_27 rfl (Nat.le_refl _) (Nat.le_refl _) ?_
    exact hQ
  · have hb2 : bk_at δ2 95 0 S.1 := bk_fr hb (fun j => f1 95 j (by unfold mqP; omega))
    have hlaid2 : ml_at δ2 S.1 := ml_fr hlaid (fun c j hc => f1 c j (by unfold mqP; omega))
    have fr2 : ∀ c j, ¬ sc c j → δ2 c j = δ0 c j := fun c j hc => by unfold sc at hc; rw [f1 c j (by unfold mqP; omega)]
    refine go_iload_n (i := 2) dx_X12_spans_13 rfl rfl ?_
    refine go_i2l dx_X12_spans_14 (by omega) ?_
    refine go_lconst (x := 0) dx_X12_spans_15 rfl ?_
    refine go_ldc2 (x := 2) kx_X12_286 dx_X12_spans_16 ?_
    refine go_cS3 ss_X12_144 dx_X12_spans_19 (Nat.le_of_ble_eq_true rfl) (Nat.le_of_ble_eq_true rfl) (m_within (by omega) (by omega) (by omega) (fun p1 p2 => ?_) (fun p1 => ?_))
    · refine go_if_ne (tgt := 28) dx_X12_spans_22 rfl (by omega) (fun c22 => ?_) (fun c22 => absurd c22 (by decide))
      obtain ⟨p, rfl⟩ : ∃ p : Nat, x = (p : Int) := ⟨x.toNat, by omega⟩
      refine go_aload_n (i := 0) dx_X12_spans_28 rfl rfl ?_
      refine go_cV0 sv_X12_265 (go_ok rfl rfl) dx_X12_spans_29 (Nat.le_of_ble_eq_true rfl) (Nat.le_of_ble_eq_true rfl) (m_lays hb2 hlaid2 (fun δ3 w1 w2 w3 w4 f3 => ?_))
      obtain ⟨a1, b1⟩ := hsc (δ' := δ3) (fun c j hc => by have := fr2 c j hc; unfold sc at hc; rw [f3 c j (by unfold mfP mqP; omega) (by omega) (by omega), this]) (ml_1 w1 w2 w3)
      have hb3 : bk_at δ3 95 0 S.1 := bk_fr hb2 (fun j => f3 95 j (by unfold mfP mqP; omega) (by decide) (by omega))
      have hQ := hQ δ3 a1 b1
      rw [cif_t ⟨c10, p1, p2⟩, Int.toNat_natCast] at hQ
      have hcl : ∀ i, cn (S.1.2.2.length + 1) (fun j => dK S.1 p i j) ≤ S.1.2.2.length + 1 := fun i => cn_le _ _
      have hsl : ∀ i, i ≤ S.1.2.2.length → su i (fun i => cn (S.1.2.2.length + 1) (fun j => dK S.1 p i j)) ≤ i * 15 := fun i hi => by
        have := su_le (n := i) (f := fun i => cn (S.1.2.2.length + 1) (fun j => dK S.1 p i j)) (g := fun _ => 15) (fun z _ => by have := hcl z; show cn _ _ ≤ 15; omega)
        rw [su_const] at this
        exact this
      have outer := lp_up (X := Unit) (hi := S.1.2.2.length) (I := fun _ _ => True)
        (G := fun i _ => ∀ lv0, lv0 = [(0, vv_A 94), (1, vv_I (p : Int)), (2, vv_I q), (3, vv_I (su i (fun i => cn (S.1.2.2.length + 1) (fun j => dK S.1 p i j)) : Int)), (4, vv_I ((spf S.1 p i).1 : Int)), (5, vv_I (spf S.1 p i).2), (6, vv_I (i : Int))] → Go E (d + 4) (0, 0) mx_X12_spans go_φ 43 lv0 [] δ3 Q)
        (fun i _ hi _ ih lv0 e0 => by
          subst e0
          obtain ⟨L, eL⟩ : ∃ L, L = (spf S.1 p i).1 := ⟨_, rfl⟩
          obtain ⟨B, eB⟩ : ∃ B, B = (spf S.1 p i).2 := ⟨_, rfl⟩
          obtain ⟨C, eC⟩ : ∃ C, C = su i (fun i => cn (S.1.2.2.length + 1) (fun j => dK S.1 p i j)) := ⟨_, rfl⟩
          have hC := hsl i (by omega)
          rw [← eC] at hC
          have hrng := spf_rng S.1 p i (by omega)
          rw [← eL, ← eB] at hrng
          have eLB : spf S.1 p i = (L, B) := by rw [eL, eB]
          have es : spf S.1 p (i + 1) = spu (L, B) i (hib (fun j => dK S.1 p i j) (S.1.2.2.length + 1)) := by rw [spf_s, eLB]
          have ec : su (i + 1) (fun i => cn (S.1.2.2.length + 1) (fun j => dK S.1 p i j)) = C + cn (S.1.2.2.length + 1) (fun j => dK S.1 p i j) := by rw [su_s, eC]
          have ih := ih () trivial
          rw [es, ec] at ih
          rw [← eL, ← eB, ← eC]
          have inner := lp_up (X := Unit) (hi := S.1.2.2.length - i) (I := fun _ _ => True)
            (G := fun k _ => ∀ lv0, lv0 = [(0, vv_A 94), (1, vv_I (p : Int)), (2, vv_I q), (3, vv_I ((C + cn (i + 1 + k) (fun j => dK S.1 p i j) : Nat) : Int)), (4, vv_I ((spu (L, B) i (hib (fun j => dK S.1 p i j) (i + 1 + k))).1 : Int)), (5, vv_I (spu (L, B) i (hib (fun j => dK S.1 p i j) (i + 1 + k))).2), (6, vv_I (i : Int)), (7, vv_I ((i + 1 + k : Nat) : Int))] → Go E (d + 4) (0, 0) mx_X12_spans go_φ 58 lv0 [] δ3 Q)
            (fun k _ hk _ ih2 lv0 e0 => by
              subst e0
              have ih2 := ih2 () trivial
              rw [show i + 1 + (k + 1) = i + 1 + k + 1 by omega] at ih2
              have hlt := hib_lt (fun j => dK S.1 p i j) (i + 1 + k)
              have hcl := cn_le (i + 1 + k) (fun j => dK S.1 p i j)
              obtain ⟨H, eH⟩ : ∃ H, H = hib (fun j => dK S.1 p i j) (i + 1 + k) := ⟨_, rfl⟩
              obtain ⟨N, eN⟩ : ∃ N, N = cn (i + 1 + k) (fun j => dK S.1 p i j) := ⟨_, rfl⟩
              rw [← eH] at hlt
              rw [← eN] at hcl
              rw [← eH, ← eN]
              have hs1 : ((spu (L, B) i H).1 : Int) = if L < H - i then ((H - i : Nat) : Int) else (L : Int) := by unfold spu; split <;> rfl
              have hs2 : (spu (L, B) i H).2 = if L < H - i then (i : Int) else B := by unfold spu; split <;> rfl
              have hr1 : ((spu (L, B) i H).1 : Int) ≤ 14 := by rw [hs1]; split <;> omega
              by_cases hd : dK S.1 p i (i + 1 + k)
              · rw [hib_t (P := fun j => dK S.1 p i j) hd, cn_st (P := fun j => dK S.1 p i j) hd, ← eN] at ih2
                refine go_iload dx_X12_spans_58 rfl ?_
                refine go_aload_n (i := 0) dx_X12_spans_60 rfl rfl ?_
                refine go_cV0 sv_X12_253 (go_ok rfl rfl) dx_X12_spans_61 (Nat.le_of_ble_eq_true rfl) (Nat.le_of_ble_eq_true rfl) (m_letters hb3 ?_)
                refine go_icmp_gt (tgt := 115) dx_X12_spans_64 rfl (by omega) (by omega) (fun c64 => by exact absurd c64 (by omega)) (fun c64 => ?_)
                refine go_aload_n (i := 0) dx_X12_spans_67 rfl rfl ?_
                refine go_iload_n (i := 1) dx_X12_spans_68 rfl rfl ?_
                refine go_iload dx_X12_spans_69 rfl ?_
                refine go_iload dx_X12_spans_71 rfl ?_
                refine go_cV3 sv_X12_268 (go_ok rfl rfl) dx_X12_spans_73 (Nat.le_of_ble_eq_true rfl) (Nat.le_of_ble_eq_true rfl) (m_doesDerive hR w3 (by omega) (by omega) (by omega) (by omega) ?_)
                refine go_b_ne (tgt := 82) dx_X12_spans_76 rfl (fun c76 => ?_) (fun c76 => by exact absurd hd c76)
                refine go_iinc (lv' := [(0, vv_A 94), (1, vv_I (p : Int)), (2, vv_I q), (3, vv_I (((C + N : Nat) : Int) + 1)), (4, vv_I ((spu (L, B) i H).1 : Int)), (5, vv_I (spu (L, B) i H).2), (6, vv_I (i : Int)), (7, vv_I ((i + 1 + k : Nat) : Int))]) dx_X12_spans_82 rfl (by decide) rfl ?_
                refine go_iload dx_X12_spans_85 rfl ?_
                refine go_iload dx_X12_spans_87 rfl ?_
                refine go_isub dx_X12_spans_89 ?_
                refine go_iload dx_X12_spans_90 rfl ?_
                refine go_icmp_gt (tgt := 98) dx_X12_spans_92 rfl (by omega) (by omega) (fun c92 => ?_) (fun c92 => ?_)
                · refine go_iload dx_X12_spans_98 rfl ?_
                  refine go_iload dx_X12_spans_100 rfl ?_
                  refine go_isub dx_X12_spans_102 ?_
                  refine go_asI (y := ((i + 1 + k - i : Nat) : Int)) (by omega) ?_
                  refine go_istore (lv' := [(0, vv_A 94), (1, vv_I (p : Int)), (2, vv_I q), (3, vv_I (((C + N : Nat) : Int) + 1)), (4, vv_I ((i + 1 + k - i : Nat) : Int)), (5, vv_I (spu (L, B) i H).2), (6, vv_I (i : Int)), (7, vv_I ((i + 1 + k : Nat) : Int))]) dx_X12_spans_103 (by decide) rfl ?_
                  refine go_iload dx_X12_spans_105 rfl ?_
                  refine go_istore (lv' := [(0, vv_A 94), (1, vv_I (p : Int)), (2, vv_I q), (3, vv_I (((C + N : Nat) : Int) + 1)), (4, vv_I ((i + 1 + k - i : Nat) : Int)), (5, vv_I (i : Int)), (6, vv_I (i : Int)), (7, vv_I ((i + 1 + k : Nat) : Int))]) dx_X12_spans_107 (by decide) rfl ?_
                  refine go_iinc (lv' := [(0, vv_A 94), (1, vv_I (p : Int)), (2, vv_I q), (3, vv_I (((C + N : Nat) : Int) + 1)), (4, vv_I ((i + 1 + k - i : Nat) : Int)), (5, vv_I (i : Int)), (6, vv_I (i : Int)), (7, vv_I (((i + 1 + k : Nat) : Int) + 1))]) dx_X12_spans_109 rfl (by decide) rfl ?_
                  refine go_goto (tgt := 58) dx_X12_spans_112 rfl ?_
                  rw [hs1] at c92
                  have e : spu (L, B) i (i + 1 + k) = (i + 1 + k - i, (i : Int)) := if_pos (show L < i + 1 + k - i by split at c92 <;> omega)
                  rw [e] at ih2
                  exact ih2 _ rfl
                · refine go_goto (tgt := 109) dx_X12_spans_95 rfl ?_
                  refine go_iinc (lv' := [(0, vv_A 94), (1, vv_I (p : Int)), (2, vv_I q), (3, vv_I (((C + N : Nat) : Int) + 1)), (4, vv_I ((spu (L, B) i H).1 : Int)), (5, vv_I (spu (L, B) i H).2), (6, vv_I (i : Int)), (7, vv_I (((i + 1 + k : Nat) : Int) + 1))]) dx_X12_spans_109 rfl (by decide) rfl ?_
                  refine go_goto (tgt := 58) dx_X12_spans_112 rfl ?_
                  rw [hs1] at c92
                  have e : spu (L, B) i (i + 1 + k) = spu (L, B) i H := by
                    unfold spu
                    by_cases z : L < H - i
                    · rw [if_pos z] at c92; omega
                    · rw [if_neg z] at c92; rw [if_neg z, if_neg (by dsimp only; omega)]
                  rw [e] at ih2
                  exact ih2 _ rfl
              · rw [hib_f (P := fun j => dK S.1 p i j) hd, cn_sf (P := fun j => dK S.1 p i j) hd, ← eN, ← eH] at ih2
                refine go_iload dx_X12_spans_58 rfl ?_
                refine go_aload_n (i := 0) dx_X12_spans_60 rfl rfl ?_
                refine go_cV0 sv_X12_253 (go_ok rfl rfl) dx_X12_spans_61 (Nat.le_of_ble_eq_true rfl) (Nat.le_of_ble_eq_true rfl) (m_letters hb3 ?_)
                refine go_icmp_gt (tgt := 115) dx_X12_spans_64 rfl (by omega) (by omega) (fun c64 => by exact absurd c64 (by omega)) (fun c64 => ?_)
                refine go_aload_n (i := 0) dx_X12_spans_67 rfl rfl ?_
                refine go_iload_n (i := 1) dx_X12_spans_68 rfl rfl ?_
                refine go_iload dx_X12_spans_69 rfl ?_
                refine go_iload dx_X12_spans_71 rfl ?_
                refine go_cV3 sv_X12_268 (go_ok rfl rfl) dx_X12_spans_73 (Nat.le_of_ble_eq_true rfl) (Nat.le_of_ble_eq_true rfl) (m_doesDerive hR w3 (by omega) (by omega) (by omega) (by omega) ?_)
                refine go_b_ne (tgt := 82) dx_X12_spans_76 rfl (fun c76 => by exact absurd c76 hd) (fun c76 => ?_)
                refine go_goto (tgt := 109) dx_X12_spans_79 rfl ?_
                refine go_iinc (lv' := [(0, vv_A 94), (1, vv_I (p : Int)), (2, vv_I q), (3, vv_I ((C + N : Nat) : Int)), (4, vv_I ((spu (L, B) i H).1 : Int)), (5, vv_I (spu (L, B) i H).2), (6, vv_I (i : Int)), (7, vv_I (((i + 1 + k : Nat) : Int) + 1))]) dx_X12_spans_109 rfl (by decide) rfl ?_
                refine go_goto (tgt := 58) dx_X12_spans_112 rfl ?_
                exact ih2 _ rfl
            ) (fun _ _ lv0 e0 => by
              subst e0
              rw [show i + 1 + (S.1.2.2.length - i) = S.1.2.2.length + 1 by omega]
              refine go_iload dx_X12_spans_58 rfl ?_
              refine go_aload_n (i := 0) dx_X12_spans_60 rfl rfl ?_
              refine go_cV0 sv_X12_253 (go_ok rfl rfl) dx_X12_spans_61 (Nat.le_of_ble_eq_true rfl) (Nat.le_of_ble_eq_true rfl) (m_letters hb3 ?_)
              refine go_icmp_gt (tgt := 115) dx_X12_spans_64 rfl (by omega) (by omega) (fun c64 => ?_) (fun c64 => by exact absurd c64 (by omega))
              refine go_iinc (lv' := [(0, vv_A 94), (1, vv_I (p : Int)), (2, vv_I q), (3, vv_I ((C + cn (S.1.2.2.length + 1) (fun j => dK S.1 p i j) : Nat) : Int)), (4, vv_I ((spu (L, B) i (hib (fun j => dK S.1 p i j) (S.1.2.2.length + 1))).1 : Int)), (5, vv_I (spu (L, B) i (hib (fun j => dK S.1 p i j) (S.1.2.2.length + 1))).2), (6, vv_I ((i : Int) + 1)), (7, vv_I ((S.1.2.2.length + 1 : Nat) : Int))]) dx_X12_spans_115 rfl (by decide) rfl ?_
              refine go_goto (tgt := 43) dx_X12_spans_118 rfl ?_
              refine go_keep [0, 1, 2, 3, 4, 5, 6] rfl ?_
              exact ih _ rfl
            )
          refine go_iload dx_X12_spans_43 rfl ?_
          refine go_aload_n (i := 0) dx_X12_spans_45 rfl rfl ?_
          refine go_cV0 sv_X12_253 (go_ok rfl rfl) dx_X12_spans_46 (Nat.le_of_ble_eq_true rfl) (Nat.le_of_ble_eq_true rfl) (m_letters hb3 ?_)
          refine go_icmp_ge (tgt := 121) dx_X12_spans_49 rfl (by omega) (by omega) (fun c49 => by exact absurd c49 (by omega)) (fun c49 => ?_)
          refine go_iload dx_X12_spans_52 rfl ?_
          refine go_iconst dx_X12_spans_54 ?_
          refine go_iadd dx_X12_spans_55 ?_
          refine go_istore (lv' := [(0, vv_A 94), (1, vv_I (p : Int)), (2, vv_I q), (3, vv_I (C : Int)), (4, vv_I (L : Int)), (5, vv_I B), (6, vv_I (i : Int)), (7, vv_I ((i + 1 + 0 : Nat) : Int))]) dx_X12_spans_56 (by decide) rfl ?_
          have k := inner 0 () (Nat.zero_le _) trivial _ rfl
          have z1 : cn (i + 1 + 0) (fun j => dK S.1 p i j) = 0 := cn_0 (fun j hj z => by have := dp_lt z; omega)
          have z2 : hib (fun j => dK S.1 p i j) (i + 1 + 0) = 0 := hib_0 (fun j hj z => by have := dp_lt z; omega)
          have z3 : spu (L, B) i 0 = (L, B) := if_neg (show ¬ L < 0 - i by omega)
          rw [z1, z2, z3] at k
          exact k
        ) (fun _ _ lv0 e0 => by
          subst e0
          refine go_iload dx_X12_spans_43 rfl ?_
          refine go_aload_n (i := 0) dx_X12_spans_45 rfl rfl ?_
          refine go_cV0 sv_X12_253 (go_ok rfl rfl) dx_X12_spans_46 (Nat.le_of_ble_eq_true rfl) (Nat.le_of_ble_eq_true rfl) (m_letters hb3 ?_)
          refine go_icmp_ge (tgt := 121) dx_X12_spans_49 rfl (by omega) (by omega) (fun c49 => ?_) (fun c49 => by exact absurd c49 (by omega))
          refine go_iload_n (i := 2) dx_X12_spans_121 rfl rfl ?_
          refine go_if_ne (tgt := 129) dx_X12_spans_122 rfl (by omega) (fun c122 => ?_) (fun c122 => ?_)
          · refine go_iload_n (i := 2) dx_X12_spans_129 rfl rfl ?_
            refine go_iconst dx_X12_spans_130 ?_
            refine go_icmp_ne (tgt := 139) dx_X12_spans_131 rfl (by omega) (by omega) (fun c131 => ?_) (fun c131 => ?_)
            · refine go_iload dx_X12_spans_139 rfl ?_
              refine go_ireturn dx_X12_spans_141 rfl (Nat.le_refl _) (Nat.le_refl _) ?_
              first | (rw [if_pos (by omega)] at hQ; exact hQ) | (rw [if_neg (by omega), if_pos (by omega)] at hQ; exact hQ) | (rw [if_neg (by omega), if_neg (by omega)] at hQ; exact hQ)
            · refine go_iload dx_X12_spans_134 rfl ?_
              refine go_goto (tgt := 141) dx_X12_spans_136 rfl ?_
              refine go_ireturn dx_X12_spans_141 rfl (Nat.le_refl _) (Nat.le_refl _) ?_
              first | (rw [if_pos (by omega)] at hQ; exact hQ) | (rw [if_neg (by omega), if_pos (by omega)] at hQ; exact hQ) | (rw [if_neg (by omega), if_neg (by omega)] at hQ; exact hQ)
          · refine go_iload_n (i := 3) dx_X12_spans_125 rfl rfl ?_
            refine go_goto (tgt := 141) dx_X12_spans_126 rfl ?_
            refine go_ireturn dx_X12_spans_141 rfl (Nat.le_refl _) (Nat.le_refl _) ?_
            first | (rw [if_pos (by omega)] at hQ; exact hQ) | (rw [if_neg (by omega), if_pos (by omega)] at hQ; exact hQ) | (rw [if_neg (by omega), if_neg (by omega)] at hQ; exact hQ)
        )
      refine go_iconst dx_X12_spans_32 ?_
      refine go_istore_n (i := 3) (lv' := [(0, vv_A 94), (1, vv_I (p : Int)), (2, vv_I q), (3, vv_I 0)]) dx_X12_spans_33 rfl (by decide) rfl ?_
      refine go_iconst dx_X12_spans_34 ?_
      refine go_istore (lv' := [(0, vv_A 94), (1, vv_I (p : Int)), (2, vv_I q), (3, vv_I 0), (4, vv_I 0)]) dx_X12_spans_35 (by decide) rfl ?_
      refine go_iconst dx_X12_spans_37 ?_
      refine go_istore (lv' := [(0, vv_A 94), (1, vv_I (p : Int)), (2, vv_I q), (3, vv_I 0), (4, vv_I 0), (5, vv_I (-1))]) dx_X12_spans_38 (by decide) rfl ?_
      refine go_iconst dx_X12_spans_40 ?_
      refine go_istore (lv' := [(0, vv_A 94), (1, vv_I (p : Int)), (2, vv_I q), (3, vv_I 0), (4, vv_I 0), (5, vv_I (-1)), (6, vv_I 0)]) dx_X12_spans_41 (by decide) rfl ?_
      exact outer 0 () (Nat.zero_le _) trivial _ rfl
    · refine go_if_ne (tgt := 28) dx_X12_spans_22 rfl (by omega) (fun c22 => absurd c22 (by decide)) (fun c22 => ?_)
      refine go_bipush dx_X12_spans_25 rfl ?_
      refine go_ireturn dx_X12_spans_27 rfl (Nat.le_refl _) (Nat.le_refl _) ?_
      obtain ⟨a1, b1⟩ := hsc (δ' := δ2) fr2 hlaid2
      have hQ := hQ δ2 a1 b1
      rw [cif_f (fun q => p1 q.2)] at hQ
      exact hQ
theorem m_count {q : Int} (hq : go_iI q) (h : mx_at δ S) (hQ : ∀ δ', mx_at δ' S → fl δ δ' → Q [vv_I (oq_count S q)] go_φ δ') : Go E (d + 3) (0, 0) mx_X12_count go_φ 0 [(0, vv_A 94), (1, vv_I q)] [] δ Q := by
  refine go_aload_n (i := 0) dx_X12_count_0 rfl rfl ?_
  refine go_iconst dx_X12_count_1 ?_
  refine go_putI fp_X12_139 rfl rfl (go_ok rfl rfl) dx_X12_count_2 ?_
  have h := mx_thr (v := 0) h
  have f0 : fl δ (wr δ 94 0 0) := fl_thr
  generalize wr δ 94 0 0 = δ0 at h f0 ⊢
  have hQ := fun δ' a (b : fl δ0 δ') => hQ δ' a (fl_tr f0 b)
  have hsc := @mx_of δ0 S h
  have hb := h.1.1
  have hlaid := h.2
  have ho := bo_of hb
  have hR := ho.1
  have l95 : go_ln 95 = 384 := rfl
  have hms := h.1
  have e112 : δ0 95 112 = (S.1.2.1 : Int) := by have := hb.2.1; rwa [Nat.zero_add] at this
  have e3 : δ0 94 3 = (S.2.2.2.1.length : Int) := hms.2.2.1.2.1
  have e6 : δ0 94 6 = (S.2.1.length : Int) := hms.2.1.2.1
  have hQ0 := hQ δ0 h fl_rf
  unfold oq_count at hQ0
  have hul : ∀ n, ucp S.1.1 n ≤ n := fun n => cn_le n _
  have loop := lp_up (X := Unit) (hi := 16) (I := fun _ _ => True)
    (G := fun r _ => ∀ lv0, lv0 = [(0, vv_A 94), (1, vv_I q), (2, vv_I (rl_bits S.1.1 r : Int)), (3, vv_I (ucp S.1.1 r : Int)), (4, vv_I (r : Int))] → Go E (d + 3) (0, 0) mx_X12_count go_φ 12 lv0 [] δ0 Q)
    (fun r _ hr _ ih lv0 e0 => by
      subst e0
      have ih := ih () trivial
      have hok := hR r
      have hlen := hok.len
      have hbl := rl_bits_lt31 S.1.1 (n := r) (by omega)
      have hu := hul r
      have hne : (S.1.1 r).length - 1 = 0 ↔ S.1.1 r = [] := by
        rcases hok with z | ⟨z, _⟩
        · rw [z]; exact ⟨fun _ => rfl, fun _ => rfl⟩
        · exact ⟨fun w => by omega, fun w => by rw [w] at z; simp at z⟩
      have hb1 : ((rl_bits S.1.1 (r + 1) : Nat) : Int) = bv_or (rl_bits S.1.1 r : Int) (if S.1.1 r = [] then 0 else ((2 ^ r : Nat) : Int)) := by
        show ((rl_bits S.1.1 r ||| (if S.1.1 r = [] then 0 else 2 ^ r) : Nat) : Int) = _
        by_cases z : S.1.1 r = []
        · rw [if_pos z, if_pos z, Nat.or_zero, bv_or_0 (by omega)]
        · rw [if_neg z, if_neg z, bv_orN (by omega) (bt_p31 hr (by decide))]
      have hu1 : (ucp S.1.1 (r + 1) : Int) = (ucp S.1.1 r : Int) + (if (S.1.1 r).length = 2 then 1 else 0) := by
        unfold ucp
        by_cases z : (S.1.1 r).length = 2
        · rw [cn_st (P := fun r => (S.1.1 r).length = 2) z, if_pos z]; omega
        · rw [cn_sf (P := fun r => (S.1.1 r).length = 2) z, if_neg z]; omega
      refine go_iload dx_X12_count_12 rfl ?_
      refine go_bipush dx_X12_count_14 rfl ?_
      refine go_icmp_ge (tgt := 63) dx_X12_count_16 rfl (by omega) (by omega) (fun c16 => by exact absurd c16 (by omega)) (fun c16 => ?_)
      refine go_iload_n (i := 2) dx_X12_count_19 rfl rfl ?_
      refine go_aload_n (i := 0) dx_X12_count_20 rfl rfl ?_
      refine go_iload dx_X12_count_21 rfl ?_
      refine go_cV1 sv_X12_148 (go_ok rfl rfl) dx_X12_count_23 (Nat.le_of_ble_eq_true rfl) (Nat.le_of_ble_eq_true rfl) (m_longOf hb hr ?_)
      refine go_if_le (tgt := 36) dx_X12_count_26 rfl (by omega) (fun c26 => ?_) (fun c26 => ?_)
      · refine go_iconst dx_X12_count_36 ?_
        refine go_ior dx_X12_count_37 ?_
        refine go_nmI (fun v1 ev1 => ?_)
        refine go_istore_n (i := 2) (lv' := [(0, vv_A 94), (1, vv_I q), (2, vv_I v1), (3, vv_I (ucp S.1.1 r : Int)), (4, vv_I (r : Int))]) dx_X12_count_38 rfl (by decide) rfl ?_
        refine go_iload_n (i := 3) dx_X12_count_39 rfl rfl ?_
        refine go_aload_n (i := 0) dx_X12_count_40 rfl rfl ?_
        refine go_iload dx_X12_count_41 rfl ?_
        refine go_cV1 sv_X12_148 (go_ok rfl rfl) dx_X12_count_43 (Nat.le_of_ble_eq_true rfl) (Nat.le_of_ble_eq_true rfl) (m_longOf hb hr ?_)
        refine go_iconst dx_X12_count_46 ?_
        refine go_icmp_ne (tgt := 54) dx_X12_count_47 rfl (by omega) (by omega) (fun c47 => ?_) (fun c47 => ?_)
        · refine go_iconst dx_X12_count_54 ?_
          refine go_iadd dx_X12_count_55 ?_
          refine go_nmI (fun v2 ev2 => ?_)
          refine go_istore_n (i := 3) (lv' := [(0, vv_A 94), (1, vv_I q), (2, vv_I v1), (3, vv_I v2), (4, vv_I (r : Int))]) dx_X12_count_56 rfl (by decide) rfl ?_
          refine go_iinc (lv' := [(0, vv_A 94), (1, vv_I q), (2, vv_I v1), (3, vv_I v2), (4, vv_I ((r : Int) + 1))]) dx_X12_count_57 rfl (by decide) rfl ?_
          refine go_goto (tgt := 12) dx_X12_count_60 rfl ?_
          have e2 : v1 = (rl_bits S.1.1 (r + 1) : Int) := by rw [ev1, hb1, if_pos (hne.mp (by omega))]
          have e3 : v2 = (ucp S.1.1 (r + 1) : Int) := by rw [ev2, hu1, if_neg (by omega)]
          rw [e2, e3]
          exact ih _ rfl
        · refine go_iconst dx_X12_count_50 ?_
          refine go_goto (tgt := 55) dx_X12_count_51 rfl ?_
          refine go_iadd dx_X12_count_55 ?_
          refine go_nmI (fun v2 ev2 => ?_)
          refine go_istore_n (i := 3) (lv' := [(0, vv_A 94), (1, vv_I q), (2, vv_I v1), (3, vv_I v2), (4, vv_I (r : Int))]) dx_X12_count_56 rfl (by decide) rfl ?_
          refine go_iinc (lv' := [(0, vv_A 94), (1, vv_I q), (2, vv_I v1), (3, vv_I v2), (4, vv_I ((r : Int) + 1))]) dx_X12_count_57 rfl (by decide) rfl ?_
          refine go_goto (tgt := 12) dx_X12_count_60 rfl ?_
          omega
      · refine go_iconst dx_X12_count_29 ?_
        refine go_iload dx_X12_count_30 rfl ?_
        refine go_ishl dx_X12_count_32 ?_
        refine go_asI (y := ((2 ^ r : Nat) : Int)) (by exact bv_bit (by omega)) ?_
        refine go_goto (tgt := 37) dx_X12_count_33 rfl ?_
        refine go_ior dx_X12_count_37 ?_
        refine go_nmI (fun v1 ev1 => ?_)
        refine go_istore_n (i := 2) (lv' := [(0, vv_A 94), (1, vv_I q), (2, vv_I v1), (3, vv_I (ucp S.1.1 r : Int)), (4, vv_I (r : Int))]) dx_X12_count_38 rfl (by decide) rfl ?_
        refine go_iload_n (i := 3) dx_X12_count_39 rfl rfl ?_
        refine go_aload_n (i := 0) dx_X12_count_40 rfl rfl ?_
        refine go_iload dx_X12_count_41 rfl ?_
        refine go_cV1 sv_X12_148 (go_ok rfl rfl) dx_X12_count_43 (Nat.le_of_ble_eq_true rfl) (Nat.le_of_ble_eq_true rfl) (m_longOf hb hr ?_)
        refine go_iconst dx_X12_count_46 ?_
        refine go_icmp_ne (tgt := 54) dx_X12_count_47 rfl (by omega) (by omega) (fun c47 => ?_) (fun c47 => ?_)
        · refine go_iconst dx_X12_count_54 ?_
          refine go_iadd dx_X12_count_55 ?_
          refine go_nmI (fun v2 ev2 => ?_)
          refine go_istore_n (i := 3) (lv' := [(0, vv_A 94), (1, vv_I q), (2, vv_I v1), (3, vv_I v2), (4, vv_I (r : Int))]) dx_X12_count_56 rfl (by decide) rfl ?_
          refine go_iinc (lv' := [(0, vv_A 94), (1, vv_I q), (2, vv_I v1), (3, vv_I v2), (4, vv_I ((r : Int) + 1))]) dx_X12_count_57 rfl (by decide) rfl ?_
          refine go_goto (tgt := 12) dx_X12_count_60 rfl ?_
          have e2 : v1 = (rl_bits S.1.1 (r + 1) : Int) := by rw [ev1, hb1, if_neg (fun z => by have := hne.mpr z; omega)]
          have e3 : v2 = (ucp S.1.1 (r + 1) : Int) := by rw [ev2, hu1, if_neg (by omega)]
          rw [e2, e3]
          exact ih _ rfl
        · refine go_iconst dx_X12_count_50 ?_
          refine go_goto (tgt := 55) dx_X12_count_51 rfl ?_
          refine go_iadd dx_X12_count_55 ?_
          refine go_nmI (fun v2 ev2 => ?_)
          refine go_istore_n (i := 3) (lv' := [(0, vv_A 94), (1, vv_I q), (2, vv_I v1), (3, vv_I v2), (4, vv_I (r : Int))]) dx_X12_count_56 rfl (by decide) rfl ?_
          refine go_iinc (lv' := [(0, vv_A 94), (1, vv_I q), (2, vv_I v1), (3, vv_I v2), (4, vv_I ((r : Int) + 1))]) dx_X12_count_57 rfl (by decide) rfl ?_
          refine go_goto (tgt := 12) dx_X12_count_60 rfl ?_
          have e2 : v1 = (rl_bits S.1.1 (r + 1) : Int) := by rw [ev1, hb1, if_neg (fun z => by have := hne.mpr z; omega)]
          have e3 : v2 = (ucp S.1.1 (r + 1) : Int) := by rw [ev2, hu1, if_pos (by omega)]
          rw [e2, e3]
          exact ih _ rfl
    ) (fun _ _ lv0 e0 => by
      subst e0
      refine go_iload dx_X12_count_12 rfl ?_
      refine go_bipush dx_X12_count_14 rfl ?_
      refine go_icmp_ge (tgt := 63) dx_X12_count_16 rfl (by omega) (by omega) (fun c16 => ?_) (fun c16 => by exact absurd c16 (by omega))
      refine go_iload_n (i := 1) dx_X12_count_63 rfl rfl ?_
      by_cases hin : 0 ≤ q ∧ q ≤ 7
      · obtain ⟨m, hm, rfl⟩ : ∃ m : Nat, m < 8 ∧ q = (m : Int) := ⟨q.toNat, by omega, by omega⟩
        have h8 : m = 0 ∨ m = 1 ∨ m = 2 ∨ m = 3 ∨ m = 4 ∨ m = 5 ∨ m = 6 ∨ m = 7 := by omega
        rcases h8 with rfl | rfl | rfl | rfl | rfl | rfl | rfl | rfl
        · refine go_tableIn (off := 48) (tgt := 112) dx_X12_count_64 (by decide) (by decide) (by decide) rfl rfl ?_
          refine go_aload_n (i := 0) dx_X12_count_112 rfl rfl ?_
          refine go_cV0 sv_X12_206 (go_ok rfl rfl) dx_X12_count_113 (Nat.le_of_ble_eq_true rfl) (Nat.le_of_ble_eq_true rfl) (m_ruleMany hb ?_)
          refine go_ireturn dx_X12_count_116 rfl (Nat.le_refl _) (Nat.le_refl _) ?_
          exact hQ0
        · refine go_tableIn (off := 53) (tgt := 117) dx_X12_count_64 (by decide) (by decide) (by decide) rfl rfl ?_
          refine go_iload_n (i := 2) dx_X12_count_117 rfl rfl ?_
          refine go_ireturn dx_X12_count_118 rfl (Nat.le_refl _) (Nat.le_refl _) ?_
          exact hQ0
        · refine go_tableIn (off := 55) (tgt := 119) dx_X12_count_64 (by decide) (by decide) (by decide) rfl rfl ?_
          refine go_iload_n (i := 3) dx_X12_count_119 rfl rfl ?_
          refine go_ireturn dx_X12_count_120 rfl (Nat.le_refl _) (Nat.le_refl _) ?_
          exact hQ0
        · refine go_tableIn (off := 57) (tgt := 121) dx_X12_count_64 (by decide) (by decide) (by decide) rfl rfl ?_
          refine go_aload_n (i := 0) dx_X12_count_121 rfl rfl ?_
          refine go_cV0 sv_X12_221 (go_ok rfl rfl) dx_X12_count_122 (Nat.le_of_ble_eq_true rfl) (Nat.le_of_ble_eq_true rfl) (m_laysPairs ho (fun δ1 q1 f1 => ?_))
          refine go_aload_n (i := 0) dx_X12_count_125 rfl rfl ?_
          refine go_getI fs_X12_218 (Or.inl rfl) (go_ok rfl rfl) dx_X12_count_126 ?_
          refine go_asI (y := ((gH S.1.1).length : Int)) (by exact q1.2.2.1) ?_
          refine go_ireturn dx_X12_count_129 rfl (Nat.le_refl _) (Nat.le_refl _) ?_
          obtain ⟨a, b⟩ := hsc (δ' := δ1) (fun c j hc => f1 c j (by unfold mqP; unfold sc at hc; omega)) (ml_fr hlaid (fun c j hc => f1 c j (by unfold mqP; omega)))
          exact hQ δ1 a b
        · refine go_tableIn (off := 66) (tgt := 130) dx_X12_count_64 (by decide) (by decide) (by decide) rfl rfl ?_
          refine go_aload_n (i := 0) dx_X12_count_130 rfl rfl ?_
          refine go_getA (b := 95) fs_X12_7 rfl (go_ok rfl rfl) rfl dx_X12_count_131 ?_
          refine go_bipush dx_X12_count_134 rfl ?_
          refine go_ialoadV (i := 112) (v := ((S.1.2.1 : Int))) dx_X12_count_136 (go_ok rfl rfl) (by omega) (show 112 < 384 by omega) (by exact e112) ?_
          refine go_ireturn dx_X12_count_137 rfl (Nat.le_refl _) (Nat.le_refl _) ?_
          exact hQ0
        · refine go_tableIn (off := 74) (tgt := 138) dx_X12_count_64 (by decide) (by decide) (by decide) rfl rfl ?_
          refine go_aload_n (i := 0) dx_X12_count_138 rfl rfl ?_
          refine go_cV0 sv_X12_253 (go_ok rfl rfl) dx_X12_count_139 (Nat.le_of_ble_eq_true rfl) (Nat.le_of_ble_eq_true rfl) (m_letters hb ?_)
          refine go_ireturn dx_X12_count_142 rfl (Nat.le_refl _) (Nat.le_refl _) ?_
          exact hQ0
        · refine go_tableIn (off := 79) (tgt := 143) dx_X12_count_64 (by decide) (by decide) (by decide) rfl rfl ?_
          refine go_aload_n (i := 0) dx_X12_count_143 rfl rfl ?_
          refine go_getI fs_X12_152 (Or.inl rfl) (go_ok rfl rfl) dx_X12_count_144 ?_
          refine go_asI (y := (S.2.2.2.1.length : Int)) (by exact e3) ?_
          refine go_ireturn dx_X12_count_147 rfl (Nat.le_refl _) (Nat.le_refl _) ?_
          exact hQ0
        · refine go_tableIn (off := 84) (tgt := 148) dx_X12_count_64 (by decide) (by decide) (by decide) rfl rfl ?_
          refine go_aload_n (i := 0) dx_X12_count_148 rfl rfl ?_
          refine go_getI fs_X12_159 (Or.inl rfl) (go_ok rfl rfl) dx_X12_count_149 ?_
          refine go_asI (y := (S.2.1.length : Int)) (by exact e6) ?_
          refine go_ireturn dx_X12_count_152 rfl (Nat.le_refl _) (Nat.le_refl _) ?_
          exact hQ0
      · rw [if_neg (by omega), if_neg (by omega), if_neg (by omega), if_neg (by omega), if_neg (by omega), if_neg (by omega), if_neg (by omega), if_neg (by omega)] at hQ0
        refine go_tableOut (tgt := 153) dx_X12_count_64 hq (by omega) rfl ?_
        refine go_iconst dx_X12_count_153 ?_
        refine go_ireturn dx_X12_count_154 rfl (Nat.le_refl _) (Nat.le_refl _) ?_
        exact hQ0
    )
  refine go_iconst dx_X12_count_5 ?_
  refine go_istore_n (i := 2) (lv' := [(0, vv_A 94), (1, vv_I q), (2, vv_I 0)]) dx_X12_count_6 rfl (by decide) rfl ?_
  refine go_iconst dx_X12_count_7 ?_
  refine go_istore_n (i := 3) (lv' := [(0, vv_A 94), (1, vv_I q), (2, vv_I 0), (3, vv_I 0)]) dx_X12_count_8 rfl (by decide) rfl ?_
  refine go_iconst dx_X12_count_9 ?_
  refine go_istore (lv' := [(0, vv_A 94), (1, vv_I q), (2, vv_I 0), (3, vv_I 0), (4, vv_I 0)]) dx_X12_count_10 (by decide) rfl ?_
  exact loop 0 () (Nat.zero_le _) trivial _ rfl
theorem m_pieces {q : Int} (hq : go_iI q) (h : mx_at δ S) (hQ : ∀ δ', mx_at δ' S → fl δ δ' → Q [vv_I (oq_pieces S.1 q)] go_φ δ') : Go E (d + 4) (0, 0) mx_X12_pieces go_φ 0 [(0, vv_A 94), (1, vv_I q)] [] δ Q := by
  refine go_aload_n (i := 0) dx_X12_pieces_0 rfl rfl ?_
  refine go_iconst dx_X12_pieces_1 ?_
  refine go_putI fp_X12_139 rfl rfl (go_ok rfl rfl) dx_X12_pieces_2 ?_
  have h := mx_thr (v := 0) h
  have f0 : fl δ (wr δ 94 0 0) := fl_thr
  generalize wr δ 94 0 0 = δ0 at h f0 ⊢
  have hQ := fun δ' a (b : fl δ0 δ') => hQ δ' a (fl_tr f0 b)
  have hsc := @mx_of δ0 S h
  have hb := h.1.1
  have hlaid := h.2
  have ho := bo_of hb
  have hR := ho.1
  have h14 := hb.2.2.2.2.2.2.2.2.1
  have ht8 := hb.2.2.2.2.2.2.2.1
  have l95 : go_ln 95 = 384 := rfl
  have l125 : go_ln 125 = 16 := rfl
  unfold oq_pieces lcK at hQ
  refine go_iload_n (i := 1) dx_X12_pieces_5 rfl rfl ?_
  refine go_iconst dx_X12_pieces_6 ?_
  refine go_icmp_ge (tgt := 13) dx_X12_pieces_7 rfl (by omega) (by omega) (fun c7 => ?_) (fun c7 => ?_)
  · refine go_aload_n (i := 0) dx_X12_pieces_13 rfl rfl ?_
    refine go_cV0 sv_X12_265 (go_ok rfl rfl) dx_X12_pieces_14 (Nat.le_of_ble_eq_true rfl) (Nat.le_of_ble_eq_true rfl) (m_lays hb hlaid (fun δ3 w1 w2 w3 w4 f3 => ?_))
    obtain ⟨n, hn⟩ : ∃ n, n = S.1.2.2.length := ⟨_, rfl⟩
    obtain ⟨D, hD⟩ : ∃ D, D = dK S.1 S.1.2.1 := ⟨_, rfl⟩
    have hb3 : bk_at δ3 95 0 S.1 := bk_fr hb (fun j => f3 95 j (by unfold mfP mqP; omega) (by decide) (by omega))
    have e112 : δ3 95 112 = (S.1.2.1 : Int) := by have := hb3.2.1; rwa [Nat.zero_add] at this
    have fin : ∀ δ4, (∀ c j, c ≠ 125 → δ4 c j = δ3 c j) → mx_at δ4 S ∧ fl δ0 δ4 := fun δ4 g => hsc (δ' := δ4) (fun c j hc => by unfold sc at hc; rw [g c j (by omega), f3 c j (by unfold mfP mqP; omega) (by omega) (by omega)]) (ml_fr (ml_1 w1 w2 w3) (fun c j hc => g c j (by omega)))
    rw [← hn, ← hD] at hQ
    have derv : ∀ δ4, (∀ c j, c ≠ 125 → δ4 c j = δ3 c j) → ∀ (E : go_E) (d : Nat) (Q : List go_V → go_F → (Nat → Nat → Int) → Prop) (i j : Nat), i < j → j ≤ n → Q [vv_I (b01 (D i j))] go_φ δ4 → Go E (d + 1) (0, 0) mx_X12_doesDerive go_φ 0 [(0, vv_A 94), (1, vv_I (S.1.2.1 : Int)), (2, vv_I (i : Int)), (3, vv_I (j : Int))] [] δ4 Q := fun δ4 g E d Q i j h1 h2 h3 => by
      rw [hD] at h3
      exact m_doesDerive hR (me_fr w3 (fun q => g 107 q (by decide))) (by omega) (by omega) h1 (by omega) h3
    -- the row of what is left
    have rowl := lp_dn (X := Nat → Nat → Int) (I := fun p δ4 => p ≤ n ∧ (∀ e, p ≤ e → e ≤ n → δ4 125 e = pf (lch D n e)) ∧ (∀ c j, c ≠ 125 → δ4 c j = δ3 c j))
      (G := fun p δ4 => Go E (d + 4) (0, 0) mx_X12_pieces go_φ 33 [(0, vv_A 94), (1, vv_I q), (2, vv_I (n : Int)), (3, vv_I ((p : Int) - 1))] [] δ4 Q) (fun p δ4 hI ih => ?_) (fun δ4 hI => ?_)
    · refine go_aload_n (i := 0) dx_X12_pieces_17 rfl rfl ?_
      refine go_cV0 sv_X12_253 (go_ok rfl rfl) dx_X12_pieces_18 (Nat.le_of_ble_eq_true rfl) (Nat.le_of_ble_eq_true rfl) (m_letters hb3 ?_)
      refine go_asI (y := (n : Int)) (by rw [hn]) ?_
      refine go_istore_n (i := 2) (lv' := [(0, vv_A 94), (1, vv_I q), (2, vv_I (n : Int))]) dx_X12_pieces_21 rfl (by decide) rfl ?_
      refine go_aload_n (i := 0) dx_X12_pieces_22 rfl rfl ?_
      refine go_getA (b := 125) fs_X12_106 rfl (go_ok rfl rfl) rfl dx_X12_pieces_23 ?_
      refine go_iload_n (i := 2) dx_X12_pieces_26 rfl rfl ?_
      refine go_iconst dx_X12_pieces_27 ?_
      refine go_iastoreV (i := n) dx_X12_pieces_28 (go_ok rfl rfl) (by omega) (show n < 16 by omega) ?_
      refine go_iload_n (i := 2) dx_X12_pieces_29 rfl rfl ?_
      refine go_iconst dx_X12_pieces_30 ?_
      refine go_isub dx_X12_pieces_31 ?_
      refine go_istore_n (i := 3) (lv' := [(0, vv_A 94), (1, vv_I q), (2, vv_I (n : Int)), (3, vv_I ((n : Int) - 1))]) dx_X12_pieces_32 rfl (by decide) rfl ?_
      refine rowl n _ ⟨Nat.le_refl _, fun e h1 h2 => ?_, fun c j hc => wr_n (by omega)⟩
      have : e = n := by omega
      subst this
      rw [wr_eq, lch_n]
      rfl
    · obtain ⟨i0, i1, i2⟩ := hI
      have ih2 : ∀ δ5, (∀ e, p ≤ e → e ≤ n → δ5 125 e = pf (lch D n e)) → (∀ c j, c ≠ 125 → δ5 c j = δ3 c j) → Go E (d + 4) (0, 0) mx_X12_pieces go_φ 33 [(0, vv_A 94), (1, vv_I q), (2, vv_I (n : Int)), (3, vv_I ((p : Int) - 1))] [] δ5 Q := fun δ5 a b => ih δ5 ⟨by omega, a, b⟩
      have inner := lp_up (X := Nat → Nat → Int) (hi := n - p) (I := fun k δ5 => δ5 125 p = pf (lcb D n p (p + 1 + k)) ∧ (∀ e, p + 1 ≤ e → e ≤ n → δ5 125 e = pf (lch D n e)) ∧ (∀ c j, c ≠ 125 → δ5 c j = δ3 c j))
        (G := fun k δ5 => Go E (d + 4) (0, 0) mx_X12_pieces go_φ 50 [(0, vv_A 94), (1, vv_I q), (2, vv_I (n : Int)), (3, vv_I (p : Int)), (4, vv_I ((p + 1 + k : Nat) : Int))] [] δ5 Q) (fun k δ5 hk hI2 ih3 => ?_) (fun δ5 hI2 => ?_)
      · rw [show (((p + 1 : Nat) : Int) - 1) = (p : Int) by omega]
        refine go_iload_n (i := 3) dx_X12_pieces_33 rfl rfl ?_
        refine go_if_lt (tgt := 118) dx_X12_pieces_34 rfl (by omega) (fun c34 => by exact absurd c34 (by omega)) (fun c34 => ?_)
        refine go_aload_n (i := 0) dx_X12_pieces_37 rfl rfl ?_
        refine go_getA (b := 125) fs_X12_106 rfl (go_ok rfl rfl) rfl dx_X12_pieces_38 ?_
        refine go_iload_n (i := 3) dx_X12_pieces_41 rfl rfl ?_
        refine go_ldc (x := 268435456) kx_X12_231 dx_X12_pieces_42 ?_
        refine go_iastoreV (i := p) dx_X12_pieces_44 (go_ok rfl rfl) (by omega) (show p < 16 by omega) ?_
        refine go_iload_n (i := 3) dx_X12_pieces_45 rfl rfl ?_
        refine go_iconst dx_X12_pieces_46 ?_
        refine go_iadd dx_X12_pieces_47 ?_
        refine go_istore (lv' := [(0, vv_A 94), (1, vv_I q), (2, vv_I (n : Int)), (3, vv_I (p : Int)), (4, vv_I ((p + 1 + 0 : Nat) : Int))]) dx_X12_pieces_48 (by decide) rfl ?_
        exact inner 0 (wr δ4 125 p 268435456) (Nat.zero_le _) ⟨by rw [wr_eq, Nat.add_zero, lcb_0]; rfl, fun e h1 h2 => by rw [wr_n (by omega)]; exact i1 e h1 h2, fun c j hc => by rw [wr_n (by omega)]; exact i2 c j hc⟩
      · obtain ⟨j1, j2, j3⟩ := hI2
        have hbk : bk_at δ5 95 0 S.1 := bk_fr hb3 (fun q => j3 95 q (by decide))
        obtain ⟨e, he⟩ : ∃ e, e = p + 1 + k := ⟨_, rfl⟩
        have ih3 := ih3
        rw [show p + 1 + (k + 1) = e + 1 by omega] at ih3
        rw [← he] at j1 ⊢
        have he1 : p < e := by omega
        have he2 : e ≤ n := by omega
        have hl := lch_le D n e
        have hc := lcb_le D n p e
        have j2e := j2 e (by omega) he2
        have b1 := pf_rng (v := lch D n e) (by omega)
        have b2 := pf_rng (v := lcb D n p e) (by omega)
        by_cases hde : D p e
        · have ht := lcb_t hde he1 he2
          refine go_iload dx_X12_pieces_50 rfl ?_
          refine go_iload_n (i := 2) dx_X12_pieces_52 rfl rfl ?_
          refine go_icmp_gt (tgt := 112) dx_X12_pieces_53 rfl (by omega) (by omega) (fun c53 => by exact absurd c53 (by omega)) (fun c53 => ?_)
          refine go_aload_n (i := 0) dx_X12_pieces_56 rfl rfl ?_
          refine go_aload_n (i := 0) dx_X12_pieces_57 rfl rfl ?_
          refine go_getA (b := 95) fs_X12_7 rfl (go_ok rfl rfl) rfl dx_X12_pieces_58 ?_
          refine go_bipush dx_X12_pieces_61 rfl ?_
          refine go_ialoadV (i := 112) (v := ((S.1.2.1 : Int))) dx_X12_pieces_63 (go_ok rfl rfl) (by omega) (show 112 < 384 by omega) (by rw [j3 _ _ (by decide)]; exact e112) ?_
          refine go_iload_n (i := 3) dx_X12_pieces_64 rfl rfl ?_
          refine go_iload dx_X12_pieces_65 rfl ?_
          refine go_cV3 sv_X12_268 (go_ok rfl rfl) dx_X12_pieces_67 (Nat.le_of_ble_eq_true rfl) (Nat.le_of_ble_eq_true rfl) (derv _ j3 _ _ _ p e he1 he2 ?_)
          refine go_b_eq (tgt := 106) dx_X12_pieces_70 rfl (fun c70 => by exact absurd hde c70) (fun c70 => ?_)
          refine go_aload_n (i := 0) dx_X12_pieces_73 rfl rfl ?_
          refine go_getA (b := 125) fs_X12_106 rfl (go_ok rfl rfl) rfl dx_X12_pieces_74 ?_
          refine go_iload dx_X12_pieces_77 rfl ?_
          refine go_ialoadV (i := e) (v := ((pf (lch D n e)))) dx_X12_pieces_79 (go_ok rfl rfl) (by omega) (show e < 16 by omega) (by exact j2e) ?_
          refine go_iconst dx_X12_pieces_80 ?_
          refine go_iadd dx_X12_pieces_81 ?_
          refine go_aload_n (i := 0) dx_X12_pieces_82 rfl rfl ?_
          refine go_getA (b := 125) fs_X12_106 rfl (go_ok rfl rfl) rfl dx_X12_pieces_83 ?_
          refine go_iload_n (i := 3) dx_X12_pieces_86 rfl rfl ?_
          refine go_ialoadV (i := p) (v := ((pf (lcb D n p e)))) dx_X12_pieces_87 (go_ok rfl rfl) (by omega) (show p < 16 by omega) (by exact j1) ?_
          refine go_icmp_ge (tgt := 106) dx_X12_pieces_88 rfl (by omega) (by omega) (fun c88 => ?_) (fun c88 => ?_)
          · refine go_iinc (lv' := [(0, vv_A 94), (1, vv_I q), (2, vv_I (n : Int)), (3, vv_I (p : Int)), (4, vv_I ((e : Int) + 1))]) dx_X12_pieces_106 rfl (by decide) rfl ?_
            refine go_goto (tgt := 50) dx_X12_pieces_109 rfl ?_
            refine ih3 _ ⟨?_, j2, j3⟩
            rw [j1]
            have hge : ¬ pf (lch D n e) + 1 < pf (lcb D n p e) := by omega
            by_cases z : lch D n e = -1
            · rw [ht, if_pos z]
            · rw [pf_n z] at hge
              by_cases y : lcb D n p e = -1
              · rw [y, pf_m] at hge; omega
              · rw [pf_n y] at hge
                rw [ht, if_neg z, if_neg (by omega)]
          · refine go_aload_n (i := 0) dx_X12_pieces_91 rfl rfl ?_
            refine go_getA (b := 125) fs_X12_106 rfl (go_ok rfl rfl) rfl dx_X12_pieces_92 ?_
            refine go_iload_n (i := 3) dx_X12_pieces_95 rfl rfl ?_
            refine go_aload_n (i := 0) dx_X12_pieces_96 rfl rfl ?_
            refine go_getA (b := 125) fs_X12_106 rfl (go_ok rfl rfl) rfl dx_X12_pieces_97 ?_
            refine go_iload dx_X12_pieces_100 rfl ?_
            refine go_ialoadV (i := e) (v := ((pf (lch D n e)))) dx_X12_pieces_102 (go_ok rfl rfl) (by omega) (show e < 16 by omega) (by exact j2e) ?_
            refine go_iconst dx_X12_pieces_103 ?_
            refine go_iadd dx_X12_pieces_104 ?_
            refine go_iastoreV (i := p) dx_X12_pieces_105 (go_ok rfl rfl) (by omega) (show p < 16 by omega) ?_
            refine go_iinc (lv' := [(0, vv_A 94), (1, vv_I q), (2, vv_I (n : Int)), (3, vv_I (p : Int)), (4, vv_I ((e : Int) + 1))]) dx_X12_pieces_106 rfl (by decide) rfl ?_
            refine go_goto (tgt := 50) dx_X12_pieces_109 rfl ?_
            refine ih3 _ ⟨?_, fun a h1 h2 => by rw [wr_n (by omega)]; exact j2 a h1 h2, fun c j hc => by rw [wr_n (by omega)]; exact j3 c j hc⟩
            rw [wr_eq]
            have hlt : pf (lch D n e) + 1 < pf (lcb D n p e) := by omega
            have z : lch D n e ≠ -1 := fun z => by
              rw [z, pf_m] at hlt
              unfold pf at hlt
              split at hlt <;> omega
            rw [pf_n z] at hlt ⊢
            have y : lcb D n p e = -1 ∨ lch D n e + 1 < lcb D n p e := by
              by_cases y : lcb D n p e = -1
              · exact Or.inl y
              · rw [pf_n y] at hlt; exact Or.inr hlt
            rw [ht, if_neg z, if_pos y, pf_n (by omega)]
        · have ht := lcb_f (n := n) hde
          refine go_iload dx_X12_pieces_50 rfl ?_
          refine go_iload_n (i := 2) dx_X12_pieces_52 rfl rfl ?_
          refine go_icmp_gt (tgt := 112) dx_X12_pieces_53 rfl (by omega) (by omega) (fun c53 => by exact absurd c53 (by omega)) (fun c53 => ?_)
          refine go_aload_n (i := 0) dx_X12_pieces_56 rfl rfl ?_
          refine go_aload_n (i := 0) dx_X12_pieces_57 rfl rfl ?_
          refine go_getA (b := 95) fs_X12_7 rfl (go_ok rfl rfl) rfl dx_X12_pieces_58 ?_
          refine go_bipush dx_X12_pieces_61 rfl ?_
          refine go_ialoadV (i := 112) (v := ((S.1.2.1 : Int))) dx_X12_pieces_63 (go_ok rfl rfl) (by omega) (show 112 < 384 by omega) (by rw [j3 _ _ (by decide)]; exact e112) ?_
          refine go_iload_n (i := 3) dx_X12_pieces_64 rfl rfl ?_
          refine go_iload dx_X12_pieces_65 rfl ?_
          refine go_cV3 sv_X12_268 (go_ok rfl rfl) dx_X12_pieces_67 (Nat.le_of_ble_eq_true rfl) (Nat.le_of_ble_eq_true rfl) (derv _ j3 _ _ _ p e he1 he2 ?_)
          refine go_b_eq (tgt := 106) dx_X12_pieces_70 rfl (fun c70 => ?_) (fun c70 => by exact absurd c70 hde)
          refine go_iinc (lv' := [(0, vv_A 94), (1, vv_I q), (2, vv_I (n : Int)), (3, vv_I (p : Int)), (4, vv_I ((e : Int) + 1))]) dx_X12_pieces_106 rfl (by decide) rfl ?_
          refine go_goto (tgt := 50) dx_X12_pieces_109 rfl ?_
          exact ih3 _ ⟨by rw [ht]; exact j1, j2, j3⟩
      · obtain ⟨j1, j2, j3⟩ := hI2
        refine go_iload dx_X12_pieces_50 rfl ?_
        refine go_iload_n (i := 2) dx_X12_pieces_52 rfl rfl ?_
        refine go_icmp_gt (tgt := 112) dx_X12_pieces_53 rfl (by omega) (by omega) (fun c53 => ?_) (fun c53 => by exact absurd c53 (by omega))
        refine go_iinc (lv' := [(0, vv_A 94), (1, vv_I q), (2, vv_I (n : Int)), (3, vv_I ((p : Int) + (-1))), (4, vv_I ((p + 1 + (n - p) : Nat) : Int))]) dx_X12_pieces_112 rfl (by decide) rfl ?_
        refine go_goto (tgt := 33) dx_X12_pieces_115 rfl ?_
        refine go_keep [0, 1, 2, 3] rfl ?_
        refine ih2 _ (fun e h1 h2 => ?_) j3
        by_cases z : e = p
        · subst z
          rw [j1, show e + 1 + (n - e) = n + 1 by omega, lcb_e (by omega)]
        · exact j2 e (by omega) h2
    · obtain ⟨i0, i1, i2⟩ := hI
      obtain ⟨m1, m2⟩ := fin δ4 i2
      have hQ := hQ δ4 m1 m2
      have e0 := i1 0 (Nat.le_refl _) (Nat.zero_le _)
      have hl := lch_le D n 0
      have b1 := pf_rng (v := lch D n 0) (by omega)
      have chain := lp_up (X := Unit) (hi := q.toNat + 1) (I := fun _ _ => True)
        (G := fun k _ => 0 ≤ q → q < lch D n 0 → Q [vv_I (eop D n (q.toNat + 1) : Int)] go_φ δ4 → ∀ lv0, lv0 = [(0, vv_A 94), (1, vv_I q), (2, vv_I (n : Int)), (3, vv_I (eop D n k : Int)), (4, vv_I (k : Int))] → Go E (d + 4) (0, 0) mx_X12_pieces go_φ 164 lv0 [] δ4 Q)
        (fun k _ hk _ ih2 g1 g2 g3 lv0 e0 => by
          subst e0
          obtain ⟨e1, e2⟩ := eop_spec (D := D) (n := n) k (by omega)
          obtain ⟨j, hj⟩ := nxp_ex (D := D) (n := n) (p := eop D n k) (by omega)
          obtain ⟨s1, s2⟩ := mn_spec hj
          have em : eop D n (k + 1) = mn (nxp D n (eop D n k)) := rfl
          rw [← em] at s1 s2
          obtain ⟨a, ha⟩ : ∃ a, a = eop D n k := ⟨_, rfl⟩
          rw [← ha] at e1 e2 s1 s2 ⊢
          have ea := i1 a (Nat.zero_le _) e1
          have find := lp_up (X := Unit) (hi := eop D n (k + 1)) (I := fun e _ => a < e ∧ e ≤ eop D n (k + 1))
            (G := fun e _ => ∀ lv0, lv0 = [(0, vv_A 94), (1, vv_I q), (2, vv_I (n : Int)), (3, vv_I (a : Int)), (4, vv_I (k : Int)), (5, vv_I (e : Int))] → Go E (d + 4) (0, 0) mx_X12_pieces go_φ 175 lv0 [] δ4 Q)
            (fun e _ he hI3 ih3 lv0 e0 => by
              subst e0
              have hen : e ≤ n := by have := s1.2.1; omega
              have ee := i1 e (Nat.zero_le _) hen
              have hle := lch_le D n e
              have b2 := pf_rng (v := lch D n e) (by omega)
              have b3 := pf_rng (v := lch D n a) (by omega)
              refine go_aload_n (i := 0) dx_X12_pieces_175 rfl rfl ?_
              refine go_aload_n (i := 0) dx_X12_pieces_176 rfl rfl ?_
              refine go_getA (b := 95) fs_X12_7 rfl (go_ok rfl rfl) rfl dx_X12_pieces_177 ?_
              refine go_bipush dx_X12_pieces_180 rfl ?_
              refine go_ialoadV (i := 112) (v := ((S.1.2.1 : Int))) dx_X12_pieces_182 (go_ok rfl rfl) (by omega) (show 112 < 384 by omega) (by rw [i2 _ _ (by decide)]; exact e112) ?_
              refine go_iload_n (i := 3) dx_X12_pieces_183 rfl rfl ?_
              refine go_iload dx_X12_pieces_184 rfl ?_
              refine go_cV3 sv_X12_268 (go_ok rfl rfl) dx_X12_pieces_186 (Nat.le_of_ble_eq_true rfl) (Nat.le_of_ble_eq_true rfl) (derv _ i2 _ _ _ a e hI3.1 hen ?_)
              refine go_b_eq (tgt := 210) dx_X12_pieces_189 rfl (fun c189 => ?_) (fun c189 => ?_)
              · refine go_iinc (lv' := [(0, vv_A 94), (1, vv_I q), (2, vv_I (n : Int)), (3, vv_I (a : Int)), (4, vv_I (k : Int)), (5, vv_I ((e : Int) + 1))]) dx_X12_pieces_210 rfl (by decide) rfl ?_
                refine go_goto (tgt := 175) dx_X12_pieces_213 rfl ?_
                exact ih3 () ⟨by omega, by omega⟩ _ rfl
              · refine go_aload_n (i := 0) dx_X12_pieces_192 rfl rfl ?_
                refine go_getA (b := 125) fs_X12_106 rfl (go_ok rfl rfl) rfl dx_X12_pieces_193 ?_
                refine go_iload dx_X12_pieces_196 rfl ?_
                refine go_ialoadV (i := e) (v := ((pf (lch D n e)))) dx_X12_pieces_198 (go_ok rfl rfl) (by omega) (show e < 16 by omega) (by exact ee) ?_
                refine go_iconst dx_X12_pieces_199 ?_
                refine go_iadd dx_X12_pieces_200 ?_
                refine go_aload_n (i := 0) dx_X12_pieces_201 rfl rfl ?_
                refine go_getA (b := 125) fs_X12_106 rfl (go_ok rfl rfl) rfl dx_X12_pieces_202 ?_
                refine go_iload_n (i := 3) dx_X12_pieces_205 rfl rfl ?_
                refine go_ialoadV (i := a) (v := ((pf (lch D n a)))) dx_X12_pieces_206 (go_ok rfl rfl) (by omega) (show a < 16 by omega) (by exact ea) ?_
                refine go_icmp_eq (tgt := 216) dx_X12_pieces_207 rfl (by omega) (by omega) (fun c207 => ?_) (fun c207 => ?_)
                · exfalso
                  have hpf : pf (lch D n e) + 1 = pf (lch D n a) := by omega
                  rw [pf_n (v := lch D n a) (by omega)] at hpf
                  have : lch D n e ≠ -1 := fun z => by rw [z, pf_m] at hpf; omega
                  rw [pf_n this] at hpf
                  have := s2 e ⟨hI3.1, hen, c189, hpf⟩
                  omega
                · refine go_iinc (lv' := [(0, vv_A 94), (1, vv_I q), (2, vv_I (n : Int)), (3, vv_I (a : Int)), (4, vv_I (k : Int)), (5, vv_I ((e : Int) + 1))]) dx_X12_pieces_210 rfl (by decide) rfl ?_
                  refine go_goto (tgt := 175) dx_X12_pieces_213 rfl ?_
                  exact ih3 () ⟨by omega, by omega⟩ _ rfl
            ) (fun _ hI3 lv0 e0 => by
              subst e0
              obtain ⟨e, he⟩ : ∃ e, e = eop D n (k + 1) := ⟨_, rfl⟩
              rw [← he] at s1 hI3 ⊢
              have ee := i1 e (Nat.zero_le _) s1.2.1
              have hle := lch_le D n e
              have s4 := s1.2.2.2
              have hen := s1.2.1
              have b2 := pf_rng (v := lch D n e) (by omega)
              have b3 := pf_rng (v := lch D n a) (by omega)
              refine go_aload_n (i := 0) dx_X12_pieces_175 rfl rfl ?_
              refine go_aload_n (i := 0) dx_X12_pieces_176 rfl rfl ?_
              refine go_getA (b := 95) fs_X12_7 rfl (go_ok rfl rfl) rfl dx_X12_pieces_177 ?_
              refine go_bipush dx_X12_pieces_180 rfl ?_
              refine go_ialoadV (i := 112) (v := ((S.1.2.1 : Int))) dx_X12_pieces_182 (go_ok rfl rfl) (by omega) (show 112 < 384 by omega) (by rw [i2 _ _ (by decide)]; exact e112) ?_
              refine go_iload_n (i := 3) dx_X12_pieces_183 rfl rfl ?_
              refine go_iload dx_X12_pieces_184 rfl ?_
              refine go_cV3 sv_X12_268 (go_ok rfl rfl) dx_X12_pieces_186 (Nat.le_of_ble_eq_true rfl) (Nat.le_of_ble_eq_true rfl) (derv _ i2 _ _ _ a e s1.1 s1.2.1 ?_)
              refine go_b_eq (tgt := 210) dx_X12_pieces_189 rfl (fun c189 => by exact absurd s1.2.2.1 c189) (fun c189 => ?_)
              refine go_aload_n (i := 0) dx_X12_pieces_192 rfl rfl ?_
              refine go_getA (b := 125) fs_X12_106 rfl (go_ok rfl rfl) rfl dx_X12_pieces_193 ?_
              refine go_iload dx_X12_pieces_196 rfl ?_
              refine go_ialoadV (i := e) (v := ((pf (lch D n e)))) dx_X12_pieces_198 (go_ok rfl rfl) (by omega) (show e < 16 by omega) (by exact ee) ?_
              refine go_iconst dx_X12_pieces_199 ?_
              refine go_iadd dx_X12_pieces_200 ?_
              refine go_aload_n (i := 0) dx_X12_pieces_201 rfl rfl ?_
              refine go_getA (b := 125) fs_X12_106 rfl (go_ok rfl rfl) rfl dx_X12_pieces_202 ?_
              refine go_iload_n (i := 3) dx_X12_pieces_205 rfl rfl ?_
              refine go_ialoadV (i := a) (v := ((pf (lch D n a)))) dx_X12_pieces_206 (go_ok rfl rfl) (by omega) (show a < 16 by omega) (by exact ea) ?_
              refine go_icmp_eq (tgt := 216) dx_X12_pieces_207 rfl (by omega) (by omega) (fun c207 => ?_) (fun c207 => by rw [pf_n (v := lch D n a) (by omega), pf_n (v := lch D n e) (by omega)] at c207; exact absurd s4 c207)
              refine go_iload dx_X12_pieces_216 rfl ?_
              refine go_istore_n (i := 3) (lv' := [(0, vv_A 94), (1, vv_I q), (2, vv_I (n : Int)), (3, vv_I (e : Int)), (4, vv_I (k : Int)), (5, vv_I (e : Int))]) dx_X12_pieces_218 rfl (by decide) rfl ?_
              refine go_iinc (lv' := [(0, vv_A 94), (1, vv_I q), (2, vv_I (n : Int)), (3, vv_I (e : Int)), (4, vv_I ((k : Int) + 1)), (5, vv_I (e : Int))]) dx_X12_pieces_219 rfl (by decide) rfl ?_
              refine go_goto (tgt := 164) dx_X12_pieces_222 rfl ?_
              refine go_keep [0, 1, 2, 3, 4] rfl ?_
              rw [he]
              exact ih2 () trivial g1 g2 g3 _ rfl
            )
          refine go_iload dx_X12_pieces_164 rfl ?_
          refine go_iload_n (i := 1) dx_X12_pieces_166 rfl rfl ?_
          refine go_icmp_gt (tgt := 225) dx_X12_pieces_167 rfl (by omega) (by omega) (fun c167 => by exact absurd c167 (by omega)) (fun c167 => ?_)
          refine go_iload_n (i := 3) dx_X12_pieces_170 rfl rfl ?_
          refine go_iconst dx_X12_pieces_171 ?_
          refine go_iadd dx_X12_pieces_172 ?_
          refine go_istore (lv' := [(0, vv_A 94), (1, vv_I q), (2, vv_I (n : Int)), (3, vv_I (a : Int)), (4, vv_I (k : Int)), (5, vv_I ((a + 1 : Nat) : Int))]) dx_X12_pieces_173 (by decide) rfl ?_
          exact find (a + 1) () (by have := s1.1; omega) ⟨Nat.lt_succ_self _, by have := s1.1; omega⟩ _ rfl
        ) (fun _ _ g1 g2 g3 lv0 e0 => by
          subst e0
          refine go_iload dx_X12_pieces_164 rfl ?_
          refine go_iload_n (i := 1) dx_X12_pieces_166 rfl rfl ?_
          refine go_icmp_gt (tgt := 225) dx_X12_pieces_167 rfl (by omega) (by omega) (fun c167 => ?_) (fun c167 => by exact absurd c167 (by omega))
          refine go_iload_n (i := 3) dx_X12_pieces_225 rfl rfl ?_
          refine go_ireturn dx_X12_pieces_226 rfl (Nat.le_refl _) (Nat.le_refl _) ?_
          exact g3
        )
      refine go_iload_n (i := 3) dx_X12_pieces_33 rfl rfl ?_
      refine go_if_lt (tgt := 118) dx_X12_pieces_34 rfl (by omega) (fun c34 => ?_) (fun c34 => by exact absurd c34 (by omega))
      refine go_iload_n (i := 2) dx_X12_pieces_118 rfl rfl ?_
      refine go_if_eq (tgt := 133) dx_X12_pieces_119 rfl (by omega) (fun c119 => ?_) (fun c119 => ?_)
      · rw [if_neg (by omega), cif_t (by omega)] at hQ
        refine go_iconst dx_X12_pieces_133 ?_
        refine go_ireturn dx_X12_pieces_134 rfl (Nat.le_refl _) (Nat.le_refl _) ?_
        by_cases z : q = -1
        · rw [if_pos z] at hQ; exact hQ
        · rw [if_neg z, cif_f (by omega)] at hQ; exact hQ
      · refine go_aload_n (i := 0) dx_X12_pieces_122 rfl rfl ?_
        refine go_getA (b := 125) fs_X12_106 rfl (go_ok rfl rfl) rfl dx_X12_pieces_123 ?_
        refine go_iconst dx_X12_pieces_126 ?_
        refine go_ialoadV (i := 0) (v := ((pf (lch D n 0)))) dx_X12_pieces_127 (go_ok rfl rfl) (by omega) (show 0 < 16 by omega) (by exact e0) ?_
        refine go_ldc (x := 268435456) kx_X12_231 dx_X12_pieces_128 ?_
        refine go_icmp_lt (tgt := 135) dx_X12_pieces_130 rfl (by omega) (by omega) (fun c130 => ?_) (fun c130 => ?_)
        · have hm : lch D n 0 ≠ -1 := fun z => by rw [z, pf_m] at c130; omega
          rw [if_neg (by omega), cif_f (by omega)] at hQ
          have e0 : δ4 125 0 = lch D n 0 := by rw [e0, pf_n hm]
          refine go_iload_n (i := 1) dx_X12_pieces_135 rfl rfl ?_
          refine go_iconst dx_X12_pieces_136 ?_
          refine go_icmp_ne (tgt := 147) dx_X12_pieces_137 rfl (by omega) (by omega) (fun c137 => ?_) (fun c137 => ?_)
          · refine go_iload_n (i := 1) dx_X12_pieces_147 rfl rfl ?_
            refine go_aload_n (i := 0) dx_X12_pieces_148 rfl rfl ?_
            refine go_getA (b := 125) fs_X12_106 rfl (go_ok rfl rfl) rfl dx_X12_pieces_149 ?_
            refine go_iconst dx_X12_pieces_152 ?_
            refine go_ialoadV (i := 0) (v := ((lch D n 0))) dx_X12_pieces_153 (go_ok rfl rfl) (by omega) (show 0 < 16 by omega) (by exact e0) ?_
            refine go_icmp_lt (tgt := 159) dx_X12_pieces_154 rfl (by omega) (by omega) (fun c154 => ?_) (fun c154 => ?_)
            · refine go_iconst dx_X12_pieces_159 ?_
              refine go_istore_n (i := 3) (lv' := [(0, vv_A 94), (1, vv_I q), (2, vv_I (n : Int)), (3, vv_I 0)]) dx_X12_pieces_160 rfl (by decide) rfl ?_
              refine go_iconst dx_X12_pieces_161 ?_
              refine go_istore (lv' := [(0, vv_A 94), (1, vv_I q), (2, vv_I (n : Int)), (3, vv_I 0), (4, vv_I 0)]) dx_X12_pieces_162 (by decide) rfl ?_
              refine go_keep [0, 1, 2, 3, 4] rfl ?_
              rw [if_neg (by omega), cif_t (by omega)] at hQ
              exact chain 0 () (Nat.zero_le _) trivial (by omega) (by omega) hQ _ rfl
            · refine go_iconst dx_X12_pieces_157 ?_
              refine go_ireturn dx_X12_pieces_158 rfl (Nat.le_refl _) (Nat.le_refl _) ?_
              rw [if_neg (by omega), cif_f (by omega)] at hQ
              exact hQ
          · refine go_aload_n (i := 0) dx_X12_pieces_140 rfl rfl ?_
            refine go_getA (b := 125) fs_X12_106 rfl (go_ok rfl rfl) rfl dx_X12_pieces_141 ?_
            refine go_iconst dx_X12_pieces_144 ?_
            refine go_ialoadV (i := 0) (v := ((lch D n 0))) dx_X12_pieces_145 (go_ok rfl rfl) (by omega) (show 0 < 16 by omega) (by exact e0) ?_
            refine go_ireturn dx_X12_pieces_146 rfl (Nat.le_refl _) (Nat.le_refl _) ?_
            rw [if_pos (by omega)] at hQ
            exact hQ
        · have hm : lch D n 0 = -1 := by
            unfold pf at c130
            split at c130
            · assumption
            · omega
          rw [if_neg (by omega), cif_f (by omega), hm] at hQ
          refine go_iconst dx_X12_pieces_133 ?_
          refine go_ireturn dx_X12_pieces_134 rfl (Nat.le_refl _) (Nat.le_refl _) ?_
          by_cases z : q = -1
          · rw [if_pos z] at hQ; exact hQ
          · rw [if_neg z, cif_f (by omega)] at hQ; exact hQ
  · refine go_bipush dx_X12_pieces_10 rfl ?_
    refine go_ireturn dx_X12_pieces_12 rfl (Nat.le_refl _) (Nat.le_refl _) ?_
    have hQ := hQ δ0 h fl_rf
    rw [if_pos (by omega)] at hQ
    exact hQ
theorem puts_len {l c : List Int} {p : Nat} (h : p + c.length ≤ l.length) : (puts l p c).length = l.length := by
  unfold puts
  rw [List.length_append, List.length_append, List.length_take, List.length_drop]
  omega
theorem puts_get {l c : List Int} {p i : Nat} (h : p + c.length ≤ l.length) : (puts l p c)[i]? = if p ≤ i ∧ i < p + c.length then c[i - p]? else l[i]? := by
  unfold puts
  by_cases h1 : i < p
  · rw [if_neg (by omega), List.append_assoc, List.getElem?_append_left (by rw [List.length_take]; omega), List.getElem?_take, if_pos h1]
  · by_cases h2 : i < p + c.length
    · rw [if_pos (by omega), List.append_assoc, List.getElem?_append_right (by rw [List.length_take]; omega), List.getElem?_append_left (by rw [List.length_take]; omega), List.length_take]
      congr 1
      omega
    · rw [if_neg (by omega), List.getElem?_append_right (by rw [List.length_append, List.length_take]; omega), List.getElem?_drop, List.length_append, List.length_take]
      congr 1
      omega
theorem op_copy_n {t p i : Int} (h : ¬ (0 ≤ t ∧ t < 3 ∧ ipl S.1 i)) : op_copy S t p i = (-2, S) := by
  unfold op_copy
  have : @decide (0 ≤ t ∧ t < 3 ∧ ipl S.1 i) (Classical.propDecidable _) = false := by simpa using h
  rw [this]
theorem op_copy_y {t p i : Int} (h : 0 ≤ t ∧ t < 3 ∧ ipl S.1 i) : op_copy S t p i = match S.2.2.2.2.2 t.toNat with
    | none => (-6, S)
    | some l => if p < 0 ∨ (l.length : Int) - ((S.1.2.2.length : Int) - i) < p then (-7, S) else
      ((S.1.2.2.length : Int) - i, (S.1, S.2.1, S.2.2.1, S.2.2.2.1, S.2.2.2.2.1, fun u => if u = t.toNat then some (puts l p.toNat (cpl S.1 i.toNat)) else S.2.2.2.2.2 u)) := by
  unfold op_copy
  have : @decide (0 ≤ t ∧ t < 3 ∧ ipl S.1 i) (Classical.propDecidable _) = true := by simpa using h
  rw [this]
  rfl
theorem cpl_len (K : sK) (i : Nat) : (cpl K i).length = K.2.2.length - i := by unfold cpl; rw [List.length_map, List.length_range]
theorem cpl_get {K : sK} {i k : Nat} (h : k < K.2.2.length - i) : (cpl K i)[k]? = some (mk 62 (fun x => dK K x i (i + 1 + k)) : Int) := by
  unfold cpl
  rw [List.getElem?_map, List.getElem?_range h]
  rfl
theorem li_at {l : List Int} {f : Nat → Int} (h : ∀ k, k < l.length → l[k]? = some (f k)) (k : Nat) (hk : k < l.length) : l[k] = f k := by
  have := h k hk
  rw [List.getElem?_eq_getElem hk] at this
  exact Option.some.inj this
/-- the row behind a copy: read by places -/
theorem cpy_row {l : List Int} {i p : Nat} {f : Nat → Int} (h : p + (K.2.2.length - i) ≤ l.length) (g1 : ∀ k, k < K.2.2.length - i → f (p + k) = (mk 62 (fun x => dK K x i (i + 1 + k)) : Int)) (g2 : ∀ k (hk : k < l.length), ¬ (p ≤ k ∧ k < p + (K.2.2.length - i)) → f k = l[k]) :
    ∀ k (hk : k < (puts l p (cpl K i)).length), f k = (puts l p (cpl K i))[k] := by
  have hc : p + (cpl K i).length ≤ l.length := by rw [cpl_len]; exact h
  intro k hk
  have hk2 := hk
  rw [puts_len hc] at hk2
  refine (li_at (f := f) (fun k hk => ?_) k hk).symm
  rw [puts_len hc] at hk
  rw [puts_get hc, cpl_len]
  by_cases z : p ≤ k ∧ k < p + (K.2.2.length - i)
  · rw [if_pos z, cpl_get (by omega), ← g1 (k - p) (by omega), show p + (k - p) = k by omega]
  · rw [if_neg z, List.getElem?_eq_getElem hk, g2 k hk z]
theorem cpl_rng {K : sK} {i : Nat} : ∀ v ∈ cpl K i, 0 ≤ v ∧ v < 9223372036854775808 := fun v hv => by
  unfold cpl at hv
  obtain ⟨k, _, rfl⟩ := List.mem_map.mp hv
  have := mk_63 62 (fun x => dK K x i (i + 1 + k)) (by decide)
  exact ⟨by omega, by omega⟩
theorem puts_rng {l c : List Int} {p : Nat} (h1 : ∀ v ∈ l, 0 ≤ v ∧ v < 9223372036854775808) (h2 : ∀ v ∈ c, 0 ≤ v ∧ v < 9223372036854775808) : ∀ v ∈ puts l p c, 0 ≤ v ∧ v < 9223372036854775808 := fun v hv => by
  unfold puts at hv
  rcases List.mem_append.mp hv with hv | hv
  · rcases List.mem_append.mp hv with hv | hv
    · exact h1 v (List.mem_of_mem_take hv)
    · exact h2 v hv
  · exact h1 v (List.mem_of_mem_drop hv)
theorem m_copy {t p i : Int} (ht : go_iI t) (hp : go_iI p) (hi : go_iI i) (h : mx_at δ S) (hQ : ∀ δ', mx_at δ' (op_copy S t p i).2 → fl δ δ' → Q [vv_I (op_copy S t p i).1] go_φ δ') : Go E (d + 4) (0, 0) mx_X12_copy go_φ 0 [(0, vv_A 94), (1, vv_I t), (2, vv_I p), (3, vv_I i)] [] δ Q := by
  have hold : op_copy S t p i = op_copy S t p i := rfl
  by_cases hc : 0 ≤ t ∧ t < 3 ∧ ipl S.1 i
  · rw [op_copy_y hc] at hQ
    obtain ⟨hc1, hc2, hc3, hc4⟩ := hc
    obtain ⟨u, rfl⟩ : ∃ u : Nat, t = (u : Int) := ⟨t.toNat, by omega⟩
    obtain ⟨a, rfl⟩ : ∃ a : Nat, i = (a : Int) := ⟨i.toNat, by omega⟩
    rw [Int.toNat_natCast, Int.toNat_natCast] at hQ
    refine go_aload_n (i := 0) dx_X12_copy_0 rfl rfl ?_
    refine go_iconst dx_X12_copy_1 ?_
    refine go_putI fp_X12_139 rfl rfl (go_ok rfl rfl) dx_X12_copy_2 ?_
    have h := mx_thr (v := 0) h
    have f0 : fl δ (wr δ 94 0 0) := fl_thr
    generalize wr δ 94 0 0 = δ0 at h f0 ⊢
    have hQ := fun δ' a (b : fl δ0 δ') => hQ δ' a (fl_tr f0 b)
    have hsc := @mx_of δ0 S h
    have hb := h.1.1
    have hlaid := h.2
    have ho := bo_of hb
    have hR := ho.1
    have hms := h.1
    have h14 := hb.2.2.2.2.2.2.2.2.1
    have l134 : go_ln 134 = 60 := rfl
    have l135 : go_ln 135 = 3 := rfl
    have l107 : go_ln 107 = 256 := rfl
    have hy := h.1.2.2.2.2 u (by omega)
    have hrng : -1 ≤ δ0 135 u ∧ δ0 135 u ≤ 20 := by
      rcases hy with ⟨_, y⟩ | ⟨l, _, y1, y2, _⟩ <;> omega
    refine go_iload_n (i := 1) dx_X12_copy_5 rfl rfl ?_
    refine go_cS1 ss_X12_423 dx_X12_copy_6 (Nat.le_of_ble_eq_true rfl) (Nat.le_of_ble_eq_true rfl) (m_isTray ht (fun p1 p2 => ?_) (fun p1 => absurd ⟨by omega, by omega⟩ p1))
    refine go_if_eq (tgt := 20) dx_X12_copy_9 rfl (by omega) (fun c9 => absurd c9 (by decide)) (fun c9 => ?_)
    refine go_aload_n (i := 0) dx_X12_copy_12 rfl rfl ?_
    refine go_iload_n (i := 3) dx_X12_copy_13 rfl rfl ?_
    refine go_cV1 sv_X12_279 (go_ok rfl rfl) dx_X12_copy_14 (Nat.le_of_ble_eq_true rfl) (Nat.le_of_ble_eq_true rfl) (m_isPlace hi hb (fun p1 p2 => ?_) (fun p1 => absurd ⟨by omega, hc4⟩ p1))
    refine go_if_ne (tgt := 23) dx_X12_copy_17 rfl (by omega) (fun c17 => ?_) (fun c17 => absurd c17 (by decide))
    refine go_aload_n (i := 0) dx_X12_copy_23 rfl rfl ?_
    refine go_getA (b := 135) fs_X12_136 rfl (go_ok rfl rfl) rfl dx_X12_copy_24 ?_
    refine go_iload_n (i := 1) dx_X12_copy_27 rfl rfl ?_
    refine go_ialoadV (i := u) (v := ((δ0 135 u))) dx_X12_copy_28 (go_ok rfl rfl) (by omega) (show u < 3 by omega) (by rfl) ?_
    refine go_iconst dx_X12_copy_29 ?_
    refine go_icmp_ne (tgt := 36) dx_X12_copy_30 rfl (by omega) (by omega) (fun c30 => ?_) (fun c30 => ?_)
    · refine go_aload_n (i := 0) dx_X12_copy_36 rfl rfl ?_
      refine go_cV0 sv_X12_253 (go_ok rfl rfl) dx_X12_copy_37 (Nat.le_of_ble_eq_true rfl) (Nat.le_of_ble_eq_true rfl) (m_letters hb ?_)
      refine go_iload_n (i := 3) dx_X12_copy_40 rfl rfl ?_
      refine go_isub dx_X12_copy_41 ?_
      refine go_asI (y := ((S.1.2.2.length - a : Nat) : Int)) (by omega) ?_
      refine go_istore (lv' := [(0, vv_A 94), (1, vv_I (u : Int)), (2, vv_I p), (3, vv_I (a : Int)), (4, vv_I ((S.1.2.2.length - a : Nat) : Int))]) dx_X12_copy_42 (by decide) rfl ?_
      refine go_iload_n (i := 2) dx_X12_copy_44 rfl rfl ?_
      refine go_i2l dx_X12_copy_45 (by omega) ?_
      refine go_lconst (x := 0) dx_X12_copy_46 rfl ?_
      refine go_aload_n (i := 0) dx_X12_copy_47 rfl rfl ?_
      refine go_getA (b := 135) fs_X12_136 rfl (go_ok rfl rfl) rfl dx_X12_copy_48 ?_
      refine go_iload_n (i := 1) dx_X12_copy_51 rfl rfl ?_
      refine go_ialoadV (i := u) (v := ((δ0 135 u))) dx_X12_copy_52 (go_ok rfl rfl) (by omega) (show u < 3 by omega) (by rfl) ?_
      refine go_iload dx_X12_copy_53 rfl ?_
      refine go_isub dx_X12_copy_55 ?_
      refine go_i2l dx_X12_copy_56 (by omega) ?_
      refine go_cS3 ss_X12_144 dx_X12_copy_57 (Nat.le_of_ble_eq_true rfl) (Nat.le_of_ble_eq_true rfl) (m_within (by omega) (by omega) (by omega) (fun p3 p4 => ?_) (fun p5 => ?_))
      · refine go_if_ne (tgt := 66) dx_X12_copy_60 rfl (by omega) (fun c60 => ?_) (fun c60 => absurd c60 (by decide))
        rcases hy with ⟨y, z⟩ | ⟨l, y0, y1, y2, y3, y4⟩
        · exact absurd z (by assumption)
        · rw [y0] at hQ
          dsimp only at hQ
          rw [if_neg (by omega)] at hQ
          obtain ⟨b, rfl⟩ : ∃ b : Nat, p = (b : Int) := ⟨p.toNat, by omega⟩
          rw [Int.toNat_natCast] at hQ
          refine go_aload_n (i := 0) dx_X12_copy_66 rfl rfl ?_
          refine go_cV0 sv_X12_265 (go_ok rfl rfl) dx_X12_copy_67 (Nat.le_of_ble_eq_true rfl) (Nat.le_of_ble_eq_true rfl) (m_lays hb hlaid (fun δ3 w1 w2 w3 w4 f3 => ?_))
          have g134 : ∀ j, δ3 134 j = δ0 134 j := fun j => f3 134 j (by unfold mfP mqP; omega) (by decide) (by omega)
          have loop := lp_up (X := Nat → Nat → Int) (hi := S.1.2.2.length - a) (I := fun k δ4 => (∀ c j, c ≠ 134 → δ4 c j = δ3 c j) ∧ (∀ q, q < k → δ4 134 (20 * u + b + q) = (mk 62 (fun x => dK S.1 x a (a + 1 + q)) : Int)) ∧ (∀ q, ¬ (20 * u + b ≤ q ∧ q < 20 * u + b + (S.1.2.2.length - a)) → δ4 134 q = δ0 134 q))
            (G := fun k δ4 => Go E (d + 4) (0, 0) mx_X12_copy go_φ 73 [(0, vv_A 94), (1, vv_I (u : Int)), (2, vv_I (b : Int)), (3, vv_I (a : Int)), (4, vv_I ((S.1.2.2.length - a : Nat) : Int)), (5, vv_I (k : Int))] [] δ4 Q) (fun k δ4 hk hI ih => ?_) (fun δ4 hI => ?_)
          · refine go_iconst dx_X12_copy_70 ?_
            refine go_istore (lv' := [(0, vv_A 94), (1, vv_I (u : Int)), (2, vv_I (b : Int)), (3, vv_I (a : Int)), (4, vv_I ((S.1.2.2.length - a : Nat) : Int)), (5, vv_I 0)]) dx_X12_copy_71 (by decide) rfl ?_
            exact loop 0 δ3 (Nat.zero_le _) ⟨fun _ _ _ => rfl, fun q hq => absurd hq (Nat.not_lt_zero _), fun q _ => g134 q⟩
          · obtain ⟨i1, i2, i3⟩ := hI
            refine go_iload dx_X12_copy_73 rfl ?_
            refine go_iload dx_X12_copy_75 rfl ?_
            refine go_icmp_ge (tgt := 116) dx_X12_copy_77 rfl (by omega) (by omega) (fun c77 => by exact absurd c77 (by omega)) (fun c77 => ?_)
            refine go_aload_n (i := 0) dx_X12_copy_80 rfl rfl ?_
            refine go_getA (b := 134) fs_X12_133 rfl (go_ok rfl rfl) rfl dx_X12_copy_81 ?_
            refine go_bipush dx_X12_copy_84 rfl ?_
            refine go_iload_n (i := 1) dx_X12_copy_86 rfl rfl ?_
            refine go_imul dx_X12_copy_87 ?_
            refine go_iload_n (i := 2) dx_X12_copy_88 rfl rfl ?_
            refine go_iadd dx_X12_copy_89 ?_
            refine go_iload dx_X12_copy_90 rfl ?_
            refine go_iadd dx_X12_copy_92 ?_
            refine go_aload_n (i := 0) dx_X12_copy_93 rfl rfl ?_
            refine go_getA (b := 107) fs_X12_51 rfl (go_ok rfl rfl) rfl dx_X12_copy_94 ?_
            refine go_bipush dx_X12_copy_97 rfl ?_
            refine go_iload_n (i := 3) dx_X12_copy_99 rfl rfl ?_
            refine go_imul dx_X12_copy_100 ?_
            refine go_iload_n (i := 3) dx_X12_copy_101 rfl rfl ?_
            refine go_iadd dx_X12_copy_102 ?_
            refine go_iconst dx_X12_copy_103 ?_
            refine go_iadd dx_X12_copy_104 ?_
            refine go_iload dx_X12_copy_105 rfl ?_
            refine go_iadd dx_X12_copy_107 ?_
            refine go_laloadV (i := (16 * a + (a + 1 + k))) (v := ((mk 62 (fun x => dK S.1 x a (a + 1 + k)) : Int))) dx_X12_copy_108 (go_ok rfl rfl) (by omega) (show (16 * a + (a + 1 + k)) < 256 by omega) (by rw [i1 _ _ (by decide)]; exact w3 a (a + 1 + k) (by omega) (by omega)) ?_
            refine go_lastoreV (i := 20 * u + b + k) dx_X12_copy_109 (go_ok rfl rfl) (by omega) (show 20 * u + b + k < 60 by omega) ?_
            refine go_iinc (lv' := [(0, vv_A 94), (1, vv_I (u : Int)), (2, vv_I (b : Int)), (3, vv_I (a : Int)), (4, vv_I ((S.1.2.2.length - a : Nat) : Int)), (5, vv_I ((k : Int) + 1))]) dx_X12_copy_110 rfl (by decide) rfl ?_
            refine go_goto (tgt := 73) dx_X12_copy_113 rfl ?_
            refine ih _ ⟨fun c j hc => by rw [wr_n (by omega)]; exact i1 c j hc, fun q hq => ?_, fun q hq => by rw [wr_n (by omega)]; exact i3 q hq⟩
            by_cases z : q = k
            · subst z; rw [wr_eq]
            · rw [wr_n (by omega)]; exact i2 q (by omega)
          · obtain ⟨i1, i2, i3⟩ := hI
            have hlen : b + (cpl S.1 a).length ≤ l.length := by rw [cpl_len]; omega
            refine go_iload dx_X12_copy_73 rfl ?_
            refine go_iload dx_X12_copy_75 rfl ?_
            refine go_icmp_ge (tgt := 116) dx_X12_copy_77 rfl (by omega) (by omega) (fun c77 => ?_) (fun c77 => by exact absurd c77 (by omega))
            refine go_iload dx_X12_copy_116 rfl ?_
            refine go_ireturn dx_X12_copy_118 rfl (Nat.le_refl _) (Nat.le_refl _) ?_
            have fr : ∀ c j, c ≠ 134 → ¬ sc c j → δ4 c j = δ0 c j := fun c j h1 hc => by unfold sc at hc; rw [i1 c j h1, f3 c j (by unfold mfP mqP; omega) (by omega) (by omega)]
            rw [show (S.1.2.2.length : Int) - (a : Int) = ((S.1.2.2.length - a : Nat) : Int) by omega] at hQ
            refine hQ δ4 ⟨⟨bk_fr hb (fun j => fr 95 j (by decide) (by unfold sc; omega)), tm_fr hms.2.1 (fun j hj => fr 94 j (by decide) (by unfold sc; omega)) (fun j => fr 98 j (by decide) (by unfold sc; omega)), pm_fr hms.2.2.1 (fr 94 3 (by decide) (by unfold sc; omega)) (fun j => fr 96 j (by decide) (by unfold sc; omega)), jm_fr hms.2.2.2.1 (fun j => fr 97 j (by decide) (by unfold sc; omega)) (fun j _ => fr 95 j (by decide) (by unfold sc; omega)), fun v hv => ?_⟩, ml_fr (ml_1 w1 w2 w3) (fun c j hc => i1 c j (by omega))⟩ (fun c hc j => fr c j (by omega) (by unfold sc; omega))
            by_cases z : v = u
            · subst z
              refine Or.inr ⟨puts l b (cpl S.1 a), if_pos rfl, by rw [puts_len hlen]; exact y1, by rw [puts_len hlen, fr 135 v (by decide) (by unfold sc; omega)]; exact y2, cpy_row (f := fun k => δ4 134 (20 * v + k)) (by omega) (fun k hk => by rw [← i2 k hk, Nat.add_assoc]) (fun k hk hn => by rw [← y3 k hk]; exact i3 _ (by omega)), puts_rng y4 cpl_rng⟩
            · rcases hms.2.2.2.2 v hv with ⟨g1, g2⟩ | ⟨l', g1, g2, g3, g4, g5⟩
              · exact Or.inl ⟨by show (if v = u then _ else _) = _; rw [if_neg z]; exact g1, by rw [fr 135 v (by decide) (by unfold sc; omega)]; exact g2⟩
              · exact Or.inr ⟨l', by show (if v = u then _ else _) = _; rw [if_neg z]; exact g1, g2, by rw [fr 135 v (by decide) (by unfold sc; omega)]; exact g3, fun k hk => by rw [i3 _ (by omega)]; exact g4 k hk, g5⟩
      · refine go_if_ne (tgt := 66) dx_X12_copy_60 rfl (by omega) (fun c60 => absurd c60 (by decide)) (fun c60 => ?_)
        rcases hy with ⟨y, z⟩ | ⟨l, y0, y1, y2, _⟩
        · exact absurd z (by assumption)
        · rw [y0] at hQ
          dsimp only at hQ
          rw [if_pos (by omega)] at hQ
          refine go_bipush dx_X12_copy_63 rfl ?_
          refine go_ireturn dx_X12_copy_65 rfl (Nat.le_refl _) (Nat.le_refl _) ?_
          exact hQ δ0 h fl_rf
    · refine go_bipush dx_X12_copy_33 rfl ?_
      refine go_ireturn dx_X12_copy_35 rfl (Nat.le_refl _) (Nat.le_refl _) ?_
      rcases hy with ⟨y, _⟩ | ⟨l, _, y1, y2, _⟩
      · rw [y] at hQ; exact hQ δ0 h fl_rf
      · omega
  · rw [op_copy_n hc] at hQ
    refine go_aload_n (i := 0) dx_X12_copy_0 rfl rfl ?_
    refine go_iconst dx_X12_copy_1 ?_
    refine go_putI fp_X12_139 rfl rfl (go_ok rfl rfl) dx_X12_copy_2 ?_
    have h := mx_thr (v := 0) h
    have f0 : fl δ (wr δ 94 0 0) := fl_thr
    generalize wr δ 94 0 0 = δ0 at h f0 ⊢
    have hQ := fun δ' a (b : fl δ0 δ') => hQ δ' a (fl_tr f0 b)
    have hsc := @mx_of δ0 S h
    have hb := h.1.1
    have hlaid := h.2
    have ho := bo_of hb
    have hR := ho.1
    have hQ := hQ δ0 h fl_rf
    refine go_iload_n (i := 1) dx_X12_copy_5 rfl rfl ?_
    refine go_cS1 ss_X12_423 dx_X12_copy_6 (Nat.le_of_ble_eq_true rfl) (Nat.le_of_ble_eq_true rfl) (m_isTray ht (fun p1 p2 => ?_) (fun p1 => ?_))
    · refine go_if_eq (tgt := 20) dx_X12_copy_9 rfl (by omega) (fun c9 => absurd c9 (by decide)) (fun c9 => ?_)
      refine go_aload_n (i := 0) dx_X12_copy_12 rfl rfl ?_
      refine go_iload_n (i := 3) dx_X12_copy_13 rfl rfl ?_
      refine go_cV1 sv_X12_279 (go_ok rfl rfl) dx_X12_copy_14 (Nat.le_of_ble_eq_true rfl) (Nat.le_of_ble_eq_true rfl) (m_isPlace hi hb (fun p3 p4 => absurd ⟨p1, by omega, p3, p4⟩ hc) (fun p1 => ?_))
      refine go_if_ne (tgt := 23) dx_X12_copy_17 rfl (by omega) (fun c17 => absurd c17 (by decide)) (fun c17 => ?_)
      refine go_bipush dx_X12_copy_20 rfl ?_
      refine go_ireturn dx_X12_copy_22 rfl (Nat.le_refl _) (Nat.le_refl _) ?_
      exact hQ
    · refine go_if_eq (tgt := 20) dx_X12_copy_9 rfl (by omega) (fun c9 => ?_) (fun c9 => absurd c9 (by decide))
      refine go_bipush dx_X12_copy_20 rfl ?_
      refine go_ireturn dx_X12_copy_22 rfl (Nat.le_refl _) (Nat.le_refl _) ?_
      exact hQ
end GMCE
