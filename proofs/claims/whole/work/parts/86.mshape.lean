/-! the reference's calls: shapes -/
theorem pla_sh (i s c : Nat) : pla (i + s) c ↔ pla i c := Iff.rfl
noncomputable def fA (R : Nat → List Nat) (l : List Nat) (n : Nat) : Nat := fit (Tn R pla) pla l 0 n
noncomputable def pA (R : Nat → List Nat) (p n : Nat) : Nat := pw (Tn R pla) pla p 0 n
noncomputable def gbA (R : Nat → List Nat) (z n r : Nat) : Nat := gb (Tn R pla) pla (R r) z 0 n
noncomputable def gA (R : Nat → List Nat) (z n : Nat) : Nat := Gn R pla z 0 n
noncomputable def tA (R : Nat → List Nat) (x n : Nat) : Nat := Tn R pla x 0 n
def tb_at (δ : Nat → Nat → Int) (R : Nat → List Nat) (s : Nat) : Prop := ∀ x, x < 8 → ∀ a, 1 ≤ a → a < s → δ 132 (16 * x + a) = st (tA R x a)
section GSH
variable {R : Nat → List Nat}
theorem fA_cons {y e : Nat} {l : List Nat} : fA R (y :: l) e = su (e + 1) (fun a => nif (0 < a) (pA R y a * fA R l (e - a))) := by
  unfold fA
  rw [fit_cons]
  refine su_congr (fun a ha => ?_)
  by_cases h : 0 < a
  · rw [nif_t h, nif_t h]
    have := fit_shift (t := Tn R pla) (pl := pla) pla_sh a (fun p i j => Tn_shift pla_sh a p i j) l 0 (e - a)
    rw [Nat.zero_add, show e - a + a = e by omega] at this
    rw [this]
    rfl
  · rw [nif_f h, nif_f h]
theorem fA_nil {n : Nat} : fA R [] n = n01 (n = 0) := by
  show n01 (0 = n) = _
  by_cases h : n = 0
  · rw [n01_t h.symm, n01_t h]
  · rw [n01_f (fun q => h q.symm), n01_f h]
theorem fA_0 {l : List Nat} (h : l ≠ []) : fA R l 0 = 0 := fit_nil (Nat.le_refl _) h
theorem gbA_no {z n r : Nat} (h : ¬ (2 ≤ (R r).length ∧ ¬ ((R r).length = 2 ∧ (R r).getD 1 0 < 8))) : gbA R z n r = 0 := nif_f (fun q => h q.2)
theorem gbA_yes {n r : Nat} (h : 2 ≤ (R r).length ∧ ¬ ((R r).length = 2 ∧ (R r).getD 1 0 < 8)) : gbA R ((R r).getD 0 0) n r = fA R ((R r).drop 1) n := nif_t ⟨rfl, h⟩
theorem gbA_ne {z n r : Nat} (h : (R r).getD 0 0 ≠ z) : gbA R z n r = 0 := nif_f (fun q => h q.1)
theorem gA_su {z n : Nat} : gA R z n = su 16 (gbA R z n) := rfl
theorem tA_su {x n : Nat} : tA R x n = su 8 (fun y => wy (un R) 8 (0 ||| 2 ^ x) x y * gA R y n) := by rw [Nat.zero_or]; exact Tn_eq x 0 n
end GSH
section GSH2
variable {E : go_E} {d : Nat} {δ : Nat → Nat → Int} {Q : List go_V → go_F → (Nat → Nat → Int) → Prop} {K : sK} {S : sS} {R : Nat → List Nat}
theorem m_partBy {p a s : Nat} (ht : tb_at δ R s) (hp : p < 14) (h1 : 1 ≤ a) (h14 : a ≤ 14) (hs : 8 ≤ p ∨ a < s) (hQ : Q [vv_L (st (pA R p a))] go_φ δ) : Go E d (0, 0) mx_X12_partBy go_φ 0 [(0, vv_A 94), (1, vv_I (p : Int)), (2, vv_I (a : Int))] [] δ Q := by
  have l132 : go_ln 132 = 128 := rfl
  unfold pA pw at hQ
  by_cases h8 : p < 8
  · rw [if_pos h8] at hQ
    refine go_iload_n (i := 1) dx_X12_partBy_0 rfl rfl ?_
    refine go_bipush dx_X12_partBy_1 rfl ?_
    refine go_icmp_lt (tgt := 17) dx_X12_partBy_3 rfl (by omega) (by omega) (fun c3 => ?_) (fun c3 => by exact absurd c3 (by omega))
    refine go_aload_n (i := 0) dx_X12_partBy_17 rfl rfl ?_
    refine go_getA (b := 132) fs_X12_127 rfl (go_ok rfl rfl) rfl dx_X12_partBy_18 ?_
    refine go_bipush dx_X12_partBy_21 rfl ?_
    refine go_iload_n (i := 1) dx_X12_partBy_23 rfl rfl ?_
    refine go_imul dx_X12_partBy_24 ?_
    refine go_iload_n (i := 2) dx_X12_partBy_25 rfl rfl ?_
    refine go_iadd dx_X12_partBy_26 ?_
    refine go_laloadV (i := (16 * p + a)) (v := ((st (tA R p a)))) dx_X12_partBy_27 (go_ok rfl rfl) (by omega) (show (16 * p + a) < 128 by omega) (by exact ht p h8 a h1 (by omega)) ?_
    refine go_lreturn dx_X12_partBy_28 rfl (Nat.le_refl _) (Nat.le_refl _) ?_
    exact hQ
  · rw [if_neg h8] at hQ
    refine go_iload_n (i := 1) dx_X12_partBy_0 rfl rfl ?_
    refine go_bipush dx_X12_partBy_1 rfl ?_
    refine go_icmp_lt (tgt := 17) dx_X12_partBy_3 rfl (by omega) (by omega) (fun c3 => by exact absurd c3 (by omega)) (fun c3 => ?_)
    refine go_iload_n (i := 2) dx_X12_partBy_6 rfl rfl ?_
    refine go_iconst dx_X12_partBy_7 ?_
    refine go_icmp_ne (tgt := 15) dx_X12_partBy_8 rfl (by omega) (by omega) (fun c8 => ?_) (fun c8 => ?_)
    · refine go_lconst (x := 0) dx_X12_partBy_15 rfl ?_
      refine go_lreturn dx_X12_partBy_16 rfl (Nat.le_refl _) (Nat.le_refl _) ?_
      first | (rw [n01_f (fun q => by omega), st_0] at hQ; exact hQ) | (rw [n01_t ⟨by omega, (show 8 ≤ p ∧ p < 14 by omega)⟩, st_small (by decide)] at hQ; exact hQ)
    · refine go_lconst (x := 1) dx_X12_partBy_11 rfl ?_
      refine go_goto (tgt := 16) dx_X12_partBy_12 rfl ?_
      refine go_lreturn dx_X12_partBy_16 rfl (Nat.le_refl _) (Nat.le_refl _) ?_
      first | (rw [n01_f (fun q => by omega), st_0] at hQ; exact hQ) | (rw [n01_t ⟨by omega, (show 8 ≤ p ∧ p < 14 by omega)⟩, st_small (by decide)] at hQ; exact hQ)
theorem m_ruleBy {r n : Nat} (hb : bo_at δ R) (ht : tb_at δ R n) (hr : r < 16) (h2 : 2 ≤ (R r).length) (h1 : (R r).length = 2 → 8 ≤ (R r).getD 1 0) (hn : 1 ≤ n) (h14 : n ≤ 14)
    (hQ : ∀ δ', (∀ c q, c ≠ 133 → δ' c q = δ c q) → Q [vv_L (st (fA R ((R r).drop 1) n))] go_φ δ') :
    Go E (d + 1) (0, 0) mx_X12_ruleBy go_φ 0 [(0, vv_A 94), (1, vv_I (r : Int)), (2, vv_I (n : Int))] [] δ Q := by
  have hR := hb.1
  have l133 : go_ln 133 = 96 := rfl
  have hlen := (hR r).len
  obtain ⟨ps, hps⟩ : ∃ ps, ps = (R r).drop 1 := ⟨_, rfl⟩
  have hpl : ps.length = (R r).length - 1 := by rw [hps, List.length_drop]
  have hpg : ∀ k, ps.getD k 0 = (R r).getD (k + 1) 0 := fun k => by rw [hps, List.getD_eq_getElem?_getD, List.getD_eq_getElem?_getD, List.getElem?_drop, Nat.add_comm]
  have hp14 : ∀ k, k < ps.length → ps.getD k 0 < 14 := fun k hk => by rw [hpg]; exact rl_getD_lt (hR r) (by omega)
  rw [← hps] at hQ
  have outer := lp_dn (X := Nat → Nat → Int) (I := fun k δ1 => k ≤ ps.length + 1 ∧ (∀ k' e, k' ≤ ps.length → e ≤ n → (e < n ∨ k' = 0) → k ≤ k' → δ1 133 (16 * k' + e) = st (fA R (ps.drop k') e)) ∧ (∀ c q, c ≠ 133 → δ1 c q = δ c q))
    (G := fun k δ1 => Go E (d + 1) (0, 0) mx_X12_ruleBy go_φ 6 [(0, vv_A 94), (1, vv_I (r : Int)), (2, vv_I (n : Int)), (3, vv_I ((k : Int) - 1))] [] δ1 Q) (fun k δ1 hI ih => ?_) (fun δ1 hI => ?_)
  · refine go_aload_n (i := 0) dx_X12_ruleBy_0 rfl rfl ?_
    refine go_iload_n (i := 1) dx_X12_ruleBy_1 rfl rfl ?_
    refine go_cV1 sv_X12_148 (go_ok rfl rfl) dx_X12_ruleBy_2 (Nat.le_of_ble_eq_true rfl) (Nat.le_of_ble_eq_true rfl) (o_longOf hb hr ?_)
    refine go_asI (y := (ps.length : Int)) (by rw [hpl]) ?_
    refine go_istore_n (i := 3) (lv' := [(0, vv_A 94), (1, vv_I (r : Int)), (2, vv_I (n : Int)), (3, vv_I (ps.length : Int))]) dx_X12_ruleBy_5 rfl (by decide) rfl ?_
    have t := outer (ps.length + 1) δ ⟨Nat.le_refl _, fun k' e a _ _ b => by omega, fun _ _ _ => rfl⟩
    rw [show (((ps.length + 1 : Nat) : Int) - 1) = (ps.length : Int) by omega] at t
    exact t
  · obtain ⟨i0, i1, i2⟩ := hI
    rw [show (((k + 1 : Nat) : Int) - 1) = (k : Int) by omega]
    have ih2 : ∀ δ2, (∀ k' e, k' ≤ ps.length → e ≤ n → (e < n ∨ k' = 0) → k ≤ k' → δ2 133 (16 * k' + e) = st (fA R (ps.drop k') e)) → (∀ c q, c ≠ 133 → δ2 c q = δ c q) → Go E (d + 1) (0, 0) mx_X12_ruleBy go_φ 6 [(0, vv_A 94), (1, vv_I (r : Int)), (2, vv_I (n : Int)), (3, vv_I ((k : Int) - 1))] [] δ2 Q := fun δ2 a b => ih δ2 ⟨by omega, a, b⟩
    have inner := lp_up (X := Nat → Nat → Int) (hi := n + 1) (I := fun e δ2 => (∀ k' e', k' ≤ ps.length → e' ≤ n → (e' < n ∨ k' = 0) → (k < k' ∨ (k = k' ∧ e' < e)) → δ2 133 (16 * k' + e') = st (fA R (ps.drop k') e')) ∧ (∀ c q, c ≠ 133 → δ2 c q = δ c q))
      (G := fun e δ2 => Go E (d + 1) (0, 0) mx_X12_ruleBy go_φ 13 [(0, vv_A 94), (1, vv_I (r : Int)), (2, vv_I (n : Int)), (3, vv_I (k : Int)), (4, vv_I (e : Int))] [] δ2 Q) (fun e δ2 he hI2 ih3 => ?_) (fun δ2 hI2 => ?_)
    · refine go_iload_n (i := 3) dx_X12_ruleBy_6 rfl rfl ?_
      refine go_if_lt (tgt := 145) dx_X12_ruleBy_7 rfl (by omega) (fun c7 => by exact absurd c7 (by omega)) (fun c7 => ?_)
      refine go_iconst dx_X12_ruleBy_10 ?_
      refine go_istore (lv' := [(0, vv_A 94), (1, vv_I (r : Int)), (2, vv_I (n : Int)), (3, vv_I (k : Int)), (4, vv_I 0)]) dx_X12_ruleBy_11 (by decide) rfl ?_
      exact inner 0 δ1 (Nat.zero_le _) ⟨fun k' e a b c f => i1 k' e a b c (by omega), i2⟩
    · obtain ⟨j1, j2⟩ := hI2
      have hb2 : bo_at δ2 R := bo_fr hb (fun q _ => j2 95 q (by decide))
      have ht2 : tb_at δ2 R n := fun x hx a b c => by rw [j2 132 _ (by decide)]; exact ht x hx a b c
      have tail : ∀ v : Nat, ((e < n ∨ k = 0) → v = fA R (ps.drop k) e) → Go E (d + 1) (0, 0) mx_X12_ruleBy go_φ 119 [(0, vv_A 94), (1, vv_I (r : Int)), (2, vv_I (n : Int)), (3, vv_I (k : Int)), (4, vv_I (e : Int)), (5, vv_L (st v))] [] δ2 Q := fun v hv => by
        refine go_aload_n (i := 0) dx_X12_ruleBy_119 rfl rfl ?_
        refine go_getA (b := 133) fs_X12_130 rfl (go_ok rfl rfl) rfl dx_X12_ruleBy_120 ?_
        refine go_bipush dx_X12_ruleBy_123 rfl ?_
        refine go_iload_n (i := 3) dx_X12_ruleBy_125 rfl rfl ?_
        refine go_imul dx_X12_ruleBy_126 ?_
        refine go_iload dx_X12_ruleBy_127 rfl ?_
        refine go_iadd dx_X12_ruleBy_129 ?_
        refine go_lload dx_X12_ruleBy_130 rfl ?_
        refine go_lastoreV (i := 16 * k + e) dx_X12_ruleBy_132 (go_ok rfl rfl) (by omega) (show 16 * k + e < 96 by omega) ?_
        refine go_iinc (lv' := [(0, vv_A 94), (1, vv_I (r : Int)), (2, vv_I (n : Int)), (3, vv_I (k : Int)), (4, vv_I ((e : Int) + 1)), (5, vv_L (st v))]) dx_X12_ruleBy_133 rfl (by decide) rfl ?_
        refine go_goto (tgt := 13) dx_X12_ruleBy_136 rfl ?_
        refine go_keep [0, 1, 2, 3, 4] rfl ?_
        refine ih3 _ ⟨fun k' e' a b c f => ?_, fun c q hc => by rw [wr_n (by omega)]; exact j2 c q hc⟩
        by_cases z : k' = k ∧ e' = e
        · obtain ⟨z1, z2⟩ := z
          rw [z1, z2, wr_eq, hv (by omega)]
        · rw [wr_n (by omega)]
          exact j1 k' e' a b c (by omega)
      by_cases hkn : k = ps.length
      · have hv : fA R (ps.drop k) e = n01 (e = 0) := by rw [hkn, List.drop_length]; exact fA_nil
        refine go_iload dx_X12_ruleBy_13 rfl ?_
        refine go_iload_n (i := 2) dx_X12_ruleBy_15 rfl rfl ?_
        refine go_icmp_gt (tgt := 139) dx_X12_ruleBy_16 rfl (by omega) (by omega) (fun c16 => by exact absurd c16 (by omega)) (fun c16 => ?_)
        refine go_iload_n (i := 3) dx_X12_ruleBy_19 rfl rfl ?_
        refine go_aload_n (i := 0) dx_X12_ruleBy_20 rfl rfl ?_
        refine go_iload_n (i := 1) dx_X12_ruleBy_21 rfl rfl ?_
        refine go_cV1 sv_X12_148 (go_ok rfl rfl) dx_X12_ruleBy_22 (Nat.le_of_ble_eq_true rfl) (Nat.le_of_ble_eq_true rfl) (o_longOf hb2 hr ?_)
        refine go_icmp_ne (tgt := 37) dx_X12_ruleBy_25 rfl (by omega) (by omega) (fun c25 => by exact absurd c25 (by omega)) (fun c25 => ?_)
        refine go_iload dx_X12_ruleBy_28 rfl ?_
        refine go_if_ne (tgt := 37) dx_X12_ruleBy_30 rfl (by omega) (fun c30 => ?_) (fun c30 => ?_)
        · refine go_lconst (x := 0) dx_X12_ruleBy_37 rfl ?_
          refine go_lstore (lv' := [(0, vv_A 94), (1, vv_I (r : Int)), (2, vv_I (n : Int)), (3, vv_I (k : Int)), (4, vv_I (e : Int)), (5, vv_L 0)]) dx_X12_ruleBy_38 (by decide) rfl ?_
          refine go_iconst dx_X12_ruleBy_40 ?_
          refine go_istore (lv' := [(0, vv_A 94), (1, vv_I (r : Int)), (2, vv_I (n : Int)), (3, vv_I (k : Int)), (4, vv_I (e : Int)), (5, vv_L 0), (7, vv_I 1)]) dx_X12_ruleBy_41 (by decide) rfl ?_
          refine go_iload dx_X12_ruleBy_43 rfl ?_
          refine go_iload dx_X12_ruleBy_45 rfl ?_
          refine go_icmp_gt (tgt := 119) dx_X12_ruleBy_47 rfl (by omega) (by omega) (fun c47 => ?_) (fun c47 => ?_)
          · refine go_keep [0, 1, 2, 3, 4, 5] rfl ?_
            first
            | (have t := tail 0 (fun _ => by rw [hv, n01_f (by omega)])
               rw [st_0] at t
               exact t)
            | (have t := tail 1 (fun _ => by rw [hv, n01_t (by omega)])
               rw [st_small (by decide)] at t
               exact t)
          · refine go_iload_n (i := 3) dx_X12_ruleBy_50 rfl rfl ?_
            refine go_aload_n (i := 0) dx_X12_ruleBy_51 rfl rfl ?_
            refine go_iload_n (i := 1) dx_X12_ruleBy_52 rfl rfl ?_
            refine go_cV1 sv_X12_148 (go_ok rfl rfl) dx_X12_ruleBy_53 (Nat.le_of_ble_eq_true rfl) (Nat.le_of_ble_eq_true rfl) (o_longOf hb2 hr ?_)
            refine go_icmp_ge (tgt := 119) dx_X12_ruleBy_56 rfl (by omega) (by omega) (fun c56 => ?_) (fun c56 => by exact absurd c56 (by omega))
            refine go_keep [0, 1, 2, 3, 4, 5] rfl ?_
            first
            | (have t := tail 0 (fun _ => by rw [hv, n01_f (by omega)])
               rw [st_0] at t
               exact t)
            | (have t := tail 1 (fun _ => by rw [hv, n01_t (by omega)])
               rw [st_small (by decide)] at t
               exact t)
        · refine go_lconst (x := 1) dx_X12_ruleBy_33 rfl ?_
          refine go_goto (tgt := 38) dx_X12_ruleBy_34 rfl ?_
          refine go_lstore (lv' := [(0, vv_A 94), (1, vv_I (r : Int)), (2, vv_I (n : Int)), (3, vv_I (k : Int)), (4, vv_I (e : Int)), (5, vv_L 1)]) dx_X12_ruleBy_38 (by decide) rfl ?_
          refine go_iconst dx_X12_ruleBy_40 ?_
          refine go_istore (lv' := [(0, vv_A 94), (1, vv_I (r : Int)), (2, vv_I (n : Int)), (3, vv_I (k : Int)), (4, vv_I (e : Int)), (5, vv_L 1), (7, vv_I 1)]) dx_X12_ruleBy_41 (by decide) rfl ?_
          refine go_iload dx_X12_ruleBy_43 rfl ?_
          refine go_iload dx_X12_ruleBy_45 rfl ?_
          refine go_icmp_gt (tgt := 119) dx_X12_ruleBy_47 rfl (by omega) (by omega) (fun c47 => ?_) (fun c47 => ?_)
          · refine go_keep [0, 1, 2, 3, 4, 5] rfl ?_
            first
            | (have t := tail 0 (fun _ => by rw [hv, n01_f (by omega)])
               rw [st_0] at t
               exact t)
            | (have t := tail 1 (fun _ => by rw [hv, n01_t (by omega)])
               rw [st_small (by decide)] at t
               exact t)
          · refine go_iload_n (i := 3) dx_X12_ruleBy_50 rfl rfl ?_
            refine go_aload_n (i := 0) dx_X12_ruleBy_51 rfl rfl ?_
            refine go_iload_n (i := 1) dx_X12_ruleBy_52 rfl rfl ?_
            refine go_cV1 sv_X12_148 (go_ok rfl rfl) dx_X12_ruleBy_53 (Nat.le_of_ble_eq_true rfl) (Nat.le_of_ble_eq_true rfl) (o_longOf hb2 hr ?_)
            refine go_icmp_ge (tgt := 119) dx_X12_ruleBy_56 rfl (by omega) (by omega) (fun c56 => ?_) (fun c56 => by exact absurd c56 (by omega))
            refine go_keep [0, 1, 2, 3, 4, 5] rfl ?_
            first
            | (have t := tail 0 (fun _ => by rw [hv, n01_f (by omega)])
               rw [st_0] at t
               exact t)
            | (have t := tail 1 (fun _ => by rw [hv, n01_t (by omega)])
               rw [st_small (by decide)] at t
               exact t)
      · have hkl : k < ps.length := by omega
        obtain ⟨F, hF⟩ : ∃ F : Nat → Nat, F = fun a => nif (0 < a ∧ (a < n ∨ ps.length = 1)) (pA R (ps.getD k 0) a * fA R (ps.drop (k + 1)) (e - a)) := ⟨_, rfl⟩
        have hfin : (e < n ∨ k = 0) → su (e + 1) F = fA R (ps.drop k) e := fun hc => by
          rw [li_drop1 hkl, fA_cons, hF]
          refine su_congr (fun a ha => ?_)
          by_cases z : 0 < a
          · by_cases y : a < n ∨ ps.length = 1
            · rw [nif_t ⟨z, y⟩, nif_t z]
            · rw [nif_f (fun q => y q.2), nif_t z]
              have : fA R (ps.drop (k + 1)) (e - a) = 0 := by
                rw [show e - a = 0 by omega]
                refine fA_0 (fun q => ?_)
                have := congrArg List.length q
                rw [List.length_drop, List.length_nil] at this
                omega
              rw [this, Nat.mul_zero]
          · rw [nif_f (fun q => z q.1), nif_f z]
        have sums := lp_up (X := Unit) (hi := e + 1) (I := fun a _ => 1 ≤ a)
          (G := fun a _ => ∀ lv0, lv0 = [(0, vv_A 94), (1, vv_I (r : Int)), (2, vv_I (n : Int)), (3, vv_I (k : Int)), (4, vv_I (e : Int)), (5, vv_L (st (su a F))), (7, vv_I (a : Int))] → Go E (d + 1) (0, 0) mx_X12_ruleBy go_φ 43 lv0 [] δ2 Q)
          (fun a _ ha hI3 ih4 lv0 e0 => by
            subst e0
            have ih4 := ih4 () (by omega)
            have hsu : su (a + 1) F = su a F + F a := su_s a F
            rw [hsu] at ih4
            have hFa : F a = nif (0 < a ∧ (a < n ∨ ps.length = 1)) (pA R (ps.getD k 0) a * fA R (ps.drop (k + 1)) (e - a)) := by rw [hF]
            have hfi := j1 (k + 1) (e - a) (by omega) (by omega) (by omega) (Or.inl (Nat.lt_succ_self _))
            by_cases hy : a < n ∨ ps.length = 1
            · rw [nif_t ⟨by omega, hy⟩] at hFa
              rw [hFa] at ih4
              have hp8 : ps.length = 1 → 8 ≤ ps.getD k 0 := fun q => by rw [hpg]; have := h1 (by omega); rw [show k + 1 = 1 by omega]; exact this
              refine go_iload dx_X12_ruleBy_43 rfl ?_
              refine go_iload dx_X12_ruleBy_45 rfl ?_
              refine go_icmp_gt (tgt := 119) dx_X12_ruleBy_47 rfl (by omega) (by omega) (fun c47 => by exact absurd c47 (by omega)) (fun c47 => ?_)
              refine go_iload_n (i := 3) dx_X12_ruleBy_50 rfl rfl ?_
              refine go_aload_n (i := 0) dx_X12_ruleBy_51 rfl rfl ?_
              refine go_iload_n (i := 1) dx_X12_ruleBy_52 rfl rfl ?_
              refine go_cV1 sv_X12_148 (go_ok rfl rfl) dx_X12_ruleBy_53 (Nat.le_of_ble_eq_true rfl) (Nat.le_of_ble_eq_true rfl) (o_longOf hb2 hr ?_)
              refine go_icmp_ge (tgt := 119) dx_X12_ruleBy_56 rfl (by omega) (by omega) (fun c56 => by exact absurd c56 (by omega)) (fun c56 => ?_)
              refine go_iload dx_X12_ruleBy_59 rfl ?_
              refine go_iload_n (i := 2) dx_X12_ruleBy_61 rfl rfl ?_
              refine go_icmp_lt (tgt := 74) dx_X12_ruleBy_62 rfl (by omega) (by omega) (fun c62 => ?_) (fun c62 => ?_)
              · refine go_lload dx_X12_ruleBy_74 rfl ?_
                refine go_aload_n (i := 0) dx_X12_ruleBy_76 rfl rfl ?_
                refine go_aload_n (i := 0) dx_X12_ruleBy_77 rfl rfl ?_
                refine go_iload_n (i := 1) dx_X12_ruleBy_78 rfl rfl ?_
                refine go_iload_n (i := 3) dx_X12_ruleBy_79 rfl rfl ?_
                refine go_cV2 sv_X12_190 (go_ok rfl rfl) dx_X12_ruleBy_80 (Nat.le_of_ble_eq_true rfl) (Nat.le_of_ble_eq_true rfl) (o_partOf hb2 hr (by omega) ?_)
                refine go_asI (y := ((ps.getD k 0 : Nat) : Int)) (by rw [hpg]) ?_
                refine go_iload dx_X12_ruleBy_83 rfl ?_
                refine go_cV2 sv_X12_414 (go_ok rfl rfl) dx_X12_ruleBy_85 (Nat.le_of_ble_eq_true rfl) (Nat.le_of_ble_eq_true rfl) (m_partBy ht2 (hp14 k hkl) (by omega) (by omega) (by omega) ?_)
                refine go_aload_n (i := 0) dx_X12_ruleBy_88 rfl rfl ?_
                refine go_getA (b := 133) fs_X12_130 rfl (go_ok rfl rfl) rfl dx_X12_ruleBy_89 ?_
                refine go_bipush dx_X12_ruleBy_92 rfl ?_
                refine go_iload_n (i := 3) dx_X12_ruleBy_94 rfl rfl ?_
                refine go_iconst dx_X12_ruleBy_95 ?_
                refine go_iadd dx_X12_ruleBy_96 ?_
                refine go_imul dx_X12_ruleBy_97 ?_
                refine go_iload dx_X12_ruleBy_98 rfl ?_
                refine go_iadd dx_X12_ruleBy_100 ?_
                refine go_iload dx_X12_ruleBy_101 rfl ?_
                refine go_isub dx_X12_ruleBy_103 ?_
                refine go_laloadV (i := (16 * (k + 1) + (e - a))) (v := ((st (fA R (ps.drop (k + 1)) (e - a))))) dx_X12_ruleBy_104 (go_ok rfl rfl) (by omega) (show (16 * (k + 1) + (e - a)) < 96 by omega) (by exact hfi) ?_
                refine go_cS2 ss_X12_297 dx_X12_ruleBy_105 (Nat.le_of_ble_eq_true rfl) (Nat.le_of_ble_eq_true rfl) (m_times ?_)
                refine go_cS2 ss_X12_300 dx_X12_ruleBy_108 (Nat.le_of_ble_eq_true rfl) (Nat.le_of_ble_eq_true rfl) (m_plus ?_)
                refine go_lstore (lv' := [(0, vv_A 94), (1, vv_I (r : Int)), (2, vv_I (n : Int)), (3, vv_I (k : Int)), (4, vv_I (e : Int)), (5, vv_L (st (su a F + pA R (ps.getD k 0) a * fA R (ps.drop (k + 1)) (e - a)))), (7, vv_I (a : Int))]) dx_X12_ruleBy_111 (by decide) rfl ?_
                refine go_iinc (lv' := [(0, vv_A 94), (1, vv_I (r : Int)), (2, vv_I (n : Int)), (3, vv_I (k : Int)), (4, vv_I (e : Int)), (5, vv_L (st (su a F + pA R (ps.getD k 0) a * fA R (ps.drop (k + 1)) (e - a)))), (7, vv_I ((a : Int) + 1))]) dx_X12_ruleBy_113 rfl (by decide) rfl ?_
                refine go_goto (tgt := 43) dx_X12_ruleBy_116 rfl ?_
                first | exact ih4 _ rfl | (exfalso; omega)
              · refine go_aload_n (i := 0) dx_X12_ruleBy_65 rfl rfl ?_
                refine go_iload_n (i := 1) dx_X12_ruleBy_66 rfl rfl ?_
                refine go_cV1 sv_X12_148 (go_ok rfl rfl) dx_X12_ruleBy_67 (Nat.le_of_ble_eq_true rfl) (Nat.le_of_ble_eq_true rfl) (o_longOf hb2 hr ?_)
                refine go_iconst dx_X12_ruleBy_70 ?_
                refine go_icmp_ne (tgt := 113) dx_X12_ruleBy_71 rfl (by omega) (by omega) (fun c71 => ?_) (fun c71 => ?_)
                · refine go_iinc (lv' := [(0, vv_A 94), (1, vv_I (r : Int)), (2, vv_I (n : Int)), (3, vv_I (k : Int)), (4, vv_I (e : Int)), (5, vv_L (st (su a F))), (7, vv_I ((a : Int) + 1))]) dx_X12_ruleBy_113 rfl (by decide) rfl ?_
                  refine go_goto (tgt := 43) dx_X12_ruleBy_116 rfl ?_
                  first | exact ih4 _ rfl | (exfalso; omega)
                · refine go_lload dx_X12_ruleBy_74 rfl ?_
                  refine go_aload_n (i := 0) dx_X12_ruleBy_76 rfl rfl ?_
                  refine go_aload_n (i := 0) dx_X12_ruleBy_77 rfl rfl ?_
                  refine go_iload_n (i := 1) dx_X12_ruleBy_78 rfl rfl ?_
                  refine go_iload_n (i := 3) dx_X12_ruleBy_79 rfl rfl ?_
                  refine go_cV2 sv_X12_190 (go_ok rfl rfl) dx_X12_ruleBy_80 (Nat.le_of_ble_eq_true rfl) (Nat.le_of_ble_eq_true rfl) (o_partOf hb2 hr (by omega) ?_)
                  refine go_asI (y := ((ps.getD k 0 : Nat) : Int)) (by rw [hpg]) ?_
                  refine go_iload dx_X12_ruleBy_83 rfl ?_
                  refine go_cV2 sv_X12_414 (go_ok rfl rfl) dx_X12_ruleBy_85 (Nat.le_of_ble_eq_true rfl) (Nat.le_of_ble_eq_true rfl) (m_partBy ht2 (hp14 k hkl) (by omega) (by omega) (by omega) ?_)
                  refine go_aload_n (i := 0) dx_X12_ruleBy_88 rfl rfl ?_
                  refine go_getA (b := 133) fs_X12_130 rfl (go_ok rfl rfl) rfl dx_X12_ruleBy_89 ?_
                  refine go_bipush dx_X12_ruleBy_92 rfl ?_
                  refine go_iload_n (i := 3) dx_X12_ruleBy_94 rfl rfl ?_
                  refine go_iconst dx_X12_ruleBy_95 ?_
                  refine go_iadd dx_X12_ruleBy_96 ?_
                  refine go_imul dx_X12_ruleBy_97 ?_
                  refine go_iload dx_X12_ruleBy_98 rfl ?_
                  refine go_iadd dx_X12_ruleBy_100 ?_
                  refine go_iload dx_X12_ruleBy_101 rfl ?_
                  refine go_isub dx_X12_ruleBy_103 ?_
                  refine go_laloadV (i := (16 * (k + 1) + (e - a))) (v := ((st (fA R (ps.drop (k + 1)) (e - a))))) dx_X12_ruleBy_104 (go_ok rfl rfl) (by omega) (show (16 * (k + 1) + (e - a)) < 96 by omega) (by exact hfi) ?_
                  refine go_cS2 ss_X12_297 dx_X12_ruleBy_105 (Nat.le_of_ble_eq_true rfl) (Nat.le_of_ble_eq_true rfl) (m_times ?_)
                  refine go_cS2 ss_X12_300 dx_X12_ruleBy_108 (Nat.le_of_ble_eq_true rfl) (Nat.le_of_ble_eq_true rfl) (m_plus ?_)
                  refine go_lstore (lv' := [(0, vv_A 94), (1, vv_I (r : Int)), (2, vv_I (n : Int)), (3, vv_I (k : Int)), (4, vv_I (e : Int)), (5, vv_L (st (su a F + pA R (ps.getD k 0) a * fA R (ps.drop (k + 1)) (e - a)))), (7, vv_I (a : Int))]) dx_X12_ruleBy_111 (by decide) rfl ?_
                  refine go_iinc (lv' := [(0, vv_A 94), (1, vv_I (r : Int)), (2, vv_I (n : Int)), (3, vv_I (k : Int)), (4, vv_I (e : Int)), (5, vv_L (st (su a F + pA R (ps.getD k 0) a * fA R (ps.drop (k + 1)) (e - a)))), (7, vv_I ((a : Int) + 1))]) dx_X12_ruleBy_113 rfl (by decide) rfl ?_
                  refine go_goto (tgt := 43) dx_X12_ruleBy_116 rfl ?_
                  first | exact ih4 _ rfl | (exfalso; omega)
            · rw [nif_f (fun q => hy q.2)] at hFa
              rw [hFa, Nat.add_zero] at ih4
              refine go_iload dx_X12_ruleBy_43 rfl ?_
              refine go_iload dx_X12_ruleBy_45 rfl ?_
              refine go_icmp_gt (tgt := 119) dx_X12_ruleBy_47 rfl (by omega) (by omega) (fun c47 => by exact absurd c47 (by omega)) (fun c47 => ?_)
              refine go_iload_n (i := 3) dx_X12_ruleBy_50 rfl rfl ?_
              refine go_aload_n (i := 0) dx_X12_ruleBy_51 rfl rfl ?_
              refine go_iload_n (i := 1) dx_X12_ruleBy_52 rfl rfl ?_
              refine go_cV1 sv_X12_148 (go_ok rfl rfl) dx_X12_ruleBy_53 (Nat.le_of_ble_eq_true rfl) (Nat.le_of_ble_eq_true rfl) (o_longOf hb2 hr ?_)
              refine go_icmp_ge (tgt := 119) dx_X12_ruleBy_56 rfl (by omega) (by omega) (fun c56 => by exact absurd c56 (by omega)) (fun c56 => ?_)
              refine go_iload dx_X12_ruleBy_59 rfl ?_
              refine go_iload_n (i := 2) dx_X12_ruleBy_61 rfl rfl ?_
              refine go_icmp_lt (tgt := 74) dx_X12_ruleBy_62 rfl (by omega) (by omega) (fun c62 => by exact absurd (Or.inl (by omega)) hy) (fun c62 => ?_)
              refine go_aload_n (i := 0) dx_X12_ruleBy_65 rfl rfl ?_
              refine go_iload_n (i := 1) dx_X12_ruleBy_66 rfl rfl ?_
              refine go_cV1 sv_X12_148 (go_ok rfl rfl) dx_X12_ruleBy_67 (Nat.le_of_ble_eq_true rfl) (Nat.le_of_ble_eq_true rfl) (o_longOf hb2 hr ?_)
              refine go_iconst dx_X12_ruleBy_70 ?_
              refine go_icmp_ne (tgt := 113) dx_X12_ruleBy_71 rfl (by omega) (by omega) (fun c71 => ?_) (fun c71 => by exact absurd (Or.inr (by omega)) hy)
              refine go_iinc (lv' := [(0, vv_A 94), (1, vv_I (r : Int)), (2, vv_I (n : Int)), (3, vv_I (k : Int)), (4, vv_I (e : Int)), (5, vv_L (st (su a F))), (7, vv_I ((a : Int) + 1))]) dx_X12_ruleBy_113 rfl (by decide) rfl ?_
              refine go_goto (tgt := 43) dx_X12_ruleBy_116 rfl ?_
              exact ih4 _ rfl
          ) (fun _ _ lv0 e0 => by
            subst e0
            refine go_iload dx_X12_ruleBy_43 rfl ?_
            refine go_iload dx_X12_ruleBy_45 rfl ?_
            refine go_icmp_gt (tgt := 119) dx_X12_ruleBy_47 rfl (by omega) (by omega) (fun c47 => ?_) (fun c47 => by exact absurd c47 (by omega))
            refine go_keep [0, 1, 2, 3, 4, 5] rfl ?_
            exact tail _ hfin
          )
        refine go_iload dx_X12_ruleBy_13 rfl ?_
        refine go_iload_n (i := 2) dx_X12_ruleBy_15 rfl rfl ?_
        refine go_icmp_gt (tgt := 139) dx_X12_ruleBy_16 rfl (by omega) (by omega) (fun c16 => by exact absurd c16 (by omega)) (fun c16 => ?_)
        refine go_iload_n (i := 3) dx_X12_ruleBy_19 rfl rfl ?_
        refine go_aload_n (i := 0) dx_X12_ruleBy_20 rfl rfl ?_
        refine go_iload_n (i := 1) dx_X12_ruleBy_21 rfl rfl ?_
        refine go_cV1 sv_X12_148 (go_ok rfl rfl) dx_X12_ruleBy_22 (Nat.le_of_ble_eq_true rfl) (Nat.le_of_ble_eq_true rfl) (o_longOf hb2 hr ?_)
        refine go_icmp_ne (tgt := 37) dx_X12_ruleBy_25 rfl (by omega) (by omega) (fun c25 => ?_) (fun c25 => by exact absurd c25 (by omega))
        refine go_lconst (x := 0) dx_X12_ruleBy_37 rfl ?_
        refine go_lstore (lv' := [(0, vv_A 94), (1, vv_I (r : Int)), (2, vv_I (n : Int)), (3, vv_I (k : Int)), (4, vv_I (e : Int)), (5, vv_L 0)]) dx_X12_ruleBy_38 (by decide) rfl ?_
        refine go_iconst dx_X12_ruleBy_40 ?_
        refine go_istore (lv' := [(0, vv_A 94), (1, vv_I (r : Int)), (2, vv_I (n : Int)), (3, vv_I (k : Int)), (4, vv_I (e : Int)), (5, vv_L 0), (7, vv_I 1)]) dx_X12_ruleBy_41 (by decide) rfl ?_
        have t := sums 1 () (by omega) (Nat.le_refl _) _ rfl
        rw [su_zero (n := 1) (f := F) (fun a ha => by rw [hF]; exact nif_f (fun q => by omega)), st_0] at t
        exact t
    · obtain ⟨j1, j2⟩ := hI2
      refine go_iload dx_X12_ruleBy_13 rfl ?_
      refine go_iload_n (i := 2) dx_X12_ruleBy_15 rfl rfl ?_
      refine go_icmp_gt (tgt := 139) dx_X12_ruleBy_16 rfl (by omega) (by omega) (fun c16 => ?_) (fun c16 => by exact absurd c16 (by omega))
      refine go_iinc (lv' := [(0, vv_A 94), (1, vv_I (r : Int)), (2, vv_I (n : Int)), (3, vv_I ((k : Int) + (-1))), (4, vv_I ((n + 1 : Nat) : Int))]) dx_X12_ruleBy_139 rfl (by decide) rfl ?_
      refine go_goto (tgt := 6) dx_X12_ruleBy_142 rfl ?_
      refine go_keep [0, 1, 2, 3] rfl ?_
      exact ih2 δ2 (fun k' e' a b c f => j1 k' e' a b c (by omega)) j2
  · obtain ⟨i0, i1, i2⟩ := hI
    refine go_iload_n (i := 3) dx_X12_ruleBy_6 rfl rfl ?_
    refine go_if_lt (tgt := 145) dx_X12_ruleBy_7 rfl (by omega) (fun c7 => ?_) (fun c7 => by exact absurd c7 (by omega))
    refine go_aload_n (i := 0) dx_X12_ruleBy_145 rfl rfl ?_
    refine go_getA (b := 133) fs_X12_130 rfl (go_ok rfl rfl) rfl dx_X12_ruleBy_146 ?_
    refine go_iload_n (i := 2) dx_X12_ruleBy_149 rfl rfl ?_
    refine go_laloadV (i := n) (v := ((st (fA R ps n)))) dx_X12_ruleBy_150 (go_ok rfl rfl) (by omega) (show n < 96 by omega) (by have := i1 0 n (Nat.zero_le _) (Nat.le_refl _) (Or.inr rfl) (Nat.le_refl _); rw [List.drop_zero, Nat.mul_zero, Nat.zero_add] at this; exact this) ?_
    refine go_lreturn dx_X12_ruleBy_151 rfl (Nat.le_refl _) (Nat.le_refl _) ?_
    exact hQ δ1 i2
end GSH2
