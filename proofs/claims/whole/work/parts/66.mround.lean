/-! the reference: round by round -/
def rr_at (δ : Nat → Nat → Int) (c : Nat) (K : sK) (n : Nat) : Prop := ∀ i j, i < j → j ≤ K.2.2.length → δ c (16 * i + j) = (mk 62 (fun x => rd K.1 n x (sl K.2.2 i j)) : Int)
def rg_at (δ : Nat → Nat → Int) (K : sK) (n i0 j0 : Nat) : Prop := ∀ i j, i < j → j ≤ K.2.2.length → (i < i0 ∨ (i = i0 ∧ j < j0)) → δ 109 (16 * i + j) = (mk 62 (fun x => rd K.1 n x (sl K.2.2 i j)) : Int)
def rnw (K : sK) (n i j : Nat) : Prop := n = 0 ∨ ∃ x, rd K.1 n x (sl K.2.2 i j) ∧ ¬ rd K.1 (n - 1) x (sl K.2.2 i j)
def rnp (K : sK) (n i0 j0 : Nat) : Prop := ∃ i j, i < j ∧ j ≤ K.2.2.length ∧ (i < i0 ∨ (i = i0 ∧ j < j0)) ∧ rnw K n i j
def rcp (K : sK) (n i j m y : Nat) : Prop := rd K.1 n y (sl K.2.2 i j) ∨ ∃ e, e ∈ gP K.1 ∧ e.1 = y ∧ ∃ k, i < k ∧ k < m ∧ k < j ∧ rd K.1 n e.2.1 (sl K.2.2 i k) ∧ rd K.1 n e.2.2.1 (sl K.2.2 k j)
section GRDM
variable {K : sK}
theorem rd_bit (hR : ∀ r, rl_ok (K.1 r)) {n x : Nat} {u : List Nat} : (mk 62 (fun x => rd K.1 n x u)).testBit x = true ↔ rd K.1 n x u := by
  rw [mk_bit]
  exact ⟨fun q => q.2, fun q => ⟨by have := dx_lt hR (rd_dx hR q); have := gH_le hR; omega, q⟩⟩
theorem rcp_rdS (hR : ∀ r, rl_ok (K.1 r)) {n i j y : Nat} (hij : i < j) (hj : j ≤ K.2.2.length) : rcp K n i j j y ↔ rdS K.1 (rd K.1 n) y (sl K.2.2 i j) := by
  constructor
  · rintro (h | ⟨e, he, h1, k, k1, k2, _, k4, k5⟩)
    · exact Or.inl h
    · exact Or.inr ⟨e, he, h1, _, _, sl_app (by omega) (by omega) hj, k4, k5⟩
  · rintro (h | ⟨e, he, h1, a, b, h2, h3, h4⟩)
    · exact Or.inl h
    · obtain ⟨k, k1, k2, rfl, rfl⟩ := sl_cut h2 hj (rd_dx hR h3).1 (rd_dx hR h4).1
      exact Or.inr ⟨e, he, h1, k, k1, k2, k2, h3, h4⟩
theorem lf_rd {n : Nat} {u : List Nat} {s x : Nat} {D : Nat → List Nat → Prop} (hs : ∀ y, s.testBit y = true ↔ D y u) (e : ∀ x, rd K.1 n x u ↔ D x u ∨ ∃ y, ut K.1 x y ∧ D y u) : lf K.1 s x ↔ rd K.1 n x u := by
  rw [e]
  unfold lf
  rw [hs]
  exact ⟨fun q => q.imp id (fun ⟨y, y1, y2⟩ => ⟨y, y1, (hs y).mp y2⟩), fun q => q.imp id (fun ⟨y, y1, y2⟩ => ⟨y, y1, (hs y).mpr y2⟩)⟩
end GRDM
theorem bv_or1 (P : Prop) : bv_or (b01 P) 1 = 1 := by rcases b01_01 P with h | h <;> rw [h] <;> rfl
theorem bv_or0 (P : Prop) : bv_or (b01 P) 0 = b01 P := by rcases b01_01 P with h | h <;> rw [h] <;> rfl
section GMRO
variable {E : go_E} {d : Nat} {δ : Nat → Nat → Int} {Q : List go_V → go_F → (Nat → Nat → Int) → Prop} {S : sS} {K : sK}
theorem m_goesRound {n : Nat} (hb : bk_at δ 95 0 K) (hm : mq_at δ (gP K.1) (gH K.1)) (hn : n < 2147483648) (hbef : 0 < n → rr_at δ 108 K (n - 1))
    (hQ : ∀ δ', rr_at δ' 108 K n → (∀ c j, c ≠ 108 → c ≠ 109 → δ' c j = δ c j) → Q [vv_I (b01 (rnp K n K.2.2.length 0))] go_φ δ') :
    Go E (d + 2) (0, 0) mx_X12_goesRound go_φ 0 [(0, vv_A 94), (1, vv_I (n : Int))] [] δ Q := by
  have hR := (bo_of hb).1
  have h14 := hb.2.2.2.2.2.2.2.2.1
  have hlet := hb.2.2.2.2.2.2.2.2.2
  have l95 : go_ln 95 = 384 := rfl
  have l108 : go_ln 108 = 256 := rfl
  have l109 : go_ln 109 = 256 := rfl
  have outer := lp_up (X := Nat → Nat → Int) (hi := K.2.2.length) (I := fun i δ1 => rg_at δ1 K n i 0 ∧ (∀ c j, c ≠ 109 → δ1 c j = δ c j))
    (G := fun i δ1 => Go E (d + 2) (0, 0) mx_X12_goesRound go_φ 4 [(0, vv_A 94), (1, vv_I (n : Int)), (2, vv_I (b01 (rnp K n i 0))), (3, vv_I (i : Int))] [] δ1 Q) (fun i δ1 hi hI ih => ?_) (fun δ1 hI => ?_)
  · refine go_iconst dx_X12_goesRound_0 ?_
    refine go_istore_n (i := 2) (lv' := [(0, vv_A 94), (1, vv_I (n : Int)), (2, vv_I 0)]) dx_X12_goesRound_1 rfl (by decide) rfl ?_
    refine go_iconst dx_X12_goesRound_2 ?_
    refine go_istore_n (i := 3) (lv' := [(0, vv_A 94), (1, vv_I (n : Int)), (2, vv_I 0), (3, vv_I 0)]) dx_X12_goesRound_3 rfl (by decide) rfl ?_
    have k := outer 0 δ (Nat.zero_le _) ⟨fun a b _ _ z => by omega, fun _ _ _ => rfl⟩
    rw [b01_f (P := rnp K n 0 0) (fun ⟨a, b, _, _, z, _⟩ => by omega)] at k
    exact k
  · have inner := lp_up (X := Nat → Nat → Int) (hi := K.2.2.length - i) (I := fun t δ1 => rg_at δ1 K n i (i + 1 + t) ∧ (∀ c j, c ≠ 109 → δ1 c j = δ c j))
      (G := fun t δ1 => Go E (d + 2) (0, 0) mx_X12_goesRound go_φ 17 [(0, vv_A 94), (1, vv_I (n : Int)), (2, vv_I (b01 (rnp K n i (i + 1 + t)))), (3, vv_I (i : Int)), (4, vv_I ((i + 1 + t : Nat) : Int))] [] δ1 Q) (fun t δ2 ht hI2 ih2 => ?_) (fun δ2 hI2 => ?_)
    · obtain ⟨i1, i2⟩ := hI
      have hb1 : bk_at δ1 95 0 K := bk_fr hb (fun j => i2 95 j (by decide))
      refine go_iload_n (i := 3) dx_X12_goesRound_4 rfl rfl ?_
      refine go_aload_n (i := 0) dx_X12_goesRound_5 rfl rfl ?_
      refine go_cV0 sv_X12_253 (go_ok rfl rfl) dx_X12_goesRound_6 (Nat.le_of_ble_eq_true rfl) (Nat.le_of_ble_eq_true rfl) (m_letters hb1 ?_)
      refine go_icmp_ge (tgt := 196) dx_X12_goesRound_9 rfl (by omega) (by omega) (fun c9 => by exact absurd c9 (by omega)) (fun c9 => ?_)
      refine go_iload_n (i := 3) dx_X12_goesRound_12 rfl rfl ?_
      refine go_iconst dx_X12_goesRound_13 ?_
      refine go_iadd dx_X12_goesRound_14 ?_
      refine go_istore (lv' := [(0, vv_A 94), (1, vv_I (n : Int)), (2, vv_I (b01 (rnp K n i 0))), (3, vv_I (i : Int)), (4, vv_I ((i + 1 + 0 : Nat) : Int))]) dx_X12_goesRound_15 (by decide) rfl ?_
      have k := inner 0 δ1 (Nat.zero_le _) ⟨fun a b h1 h2 z => i1 a b h1 h2 (by omega), i2⟩
      rw [b01_c (P := rnp K n i (i + 1 + 0)) (P' := rnp K n i 0) ⟨fun ⟨a, b, h1, h2, z, w⟩ => ⟨a, b, h1, h2, by omega, w⟩, fun ⟨a, b, h1, h2, z, w⟩ => ⟨a, b, h1, h2, by omega, w⟩⟩] at k
      exact k
    · obtain ⟨j1, j2⟩ := hI2
      obtain ⟨j, hj⟩ : ∃ j, j = i + 1 + t := ⟨_, rfl⟩
      rw [← hj] at j1 ⊢
      have ih3 := ih2
      rw [show i + 1 + (t + 1) = j + 1 by omega] at ih3
      have hij : i < j := by omega
      have hjn : j ≤ K.2.2.length := by omega
      have hb2 : bk_at δ2 95 0 K := bk_fr hb (fun q => j2 95 q (by decide))
      have hm2 : mq_at δ2 (gP K.1) (gH K.1) := mq_fr hm (fun c q hc => j2 c q (by unfold mqP at hc; omega))
      have tail : ∀ s : Nat, s < 2 ^ 62 → (∀ x, lf K.1 s x ↔ rd K.1 n x (sl K.2.2 i j)) → Go E (d + 2) (0, 0) mx_X12_goesRound go_φ 126 [(0, vv_A 94), (1, vv_I (n : Int)), (2, vv_I (b01 (rnp K n i j))), (3, vv_I (i : Int)), (4, vv_I (j : Int)), (5, vv_L (s : Int))] [] δ2 Q := fun s hs hlf => by
        have fin : ∀ δ3, δ3 = wr δ2 109 (16 * i + j) (mk 62 (lf K.1 s) : Int) → ∀ v : Int, v = b01 (rnp K n i (j + 1)) → Go E (d + 2) (0, 0) mx_X12_goesRound go_φ 184 [(0, vv_A 94), (1, vv_I (n : Int)), (2, vv_I v), (3, vv_I (i : Int)), (4, vv_I (j : Int))] [] δ3 Q := fun δ3 e3 v ev => by
          subst ev e3
          refine go_iinc (lv' := [(0, vv_A 94), (1, vv_I (n : Int)), (2, vv_I (b01 (rnp K n i (j + 1)))), (3, vv_I (i : Int)), (4, vv_I ((j : Int) + 1))]) dx_X12_goesRound_184 rfl (by decide) rfl ?_
          refine go_goto (tgt := 17) dx_X12_goesRound_187 rfl ?_
          refine ih3 _ ⟨fun a b h1 h2 z => ?_, fun c q hc => by rw [wr_n (by omega)]; exact j2 c q hc⟩
          by_cases w : a = i ∧ b = j
          · obtain ⟨w1, w2⟩ := w
            rw [w1, w2, wr_eq]
            exact congrArg _ (mk_congr (fun x _ => hlf x))
          · rw [wr_n (by omega)]
            exact j1 a b h1 h2 (by omega)
        have up : rnp K n i (j + 1) ↔ rnp K n i j ∨ rnw K n i j := ⟨fun ⟨a, b, h1, h2, z, w⟩ => by
          by_cases q : a = i ∧ b = j
          · obtain ⟨q1, q2⟩ := q; subst q1; rw [q2] at w; exact Or.inr w
          · exact Or.inl ⟨a, b, h1, h2, by omega, w⟩, fun q => q.elim (fun ⟨a, b, h1, h2, z, w⟩ => ⟨a, b, h1, h2, by omega, w⟩) (fun w => ⟨i, j, hij, hjn, by omega, w⟩)⟩
        refine go_aload_n (i := 0) dx_X12_goesRound_126 rfl rfl ?_
        refine go_getA (b := 109) fs_X12_58 rfl (go_ok rfl rfl) rfl dx_X12_goesRound_127 ?_
        refine go_bipush dx_X12_goesRound_130 rfl ?_
        refine go_iload_n (i := 3) dx_X12_goesRound_132 rfl rfl ?_
        refine go_imul dx_X12_goesRound_133 ?_
        refine go_iload dx_X12_goesRound_134 rfl ?_
        refine go_iadd dx_X12_goesRound_136 ?_
        refine go_aload_n (i := 0) dx_X12_goesRound_137 rfl rfl ?_
        refine go_lload dx_X12_goesRound_138 rfl ?_
        refine go_cV1 sv_X12_249 (go_ok rfl rfl) dx_X12_goesRound_140 (Nat.le_of_ble_eq_true rfl) (Nat.le_of_ble_eq_true rfl) (m_closed (bo_of hb2) hs ?_)
        refine go_lastoreV (i := 16 * i + j) dx_X12_goesRound_143 (go_ok rfl rfl) (by omega) (show 16 * i + j < 256 by omega) ?_
        refine go_iload_n (i := 2) dx_X12_goesRound_144 rfl rfl ?_
        refine go_iload_n (i := 1) dx_X12_goesRound_145 rfl rfl ?_
        refine go_if_eq (tgt := 177) dx_X12_goesRound_146 rfl (by omega) (fun c146 => ?_) (fun c146 => ?_)
        · refine go_iconst dx_X12_goesRound_177 ?_
          refine go_goto (tgt := 182) dx_X12_goesRound_178 rfl ?_
          refine go_ior dx_X12_goesRound_182 ?_
          refine go_nmI (fun isn eisn => ?_)
          refine go_istore_n (i := 2) (lv' := [(0, vv_A 94), (1, vv_I (n : Int)), (2, vv_I isn), (3, vv_I (i : Int)), (4, vv_I (j : Int)), (5, vv_L (s : Int))]) dx_X12_goesRound_183 rfl (by decide) rfl ?_
          refine go_keep [0, 1, 2, 3, 4] rfl ?_
          refine fin _ rfl _ ?_
          rw [eisn, bv_or1, b01_t (up.mpr (Or.inr (Or.inl (by omega))))]
        · refine go_aload_n (i := 0) dx_X12_goesRound_149 rfl rfl ?_
          refine go_getA (b := 109) fs_X12_58 rfl (go_ok rfl rfl) rfl dx_X12_goesRound_150 ?_
          refine go_bipush dx_X12_goesRound_153 rfl ?_
          refine go_iload_n (i := 3) dx_X12_goesRound_155 rfl rfl ?_
          refine go_imul dx_X12_goesRound_156 ?_
          refine go_iload dx_X12_goesRound_157 rfl ?_
          refine go_iadd dx_X12_goesRound_159 ?_
          refine go_laloadV (i := (16 * i + j)) (v := ((mk 62 (lf K.1 s) : Int))) dx_X12_goesRound_160 (go_ok rfl rfl) (by omega) (show (16 * i + j) < 256 by omega) (by exact wr_eq _ _ _ _) ?_
          refine go_aload_n (i := 0) dx_X12_goesRound_161 rfl rfl ?_
          refine go_getA (b := 108) fs_X12_55 rfl (go_ok rfl rfl) rfl dx_X12_goesRound_162 ?_
          refine go_bipush dx_X12_goesRound_165 rfl ?_
          refine go_iload_n (i := 3) dx_X12_goesRound_167 rfl rfl ?_
          refine go_imul dx_X12_goesRound_168 ?_
          refine go_iload dx_X12_goesRound_169 rfl ?_
          refine go_iadd dx_X12_goesRound_171 ?_
          refine go_laloadV (i := (16 * i + j)) (v := ((mk 62 (fun x => rd K.1 (n - 1) x (sl K.2.2 i j)) : Int))) dx_X12_goesRound_172 (go_ok rfl rfl) (by omega) (show (16 * i + j) < 256 by omega) (by rw [wr_n (by omega), j2 108 _ (by decide)]; exact hbef (by omega) i j hij hjn) ?_
          refine go_lcmp_eq (tgt := 181) dx_X12_goesRound_173 dx_X12_goesRound_174 rfl (by first | omega | (have := mk_63 62 (lf K.1 s) (by decide); have := mk_63 62 (fun x => rd K.1 (n - 1) x (sl K.2.2 i j)) (by decide); omega)) (by first | omega | (have := mk_63 62 (lf K.1 s) (by decide); have := mk_63 62 (fun x => rd K.1 (n - 1) x (sl K.2.2 i j)) (by decide); omega)) (fun c173 => ?_) (fun c173 => ?_)
          · refine go_iconst dx_X12_goesRound_181 ?_
            refine go_ior dx_X12_goesRound_182 ?_
            refine go_nmI (fun isn eisn => ?_)
            refine go_istore_n (i := 2) (lv' := [(0, vv_A 94), (1, vv_I (n : Int)), (2, vv_I isn), (3, vv_I (i : Int)), (4, vv_I (j : Int)), (5, vv_L (s : Int))]) dx_X12_goesRound_183 rfl (by decide) rfl ?_
            refine go_keep [0, 1, 2, 3, 4] rfl ?_
            refine fin _ rfl _ ?_
            rw [eisn, bv_or0]
            refine b01_c ⟨fun q => up.mpr (Or.inl q), fun q => (up.mp q).elim id (fun w => ?_)⟩
            have e2 : mk 62 (lf K.1 s) = mk 62 (fun x => rd K.1 (n - 1) x (sl K.2.2 i j)) := by omega
            rcases w with w | ⟨x, x1, x2⟩
            · omega
            · refine absurd ((rd_bit hR).mp ?_) x2
              rw [← e2, mk_bit]
              exact ⟨by have := dx_lt hR (rd_dx hR x1); have := gH_le hR; omega, (hlf x).mpr x1⟩
          · refine go_iconst dx_X12_goesRound_177 ?_
            refine go_goto (tgt := 182) dx_X12_goesRound_178 rfl ?_
            refine go_ior dx_X12_goesRound_182 ?_
            refine go_nmI (fun isn eisn => ?_)
            refine go_istore_n (i := 2) (lv' := [(0, vv_A 94), (1, vv_I (n : Int)), (2, vv_I isn), (3, vv_I (i : Int)), (4, vv_I (j : Int)), (5, vv_L (s : Int))]) dx_X12_goesRound_183 rfl (by decide) rfl ?_
            refine go_keep [0, 1, 2, 3, 4] rfl ?_
            refine fin _ rfl _ ?_
            rw [eisn, bv_or1, b01_t (up.mpr (Or.inr (Or.inr (Classical.byContradiction (fun w => ?_)))))]
            refine absurd (show ((mk 62 (lf K.1 s) : Nat) : Int) = (mk 62 (fun x => rd K.1 (n - 1) x (sl K.2.2 i j)) : Nat) from congrArg _ (mk_congr (fun x _ => (hlf x).trans ⟨fun q => Classical.byContradiction (fun z => w ⟨x, q, z⟩), fun q => rd_mono (Nat.sub_le _ _) q⟩))) (by assumption)
      have cuts := lp_up (X := Unit) (hi := j - i - 1) (I := fun _ _ => True)
        (G := fun k _ => 0 < n → ∀ lv0, lv0 = [(0, vv_A 94), (1, vv_I (n : Int)), (2, vv_I (b01 (rnp K n i j))), (3, vv_I (i : Int)), (4, vv_I (j : Int)), (5, vv_L (mk 62 (rcp K (n - 1) i j (i + 1 + k)) : Int)), (7, vv_I ((i + 1 + k : Nat) : Int))] → Go E (d + 2) (0, 0) mx_X12_goesRound go_φ 75 lv0 [] δ2 Q)
        (fun k _ hk _ ih3 hpos lv0 e0 => by
          subst e0
          refine go_iload dx_X12_goesRound_75 rfl ?_
          refine go_iload dx_X12_goesRound_77 rfl ?_
          refine go_icmp_ge (tgt := 126) dx_X12_goesRound_79 rfl (by omega) (by omega) (fun c79 => by exact absurd c79 (by omega)) (fun c79 => ?_)
          refine go_iload_n (i := 1) dx_X12_goesRound_82 rfl rfl ?_
          refine go_if_le (tgt := 126) dx_X12_goesRound_83 rfl (by omega) (fun c83 => by exact absurd c83 (by omega)) (fun c83 => ?_)
          refine go_lload dx_X12_goesRound_86 rfl ?_
          refine go_aload_n (i := 0) dx_X12_goesRound_88 rfl rfl ?_
          refine go_aload_n (i := 0) dx_X12_goesRound_89 rfl rfl ?_
          refine go_getA (b := 108) fs_X12_55 rfl (go_ok rfl rfl) rfl dx_X12_goesRound_90 ?_
          refine go_bipush dx_X12_goesRound_93 rfl ?_
          refine go_iload_n (i := 3) dx_X12_goesRound_95 rfl rfl ?_
          refine go_imul dx_X12_goesRound_96 ?_
          refine go_iload dx_X12_goesRound_97 rfl ?_
          refine go_iadd dx_X12_goesRound_99 ?_
          refine go_laloadV (i := (16 * i + (i + 1 + k))) (v := ((mk 62 (fun x => rd K.1 (n - 1) x (sl K.2.2 i (i + 1 + k))) : Int))) dx_X12_goesRound_100 (go_ok rfl rfl) (by omega) (show (16 * i + (i + 1 + k)) < 256 by omega) (by rw [j2 108 _ (by decide)]; exact hbef hpos _ _ (by omega) (by omega)) ?_
          refine go_aload_n (i := 0) dx_X12_goesRound_101 rfl rfl ?_
          refine go_getA (b := 108) fs_X12_55 rfl (go_ok rfl rfl) rfl dx_X12_goesRound_102 ?_
          refine go_bipush dx_X12_goesRound_105 rfl ?_
          refine go_iload dx_X12_goesRound_107 rfl ?_
          refine go_imul dx_X12_goesRound_109 ?_
          refine go_iload dx_X12_goesRound_110 rfl ?_
          refine go_iadd dx_X12_goesRound_112 ?_
          refine go_laloadV (i := (16 * (i + 1 + k) + j)) (v := ((mk 62 (fun x => rd K.1 (n - 1) x (sl K.2.2 (i + 1 + k) j)) : Int))) dx_X12_goesRound_113 (go_ok rfl rfl) (by omega) (show (16 * (i + 1 + k) + j) < 256 by omega) (by rw [j2 108 _ (by decide)]; exact hbef hpos _ _ (by omega) (by omega)) ?_
          refine go_cV2 sv_X12_245 (go_ok rfl rfl) dx_X12_goesRound_114 (Nat.le_of_ble_eq_true rfl) (Nat.le_of_ble_eq_true rfl) (m_made hR hm2 (mk_lt 62 _) (mk_lt 62 _) ?_)
          refine go_lor dx_X12_goesRound_117 ?_
          refine go_asL (y := (mk 62 (rcp K (n - 1) i j (i + 1 + (k + 1))) : Int)) (by rw [bw_orN (mk_63 62 _ (by decide)) (mk_63 62 _ (by decide)), mk_or]; refine congrArg _ (mk_congr (fun x _ => ⟨fun q => ?_, fun q => ?_⟩)); (· rcases q with q | ⟨e, he, e1, q1, q2⟩; (· exact q.imp id (fun ⟨e, he, e1, k', k1, k2, k3⟩ => ⟨e, he, e1, k', k1, by omega, k3⟩)); (· exact Or.inr ⟨e, he, e1, i + 1 + k, by omega, by omega, by omega, (rd_bit hR).mp q1, (rd_bit hR).mp q2⟩)); (· rcases q with q | ⟨e, he, e1, k', k1, k2, k3, k4, k5⟩; (· exact Or.inl (Or.inl q)); (· by_cases z : k' = i + 1 + k; (· subst z; exact Or.inr ⟨e, he, e1, (rd_bit hR).mpr k4, (rd_bit hR).mpr k5⟩); (· exact Or.inl (Or.inr ⟨e, he, e1, k', k1, by omega, k3, k4, k5⟩))))) ?_
          refine go_lstore (lv' := [(0, vv_A 94), (1, vv_I (n : Int)), (2, vv_I (b01 (rnp K n i j))), (3, vv_I (i : Int)), (4, vv_I (j : Int)), (5, vv_L (mk 62 (rcp K (n - 1) i j (i + 1 + (k + 1))) : Int)), (7, vv_I ((i + 1 + k : Nat) : Int))]) dx_X12_goesRound_118 (by decide) rfl ?_
          refine go_iinc (lv' := [(0, vv_A 94), (1, vv_I (n : Int)), (2, vv_I (b01 (rnp K n i j))), (3, vv_I (i : Int)), (4, vv_I (j : Int)), (5, vv_L (mk 62 (rcp K (n - 1) i j (i + 1 + (k + 1))) : Int)), (7, vv_I (((i + 1 + k : Nat) : Int) + 1))]) dx_X12_goesRound_120 rfl (by decide) rfl ?_
          refine go_goto (tgt := 75) dx_X12_goesRound_123 rfl ?_
          exact ih3 () trivial hpos _ rfl
        ) (fun _ _ hpos lv0 e0 => by
          subst e0
          refine go_iload dx_X12_goesRound_75 rfl ?_
          refine go_iload dx_X12_goesRound_77 rfl ?_
          refine go_icmp_ge (tgt := 126) dx_X12_goesRound_79 rfl (by omega) (by omega) (fun c79 => ?_) (fun c79 => by exact absurd c79 (by omega))
          refine go_keep [0, 1, 2, 3, 4, 5] rfl ?_
          refine tail _ (mk_lt 62 _) (fun x => lf_rd (D := rdS K.1 (rd K.1 (n - 1))) (fun y => ?_) (fun x => ?_))
          · rw [show i + 1 + (j - i - 1) = j by omega, mk_bit, rcp_rdS hR hij hjn]
            refine ⟨fun q => q.2, fun q => ⟨?_, q⟩⟩
            have : rd K.1 (n - 1 + 1) y (sl K.2.2 i j) := Or.inl q
            have := dx_lt hR (rd_dx hR this)
            have := gH_le hR
            omega
          · obtain ⟨n', rfl⟩ : ∃ n', n = n' + 1 := ⟨n - 1, by omega⟩
            exact Iff.rfl
        )
      have zero : n = 0 → ∀ s : Nat, s < 2 ^ 62 → (∀ y, s.testBit y = true ↔ ltr y (sl K.2.2 i j)) → ∀ k : Nat, Go E (d + 2) (0, 0) mx_X12_goesRound go_φ 75 [(0, vv_A 94), (1, vv_I (n : Int)), (2, vv_I (b01 (rnp K n i j))), (3, vv_I (i : Int)), (4, vv_I (j : Int)), (5, vv_L (s : Int)), (7, vv_I ((i + 1 + 0 : Nat) : Int))] [] δ2 Q := fun hn0 s hs hl k => by
        have t := tail s hs (fun x => lf_rd (D := ltr) hl (fun x => by subst hn0; exact Iff.rfl))
        refine go_iload dx_X12_goesRound_75 rfl ?_
        refine go_iload dx_X12_goesRound_77 rfl ?_
        refine go_icmp_ge (tgt := 126) dx_X12_goesRound_79 rfl (by omega) (by omega) (fun c79 => ?_) (fun c79 => ?_)
        · refine go_keep [0, 1, 2, 3, 4, 5] rfl ?_
          exact t
        · refine go_iload_n (i := 1) dx_X12_goesRound_82 rfl rfl ?_
          refine go_if_le (tgt := 126) dx_X12_goesRound_83 rfl (by omega) (fun c83 => ?_) (fun c83 => by exact absurd c83 (by omega))
          refine go_keep [0, 1, 2, 3, 4, 5] rfl ?_
          exact t
      refine go_iload dx_X12_goesRound_17 rfl ?_
      refine go_aload_n (i := 0) dx_X12_goesRound_19 rfl rfl ?_
      refine go_cV0 sv_X12_253 (go_ok rfl rfl) dx_X12_goesRound_20 (Nat.le_of_ble_eq_true rfl) (Nat.le_of_ble_eq_true rfl) (m_letters hb2 ?_)
      refine go_icmp_gt (tgt := 190) dx_X12_goesRound_23 rfl (by omega) (by omega) (fun c23 => by exact absurd c23 (by omega)) (fun c23 => ?_)
      refine go_iload_n (i := 1) dx_X12_goesRound_26 rfl rfl ?_
      refine go_if_ne (tgt := 56) dx_X12_goesRound_27 rfl (by omega) (fun c27 => ?_) (fun c27 => ?_)
      · refine go_aload_n (i := 0) dx_X12_goesRound_56 rfl rfl ?_
        refine go_getA (b := 108) fs_X12_55 rfl (go_ok rfl rfl) rfl dx_X12_goesRound_57 ?_
        refine go_bipush dx_X12_goesRound_60 rfl ?_
        refine go_iload_n (i := 3) dx_X12_goesRound_62 rfl rfl ?_
        refine go_imul dx_X12_goesRound_63 ?_
        refine go_iload dx_X12_goesRound_64 rfl ?_
        refine go_iadd dx_X12_goesRound_66 ?_
        refine go_laloadV (i := (16 * i + j)) (v := ((mk 62 (fun x => rd K.1 (n - 1) x (sl K.2.2 i j)) : Int))) dx_X12_goesRound_67 (go_ok rfl rfl) (by omega) (show (16 * i + j) < 256 by omega) (by rw [j2 108 _ (by decide)]; exact hbef (by omega) i j hij hjn) ?_
        refine go_lstore (lv' := [(0, vv_A 94), (1, vv_I (n : Int)), (2, vv_I (b01 (rnp K n i j))), (3, vv_I (i : Int)), (4, vv_I (j : Int)), (5, vv_L ((mk 62 (fun x => rd K.1 (n - 1) x (sl K.2.2 i j)) : Int)))]) dx_X12_goesRound_68 (by decide) rfl ?_
        refine go_iload_n (i := 3) dx_X12_goesRound_70 rfl rfl ?_
        refine go_iconst dx_X12_goesRound_71 ?_
        refine go_iadd dx_X12_goesRound_72 ?_
        refine go_istore (lv' := [(0, vv_A 94), (1, vv_I (n : Int)), (2, vv_I (b01 (rnp K n i j))), (3, vv_I (i : Int)), (4, vv_I (j : Int)), (5, vv_L ((mk 62 (fun x => rd K.1 (n - 1) x (sl K.2.2 i j)) : Int))), (7, vv_I ((i + 1 + 0 : Nat) : Int))]) dx_X12_goesRound_73 (by decide) rfl ?_
        have k := cuts 0 () (Nat.zero_le _) trivial (by omega) _ rfl
        rw [mk_congr (P := rcp K (n - 1) i j (i + 1 + 0)) (P' := fun x => rd K.1 (n - 1) x (sl K.2.2 i j)) (fun y _ => ⟨fun q => q.elim id (fun ⟨e, he, e1, k', k1, k2, _⟩ => by omega), Or.inl⟩)] at k
        exact k
      · refine go_iload dx_X12_goesRound_30 rfl ?_
        refine go_iload_n (i := 3) dx_X12_goesRound_32 rfl rfl ?_
        refine go_iconst dx_X12_goesRound_33 ?_
        refine go_iadd dx_X12_goesRound_34 ?_
        refine go_icmp_ne (tgt := 52) dx_X12_goesRound_35 rfl (by omega) (by omega) (fun c35 => ?_) (fun c35 => ?_)
        · refine go_lconst (x := 0) dx_X12_goesRound_52 rfl ?_
          refine go_goto (tgt := 68) dx_X12_goesRound_53 rfl ?_
          refine go_lstore (lv' := [(0, vv_A 94), (1, vv_I (n : Int)), (2, vv_I (b01 (rnp K n i j))), (3, vv_I (i : Int)), (4, vv_I (j : Int)), (5, vv_L 0)]) dx_X12_goesRound_68 (by decide) rfl ?_
          refine go_iload_n (i := 3) dx_X12_goesRound_70 rfl rfl ?_
          refine go_iconst dx_X12_goesRound_71 ?_
          refine go_iadd dx_X12_goesRound_72 ?_
          refine go_istore (lv' := [(0, vv_A 94), (1, vv_I (n : Int)), (2, vv_I (b01 (rnp K n i j))), (3, vv_I (i : Int)), (4, vv_I (j : Int)), (5, vv_L 0), (7, vv_I ((i + 1 + 0 : Nat) : Int))]) dx_X12_goesRound_73 (by decide) rfl ?_
          have hlen : (sl K.2.2 i j).length = j - i := sl_len hjn
          exact zero (by omega) 0 (Nat.two_pow_pos _) (fun y => ⟨fun q => absurd q (by rw [Nat.zero_testBit]; exact Bool.noConfusion), fun q => by have := congrArg List.length q.2.2; rw [hlen] at this; simp only [List.length_cons, List.length_nil] at this; omega⟩) 0
        · refine go_lconst (x := 1) dx_X12_goesRound_38 rfl ?_
          refine go_aload_n (i := 0) dx_X12_goesRound_39 rfl rfl ?_
          refine go_getA (b := 95) fs_X12_7 rfl (go_ok rfl rfl) rfl dx_X12_goesRound_40 ?_
          refine go_bipush dx_X12_goesRound_43 rfl ?_
          refine go_iload_n (i := 3) dx_X12_goesRound_45 rfl rfl ?_
          refine go_iadd dx_X12_goesRound_46 ?_
          refine go_ialoadV (i := (114 + i)) (v := (((K.2.2[i]'(by omega) : Nat) : Int))) dx_X12_goesRound_47 (go_ok rfl rfl) (by omega) (show (114 + i) < 384 by omega) (by have e := hb.2.2.2.1 i (by omega); rw [Nat.zero_add, List.getD_eq_getElem?_getD, List.getElem?_eq_getElem (by omega)] at e; rw [j2 95 _ (by decide)]; exact e) ?_
          refine go_lshl dx_X12_goesRound_48 ?_
          refine go_asL (y := ((2 ^ (K.2.2[i]'(by omega)) : Nat) : Int)) (by exact bw_bit (by have := hlet _ (List.getElem_mem (show i < K.2.2.length by omega)); omega)) ?_
          refine go_goto (tgt := 68) dx_X12_goesRound_49 rfl ?_
          refine go_lstore (lv' := [(0, vv_A 94), (1, vv_I (n : Int)), (2, vv_I (b01 (rnp K n i j))), (3, vv_I (i : Int)), (4, vv_I (j : Int)), (5, vv_L ((2 ^ (K.2.2[i]'(by omega)) : Nat) : Int))]) dx_X12_goesRound_68 (by decide) rfl ?_
          refine go_iload_n (i := 3) dx_X12_goesRound_70 rfl rfl ?_
          refine go_iconst dx_X12_goesRound_71 ?_
          refine go_iadd dx_X12_goesRound_72 ?_
          refine go_istore (lv' := [(0, vv_A 94), (1, vv_I (n : Int)), (2, vv_I (b01 (rnp K n i j))), (3, vv_I (i : Int)), (4, vv_I (j : Int)), (5, vv_L ((2 ^ (K.2.2[i]'(by omega)) : Nat) : Int)), (7, vv_I ((i + 1 + 0 : Nat) : Int))]) dx_X12_goesRound_73 (by decide) rfl ?_
          have hj1 : j = i + 1 := by omega
          have hc := hlet _ (List.getElem_mem (show i < K.2.2.length by omega))
          refine zero (by omega) _ (Nat.pow_lt_pow_right (by decide) (by omega)) (fun y => ?_) 0
          rw [bt_one, hj1, sl_one (by omega)]
          exact ⟨fun q => by subst q; exact ⟨hc.1, hc.2, rfl⟩, fun q => by have := q.2.2; injection this with z _⟩
    · obtain ⟨j1, j2⟩ := hI2
      have hb2 : bk_at δ2 95 0 K := bk_fr hb (fun q => j2 95 q (by decide))
      refine go_iload dx_X12_goesRound_17 rfl ?_
      refine go_aload_n (i := 0) dx_X12_goesRound_19 rfl rfl ?_
      refine go_cV0 sv_X12_253 (go_ok rfl rfl) dx_X12_goesRound_20 (Nat.le_of_ble_eq_true rfl) (Nat.le_of_ble_eq_true rfl) (m_letters hb2 ?_)
      refine go_icmp_gt (tgt := 190) dx_X12_goesRound_23 rfl (by omega) (by omega) (fun c23 => ?_) (fun c23 => by exact absurd c23 (by omega))
      refine go_iinc (lv' := [(0, vv_A 94), (1, vv_I (n : Int)), (2, vv_I (b01 (rnp K n i (i + 1 + (K.2.2.length - i))))), (3, vv_I ((i : Int) + 1)), (4, vv_I ((i + 1 + (K.2.2.length - i) : Nat) : Int))]) dx_X12_goesRound_190 rfl (by decide) rfl ?_
      refine go_goto (tgt := 4) dx_X12_goesRound_193 rfl ?_
      refine go_keep [0, 1, 2, 3] rfl ?_
      rw [b01_c (P' := rnp K n (i + 1) 0) ⟨fun ⟨a, b, h1, h2, z, w⟩ => ⟨a, b, h1, h2, by omega, w⟩, fun ⟨a, b, h1, h2, z, w⟩ => ⟨a, b, h1, h2, by omega, w⟩⟩]
      exact ih δ2 ⟨fun a b h1 h2 z => j1 a b h1 h2 (by omega), j2⟩
  · obtain ⟨i1, i2⟩ := hI
    have hb1 : bk_at δ1 95 0 K := bk_fr hb (fun j => i2 95 j (by decide))
    have copy := lp_up (X := Nat → Nat → Int) (hi := 256) (I := fun k δ2 => (∀ q, q < k → δ2 108 q = δ1 109 q) ∧ (∀ c q, c ≠ 108 → δ2 c q = δ1 c q))
      (G := fun k δ2 => Go E (d + 2) (0, 0) mx_X12_goesRound go_φ 198 [(0, vv_A 94), (1, vv_I (n : Int)), (2, vv_I (b01 (rnp K n K.2.2.length 0))), (3, vv_I (k : Int))] [] δ2 Q)
      (fun k δ2 hk hI3 ih3 => by
        refine go_iload_n (i := 3) dx_X12_goesRound_198 rfl rfl ?_
        refine go_sipush dx_X12_goesRound_199 rfl ?_
        refine go_icmp_ge (tgt := 223) dx_X12_goesRound_202 rfl (by omega) (by omega) (fun c202 => by exact absurd c202 (by omega)) (fun c202 => ?_)
        refine go_aload_n (i := 0) dx_X12_goesRound_205 rfl rfl ?_
        refine go_getA (b := 108) fs_X12_55 rfl (go_ok rfl rfl) rfl dx_X12_goesRound_206 ?_
        refine go_iload_n (i := 3) dx_X12_goesRound_209 rfl rfl ?_
        refine go_aload_n (i := 0) dx_X12_goesRound_210 rfl rfl ?_
        refine go_getA (b := 109) fs_X12_58 rfl (go_ok rfl rfl) rfl dx_X12_goesRound_211 ?_
        refine go_iload_n (i := 3) dx_X12_goesRound_214 rfl rfl ?_
        refine go_laloadV (i := k) (v := ((δ1 109 k))) dx_X12_goesRound_215 (go_ok rfl rfl) (by omega) (show k < 256 by omega) (by exact hI3.2 109 k (by decide)) ?_
        refine go_lastoreV (i := k) dx_X12_goesRound_216 (go_ok rfl rfl) (by omega) (show k < 256 by omega) ?_
        refine go_iinc (lv' := [(0, vv_A 94), (1, vv_I (n : Int)), (2, vv_I (b01 (rnp K n K.2.2.length 0))), (3, vv_I ((k : Int) + 1))]) dx_X12_goesRound_217 rfl (by decide) rfl ?_
        refine go_goto (tgt := 198) dx_X12_goesRound_220 rfl ?_
        refine ih3 _ ⟨fun q hq => ?_, fun c q hc => by rw [wr_n (by omega)]; exact hI3.2 c q hc⟩
        by_cases z : q = k
        · subst z; rw [wr_eq]
        · rw [wr_i _ _ _ _ z]; exact hI3.1 q (by omega)
      ) (fun δ2 hI3 => by
        refine go_iload_n (i := 3) dx_X12_goesRound_198 rfl rfl ?_
        refine go_sipush dx_X12_goesRound_199 rfl ?_
        refine go_icmp_ge (tgt := 223) dx_X12_goesRound_202 rfl (by omega) (by omega) (fun c202 => ?_) (fun c202 => by exact absurd c202 (by omega))
        refine go_iload_n (i := 2) dx_X12_goesRound_223 rfl rfl ?_
        refine go_zreturn dx_X12_goesRound_224 rfl (b01_01 _)  (Nat.le_refl _) (Nat.le_refl _) ?_
        exact hQ δ2 (fun a b h1 h2 => by rw [hI3.1 _ (by omega)]; exact i1 a b h1 h2 (Or.inl (by omega))) (fun c q h1 h2 => by rw [hI3.2 c q h1]; exact i2 c q h2)
      )
    refine go_iload_n (i := 3) dx_X12_goesRound_4 rfl rfl ?_
    refine go_aload_n (i := 0) dx_X12_goesRound_5 rfl rfl ?_
    refine go_cV0 sv_X12_253 (go_ok rfl rfl) dx_X12_goesRound_6 (Nat.le_of_ble_eq_true rfl) (Nat.le_of_ble_eq_true rfl) (m_letters hb1 ?_)
    refine go_icmp_ge (tgt := 196) dx_X12_goesRound_9 rfl (by omega) (by omega) (fun c9 => ?_) (fun c9 => by exact absurd c9 (by omega))
    refine go_iconst dx_X12_goesRound_196 ?_
    refine go_istore_n (i := 3) (lv' := [(0, vv_A 94), (1, vv_I (n : Int)), (2, vv_I (b01 (rnp K n K.2.2.length 0))), (3, vv_I 0)]) dx_X12_goesRound_197 rfl (by decide) rfl ?_
    exact copy 0 δ1 (Nat.zero_le _) ⟨fun q hq => absurd hq (Nat.not_lt_zero _), fun _ _ _ => rfl⟩
end GMRO
