/-! how many rules, by their bits (to go ahead of 26 with 9a's and 9c's lemmas) -/
theorem rl_bits_mk (R : Nat → List Nat) : ∀ n, rl_bits R n = mk n (fun r => R r ≠ [])
  | 0 => rfl
  | n + 1 => by
    show rl_bits R n ||| (if R n = [] then 0 else 2 ^ n) = mk n _ ||| _
    rw [rl_bits_mk R n]
    congr 1
    by_cases h : R n = []
    · rw [if_pos h, if_neg (fun q => q h)]
    · rw [if_neg h, if_pos h]
theorem rl_many_cn (R : Nat → List Nat) : ∀ n, rl_many R n = cn n (fun r => R r ≠ [])
  | 0 => rfl
  | n + 1 => by
    show rl_many R n + (if R n = [] then 0 else 1) = _
    rw [rl_many_cn R n]
    by_cases h : R n = []
    · rw [if_pos h, cn_sf (fun q => q h)]; omega
    · rw [if_neg h, cn_st h]
theorem pop_bits2 (R : Nat → List Nat) : bt_pop 32 (rl_bits R 16) = rl_many R 16 := by
  rw [pop_up (k := 16) (m := 16) (rl_bits_lt R 16), rl_bits_mk, pop_mk, rl_many_cn]
