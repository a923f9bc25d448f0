/-! Integer.bitCount on numbers of 16 bits, byte by byte (to go ahead of 26) -/
def sw1 (m : Nat) : Nat := m - (m / 2 &&& 1431655765)
def sw2 (a : Nat) : Nat := (a &&& 858993459) + (a / 4 &&& 858993459)
def sw3 (b : Nat) : Nat := (b + b / 16) &&& 252645135
def sw4 (c : Nat) : Nat := (c + c / 256 + (c + c / 256) / 65536) &&& 63
theorem sw_all : ∀ a, a < 256 → ∀ b, b < 256 → sw4 (sw3 (sw2 (sw1 (b + 256 * a)))) = bt_pop 8 b + bt_pop 8 a := by decide +kernel
