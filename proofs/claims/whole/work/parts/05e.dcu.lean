theorem dc_u2 {V V' : vT} {d i : Nat} (h6 : 6 + 7 * d ≠ 0) (h7 : 7 + 7 * d ≠ 0) (h8 : 8 + 7 * d ≠ 0) (h : ∀ a, a ≠ 0 → V' a = V a) : dc V' d i = dc V d i := by
  simp only [dc]
  rw [h _ h6, h _ h7, h _ h8]
