/-! places and widths, in numbers -/
theorem plc_lt {n : Nat} {wide : Bool} {dn : Nat} {st : Bool} {b : Nat} : plc n wide dn st b < 3 := by
  unfold plc
  split
  · omega
  · split
    · omega
    · split <;> omega
theorem plc2 {n : Nat} {wide : Bool} {dn : Nat} {st : Bool} {b : Nat} (h : plc n wide dn st b = 2) : wide = true ∧ dn * n ≤ b ∧ b < dn * n + n := by
  unfold plc at h
  split at h
  · omega
  · rename_i hw
    split at h
    · omega
    · split at h
      · rename_i h1 h2
        exact ⟨by cases wide <;> simp_all, by omega, h2.2⟩
      · omega
theorem plc1 {n : Nat} {wide : Bool} {dn : Nat} {st : Bool} {b : Nat} (h : plc n wide dn st b = 1) : wide = true ∧ b < dn * n := by
  unfold plc at h
  split at h
  · omega
  · rename_i hw
    split at h
    · exact ⟨by cases wide <;> simp_all, by omega⟩
    · split at h <;> omega
theorem plc_k {n : Nat} {wide : Bool} {dn : Nat} {st : Bool} {b : Nat} (hn3 : 3 ≤ n) (hn6 : n ≤ 6) (hwn : wide = true → n < 6) : 2 ≤ (if plc n wide dn st b = 1 then n + 1 else n) - 1 ∧ (if plc n wide dn st b = 1 then n + 1 else n) ≤ 6 := by
  split
  · rename_i h
    have := hwn (plc1 h).1
    omega
  · omega
theorem div_le_row {b k r : Nat} (hk : 0 < k) (h : b < r * k) : b / k < r := (Nat.div_lt_iff_lt_mul hk).mpr h
theorem plc_row {n k b : Nat} (hn3 : 3 ≤ n) (hbc : b < 32 * (n - 1)) (hk : 2 ≤ (k) - 1) (hkn : n ≤ k := by first | (split <;> omega) | omega) : b / (k - 1) < 40 := by
  refine div_le_row (by omega) ?_
  have : 32 * (n - 1) ≤ 40 * (k - 1) := Nat.mul_le_mul (by decide) (by omega)
  omega
