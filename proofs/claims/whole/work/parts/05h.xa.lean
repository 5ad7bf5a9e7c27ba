/-- exclusive or of f over 0 .. k - 1 -/
def xa (f : Nat → Int32) : Nat → Int32
  | 0 => 0
  | j + 1 => xa f j ^^^ f j
theorem xa_congr {f g : Nat → Int32} : ∀ {k : Nat}, (∀ j, j < k → f j = g j) → xa f k = xa g k
  | 0, _ => rfl
  | k + 1, h => by rw [xa, xa, xa_congr (fun j hj => h j (by omega)), h k (by omega)]
theorem xr_congr {f g : Nat → Int32} {d : Nat} : ∀ {k : Nat}, (∀ j, j < k → j ≠ d → f j = g j) → xr f d k = xr g d k
  | 0, _ => rfl
  | k + 1, h => by
    rw [xr, xr, xr_congr (fun j hj => h j (by omega))]
    by_cases e : k = d
    · rw [if_pos e, if_pos e]
    · rw [if_neg e, if_neg e, h k (by omega) e]
