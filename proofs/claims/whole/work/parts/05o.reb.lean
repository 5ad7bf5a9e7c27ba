/-! rebuilding, mending: what comes out -/
theorem wor_le {n : Nat} {wide : Bool} {dn row : Nat} (hn6 : n ≤ 6) (hwn : wide = true → n < 6) : wor n wide dn row ≤ 6 := by
  unfold wor
  split
  · rename_i h
    have := hwn h.1
    omega
  · omega
theorem wor_ge {n : Nat} {wide : Bool} {dn row : Nat} : n ≤ wor n wide dn row := by unfold wor; split <;> omega
/-- the rows below r that disk d has a part in, by the rest -/
def rbw (w : Nat → Nat → Int32) (n : Nat) (wide : Bool) (dn : Nat) (st : Bool) (d r i : Nat) : Int32 := if i < 4 * r ∧ d < wor n wide dn (i / 4) ∧ lay st dn (i / 4) = false then xr (fun e => w e i) d (wor n wide dn (i / 4)) else w d i
/-- the rows below r with their parity mended -/
def mnd (w : Nat → Nat → Int32) (n : Nat) (wide : Bool) (dn : Nat) (st : Bool) (r d i : Nat) : Int32 := if i < 4 * r ∧ lay st dn (i / 4) = false ∧ d = pd (wor n wide dn (i / 4)) (i / 4) then xr (fun e => w e i) d (wor n wide dn (i / 4)) else w d i
theorem row_div {r i : Nat} : (r * 4 ≤ i ∧ i < r * 4 + 4) ↔ i / 4 = r := by omega
theorem mcl_in {d p : Nat} (hp : p < 2) : (if nI p = nI 1 then 8 + 7 * d else 7 + 7 * d) = mcl (2 * d + p) := by
  unfold mcl
  rcases (show p = 0 ∨ p = 1 by omega) with rfl | rfl
  · rw [if_neg (by decide)]; omega
  · rw [if_pos rfl]; omega
theorem bst_no {f : Nat → Int32} {q : Nat} (h : ¬ f (bst f q) < f q) : bst f (q + 1) = bst f q := by
  show (if f (bst f q) < f q then q else bst f q) = _
  exact if_neg h
theorem bst_yes {f : Nat → Int32} {q : Nat} (h : f (bst f q) < f q) : bst f (q + 1) = q := by
  show (if f (bst f q) < f q then q else bst f q) = _
  exact if_pos h
