/-! the value's parts, by name -/
section Parts
variable {c : Nat → Nat → Int32} {md fd : Bool} {n : Nat} {wide : Bool} {dn : Nat} {st : Bool} {num : Nat} {lost fresh : Int32} {fp : Nat} {sh : Int32} {B : Nat} {V : vT}
theorem cR.sv (h : cR V (c, (md, fd), (n, wide, dn, st, num), (lost, fresh), (fp, sh))) (e1 : md = true) (e2 : fd = false) : V 2 0 = nI num ∧ V 2 1 = nI n ∧ V 2 2 = bI wide ∧ V 2 3 = nI dn ∧ V 2 4 = bI st := h.2.2.2.2.2.2.2.2 e1 e2
theorem cR.pt (h : cR V (c, (md, fd), (n, wide, dn, st, num), (lost, fresh), (fp, sh))) : V 0 4 = bI md ∧ V 0 5 = bI fd ∧ V 0 6 = lost ∧ V 0 7 = fresh ∧ V 0 8 = nI fp ∧ V 0 9 = sh ∧ cQ V (fun _ => []) ∧ ∀ d, d < 6 → ∀ i, i < 170 → dc V d i = c d i := ⟨h.1, h.2.1, h.2.2.1, h.2.2.2.1, h.2.2.2.2.1, h.2.2.2.2.2.1, h.2.2.2.2.2.2.1, h.2.2.2.2.2.2.2.1⟩
theorem cR.mk (h : V 0 4 = bI md ∧ V 0 5 = bI fd ∧ V 0 6 = lost ∧ V 0 7 = fresh ∧ V 0 8 = nI fp ∧ V 0 9 = sh) (hQ : cQ V (fun _ => [])) (hc : ∀ d, d < 6 → ∀ i, i < 170 → dc V d i = c d i) (hS : md = true → fd = false → V 2 0 = nI num ∧ V 2 1 = nI n ∧ V 2 2 = bI wide ∧ V 2 3 = nI dn ∧ V 2 4 = bI st) : cR V (c, (md, fd), (n, wide, dn, st, num), (lost, fresh), (fp, sh)) := ⟨h.1, h.2.1, h.2.2.1, h.2.2.2.1, h.2.2.2.2.1, h.2.2.2.2.2, hQ, hc, hS⟩
theorem WF.sv (h : WF B (c, (md, fd), (n, wide, dn, st, num), (lost, fresh), (fp, sh))) (e1 : md = true) (e2 : fd = false) : 3 ≤ n ∧ n ≤ 6 ∧ (wide = true → n < 6) ∧ dn < 32 ∧ (st = true → wide = true) ∧ 1 ≤ num ∧ num ≤ B ∧ (lost = -1 ∨ ∃ d, d < kw n wide ∧ lost = nI d) ∧ (fresh = -1 ∨ ∃ d, d < kw n wide ∧ fresh = nI d) ∧ (lost = -1 ∨ fresh = -1) ∧ (fp ≠ 0 → lost = -1 ∧ fresh = -1) ∧ (lost = -1 → fresh = -1 → ∃ q, q < 12 ∧ q / 2 < kw n wide ∧ ∃ x, x ≠ 0 ∧ x ≤ B ∧ mkA c q 0 = nI x) := h.2.2.2.2 e1 e2
theorem kw_le (hn6 : n ≤ 6) (hwn : wide = true → n < 6) : kw n wide ≤ 6 := by
  unfold kw
  split
  · rename_i h
    have := hwn h
    omega
  · omega
theorem kw_ge : n ≤ kw n wide := by unfold kw; split <;> omega
theorem dc_word {V : vT} {d j : Nat} (h : j < 160) : dc V d j = V (6 + 7 * d) j := by unfold dc; rw [if_pos h]
theorem dc_even {V : vT} {d j : Nat} (h : j < 5) : dc V d (160 + j) = V (7 + 7 * d) j := by
  unfold dc
  rw [if_neg (by omega), if_pos (by omega), Nat.add_sub_cancel_left]
theorem dc_odd {V : vT} {d j : Nat} (h : j < 5) : dc V d (165 + j) = V (8 + 7 * d) j := by
  unfold dc
  rw [if_neg (by omega), if_neg (by omega), Nat.add_sub_cancel_left]
theorem nI_z {j : Nat} (h : j < 2 ^ 31) : nI j = 0 ↔ j = 0 := nI_eq h (by decide)
end Parts
