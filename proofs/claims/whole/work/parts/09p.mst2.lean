section MST2
variable {a : AS} {c : Nat → Nat → Int32} {D D' : Nat → Int32} {f nm : Nat}
theorem eff_lyQQ {out : Int32} {fl : Bool} {sh : Int32} {n dn : Nat} (h : ∀ j i, j < n → i < 4 → D (j * 4 + i) = D' (j * 4 + i)) : eff out fl sh (lyQQ D n dn) c = eff out fl sh (lyQQ D' n dn) c := by
  funext d j
  exact eff_QEq (lyQQ_QEq h d) rfl
theorem layR_D (h : ∀ j i, j < a.2.2.1.1 → i < 4 → D (j * 4 + i) = D' (j * 4 + i)) : layR a c D f nm = layR a c D' f nm := by
  unfold layR
  rw [eff_lyQQ h]
theorem layR_or : ((layR a c D f nm).1 = 3 ∧ ¬ (layR a c D f nm).1 = 0) ∨ (∃ cc, layR a c D f nm = (0, nI (nxd a.2.2.1.2.2.1), (cc, (a.2.1.1, false), (nx1 a.2.2.1.1 a.2.2.1.2.2.1, nxw a.2.2.1.2.1 a.2.2.1.2.2.1, nxd a.2.2.1.2.2.1, false, nm + 1), a.2.2.2.1, (0, a.2.2.2.2.2)))) := by
  unfold layR
  by_cases q : f = 1
  · rw [if_pos q]; exact Or.inl ⟨rfl, fun h => absurd (show (3 : Nat) = 0 from h) (by decide)⟩
  · rw [if_neg q]
    by_cases q2 : f - 1 = 1
    · rw [if_pos q2]; exact Or.inl ⟨rfl, fun h => absurd (show (3 : Nat) = 0 from h) (by decide)⟩
    · rw [if_neg q2]; exact Or.inr ⟨_, rfl⟩
theorem layR_sw {V : vT} {c0 c0' : Nat → Nat → Int32} {md fd : Bool} {n : Nat} {wide : Bool} {dn : Nat} {st st' : Bool} {num num' : Nat} {lost fresh : Int32} {fp : Nat} {sh : Int32} :
    (layR (c0', (md, fd), (n, wide, dn, st', num'), (lost, fresh), (fp, sh)) c D f nm).1 = (layR (c0, (md, fd), (n, wide, dn, st, num), (lost, fresh), (fp, sh)) c D f nm).1 ∧ (mR V (layR (c0', (md, fd), (n, wide, dn, st', num'), (lost, fresh), (fp, sh)) c D f nm).2.2 → mR V (layR (c0, (md, fd), (n, wide, dn, st, num), (lost, fresh), (fp, sh)) c D f nm).2.2) := by
  unfold layR
  by_cases q : f = 1
  · rw [if_pos q, if_pos q]
    exact ⟨rfl, fun h => ⟨h.1, h.2.1, h.2.2.1, h.2.2.2.1, fun _ e => absurd (show true = false from e) (by decide)⟩⟩
  · rw [if_neg q, if_neg q]
    by_cases q2 : f - 1 = 1
    · rw [if_pos q2, if_pos q2]
      exact ⟨rfl, fun h => ⟨h.1, h.2.1, h.2.2.1, h.2.2.2.1, fun _ e => absurd (show true = false from e) (by decide)⟩⟩
    · rw [if_neg q2, if_neg q2]
      exact ⟨rfl, id⟩
end MST2
