/-- a row's data with one word changed -/
def chg (T : Nat → Nat → Int32) (own i : Nat) (v : Int32) (j i1 : Nat) : Int32 := if j = own ∧ i1 = i then v else T j i1
theorem cQd_eqb {V : vT} {d r : Nat} {L : List Wr} {b b' : Nat → Int32} (h : ∀ i, i < 4 → b i = b' i) (hQ : cQd V d (L ++ [(some r, b)])) : cQd V d (L ++ [(some r, b')]) := by
  refine ⟨by have := hQ.1; rw [List.length_append] at this ⊢; exact this, by have := hQ.2.1; rw [List.length_append] at this ⊢; exact this, fun j x hj => ?_⟩
  by_cases hlt : j < L.length
  · have := hQ.2.2 j x
    rw [List.getElem?_append_left hlt] at hj this
    exact this hj
  · have hje : j = L.length := by
      have := (List.getElem?_eq_some_iff.mp hj).1
      rw [List.length_append] at this
      simp at this
      omega
    subst hje
    have := hQ.2.2 L.length (some r, b) (by rw [List.getElem?_append_right (Nat.le_refl _)]; simp)
    rw [List.getElem?_append_right (Nat.le_refl _)] at hj
    simp at hj
    subst hj
    simp only [qAt] at this ⊢
    exact ⟨this.1, this.2.1, fun i hi => by rw [← h i hi]; exact this.2.2 i hi⟩
theorem cQ_eqb {V : vT} {d r : Nat} {Qf : Nat → List Wr} {b b' : Nat → Int32} (h : ∀ i, i < 4 → b i = b' i) (hQ : cQ V (qAdd Qf d (some r, b))) : cQ V (qAdd Qf d (some r, b')) := by
  intro e he
  have h9 := hQ e he
  unfold qAdd at h9 ⊢
  by_cases q : e = d
  · rw [if_pos q] at h9 ⊢
    exact cQd_eqb h h9
  · rw [if_neg q] at h9 ⊢
    exact h9
theorem qAdd_len {Qf : Nat → List Wr} {d e : Nat} {x : Wr} {m : Nat} (h : (Qf e).length ≤ m) : (qAdd Qf d x e).length ≤ m + 1 := by
  unfold qAdd
  split
  · rw [List.length_append]
    simp
    omega
  · omega
/-- whether a row's parity is right -/
noncomputable def prt (w : Nat → Nat → Int32) (k row : Nat) : Bool := @decide (∀ i, i < 4 → w (pd k row) (row * 4 + i) = xr (fun e => w e (row * 4 + i)) (pd k row) k) (Classical.propDecidable _)
theorem prt_t {w : Nat → Nat → Int32} {k row : Nat} (h : ∀ i, i < 4 → w (pd k row) (row * 4 + i) = xr (fun e => w e (row * 4 + i)) (pd k row) k) : prt w k row = true := @decide_eq_true _ (Classical.propDecidable _) h
theorem prt_f {w : Nat → Nat → Int32} {k row : Nat} (h : ¬ ∀ i, i < 4 → w (pd k row) (row * 4 + i) = xr (fun e => w e (row * 4 + i)) (pd k row) k) : prt w k row = false := @decide_eq_false _ (Classical.propDecidable _) h
