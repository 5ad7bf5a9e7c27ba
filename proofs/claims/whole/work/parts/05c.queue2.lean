/-! further words on what waits -/
theorem cQd_congr {V V' : vT} {d : Nat} {L : List Wr} (h : ∀ a, 5 + 7 * d ≤ a → a ≤ 11 + 7 * d → V' a = V a) (hQ : cQd V d L) : cQd V' d L := by
  refine ⟨by rw [h _ (by omega) (by omega)]; exact hQ.1, hQ.2.1, fun j x hj => ?_⟩
  have hq := hQ.2.2 j x hj
  obtain ⟨_ | r, b⟩ := x
  · simp only [qAt] at hq ⊢
    rw [h (9 + 7 * d) (by omega) (by omega), h (11 + 7 * d) (by omega) (by omega)]
    exact hq
  · simp only [qAt] at hq ⊢
    rw [h (9 + 7 * d) (by omega) (by omega), h (10 + 7 * d) (by omega) (by omega)]
    exact hq
theorem cQd_nil {V : vT} {d : Nat} (h : V (5 + 7 * d) 3 = nI 0) : cQd V d [] := ⟨h, Nat.zero_le _, fun j x hj => by simp at hj⟩
theorem cQd_block {V V1 : vT} {d ks at9 row : Nat} {L : List Wr} (hQ : cQd V d L) (h8 : L.length < 8) (hr : row < 40) (hp : (∀ a, a ≠ 5 + 7 * d → a ≠ 9 + 7 * d → a ≠ 10 + 7 * d → V1 a = V a) ∧ V1 (5 + 7 * d) 3 = nI (L.length + 1) ∧ V1 (9 + 7 * d) = upd (V (9 + 7 * d)) L.length (nI row) ∧ V1 (10 + 7 * d) = va_cpy (V ks) (V (10 + 7 * d)) at9 (L.length * 4) 4) {b : Nat → Int32} (hb : ∀ i, i < 4 → V ks (at9 + i) = b i) : cQd V1 d (L ++ [(some row, b)]) := by
  obtain ⟨h1, h2, h3, h4⟩ := hp
  refine ⟨by rw [h2, List.length_append]; rfl, by rw [List.length_append]; exact h8, fun j x hj => ?_⟩
  by_cases hlt : j < L.length
  · rw [List.getElem?_append_left hlt] at hj
    have hq := hQ.2.2 j x hj
    obtain ⟨_ | r, c⟩ := x
    · simp only [qAt] at hq ⊢
      rw [h3, pk_un (by omega), h1 (11 + 7 * d) (by omega) (by omega) (by omega)]
      exact hq
    · simp only [qAt] at hq ⊢
      refine ⟨hq.1, by rw [h3, pk_un (by omega)]; exact hq.2.1, fun i hi => ?_⟩
      rw [h4, pk_cpy_out (by omega)]
      exact hq.2.2 i hi
  · have hje : j = L.length := by
      have := (List.getElem?_eq_some_iff.mp hj).1
      rw [List.length_append] at this
      simp at this
      omega
    subst hje
    rw [List.getElem?_append_right (Nat.le_refl _)] at hj
    simp at hj
    subst hj
    simp only [qAt]
    refine ⟨hr, by rw [h3, pk_us], fun i hi => ?_⟩
    rw [h4, pk_cpy_in (by omega) (by omega), ← hb i hi]
    congr 1
    omega
theorem cQd_marks {V V1 : vT} {d : Nat} {b : Nat → Int32} (hQ : cQd V d []) (hb2 : isB (b 2)) (hb4 : isB (b 4)) (h2 : V1 (5 + 7 * d) 3 = nI (0 + 1)) (h3 : V1 (9 + 7 * d) = upd (V (9 + 7 * d)) 0 (-1)) (h4 : ∀ j, j < 5 → V1 (11 + 7 * d) j = b j) : cQd V1 d [(none, b)] := by
  refine ⟨h2, by simp, fun j x hj => ?_⟩
  have hj0 : j = 0 := by
    have := (List.getElem?_eq_some_iff.mp hj).1
    simp at this
    omega
  subst hj0
  simp at hj
  subst hj
  simp only [qAt]
  exact ⟨by rw [h3, pk_us], h4, hb2, hb4⟩
def sameD (V V1 : vT) : Prop := ∀ d, d < 6 → V1 (6 + 7 * d) = V (6 + 7 * d) ∧ V1 (7 + 7 * d) = V (7 + 7 * d) ∧ V1 (8 + 7 * d) = V (8 + 7 * d)
theorem sameD.dc {V V1 : vT} (h : sameD V V1) {d : Nat} (hd : d < 6) (i : Nat) : dc V1 d i = dc V d i := by
  obtain ⟨h1, h2, h3⟩ := h d hd
  show (if i < 160 then V1 (6 + 7 * d) i else if i < 165 then V1 (7 + 7 * d) (i - 160) else V1 (8 + 7 * d) (i - 165)) = (if i < 160 then V (6 + 7 * d) i else if i < 165 then V (7 + 7 * d) (i - 160) else V (8 + 7 * d) (i - 165))
  rw [h1, h2, h3]
theorem sameD.trans {V V1 V2 : vT} (h : sameD V V1) (h2 : sameD V1 V2) : sameD V V2 := fun d hd => ⟨(h2 d hd).1.trans (h d hd).1, (h2 d hd).2.1.trans (h d hd).2.1, (h2 d hd).2.2.trans (h d hd).2.2⟩
theorem sameD.rf {V : vT} : sameD V V := fun _ _ => ⟨rfl, rfl, rfl⟩
def cQ (V : vT) (Qf : Nat → List Wr) : Prop := ∀ d, d < 6 → cQd V d (Qf d)
/-- one more write waits at disk d -/
def qAdd (Qf : Nat → List Wr) (d : Nat) (x : Wr) : Nat → List Wr := fun e => if e = d then Qf e ++ [x] else Qf e
theorem cQ_block {V V1 : vT} {d ks at9 row : Nat} {Qf : Nat → List Wr} (hQ : cQ V Qf) (hd : d < 6) (h8 : (Qf d).length < 8) (hr : row < 40) (hp : (∀ a, a ≠ 5 + 7 * d → a ≠ 9 + 7 * d → a ≠ 10 + 7 * d → V1 a = V a) ∧ V1 (5 + 7 * d) 3 = nI ((Qf d).length + 1) ∧ V1 (9 + 7 * d) = upd (V (9 + 7 * d)) (Qf d).length (nI row) ∧ V1 (10 + 7 * d) = va_cpy (V ks) (V (10 + 7 * d)) at9 ((Qf d).length * 4) 4) {b : Nat → Int32} (hb : ∀ i, i < 4 → V ks (at9 + i) = b i) : cQ V1 (qAdd Qf d (some row, b)) := by
  intro e he
  unfold qAdd
  by_cases h : e = d
  · subst h
    rw [if_pos rfl]
    exact cQd_block (hQ e he) h8 hr hp hb
  · rw [if_neg h]
    exact cQd_congr (fun a h1 h2 => hp.1 a (by omega) (by omega) (by omega)) (hQ e he)
theorem sameD_block {V V1 : vT} {d : Nat} (h : ∀ a, a ≠ 5 + 7 * d → a ≠ 9 + 7 * d → a ≠ 10 + 7 * d → V1 a = V a) : sameD V V1 := fun e _ => ⟨h _ (by omega) (by omega) (by omega), h _ (by omega) (by omega) (by omega), h _ (by omega) (by omega) (by omega)⟩
