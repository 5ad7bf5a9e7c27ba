/-! the reference's one queue: writes with their disks, in the order of their issue -/
def qOf (L : List (Nat × Wr)) (d : Nat) : List Wr := (L.filter (fun x => x.1 == d)).map (fun x => x.2)
theorem qOf_snoc {L : List (Nat × Wr)} {e : Nat} {x : Wr} {d : Nat} : qOf (L ++ [(e, x)]) d = qAdd (qOf L) e x d := by
  unfold qOf qAdd
  rw [List.filter_append, List.map_append]
  by_cases q : d = e
  · subst q; simp
  · rw [if_neg q]
    have : ((e == d) = false) := by simp; omega
    simp [this]
theorem qOf_le {L : List (Nat × Wr)} {d : Nat} : (qOf L d).length ≤ L.length := by
  unfold qOf
  rw [List.length_map]
  exact List.length_filter_le _ _
def gAt (V : vT) (j : Nat) (x : Nat × Wr) : Prop := x.1 < 6 ∧ V 3 j = nI x.1 ∧ match x.2.1 with
  | some r => r < 40 ∧ V 4 j = nI r ∧ ∀ i, i < 4 → V 5 (5 * j + i) = x.2.2 i
  | none => V 4 j = -1 ∧ (∃ y, y < 2 ^ 31 ∧ x.2.2 0 = nI y) ∧ ∀ i, i < 5 → V 5 (5 * j + i) = x.2.2 i
def gQ (V : vT) (L : List (Nat × Wr)) : Prop := V 0 16 = nI L.length ∧ L.length ≤ 32 ∧ ∀ (j : Nat) (x : Nat × Wr), L[j]? = some x → gAt V j x
theorem gQ_nil {V : vT} (h : V 0 16 = nI 0) : gQ V [] := ⟨h, by simp, fun j x hj => by simp at hj⟩
theorem gQ_congr {V V1 : vT} {L : List (Nat × Wr)} (h0 : V1 0 16 = V 0 16) (h3 : V1 3 = V 3) (h4 : V1 4 = V 4) (h5 : V1 5 = V 5) (hQ : gQ V L) : gQ V1 L := by
  refine ⟨h0.trans hQ.1, hQ.2.1, fun j x hj => ?_⟩
  have hq := hQ.2.2 j x hj
  obtain ⟨d, _ | r, b⟩ := x
  · simp only [gAt] at hq ⊢
    rw [h3, h4, h5]; exact hq
  · simp only [gAt] at hq ⊢
    rw [h3, h4, h5]; exact hq
theorem gAt_keep {V V1 : vT} {q j : Nat} {x : Nat × Wr} (hj : j < q) (h3 : ∀ t, t ≠ q → V1 3 t = V 3 t) (h4 : ∀ t, t ≠ q → V1 4 t = V 4 t) (h5 : ∀ t, t < 5 * q → V1 5 t = V 5 t) (h : gAt V j x) : gAt V1 j x := by
  obtain ⟨d, _ | r, b⟩ := x
  · simp only [gAt] at h ⊢
    refine ⟨h.1, by rw [h3 j (by omega)]; exact h.2.1, by rw [h4 j (by omega)]; exact h.2.2.1, h.2.2.2.1, fun i hi => by rw [h5 _ (by omega)]; exact h.2.2.2.2 i hi⟩
  · simp only [gAt] at h ⊢
    refine ⟨h.1, by rw [h3 j (by omega)]; exact h.2.1, h.2.2.1, by rw [h4 j (by omega)]; exact h.2.2.2.1, fun i hi => by rw [h5 _ (by omega)]; exact h.2.2.2.2 i hi⟩
theorem gQ_snoc {V V1 : vT} {L : List (Nat × Wr)} {x : Nat × Wr} (hQ : gQ V L) (hl : L.length < 32) (h0 : V1 0 16 = nI (L.length + 1)) (h3 : ∀ t, t ≠ L.length → V1 3 t = V 3 t) (h4 : ∀ t, t ≠ L.length → V1 4 t = V 4 t) (h5 : ∀ t, t < 5 * L.length → V1 5 t = V 5 t) (hx : gAt V1 L.length x) : gQ V1 (L ++ [x]) := by
  refine ⟨by rw [h0, List.length_append]; rfl, by rw [List.length_append]; exact hl, fun j y hj => ?_⟩
  by_cases hlt : j < L.length
  · rw [List.getElem?_append_left hlt] at hj
    exact gAt_keep hlt h3 h4 h5 (hQ.2.2 j y hj)
  · have hje : j = L.length := by
      have := (List.getElem?_eq_some_iff.mp hj).1
      rw [List.length_append] at this
      simp at this
      omega
    subst hje
    rw [List.getElem?_append_right (Nat.le_refl _)] at hj
    simp at hj
    subst hj
    exact hx
theorem gQ_block {V V1 V2 : vT} {L : List (Nat × Wr)} {d row : Nat} (hQ : gQ V L) (hl : L.length < 32) (hd : d < 6) (hr : row < 40) (h1 : (∀ a, a ≠ 5 → V1 a = V a) ∧ ∀ t, V1 5 t = if 5 * L.length ≤ t ∧ t < 5 * L.length + 4 then V 8 (t - 5 * L.length) else V 5 t)
    (h2 : V2 = u2 (u2 (u2 V1 3 L.length (nI d)) 4 L.length (nI row)) 0 16 (nI (L.length + 1))) : gQ V2 (L ++ [(d, (some row, V 8))]) ∧ (∀ a, a ≠ 0 → a ≠ 3 → a ≠ 4 → a ≠ 5 → V2 a = V a) ∧ ∀ j, j ≠ 16 → V2 0 j = V 0 j := by
  have g3 : ∀ t, t ≠ L.length → V2 3 t = V 3 t := fun t ht => by rw [h2, u2_r _ _ (by decide), u2_r _ _ (by decide), u2_n _ _ (Or.inr ht), h1.1 3 (by decide)]
  have g4 : ∀ t, t ≠ L.length → V2 4 t = V 4 t := fun t ht => by rw [h2, u2_r _ _ (by decide), u2_n _ _ (Or.inr ht), u2_r _ _ (by decide), h1.1 4 (by decide)]
  have g5 : V2 5 = V1 5 := by rw [h2, u2_r _ _ (by decide), u2_r _ _ (by decide), u2_r _ _ (by decide)]
  refine ⟨gQ_snoc hQ hl (by rw [h2, u2_s]) g3 g4 (fun t ht => by rw [g5, h1.2 t, if_neg (by omega)]) ?_, fun a q0 q3 q4 q5 => by rw [h2, u2_r _ _ q0, u2_r _ _ q4, u2_r _ _ q3, h1.1 a q5], fun j hj => by rw [h2, u2_n _ _ (Or.inr hj), u2_r _ _ (by decide), u2_r _ _ (by decide), h1.1 0 (by decide)]⟩
  simp only [gAt]
  refine ⟨hd, by rw [h2, u2_r _ _ (by decide), u2_r _ _ (by decide), u2_s], hr, by rw [h2, u2_r _ _ (by decide), u2_s], fun i hi => ?_⟩
  rw [g5, h1.2, if_pos (by omega)]
  congr 1
  omega
def mkL (b : Nat → Int32) (k : Nat) : List (Nat × Wr) := (List.range k).map (fun d => (d, (none, b)))
theorem mkL_succ {b : Nat → Int32} {k : Nat} : mkL b (k + 1) = mkL b k ++ [(k, (none, b))] := by
  unfold mkL
  rw [List.range_succ, List.map_append]
  rfl
theorem mkL_len {b : Nat → Int32} {k : Nat} : (mkL b k).length = k := by simp [mkL]
theorem qOf_mkL {b : Nat → Int32} {d : Nat} : ∀ {k : Nat}, qOf (mkL b k) d = mkQ b k d
  | 0 => rfl
  | k + 1 => by
    rw [mkL_succ, qOf_snoc]
    unfold qAdd
    rw [qOf_mkL (k := k)]
    unfold mkQ
    by_cases q : d = k
    · rw [if_pos q, if_neg (by omega), if_pos (by omega)]; rfl
    · rw [if_neg q]
      by_cases q2 : d < k
      · rw [if_pos q2, if_pos (by omega)]
      · rw [if_neg q2, if_neg (by omega)]
theorem gQ_marks {V V1 V2 V3 V4 V5 V6 : vT} {L : List (Nat × Wr)} {d num n dn : Nat} {w s : Bool} (hQ : gQ V L) (hl : L.length < 32) (hd : d < 6) (hnum : num + 1 < 2 ^ 31)
    (e1 : V1 = u2 V 5 (5 * L.length) (nI (num + 1))) (e2 : V2 = u2 V1 5 (5 * L.length + 1) (nI n)) (e3 : V3 = u2 V2 5 (5 * L.length + 2) (bI w)) (e4 : V4 = u2 V3 5 (5 * L.length + 3) (nI dn)) (e5 : V5 = u2 V4 5 (5 * L.length + 4) (bI s))
    (h2 : V6 = u2 (u2 (u2 V5 3 L.length (nI d)) 4 L.length (-1)) 0 16 (nI (L.length + 1))) : gQ V6 (L ++ [(d, (none, mkb (num + 1) n w dn s))]) ∧ (∀ a, a ≠ 0 → a ≠ 3 → a ≠ 4 → a ≠ 5 → V6 a = V a) ∧ ∀ j, j ≠ 16 → V6 0 j = V 0 j := by
  have g : ∀ a, a ≠ 5 → V5 a = V a := fun a ha => by rw [e5, u2_r _ _ ha, e4, u2_r _ _ ha, e3, u2_r _ _ ha, e2, u2_r _ _ ha, e1, u2_r _ _ ha]
  have g3 : ∀ t, t ≠ L.length → V6 3 t = V 3 t := fun t ht => by rw [h2, u2_r _ _ (by decide), u2_r _ _ (by decide), u2_n _ _ (Or.inr ht), g 3 (by decide)]
  have g4 : ∀ t, t ≠ L.length → V6 4 t = V 4 t := fun t ht => by rw [h2, u2_r _ _ (by decide), u2_n _ _ (Or.inr ht), u2_r _ _ (by decide), g 4 (by decide)]
  have g5 : V6 5 = V5 5 := by rw [h2, u2_r _ _ (by decide), u2_r _ _ (by decide), u2_r _ _ (by decide)]
  refine ⟨gQ_snoc hQ hl (by rw [h2, u2_s]) g3 g4 (fun t ht => by rw [g5, e5, u2_n _ _ (Or.inr (by omega)), e4, u2_n _ _ (Or.inr (by omega)), e3, u2_n _ _ (Or.inr (by omega)), e2, u2_n _ _ (Or.inr (by omega)), e1, u2_n _ _ (Or.inr (by omega))]) ?_, fun a q0 q3 q4 q5 => by rw [h2, u2_r _ _ q0, u2_r _ _ q4, u2_r _ _ q3, g a q5], fun j hj => by rw [h2, u2_n _ _ (Or.inr hj), u2_r _ _ (by decide), u2_r _ _ (by decide), g 0 (by decide)]⟩
  simp only [gAt]
  refine ⟨hd, by rw [h2, u2_r _ _ (by decide), u2_r _ _ (by decide), u2_s], by rw [h2, u2_r _ _ (by decide), u2_s], ⟨num + 1, hnum, rfl⟩, fun i hi => ?_⟩
  rw [g5]
  rcases (show i = 0 ∨ i = 1 ∨ i = 2 ∨ i = 3 ∨ i = 4 by omega) with rfl | rfl | rfl | rfl | rfl
  · rw [e5, u2_n _ _ (Or.inr (by omega)), e4, u2_n _ _ (Or.inr (by omega)), e3, u2_n _ _ (Or.inr (by omega)), e2, u2_n _ _ (Or.inr (by omega)), e1, show 5 * L.length + 0 = 5 * L.length from rfl, u2_s]; rfl
  · rw [e5, u2_n _ _ (Or.inr (by omega)), e4, u2_n _ _ (Or.inr (by omega)), e3, u2_n _ _ (Or.inr (by omega)), e2, u2_s]; rfl
  · rw [e5, u2_n _ _ (Or.inr (by omega)), e4, u2_n _ _ (Or.inr (by omega)), e3, u2_s]; rfl
  · rw [e5, u2_n _ _ (Or.inr (by omega)), e4, u2_s]; rfl
  · rw [e5, u2_s]; rfl
/-! a write done -/
theorem mp_nI {y : Nat} (hy : y < 2 ^ 31) : mp (nI y) = 160 + 5 * (y % 2) := by
  unfold mp
  rw [pk_andN (by omega) 1 (by decide)]
  rcases Nat.mod_two_eq_zero_or_one y with h | h
  · rw [show y % 2 ^ 1 = 0 from h]; rfl
  · rw [show y % 2 ^ 1 = 1 from h]; rfl
theorem mc_marks {V V1 : vT} {d y k : Nat} {b : Nat → Int32} (hy : y < 2 ^ 31) (hb0 : b 0 = nI y) (hb : ∀ i, i < 5 → V 5 (5 * k + i) = b i) (h : (∀ a, a ≠ 2 → V1 a = V a) ∧ ∀ t, V1 2 t = if 10 * d + 5 * (y % 2) ≤ t ∧ t < 10 * d + 5 * (y % 2) + 5 then V 5 (5 * k + (t - (10 * d + 5 * (y % 2)))) else V 2 t) (e i : Nat) (hi : i < 170) : mc V1 e i = if e = d then apW (none, b) (mc V d) i else mc V e i := by
  simp only [apW, mc, hb0, mp_nI hy]
  rw [h.1 1 (by decide)]
  by_cases q : e = d
  · subst q
    rw [if_pos rfl]
    by_cases q1 : i < 160
    · rw [if_pos q1, if_pos q1, if_neg (by omega)]
    · rw [if_neg q1, if_neg q1, h.2]
      by_cases q2 : 160 + 5 * (y % 2) ≤ i ∧ i < 160 + 5 * (y % 2) + 5
      · rw [if_pos q2, if_pos (by omega), ← hb _ (by omega)]
        exact congrArg (V 5) (by omega)
      · rw [if_neg q2, if_neg (by omega)]
  · rw [if_neg q]
    by_cases q1 : i < 160
    · rw [if_pos q1, if_pos q1]
    · rw [if_neg q1, if_neg q1, h.2, if_neg (by omega)]
theorem mc_block {V V1 : vT} {d r k : Nat} {b : Nat → Int32} (hr : r < 40) (hb : ∀ i, i < 4 → V 5 (5 * k + i) = b i) (h : (∀ a, a ≠ 1 → V1 a = V a) ∧ ∀ t, V1 1 t = if 160 * d + 4 * r ≤ t ∧ t < 160 * d + 4 * r + 4 then V 5 (5 * k + (t - (160 * d + 4 * r))) else V 1 t) (e i : Nat) (hi : i < 170) : mc V1 e i = if e = d then apW (some r, b) (mc V d) i else mc V e i := by
  simp only [apW, mc]
  rw [h.1 2 (by decide)]
  by_cases q : e = d
  · subst q
    rw [if_pos rfl]
    by_cases q1 : i < 160
    · rw [if_pos q1, if_pos q1, h.2]
      by_cases q2 : r * 4 ≤ i ∧ i < r * 4 + 4
      · rw [if_pos q2, if_pos (by omega), ← hb _ (by omega)]
        exact congrArg (V 5) (by omega)
      · rw [if_neg q2, if_neg (by omega)]
    · rw [if_neg q1, if_neg q1, if_neg (by omega)]
  · rw [if_neg q]
    by_cases q1 : i < 160
    · rw [if_pos q1, if_pos q1, h.2, if_neg (by omega)]
    · rw [if_neg q1, if_neg q1]
