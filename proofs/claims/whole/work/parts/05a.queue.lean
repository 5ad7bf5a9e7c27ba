/-! disks' contents (words 0 .. 159, even marks 160 .. 164, odd marks 165 .. 169) and the writes that wait -/
abbrev Wr : Type := Option Nat × (Nat → Int32)
def dc (V : vT) (d j : Nat) : Int32 := if j < 160 then V (6 + 7 * d) j else if j < 165 then V (7 + 7 * d) (j - 160) else V (8 + 7 * d) (j - 165)
/-- where marks come to -/
def mp (x : Int32) : Nat := if x &&& nI 1 = nI 1 then 165 else 160
/-- a write done: a block of a row, or marks -/
def apW (x : Wr) (c : Nat → Int32) : Nat → Int32 := fun j => match x.1 with
  | some r => if r * 4 ≤ j ∧ j < r * 4 + 4 then x.2 (j - r * 4) else c j
  | none => if mp (x.2 0) ≤ j ∧ j < mp (x.2 0) + 5 then x.2 (j - mp (x.2 0)) else c j
def apL (L : List Wr) (c : Nat → Int32) : Nat → Int32 := L.foldl (fun c x => apW x c) c
theorem apW_pt (x : Wr) {c c' : Nat → Int32} {j : Nat} (h : c j = c' j) : apW x c j = apW x c' j := by
  obtain ⟨_ | r, b⟩ := x
  · simp only [apW, h]
  · simp only [apW, h]
theorem apL_pt (L : List Wr) : ∀ {c c' : Nat → Int32} {j : Nat}, c j = c' j → apL L c j = apL L c' j := by
  induction L with
  | nil => intro c c' j h; exact h
  | cons x L ih => intro c c' j h; exact ih (apW_pt x h)
theorem apL_succ {L : List Wr} {j : Nat} {x : Wr} (h : L[j]? = some x) (c : Nat → Int32) : apL (L.take (j + 1)) c = apW x (apL (L.take j) c) := by
  have hl : j < L.length := (List.getElem?_eq_some_iff.mp h).1
  have e : L.take (j + 1) = L.take j ++ [x] := by
    rw [List.take_succ, h]
    rfl
  rw [e, apL, List.foldl_append]
  rfl
def qAt (V : vT) (d j : Nat) (x : Wr) : Prop := match x.1 with
  | some r => r < 40 ∧ V (9 + 7 * d) j = nI r ∧ ∀ i, i < 4 → V (10 + 7 * d) (j * 4 + i) = x.2 i
  | none => V (9 + 7 * d) j = -1 ∧ (∀ i, i < 5 → V (11 + 7 * d) i = x.2 i) ∧ isB (x.2 2) ∧ isB (x.2 4)
/-- the writes L wait at disk d -/
def cQd (V : vT) (d : Nat) (L : List Wr) : Prop := V (5 + 7 * d) 3 = nI L.length ∧ L.length ≤ 8 ∧ ∀ (j : Nat) (x : Wr), L[j]? = some x → qAt V d j x
theorem nI_nm1 {r : Nat} (h : r < 2 ^ 31) : ¬ nI r = -1 := by
  intro q
  have a := nI_toInt h
  rw [q] at a
  have b : (-1 : Int32).toInt = -1 := by decide
  omega
theorem dc_block {V V' : vT} {d r j : Nat} {b : Nat → Int32} (e : V' = va_up V (6 + 7 * d) (va_cpy (V (10 + 7 * d)) (V (6 + 7 * d)) (j * 4) (r * 4) 4)) (hr : r < 40) (hb : ∀ i, i < 4 → V (10 + 7 * d) (j * 4 + i) = b i) (i : Nat) : dc V' d i = apW (some r, b) (dc V d) i := by
  have e7 : V' (7 + 7 * d) = V (7 + 7 * d) := by rw [e, va_up_ne _ _ (by omega)]
  have e8 : V' (8 + 7 * d) = V (8 + 7 * d) := by rw [e, va_up_ne _ _ (by omega)]
  have e6 : V' (6 + 7 * d) = va_cpy (V (10 + 7 * d)) (V (6 + 7 * d)) (j * 4) (r * 4) 4 := by rw [e, va_up_self]
  simp only [dc, apW, e7, e8, e6]
  by_cases h : r * 4 ≤ i ∧ i < r * 4 + 4
  · rw [if_pos (show i < 160 by omega), if_pos h, pk_cpy_in h.1 h.2, hb _ (by omega)]
  · rw [if_neg h]
    by_cases h1 : i < 160
    · rw [if_pos h1, if_pos h1, pk_cpy_out (by omega)]
    · rw [if_neg h1, if_neg h1]
theorem dc_marks {V V' : vT} {d k : Nat} {b : Nat → Int32} (hb : ∀ i, i < 5 → V (11 + 7 * d) i = b i) (e1 : ∀ a, a ≠ (if V (11 + 7 * d) 0 &&& nI 1 = nI 1 then 8 + 7 * d else 7 + 7 * d) → V' a = V a) (e2 : ∀ j, j < 5 → V' (if V (11 + 7 * d) 0 &&& nI 1 = nI 1 then 8 + 7 * d else 7 + 7 * d) j = V (11 + 7 * d) j) {i : Nat} (hi : i < 170) : dc V' d i = apW (none, b) (dc V d) i := by
  rw [hb 0 (by decide)] at e1 e2
  simp only [dc, apW, mp]
  by_cases h : b 0 &&& nI 1 = nI 1
  · simp only [if_pos h] at e1 e2 ⊢
    rw [e1 (6 + 7 * d) (by omega), e1 (7 + 7 * d) (by omega)]
    by_cases h1 : 165 ≤ i
    · rw [if_neg (by omega), if_neg (by omega), if_pos (by omega), e2 _ (by omega), hb _ (by omega)]
    · rw [if_neg (show ¬ (165 ≤ i ∧ i < 165 + 5) by omega)]
      by_cases h2 : i < 160
      · rw [if_pos h2, if_pos h2]
      · rw [if_neg h2, if_neg h2, if_pos (by omega), if_pos (by omega)]
  · simp only [if_neg h] at e1 e2 ⊢
    rw [e1 (6 + 7 * d) (by omega), e1 (8 + 7 * d) (by omega)]
    by_cases h2 : i < 160
    · rw [if_pos h2, if_neg (by omega), if_pos h2]
    · by_cases h3 : i < 165
      · rw [if_neg h2, if_pos h3, if_pos (by omega), e2 _ (by omega), hb _ (by omega)]
      · rw [if_neg h2, if_neg h3, if_neg (by omega), if_neg h2, if_neg h3]
def sh4 (c : Int32) (d : Nat) : Nat := (c >>> (nI (4 * d) &&& 31)).toBitVec.toNat % 2 ^ 4
theorem sh4_lt (c : Int32) (d : Nat) : sh4 c d < 16 := Nat.mod_lt _ (by decide)
/-- how many of q writes disk d does -/
def wdn (out : Int32) (fl : Bool) (sh : Int32) (d q : Nat) : Nat := if nI d = out then 0 else if fl = true then sh4 sh d % (q + 1) else q
theorem wdn_le {out : Int32} {fl : Bool} {sh : Int32} {d q : Nat} : wdn out fl sh d q ≤ q := by
  unfold wdn
  split
  · omega
  · split
    · exact Nat.le_of_lt_succ (Nat.mod_lt _ (by omega))
    · omega
