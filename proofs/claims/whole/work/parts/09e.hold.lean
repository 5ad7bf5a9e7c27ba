/-! a waiting point of the reference -/
def hfl (ar : Bool) (p : Nat) (fa : Int32) (la : Bool) : Bool := ar && (decide (nI (p + 1) = fa) || la)
def wd (fl : Bool) (sh : Int32) (L : List (Nat × Wr)) (t : Nat) : Nat := if fl = true then sh4 sh t % ((qOf L t).length + 1) else (qOf L t).length
theorem wd_le {fl : Bool} {sh : Int32} {L : List (Nat × Wr)} {t : Nat} : wd fl sh L t ≤ L.length := by
  have h := qOf_le (L := L) (d := t)
  unfold wd
  split
  · have := Nat.mod_lt (sh4 sh t) (show 0 < (qOf L t).length + 1 by omega)
    omega
  · exact h
theorem wdn_wd {out : Int32} {fl : Bool} {sh : Int32} {L : List (Nat × Wr)} {d : Nat} : wdn out fl sh d (qOf L d).length = if nI d = out then 0 else wd fl sh L d := rfl
theorem take_snoc {α : Type} {L : List α} {j : Nat} {x : α} (h : L[j]? = some x) : L.take (j + 1) = L.take j ++ [x] := by
  rw [List.take_succ, h]
  rfl
theorem apL_snoc {Q : List Wr} {x : Wr} {c : Nat → Int32} : apL (Q ++ [x]) c = apW x (apL Q c) := by
  rw [apL, List.foldl_append]
  rfl
theorem nI_sub_le {a b : Nat} (ha : a < 1000) (hb : b < 1000) : nI a - nI b ≤ 0 ↔ a ≤ b := by
  rw [Int32.le_iff_toInt_le, Int32.toInt_sub, nI_toInt (by omega), nI_toInt (by omega), Int.bmod_eq_of_le (by omega) (by omega)]
  show ((a : Int) - (b : Int) ≤ 0) ↔ a ≤ b
  omega
theorem nI_sub1 {x : Int32} {b : Nat} : x - nI b - nI 1 = x - nI (b + 1) := by
  rw [← nI_add, Int32.sub_eq_add_neg, Int32.sub_eq_add_neg, Int32.sub_eq_add_neg, Int32.neg_add, Int32.sub_eq_add_neg, Int32.add_assoc]
section Hold
variable {L : List (Nat × Wr)} {j d9 : Nat} {w9 : Wr} {out : Int32} {fl : Bool} {sh : Int32} {c cj ck : Nat → Nat → Int32}
def hInv (L : List (Nat × Wr)) (out : Int32) (fl : Bool) (sh : Int32) (c : Nat → Nat → Int32) (j : Nat) (cj : Nat → Nat → Int32) : Prop := ∀ d, d < 6 → ∀ i, i < 170 → cj d i = apL ((qOf (L.take j) d).take (wdn out fl sh d (qOf L d).length)) (c d) i
theorem hold_do (hx : L[j]? = some (d9, w9)) (hj : hInv L out fl sh c j cj) (hlt : (qOf (L.take j) d9).length < wd fl sh L d9) (hk : ∀ d, d < 6 → ∀ i, i < 170 → ck d i = if d = d9 ∧ ¬ nI d = out then apW w9 (cj d) i else cj d i) : hInv L out fl sh c (j + 1) ck := by
  intro d hd i hi
  rw [hk d hd i hi, take_snoc hx, qOf_snoc, wdn_wd]
  unfold qAdd
  by_cases q : d = d9
  · subst q
    rw [if_pos rfl]
    by_cases q2 : nI d = out
    · rw [if_neg (fun h => h.2 q2), hj d hd i hi, wdn_wd, if_pos q2]
      simp
    · rw [if_pos ⟨rfl, q2⟩, if_neg q2, List.take_of_length_le (by rw [List.length_append]; exact hlt), apL_snoc]
      refine apW_pt _ ?_
      rw [hj d hd i hi, wdn_wd, if_neg q2, List.take_of_length_le (by omega)]
  · rw [if_neg (fun h => q h.1), if_neg q, hj d hd i hi, wdn_wd]
theorem hold_skip (hx : L[j]? = some (d9, w9)) (hj : hInv L out fl sh c j cj) (hge : wd fl sh L d9 ≤ (qOf (L.take j) d9).length) (hk : ∀ d, d < 6 → ∀ i, i < 170 → ck d i = cj d i) : hInv L out fl sh c (j + 1) ck := by
  intro d hd i hi
  rw [hk d hd i hi, hj d hd i hi, take_snoc hx, qOf_snoc, wdn_wd]
  unfold qAdd
  by_cases q : d = d9
  · subst q
    rw [if_pos rfl]
    by_cases q2 : nI d = out
    · rw [if_pos q2]; simp
    · rw [if_neg q2, List.take_append_of_le_length hge]
  · rw [if_neg q]
end Hold
/-- what a waiting point does -/
def HWt (V : vT) (L : List (Nat × Wr)) (ar : Bool) (sh : Int32) (p : Nat) (fl : Bool) (r : Int32) (V1 : vT) : Prop :=
  bI (!fl) = r ∧ V1 0 10 = bI (ar && !fl) ∧ V1 0 2 = bI fl ∧ V1 0 13 = nI (p + 1) ∧ V1 0 16 = nI 0 ∧ (∀ j, j ≠ 2 → j ≠ 10 → j ≠ 13 → j ≠ 16 → V1 0 j = V 0 j) ∧ (∀ a, a = 8 ∨ a = 9 → V1 a = V a) ∧ (∀ t, 60 ≤ t → V1 2 t = V 2 t) ∧ ∀ d, d < 6 → ∀ i, i < 170 → mc V1 d i = eff (ab (V 0 8) (V 0 9)) fl sh (qOf L) (mc V) d i
