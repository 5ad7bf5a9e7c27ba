/-! the reference: its words and marks by disk; what is out; parity's disk -/
abbrev mw (V : vT) (d j : Nat) : Int32 := V 1 (160 * d + j)
def mc (V : vT) (d j : Nat) : Int32 := if j < 160 then V 1 (160 * d + j) else V 2 (10 * d + (j - 160))
theorem out_iff {d : Nat} {lost fresh : Int32} (h : lost = -1 ∨ fresh = -1) (hd : d < 2 ^ 31) : (nI d = lost ∨ nI d = fresh) ↔ nI d = ab lost fresh := by
  have h1 := nI_nm1 hd
  unfold ab
  by_cases q : lost = -1
  · rw [if_pos q]
    exact ⟨fun z => z.elim (fun y => absurd (y.trans q) h1) id, Or.inr⟩
  · rw [if_neg q]
    have q2 := h.resolve_left q
    exact ⟨fun z => z.elim id (fun y => absurd (y.trans q2) h1), Or.inl⟩
theorem pdI_all : ∀ k : Fin 7, ∀ row : Fin 40, 0 < k.val → (nI (k.val - 1) - nI row.val - (nI (k.val - 1) - nI row.val) / nI k.val * nI k.val + nI k.val) - (nI (k.val - 1) - nI row.val - (nI (k.val - 1) - nI row.val) / nI k.val * nI k.val + nI k.val) / nI k.val * nI k.val = nI (pd k.val row.val) := by decide +kernel
theorem pdI {k row : Nat} (h0 : 0 < k) (hk : k ≤ 6) (hr : row < 40) : (nI (k - 1) - nI row - (nI (k - 1) - nI row) / nI k * nI k + nI k) - (nI (k - 1) - nI row - (nI (k - 1) - nI row) / nI k * nI k + nI k) / nI k * nI k = nI (pd k row) := pdI_all ⟨k, by omega⟩ ⟨row, hr⟩ h0
theorem nI_le_pred {x : Int32} {L : Nat} (h1 : 1 ≤ L) (hL : L < 2 ^ 31) : x ≤ nI (L - 1) ↔ ¬ nI L ≤ x := by
  rw [Int32.not_le, Int32.le_iff_toInt_le, Int32.lt_iff_toInt_lt, nI_toInt (by omega), nI_toInt hL]
  omega
theorem dec_ands {a b : Bool} : (a && b) = decide (a = true ∧ b = true) := by cases a <;> cases b <;> rfl
theorem mF_0 {cI : ClassId} {ad : Nat → Nat} (f : Nat → Int32) : mF cI ad 0 f = .inr (3, [.int (f 0), .int (f 1), .int (f 2), .int (f 3), .int (f 4), .int (f 5), .int (f 6), .int (f 7), .int (f 8), .int (f 9), .int (f 10), .int (f 11), .int (f 12), .int (f 13), .ref (ad 1), .ref (ad 2), .int (f 16), .ref (ad 3), .ref (ad 4), .ref (ad 5), .ref (ad 6), .ref (ad 7), .ref (ad 8), .ref (ad 9)]) := rfl
