/-! what waiting and new marks do, as relations; the queues of a step; the highest marks -/
def AW (V : vT) (Qf : Nat → List Wr) (fp : Nat) (fd : Bool) (r : Int32) (V1 : vT) : Prop := bI (!decide (fp = 1)) = r ∧ V1 0 8 = nI (fp - 1) ∧ V1 0 5 = bI (fd || decide (fp = 1)) ∧ (∀ j, j ≠ 5 → j ≠ 8 → V1 0 j = V 0 j) ∧ (∀ a, 1 ≤ a → a < 5 → V1 a = V a) ∧ ∀ d, d < 6 → V1 (5 + 7 * d) 3 = nI 0 ∧ ∀ i, i < 170 → dc V1 d i = apL ((Qf d).take (wdn (ab (V 0 6) (V 0 7)) (decide (fp = 1)) (V 0 9) d (Qf d).length)) (dc V d) i
def NM (V : vT) (num n : Nat) (wide : Bool) (V1 : vT) : Prop := V1 0 = V 0 ∧ V1 3 = V 3 ∧ V1 4 = V 4 ∧ V1 2 0 = nI (num + 1) ∧ (∀ j, j ≠ 0 → V1 2 j = V 2 j) ∧ sameD V V1 ∧ ∀ d, d < 6 → cQd V1 d (if d < kw n wide then [(none, V1 2)] else [])
def mkQ (b : Nat → Int32) (k : Nat) : Nat → List Wr := fun d => if d < k then [(none, b)] else []
theorem AW.nil {V V1 : vT} {Qf : Nat → List Wr} {fp : Nat} {fd : Bool} {r : Int32} (h : AW V Qf fp fd r V1) : cQ V1 (fun _ => []) := fun d hd => cQd_nil (h.2.2.2.2.2 d hd).1
/-- a word of the window -/
def winw (w : Nat → Nat → Int32) (out : Int32) (n : Nat) (wide : Bool) (dn : Nat) (st : Bool) (j i : Nat) : Int32 := if dn * n + j < 32 * (n - 1) then wob w out n wide dn st (dn * n + j) i else 0
/-- the writes that stash the window's first m blocks -/
def stQ (D3 : Nat → Int32) (n : Nat) : Nat → Nat → List Wr
  | 0 => fun _ => []
  | m + 1 => qAdd (qAdd (stQ D3 n m) n (some (32 + m), fun i => D3 (m * 4 + i))) 0 (some (32 + m), fun i => D3 (m * 4 + i))
theorem stQ_len {D3 : Nat → Int32} {n : Nat} (hn : n ≠ 0) : ∀ (m d : Nat), (stQ D3 n m d).length ≤ m
  | 0, d => Nat.zero_le _
  | m + 1, d => by
    have ih := stQ_len (D3 := D3) hn m d
    unfold stQ qAdd
    by_cases h0 : d = 0
    · subst h0
      rw [if_pos rfl, if_neg (fun q => hn q.symm), List.length_append]
      simp
      omega
    · rw [if_neg h0]
      split
      · rw [List.length_append]
        simp
        omega
      · omega
/-- the writes that lay the window's first m blocks into row dn of k disks -/
def lyQ (D3 : Nat → Int32) (k dn : Nat) : Nat → Nat → List Wr
  | 0 => fun _ => []
  | m + 1 => qAdd (lyQ D3 k dn m) (dd k dn m) (some dn, fun i => D3 (m * 4 + i))
theorem lyQ_len {D3 : Nat → Int32} {k dn : Nat} : ∀ (m d : Nat), (lyQ D3 k dn m d).length ≤ m
  | 0, d => Nat.zero_le _
  | m + 1, d => by
    unfold lyQ
    exact qAdd_len (lyQ_len m d)
/-- the place of the highest of f 0 .. f (q - 1), the first one of equals -/
def bst (f : Nat → Int32) : Nat → Nat
  | 0 => 0
  | q + 1 => if f (bst f q) < f q then q else bst f q
theorem bst_lt (f : Nat → Int32) : ∀ {q : Nat}, 0 < q → bst f q < q
  | 1, _ => by unfold bst; split <;> simp [bst]
  | q + 2, _ => by
    have := bst_lt f (q := q + 1) (by omega)
    unfold bst
    split <;> omega
/-- the cell of the q-th marks: even, odd, disk by disk -/
def mcl (q : Nat) : Nat := 7 + 7 * (q / 2) + q % 2
theorem mcl_F {cI cD : ClassId} {ad : Nat → Nat} (q : Nat) (f : Nat → Int32) : cF cI cD ad (mcl q) f = cM f := by
  unfold mcl
  rcases Nat.mod_two_eq_zero_or_one q with h | h
  · rw [h]; exact cF_d2 _ _
  · rw [h, show 7 + 7 * (q / 2) + 1 = 8 + 7 * (q / 2) by omega]; exact cF_d3 _ _
theorem mcl_lt {q : Nat} (h : q < 12) : mcl q < 47 := by unfold mcl; omega
