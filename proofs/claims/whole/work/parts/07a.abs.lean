/-! the array as a value: contents (disk, place), made and failed, marks, lost and replaced, the failing point (0: none) and its shares; what each call answers and leaves -/
abbrev AS : Type := (Nat → Nat → Int32) × (Bool × Bool) × (Nat × Bool × Nat × Bool × Nat) × (Int32 × Int32) × (Nat × Int32)
def cNow (V : vT) (n : Nat) (wide : Bool) (dn : Nat) (st : Bool) (num : Nat) : Prop := V 2 0 = nI num ∧ V 2 1 = nI n ∧ V 2 2 = bI wide ∧ V 2 3 = nI dn ∧ V 2 4 = bI st
/-- the class holds the value -/
def cR (V : vT) (a : AS) : Prop := V 0 4 = bI a.2.1.1 ∧ V 0 5 = bI a.2.1.2 ∧ V 0 6 = a.2.2.2.1.1 ∧ V 0 7 = a.2.2.2.1.2 ∧ V 0 8 = nI a.2.2.2.2.1 ∧ V 0 9 = a.2.2.2.2.2 ∧ cQ V (fun _ => []) ∧ (∀ d, d < 6 → ∀ i, i < 170 → dc V d i = a.1 d i) ∧ (a.2.1.1 = true → a.2.1.2 = false → cNow V a.2.2.1.1 a.2.2.1.2.1 a.2.2.1.2.2.1 a.2.2.1.2.2.2.1 a.2.2.1.2.2.2.2)
/-- the q-th marks of contents c -/
def mkA (c : Nat → Nat → Int32) (q j : Nat) : Int32 := c (q / 2) (160 + 5 * (q % 2) + j)
/-- marks that may stand on disk d, numbers up to B -/
def mOK (B d : Nat) (f : Nat → Int32) : Prop := ∃ (x n' : Nat) (w' : Bool) (dn' : Nat) (st' : Bool), f 0 = nI x ∧ x ≤ B ∧ f 1 = nI n' ∧ f 2 = bI w' ∧ f 3 = nI dn' ∧ f 4 = bI st' ∧ (x ≠ 0 → 3 ≤ n' ∧ n' ≤ 6 ∧ dn' < 32 ∧ (w' = true → n' < 6) ∧ (st' = true → w' = true) ∧ d < kw n' w')
/-- what holds of every value that calls lead to; numbers of marks up to B -/
def WF (B : Nat) (a : AS) : Prop :=
  (∀ q, q < 12 → mOK B (q / 2) (mkA a.1 q)) ∧ a.2.2.2.2.1 < 2 ^ 31 ∧
  (a.2.1.1 = false → a.2.1.2 = false ∧ a.2.2.2.2.1 = 0) ∧
  (a.2.1.2 = true → (∃ q, q < 12 ∧ ∃ x, x ≠ 0 ∧ x ≤ B ∧ mkA a.1 q 0 = nI x) ∧ a.2.2.2.1.1 = -1 ∧ a.2.2.2.1.2 = -1 ∧ a.2.2.2.2.1 = 0) ∧
  (a.2.1.1 = true → a.2.1.2 = false → 3 ≤ a.2.2.1.1 ∧ a.2.2.1.1 ≤ 6 ∧ (a.2.2.1.2.1 = true → a.2.2.1.1 < 6) ∧ a.2.2.1.2.2.1 < 32 ∧ (a.2.2.1.2.2.2.1 = true → a.2.2.1.2.1 = true) ∧ 1 ≤ a.2.2.1.2.2.2.2 ∧ a.2.2.1.2.2.2.2 ≤ B ∧
    (a.2.2.2.1.1 = -1 ∨ ∃ d, d < kw a.2.2.1.1 a.2.2.1.2.1 ∧ a.2.2.2.1.1 = nI d) ∧ (a.2.2.2.1.2 = -1 ∨ ∃ d, d < kw a.2.2.1.1 a.2.2.1.2.1 ∧ a.2.2.2.1.2 = nI d) ∧ (a.2.2.2.1.1 = -1 ∨ a.2.2.2.1.2 = -1) ∧
    (a.2.2.2.2.1 ≠ 0 → a.2.2.2.1.1 = -1 ∧ a.2.2.2.1.2 = -1) ∧
    (a.2.2.2.1.1 = -1 → a.2.2.2.1.2 = -1 → ∃ q, q < 12 ∧ q / 2 < kw a.2.2.1.1 a.2.2.1.2.1 ∧ ∃ x, x ≠ 0 ∧ x ≤ B ∧ mkA a.1 q 0 = nI x))
abbrev RS : Type := Nat × Int32 × AS
/-- a disk empty -/
def emp (c : Nat → Nat → Int32) (d : Nat) : Nat → Nat → Int32 := fun e j => if e = d then 0 else c e j
/-- the call is let in, or the first exception -/
def ifS (a : AS) (r : RS) : RS := if a.2.1.1 = true ∧ a.2.1.2 = false then r else (1, 0, a)
def oRead (a : AS) (b i : Int32) : RS := ifS a (if b < 0 ∨ nI (32 * (a.2.2.1.1 - 1)) ≤ b ∨ i < 0 ∨ ¬ i < nI 4 then (2, 0, a) else (0, wob a.1 (ab a.2.2.2.1.1 a.2.2.2.1.2) a.2.2.1.1 a.2.2.1.2.1 a.2.2.1.2.2.1 a.2.2.1.2.2.2.1 b.toNatClampNeg i.toNatClampNeg, a))
def oLayout (a : AS) (b : Int32) : RS := ifS a (if b < 0 ∨ nI (32 * (a.2.2.1.1 - 1)) ≤ b then (2, 0, a) else (0, nI (plc a.2.2.1.1 a.2.2.1.2.1 a.2.2.1.2.2.1 a.2.2.1.2.2.2.1 b.toNatClampNeg), a))
def oCell (a : AS) (d row i : Int32) : RS := ifS a (if (d < 0 ∨ ¬ d < nI (kw a.2.2.1.1 a.2.2.1.2.1)) ∨ (row < 0 ∨ nI 40 ≤ row ∨ i < 0 ∨ ¬ i < nI 4) then (2, 0, a) else (0, a.1 d.toNatClampNeg (row.toNatClampNeg * 4 + i.toNatClampNeg), a))
def oMarks (a : AS) (d q : Int32) : RS := ifS a (if (d < 0 ∨ ¬ d < nI (kw a.2.2.1.1 a.2.2.1.2.1)) ∨ (¬ q = 0 ∧ ¬ q = nI 1) then (2, 0, a) else (0, a.1 d.toNatClampNeg (160 + 5 * q.toNatClampNeg), a))
noncomputable def oGood (a : AS) (row : Int32) : RS := ifS a (if row < 0 ∨ ¬ row < nI 32 then (2, 0, a) else if ¬ ab a.2.2.2.1.1 a.2.2.2.1.2 = -1 ∨ lay a.2.2.1.2.2.2.1 a.2.2.1.2.2.1 row.toNatClampNeg = true then (3, 0, a) else (0, bI (prt a.1 (wor a.2.2.1.1 a.2.2.1.2.1 a.2.2.1.2.2.1 row.toNatClampNeg) row.toNatClampNeg), a))
def oCount (a : AS) (w : Int32) : Int32 := if w = nI 7 then bI a.2.1.2 else if a.2.1.1 = true ∧ a.2.1.2 = false then (if w = nI 0 then nI (kw a.2.2.1.1 a.2.2.1.2.1) else if w = nI 1 then nI (32 * (a.2.2.1.1 - 1)) else if w = nI 2 then nI a.2.2.1.2.2.1 else if w = nI 3 then bI a.2.2.1.2.1 else if w = nI 4 then bI a.2.2.1.2.2.2.1 else if w = nI 5 then a.2.2.2.1.1 else if w = nI 6 then a.2.2.2.1.2 else -1) else -1
def oLose (a : AS) (d : Int32) : RS := ifS a (if d < 0 ∨ ¬ d < nI (kw a.2.2.1.1 a.2.2.1.2.1) then (2, 0, a) else if ¬ ab a.2.2.2.1.1 a.2.2.2.1.2 = -1 ∨ ¬ a.2.2.2.2.1 = 0 then (3, 0, a) else (0, 0, (emp a.1 d.toNatClampNeg, a.2.1, a.2.2.1, (d, a.2.2.2.1.2), a.2.2.2.2)))
def oReplace (a : AS) : RS := ifS a (if a.2.2.2.1.1 = -1 then (2, 0, a) else (0, a.2.2.2.1.1, (a.1, a.2.1, a.2.2.1, (-1, a.2.2.2.1.1), a.2.2.2.2)))
def oCrash (a : AS) (w h : Int32) : RS := ifS a (if w < nI 1 ∨ ¬ ab a.2.2.2.1.1 a.2.2.2.1.2 = -1 then (2, 0, a) else (0, 0, (a.1, a.2.1, a.2.2.1, a.2.2.2.1, (w.toNatClampNeg, h))))
/-! words by contents -/
def wc (c w : Nat → Nat → Int32) : Prop := ∀ d, d < 6 → ∀ j, j < 160 → w d j = c d j
theorem wc_V {V : vT} {a : AS} (h : cR V a) : wc a.1 (cw V) := fun d hd j hj => by
  have h1 := h.2.2.2.2.2.2.2.1 d hd j (by omega)
  rw [← h1]
  show V (6 + 7 * d) j = dc V d j
  unfold dc
  rw [if_pos hj]
theorem told_congr {c w : Nat → Nat → Int32} (h : wc c w) {out : Int32} {k row d i : Nat} (hk : k ≤ 6) (hr : row < 40) (hd : d < 6) (hi : i < 4) : told w out k row d i = told c out k row d i := by
  unfold told
  rw [h d hd _ (by omega), xr_congr (fun e he hne => h e (by omega) (row * 4 + i) (by omega))]
theorem wob_congr {c w : Nat → Nat → Int32} (h : wc c w) {out : Int32} {n : Nat} {wide : Bool} {dn : Nat} {st : Bool} {b i : Nat} (hn3 : 3 ≤ n) (hn6 : n ≤ 6) (hwn : wide = true → n < 6) (hb : b < 32 * (n - 1)) (hi : i < 4) : wob w out n wide dn st b i = wob c out n wide dn st b i := by
  unfold wob
  by_cases h2 : plc n wide dn st b = 2
  · rw [if_pos h2, if_pos h2]
    have hp := plc2 h2
    have hn5 := hwn hp.1
    refine h _ ?_ _ (by omega)
    unfold sd
    split <;> omega
  · rw [if_neg h2, if_neg h2]
    have hk : 2 ≤ (if plc n wide dn st b = 1 then n + 1 else n) - 1 ∧ (if plc n wide dn st b = 1 then n + 1 else n) ≤ 6 := plc_k hn3 hn6 hwn
    have hrw : b / ((if plc n wide dn st b = 1 then n + 1 else n) - 1) < 40 := plc_row hn3 hb hk.1
    have hdd := dd_lt (k := (if plc n wide dn st b = 1 then n + 1 else n)) (row := b / ((if plc n wide dn st b = 1 then n + 1 else n) - 1)) (j := b % ((if plc n wide dn st b = 1 then n + 1 else n) - 1)) (by omega)
    exact told_congr h hk.2 hrw (by omega) hi
theorem prt_congr {c w : Nat → Nat → Int32} (h : wc c w) {k row : Nat} (hk0 : 0 < k) (hk : k ≤ 6) (hr : row < 40) : prt w k row = prt c k row := by
  have hp := pd_lt (k := k) (row := row) hk0
  have e : (∀ i, i < 4 → w (pd k row) (row * 4 + i) = xr (fun e => w e (row * 4 + i)) (pd k row) k) ↔ (∀ i, i < 4 → c (pd k row) (row * 4 + i) = xr (fun e => c e (row * 4 + i)) (pd k row) k) := by
    constructor
    · intro q i hi
      rw [← h _ (by omega) _ (by omega), q i hi]
      exact xr_congr (fun e he hne => h e (by omega) (row * 4 + i) (by omega))
    · intro q i hi
      rw [h _ (by omega) _ (by omega), q i hi]
      exact (xr_congr (fun e he hne => h e (by omega) (row * 4 + i) (by omega))).symm
  by_cases q : ∀ i, i < 4 → w (pd k row) (row * 4 + i) = xr (fun e => w e (row * 4 + i)) (pd k row) k
  · rw [prt_t q, prt_t (e.mp q)]
  · rw [prt_f q, prt_f (fun z => q (e.mpr z))]
theorem ifS_y {a : AS} {r : RS} (h1 : a.2.1.1 = true) (h2 : a.2.1.2 = false) : ifS a r = r := if_pos ⟨h1, h2⟩
theorem ifS_n {a : AS} {r : RS} (h : ¬ (a.2.1.1 = true ∧ a.2.1.2 = false)) : ifS a r = (1, 0, a) := if_neg h
theorem nI_in2 {x : Int32} {L : Nat} (h0 : ¬ x < 0) (h : x < nI L) (hL : L < 2 ^ 31) : ∃ j : Nat, j < L ∧ x = nI j := by
  obtain ⟨j, h1, h2, -⟩ := pk_mu h0 (Int32.not_le.mpr h) hL
  exact ⟨j, h1, h2⟩
theorem ab_none {lost fresh : Int32} (h : ¬ lost = -1 → fresh = -1) : ab lost fresh = -1 ↔ lost = -1 ∧ fresh = -1 := by
  unfold ab
  by_cases q : lost = -1
  · rw [if_pos q]; exact ⟨fun z => ⟨q, z⟩, fun z => z.2⟩
  · rw [if_neg q]; exact ⟨fun z => absurd z q, fun z => absurd z.1 q⟩
