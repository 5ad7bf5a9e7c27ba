/-! what the methods answer, in numbers -/
/-- exclusive or of f over 0 .. k - 1, without d -/
def xr (f : Nat → Int32) (d : Nat) : Nat → Int32
  | 0 => 0
  | e + 1 => if e = d then xr f d e else xr f d e ^^^ f e
def kw (n : Nat) (wide : Bool) : Nat := if wide then n + 1 else n
def ab (lost fresh : Int32) : Int32 := if lost = -1 then fresh else lost
def plc (n : Nat) (wide : Bool) (dn : Nat) (st : Bool) (b : Nat) : Nat := if wide = false then 0 else if b < dn * n then 1 else if st = true ∧ b < dn * n + n then 2 else 0
def wor (n : Nat) (wide : Bool) (dn row : Nat) : Nat := if wide = true ∧ row < dn then n + 1 else n
def lay (st : Bool) (dn row : Nat) : Bool := st && decide (row = dn)
def pd (k row : Nat) : Nat := k - 1 - row % k
def dd (k row j : Nat) : Nat := (pd k row + 1 + j) % k
theorem pd_lt {k row : Nat} (h : 0 < k) : pd k row < k := by unfold pd; omega
theorem dd_lt {k row j : Nat} (h : 0 < k) : dd k row j < k := Nat.mod_lt _ h
/-- a word as the rest of its row tells it, when the disk is out -/
def told (w : Nat → Nat → Int32) (out : Int32) (k row d i : Nat) : Int32 := if nI d = out then xr (fun e => w e (row * 4 + i)) d k else w d (row * 4 + i)
/-- where the stash is read -/
def sd (out : Int32) (n : Nat) : Nat := if out = nI n then 0 else n
/-- a word of block b -/
def wob (w : Nat → Nat → Int32) (out : Int32) (n : Nat) (wide : Bool) (dn : Nat) (st : Bool) (b i : Nat) : Int32 :=
  if plc n wide dn st b = 2 then w (sd out n) ((32 + (b - dn * n)) * 4 + i)
  else told w out (if plc n wide dn st b = 1 then n + 1 else n) (b / ((if plc n wide dn st b = 1 then n + 1 else n) - 1)) (dd (if plc n wide dn st b = 1 then n + 1 else n) (b / ((if plc n wide dn st b = 1 then n + 1 else n) - 1)) (b % ((if plc n wide dn st b = 1 then n + 1 else n) - 1))) i
/-- the class's words, by disk -/
abbrev cw (V : vT) (d j : Nat) : Int32 := V (6 + 7 * d) j
def isB (x : Int32) : Prop := x = 0 ∨ x = 1
theorem isB_nar {x : Int32} (h : isB x) : narrow .boolean (.int x) = .int x := by rcases h with rfl | rfl <;> rfl
theorem isB_fit {x : Int32} (h : isB x) : fits .boolean (.int x) = true := by rcases h with rfl | rfl <;> rfl
theorem isB_bI (b : Bool) : isB (bI b) := by cases b <;> simp [isB, bI]
