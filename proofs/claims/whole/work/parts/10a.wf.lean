/-! every call leads from a value that may be to a value that may be -/
def MK (B : Nat) (c : Nat → Nat → Int32) : Prop := ∀ q, q < 12 → mOK B (q / 2) (mkA c q)
def EX (B K : Nat) (c : Nat → Nat → Int32) : Prop := ∃ q, q < 12 ∧ q / 2 < K ∧ ∃ x, x ≠ 0 ∧ x ≤ B ∧ mkA c q 0 = nI x
section WFs
variable {B B' K : Nat} {c c' : Nat → Nat → Int32} {md fd : Bool} {n : Nat} {wide : Bool} {dn : Nat} {st : Bool} {num : Nat} {lost fresh : Int32} {fp : Nat} {sh out : Int32} {fl : Bool} {a : AS}
theorem mOK_congr {d : Nat} {f g : Nat → Int32} (h : ∀ j, j < 5 → g j = f j) (hm : mOK B d f) : mOK B d g := by
  obtain ⟨x, n', w', dn', st', h0, h1, h2, h3, h4, h5, h6⟩ := hm
  exact ⟨x, n', w', dn', st', by rw [h 0 (by decide)]; exact h0, h1, by rw [h 1 (by decide)]; exact h2, by rw [h 2 (by decide)]; exact h3, by rw [h 3 (by decide)]; exact h4, by rw [h 4 (by decide)]; exact h5, h6⟩
theorem mOK_le (hB : B ≤ B') {d : Nat} {f : Nat → Int32} (hm : mOK B d f) : mOK B' d f := by
  obtain ⟨x, n', w', dn', st', h0, h1, h2⟩ := hm
  exact ⟨x, n', w', dn', st', h0, by omega, h2⟩
theorem mOK_0 {d : Nat} {f : Nat → Int32} (h : ∀ j, j < 5 → f j = 0) : mOK B d f := ⟨0, 0, false, 0, false, h 0 (by decide), by omega, h 1 (by decide), h 2 (by decide), h 3 (by decide), h 4 (by decide), fun z => absurd rfl z⟩
theorem mOK_b {d x : Nat} (hx : x ≤ B) (h : 3 ≤ n ∧ n ≤ 6 ∧ dn < 32 ∧ (wide = true → n < 6) ∧ (st = true → wide = true) ∧ d < kw n wide) : mOK B d (mkb x n wide dn st) := ⟨x, n, wide, dn, st, rfl, hx, rfl, rfl, rfl, rfl, fun _ => h⟩
theorem MK.le (hB : B ≤ B') (h : MK B c) : MK B' c := fun q hq => mOK_le hB (h q hq)
theorem EX.le (hB : B ≤ B') (h : EX B K c) : EX B' K c := by
  obtain ⟨q, h1, h2, x, h3, h4, h5⟩ := h
  exact ⟨q, h1, h2, x, h3, by omega, h5⟩
theorem mkA_w (h : ∀ d, d < 6 → ∀ j, 160 ≤ j → j < 170 → c' d j = c d j) {q j : Nat} (hq : q < 12) (hj : j < 5) : mkA c' q j = mkA c q j := h _ (by omega) _ (by omega) (by omega)
theorem MK.words (h : ∀ d, d < 6 → ∀ j, 160 ≤ j → j < 170 → c' d j = c d j) (hm : MK B c) : MK B c' := fun q hq => mOK_congr (fun j hj => mkA_w h hq hj) (hm q hq)
theorem EX.words (h : ∀ d, d < 6 → ∀ j, 160 ≤ j → j < 170 → c' d j = c d j) (hm : EX B K c) : EX B K c' := by
  obtain ⟨q, h1, h2, x, h3, h4, h5⟩ := hm
  exact ⟨q, h1, h2, x, h3, h4, by rw [mkA_w h h1 (by decide)]; exact h5⟩
theorem MK_emp {d : Nat} (hm : MK B c) : MK B (emp c d) := fun q hq => by
  by_cases e : q / 2 = d
  · exact mOK_0 (fun j hj => by show emp c d (q / 2) _ = 0; unfold emp; rw [if_pos e])
  · exact mOK_congr (fun j hj => by show emp c d (q / 2) _ = c (q / 2) _; unfold emp; rw [if_neg e]) (hm q hq)
theorem EX_emp {d : Nat} (hd : K ≤ d) (hm : EX B K c) : EX B K (emp c d) := by
  obtain ⟨q, h1, h2, x, h3, h4, h5⟩ := hm
  exact ⟨q, h1, h2, x, h3, h4, by rw [← h5]; show emp c d (q / 2) _ = c (q / 2) _; unfold emp; rw [if_neg (by omega)]⟩
/-- blocks leave the marks -/
def blk (Q : Nat → List Wr) : Prop := ∀ d x, x ∈ Q d → ∃ r, x.1 = some r ∧ r < 40
theorem apL_blk {L : List Wr} (h : ∀ x, x ∈ L → ∃ r, x.1 = some r ∧ r < 40) {cc : Nat → Int32} {j : Nat} (hj : 160 ≤ j) : apL L cc j = cc j := by
  induction L generalizing cc with
  | nil => rfl
  | cons x L ih =>
    show apL L (apW x cc) j = cc j
    rw [ih (fun y hy => h y (List.mem_cons_of_mem _ hy))]
    obtain ⟨r, h1, h2⟩ := h x List.mem_cons_self
    obtain ⟨_ | r', b⟩ := x
    · exact absurd h1 (by simp)
    · have e : r' = r := Option.some.inj h1
      simp only [apW]
      rw [if_neg (by omega)]
theorem eff_blk {Q : Nat → List Wr} (h : blk Q) {d j : Nat} (hj : 160 ≤ j) : eff out fl sh Q c d j = c d j := apL_blk (fun x hx => h d x (List.mem_of_mem_take hx)) hj
theorem blk_add {Q : Nat → List Wr} (h : blk Q) {e r : Nat} {b : Nat → Int32} (hr : r < 40) : blk (qAdd Q e (some r, b)) := fun d x hx => by
  unfold qAdd at hx
  split at hx
  · rcases List.mem_append.mp hx with z | z
    · exact h d x z
    · rw [List.mem_singleton] at z
      exact ⟨r, by rw [z], hr⟩
  · exact h d x hx
theorem blk_nil : blk (fun _ => []) := fun _ _ h => absurd h (by simp)
theorem blk_stQ {D : Nat → Int32} : ∀ {m : Nat}, m ≤ 8 → blk (stQ D n m)
  | 0, _ => blk_nil
  | m + 1, h => blk_add (blk_add (blk_stQ (by omega)) (by omega)) (by omega)
theorem blk_lyQ {D : Nat → Int32} {k : Nat} (hd : dn < 40) : ∀ {m : Nat}, blk (lyQ D k dn m)
  | 0 => blk_nil
  | m + 1 => blk_add (blk_lyQ hd) hd
theorem blk_lyQQ {D : Nat → Int32} (hd : dn < 40) : blk (lyQQ D n dn) := blk_add (blk_lyQ hd) hd
theorem blk_wrQ {k row own i : Nat} {v : Int32} (hr : row < 40) : blk (wrQ c out k row own i v) := blk_add (blk_add blk_nil hr) hr
theorem MK_blk {Q : Nat → List Wr} (h : blk Q) (hm : MK B c) : MK B (eff out fl sh Q c) := hm.words (fun d _ j hj _ => eff_blk h hj)
theorem EX_blk {Q : Nat → List Wr} (h : blk Q) (hm : EX B K c) : EX B K (eff out fl sh Q c) := hm.words (fun d _ j hj _ => eff_blk h hj)
/-- marks come to some disks -/
theorem eff_mkQ {b : Nat → Int32} {k : Nat} (d : Nat) : (∀ j, eff out fl sh (mkQ b k) c d j = c d j) ∨ (d < k ∧ ∀ j, eff out fl sh (mkQ b k) c d j = apW (none, b) (c d) j) := by
  unfold eff mkQ
  by_cases q : d < k
  · rw [if_pos q]
    have h1 : wdn out fl sh d [((none, b) : Wr)].length ≤ 1 := wdn_le
    rcases (show wdn out fl sh d [((none, b) : Wr)].length = 0 ∨ wdn out fl sh d [((none, b) : Wr)].length = 1 by omega) with z | z
    · rw [z]; exact Or.inl (fun j => rfl)
    · rw [z]; exact Or.inr ⟨q, fun j => rfl⟩
  · rw [if_neg q]; exact Or.inl (fun j => by rw [List.take_nil]; rfl)
theorem mkA_new {x q j : Nat} {b : Nat → Int32} (hx : x < 2 ^ 31) (hb : b 0 = nI x) (hj : j < 5) (h : ∀ j, c' (q / 2) j = apW (none, b) (c (q / 2)) j) : mkA c' q j = if q % 2 = x % 2 then b j else mkA c q j := by
  unfold mkA
  rw [h]
  simp only [apW, hb, mp_nI hx]
  by_cases z : q % 2 = x % 2
  · rw [if_pos z, if_pos (by omega)]
    exact congrArg b (by omega)
  · rw [if_neg z, if_neg (by omega)]
theorem MK_mk {x : Nat} (hx : x ≤ B) (hB : B < 2 ^ 31) (h : 3 ≤ n ∧ n ≤ 6 ∧ dn < 32 ∧ (wide = true → n < 6) ∧ (st = true → wide = true)) (hK : K ≤ kw n wide) (hm : MK B c) : MK B (eff out fl sh (mkQ (mkb x n wide dn st) K) c) := fun q hq => by
  rcases eff_mkQ (out := out) (fl := fl) (sh := sh) (c := c) (b := mkb x n wide dn st) (k := K) (q / 2) with e | ⟨hd, e⟩
  · exact mOK_congr (fun j _ => e _) (hm q hq)
  · have e2 := fun j (hj : j < 5) => mkA_new (c := c) (c' := eff out fl sh (mkQ (mkb x n wide dn st) K) c) (q := q) (x := x) (b := mkb x n wide dn st) (by omega) rfl hj e
    by_cases z : q % 2 = x % 2
    · exact mOK_congr (fun j hj => by rw [e2 j hj, if_pos z]) (mOK_b (d := q / 2) hx ⟨h.1, h.2.1, h.2.2.1, h.2.2.2.1, h.2.2.2.2, by omega⟩)
    · exact mOK_congr (fun j hj => by rw [e2 j hj, if_neg z]) (hm q hq)
theorem EX_mk {x : Nat} (hx : x ≤ B) (hx1 : 1 ≤ x) (hB : B < 2 ^ 31) {k : Nat} (hm : EX B K c) : EX B K (eff out fl sh (mkQ (mkb x n wide dn st) k) c) := by
  obtain ⟨q, h1, h2, y, h3, h4, h5⟩ := hm
  rcases eff_mkQ (out := out) (fl := fl) (sh := sh) (c := c) (b := mkb x n wide dn st) (k := k) (q / 2) with e | ⟨hd, e⟩
  · exact ⟨q, h1, h2, y, h3, h4, by rw [← h5]; exact e _⟩
  · have e2 := mkA_new (c := c) (c' := eff out fl sh (mkQ (mkb x n wide dn st) k) c) (q := q) (x := x) (b := mkb x n wide dn st) (j := 0) (by omega) rfl (by decide) e
    by_cases z : q % 2 = x % 2
    · exact ⟨q, h1, h2, x, by omega, hx, by rw [e2, if_pos z]; rfl⟩
    · exact ⟨q, h1, h2, y, h3, h4, by rw [e2, if_neg z]; exact h5⟩
/-- the value's parts, put together -/
theorem WF.mk (h1 : MK B c) (h2 : fp < 2 ^ 31) (h3 : md = false → fd = false ∧ fp = 0) (h4 : fd = true → EX B 6 c ∧ lost = -1 ∧ fresh = -1 ∧ fp = 0)
    (h5 : md = true → fd = false → 3 ≤ n ∧ n ≤ 6 ∧ (wide = true → n < 6) ∧ dn < 32 ∧ (st = true → wide = true) ∧ 1 ≤ num ∧ num ≤ B ∧ (lost = -1 ∨ ∃ d, d < kw n wide ∧ lost = nI d) ∧ (fresh = -1 ∨ ∃ d, d < kw n wide ∧ fresh = nI d) ∧ (lost = -1 ∨ fresh = -1) ∧ (fp ≠ 0 → lost = -1 ∧ fresh = -1) ∧ (lost = -1 → fresh = -1 → EX B (kw n wide) c)) :
    WF B (c, (md, fd), (n, wide, dn, st, num), (lost, fresh), (fp, sh)) :=
  ⟨h1, h2, h3, fun e => ⟨by obtain ⟨q, z1, z2, z3⟩ := (h4 e).1; exact ⟨q, z1, z3⟩, (h4 e).2⟩, fun e1 e2 => h5 e1 e2⟩
theorem WF.MK (h : WF B (c, (md, fd), (n, wide, dn, st, num), (lost, fresh), (fp, sh))) : MK B c := h.1
theorem WF.EX (h : WF B (c, (md, fd), (n, wide, dn, st, num), (lost, fresh), (fp, sh))) (e : fd = true) : EX B 6 c ∧ lost = -1 ∧ fresh = -1 ∧ fp = 0 := by
  obtain ⟨⟨q, z1, z3⟩, z4⟩ := h.2.2.2.1 e
  exact ⟨⟨q, z1, by omega, z3⟩, z4⟩
theorem EX.up {K' : Nat} (hK : K ≤ K') (h : EX B K c) : EX B K' c := by
  obtain ⟨q, h1, h2, h3⟩ := h
  exact ⟨q, h1, by omega, h3⟩
theorem WF.le (hB : B ≤ B') (h : WF B a) : WF B' a := by
  obtain ⟨c, ⟨md, fd⟩, ⟨n, wide, dn, st, num⟩, ⟨lost, fresh⟩, ⟨fp, sh⟩⟩ := a
  refine WF.mk (h.MK.le hB) h.2.1 h.2.2.1 (fun e => ⟨(h.EX e).1.le hB, (h.EX e).2⟩) (fun e1 e2 => ?_)
  obtain ⟨g1, g2, g3, g4, g5, g6, g7, g8, g9, g10, g11, g12⟩ := h.sv e1 e2
  exact ⟨g1, g2, g3, g4, g5, g6, by omega, g8, g9, g10, g11, fun z1 z2 => EX.le (B := B) hB (g12 z1 z2)⟩
end WFs
