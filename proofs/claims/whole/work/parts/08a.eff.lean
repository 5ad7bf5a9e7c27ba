/-! what writes do to contents; the calls that write, as functions of the value -/
def eff (out : Int32) (fl : Bool) (sh : Int32) (Qf : Nat → List Wr) (c : Nat → Nat → Int32) : Nat → Nat → Int32 := fun d => apL ((Qf d).take (wdn out fl sh d (Qf d).length)) (c d)
/-- the same, by a second name (where a first one is hidden) -/
abbrev effc := @eff
/-- two writes that do the same -/
def wEq (x y : Wr) : Prop := x.1 = y.1 ∧ ∀ i, i < 5 → (x.1 = none ∨ i < 4) → x.2 i = y.2 i
def QEq : List Wr → List Wr → Prop
  | [], [] => True
  | x :: L, y :: L' => wEq x y ∧ QEq L L'
  | _, _ => False
theorem wEq.rf (x : Wr) : wEq x x := ⟨rfl, fun _ _ _ => rfl⟩
theorem QEq.rf : ∀ (L : List Wr), QEq L L
  | [] => trivial
  | x :: L => ⟨wEq.rf x, QEq.rf L⟩
theorem QEq.len : ∀ {L L' : List Wr}, QEq L L' → L.length = L'.length
  | [], [], _ => rfl
  | _ :: L, _ :: L', h => by rw [List.length_cons, List.length_cons, QEq.len h.2]
  | [], _ :: _, h => h.elim
  | _ :: _, [], h => h.elim
theorem QEq.app : ∀ {L L' : List Wr} {x y : Wr}, QEq L L' → wEq x y → QEq (L ++ [x]) (L' ++ [y])
  | [], [], _, _, _, h => ⟨h, trivial⟩
  | _ :: L, _ :: L', _, _, h, h2 => ⟨h.1, QEq.app h.2 h2⟩
  | [], _ :: _, _, _, h, _ => h.elim
  | _ :: _, [], _, _, h, _ => h.elim
theorem QEq.at : ∀ {L L' : List Wr}, QEq L L' → ∀ {j : Nat} {y : Wr}, L'[j]? = some y → ∃ x, L[j]? = some x ∧ wEq x y
  | [], [], _, _, _, h => by simp at h
  | x :: L, y' :: L', h, 0, y, hj => ⟨x, rfl, by
    have e : y' = y := by simpa using hj
    rw [← e]; exact h.1⟩
  | _ :: L, _ :: L', h, j + 1, y, hj => by
    simp at hj
    obtain ⟨x, h1, h2⟩ := QEq.at h.2 hj
    exact ⟨x, by simpa using h1, h2⟩
  | [], _ :: _, h, _, _, _ => h.elim
  | _ :: _, [], h, _, _, _ => h.elim
theorem mp_or (x : Int32) : mp x = 165 ∨ mp x = 160 := by unfold mp; split <;> simp
theorem apW_wEq {x y : Wr} (h : wEq x y) (c : Nat → Int32) (j : Nat) : apW x c j = apW y c j := by
  obtain ⟨_ | r, b⟩ := x
  · obtain ⟨_ | r', b'⟩ := y
    · have e : ∀ i, i < 5 → b i = b' i := fun i hi => h.2 i hi (Or.inl rfl)
      simp only [apW]
      rw [e 0 (by decide)]
      by_cases q : mp (b' 0) ≤ j ∧ j < mp (b' 0) + 5
      · rw [if_pos q, if_pos q, e _ (by omega)]
      · rw [if_neg q, if_neg q]
    · exact absurd h.1 (by simp)
  · obtain ⟨_ | r', b'⟩ := y
    · exact absurd h.1 (by simp)
    · have e0 : r = r' := Option.some.inj h.1
      subst e0
      have e : ∀ i, i < 4 → b i = b' i := fun i hi => h.2 i (by omega) (Or.inr hi)
      simp only [apW]
      by_cases q : r * 4 ≤ j ∧ j < r * 4 + 4
      · rw [if_pos q, if_pos q, e _ (by omega)]
      · rw [if_neg q, if_neg q]
theorem apL_QEq : ∀ {L L' : List Wr}, QEq L L' → ∀ (k : Nat) (c : Nat → Int32) (j : Nat), apL (L.take k) c j = apL (L'.take k) c j
  | [], [], _, _, _, _ => by simp
  | x :: L, y :: L', h, 0, c, j => by simp
  | x :: L, y :: L', h, k + 1, c, j => by
    show apL (L.take k) (apW x c) j = apL (L'.take k) (apW y c) j
    rw [apL_QEq h.2 k]
    exact apL_pt _ (apW_wEq h.1 c j)
  | [], _ :: _, h, _, _, _ => h.elim
  | _ :: _, [], h, _, _, _ => h.elim
theorem eff_QEq {out : Int32} {fl : Bool} {sh : Int32} {Q Q' : Nat → List Wr} {c c' : Nat → Nat → Int32} {d j : Nat} (h : QEq (Q d) (Q' d)) (hc : c d j = c' d j) : eff out fl sh Q c d j = eff out fl sh Q' c' d j := by
  unfold eff
  rw [h.len, apL_QEq h]
  exact apL_pt _ hc
theorem qAdd_QEq {Q Q' : Nat → List Wr} {d e : Nat} {x y : Wr} (h : QEq (Q e) (Q' e)) (hx : wEq x y) : QEq (qAdd Q d x e) (qAdd Q' d y e) := by
  unfold qAdd
  by_cases q : e = d
  · rw [if_pos q, if_pos q]; exact h.app hx
  · rw [if_neg q, if_neg q]; exact h
/-- the five marks -/
def mkb (num n : Nat) (wide : Bool) (dn : Nat) (st : Bool) : Nat → Int32 := fun j => if j = 0 then nI num else if j = 1 then nI n else if j = 2 then bI wide else if j = 3 then nI dn else bI st
theorem mkb_eq {f : Nat → Int32} {num n : Nat} {wide : Bool} {dn : Nat} {st : Bool} (h0 : f 0 = nI num) (h1 : f 1 = nI n) (h2 : f 2 = bI wide) (h3 : f 3 = nI dn) (h4 : f 4 = bI st) : ∀ i, i < 5 → f i = mkb num n wide dn st i := by
  intro i hi
  rcases (show i = 0 ∨ i = 1 ∨ i = 2 ∨ i = 3 ∨ i = 4 by omega) with rfl | rfl | rfl | rfl | rfl
  · exact h0
  · exact h1
  · exact h2
  · exact h3
  · exact h4
theorem mkQ_QEq {b b' : Nat → Int32} (h : ∀ i, i < 5 → b i = b' i) {k k' : Nat} (hk : k = k') (d : Nat) : QEq (mkQ b k d) (mkQ b' k' d) := by
  subst hk
  unfold mkQ
  split
  · exact ⟨⟨rfl, fun i hi _ => h i hi⟩, trivial⟩
  · trivial
theorem AW.eff {V V1 : vT} {Qf : Nat → List Wr} {fp : Nat} {fd : Bool} {r : Int32} (h : AW V Qf fp fd r V1) {lost fresh sh : Int32} (h6 : V 0 6 = lost) (h7 : V 0 7 = fresh) (h9 : V 0 9 = sh) {c : Nat → Nat → Int32} (hc : ∀ d, d < 6 → ∀ i, i < 170 → dc V d i = c d i) {Q' : Nat → List Wr} (hQ : ∀ d, QEq (Qf d) (Q' d)) :
    (∀ d, d < 6 → ∀ i, i < 170 → dc V1 d i = effc (ab lost fresh) (decide (fp = 1)) sh Q' c d i) ∧ V1 0 4 = V 0 4 ∧ V1 0 5 = bI (fd || decide (fp = 1)) ∧ V1 0 6 = lost ∧ V1 0 7 = fresh ∧ V1 0 8 = nI (fp - 1) ∧ V1 0 9 = sh ∧ (∀ a, 1 ≤ a → a < 5 → V1 a = V a) ∧ cQ V1 (fun _ => []) := by
  obtain ⟨-, h8, h5, hj, ha, hd⟩ := id h
  refine ⟨fun d hd6 i hi => ?_, hj 4 (by decide) (by decide), h5, (hj 6 (by decide) (by decide)).trans h6, (hj 7 (by decide) (by decide)).trans h7, h8, (hj 9 (by decide) (by decide)).trans h9, ha, h.nil⟩
  rw [(hd d hd6).2 i hi, h6, h7, h9, (hQ d).len, apL_QEq (hQ d)]
  exact apL_pt _ (hc d hd6 i hi)
/-- the queue of a write of a word -/
def wrQ (c : Nat → Nat → Int32) (out : Int32) (k row own i : Nat) (v : Int32) : Nat → List Wr := qAdd (qAdd (fun _ => []) (dd k row own) (some row, fun i1 => chg (fun j i => told c out k row (dd k row j) i) own i v own i1)) (pd k row) (some row, fun i1 => xa (fun e => chg (fun j i => told c out k row (dd k row j) i) own i v e i1) (k - 1))
def kOf (n : Nat) (wide : Bool) (dn : Nat) (st : Bool) (b : Nat) : Nat := if plc n wide dn st b = 1 then n + 1 else n
def oWrite (a : AS) (b i v : Int32) : RS := match a with
  | (c, (md, fd), (n, wide, dn, st, num), (lost, fresh), (fp, sh)) => ifS a (if b < 0 ∨ nI (32 * (n - 1)) ≤ b ∨ i < 0 ∨ ¬ i < nI 4 then (2, 0, a) else if plc n wide dn st b.toNatClampNeg = 2 then (0, 0, a) else
    (if fp = 0 then 0 else 3, if fp = 0 then 1 else 0, (eff (ab lost fresh) (decide (¬ fp = 0)) sh (wrQ c (ab lost fresh) (kOf n wide dn st b.toNatClampNeg) (b.toNatClampNeg / (kOf n wide dn st b.toNatClampNeg - 1)) (b.toNatClampNeg % (kOf n wide dn st b.toNatClampNeg - 1)) i.toNatClampNeg v) c, (md, decide (¬ fp = 0)), (n, wide, dn, st, num), (lost, fresh), (0, sh))))
def oWiden (a : AS) : RS := match a with
  | (c, (md, fd), (n, wide, dn, st, num), (lost, fresh), (fp, sh)) => ifS a (if wide = true ∨ n = 6 ∨ ¬ ab lost fresh = -1 then (2, 0, a) else
    (if fp = 0 then 0 else 3, nI (n + 1), (eff (ab lost fresh) (decide (¬ fp = 0)) sh (mkQ (mkb (num + 1) n true 0 false) (n + 1)) (emp c n), (md, decide (¬ fp = 0)), (n, true, 0, false, num + 1), (lost, fresh), (0, sh))))
def oFormat (a : AS) (x : Int32) : RS := if x < nI 3 ∨ ¬ x ≤ nI 6 then (1, 0, a) else (0, nI (32 * (x.toNatClampNeg - 1)), (eff (ab (-1) (-1)) false a.2.2.2.2.2 (mkQ (mkb 1 x.toNatClampNeg false 0 false) x.toNatClampNeg) (fun _ _ => 0), (true, false), (x.toNatClampNeg, false, 0, false, 1), (-1, -1), (0, a.2.2.2.2.2)))
