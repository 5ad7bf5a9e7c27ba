/-! the reference holds the value -/
def mB (V : vT) (c : Nat → Nat → Int32) (md : Bool) (lost fresh sh : Int32) : Prop := V 0 1 = bI md ∧ V 0 8 = lost ∧ V 0 9 = fresh ∧ V 0 12 = sh ∧ (∀ t, 60 ≤ t → t < 70 → V 2 t = 0) ∧ ∀ d, d < 6 → ∀ i, i < 170 → mc V d i = c d i
def mN (V : vT) (n : Nat) (wide : Bool) (dn : Nat) (st : Bool) (num : Nat) : Prop := V 0 3 = nI n ∧ V 0 4 = nI dn ∧ V 0 5 = nI num ∧ V 0 6 = bI wide ∧ V 0 7 = bI st
def mR (V : vT) (a : AS) : Prop := mB V a.1 a.2.1.1 a.2.2.2.1.1 a.2.2.2.1.2 a.2.2.2.2.2 ∧ V 0 2 = bI a.2.1.2 ∧ V 0 10 = bI (decide (¬ a.2.2.2.2.1 = 0)) ∧ (¬ a.2.2.2.2.1 = 0 → V 0 11 = nI a.2.2.2.2.1) ∧ (a.2.1.1 = true → a.2.1.2 = false → mN V a.2.2.1.1 a.2.2.1.2.1 a.2.2.1.2.2.1 a.2.2.1.2.2.2.1 a.2.2.1.2.2.2.2)
section MR
variable {c c' : Nat → Nat → Int32} {md fd : Bool} {n : Nat} {wide : Bool} {dn : Nat} {st : Bool} {num : Nat} {lost fresh : Int32} {fp : Nat} {sh : Int32} {V V1 : vT} {a : AS} {x : Int32}
theorem mR.pt (h : mR V (c, (md, fd), (n, wide, dn, st, num), (lost, fresh), (fp, sh))) : mB V c md lost fresh sh ∧ V 0 2 = bI fd ∧ V 0 10 = bI (decide (¬ fp = 0)) ∧ (¬ fp = 0 → V 0 11 = nI fp) := ⟨h.1, h.2.1, h.2.2.1, h.2.2.2.1⟩
theorem mR.sv (h : mR V (c, (md, fd), (n, wide, dn, st, num), (lost, fresh), (fp, sh))) (e1 : md = true) (e2 : fd = false) : mN V n wide dn st num := h.2.2.2.2 e1 e2
theorem mR.mk (h1 : mB V c md lost fresh sh) (h2 : V 0 2 = bI fd) (h3 : V 0 10 = bI (decide (¬ fp = 0))) (h4 : ¬ fp = 0 → V 0 11 = nI fp) (h5 : md = true → fd = false → mN V n wide dn st num) : mR V (c, (md, fd), (n, wide, dn, st, num), (lost, fresh), (fp, sh)) := ⟨h1, h2, h3, h4, h5⟩
theorem mc_congr (h1 : V1 1 = V 1) (h2 : V1 2 = V 2) (d i : Nat) : mc V1 d i = mc V d i := by unfold mc; rw [h1, h2]
theorem mB.frame (h : mB V c md lost fresh sh) (h1 : V1 1 = V 1) (h2 : V1 2 = V 2) (h0 : ∀ j, j = 1 ∨ j = 8 ∨ j = 9 ∨ j = 12 → V1 0 j = V 0 j) : mB V1 c md lost fresh sh := by
  refine ⟨by rw [h0 1 (by decide)]; exact h.1, by rw [h0 8 (by decide)]; exact h.2.1, by rw [h0 9 (by decide)]; exact h.2.2.1, by rw [h0 12 (by decide)]; exact h.2.2.2.1, by rw [h2]; exact h.2.2.2.2.1, fun d hd i hi => ?_⟩
  rw [mc_congr h1 h2]
  exact h.2.2.2.2.2 d hd i hi
theorem mN.frame (h : mN V n wide dn st num) (h0 : ∀ j, 3 ≤ j → j ≤ 7 → V1 0 j = V 0 j) : mN V1 n wide dn st num := ⟨by rw [h0 3 (by decide) (by decide)]; exact h.1, by rw [h0 4 (by decide) (by decide)]; exact h.2.1, by rw [h0 5 (by decide) (by decide)]; exact h.2.2.1, by rw [h0 6 (by decide) (by decide)]; exact h.2.2.2.1, by rw [h0 7 (by decide) (by decide)]; exact h.2.2.2.2⟩
theorem mR_u0 (h : mR V a) (e : V1 = u2 V 0 0 x) : mR V1 a := by
  have h0 : ∀ j, j ≠ 0 → V1 0 j = V 0 j := fun j hj => by rw [e, u2_n _ _ (Or.inr hj)]
  refine ⟨h.1.frame (by rw [e, u2_r _ _ (by decide)]) (by rw [e, u2_r _ _ (by decide)]) (fun j hj => h0 j (by omega)), by rw [h0 2 (by decide)]; exact h.2.1, by rw [h0 10 (by decide)]; exact h.2.2.1, by rw [h0 11 (by decide)]; exact h.2.2.2.1, fun e1 e2 => (h.2.2.2.2 e1 e2).frame (fun j h1 h2 => h0 j (by omega))⟩
theorem wc_M (h : mB V c md lost fresh sh) : wc c (mw V) := fun d hd j hj => by
  rw [← h.2.2.2.2.2 d hd j (by omega)]
  unfold mc
  rw [if_pos hj]
theorem wi_y {x : Int32} {L : Nat} (h1 : 1 ≤ L) (hL : L < 2 ^ 31) (h : nI 0 ≤ x ∧ x ≤ nI (L - 1)) : ¬ x < 0 ∧ x < nI L := ⟨Int32.not_lt.mpr h.1, Int32.not_le.mp ((nI_le_pred h1 hL).mp h.2)⟩
theorem wi_n {x : Int32} {L : Nat} (h1 : 1 ≤ L) (hL : L < 2 ^ 31) (h : ¬ (nI 0 ≤ x ∧ x ≤ nI (L - 1))) : x < 0 ∨ ¬ x < nI L := by
  by_cases q : x < 0
  · exact Or.inl q
  · refine Or.inr (fun z => h ⟨Int32.not_lt.mp q, (nI_le_pred h1 hL).mpr (Int32.not_le.mpr z)⟩)
end MR
/-! a row's parity, word by word -/
def rgt (w : Nat → Nat → Int32) (k row : Nat) : Nat → Bool
  | 0 => true
  | j + 1 => rgt w k row j && decide (xa (fun e => w e (row * 4 + j)) k = 0)
theorem xr_out {f : Nat → Int32} {p : Nat} : ∀ {k : Nat}, k ≤ p → xr f p k = xa f k
  | 0, _ => rfl
  | k + 1, h => by rw [xr, if_neg (by omega), xr_out (by omega), xa]
theorem xa_xr {f : Nat → Int32} {p : Nat} : ∀ {k : Nat}, p < k → xa f k = xr f p k ^^^ f p
  | k + 1, h => by
    by_cases q : k = p
    · rw [xa, xr, if_pos q, xr_out (by omega), q]
    · rw [xa, xr, if_neg q, xa_xr (p := p) (by omega), Int32.xor_assoc, Int32.xor_assoc, Int32.xor_comm (f p)]
theorem xor_0 {x y : Int32} : x ^^^ y = 0 ↔ y = x := by
  constructor
  · intro h
    have e : x ^^^ y ^^^ y = x := by rw [Int32.xor_assoc, Int32.xor_self, Int32.xor_zero]
    rw [h, Int32.zero_xor] at e
    exact e
  · intro h
    rw [h, Int32.xor_self]
theorem rgt_iff {w : Nat → Nat → Int32} {k row : Nat} (hk : 0 < k) : ∀ {j : Nat}, rgt w k row j = true ↔ ∀ i, i < j → w (pd k row) (row * 4 + i) = xr (fun e => w e (row * 4 + i)) (pd k row) k
  | 0 => ⟨fun _ i hi => absurd hi (by omega), fun _ => rfl⟩
  | j + 1 => by
    rw [rgt, Bool.and_eq_true, rgt_iff hk, decide_eq_true_iff, xa_xr (pd_lt hk), xor_0]
    constructor
    · intro h i hi
      by_cases q : i = j
      · rw [q]; exact h.2
      · exact h.1 i (by omega)
    · intro h
      exact ⟨fun i hi => h i (by omega), h j (by omega)⟩
theorem rgt_prt {w : Nat → Nat → Int32} {k row : Nat} (hk : 0 < k) : rgt w k row 4 = prt w k row := by
  by_cases q : ∀ i, i < 4 → w (pd k row) (row * 4 + i) = xr (fun e => w e (row * 4 + i)) (pd k row) k
  · rw [prt_t q]; exact (rgt_iff hk).mpr q
  · rw [prt_f q]
    cases h : rgt w k row 4
    · rfl
    · exact absurd ((rgt_iff hk).mp h) q
