/-! a step, as a function of the value -/
def d3 (c : Nat → Nat → Int32) (out : Int32) (n : Nat) (wide : Bool) (dn : Nat) (st : Bool) : Nat → Int32 := fun x => winw c out n wide dn st (x / 4) (x % 4)
theorem d3_at {c : Nat → Nat → Int32} {out : Int32} {n : Nat} {wide : Bool} {dn : Nat} {st : Bool} {j i : Nat} (hi : i < 4) : d3 c out n wide dn st (j * 4 + i) = winw c out n wide dn st j i := by
  unfold d3
  rw [show (j * 4 + i) / 4 = j by omega, show (j * 4 + i) % 4 = i by omega]
def lyQQ (D : Nat → Int32) (n dn : Nat) : Nat → List Wr := qAdd (lyQ D (n + 1) dn n) (pd (n + 1) dn) (some dn, fun i => xa (fun e => D (e * 4 + i)) (n + 1 - 1))
theorem stQ_QEq {D D' : Nat → Int32} {n : Nat} : ∀ (m : Nat), (∀ j i, j < m → i < 4 → D (j * 4 + i) = D' (j * 4 + i)) → ∀ d, QEq (stQ D n m d) (stQ D' n m d)
  | 0, _, _ => trivial
  | m + 1, h, d => by
    have hx : wEq (some (32 + m), fun i => D (m * 4 + i)) (some (32 + m), fun i => D' (m * 4 + i)) := ⟨rfl, fun i _ h2 => h2.elim (fun q => absurd q (by simp)) (fun q => h m i (by omega) q)⟩
    exact qAdd_QEq (qAdd_QEq (stQ_QEq m (fun j i hj hi => h j i (by omega) hi) d) hx) hx
theorem lyQ_QEq {D D' : Nat → Int32} {k dn : Nat} : ∀ (m : Nat), (∀ j i, j < m → i < 4 → D (j * 4 + i) = D' (j * 4 + i)) → ∀ d, QEq (lyQ D k dn m d) (lyQ D' k dn m d)
  | 0, _, _ => trivial
  | m + 1, h, d => qAdd_QEq (lyQ_QEq m (fun j i hj hi => h j i (by omega) hi) d) ⟨rfl, fun i _ h2 => h2.elim (fun q => absurd q (by simp)) (fun q => h m i (by omega) q)⟩
theorem lyQQ_QEq {D D' : Nat → Int32} {n dn : Nat} (h : ∀ j i, j < n → i < 4 → D (j * 4 + i) = D' (j * 4 + i)) (d : Nat) : QEq (lyQQ D n dn d) (lyQQ D' n dn d) :=
  qAdd_QEq (lyQ_QEq n h d) ⟨rfl, fun i _ h2 => h2.elim (fun q => absurd q (by simp)) (fun q => xa_congr (fun e he => h e i (by omega) q))⟩
def nx1 (n dn : Nat) : Nat := if dn + 1 = 32 then n + 1 else n
def nxw (wide : Bool) (dn : Nat) : Bool := if dn + 1 = 32 then false else wide
def nxd (dn : Nat) : Nat := if dn + 1 = 32 then 0 else dn + 1
/-- power has failed with contents c -/
def flA (a : AS) (c : Nat → Nat → Int32) : RS := (3, 0, (c, (a.2.1.1, true), a.2.2.1, a.2.2.2.1, (0, a.2.2.2.2.2)))
/-- the second half of a step: contents c, data D, f the failing point, marks numbered num -/
def layR (a : AS) (c : Nat → Nat → Int32) (D : Nat → Int32) (f num : Nat) : RS :=
  if f = 1 then flA a (eff (ab a.2.2.2.1.1 a.2.2.2.1.2) (decide (f = 1)) a.2.2.2.2.2 (lyQQ D a.2.2.1.1 a.2.2.1.2.2.1) c)
  else if f - 1 = 1 then flA a (eff (ab a.2.2.2.1.1 a.2.2.2.1.2) (decide (f - 1 = 1)) a.2.2.2.2.2 (mkQ (mkb (num + 1) (nx1 a.2.2.1.1 a.2.2.1.2.2.1) (nxw a.2.2.1.2.1 a.2.2.1.2.2.1) (nxd a.2.2.1.2.2.1) false) (kw (nx1 a.2.2.1.1 a.2.2.1.2.2.1) (nxw a.2.2.1.2.1 a.2.2.1.2.2.1))) (eff (ab a.2.2.2.1.1 a.2.2.2.1.2) (decide (f = 1)) a.2.2.2.2.2 (lyQQ D a.2.2.1.1 a.2.2.1.2.2.1) c))
  else (0, nI (nxd a.2.2.1.2.2.1), (eff (ab a.2.2.2.1.1 a.2.2.2.1.2) (decide (f - 1 = 1)) a.2.2.2.2.2 (mkQ (mkb (num + 1) (nx1 a.2.2.1.1 a.2.2.1.2.2.1) (nxw a.2.2.1.2.1 a.2.2.1.2.2.1) (nxd a.2.2.1.2.2.1) false) (kw (nx1 a.2.2.1.1 a.2.2.1.2.2.1) (nxw a.2.2.1.2.1 a.2.2.1.2.2.1))) (eff (ab a.2.2.2.1.1 a.2.2.2.1.2) (decide (f = 1)) a.2.2.2.2.2 (lyQQ D a.2.2.1.1 a.2.2.1.2.2.1) c), (a.2.1.1, false), (nx1 a.2.2.1.1 a.2.2.1.2.2.1, nxw a.2.2.1.2.1 a.2.2.1.2.2.1, nxd a.2.2.1.2.2.1, false, num + 1), a.2.2.2.1, (0, a.2.2.2.2.2)))
def stC1 (a : AS) (D : Nat → Int32) : Nat → Nat → Int32 := eff (ab a.2.2.2.1.1 a.2.2.2.1.2) (decide (min a.2.2.2.2.1 4 = 1)) a.2.2.2.2.2 (stQ D a.2.2.1.1 a.2.2.1.1) a.1
def stC2 (a : AS) (D : Nat → Int32) : Nat → Nat → Int32 := eff (ab a.2.2.2.1.1 a.2.2.2.1.2) (decide (min a.2.2.2.2.1 4 - 1 = 1)) a.2.2.2.2.2 (mkQ (mkb (a.2.2.1.2.2.2.2 + 1) a.2.2.1.1 a.2.2.1.2.1 a.2.2.1.2.2.1 true) (kw a.2.2.1.1 a.2.2.1.2.1)) (stC1 a D)
def stD (a : AS) : Nat → Int32 := d3 a.1 (ab a.2.2.2.1.1 a.2.2.2.1.2) a.2.2.1.1 a.2.2.1.2.1 a.2.2.1.2.2.1 a.2.2.1.2.2.2.1
def oStep (a : AS) : RS := ifS a (if a.2.2.1.2.1 = false then (2, 0, a) else if a.2.2.1.2.2.2.1 = true then layR a a.1 (stD a) (min a.2.2.2.2.1 2) a.2.2.1.2.2.2.2
  else if min a.2.2.2.2.1 4 = 1 then flA a (stC1 a (stD a)) else if min a.2.2.2.2.1 4 - 1 = 1 then flA a (stC2 a (stD a)) else layR a (stC2 a (stD a)) (stD a) (min a.2.2.2.2.1 4 - 2) (a.2.2.1.2.2.2.2 + 1))
/-- between the parts of a step: contents c, now's five, the failing point f, data D -/
def cMid (V : vT) (c : Nat → Nat → Int32) (md : Bool) (lost fresh sh : Int32) (f : Nat) (n : Nat) (wide : Bool) (dn : Nat) (st : Bool) (num : Nat) (D : Nat → Int32) : Prop :=
  (∀ d, d < 6 → ∀ i, i < 170 → dc V d i = c d i) ∧ V 0 4 = bI md ∧ V 0 5 = bI false ∧ V 0 6 = lost ∧ V 0 7 = fresh ∧ V 0 8 = nI f ∧ V 0 9 = sh ∧ V 2 0 = nI num ∧ V 2 1 = nI n ∧ V 2 2 = bI wide ∧ V 2 3 = nI dn ∧ V 2 4 = bI st ∧ cQ V (fun _ => []) ∧ ∀ j i, j < n → i < 4 → V 3 (j * 4 + i) = D (j * 4 + i)
section Mid
variable {c : Nat → Nat → Int32} {md : Bool} {n : Nat} {wide : Bool} {dn : Nat} {st : Bool} {num : Nat} {lost fresh : Int32} {fp f : Nat} {sh : Int32} {D : Nat → Int32} {V V1 : vT}
/-- power has failed: what is left -/
theorem cR_fail {Qf : Nat → List Wr} {r : Int32} {Va : vT} (h4 : Va 0 4 = bI md) (hA : AW Va Qf f false r V1) (hf : f = 1) (h6 : Va 0 6 = lost) (h7 : Va 0 7 = fresh) (h9 : Va 0 9 = sh) (hc : ∀ d, d < 6 → ∀ i, i < 170 → dc Va d i = c d i) {Q' : Nat → List Wr} (hQ : ∀ d, QEq (Qf d) (Q' d)) :
    cR V1 (eff (ab lost fresh) (decide (f = 1)) sh Q' c, (md, true), (n, wide, dn, st, num), (lost, fresh), (0, sh)) := by
  obtain ⟨g1, g4, g5, g6, g7, g8, g9, ga, gQ⟩ := hA.eff h6 h7 h9 hc hQ
  refine cR.mk ⟨by rw [g4]; exact h4, by rw [g5, decide_eq_true hf]; rfl, g6, g7, by rw [g8, hf], g9⟩ gQ g1 (fun _ h2 => absurd h2 (by decide))
/-- the window laid, power held -/
theorem cMid_lay {r : Int32} {Va : vT} (hM : cMid V c md lost fresh sh f n wide dn st num D) (h1 : ∀ a, a < 4 → Va a = V a) (h2 : sameD V Va) (hA : AW Va (lyQQ (V 3) n dn) f false r V1) (hf : f ≠ 1) :
    cMid V1 (eff (ab lost fresh) (decide (f = 1)) sh (lyQQ D n dn) c) md lost fresh sh (f - 1) n wide dn st num D := by
  obtain ⟨hc, k4, k5, k6, k7, k8, k9, m0, m1, m2, m3, m4, hQ, hD⟩ := hM
  have h0 := h1 0 (by decide)
  obtain ⟨g1, g4, g5, g6, g7, g8, g9, ga, gQ⟩ := hA.eff (lost := lost) (fresh := fresh) (sh := sh) (by rw [h0]; exact k6) (by rw [h0]; exact k7) (by rw [h0]; exact k9) (c := c) (fun d hd i hi => by rw [h2.dc hd]; exact hc d hd i hi) (Q' := lyQQ D n dn) (fun d => lyQQ_QEq hD d)
  have e2 : V1 2 = V 2 := by rw [ga 2 (by decide) (by decide), h1 2 (by decide)]
  have e3 : V1 3 = V 3 := by rw [ga 3 (by decide) (by decide), h1 3 (by decide)]
  exact ⟨g1, by rw [g4, h0]; exact k4, by rw [g5, decide_eq_false hf]; rfl, g6, g7, g8, g9, by rw [e2]; exact m0, by rw [e2]; exact m1, by rw [e2]; exact m2, by rw [e2]; exact m3, by rw [e2]; exact m4, gQ, by rw [e3]; exact hD⟩
theorem cR_layF {r : Int32} {Va : vT} {n' : Nat} {w' : Bool} {d' : Nat} {s' : Bool} {num' : Nat} (hM : cMid V c md lost fresh sh f n wide dn st num D) (h1 : ∀ a, a < 4 → Va a = V a) (h2 : sameD V Va) (hA : AW Va (lyQQ (V 3) n dn) f false r V1) (hf : f = 1) :
    cR V1 (eff (ab lost fresh) (decide (f = 1)) sh (lyQQ D n dn) c, (md, true), (n', w', d', s', num'), (lost, fresh), (0, sh)) := by
  obtain ⟨hc, k4, k5, k6, k7, k8, k9, m0, m1, m2, m3, m4, hQ, hD⟩ := hM
  have h0 := h1 0 (by decide)
  exact cR_fail (by rw [h0]; exact k4) hA hf (by rw [h0]; exact k6) (by rw [h0]; exact k7) (by rw [h0]; exact k9) (fun d hd i hi => by rw [h2.dc hd]; exact hc d hd i hi) (fun d => lyQQ_QEq hD d)
/-- what the last marks of a step are issued from -/
theorem cMid_mark {Vn Vc : vT} (hM : cMid V c md lost fresh sh f n wide dn st num D) (h1 : ∀ a, a ≠ 2 → Vn a = V a) (i0 : Vn 2 0 = nI num) (i1 : Vn 2 1 = nI (nx1 n dn)) (i2 : Vn 2 2 = bI (nxw wide dn)) (i3 : Vn 2 3 = nI (nxd dn)) (i4 : Vn 2 4 = bI false) (hN : NM Vn num (nx1 n dn) (nxw wide dn) Vc) :
    (Vc 0 4 = bI md ∧ Vc 0 6 = lost ∧ Vc 0 7 = fresh ∧ Vc 0 9 = sh ∧ ∀ d, d < 6 → ∀ i, i < 170 → dc Vc d i = c d i) ∧ (Vc 2 0 = nI (num + 1) ∧ Vc 2 1 = nI (nx1 n dn) ∧ Vc 2 2 = bI (nxw wide dn) ∧ Vc 2 3 = nI (nxd dn) ∧ Vc 2 4 = bI false) ∧ ∀ d, QEq (mkQ (Vc 2) (kw (nx1 n dn) (nxw wide dn)) d) (mkQ (mkb (num + 1) (nx1 n dn) (nxw wide dn) (nxd dn) false) (kw (nx1 n dn) (nxw wide dn)) d) := by
  obtain ⟨hc, k4, k5, k6, k7, k8, k9, m0, m1, m2, m3, m4, hQ, hD⟩ := hM
  have h0 : Vc 0 = V 0 := by rw [hN.1, h1 0 (by decide)]
  have j0 : Vc 2 0 = nI (num + 1) := hN.2.2.2.1
  have j1 : Vc 2 1 = nI (nx1 n dn) := by rw [hN.2.2.2.2.1 1 (by decide)]; exact i1
  have j2 : Vc 2 2 = bI (nxw wide dn) := by rw [hN.2.2.2.2.1 2 (by decide)]; exact i2
  have j3 : Vc 2 3 = nI (nxd dn) := by rw [hN.2.2.2.2.1 3 (by decide)]; exact i3
  have j4 : Vc 2 4 = bI false := by rw [hN.2.2.2.2.1 4 (by decide)]; exact i4
  refine ⟨⟨by rw [h0]; exact k4, by rw [h0]; exact k6, by rw [h0]; exact k7, by rw [h0]; exact k9, fun d hd i hi => ?_⟩, ⟨j0, j1, j2, j3, j4⟩, fun d => mkQ_QEq (mkb_eq j0 j1 j2 j3 j4) rfl d⟩
  rw [hN.2.2.2.2.2.1.dc hd, dc_frame (h1 _ (by omega)) (h1 _ (by omega)) (h1 _ (by omega))]
  exact hc d hd i hi
theorem cR_markT {Vn Vc : vT} {r : Int32} (hM : cMid V c md lost fresh sh f n wide dn st num D) (h1 : ∀ a, a ≠ 2 → Vn a = V a) (i0 : Vn 2 0 = nI num) (i1 : Vn 2 1 = nI (nx1 n dn)) (i2 : Vn 2 2 = bI (nxw wide dn)) (i3 : Vn 2 3 = nI (nxd dn)) (i4 : Vn 2 4 = bI false) (hN : NM Vn num (nx1 n dn) (nxw wide dn) Vc)
    (hA : AW Vc (mkQ (Vc 2) (kw (nx1 n dn) (nxw wide dn))) f false r V1) (hf : f = 0) :
    cR V1 (eff (ab lost fresh) (decide (f = 1)) sh (mkQ (mkb (num + 1) (nx1 n dn) (nxw wide dn) (nxd dn) false) (kw (nx1 n dn) (nxw wide dn))) c, (md, false), (nx1 n dn, nxw wide dn, nxd dn, false, num + 1), (lost, fresh), (0, sh)) := by
  obtain ⟨⟨k4, k6, k7, k9, hc⟩, hj, hQ⟩ := cMid_mark hM h1 i0 i1 i2 i3 i4 hN
  obtain ⟨g1, g4, g5, g6, g7, g8, g9, ga, gQ⟩ := hA.eff k6 k7 k9 hc hQ
  refine cR.mk ⟨by rw [g4]; exact k4, by rw [g5, hf]; rfl, g6, g7, by rw [g8, hf], g9⟩ gQ g1 (fun _ _ => ?_)
  rw [ga 2 (by decide) (by decide)]
  exact hj
theorem cR_markF {Vn Vc : vT} {r : Int32} {n' : Nat} {w' : Bool} {d' : Nat} {s' : Bool} {num' : Nat} (hM : cMid V c md lost fresh sh f n wide dn st num D) (h1 : ∀ a, a ≠ 2 → Vn a = V a) (i0 : Vn 2 0 = nI num) (i1 : Vn 2 1 = nI (nx1 n dn)) (i2 : Vn 2 2 = bI (nxw wide dn)) (i3 : Vn 2 3 = nI (nxd dn)) (i4 : Vn 2 4 = bI false) (hN : NM Vn num (nx1 n dn) (nxw wide dn) Vc)
    (hA : AW Vc (mkQ (Vc 2) (kw (nx1 n dn) (nxw wide dn))) f false r V1) (hf : f = 1) :
    cR V1 (eff (ab lost fresh) (decide (f = 1)) sh (mkQ (mkb (num + 1) (nx1 n dn) (nxw wide dn) (nxd dn) false) (kw (nx1 n dn) (nxw wide dn))) c, (md, true), (n', w', d', s', num'), (lost, fresh), (0, sh)) := by
  obtain ⟨⟨k4, k6, k7, k9, hc⟩, hj, hQ⟩ := cMid_mark hM h1 i0 i1 i2 i3 i4 hN
  exact cR_fail k4 hA hf k6 k7 k9 hc hQ
/-- the window stashed -/
theorem cMid_stash {Va Vb Vc : vT} {r r2 : Int32} (hM : cMid V c md lost fresh sh f n wide dn st num D) (h1 : ∀ a, a < 5 → Va a = V a) (h2 : sameD V Va) (hA : AW Va (stQ (V 3) n n) f false r Vb) (hf : f ≠ 1) (hN : NM (u2 Vb 2 4 (nI 1)) num n wide Vc) (hB : AW Vc (mkQ (Vc 2) (kw n wide)) (f - 1) false r2 V1) (hf2 : f - 1 ≠ 1) :
    cMid V1 (eff (ab lost fresh) (decide (f - 1 = 1)) sh (mkQ (mkb (num + 1) n wide dn true) (kw n wide)) (eff (ab lost fresh) (decide (f = 1)) sh (stQ D n n) c)) md lost fresh sh (f - 2) n wide dn true (num + 1) D := by
  obtain ⟨hc, k4, k5, k6, k7, k8, k9, m0, m1, m2, m3, m4, hQ, hD⟩ := hM
  have h0 := h1 0 (by decide)
  obtain ⟨g1, g4, g5, g6, g7, g8, g9, ga, gQ⟩ := hA.eff (lost := lost) (fresh := fresh) (sh := sh) (by rw [h0]; exact k6) (by rw [h0]; exact k7) (by rw [h0]; exact k9) (c := c) (fun d hd i hi => by rw [h2.dc hd]; exact hc d hd i hi) (Q' := stQ D n n) (fun d => stQ_QEq n hD d)
  have e2 : Vb 2 = V 2 := by rw [ga 2 (by decide) (by decide), h1 2 (by decide)]
  have hz : Vc 0 = Vb 0 := by rw [hN.1, u2_r _ _ (by decide)]
  have j0 : Vc 2 0 = nI (num + 1) := hN.2.2.2.1
  have j1 : Vc 2 1 = nI n := by rw [hN.2.2.2.2.1 1 (by decide), u2_n _ _ (Or.inr (by decide)), e2]; exact m1
  have j2 : Vc 2 2 = bI wide := by rw [hN.2.2.2.2.1 2 (by decide), u2_n _ _ (Or.inr (by decide)), e2]; exact m2
  have j3 : Vc 2 3 = nI dn := by rw [hN.2.2.2.2.1 3 (by decide), u2_n _ _ (Or.inr (by decide)), e2]; exact m3
  have j4 : Vc 2 4 = bI true := by rw [hN.2.2.2.2.1 4 (by decide), u2_s]; rfl
  obtain ⟨p1, p4, p5, p6, p7, p8, p9, pa, pQ⟩ := hB.eff (lost := lost) (fresh := fresh) (sh := sh) (by rw [hz]; exact g6) (by rw [hz]; exact g7) (by rw [hz]; exact g9) (c := eff (ab lost fresh) (decide (f = 1)) sh (stQ D n n) c) (fun d hd i hi => by
    rw [hN.2.2.2.2.2.1.dc hd, dc_frame (V := Vb) (u2_r _ _ (by omega)) (u2_r _ _ (by omega)) (u2_r _ _ (by omega))]
    exact g1 d hd i hi) (Q' := mkQ (mkb (num + 1) n wide dn true) (kw n wide)) (fun d => mkQ_QEq (mkb_eq j0 j1 j2 j3 j4) rfl d)
  have q2 : V1 2 = Vc 2 := pa 2 (by decide) (by decide)
  refine ⟨p1, by rw [p4, hz, g4, h0]; exact k4, by rw [p5, decide_eq_false hf2]; rfl, p6, p7, by rw [p8]; congr 1, p9, by rw [q2]; exact j0, by rw [q2]; exact j1, by rw [q2]; exact j2, by rw [q2]; exact j3, by rw [q2]; exact j4, pQ, fun j i hj hi => ?_⟩
  rw [pa 3 (by decide) (by decide), hN.2.1, u2_r _ _ (by decide), ga 3 (by decide) (by decide), h1 3 (by decide)]
  exact hD j i hj hi
theorem cR_stash1 {Va : vT} {r : Int32} {n' : Nat} {w' : Bool} {d' : Nat} {s' : Bool} {num' : Nat} (hM : cMid V c md lost fresh sh f n wide dn st num D) (h1 : ∀ a, a < 5 → Va a = V a) (h2 : sameD V Va) (hA : AW Va (stQ (V 3) n n) f false r V1) (hf : f = 1) :
    cR V1 (eff (ab lost fresh) (decide (f = 1)) sh (stQ D n n) c, (md, true), (n', w', d', s', num'), (lost, fresh), (0, sh)) := by
  obtain ⟨hc, k4, k5, k6, k7, k8, k9, m0, m1, m2, m3, m4, hQ, hD⟩ := hM
  have h0 := h1 0 (by decide)
  exact cR_fail (by rw [h0]; exact k4) hA hf (by rw [h0]; exact k6) (by rw [h0]; exact k7) (by rw [h0]; exact k9) (fun d hd i hi => by rw [h2.dc hd]; exact hc d hd i hi) (fun d => stQ_QEq n hD d)
theorem cR_stash2 {Va Vb Vc : vT} {r r2 : Int32} {n' : Nat} {w' : Bool} {d' : Nat} {s' : Bool} {num' : Nat} (hM : cMid V c md lost fresh sh f n wide dn st num D) (h1 : ∀ a, a < 5 → Va a = V a) (h2 : sameD V Va) (hA : AW Va (stQ (V 3) n n) f false r Vb) (hf : f ≠ 1) (hN : NM (u2 Vb 2 4 (nI 1)) num n wide Vc) (hB : AW Vc (mkQ (Vc 2) (kw n wide)) (f - 1) false r2 V1) (hf2 : f - 1 = 1) :
    cR V1 (eff (ab lost fresh) (decide (f - 1 = 1)) sh (mkQ (mkb (num + 1) n wide dn true) (kw n wide)) (eff (ab lost fresh) (decide (f = 1)) sh (stQ D n n) c), (md, true), (n', w', d', s', num'), (lost, fresh), (0, sh)) := by
  obtain ⟨hc, k4, k5, k6, k7, k8, k9, m0, m1, m2, m3, m4, hQ, hD⟩ := hM
  have h0 := h1 0 (by decide)
  obtain ⟨g1, g4, g5, g6, g7, g8, g9, ga, gQ⟩ := hA.eff (lost := lost) (fresh := fresh) (sh := sh) (by rw [h0]; exact k6) (by rw [h0]; exact k7) (by rw [h0]; exact k9) (c := c) (fun d hd i hi => by rw [h2.dc hd]; exact hc d hd i hi) (Q' := stQ D n n) (fun d => stQ_QEq n hD d)
  have e2 : Vb 2 = V 2 := by rw [ga 2 (by decide) (by decide), h1 2 (by decide)]
  have hz : Vc 0 = Vb 0 := by rw [hN.1, u2_r _ _ (by decide)]
  refine cR_fail (by rw [hz, g4, h0]; exact k4) hB hf2 (by rw [hz]; exact g6) (by rw [hz]; exact g7) (by rw [hz]; exact g9) (fun d hd i hi => ?_) (fun d => mkQ_QEq (mkb_eq hN.2.2.2.1 ?_ ?_ ?_ ?_) rfl d)
  · rw [hN.2.2.2.2.2.1.dc hd, dc_frame (V := Vb) (u2_r _ _ (by omega)) (u2_r _ _ (by omega)) (u2_r _ _ (by omega))]
    exact g1 d hd i hi
  · rw [hN.2.2.2.2.1 1 (by decide), u2_n _ _ (Or.inr (by decide)), e2]; exact m1
  · rw [hN.2.2.2.2.1 2 (by decide), u2_n _ _ (Or.inr (by decide)), e2]; exact m2
  · rw [hN.2.2.2.2.1 3 (by decide), u2_n _ _ (Or.inr (by decide)), e2]; exact m3
  · rw [hN.2.2.2.2.1 4 (by decide), u2_s]; rfl
end Mid
