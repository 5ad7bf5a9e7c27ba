/-! rebuild and start, as functions of the value -/
theorem dc_marks2 {V V' : vT} {d k2 : Nat} {b : Nat → Int32} (hb : ∀ i, i < 5 → V k2 i = b i) (e1 : ∀ a, a ≠ (if V k2 0 &&& nI 1 = nI 1 then 8 + 7 * d else 7 + 7 * d) → V' a = V a) (e2 : ∀ j, j < 5 → V' (if V k2 0 &&& nI 1 = nI 1 then 8 + 7 * d else 7 + 7 * d) j = V k2 j) {i : Nat} (hi : i < 170) : dc V' d i = apW (none, b) (dc V d) i := by
  rw [hb 0 (by decide)] at e1 e2
  simp only [dc, apW, mp]
  by_cases h : b 0 &&& nI 1 = nI 1
  · simp only [if_pos h] at e1 e2 ⊢
    rw [e1 (6 + 7 * d) (by omega), e1 (7 + 7 * d) (by omega)]
    by_cases h1 : 165 ≤ i
    · rw [if_neg (by omega), if_neg (by omega), if_pos (by omega), e2 _ (by omega), hb _ (by omega)]
    · rw [if_neg (show ¬ (165 ≤ i ∧ i < 165 + 5) by omega)]
      by_cases h2 : i < 160
      · rw [if_pos h2, if_pos h2]
      · rw [if_neg h2, if_neg h2, if_pos (by omega), if_pos (by omega)]
  · simp only [if_neg h] at e1 e2 ⊢
    rw [e1 (6 + 7 * d) (by omega), e1 (8 + 7 * d) (by omega)]
    by_cases h2 : i < 160
    · rw [if_pos h2, if_neg (by omega), if_pos h2]
    · by_cases h3 : i < 165
      · rw [if_neg h2, if_pos h3, if_pos (by omega), e2 _ (by omega), hb _ (by omega)]
      · rw [if_neg h2, if_neg h3, if_neg (by omega), if_neg h2, if_neg h3]
/-- the words of a disk rebuilt -/
def rbd (c : Nat → Nat → Int32) (n : Nat) (wide : Bool) (dn : Nat) (st : Bool) (d : Nat) : Nat → Int32 := fun i => if st = true ∧ (d = 0 ∨ d = n) ∧ 128 ≤ i ∧ i < 128 + n * 4 then c (if d = n then 0 else n) i else rbw c n wide dn st d 32 i
def rbc (c : Nat → Nat → Int32) (n : Nat) (wide : Bool) (dn : Nat) (st : Bool) (num d : Nat) : Nat → Nat → Int32 := fun e => if e = d then apW (none, mkb num n wide dn st) (rbd c n wide dn st d) else c e
def oRebuild (a : AS) : RS := match a with
  | (c, (md, fd), (n, wide, dn, st, num), (lost, fresh), (fp, sh)) => ifS a (if fresh = -1 then (2, 0, a) else (0, fresh, (rbc c n wide dn st num fresh.toNatClampNeg, (md, fd), (n, wide, dn, st, num), (lost, -1), (fp, sh))))
section Rb
variable {c : Nat → Nat → Int32} {md fd : Bool} {n : Nat} {wide : Bool} {dn : Nat} {st : Bool} {num : Nat} {lost fresh : Int32} {fp : Nat} {sh : Int32} {V V1 V2 V3 V4 : vT} {d : Nat} {B : Nat}
theorem rbw_congr {w : Nat → Nat → Int32} (h : wc c w) (hd : d < 6) (hn6 : n ≤ 6) (hwn : wide = true → n < 6) {r i : Nat} (hi : i < 160) : rbw w n wide dn st d r i = rbw c n wide dn st d r i := by
  have hw6 := wor_le (dn := dn) (row := i / 4) hn6 hwn
  unfold rbw
  rw [h d hd i hi, xr_congr (fun e he hne => h e (by omega) i hi)]
theorem cR_rebuild (hR : cR V (c, (md, fd), (n, wide, dn, st, num), (lost, fresh), (fp, sh))) (e1 : md = true) (e2 : fd = false) (hd : d < 6) (hn3 : 3 ≤ n) (hn6 : n ≤ 6) (hwn : wide = true → n < 6) (hsw : st = true → wide = true)
    (h1 : (∀ a, a ≠ 6 + 7 * d → V1 a = V a) ∧ ∀ i, V1 (6 + 7 * d) i = rbw (cw V) n wide dn st d 32 i)
    (h2 : (∀ a, a ≠ 6 + 7 * d → V2 a = V1 a) ∧ ∀ i, V2 (6 + 7 * d) i = if st = true ∧ (d = 0 ∨ d = n) ∧ 128 ≤ i ∧ i < 128 + n * 4 then V1 (6 + 7 * (if d = n then 0 else n)) i else V1 (6 + 7 * d) i)
    (h3 : (∀ a, a ≠ (if V2 2 0 &&& nI 1 = nI 1 then 8 + 7 * d else 7 + 7 * d) → V3 a = V2 a) ∧ ∀ j, j < 5 → V3 (if V2 2 0 &&& nI 1 = nI 1 then 8 + 7 * d else 7 + 7 * d) j = V2 2 j)
    (h4 : V4 = u2 V3 0 7 (-1)) : cR V4 (rbc c n wide dn st num d, (md, fd), (n, wide, dn, st, num), (lost, -1), (fp, sh)) := by
  obtain ⟨hmd, hfd, hlo, hfr, hfp8, hsh, hQ, hc⟩ := hR.pt
  obtain ⟨hnum, hn, hwd, hdn, hst⟩ := hR.sv e1 e2
  have hwc := wc_V hR
  have g3 : ∀ a, a ≠ 7 + 7 * d → a ≠ 8 + 7 * d → V3 a = V2 a := fun a q1 q2 => h3.1 a (by split <;> assumption)
  have gV : ∀ a, a ≠ 6 + 7 * d → a ≠ 7 + 7 * d → a ≠ 8 + 7 * d → V3 a = V a := fun a q0 q1 q2 => by rw [g3 a q1 q2, h2.1 a q0, h1.1 a q0]
  have g0 : ∀ j, j ≠ 7 → V4 0 j = V 0 j := fun j hj => by rw [h4, u2_n _ _ (Or.inr hj), gV 0 (by omega) (by omega) (by omega)]
  have g4 : ∀ a, a ≠ 0 → V4 a = V3 a := fun a ha => by rw [h4, u2_r _ _ ha]
  have h22 : V2 2 = V 2 := by rw [h2.1 2 (by omega), h1.1 2 (by omega)]
  refine cR.mk ⟨by rw [g0 4 (by decide)]; exact hmd, by rw [g0 5 (by decide)]; exact hfd, by rw [g0 6 (by decide)]; exact hlo, by rw [h4, u2_s], by rw [g0 8 (by decide)]; exact hfp8, by rw [g0 9 (by decide)]; exact hsh⟩ (fun e he => ?_) (fun e he i hi => ?_) (fun _ _ => ?_)
  · have hq := hQ e he
    refine cQd_nil ?_
    rw [g4 _ (by omega), gV _ (by omega) (by omega) (by omega)]
    exact hq.1
  · rw [dc_frame (g4 _ (by omega)) (g4 _ (by omega)) (g4 _ (by omega))]
    unfold rbc
    by_cases q : e = d
    · subst q
      rw [if_pos rfl, dc_marks2 (b := mkb num n wide dn st) (by rw [h22]; exact mkb_eq hnum hn hwd hdn hst) h3.1 h3.2 hi]
      by_cases q2 : i < 160
      · refine apW_pt _ ?_
        rw [dc_word q2, h2.2 i]
        unfold rbd
        by_cases q3 : st = true ∧ (e = 0 ∨ e = n) ∧ 128 ≤ i ∧ i < 128 + n * 4
        · rw [if_pos q3, if_pos q3]
          have hn5 := hwn (hsw q3.1)
          by_cases q4 : e = n
          · rw [if_pos q4, h1.1 _ (by omega)]
            exact hwc 0 (by omega) i q2
          · rw [if_neg q4, h1.1 _ (by omega)]
            exact hwc n (by omega) i q2
        · rw [if_neg q3, if_neg q3, h1.2 i]
          exact rbw_congr hwc hd hn6 hwn q2
      · refine apW_pt _ ?_
        have e3 : rbd c n wide dn st e i = c e i := by
          unfold rbd rbw
          rw [if_neg (by omega), if_neg (by omega)]
        rw [e3, ← hc e he i hi]
        unfold dc
        rw [if_neg q2, if_neg q2, h2.1 _ (by omega), h2.1 _ (by omega), h1.1 _ (by omega), h1.1 _ (by omega)]
    · rw [if_neg q, dc_frame (gV _ (by omega) (by omega) (by omega)) (gV _ (by omega) (by omega) (by omega)) (gV _ (by omega) (by omega) (by omega))]
      exact hc e he i hi
  · rw [g4 2 (by decide), gV 2 (by omega) (by omega) (by omega)]
    exact ⟨hnum, hn, hwd, hdn, hst⟩
theorem bst_ge (f : Nat → Int32) : ∀ {q p : Nat}, p < q → f p ≤ f (bst f q)
  | q + 1, p, h => by
    by_cases z : f (bst f q) < f q
    · rw [bst_yes z]
      by_cases y : p = q
      · rw [y]; exact Int32.le_refl _
      · exact Int32.le_trans (bst_ge f (by omega)) (Int32.le_of_lt z)
    · rw [bst_no z]
      by_cases y : p = q
      · rw [y]; exact Int32.not_lt.mp z
      · exact bst_ge f (by omega)
/-- the marks that a start finds -/
def stq (c : Nat → Nat → Int32) : Nat := bst (fun q => mkA c q 0) 12
def stb (x : Int32) : Bool := decide (¬ x = 0)
theorem stb_bI (b : Bool) : stb (bI b) = b := by cases b <;> rfl
def oStart (a : AS) : RS := match a with
  | (c, (md, fd), _, (lost, fresh), (fp, sh)) => if fd = false then (1, 0, a) else
    (0, if stb (mkA c (stq c) 2) = true then (if stb (mkA c (stq c) 4) = true then 2 else 1) else 0,
      (mnd c (mkA c (stq c) 1).toNatClampNeg (stb (mkA c (stq c) 2)) (mkA c (stq c) 3).toNatClampNeg (stb (mkA c (stq c) 4)) 32, (md, false), ((mkA c (stq c) 1).toNatClampNeg, stb (mkA c (stq c) 2), (mkA c (stq c) 3).toNatClampNeg, stb (mkA c (stq c) 4), (mkA c (stq c) 0).toNatClampNeg), (lost, fresh), (fp, sh)))
theorem stq_lt : stq c < 12 := bst_lt _ (by decide)
theorem mcl_dc {q j : Nat} (hj : j < 5) : V (mcl q) j = dc V (q / 2) (160 + 5 * (q % 2) + j) := by
  unfold mcl dc
  rcases Nat.mod_two_eq_zero_or_one q with h | h
  · rw [h, if_neg (by omega), if_pos (by omega), show 160 + 5 * 0 + j - 160 = j by omega]; rfl
  · rw [h, if_neg (by omega), if_neg (by omega), show 160 + 5 * 1 + j - 165 = j by omega, show 7 + 7 * (q / 2) + 1 = 8 + 7 * (q / 2) by omega]
theorem bst_congr {f g : Nat → Int32} : ∀ {q : Nat}, (∀ p, p < q + 1 → f p = g p) → bst f q = bst g q
  | 0, _ => rfl
  | q + 1, h => by
    have e := bst_congr (q := q) (fun p hp => h p (by omega))
    have hb : bst g q < q + 1 := by
      cases q with
      | zero => exact Nat.one_pos
      | succ q => have := bst_lt g (q := q + 1) (by omega); omega
    show (if f (bst f q) < f q then q else bst f q) = (if g (bst g q) < g q then q else bst g q)
    rw [e, h (bst g q) (by omega), h q (by omega)]
theorem bst_congr1 {f g : Nat → Int32} {q : Nat} (h : ∀ p, p < q + 1 → f p = g p) : bst f (q + 1) = bst g (q + 1) := by
  have e := bst_congr (q := q) h
  have hb : bst g q < q + 1 := by
    cases q with
    | zero => exact Nat.one_pos
    | succ q => have := bst_lt g (q := q + 1) (by omega); omega
  show (if f (bst f q) < f q then q else bst f q) = (if g (bst g q) < g q then q else bst g q)
  rw [e, h (bst g q) (by omega), h q (by omega)]
/-- the marks found are marks -/
theorem stq_ok (hB : B < 10000) (hm : ∀ q, q < 12 → mOK B (q / 2) (mkA c q)) (hx : ∃ q, q < 12 ∧ ∃ x, x ≠ 0 ∧ x ≤ B ∧ mkA c q 0 = nI x) : ∃ (x n' : Nat) (w' : Bool) (dn' : Nat) (st' : Bool), mkA c (stq c) 0 = nI x ∧ 1 ≤ x ∧ x ≤ B ∧ mkA c (stq c) 1 = nI n' ∧ mkA c (stq c) 2 = bI w' ∧ mkA c (stq c) 3 = nI dn' ∧ mkA c (stq c) 4 = bI st' ∧ 3 ≤ n' ∧ n' ≤ 6 ∧ dn' < 32 ∧ (w' = true → n' < 6) ∧ (st' = true → w' = true) ∧ stq c / 2 < kw n' w' := by
  obtain ⟨q, hq, x, hx0, hxB, hqx⟩ := hx
  obtain ⟨y, n', w', dn', st', h0, hyB, h1', h2', h3', h4', hv⟩ := hm (stq c) stq_lt
  have hge : mkA c q 0 ≤ mkA c (stq c) 0 := bst_ge (fun q => mkA c q 0) hq
  rw [hqx, h0, nI_leI (by omega) (by omega)] at hge
  obtain ⟨a1, a2, a3, a4, a5, a6⟩ := hv (by omega)
  exact ⟨y, n', w', dn', st', h0, by omega, hyB, h1', h2', h3', h4', a1, a2, a3, a4, a5, a6⟩
theorem mnd_congr {w : Nat → Nat → Int32} (h : wc c w) (hd : d < 6) (hn6 : n ≤ 6) (hwn : wide = true → n < 6) {r i : Nat} (hi : i < 160) : mnd w n wide dn st r d i = mnd c n wide dn st r d i := by
  have hw6 := wor_le (dn := dn) (row := i / 4) hn6 hwn
  unfold mnd
  rw [h d hd i hi, xr_congr (fun e he hne => h e (by omega) i hi)]
theorem cR_start {n' dn' x : Nat} {w' st' : Bool} (hR : cR V (c, (md, fd), (n, wide, dn, st, num), (lost, fresh), (fp, sh)))
    (hV1 : V1 = u2 V 0 5 (nI 0)) (h2 : (∀ a, a ≠ 2 → V2 a = V1 a) ∧ ∀ j, j < 5 → V2 2 j = V1 (mcl (stq c)) j)
    (m0 : mkA c (stq c) 0 = nI x) (m1 : mkA c (stq c) 1 = nI n') (m2 : mkA c (stq c) 2 = bI w') (m3 : mkA c (stq c) 3 = nI dn') (m4 : mkA c (stq c) 4 = bI st') (hn6 : n' ≤ 6) (hwn : w' = true → n' < 6)
    (h3 : (∀ a, (∀ d, d < 6 → a ≠ 6 + 7 * d) → V3 a = V2 a) ∧ ∀ d, d < 6 → ∀ i, V3 (6 + 7 * d) i = mnd (cw V2) n' w' dn' st' 32 d i) :
    cR V3 (mnd c n' w' dn' st' 32, (md, false), (n', w', dn', st', x), (lost, fresh), (fp, sh)) := by
  obtain ⟨hmd, hfd, hlo, hfr, hfp8, hsh, hQ, hc⟩ := hR.pt
  have k1 : ∀ a, a ≠ 0 → a ≠ 2 → V2 a = V a := fun a q1 q2 => by rw [h2.1 a q2, hV1, u2_r _ _ q1]
  have k0 : ∀ j, j ≠ 5 → V3 0 j = V 0 j := fun j hj => by rw [h3.1 0 (fun d hd => by omega), h2.1 0 (by decide), hV1, u2_n _ _ (Or.inr hj)]
  have hwc : wc c (cw V2) := fun d hd j hj => by
    rw [← hc d hd j (by omega), dc_word hj]
    show V2 (6 + 7 * d) j = V (6 + 7 * d) j
    rw [k1 _ (by omega) (by omega)]
  have hmc : mcl (stq c) ≠ 0 := by unfold mcl; omega
  have km : ∀ j, j < 5 → V3 2 j = mkA c (stq c) j := fun j hj => by
    rw [h3.1 2 (fun d hd => by omega), h2.2 j hj, hV1, u2_r _ _ hmc, mcl_dc (V := V) hj, hc _ (by have := stq_lt (c := c); omega) _ (by omega)]
    rfl
  refine cR.mk ⟨by rw [k0 4 (by decide)]; exact hmd, by rw [h3.1 0 (fun d hd => by omega), h2.1 0 (by decide), hV1, u2_s]; rfl, by rw [k0 6 (by decide)]; exact hlo, by rw [k0 7 (by decide)]; exact hfr, by rw [k0 8 (by decide)]; exact hfp8, by rw [k0 9 (by decide)]; exact hsh⟩ (fun e he => ?_) (fun e he i hi => ?_) (fun _ _ => ?_)
  · refine cQd_nil ?_
    rw [h3.1 _ (fun d hd => by omega), k1 _ (by omega) (by omega)]
    exact (hQ e he).1
  · by_cases q : i < 160
    · rw [dc_word q, h3.2 e he i]
      exact mnd_congr hwc he hn6 hwn q
    · have e3 : mnd c n' w' dn' st' 32 e i = c e i := by
        unfold mnd
        rw [if_neg (by omega)]
      rw [e3, ← hc e he i hi]
      unfold dc
      rw [if_neg q, if_neg q, h3.1 _ (fun d hd => by omega), h3.1 _ (fun d hd => by omega), k1 _ (by omega) (by omega), k1 _ (by omega) (by omega)]
  · exact ⟨(km 0 (by decide)).trans m0, (km 1 (by decide)).trans m1, (km 2 (by decide)).trans m2, (km 3 (by decide)).trans m3, (km 4 (by decide)).trans m4⟩
theorem oStart_y {n' dn' x : Nat} {w' st' : Bool} (e2 : fd = true) (m0 : mkA c (stq c) 0 = nI x) (m1 : mkA c (stq c) 1 = nI n') (m2 : mkA c (stq c) 2 = bI w') (m3 : mkA c (stq c) 3 = nI dn') (m4 : mkA c (stq c) 4 = bI st') (hx : x < 10000) (hn6 : n' ≤ 6) (hd32 : dn' < 32) :
    oStart (c, (md, fd), (n, wide, dn, st, num), (lost, fresh), (fp, sh)) = (0, if w' = true then (if st' = true then 2 else 1) else 0, (mnd c n' w' dn' st' 32, (md, false), (n', w', dn', st', x), (lost, fresh), (fp, sh))) := by
  unfold oStart
  refine (if_neg (by rw [e2]; decide)).trans ?_
  rw [m0, m1, m2, m3, m4, stb_bI, stb_bI, nI_clamp (by omega), nI_clamp (by omega), nI_clamp (by omega)]
end Rb
