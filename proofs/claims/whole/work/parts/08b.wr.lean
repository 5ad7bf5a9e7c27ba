theorem fp_min1 (fp : Nat) : decide (min fp 1 = 1) = decide (¬ fp = 0) := by
  by_cases h : fp = 0
  · subst h; rfl
  · rw [decide_eq_true (show min fp 1 = 1 by omega), decide_eq_true h]
theorem chg_congr {T T' : Nat → Nat → Int32} {own i : Nat} {v : Int32} {j i1 : Nat} (h : T j i1 = T' j i1) : chg T own i v j i1 = chg T' own i v j i1 := by
  unfold chg
  rw [h]
theorem wrQ_QEq {c w : Nat → Nat → Int32} (h : wc c w) {out : Int32} {k row own i : Nat} {v : Int32} (hk3 : 3 ≤ k) (hk6 : k ≤ 6) (hr : row < 40) (d : Nat) : QEq (wrQ w out k row own i v d) (wrQ c out k row own i v d) := by
  have hT : ∀ j i1, i1 < 4 → told w out k row (dd k row j) i1 = told c out k row (dd k row j) i1 := fun j i1 h1 => by
    have := dd_lt (k := k) (row := row) (j := j) (by omega)
    exact told_congr h hk6 hr (by omega) h1
  unfold wrQ
  refine qAdd_QEq (qAdd_QEq trivial ⟨rfl, fun i1 _ h2 => ?_⟩) ⟨rfl, fun i1 _ h2 => ?_⟩
  · rcases h2 with h2 | h2
    · exact absurd h2 (by simp)
    · exact chg_congr (T := fun j i => told w out k row (dd k row j) i) (T' := fun j i => told c out k row (dd k row j) i) (hT own i1 h2)
  · rcases h2 with h2 | h2
    · exact absurd h2 (by simp)
    · exact xa_congr (fun e _ => chg_congr (T := fun j i => told w out k row (dd k row j) i) (T' := fun j i => told c out k row (dd k row j) i) (hT e i1 h2))
section Wr
variable {c : Nat → Nat → Int32} {md fd : Bool} {n : Nat} {wide : Bool} {dn : Nat} {st : Bool} {num : Nat} {lost fresh : Int32} {fp : Nat} {sh : Int32} {V Vb Vc Vd : vT}
theorem cR_write {r : Int32} {k row own i : Nat} {v : Int32} (hR : cR V (c, (md, fd), (n, wide, dn, st, num), (lost, fresh), (fp, sh))) (e1 : md = true) (e2 : fd = false) (hVb : Vb = u2 V 0 8 (nI (min fp 1))) (hI1 : ∀ a, a < 3 → Vc a = Vb a) (hI2 : sameD Vb Vc)
    (hA : AW Vc (wrQ (cw Vb) (ab (Vb 0 6) (Vb 0 7)) k row own i v) (min fp 1) fd r Vd) (hk3 : 3 ≤ k) (hk6 : k ≤ 6) (hr : row < 40) :
    cR Vd (eff (ab lost fresh) (decide (¬ fp = 0)) sh (wrQ c (ab lost fresh) k row own i v) c, (md, decide (¬ fp = 0)), (n, wide, dn, st, num), (lost, fresh), (0, sh)) := by
  obtain ⟨hmd, hfd, hlo, hfr, hfp8, hsh, hQ, hc⟩ := hR.pt
  have hb6 : Vb 0 6 = lost := by rw [hVb, u2_n _ _ (Or.inr (by decide))]; exact hlo
  have hb7 : Vb 0 7 = fresh := by rw [hVb, u2_n _ _ (Or.inr (by decide))]; exact hfr
  have hb9 : Vb 0 9 = sh := by rw [hVb, u2_n _ _ (Or.inr (by decide))]; exact hsh
  have hb4 : Vb 0 4 = bI md := by rw [hVb, u2_n _ _ (Or.inr (by decide))]; exact hmd
  have hdb : ∀ d, d < 6 → ∀ i, i < 170 → dc Vb d i = c d i := fun d hd i hi => by
    rw [dc_frame (V := V) (by rw [hVb, u2_r _ _ (by omega)]) (by rw [hVb, u2_r _ _ (by omega)]) (by rw [hVb, u2_r _ _ (by omega)])]
    exact hc d hd i hi
  have hwc : wc c (cw Vb) := fun d hd j hj => by
    rw [← hdb d hd j (by omega), dc_word hj]
  have h0 := hI1 0 (by decide)
  obtain ⟨g1, g4, g5, g6, g7, g8, g9, ga, gQ⟩ := hA.eff (lost := lost) (fresh := fresh) (sh := sh) (by rw [h0]; exact hb6) (by rw [h0]; exact hb7) (by rw [h0]; exact hb9) (c := c) (fun d hd i hi => by rw [hI2.dc hd]; exact hdb d hd i hi) (Q' := wrQ c (ab lost fresh) k row own i v) (fun d => by rw [hb6, hb7]; exact wrQ_QEq hwc hk3 hk6 hr d)
  refine cR.mk ⟨by rw [g4, h0]; exact hb4, by rw [g5, e2, fp_min1]; rfl, g6, g7, by rw [g8]; congr 1; omega, g9⟩ gQ (fun d hd i hi => by rw [g1 d hd i hi, fp_min1]) (fun h1 h2 => ?_)
  rw [ga 2 (by decide) (by decide), hI1 2 (by decide), hVb, u2_r _ _ (by decide)]
  exact hR.sv e1 e2
theorem cR_widen {r : Int32} {V1 V2 V3 V4 : vT} (hR : cR V (c, (md, fd), (n, wide, dn, st, num), (lost, fresh), (fp, sh))) (e1 : md = true) (e2 : fd = false) (hVb : Vb = u2 V 0 8 (nI (min fp 1))) (hn5 : n < 6)
    (hE : (∀ a, a ≠ 5 + 7 * n → a ≠ 6 + 7 * n → a ≠ 7 + 7 * n → a ≠ 8 + 7 * n → Vc a = Vb a) ∧ Vc (5 + 7 * n) 3 = nI 0 ∧ ∀ i, i < 170 → dc Vc n i = 0)
    (h1 : V1 = u2 Vc 2 2 (nI 1)) (h2 : V2 = u2 V1 2 3 (nI 0)) (h3 : V3 = u2 V2 2 4 (nI 0)) (hN : NM V3 num n true V4) (hA : AW V4 (mkQ (V4 2) (kw n true)) (min fp 1) fd r Vd) :
    cR Vd (eff (ab lost fresh) (decide (¬ fp = 0)) sh (mkQ (mkb (num + 1) n true 0 false) (n + 1)) (emp c n), (md, decide (¬ fp = 0)), (n, true, 0, false, num + 1), (lost, fresh), (0, sh)) := by
  obtain ⟨hmd, hfd, hlo, hfr, hfp8, hsh, hQ, hc⟩ := hR.pt
  obtain ⟨hnum, hn, hwd, hdn, hst⟩ := hR.sv e1 e2
  have h30 : ∀ a, a ≠ 2 → V3 a = Vc a := fun a ha => by rw [h3, u2_r _ _ ha, h2, u2_r _ _ ha, h1, u2_r _ _ ha]
  have hc0 : Vc 0 = Vb 0 := hE.1 0 (by omega) (by omega) (by omega) (by omega)
  have h40 : V4 0 = Vb 0 := by rw [hN.1, h30 0 (by decide), hc0]
  have hb : ∀ j, j ≠ 8 → Vb 0 j = V 0 j := fun j hj => by rw [hVb, u2_n _ _ (Or.inr hj)]
  have hb2 : Vc 2 = V 2 := by rw [hE.1 2 (by omega) (by omega) (by omega) (by omega), hVb, u2_r _ _ (by decide)]
  have m0 : V4 2 0 = nI (num + 1) := hN.2.2.2.1
  have m1 : V4 2 1 = nI n := by rw [hN.2.2.2.2.1 1 (by decide), h3, u2_n _ _ (Or.inr (by decide)), h2, u2_n _ _ (Or.inr (by decide)), h1, u2_n _ _ (Or.inr (by decide)), hb2]; exact hn
  have m2 : V4 2 2 = bI true := by rw [hN.2.2.2.2.1 2 (by decide), h3, u2_n _ _ (Or.inr (by decide)), h2, u2_n _ _ (Or.inr (by decide)), h1, u2_s]; rfl
  have m3 : V4 2 3 = nI 0 := by rw [hN.2.2.2.2.1 3 (by decide), h3, u2_n _ _ (Or.inr (by decide)), h2, u2_s]
  have m4 : V4 2 4 = bI false := by rw [hN.2.2.2.2.1 4 (by decide), h3, u2_s]; rfl
  obtain ⟨g1, g4, g5, g6, g7, g8, g9, ga, gQ⟩ := hA.eff (lost := lost) (fresh := fresh) (sh := sh) (by rw [h40, hb 6 (by decide)]; exact hlo) (by rw [h40, hb 7 (by decide)]; exact hfr) (by rw [h40, hb 9 (by decide)]; exact hsh) (c := emp c n) (fun d hd i hi => by
    rw [hN.2.2.2.2.2.1.dc hd]
    rw [dc_frame (V := Vc) (h30 _ (by omega)) (h30 _ (by omega)) (h30 _ (by omega))]
    unfold emp
    by_cases q : d = n
    · rw [if_pos q, q]; exact hE.2.2 i hi
    · rw [if_neg q, dc_frame (V := V) (by rw [hE.1 _ (by omega) (by omega) (by omega) (by omega), hVb, u2_r _ _ (by omega)]) (by rw [hE.1 _ (by omega) (by omega) (by omega) (by omega), hVb, u2_r _ _ (by omega)]) (by rw [hE.1 _ (by omega) (by omega) (by omega) (by omega), hVb, u2_r _ _ (by omega)])]
      exact hc d hd i hi) (Q' := mkQ (mkb (num + 1) n true 0 false) (n + 1)) (fun d => mkQ_QEq (mkb_eq m0 m1 m2 m3 m4) rfl d)
  refine cR.mk ⟨by rw [g4, h40, hb 4 (by decide)]; exact hmd, by rw [g5, e2, fp_min1]; rfl, g6, g7, by rw [g8]; congr 1; omega, g9⟩ gQ (fun d hd i hi => by rw [g1 d hd i hi, fp_min1]) (fun _ _ => ?_)
  rw [ga 2 (by decide) (by decide)]
  exact ⟨m0, m1, m2, m3, m4⟩
end Wr
