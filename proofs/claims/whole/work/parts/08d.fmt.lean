theorem cR_format {V V0 V5 Ve V6 V7 Vd : vT} {x : Nat} {sh r : Int32} (h9 : V 0 9 = sh) (hx6 : x ≤ 6)
    (hL : (∀ a, a < 5 → V0 a = V a) ∧ ∀ d, d < 6 → V0 (5 + 7 * d) 3 = nI 0 ∧ ∀ i, i < 170 → dc V0 d i = 0)
    (h50 : ∀ a, a ≠ 0 → V5 a = V0 a) (g4 : V5 0 4 = bI true) (g5 : V5 0 5 = bI false) (g6 : V5 0 6 = -1) (g7 : V5 0 7 = -1) (g8 : V5 0 8 = nI 0) (g9 : V5 0 9 = V0 0 9)
    (hE : (∀ a, a ≠ 2 → Ve a = V5 a) ∧ ∀ j, j < 5 → Ve 2 j = 0) (h6 : V6 = u2 Ve 2 1 (nI x)) (hN : NM V6 0 x false V7) (hA : AW V7 (mkQ (V7 2) (kw x false)) 0 false r Vd) :
    cR Vd (eff (ab (-1) (-1)) false sh (mkQ (mkb 1 x false 0 false) x) (fun _ _ => 0), (true, false), (x, false, 0, false, 1), (-1, -1), (0, sh)) := by
  have h70 : V7 0 = V5 0 := by rw [hN.1, h6, u2_r _ _ (by decide), hE.1 0 (by decide)]
  have m0 : V7 2 0 = nI 1 := hN.2.2.2.1
  have m1 : V7 2 1 = nI x := by rw [hN.2.2.2.2.1 1 (by decide), h6, u2_s]
  have m2 : V7 2 2 = bI false := by rw [hN.2.2.2.2.1 2 (by decide), h6, u2_n _ _ (Or.inr (by decide)), hE.2 2 (by decide)]; rfl
  have m3 : V7 2 3 = nI 0 := by rw [hN.2.2.2.2.1 3 (by decide), h6, u2_n _ _ (Or.inr (by decide)), hE.2 3 (by decide)]; rfl
  have m4 : V7 2 4 = bI false := by rw [hN.2.2.2.2.1 4 (by decide), h6, u2_n _ _ (Or.inr (by decide)), hE.2 4 (by decide)]; rfl
  obtain ⟨k1, k4, k5, k6, k7, k8, k9, ka, kQ⟩ := hA.eff (lost := -1) (fresh := -1) (sh := sh) (by rw [h70]; exact g6) (by rw [h70]; exact g7) (by rw [h70, g9, hL.1 0 (by decide)]; exact h9) (c := fun _ _ => 0) (fun d hd i hi => by
    rw [hN.2.2.2.2.2.1.dc hd, dc_frame (V := V0) (by rw [h6, u2_r _ _ (by omega), hE.1 _ (by omega), h50 _ (by omega)]) (by rw [h6, u2_r _ _ (by omega), hE.1 _ (by omega), h50 _ (by omega)]) (by rw [h6, u2_r _ _ (by omega), hE.1 _ (by omega), h50 _ (by omega)])]
    exact (hL.2 d hd).2 i hi) (Q' := mkQ (mkb 1 x false 0 false) x) (fun d => mkQ_QEq (mkb_eq m0 m1 m2 m3 m4) rfl d)
  refine cR.mk ⟨by rw [k4, h70]; exact g4, by rw [k5]; rfl, k6, k7, by rw [k8], k9⟩ kQ (fun d hd i hi => k1 d hd i hi) (fun _ _ => ?_)
  rw [ka 2 (by decide) (by decide)]
  exact ⟨m0, m1, m2, m3, m4⟩
