section St
variable {c : Nat → Nat → Int32} {md fd : Bool} {n : Nat} {wide : Bool} {dn : Nat} {st : Bool} {num : Nat} {lost fresh : Int32} {fp f : Nat} {sh : Int32} {D : Nat → Int32} {V Vb V1 : vT}
theorem oStep_s (e1 : md = true) (e2 : fd = false) (ew : wide = true) (es : st = true) : oStep (c, (md, fd), (n, wide, dn, st, num), (lost, fresh), (fp, sh)) = layR (c, (md, fd), (n, wide, dn, st, num), (lost, fresh), (fp, sh)) c (stD (c, (md, fd), (n, wide, dn, st, num), (lost, fresh), (fp, sh))) (min fp 2) num := by
  rw [oStep, ifS_y (a := (c, (md, fd), (n, wide, dn, st, num), (lost, fresh), (fp, sh))) e1 e2]
  exact (if_neg (fun h => absurd (show wide = false from h) (by rw [ew]; decide))).trans (if_pos es)
theorem oStep_u (e1 : md = true) (e2 : fd = false) (ew : wide = true) (es : st = false) : oStep (c, (md, fd), (n, wide, dn, st, num), (lost, fresh), (fp, sh)) = (if min fp 4 = 1 then flA (c, (md, fd), (n, wide, dn, st, num), (lost, fresh), (fp, sh)) (stC1 (c, (md, fd), (n, wide, dn, st, num), (lost, fresh), (fp, sh)) (stD (c, (md, fd), (n, wide, dn, st, num), (lost, fresh), (fp, sh)))) else if min fp 4 - 1 = 1 then flA (c, (md, fd), (n, wide, dn, st, num), (lost, fresh), (fp, sh)) (stC2 (c, (md, fd), (n, wide, dn, st, num), (lost, fresh), (fp, sh)) (stD (c, (md, fd), (n, wide, dn, st, num), (lost, fresh), (fp, sh)))) else layR (c, (md, fd), (n, wide, dn, st, num), (lost, fresh), (fp, sh)) (stC2 (c, (md, fd), (n, wide, dn, st, num), (lost, fresh), (fp, sh)) (stD (c, (md, fd), (n, wide, dn, st, num), (lost, fresh), (fp, sh)))) (stD (c, (md, fd), (n, wide, dn, st, num), (lost, fresh), (fp, sh))) (min fp 4 - 2) (num + 1)) := by
  rw [oStep, ifS_y (a := (c, (md, fd), (n, wide, dn, st, num), (lost, fresh), (fp, sh))) e1 e2]
  exact (if_neg (fun h => absurd (show wide = false from h) (by rw [ew]; decide))).trans (if_neg (fun h => absurd (show st = true from h) (by rw [es]; decide)))
theorem winw_congr {w : Nat → Nat → Int32} (h : wc c w) {out : Int32} {j i : Nat} (hn3 : 3 ≤ n) (hn6 : n ≤ 6) (hwn : wide = true → n < 6) (hi : i < 4) : winw w out n wide dn st j i = winw c out n wide dn st j i := by
  unfold winw
  by_cases q : dn * n + j < 32 * (n - 1)
  · rw [if_pos q, if_pos q]; exact wob_congr h hn3 hn6 hwn q hi
  · rw [if_neg q, if_neg q]
theorem cMid_start (hR : cR V (c, (md, fd), (n, wide, dn, st, num), (lost, fresh), (fp, sh))) (e1 : md = true) (e2 : fd = false) (hVb : Vb = u2 V 0 8 (nI f)) (hn3 : 3 ≤ n) (hn6 : n ≤ 6) (hwn : wide = true → n < 6)
    (hF : (∀ a, a ≠ 3 → V1 a = Vb a) ∧ ∀ j1 i1, j1 < n → i1 < 4 → V1 3 (j1 * 4 + i1) = winw (cw Vb) (ab (Vb 0 6) (Vb 0 7)) n wide dn st j1 i1) :
    cMid V1 c md lost fresh sh f n wide dn st num (stD (c, (md, fd), (n, wide, dn, st, num), (lost, fresh), (fp, sh))) := by
  obtain ⟨hmd, hfd, hlo, hfr, hfp8, hsh, hQ, hc⟩ := hR.pt
  obtain ⟨hnum, hn, hwd, hdn, hst⟩ := hR.sv e1 e2
  have hb : ∀ a, a ≠ 0 → Vb a = V a := fun a ha => by rw [hVb, u2_r _ _ ha]
  have hb0 : ∀ j, j ≠ 8 → Vb 0 j = V 0 j := fun j hj => by rw [hVb, u2_n _ _ (Or.inr hj)]
  have h10 := hF.1 0 (by decide)
  have h12 : V1 2 = V 2 := by rw [hF.1 2 (by decide), hb 2 (by decide)]
  have hwc : wc c (cw Vb) := fun d hd j hj => by
    rw [← hc d hd j (by omega), dc_word hj]
    show Vb (6 + 7 * d) j = V (6 + 7 * d) j
    rw [hb _ (by omega)]
  refine ⟨fun d hd i hi => ?_, by rw [h10, hb0 4 (by decide)]; exact hmd, by rw [h10, hb0 5 (by decide), hfd, e2], by rw [h10, hb0 6 (by decide)]; exact hlo, by rw [h10, hb0 7 (by decide)]; exact hfr, by rw [h10, hVb, u2_s], by rw [h10, hb0 9 (by decide)]; exact hsh, by rw [h12]; exact hnum, by rw [h12]; exact hn, by rw [h12]; exact hwd, by rw [h12]; exact hdn, by rw [h12]; exact hst, fun d hd => cQd_congr (fun a h1 h2 => by rw [hF.1 a (by omega), hb a (by omega)]) (hQ d hd), fun j i hj hi => ?_⟩
  · rw [dc_frame (V := V) (by rw [hF.1 _ (by omega), hb _ (by omega)]) (by rw [hF.1 _ (by omega), hb _ (by omega)]) (by rw [hF.1 _ (by omega), hb _ (by omega)])]
    exact hc d hd i hi
  · rw [hF.2 j i hj hi, hb0 6 (by decide), hb0 7 (by decide), hlo, hfr, winw_congr hwc hn3 hn6 hwn hi]
    exact (d3_at hi).symm
end St
