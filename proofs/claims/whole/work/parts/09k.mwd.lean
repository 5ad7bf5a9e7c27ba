theorem mR_emp {V V1 V2 : vT} {d : Nat} {c : Nat → Nat → Int32} {md fd : Bool} {n : Nat} {wide : Bool} {dn : Nat} {st : Bool} {num : Nat} {lost fresh : Int32} {fp : Nat} {sh : Int32} (hd : d < 6) (hR : mR V (c, (md, fd), (n, wide, dn, st, num), (lost, fresh), (fp, sh))) (h1 : (∀ a, a ≠ 1 → V1 a = V a) ∧ ∀ t, V1 1 t = if 160 * d ≤ t ∧ t < 160 * d + 160 then 0 else V 1 t) (h2 : (∀ a, a ≠ 2 → V2 a = V1 a) ∧ ∀ t, V2 2 t = if 10 * d ≤ t ∧ t < 10 * d + 10 then 0 else V1 2 t) :
    mR V2 (emp c d, (md, fd), (n, wide, dn, st, num), (lost, fresh), (fp, sh)) := by
  have h0 : V2 0 = V 0 := by rw [h2.1 0 (by decide), h1.1 0 (by decide)]
  obtain ⟨⟨hmd, hlo, hfr, hsh, hz6, hmc⟩, hfd, har, hfa⟩ := hR.pt
  refine mR.mk ⟨by rw [h0]; exact hmd, by rw [h0]; exact hlo, by rw [h0]; exact hfr, by rw [h0]; exact hsh, fun t q1 q2 => by rw [h2.2 t, if_neg (by omega), h1.1 2 (by decide)]; exact hz6 t q1 q2, fun e he i hi => ?_⟩ (by rw [h0]; exact hfd) (by rw [h0]; exact har) (by rw [h0]; exact hfa) (fun e1 e2 => (hR.sv e1 e2).frame (fun j _ _ => by rw [h0]))
  rw [mc_emp h1 h2 e i hi]
  unfold emp
  by_cases q : e = d
  · rw [if_pos q, if_pos q]
  · rw [if_neg q, if_neg q]; exact hmc e he i hi
theorem mR_fmt {V : vT} {x : Nat} {sh : Int32} (g1 : V 0 1 = bI true) (g2 : V 0 2 = bI false) (g3 : V 0 3 = nI x) (g4 : V 0 4 = nI 0) (g5 : V 0 5 = nI 0) (g6 : V 0 6 = bI false) (g7 : V 0 7 = bI false) (g8 : V 0 8 = -1) (g9 : V 0 9 = -1) (g10 : V 0 10 = bI false) (g12 : V 0 12 = sh) (h1 : ∀ t, t < 1120 → V 1 t = 0) (h2 : ∀ t, t < 70 → V 2 t = 0) :
    mR V ((fun _ _ => 0), (true, false), (x, false, 0, false, 0), (-1, -1), (0, sh)) := by
  refine mR.mk ⟨g1, g8, g9, g12, fun t _ q => h2 t q, fun d hd i hi => ?_⟩ g2 g10 (fun h => absurd rfl h) (fun _ _ => ⟨g3, g4, g5, g6, g7⟩)
  unfold mc
  by_cases q : i < 160
  · rw [if_pos q]; exact h1 _ (by omega)
  · rw [if_neg q]; exact h2 _ (by omega)
