/-! rebuild and start of the reference -/
/-- the other disk of the stash -/
def sdn (d n : Nat) : Nat := if d = n then 0 else n
section MRB
variable {c : Nat → Nat → Int32} {md fd : Bool} {n : Nat} {wide : Bool} {dn : Nat} {st : Bool} {num : Nat} {lost fresh : Int32} {fp : Nat} {sh : Int32} {V V1 V2 V3 V4 V5 V6 V7 V8 : vT} {d : Nat}
theorem u5_marks {P : Nat} {x0 x1 x2 x3 x4 : Int32} {b : Nat → Int32} (e1 : V1 = u2 V 2 P x0) (e2 : V2 = u2 V1 2 (P + 1) x1) (e3 : V3 = u2 V2 2 (P + 2) x2) (e4 : V4 = u2 V3 2 (P + 3) x3) (e5 : V5 = u2 V4 2 (P + 4) x4) (h0 : b 0 = x0) (h1 : b 1 = x1) (h2 : b 2 = x2) (h3 : b 3 = x3) (h4 : b 4 = x4) :
    (∀ a, a ≠ 2 → V5 a = V a) ∧ ∀ t, V5 2 t = if P ≤ t ∧ t < P + 5 then b (t - P) else V 2 t := by
  refine ⟨fun a ha => by rw [e5, u2_r _ _ ha, e4, u2_r _ _ ha, e3, u2_r _ _ ha, e2, u2_r _ _ ha, e1, u2_r _ _ ha], fun t => ?_⟩
  by_cases q : P ≤ t ∧ t < P + 5
  · rw [if_pos q]
    rcases (show t = P ∨ t = P + 1 ∨ t = P + 2 ∨ t = P + 3 ∨ t = P + 4 by omega) with rfl | rfl | rfl | rfl | rfl
    · rw [e5, u2_n _ _ (Or.inr (by omega)), e4, u2_n _ _ (Or.inr (by omega)), e3, u2_n _ _ (Or.inr (by omega)), e2, u2_n _ _ (Or.inr (by omega)), e1, u2_s, Nat.sub_self, h0]
    · rw [e5, u2_n _ _ (Or.inr (by omega)), e4, u2_n _ _ (Or.inr (by omega)), e3, u2_n _ _ (Or.inr (by omega)), e2, u2_s, Nat.add_sub_cancel_left, h1]
    · rw [e5, u2_n _ _ (Or.inr (by omega)), e4, u2_n _ _ (Or.inr (by omega)), e3, u2_s, Nat.add_sub_cancel_left, h2]
    · rw [e5, u2_n _ _ (Or.inr (by omega)), e4, u2_s, Nat.add_sub_cancel_left, h3]
    · rw [e5, u2_s, Nat.add_sub_cancel_left, h4]
  · rw [if_neg q, e5, u2_n _ _ (Or.inr (by omega)), e4, u2_n _ _ (Or.inr (by omega)), e3, u2_n _ _ (Or.inr (by omega)), e2, u2_n _ _ (Or.inr (by omega)), e1, u2_n _ _ (Or.inr (by omega))]
theorem mR_rebuild (hR : mR V (c, (md, fd), (n, wide, dn, st, num), (lost, fresh), (fp, sh))) (e1 : md = true) (e2 : fd = false) (hd : d < 6) (hn3 : 3 ≤ n) (hn6 : n ≤ 6) (hwn : wide = true → n < 6) (hsw : st = true → wide = true) (hnum : num < 2 ^ 31)
    (h1 : (∀ a, a ≠ 1 → a ≠ 8 → V1 a = V a) ∧ ∀ t, V1 1 t = if 160 * d ≤ t ∧ t < 160 * d + 160 then rbw (mw V) n wide dn st d 32 (t - 160 * d) else V 1 t)
    (h2 : (∀ a, a ≠ 1 → V2 a = V1 a) ∧ ∀ t, V2 1 t = if (st = true ∧ (d = 0 ∨ d = n)) ∧ 160 * d + 128 ≤ t ∧ t < 160 * d + 128 + 4 * n then V1 1 (160 * sdn d n + (t - 160 * d)) else V1 1 t)
    (h3 : (∀ a, a ≠ 2 → V3 a = V2 a) ∧ ∀ t, V3 2 t = if 10 * d + 5 * (num % 2) ≤ t ∧ t < 10 * d + 5 * (num % 2) + 5 then mkb num n wide dn st (t - (10 * d + 5 * (num % 2))) else V2 2 t)
    (h4 : V4 = u2 V3 0 9 (-1)) : mR V4 (rbc c n wide dn st num d, (md, fd), (n, wide, dn, st, num), (lost, -1), (fp, sh)) := by
  obtain ⟨⟨hmd, hlo, hfr, hsh, hz6, hmc⟩, hfd, har, hfa⟩ := hR.pt
  have hwc := wc_M hR.1
  have g0 : ∀ j, j ≠ 9 → V4 0 j = V 0 j := fun j hj => by rw [h4, u2_n _ _ (Or.inr hj), h3.1 0 (by decide), h2.1 0 (by decide), h1.1 0 (by decide) (by decide)]
  have g1 : V4 1 = V2 1 := by rw [h4, u2_r _ _ (by decide), h3.1 1 (by decide)]
  have g2 : ∀ t, V4 2 t = if 10 * d + 5 * (num % 2) ≤ t ∧ t < 10 * d + 5 * (num % 2) + 5 then mkb num n wide dn st (t - (10 * d + 5 * (num % 2))) else V 2 t := fun t => by rw [h4, u2_r _ _ (by decide), h3.2 t, h2.1 2 (by decide), h1.1 2 (by decide) (by decide)]
  refine mR.mk ⟨by rw [g0 1 (by decide)]; exact hmd, by rw [g0 8 (by decide)]; exact hlo, by rw [h4, u2_s], by rw [g0 12 (by decide)]; exact hsh, fun t q1 q2 => by rw [g2 t, if_neg (by omega)]; exact hz6 t q1 q2, fun e he i hi => ?_⟩ (by rw [g0 2 (by decide)]; exact hfd) (by rw [g0 10 (by decide)]; exact har) (by rw [g0 11 (by decide)]; exact hfa) (fun _ _ => (hR.sv e1 e2).frame (fun j _ _ => g0 j (by omega)))
  unfold rbc
  by_cases q : e = d
  · subst q
    rw [if_pos rfl]
    simp only [apW]
    rw [show mkb num n wide dn st 0 = nI num from rfl, mp_nI hnum]
    by_cases q1 : i < 160
    · rw [if_neg (by omega)]
      unfold mc
      rw [if_pos q1, g1, h2.2]
      unfold rbd sdn
      by_cases q3 : st = true ∧ (e = 0 ∨ e = n) ∧ 128 ≤ i ∧ i < 128 + n * 4
      · have hn5 := hwn (hsw q3.1)
        rw [if_pos ⟨⟨q3.1, q3.2.1⟩, by omega, by omega⟩, if_pos q3, Nat.add_sub_cancel_left, h1.2]
        by_cases q4 : e = n
        · rw [if_pos q4, if_neg (by omega)]
          exact hwc 0 (by omega) i q1
        · rw [if_neg q4, if_neg (by omega)]
          exact hwc n (by omega) i q1
      · rw [if_neg (fun h => q3 ⟨h.1.1, h.1.2, by omega, by omega⟩), if_neg q3, h1.2, if_pos (by omega), Nat.add_sub_cancel_left]
        exact rbw_congr hwc hd hn6 hwn q1
    · unfold mc
      rw [if_neg q1, g2]
      by_cases q2 : 160 + 5 * (num % 2) ≤ i ∧ i < 160 + 5 * (num % 2) + 5
      · rw [if_pos q2, if_pos (by omega)]
        exact congrArg (mkb num n wide dn st) (by omega)
      · rw [if_neg q2, if_neg (by omega)]
        have e3 : rbd c n wide dn st e i = c e i := by
          unfold rbd rbw
          rw [if_neg (by omega), if_neg (by omega)]
        rw [e3, ← hmc e he i hi]
        unfold mc
        rw [if_neg q1]
  · rw [if_neg q, ← hmc e he i hi]
    unfold mc
    by_cases q1 : i < 160
    · rw [if_pos q1, if_pos q1, g1, h2.2, if_neg (by omega), h1.2, if_neg (by omega)]
    · rw [if_neg q1, if_neg q1, g2, if_neg (by omega)]
theorem bst_1 (f : Nat → Int32) : bst f 1 = 0 := by
  show (if f (bst f 0) < f 0 then 0 else bst f 0) = 0
  split <;> rfl
/-- the highest marks of fourteen places -/
theorem bst_14 {B : Nat} (hB : B < 10000) (hR : mB V c md lost fresh sh) (hm : ∀ q, q < 12 → mOK B (q / 2) (mkA c q)) (hx : ∃ q, q < 12 ∧ ∃ x, x ≠ 0 ∧ x ≤ B ∧ mkA c q 0 = nI x) : bst (fun q => V 2 (5 * q)) 14 = stq c ∧ ∀ j, j < 5 → V 2 (5 * stq c + j) = mkA c (stq c) j := by
  have hq : ∀ q j, q < 12 → j < 5 → V 2 (5 * q + j) = mkA c q j := fun q j hq hj => by
    unfold mkA
    rw [← hR.2.2.2.2.2 (q / 2) (by omega) (160 + 5 * (q % 2) + j) (by omega)]
    unfold mc
    rw [if_neg (by omega)]
    exact congrArg (V 2) (by omega)
  have h12 : bst (fun q => V 2 (5 * q)) 12 = stq c := bst_congr1 (fun p hp => hq p 0 (by omega) (by decide))
  have hpos : ∀ k, 12 ≤ k → k < 14 → ¬ V 2 (5 * stq c) < V 2 (5 * k) := fun k h1 h2 => by
    rw [hR.2.2.2.2.1 (5 * k) (by omega) (by omega)]
    obtain ⟨x, n', w', dn', st', h0, hx1, hxB, -⟩ := stq_ok hB hm hx
    have h9 := hq (stq c) 0 stq_lt (by decide)
    rw [h0] at h9
    rw [show V 2 (5 * stq c) = nI x from h9]
    exact nI_pos (by omega)
  have h13 : bst (fun q => V 2 (5 * q)) 13 = stq c := by
    rw [bst_no (f := fun q => V 2 (5 * q)) (q := 12) (by rw [h12]; exact hpos 12 (by decide) (by decide)), h12]
  refine ⟨?_, fun j hj => hq _ j stq_lt hj⟩
  rw [bst_no (f := fun q => V 2 (5 * q)) (q := 13) (by rw [h13]; exact hpos 13 (by decide) (by decide)), h13]
theorem mR_start {n' dn' x : Nat} {w' st' : Bool} (hR : mR V (c, (md, fd), (n, wide, dn, st, num), (lost, fresh), (fp, sh))) (hn6 : n' ≤ 6) (hwn : w' = true → n' < 6) (g2 : V1 0 2 = bI false) (g : mN V1 n' w' dn' st' x) (g0 : ∀ j, j = 1 ∨ 8 ≤ j → V1 0 j = V 0 j) (h1 : ∀ a, a ≠ 0 → V1 a = V a)
    (h3 : (∀ a, a ≠ 1 → V3 a = V1 a) ∧ ∀ d, d < 6 → ∀ i, i < 160 → V3 1 (160 * d + i) = mnd (mw V1) n' w' dn' st' 32 d i) : mR V3 (mnd c n' w' dn' st' 32, (md, false), (n', w', dn', st', x), (lost, fresh), (fp, sh)) := by
  obtain ⟨⟨hmd, hlo, hfr, hsh, hz6, hmc⟩, hfd, har, hfa⟩ := hR.pt
  have h30 : V3 0 = V1 0 := h3.1 0 (by decide)
  have hwc : wc c (mw V1) := fun d hd j hj => by
    show V1 1 (160 * d + j) = _
    rw [h1 1 (by decide)]
    exact wc_M hR.1 d hd j hj
  refine mR.mk ⟨by rw [h30, g0 1 (by decide)]; exact hmd, by rw [h30, g0 8 (by decide)]; exact hlo, by rw [h30, g0 9 (by decide)]; exact hfr, by rw [h30, g0 12 (by decide)]; exact hsh, by rw [h3.1 2 (by decide), h1 2 (by decide)]; exact hz6, fun e he i hi => ?_⟩ (by rw [h30]; exact g2) (by rw [h30, g0 10 (by decide)]; exact har) (by rw [h30, g0 11 (by decide)]; exact hfa) (fun _ _ => g.frame (fun j _ _ => by rw [h30]))
  unfold mc
  by_cases q : i < 160
  · rw [if_pos q, h3.2 e he i q]
    exact mnd_congr hwc he hn6 hwn q
  · rw [if_neg q, h3.1 2 (by decide), h1 2 (by decide)]
    have e3 : mnd c n' w' dn' st' 32 e i = c e i := by
      unfold mnd
      rw [if_neg (by omega)]
    rw [e3, ← hmc e he i hi]
    unfold mc
    rw [if_neg q]
end MRB
