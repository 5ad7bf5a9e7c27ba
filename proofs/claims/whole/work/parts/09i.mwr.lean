/-! the reference's writing calls -/
section MW
variable {c : Nat → Nat → Int32} {md fd : Bool} {n : Nat} {wide : Bool} {dn : Nat} {st : Bool} {num : Nat} {lost fresh : Int32} {fp : Nat} {sh : Int32} {V V1 V0 : vT} {a : AS} {L : List (Nat × Wr)} {ar : Bool} {p : Nat} {fl : Bool} {r : Int32}
theorem mR.frame (h : mR V a) (h1 : V1 1 = V 1) (h2 : V1 2 = V 2) (h0 : ∀ j, j ≤ 12 → V1 0 j = V 0 j) : mR V1 a := ⟨h.1.frame h1 h2 (fun j hj => h0 j (by omega)), by rw [h0 2 (by decide)]; exact h.2.1, by rw [h0 10 (by decide)]; exact h.2.2.1, by rw [h0 11 (by decide)]; exact h.2.2.2.1, fun e1 e2 => (h.2.2.2.2 e1 e2).frame (fun j h3 h4 => h0 j (by omega))⟩
theorem HWt.mB (h : HWt V L ar sh p fl r V1) (hm : mB V c md lost fresh sh) {Q' : Nat → List Wr} (hQ : ∀ d, QEq (qOf L d) (Q' d)) : mB V1 (eff (ab lost fresh) fl sh Q' c) md lost fresh sh := by
  obtain ⟨-, h10, h2, h13, h16, hj, h89, hz, hc⟩ := h
  refine ⟨by rw [hj 1 (by decide) (by decide) (by decide) (by decide)]; exact hm.1, by rw [hj 8 (by decide) (by decide) (by decide) (by decide)]; exact hm.2.1, by rw [hj 9 (by decide) (by decide) (by decide) (by decide)]; exact hm.2.2.1, by rw [hj 12 (by decide) (by decide) (by decide) (by decide)]; exact hm.2.2.2.1, fun t h3 h4 => by rw [hz t h3]; exact hm.2.2.2.2.1 t h3 h4, fun d hd i hi => ?_⟩
  rw [hc d hd i hi, hm.2.1, hm.2.2.1]
  exact eff_QEq (hQ d) (hm.2.2.2.2.2 d hd i hi)
theorem HWt.mN (h : HWt V L ar sh p fl r V1) (hm : mN V n wide dn st num) : mN V1 n wide dn st num := hm.frame (fun j h3 h4 => h.2.2.2.2.2.1 j (by omega) (by omega) (by omega) (by omega))
theorem hfl_t (ar : Bool) (p : Nat) (fa : Int32) : hfl ar p fa true = ar := by unfold hfl; rw [Bool.or_true, Bool.and_true]
theorem hfl_f {fa : Int32} (hfa : ¬ fp = 0 → fa = nI fp) (hfp : fp < 2 ^ 31) (hp : p < 100) : hfl (decide (¬ fp = 0)) p fa false = decide (fp = p + 1) := by
  unfold hfl
  rw [Bool.or_false]
  by_cases q : fp = 0
  · rw [decide_eq_false (by simpa using q), Bool.false_and, decide_eq_false (by omega)]
  · rw [decide_eq_true q, Bool.true_and, hfa q]
    by_cases q2 : fp = p + 1
    · rw [decide_eq_true q2, decide_eq_true (by rw [q2])]
    · rw [decide_eq_false q2, decide_eq_false (fun h => q2 ((nI_eq (by omega) hfp).mp h).symm)]
theorem told_m (h1 : V 1 = V0 1) (h0 : V 0 = V0 0) {k row d i : Nat} : told (mw V) (ab (V 0 8) (V 0 9)) k row d i = told (mw V0) (ab (V0 0 8) (V0 0 9)) k row d i := by
  have e : mw V = mw V0 := by
    funext d j
    show V 1 _ = V0 1 _
    rw [h1]
  rw [e, h0]
/-- what power does to a call's flags -/
theorem mR_end {nn : Nat} {ww : Bool} {ddn : Nat} {ss : Bool} {nnum : Nat} (h1 : mB V c md lost fresh sh) (h2 : V 0 2 = bI fl) (h10 : V 0 10 = bI (ar && !fl)) (ha : ar = true → fl = true) (h5 : fl = false → mN V nn ww ddn ss nnum) : mR V (c, (md, fl), (nn, ww, ddn, ss, nnum), (lost, fresh), (0, sh)) := by
  refine mR.mk h1 h2 ?_ (fun h => absurd rfl h) (fun _ e => h5 e)
  rw [h10]
  cases ar
  · rfl
  · rw [ha rfl]; rfl
end MW
