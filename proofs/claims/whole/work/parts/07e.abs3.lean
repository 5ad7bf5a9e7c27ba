theorem tsw_out {w : Int32} (h : ∀ k, k < 7 → ¬ w = nI k) : w.toInt < 0 ∨ 6 < w.toInt := by
  rcases pk_ix w (n := 7) (by decide) with q | q | ⟨j, hj, q⟩
  · exact Or.inl (by rw [Int32.lt_iff_toInt_lt] at q; exact q)
  · refine Or.inr ?_
    rw [Int32.le_iff_toInt_le, nI_toInt (by decide)] at q
    omega
  · exact absurd q (h j hj)
theorem dc_frame {V V1 : vT} {d : Nat} (h6 : V1 (6 + 7 * d) = V (6 + 7 * d)) (h7 : V1 (7 + 7 * d) = V (7 + 7 * d)) (h8 : V1 (8 + 7 * d) = V (8 + 7 * d)) (i : Nat) : dc V1 d i = dc V d i := by
  unfold dc
  rw [h6, h7, h8]
/-- changes of the object's own fields alone -/
theorem cR_own {V V1 : vT} (hS : ∀ a, a ≠ 0 → V1 a = V a) {c : Nat → Nat → Int32} {md fd : Bool} {n : Nat} {wide : Bool} {dn : Nat} {st : Bool} {num : Nat} {lost fresh lost' fresh' : Int32} {fp fp' : Nat} {sh sh' : Int32} (hR : cR V (c, (md, fd), (n, wide, dn, st, num), (lost, fresh), (fp, sh)))
    (h : V1 0 4 = bI md ∧ V1 0 5 = bI fd ∧ V1 0 6 = lost' ∧ V1 0 7 = fresh' ∧ V1 0 8 = nI fp' ∧ V1 0 9 = sh') : cR V1 (c, (md, fd), (n, wide, dn, st, num), (lost', fresh'), (fp', sh')) := by
  obtain ⟨-, -, -, -, -, -, hQ, hc⟩ := hR.pt
  refine cR.mk h (fun d hd => cQd_congr (fun a h1 h2 => hS a (by omega)) (hQ d hd)) (fun d hd i hi => ?_) (fun e1 e2 => ?_)
  · rw [dc_frame (hS _ (by omega)) (hS _ (by omega)) (hS _ (by omega))]
    exact hc d hd i hi
  · rw [hS 2 (by decide)]
    exact hR.sv e1 e2
theorem cR_lose {V V1 V2 : vT} {dd9 : Nat} (hV1 : V1 = u2 V 0 6 (nI dd9)) {c : Nat → Nat → Int32} {md fd : Bool} {n : Nat} {wide : Bool} {dn : Nat} {st : Bool} {num : Nat} {lost fresh : Int32} {fp : Nat} {sh : Int32} (hR : cR V (c, (md, fd), (n, wide, dn, st, num), (lost, fresh), (fp, sh)))
    (hp : (∀ a, a ≠ 5 + 7 * dd9 → a ≠ 6 + 7 * dd9 → a ≠ 7 + 7 * dd9 → a ≠ 8 + 7 * dd9 → V2 a = V1 a) ∧ V2 (5 + 7 * dd9) 3 = nI 0 ∧ ∀ i, i < 170 → dc V2 dd9 i = 0) {k : Nat} (hk : dd9 < k) (hk6 : k ≤ 6) : cR V2 (emp c dd9, (md, fd), (n, wide, dn, st, num), (nI dd9, fresh), (fp, sh)) := by
  obtain ⟨hmd, hfd, hlo, hfr, hfp8, hsh, hQ, hc⟩ := hR.pt
  have h0 : V2 0 = V1 0 := hp.1 0 (by omega) (by omega) (by omega) (by omega)
  refine cR.mk ⟨?_, ?_, ?_, ?_, ?_, ?_⟩ (fun d hd => ?_) (fun d hd i hi => ?_) (fun e1 e2 => ?_)
  · rw [h0, hV1, u2_n _ _ (Or.inr (by decide))]; exact hmd
  · rw [h0, hV1, u2_n _ _ (Or.inr (by decide))]; exact hfd
  · rw [h0, hV1, u2_s]
  · rw [h0, hV1, u2_n _ _ (Or.inr (by decide))]; exact hfr
  · rw [h0, hV1, u2_n _ _ (Or.inr (by decide))]; exact hfp8
  · rw [h0, hV1, u2_n _ _ (Or.inr (by decide))]; exact hsh
  · by_cases q : d = dd9
    · rw [q]; exact cQd_nil hp.2.1
    · exact cQd_congr (fun a h1 h2 => by rw [hp.1 a (by omega) (by omega) (by omega) (by omega), hV1, u2_r _ _ (by omega)]) (hQ d hd)
  · unfold emp
    by_cases q : d = dd9
    · rw [if_pos q, q]; exact hp.2.2 i hi
    · rw [if_neg q, dc_frame (V := V) (by rw [hp.1 _ (by omega) (by omega) (by omega) (by omega), hV1, u2_r _ _ (by omega)]) (by rw [hp.1 _ (by omega) (by omega) (by omega) (by omega), hV1, u2_r _ _ (by omega)]) (by rw [hp.1 _ (by omega) (by omega) (by omega) (by omega), hV1, u2_r _ _ (by omega)])]
      exact hc d hd i hi
  · rw [hp.1 2 (by omega) (by omega) (by omega) (by omega), hV1, u2_r _ _ (by decide)]
    exact hR.sv e1 e2
