/-! a step of the reference -/
section MST
variable {c : Nat → Nat → Int32} {md fd : Bool} {n : Nat} {wide : Bool} {dn : Nat} {st : Bool} {num : Nat} {lost fresh : Int32} {fp : Nat} {sh : Int32} {V V1 V0 : vT} {L : List (Nat × Wr)} {p : Nat} {fl : Bool} {r : Int32} {Q' : Nat → List Wr}
theorem wa_m (h1 : V 1 = V0 1) (h0 : V 0 = V0 0) {j i : Nat} : (if dn * n + j < 32 * (n - 1) then wob (mw V) (ab (V 0 8) (V 0 9)) n wide dn st (dn * n + j) i else 0) = winw (mw V0) (ab (V0 0 8) (V0 0 9)) n wide dn st j i := by
  have e : mw V = mw V0 := by
    funext d j
    show V 1 _ = V0 1 _
    rw [h1]
  rw [e, h0]
  rfl
theorem mR_go (hH : HWt V L (decide (¬ fp = 0)) sh p fl r V1) (hR : mR V (c, (md, fd), (n, wide, dn, st, num), (lost, fresh), (fp, sh))) (e1 : md = true) (e2 : fd = false) (hfl : fl = false) (hQ : ∀ d, QEq (qOf L d) (Q' d)) : mR V1 (eff (ab lost fresh) fl sh Q' c, (md, fd), (n, wide, dn, st, num), (lost, fresh), (fp, sh)) ∧ gQ V1 [] := by
  refine ⟨mR.mk (hH.mB hR.1 hQ) (by rw [hH.2.2.1, hfl, e2]) (by rw [hH.2.1, hfl, Bool.not_false, Bool.and_true]) (fun h => ?_) (fun _ _ => hH.mN (hR.sv e1 e2)), gQ_nil hH.2.2.2.2.1⟩
  rw [hH.2.2.2.2.2.1 11 (by decide) (by decide) (by decide) (by decide)]
  exact hR.2.2.2.1 h
theorem mR_fl {ar : Bool} {nn : Nat} {ww : Bool} {ddn : Nat} {ss : Bool} {nnum : Nat} (hH : HWt V L ar sh p fl r V1) (hm : mB V c md lost fresh sh) (hfl : fl = true) (hQ : ∀ d, QEq (qOf L d) (Q' d)) : mR V1 (eff (ab lost fresh) fl sh Q' c, (md, true), (nn, ww, ddn, ss, nnum), (lost, fresh), (0, sh)) := by
  have h := mR_end (nn := nn) (ww := ww) (ddn := ddn) (ss := ss) (nnum := nnum) (hH.mB hm hQ) hH.2.2.1 hH.2.1 (fun _ => hfl) (fun h => absurd h (by rw [hfl]; decide))
  have e : ((md, fl) : Bool × Bool) = (md, true) := by rw [hfl]
  rw [e] at h
  exact h
/-- where the window is after the stash: on both disks -/
theorem apL_stQ {D : Nat → Int32} {e : Nat} (hn : n ≠ 0) (he : e = 0 ∨ e = n) {cc : Nat → Int32} : ∀ {m j i : Nat}, j < m → i < 4 → apL (stQ D n m e) cc ((32 + j) * 4 + i) = D (j * 4 + i)
  | m + 1, j, i, hj, hi => by
    have hs : apL (stQ D n (m + 1) e) cc ((32 + j) * 4 + i) = apW (some (32 + m), fun i => D (m * 4 + i)) (apL (stQ D n m e) cc) ((32 + j) * 4 + i) := by
      show apL (qAdd (qAdd (stQ D n m) n (some (32 + m), fun i => D (m * 4 + i))) 0 (some (32 + m), fun i => D (m * 4 + i)) e) cc _ = _
      unfold qAdd
      rcases he with rfl | rfl
      · rw [if_pos rfl, if_neg (fun q => hn q.symm), apL_snoc]
      · rw [if_neg hn, if_pos rfl, apL_snoc]
    rw [hs]
    simp only [apW]
    by_cases q : j = m
    · subst q
      rw [if_pos (by omega)]
      congr 1
      omega
    · rw [if_neg (by omega)]
      exact apL_stQ hn he (by omega) hi
theorem eff_in {out : Int32} {Qf : Nat → List Wr} {d : Nat} (ho : ¬ nI d = out) (j : Nat) : eff out false sh Qf c d j = apL (Qf d) (c d) j := by
  unfold eff wdn
  rw [if_neg ho, if_neg (by decide), List.take_length]
theorem apL_mkQ_word {b : Nat → Int32} {k d j : Nat} {cc : Nat → Int32} (hj : j < 160) : apL (mkQ b k d) cc j = cc j := by
  unfold mkQ
  split
  · show (if mp (b 0) ≤ j ∧ j < mp (b 0) + 5 then _ else cc j) = cc j
    have := mp_or (b 0)
    rw [if_neg (by omega)]
  · rfl
theorem sd_out {out : Int32} (hn3 : 3 ≤ n) (hn6 : n ≤ 6) : ¬ nI (sd out n) = out := by
  unfold sd
  split
  · rename_i h
    rw [h, nI_eq (by decide) (by omega)]
    omega
  · rename_i h
    exact fun q => h q.symm
/-- the reference reads the window again, from the stash: it finds what the class still has -/
theorem restash {out : Int32} {b : Nat → Int32} {k : Nat} (hn3 : 3 ≤ n) (hn5 : n < 6) (D : Nat → Int32) (hD : ∀ j i, j < n → i < 4 → D (j * 4 + i) = winw c out n true dn false j i) {j i : Nat} (hj : j < n) (hi : i < 4) :
    winw (eff out false sh (mkQ b k) (eff out false sh (stQ D n n) c)) out n true dn true j i = D (j * 4 + i) := by
  unfold winw
  by_cases q : dn * n + j < 32 * (n - 1)
  · rw [if_pos q, wob, if_pos ((plc2_iff (fun h => h)).mpr ⟨rfl, by omega, by omega⟩), eff_in (sd_out hn3 (by omega)), apL_mkQ_word (by omega), eff_in (sd_out hn3 (by omega)), show dn * n + j - dn * n = j by omega]
    exact apL_stQ (by omega) (by unfold sd; split <;> simp) hj hi
  · rw [if_neg q, hD j i hj hi, winw, if_neg q]
theorem stQ_snoc {D : Nat → Int32} {m : Nat} {b1 b2 : Nat → Int32} (hQ : ∀ d, QEq (qOf L d) (stQ D n m d)) (h1 : ∀ i, i < 4 → b1 i = D (m * 4 + i)) (h2 : ∀ i, i < 4 → b2 i = D (m * 4 + i)) (d : Nat) : QEq (qOf ((L ++ [(n, (some (32 + m), b1))]) ++ [(0, (some (32 + m), b2))]) d) (stQ D n (m + 1) d) := by
  rw [qOf_snoc]
  refine qAdd_QEq ?_ ⟨rfl, fun i _ h => h.elim (fun q => absurd q (by simp)) (fun q => h2 i q)⟩
  rw [qOf_snoc]
  exact qAdd_QEq (hQ d) ⟨rfl, fun i _ h => h.elim (fun q => absurd q (by simp)) (fun q => h1 i q)⟩
theorem lyQ_snoc {D : Nat → Int32} {k m : Nat} {b1 : Nat → Int32} (hQ : ∀ d, QEq (qOf L d) (lyQ D k dn m d)) (h1 : ∀ i, i < 4 → b1 i = D (m * 4 + i)) (d : Nat) : QEq (qOf (L ++ [(dd k dn m, (some dn, b1))]) d) (lyQ D k dn (m + 1) d) := by
  rw [qOf_snoc]
  exact qAdd_QEq (hQ d) ⟨rfl, fun i _ h => h.elim (fun q => absurd q (by simp)) (fun q => h1 i q)⟩
theorem lyQQ_snoc {D : Nat → Int32} {b1 : Nat → Int32} (hQ : ∀ d, QEq (qOf L d) (lyQ D (n + 1) dn n d)) (h1 : ∀ i, i < 4 → b1 i = xa (fun e => D (e * 4 + i)) n) (d : Nat) : QEq (qOf (L ++ [(pd (n + 1) dn, (some dn, b1))]) d) (lyQQ D n dn d) := by
  rw [qOf_snoc]
  exact qAdd_QEq (hQ d) ⟨rfl, fun i _ h => h.elim (fun q => absurd q (by simp)) (fun q => h1 i q)⟩
end MST
