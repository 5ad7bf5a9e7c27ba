/-! the law's loop -/
theorem and15 (y : Int32) : ∃ k, k < 16 ∧ y &&& nI 15 = nI k := by
  refine ⟨y.toBitVec.toNat % 16, Nat.mod_lt _ (by decide), ?_⟩
  apply Int32.toBitVec_inj.mp
  apply BitVec.eq_of_toNat_eq
  show (y.toBitVec &&& (nI 15).toBitVec).toNat = (BitVec.ofNat 32 (y.toBitVec.toNat % 16)).toNat
  rw [BitVec.toNat_and, BitVec.toNat_ofNat, show (nI 15).toBitVec.toNat = 2 ^ 4 - 1 from rfl, Nat.and_two_pow_sub_one_eq_mod]
  exact (Nat.mod_eq_of_lt (Nat.lt_trans (Nat.mod_lt _ (by decide)) (by decide))).symm
theorem len4 {L i : Nat} (hL : L ≤ 4096) (hi : i ≤ 4096) : nI L - nI 4 < nI i ↔ L < i + 4 := by
  by_cases h : 4 ≤ L
  · rw [pk_sub h, nI_ltI (by omega) (by omega)]
    omega
  · refine ⟨fun _ => by omega, fun _ => ?_⟩
    have h1 : nI L - nI 4 < 0 := by
      rcases (show L = 0 ∨ L = 1 ∨ L = 2 ∨ L = 3 by omega) with rfl | rfl | rfl | rfl <;> decide
    have h2 : ¬ nI i < 0 := nI_pos (by omega)
    rw [Int32.lt_iff_toInt_lt] at h1 h2 ⊢
    omega
set_option maxHeartbeats 4000000 in
set_option maxRecDepth 100000 in
theorem law_loop {p : Program} {l : Launch} {e : Env} {s : State} {m : MethodId} {below : List Frame} {meth : Method} {c : Code} {b L : Nat} {xs : Nat → Int32} {D : va_G} {cI cD cL : ClassId} {ad bd : Nat → Nat} {o : Nat} (hlt : l.stackTraces = false) (hx : p.tables.exec = Jvm.exec) (hb : c.code = cL_law) (hts : ∀ w ∈ wsL_law, w.before #[Value.ref b] s = true) (hown : s.vm.findClass RL = some m.cls) (hml : c.maxLocals = 7) (hX : va_X b L xs s s.heap) (hbl : b < s.heap.size) (hK : kK D cI cD s) (hKL : va_K D vwCl [(cL, .long)] s) (hT9 : kT s) (hZ : kZ (fun q => s.heap.size ≤ q) s s.heap) (hN : kN s) (hD : lD ad bd o s.heap.size) (hL : L ≤ 2048) (hr : meth.sig.returnType = ret) (hlocks : meth.locks = false) : ∀ (n i : Nat) (V M : vT) (f : Nat → Int64) (a : AS) (H : Heap) (locs : List Loc) (ls : Array Slot), L ≤ i + 4 * n + 3 → i ≤ L → cR V a → mR M a → WF (i / 2) a → lS D cI cD cL ad bd o s.heap V M f H locs → lv_has ls 7 [(4, .int (nI i)), (3, .ref o), (2, .ref (bd 0)), (1, .ref (ad 0)), (0, .ref b)] → W p l e room_1 s m #[Value.ref b] below meth c H locs (60 + i) (3000 + 6 * i) (lw_Z below #[Value.ref b] s) (F0 m 23 ls []) := by
  have hbA : ¬ (fun q : Nat => s.heap.size ≤ q) b := Nat.not_le.mpr hbl
  intro n
  induction n with
  | zero =>
    intro i V M f a H locs ls hn hiL hR hM hWF hS hl
    refine lv_iload hx hb dL_law_23 (lv_at hl 0 rfl) ?_
    refine lv_aload_n hx hb dL_law_25 rfl (lv_at hl 4 rfl) ?_
    refine va_slen hx hb hX hbl hbA hS.2.2.2 dL_law_26 ?_
    refine lv_iconst (v := nI 4) hx hb dL_law_27 (by decide) ?_
    refine lv_isub hx hb dL_law_28 ?_
    refine lv_icmp_gt (tgt := 925) hx hb dL_law_29 (by decide) (fun c9 => ?_) (fun c9 => ?_)
    · refine lv_iconst (v := 1) hx hb dL_law_925 (by decide) ?_
      refine va_forget (fun q hq => hS.2.2.2.2.2 q hq) ?_
      refine W.widen (k := 601024) (n := 7293034) (by omega) (by omega) ?_
      exact lw_ret hx hb hr hlocks dL_law_926
    · exact absurd ((len4 (by omega) (by omega)).mpr (by omega)) c9
  | succ n ih =>
    intro i V M f a H locs ls hn hiL hR hM hWF hS hl
    refine lv_iload hx hb dL_law_23 (lv_at hl 0 rfl) ?_
    refine lv_aload_n hx hb dL_law_25 rfl (lv_at hl 4 rfl) ?_
    refine va_slen hx hb hX hbl hbA hS.2.2.2 dL_law_26 ?_
    refine lv_iconst (v := nI 4) hx hb dL_law_27 (by decide) ?_
    refine lv_isub hx hb dL_law_28 ?_
    refine lv_icmp_gt (tgt := 925) hx hb dL_law_29 (by decide) (fun c9 => ?_) (fun c9 => ?_)
    · refine lv_iconst (v := 1) hx hb dL_law_925 (by decide) ?_
      refine va_forget (fun q hq => hS.2.2.2.2.2 q hq) ?_
      refine W.widen (k := 601024) (n := 7293034) (by omega) (by omega) ?_
      exact lw_ret hx hb hr hlocks dL_law_926
    · have hi : i + 4 ≤ L := Nat.not_lt.mp (fun h => c9 ((len4 (by omega) (by omega)).mpr h))
      have hnext : ∀ (V1 M1 : vT) (f1 : Nat → Int64) (a1 : AS) (H1 : Heap) (locs1 : List Loc) (ls1 : Array Slot), cR V1 a1 → mR M1 a1 → WF (i / 2 + 2) a1 → lS D cI cD cL ad bd o s.heap V1 M1 f1 H1 locs1 → lv_has ls1 7 [(4, .int (nI i)), (3, .ref o), (2, .ref (bd 0)), (1, .ref (ad 0)), (0, .ref b)] → W p l e room_1 s m #[Value.ref b] below meth c H1 locs1 (60 + i + 4) (3000 + 6 * i + 24) (lw_Z below #[Value.ref b] s) (F0 m 919 ls1 []) := by
        intro V1 M1 f1 a1 H1 locs1 ls1 k1 k2 k3 k4 k5
        refine lv_iinc (v := nI (i + 4)) (lv' := [(4, .int (nI (i + 4))), (3, .ref o), (2, .ref (bd 0)), (1, .ref (ad 0)), (0, .ref b)]) hx hb dL_law_919 k5 (k := 0) rfl (nI_add _ _) (by decide) rfl (fun ls hl => ?_)
        refine lv_goto (tgt := 23) hx hb dL_law_922 (by decide) ?_
        refine W.widen (k := 60 + (i + 4)) (n := 3000 + 6 * (i + 4)) (by omega) (by omega) ?_
        exact ih (i + 4) V1 M1 f1 a1 H1 locs1 ls (by omega) hi k1 k2 ((show (i + 4) / 2 = i / 2 + 2 by omega) ▸ k3) k4 hl
      refine lv_aload_n hx hb dL_law_32 rfl (lv_at hl 4 rfl) ?_
      refine lv_iload hx hb dL_law_33 (lv_at hl 0 rfl) ?_
      refine va_sld hx hb hX hbl hbA hS.2.2.2 (vp_in_nI (show i < L by omega) (by omega)) dL_law_35 ?_
      refine lv_bipush (v := nI 15) hx hb dL_law_36 (by decide) ?_
      refine lv_iand hx hb dL_law_38 ?_
      obtain ⟨k, hk16, hk⟩ := and15 (xs (nI i).toNatClampNeg)
      refine n_is hk ?_
      rcases (show k = 0 ∨ k = 1 ∨ k = 2 ∨ k = 3 ∨ k = 4 ∨ k = 5 ∨ k = 6 ∨ k = 7 ∨ k = 8 ∨ k = 9 ∨ k = 10 ∨ k = 11 ∨ k = 12 ∨ k = 13 ∨ k = 14 ∨ k = 15 by omega) with rfl | rfl | rfl | rfl | rfl | rfl | rfl | rfl | rfl | rfl | rfl | rfl | rfl | rfl | rfl | rfl
      · refine lv_tableIn (x := nI 0) (off := 73) (tgt := 112) hx hb dL_law_39 (by decide) (by decide) (by decide) (by decide) ?_
        exact lc_0 hlt hx hb hts hown hml hX hbl hK hKL hT9 hZ hN hD hL hi (by omega) hR hM hWF (by omega) (by omega) hS hl hnext
      · refine lv_tableIn (x := nI 1) (off := 129) (tgt := 168) hx hb dL_law_39 (by decide) (by decide) (by decide) (by decide) ?_
        exact lc_1 hlt hx hb hts hown hml hX hbl hK hKL hT9 hZ hN hD hL hi (by omega) hR hM hWF (by omega) (by omega) hS hl hnext
      · refine lv_tableIn (x := nI 2) (off := 216) (tgt := 255) hx hb dL_law_39 (by decide) (by decide) (by decide) (by decide) ?_
        exact lc_2 hlt hx hb hts hown hml hX hbl hK hKL hT9 hZ hN hD hL hi (by omega) hR hM hWF (by omega) (by omega) hS hl hnext
      · refine lv_tableIn (x := nI 3) (off := 284) (tgt := 323) hx hb dL_law_39 (by decide) (by decide) (by decide) (by decide) ?_
        exact lc_3 hlt hx hb hts hown hml hX hbl hK hKL hT9 hZ hN hD hL hi (by omega) hR hM hWF (by omega) (by omega) hS hl hnext
      · refine lv_tableIn (x := nI 4) (off := 328) (tgt := 367) hx hb dL_law_39 (by decide) (by decide) (by decide) (by decide) ?_
        exact lc_4 hlt hx hb hts hown hml hX hbl hK hKL hT9 hZ hN hD hL hi (by omega) hR hM hWF (by omega) (by omega) hS hl hnext
      · refine lv_tableIn (x := nI 5) (off := 372) (tgt := 411) hx hb dL_law_39 (by decide) (by decide) (by decide) (by decide) ?_
        exact lc_5 hlt hx hb hts hown hml hX hbl hK hKL hT9 hZ hN hD hL hi (by omega) hR hM hWF (by omega) (by omega) hS hl hnext
      · refine lv_tableIn (x := nI 6) (off := 408) (tgt := 447) hx hb dL_law_39 (by decide) (by decide) (by decide) (by decide) ?_
        exact lc_6 hlt hx hb hts hown hml hX hbl hK hKL hT9 hZ hN hD hL hi (by omega) hR hM hWF (by omega) (by omega) hS hl hnext
      · refine lv_tableIn (x := nI 7) (off := 452) (tgt := 491) hx hb dL_law_39 (by decide) (by decide) (by decide) (by decide) ?_
        exact lc_7 hlt hx hb hts hown hml hX hbl hK hKL hT9 hZ hN hD hL hi (by omega) hR hM hWF (by omega) (by omega) hS hl hnext
      · refine lv_tableIn (x := nI 8) (off := 496) (tgt := 535) hx hb dL_law_39 (by decide) (by decide) (by decide) (by decide) ?_
        exact lc_8 hlt hx hb hts hown hml hX hbl hK hKL hT9 hZ hN hD hL hi (by omega) hR hM hWF (by omega) (by omega) hS hl hnext
      · refine lv_tableIn (x := nI 9) (off := 544) (tgt := 583) hx hb dL_law_39 (by decide) (by decide) (by decide) (by decide) ?_
        exact lc_9 hlt hx hb hts hown hml hX hbl hK hKL hT9 hZ hN hD hL hi (by omega) hR hM hWF (by omega) (by omega) hS hl hnext
      · refine lv_tableIn (x := nI 10) (off := 588) (tgt := 627) hx hb dL_law_39 (by decide) (by decide) (by decide) (by decide) ?_
        exact lc_10 hlt hx hb hts hown hml hX hbl hK hKL hT9 hZ hN hD hL hi (by omega) hR hM hWF (by omega) (by omega) hS hl hnext
      · refine lv_tableIn (x := nI 11) (off := 651) (tgt := 690) hx hb dL_law_39 (by decide) (by decide) (by decide) (by decide) ?_
        exact lc_11 hlt hx hb hts hown hml hX hbl hK hKL hT9 hZ hN hD hL hi (by omega) hR hM hWF (by omega) (by omega) hS hl hnext
      · refine lv_tableIn (x := nI 12) (off := 707) (tgt := 746) hx hb dL_law_39 (by decide) (by decide) (by decide) (by decide) ?_
        exact lc_12 hlt hx hb hts hown hml hX hbl hK hKL hT9 hZ hN hD hL hi (by omega) hR hM hWF (by omega) (by omega) hS hl hnext
      · refine lv_tableIn (x := nI 13) (off := 787) (tgt := 826) hx hb dL_law_39 (by decide) (by decide) (by decide) (by decide) ?_
        exact lc_13 hlt hx hb hts hown hml hX hbl hK hKL hT9 hZ hN hD hL hi (by omega) hR hM hWF (by omega) (by omega) hS hl hnext
      · refine lv_tableIn (x := nI 14) (off := 855) (tgt := 894) hx hb dL_law_39 (by decide) (by decide) (by decide) (by decide) ?_
        exact lc_14 hlt hx hb hts hown hml hX hbl hK hKL hT9 hZ hN hD hL hi (by omega) hR hM hWF (by omega) (by omega) hS hl hnext
      · refine lv_tableOut (x := nI 15) (tgt := 919) hx hb dL_law_39 (Or.inr (by decide)) (by decide) ?_
        refine W.widen (k := 60 + i + 4) (n := 3000 + 6 * i + 24) (by omega) (by omega) ?_
        exact hnext V M f a H locs ls hR hM (WF.le (by omega) hWF) hS hl
