/-! the law's start -/
theorem str_of {own : String} {k : Nat} {tx : String} {A : Array Value} {U : State} (h : (Cond.stringRef own k tx).before A U = true) : ∃ a : Nat, (Term.string own k).eval A U none [] U = some (.ref a) := by
  simp only [Cond.before, Cond.holds, Cond.value] at h
  cases hc : U.vm.findClass own with
  | none => simp [hc] at h
  | some cur =>
    cases hk : U.vm.classes[cur]? with
    | none => simp [hc, hk, State.resolvedAt?] at h
    | some k2 =>
      cases hr : k2.resolved[k]? with
      | none => simp [hc, hk, hr, State.resolvedAt?] at h
      | some x =>
        cases x with
        | none => simp [hc, hk, hr, State.resolvedAt?] at h
        | some y =>
          cases y with
          | string a => exact ⟨a, Term.string_of_entry hc hk hr⟩
          | _ => simp [hc, hk, hr, State.resolvedAt?] at h
theorem strW_tbl : ∀ q ∈ strW, Cond.stringRef RX2 q.1 q.2 ∈ lw_tbl := by decide +kernel
/-- the words of the tables, as the contracts want them -/
theorem start_kT {A : Array Value} {s : State} (htb : ∀ w ∈ lw_tbl, w.before A s = true) : kT s :=
  ⟨fun w hw => va_tabs (thrW_tab w hw) (rfl : s.vm = s.vm) (htb w (thrW_tbl w hw)), fun q hq => by
    have h1 := htb _ (strW_tbl q hq)
    obtain ⟨a, ha⟩ := str_of h1
    exact ⟨a, vk_R.of (A := A) h1 ha⟩⟩
theorem start_kZ {b : Nat} {s : State} (htb : ∀ w ∈ lw_tbl, w.before #[Value.ref b] s = true) (hgv : (Jvm.Cond.and given_1 narrow_1).before #[Value.ref b] s = true) : kZ (fun q => s.heap.size ≤ q) s s.heap :=
  ⟨vx_Zqof (htb (.laysStatic Bundle.tN "UNASSIGNED_STACK" Bundle.steD) (by decide +kernel)) (htb (.initialized Bundle.tN) (by decide +kernel)) (flat_of_before _ hgv (.isRef (.static Bundle.tN "UNASSIGNED_STACK" Bundle.steD)) (by decide +kernel)) (fun _ h => Nat.not_le.mpr h), vx_Zqof (htb (.laysStatic Bundle.tN "SUPPRESSED_SENTINEL" Bundle.listD) (by decide +kernel)) (htb (.initialized Bundle.tN) (by decide +kernel)) (flat_of_before _ hgv (.isRef (.static Bundle.tN "SUPPRESSED_SENTINEL" Bundle.listD)) (by decide +kernel)) (fun _ h => Nat.not_le.mpr h)⟩
theorem ncW_in : ∀ q ∈ ncW, Cond.not (.castable q.1 q.2) ∈ flatC (Jvm.Cond.and given_1 narrow_1) := by decide +kernel
theorem start_kN {b : Nat} {s : State} (hgv : (Jvm.Cond.and given_1 narrow_1).before #[Value.ref b] s = true) : kN s := fun q hq => va_Nc.of (flat_of_before _ hgv _ (ncW_in q hq))
theorem start_kK {b : Nat} {s : State} (htb : ∀ w ∈ lw_tbl, w.before #[Value.ref b] s = true) : ∃ (D : va_G) (cI cD : ClassId), kK D cI cD s := by
  have hts : ∀ w ∈ wsL_law, w.before #[Value.ref b] s = true := fun w h => htb w (wsL_law_in w h)
  obtain ⟨c0, i0, h0⟩ := u_known (C := RX0) (T := TX0) (N := 7) (n := 7) hts inlX0 (hts (.instantiable RX0 7) (by decide +kernel))
  obtain ⟨c1, i1, h1⟩ := u_known (C := RX1) (T := TX1) (N := 5) (n := 5) hts inlX1 (hts (.instantiable RX1 5) (by decide +kernel))
  obtain ⟨c2, i2, h2⟩ := u_known (C := RX2) (T := TX2) (N := 10) (n := 10) hts inlX2 (hts (.instantiable RX2 10) (by decide +kernel))
  obtain ⟨c3, i3, h3⟩ := u_known (C := RX3) (T := TX3) (N := 24) (n := 24) hts inlX3 (hts (.instantiable RX3 24) (by decide +kernel))
  obtain ⟨cI, kI, pI, f1, f2, f3⟩ := Cond.arrayClass_spec (htb (.arrayClass .int) (by decide +kernel))
  obtain ⟨pD, cD, kD, d1, -, d3, d4, d5⟩ := Cond.arrayOver_spec (htb (.arrayOver (.object RX0)) (by decide +kernel))
  refine ⟨(fun k => if k = 0 then c0 else if k = 1 then c1 else if k = 2 then c2 else c3, fun k => if k = 0 then i0 else if k = 1 then i1 else if k = 2 then i2 else i3), cI, cD, ⟨fun k q hq => ?_, fun k q hq => ?_⟩, fun w hw => va_tabs (nestW_tab w hw) (rfl : s.vm = s.vm) (htb w (nestW_tbl w hw))⟩
  · match k, hq with
    | 0, hq => cases hq; exact h0
    | 1, hq => cases hq; exact h1
    | 2, hq => cases hq; exact h2
    | 3, hq => cases hq; exact h3
    | k + 4, hq => simp [vwCl] at hq
  · match k, hq with
    | 0, hq => cases hq; exact ⟨fun N z => ⟨fun k h => (by cases h), kI, f2, pI, f3⟩, f1⟩
    | 1, hq => cases hq; exact ⟨fun N z => ⟨fun k h => (by cases h), kD, d3, pD, d4⟩, kD, pD, d3, d4, d1, d5⟩
    | k + 2, hq => simp at hq
set_option maxHeartbeats 4000000 in
set_option maxRecDepth 100000 in
/-- THE LAW, from its entry -/
theorem whole_start {p : Program} {e : Env} {s : State} {m : MethodId} {below : List Frame} {meth : Method} {c : Code} (l : Launch) (hlt : l.stackTraces = false) {b L : Nat} {xs : Nat → Int32} (hL : L ≤ 2048) (C0 : lw_At p s m meth c b L xs) : W p l e room_1 s m #[Value.ref b] below meth c s.heap [] 0 0 (lw_Z below #[Value.ref b] s) (entryFrame m ([Value.ref b] : List Value).toArray 7) := by
  obtain ⟨hx, hb, hr, hml, hown, htb, hX, hbl, hlocks, hgv⟩ := id C0
  have hb : c.code = cL_law := hb
  have hown : s.vm.findClass RL = some m.cls := hown
  have hts : ∀ w ∈ wsL_law, w.before #[Value.ref b] s = true := fun w h => htb w (wsL_law_in w h)
  have hA : ∀ q : Nat, s.heap.size ≤ q → (fun q : Nat => s.heap.size ≤ q) q := fun _ h => h
  have hT9 := start_kT htb
  have hZ := start_kZ htb hgv
  have hN := start_kN hgv
  obtain ⟨D, cI, cD, hK⟩ := start_kK htb
  have hAO : va_AO RX0 s := va_AO.of (htb (.arrayOver (.object RX0)) (by decide +kernel))
  have hS : va_S (fun q : Nat => s.heap.size ≤ q) s.heap s.heap [] := va_S.rf
  have hP : va_P D vwCl [] s.heap := fun k q h => by simp at h
  have hD : va_D (fun q : Nat => s.heap.size ≤ q) [] := ⟨fun i j p q h => by simp at h, fun k q h => by simp at h⟩
  have hl := lv_entry ([.ref b]) (n := 7) (Nat.le_of_ble_eq_true rfl)
  rw [lg_entry_eq]
  generalize (lg_sl ([.ref b]) ++ List.replicate (7 - (lg_sl ([.ref b])).length) Slot.unset).toArray = ls at hl ⊢
  have hl : lv_has ls 7 [(0, .ref b)] := hl
  have hF : ∀ (x : Nat × va_E) (H : Heap), s.heap.size ≤ x.1 → s.heap.size ≤ H.size → ∀ z, va_A [x] H.size z → s.heap.size ≤ z := fun x H h1 h2 z h => by
    rcases h with ⟨i, e9, hi⟩ | h
    · have hz : i < 1 := (List.getElem?_eq_some_iff.mp hi).1
      rw [show i = 0 by omega] at hi
      cases hi
      exact h1
    · exact Nat.le_trans h2 h
  refine va_new (ci := 2) (fs := [.null, .null, .null, .null, .int 0, .int 0, .int 0, .int 0, .int 0, .int 0]) (C := RX2) (T := TX2) (N := 10) hx hb hts inlX2 tyX2 tyX2_ok hown (hts (.classLink RL 8 RX2) (by decide +kernel)) (hts (.instantiable RX2 10) (by decide +kernel)) (hts (.initialized RX2) (by decide +kernel)) hK.1 hP hD hS hA rfl dfX2 (Nat.le_of_ble_eq_true rfl) (Nat.le_of_ble_eq_true rfl) dL_law_0 (fun h0 H hP hD hS => ?_)
  refine lv_dup hx hb dL_law_3 rfl ?_
  have hFc := hF (h0, .inr (2, [.null, .null, .null, .null, .int 0, .int 0, .int 0, .int 0, .int 0, .int 0])) H (hD.2 0 (h0, .inr (2, [.null, .null, .null, .null, .int 0, .int 0, .int 0, .int 0, .int 0, .int 0])) rfl) hS.1
  refine va_callv (va_runI (As := []) (rest := [.ref h0]) ⟨hx, hb, hml, hown, hts⟩ (c_X2_init l D cI cD h0 H.size) (cwI 0 hts gL_law_X2_init rfl rfl rfl (hts (.initialized RX2) (by decide +kernel)) (hts (.methodLink RL 67 yX2_init) (by decide +kernel)) (hts (.instanceMethod yX2_init) (by decide +kernel)) rfl (by decide +kernel) ⟨Nat.le_of_ble_eq_true rfl, Nat.le_of_ble_eq_true rfl⟩) ⟨nP_blind, fun U hU hW => ⟨rfl, by rw [hU], by rw [hU]; exact P_right hP, hK.warm hW, D_one trivial, va_AO.moved hW.alike hAO⟩⟩ rfl rfl hl.1 rfl (lv_room (Nat.le_of_ble_eq_true rfl)) dL_law_4 ⟨Nat.le_of_ble_eq_true rfl, Nat.le_of_ble_eq_true rfl⟩) hS (fun z _ h => hFc z h) hFc (fun ad t9 H1 locs ht hvm he0 hB9 hz1 hk1 hS => ?_)
  rw [ht] at hB9
  have hJ := join_last hP hD hFc hk1 hB9.1 hB9.2
  clear hP hD hFc hk1 hB9 hz1 ht hvm
  subst he0
  obtain ⟨hP, hD⟩ := hJ
  rw [List.nil_append] at hP hD
  refine lv_astore_n (lv' := [(1, .ref (ad 0)), (0, .ref b)]) hx hb dL_law_7 rfl hl (by decide) rfl (fun ls hl => ?_)
  refine va_new (ci := 3) (fs := [.int 0, .int 0, .int 0, .int 0, .int 0, .int 0, .int 0, .int 0, .int 0, .int 0, .int 0, .int 0, .int 0, .int 0, .null, .null, .int 0, .null, .null, .null, .null, .null, .null, .null]) (C := RX3) (T := TX3) (N := 24) hx hb hts inlX3 tyX3 tyX3_ok hown (hts (.classLink RL 68 RX3) (by decide +kernel)) (hts (.instantiable RX3 24) (by decide +kernel)) (hts (.initialized RX3) (by decide +kernel)) hK.1 hP hD hS hA rfl dfX3 (Nat.le_of_ble_eq_true rfl) (Nat.le_of_ble_eq_true rfl) dL_law_8 (fun g0 H hP hD hS => ?_)
  refine lv_dup hx hb dL_law_11 rfl ?_
  have hFc := hF (g0, .inr (3, [.int 0, .int 0, .int 0, .int 0, .int 0, .int 0, .int 0, .int 0, .int 0, .int 0, .int 0, .int 0, .int 0, .int 0, .null, .null, .int 0, .null, .null, .null, .null, .null, .null, .null])) H (hD.2 47 (g0, .inr (3, [.int 0, .int 0, .int 0, .int 0, .int 0, .int 0, .int 0, .int 0, .int 0, .int 0, .int 0, .int 0, .int 0, .int 0, .null, .null, .int 0, .null, .null, .null, .null, .null, .null, .null])) (by rw [List.getElem?_append_right (by rw [wl_len]; omega), wl_len]; rfl)) hS.1
  refine va_callv (va_runI (As := []) (rest := [.ref g0]) ⟨hx, hb, hml, hown, hts⟩ (c_X3_init l D cI cD g0 H.size) (cwI 0 hts gL_law_X3_init rfl rfl rfl (hts (.initialized RX3) (by decide +kernel)) (hts (.methodLink RL 70 yX3_init) (by decide +kernel)) (hts (.instanceMethod yX3_init) (by decide +kernel)) rfl (by decide +kernel) ⟨Nat.le_of_ble_eq_true rfl, Nat.le_of_ble_eq_true rfl⟩) ⟨nP_blind, fun U hU hW => ⟨rfl, by rw [hU], by rw [hU]; exact P_right hP, hK.warm hW, D_one trivial, va_AO.moved hW.alike hAO⟩⟩ rfl rfl hl.1 rfl (lv_room (Nat.le_of_ble_eq_true rfl)) dL_law_12 ⟨Nat.le_of_ble_eq_true rfl, Nat.le_of_ble_eq_true rfl⟩) hS (fun z _ h => hFc z h) hFc (fun bd t9 H1 locs ht hvm he0 hB9 hz1 hk1 hS => ?_)
  rw [ht] at hB9
  have hJ := join_last hP hD hFc hk1 hB9.1 hB9.2
  clear hP hD hFc hk1 hB9 hz1 ht hvm
  subst he0
  obtain ⟨hP, hD⟩ := hJ
  refine lv_astore_n (lv' := [(2, .ref (bd 0)), (1, .ref (ad 0)), (0, .ref b)]) hx hb dL_law_15 rfl hl (by decide) rfl (fun ls hl => ?_)
  refine lv_iconst (v := nI 1) hx hb dL_law_16 (by decide) ?_
  refine va_newa (atype := .long) (ty := .long) hx hb (hts (.arrayClass .long) (by decide +kernel)) rfl hK.1 hP hD hS hA (n := nI 1) (N' := 1) (a0 := (1, .inr (.inl (fun _ => 0)))) (fun cA => vp_cell_l cA 1 (fun _ => 0)) (by decide) (by decide) (by decide) (Nat.le_of_ble_eq_true rfl) (Nat.le_of_ble_eq_true rfl) dL_law_17 (fun o cL H hKq hP hD hS => ?_)
  have hKL : va_K D vwCl [(cL, .long)] s := hKq.sub [2] rfl
  clear hKq
  refine lv_astore_n (lv' := [(3, .ref o), (2, .ref (bd 0)), (1, .ref (ad 0)), (0, .ref b)]) hx hb dL_law_19 rfl hl (by decide) rfl (fun ls hl => ?_)
  refine lv_iconst (v := nI 0) hx hb dL_law_20 (by decide) ?_
  refine lv_istore (lv' := [(4, .int (nI 0)), (3, .ref o), (2, .ref (bd 0)), (1, .ref (ad 0)), (0, .ref b)]) hx hb dL_law_21 hl (by decide) rfl (fun ls hl => ?_)
  have g1 : ∀ k, k < 47 → ((wl 47 ad (fun k => cF cI cD ad k (v0 k)) ++ wl 10 bd (fun k => mF cI bd k (m0 k))) ++ [(o, oE cL (fun _ => 0))])[k]? = some (ad k, cF cI cD ad k (v0 k)) := fun k hk => by
    rw [List.getElem?_append_left (by rw [List.length_append, wl_len, wl_len]; omega), List.getElem?_append_left (by rw [wl_len]; exact hk), wl_get hk]
  have g2 : ∀ k, k < 10 → ((wl 47 ad (fun k => cF cI cD ad k (v0 k)) ++ wl 10 bd (fun k => mF cI bd k (m0 k))) ++ [(o, oE cL (fun _ => 0))])[47 + k]? = some (bd k, mF cI bd k (m0 k)) := fun k hk => by
    rw [List.getElem?_append_left (by rw [List.length_append, wl_len, wl_len]; omega), List.getElem?_append_right (by rw [wl_len]; omega), wl_len, Nat.add_sub_cancel_left, wl_get hk]
  have g3 : ((wl 47 ad (fun k => cF cI cD ad k (v0 k)) ++ wl 10 bd (fun k => mF cI bd k (m0 k))) ++ [(o, oE cL (fun _ => 0))])[57]? = some (o, oE cL (fun _ => 0)) := by
    rw [List.getElem?_append_right (by rw [List.length_append, wl_len, wl_len]; omega), List.length_append, wl_len, wl_len]
    rfl
  have hlD : lD ad bd o s.heap.size := by
    refine ⟨⟨fun i j hi hj e9 => hD.1 i j _ _ (g1 i hi) (g1 j hj) e9, fun k hk e9 => ?_⟩, fun i j hi hj e9 => ?_, fun i j hi hj e9 => ?_, fun j hj e9 => ?_, fun k hk => hD.2 k _ (g1 k hk), fun j hj => hD.2 (47 + j) _ (g2 j hj), hD.2 57 _ g3⟩
    · have h9 := hD.1 k 57 _ _ (g1 k hk) g3 e9
      omega
    · have h9 := hD.1 (47 + i) (47 + j) _ _ (g2 i hi) (g2 j hj) e9
      omega
    · have h9 := hD.1 i (47 + j) _ _ (g1 i hi) (g2 j hj) e9
      omega
    · have h9 := hD.1 (47 + j) 57 _ _ (g2 j hj) g3 e9
      omega
  refine W.widen (k := 60 + 0) (n := 3000 + 6 * 0) (Nat.le_of_ble_eq_true rfl) (Nat.le_of_ble_eq_true rfl) ?_
  exact law_loop hlt hx hb hts hown hml hX hbl hK hKL hT9 hZ hN hlD hL hr hlocks (L + 1) 0 v0 m0 (fun _ => 0) a0 H _ ls (by omega) (Nat.zero_le _) cR_0 mR_0 WF_0 ⟨P_left (P_left hP), P_right (P_left hP), P_right hP, hS⟩ hl
