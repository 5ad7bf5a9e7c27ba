set_option maxHeartbeats 4000000 in
set_option maxRecDepth 100000 in
theorem lp_X2_fetchRow_i {p : Program} {l : Launch} {e : Env} {s : State} {m : MethodId} {args : Array Value} {below : List Frame} {meth : Method} {c : Code} {Q : State → Prop} {D : va_G} {cI cD : ClassId} {ad : Nat → Nat} (hx : p.tables.exec = Jvm.exec) (hb : c.code = cX2_fetchRow) (hts : ∀ w ∈ wsX2_fetchRow, w.before args s = true) (hown : s.vm.findClass RX2 = some m.cls) (hml : c.maxLocals = 5) (hK : kK D cI cD s) (V0 : vT) (k row : Nat) (hk3 : 3 ≤ k) (hk6 : k ≤ 6) (hrow : row < 40) (j : Nat) (hj : j < k - 1) (hk : ∀ (V1 : vT) (H1 : Heap) (locs1 : List Loc) (ls : Array Slot), ((∀ a, a ≠ 3 → V1 a = V0 a) ∧ ∀ j1 i1, j1 < j + 1 → i1 < 4 → V1 3 (j1 * 4 + i1) = told (cw V0) (ab (V0 0 6) (V0 0 7)) k row (dd k row j1) i1) → wS D 47 ad (cF cI cD ad) s.heap V1 H1 locs1 → lv_has ls 5 [(3, .int (nI j)), (0, .ref (ad 0)), (1, .int (nI k)), (2, .int (nI row))] → W p l e ({ frames := 3, cells := 0, slots := 0, locals := 72 }) s m args below meth c H1 locs1 0 0 Q (F0 m 49 ls [])) : ∀ (n i : Nat) (V : vT) (H : Heap) (locs : List Loc) (ls : Array Slot), (i + n = 4) → ((∀ a, a ≠ 3 → V a = V0 a) ∧ ∀ j1 i1, (j1 < j ∨ (j1 = j ∧ i1 < i)) → i1 < 4 → V 3 (j1 * 4 + i1) = told (cw V0) (ab (V0 0 6) (V0 0 7)) k row (dd k row j1) i1) → wS D 47 ad (cF cI cD ad) s.heap V H locs → lv_has ls 5 [(4, .int (nI i)), (3, .int (nI j)), (0, .ref (ad 0)), (1, .int (nI k)), (2, .int (nI row))] → W p l e ({ frames := 3, cells := 0, slots := 0, locals := 72 }) s m args below meth c H locs 0 0 Q (F0 m 12 ls []) := by
  have hi2 : ∀ w ∈ wsX20, w ∈ wsX2_fetchRow := by decide +kernel
  intro n
  induction n with
  | zero =>
    intro i V H locs ls hjn hin hw hl
    refine lv_iload hx hb dX2_fetchRow_12 (lv_at hl 0 rfl) ?_
    refine lv_iconst (v := nI 4) hx hb dX2_fetchRow_14 (by decide) ?_
    refine n_icmp_ge (tgt := 49) hx hb dX2_fetchRow_15 (by decide) (by omega) (by omega) (fun c_15 => ?_) (fun c_15 => ?_)
    · have e1 : i = 4 := by omega
      subst e1
      exact hk V H locs ls ⟨hin.1, fun j1 i1 h1 h2 => hin.2 j1 i1 (by omega) h2⟩ hw (lv_sub hl [1, 2, 3, 4] rfl)
    · exfalso
      omega
  | succ n ih =>
    intro i V H locs ls hjn hin hw hl
    refine lv_iload hx hb dX2_fetchRow_12 (lv_at hl 0 rfl) ?_
    refine lv_iconst (v := nI 4) hx hb dX2_fetchRow_14 (by decide) ?_
    refine n_icmp_ge (tgt := 49) hx hb dX2_fetchRow_15 (by decide) (by omega) (by omega) (fun c_15 => ?_) (fun c_15 => ?_)
    · exfalso
      omega
    · refine lv_aload_n hx hb dX2_fetchRow_18 rfl (lv_at hl 2 rfl) ?_
      refine w_get (ci := 2) (C := RX2) (T := TX2) (M := 10) (v := .ref (ad 3)) hx hb hts hi2 hown hK hw 0 (by omega) _ (cF_0 _) rfl 2 (by decide) (hts (.fieldLink RX2 22 "WideningArray" "data" "[I") (by decide +kernel)) rfl dX2_fetchRow_19 ?_
      refine lv_iload_n hx hb dX2_fetchRow_22 rfl (lv_at hl 1 rfl) ?_
      refine lv_iconst (v := nI 4) hx hb dX2_fetchRow_23 (by decide) ?_
      refine n_mul hx hb dX2_fetchRow_24 ?_
      refine lv_iload hx hb dX2_fetchRow_25 (lv_at hl 0 rfl) ?_
      refine n_add hx hb dX2_fetchRow_27 ?_
      refine lv_aload_n hx hb dX2_fetchRow_28 rfl (lv_at hl 2 rfl) ?_
      refine lv_iload_n hx hb dX2_fetchRow_29 rfl (lv_at hl 3 rfl) ?_
      refine lv_iload_n hx hb dX2_fetchRow_30 rfl (lv_at hl 4 rfl) ?_
      refine lv_iload_n hx hb dX2_fetchRow_31 rfl (lv_at hl 3 rfl) ?_
      refine lv_iload_n hx hb dX2_fetchRow_32 rfl (lv_at hl 4 rfl) ?_
      refine lv_iload_n hx hb dX2_fetchRow_33 rfl (lv_at hl 1 rfl) ?_
      refine w_calli hw (va_runS (As := [.int (nI k), .int (nI row), .int (nI j)]) (rest := [.int (nI row), .int (nI k), .ref (ad 0), .int (nI ((j * 4) + i)), .ref (ad 3)]) ⟨hx, hb, hml, hown, hts⟩ (c_X2_dataDisk l D cI cD ad _ V k row j (by omega) (by omega) (by omega) (by omega)) (va_cwS 3 hts gX2_fetchRow_X2_dataDisk rfl rfl rfl (by decide +kernel) ⟨Nat.le_of_ble_eq_true rfl, Nat.le_of_ble_eq_true rfl⟩) (w_preS hK hw _) rfl rfl hl.1 rfl (lv_room (Nat.le_of_ble_eq_true rfl)) dX2_fetchRow_34 ⟨Nat.le_of_ble_eq_true rfl, Nat.le_of_ble_eq_true rfl⟩) (fun r_2 V_1 H locs hp hw => ?_)
      obtain ⟨e9, e8⟩ := hp
      subst e9
      subst e8
      refine lv_iload hx hb dX2_fetchRow_37 (lv_at hl 0 rfl) ?_
      refine w_calli hw (va_runV (As := [.int (nI k), .int (nI row), .int (nI (dd k row j)), .int (nI i)]) (rest := [.int (nI ((j * 4) + i)), .ref (ad 3)]) ⟨hx, hb, hml, hown, hts⟩ (c_X2_wordTold l D cI cD ad _ V k row (dd k row j) i (by omega) (by omega) (by have := dd_lt (k := k) (row := row) (j := j) (by omega); omega) (by omega)) (cwV 4 hts gX2_fetchRow_X2_wordTold rfl rfl rfl (by decide +kernel) ⟨Nat.le_of_ble_eq_true rfl, Nat.le_of_ble_eq_true rfl⟩) (w_preV hK hw (by omega) (cF_0 _) rfl _) rfl rfl hl.1 rfl (lv_room (Nat.le_of_ble_eq_true rfl)) dX2_fetchRow_39 ⟨Nat.le_of_ble_eq_true rfl, Nat.le_of_ble_eq_true rfl⟩) (fun r_4 V_3 H locs hp hw => ?_)
      obtain ⟨e9, e8⟩ := hp
      subst e9
      subst e8
      refine w_iast hx hb hK hw 3 24 (by omega) (cF_3) (i := (j * 4) + i) (by omega) (by decide) dX2_fetchRow_42 (fun H locs hw => ?_)
      obtain ⟨V_5, hV_5⟩ : ∃ z : vT, z = u2 V 3 ((j * 4) + i) (told (cw V) (ab (V 0 6) (V 0 7)) k row (dd k row j) i) := ⟨_, rfl⟩
      rw [← hV_5] at hw
      refine lv_iinc (v := nI (i + 1)) (lv' := [(4, .int (nI (i + 1))), (3, .int (nI j)), (0, .ref (ad 0)), (1, .int (nI k)), (2, .int (nI row))]) hx hb dX2_fetchRow_43 hl (k := 0) rfl (nI_1 _) (by decide) rfl (fun ls hl => ?_)
      refine lv_goto (tgt := 12) hx hb dX2_fetchRow_46 (by decide) ?_
      have hcw : cw V = cw V0 := by funext d9 j9; show V (6 + 7 * d9) j9 = V0 (6 + 7 * d9) j9; rw [hin.1 _ (by omega)]
      have hin' : (∀ a, a ≠ 3 → V_5 a = V0 a) ∧ ∀ j1 i1, (j1 < j ∨ (j1 = j ∧ i1 < i + 1)) → i1 < 4 → V_5 3 (j1 * 4 + i1) = told (cw V0) (ab (V0 0 6) (V0 0 7)) k row (dd k row j1) i1 := by
        rw [hcw, hin.1 0 (by decide)] at hV_5
        refine ⟨fun a ha => by rw [hV_5, u2_r _ _ ha]; exact hin.1 a ha, fun j1 i1 h1 h2 => ?_⟩
        by_cases e2 : j1 = j ∧ i1 = i
        · rw [e2.1, e2.2, hV_5, u2_s]
        · rw [hV_5, u2_n _ _ (Or.inr (by omega))]
          exact hin.2 j1 i1 (by omega) h2
      exact ih (i + 1) _ _ _ ls (by omega) hin' hw (lv_sub hl [0, 1, 2, 3, 4] rfl)
set_option maxHeartbeats 4000000 in
set_option maxRecDepth 100000 in
theorem lp_X2_fetchRow {p : Program} {l : Launch} {e : Env} {s : State} {m : MethodId} {args : Array Value} {below : List Frame} {meth : Method} {c : Code} {Q : State → Prop} {D : va_G} {cI cD : ClassId} {ad : Nat → Nat} (hx : p.tables.exec = Jvm.exec) (hb : c.code = cX2_fetchRow) (hts : ∀ w ∈ wsX2_fetchRow, w.before args s = true) (hown : s.vm.findClass RX2 = some m.cls) (hml : c.maxLocals = 5) (hK : kK D cI cD s) (V0 : vT) (k row : Nat) (hk3 : 3 ≤ k) (hk6 : k ≤ 6) (hrow : row < 40) (hk : ∀ (V1 : vT) (H1 : Heap) (locs1 : List Loc) (ls : Array Slot), ((∀ a, a ≠ 3 → V1 a = V0 a) ∧ ∀ j1 i1, j1 < k - 1 → i1 < 4 → V1 3 (j1 * 4 + i1) = told (cw V0) (ab (V0 0 6) (V0 0 7)) k row (dd k row j1) i1) → wS D 47 ad (cF cI cD ad) s.heap V1 H1 locs1 → lv_has ls 5 [(0, .ref (ad 0))] → W p l e ({ frames := 3, cells := 0, slots := 0, locals := 72 }) s m args below meth c H1 locs1 0 0 Q (F0 m 55 ls [])) : ∀ (n j : Nat) (V : vT) (H : Heap) (locs : List Loc) (ls : Array Slot), (j + n = k - 1) → ((∀ a, a ≠ 3 → V a = V0 a) ∧ ∀ j1 i1, j1 < j → i1 < 4 → V 3 (j1 * 4 + i1) = told (cw V0) (ab (V0 0 6) (V0 0 7)) k row (dd k row j1) i1) → wS D 47 ad (cF cI cD ad) s.heap V H locs → lv_has ls 5 [(3, .int (nI j)), (0, .ref (ad 0)), (1, .int (nI k)), (2, .int (nI row))] → W p l e ({ frames := 3, cells := 0, slots := 0, locals := 72 }) s m args below meth c H locs 0 0 Q (F0 m 2 ls []) := by
  have hi2 : ∀ w ∈ wsX20, w ∈ wsX2_fetchRow := by decide +kernel
  intro n
  induction n with
  | zero =>
    intro j V H locs ls hjn hin hw hl
    refine lv_iload_n hx hb dX2_fetchRow_2 rfl (lv_at hl 0 rfl) ?_
    refine lv_iload_n hx hb dX2_fetchRow_3 rfl (lv_at hl 2 rfl) ?_
    refine lv_iconst (v := nI 1) hx hb dX2_fetchRow_4 (by decide) ?_
    refine n_sub hx hb dX2_fetchRow_5 (by omega) ?_
    refine n_icmp_ge (tgt := 55) hx hb dX2_fetchRow_6 (by decide) (by omega) (by omega) (fun c_6 => ?_) (fun c_6 => ?_)
    · have e1 : j = k - 1 := by omega
      subst e1
      exact hk V H locs ls hin hw (lv_sub hl [1] rfl)
    · exfalso
      omega
  | succ n ih =>
    intro j V H locs ls hjn hin hw hl
    refine lv_iload_n hx hb dX2_fetchRow_2 rfl (lv_at hl 0 rfl) ?_
    refine lv_iload_n hx hb dX2_fetchRow_3 rfl (lv_at hl 2 rfl) ?_
    refine lv_iconst (v := nI 1) hx hb dX2_fetchRow_4 (by decide) ?_
    refine n_sub hx hb dX2_fetchRow_5 (by omega) ?_
    refine n_icmp_ge (tgt := 55) hx hb dX2_fetchRow_6 (by decide) (by omega) (by omega) (fun c_6 => ?_) (fun c_6 => ?_)
    · exfalso
      omega
    · refine lv_iconst (v := nI 0) hx hb dX2_fetchRow_9 (by decide) ?_
      refine lv_istore (lv' := [(4, .int (nI 0)), (3, .int (nI j)), (0, .ref (ad 0)), (1, .int (nI k)), (2, .int (nI row))]) hx hb dX2_fetchRow_10 hl (by decide) rfl (fun ls hl => ?_)
      refine lp_X2_fetchRow_i hx hb hts hown hml hK V0 k row hk3 hk6 hrow j (by omega) (fun V_L H locs ls hin hw hl => ?_) 4 0 V _ _ ls (by omega) ⟨hin.1, fun j1 i1 h1 h2 => hin.2 j1 i1 (by omega) h2⟩ hw (lv_sub hl [0, 1, 2, 3, 4] rfl)
      refine lv_iinc (v := nI (j + 1)) (lv' := [(3, .int (nI (j + 1))), (0, .ref (ad 0)), (1, .int (nI k)), (2, .int (nI row))]) hx hb dX2_fetchRow_49 hl (k := 0) rfl (nI_1 _) (by decide) rfl (fun ls hl => ?_)
      refine lv_goto (tgt := 2) hx hb dX2_fetchRow_52 (by decide) ?_
      exact ih (j + 1) _ _ _ ls (by omega) hin hw (lv_sub hl [0, 1, 2, 3] rfl)
set_option maxHeartbeats 4000000 in
set_option maxRecDepth 100000 in
theorem c_X2_fetchRow (l : Launch) (D : va_G) (cI cD : ClassId) (ad : Nat → Nat) (sz : Nat) (V : vT) (k row : Nat) (hk3 : 3 ≤ k) (hk6 : k ≤ 6) (hrow : row < 40) : Met l yX2_fetchRow wsX2_fetchRow ({ frames := 3, cells := 0, slots := 0, locals := 72 }) (gP D cI cD 47 ad (cF cI cD ad) sz V [.ref (ad 0), .int (nI k), .int (nI row)]) (va_Qv (fun (V1 : vT) => (∀ a, a ≠ 3 → V1 a = V a) ∧ ∀ j1 i1, j1 < k - 1 → i1 < 4 → V1 3 (j1 * 4 + i1) = told (cw V) (ab (V 0 6) (V 0 7)) k row (dd k row j1) i1) (gB D 47 ad (cF cI cD ad)) (gA 47 ad sz)) 0 0 (gA 47 ad sz) := by
  refine w_met (cc := cX2_fetchRow) (maxL := 5) (ret := none) (by decide) rfl (Nat.le_of_ble_eq_true rfl) ?_
  intro p e s m below meth c hx hb hr hts hown hlocks hml hsz hK hw ls hl
  subst hsz
  have hown : s.vm.findClass RX2 = some m.cls := hown
  have hi2 : ∀ w ∈ wsX20, w ∈ wsX2_fetchRow := by decide +kernel
  have hl : lv_has ls 5 [(0, .ref (ad 0)), (1, .int (nI k)), (2, .int (nI row))] := hl
  refine lv_iconst (v := nI 0) hx hb dX2_fetchRow_0 (by decide) ?_
  refine lv_istore_n (lv' := [(3, .int (nI 0)), (0, .ref (ad 0)), (1, .int (nI k)), (2, .int (nI row))]) hx hb dX2_fetchRow_1 rfl hl (by decide) rfl (fun ls hl => ?_)
  refine lp_X2_fetchRow hx hb hts hown hml hK V k row hk3 hk6 hrow (fun V_L H locs ls hin hw hl => ?_) (k - 1) 0 V _ _ ls (by omega) ⟨fun _ _ => rfl, fun j1 i1 h1 h2 => absurd h1 (by omega)⟩ hw (lv_sub hl [0, 1, 2, 3] rfl)
  exact w_vret hx hb hr hlocks hw (hin) dX2_fetchRow_55
set_option maxHeartbeats 4000000 in
set_option maxRecDepth 100000 in
theorem lp_X2_issueParity_j {p : Program} {l : Launch} {e : Env} {s : State} {m : MethodId} {args : Array Value} {below : List Frame} {meth : Method} {c : Code} {Q : State → Prop} {D : va_G} {cI cD : ClassId} {ad : Nat → Nat} (hx : p.tables.exec = Jvm.exec) (hb : c.code = cX2_issueParity) (hts : ∀ w ∈ wsX2_issueParity, w.before args s = true) (hown : s.vm.findClass RX2 = some m.cls) (hml : c.maxLocals = 5) (hK : kK D cI cD s) (V0 : vT) (k row : Nat) (hk3 : 3 ≤ k) (hk6 : k ≤ 6) (hrow : row < 40) (i : Nat) (hi4 : i < 4) (hk : ∀ (V1 : vT) (H1 : Heap) (locs1 : List Loc) (ls : Array Slot), ((∀ a, a ≠ 4 → V1 a = V0 a) ∧ ∀ i1, i1 < i + 1 → V1 4 i1 = xa (fun e => V0 3 (e * 4 + i1)) (k - 1)) → wS D 47 ad (cF cI cD ad) s.heap V1 H1 locs1 → lv_has ls 5 [(3, .int (nI i)), (0, .ref (ad 0)), (1, .int (nI k)), (2, .int (nI row))] → W p l e ({ frames := 2, cells := 0, slots := 0, locals := 43 }) s m args below meth c H1 locs1 0 0 Q (F0 m 51 ls [])) : ∀ (n j : Nat) (V : vT) (H : Heap) (locs : List Loc) (ls : Array Slot), (j + n = k - 1) → ((∀ a, a ≠ 4 → V a = V0 a) ∧ (∀ i1, i1 < i → V 4 i1 = xa (fun e => V0 3 (e * 4 + i1)) (k - 1)) ∧ V 4 i = xa (fun e => V0 3 (e * 4 + i)) j) → wS D 47 ad (cF cI cD ad) s.heap V H locs → lv_has ls 5 [(4, .int (nI j)), (3, .int (nI i)), (0, .ref (ad 0)), (1, .int (nI k)), (2, .int (nI row))] → W p l e ({ frames := 2, cells := 0, slots := 0, locals := 43 }) s m args below meth c H locs 0 0 Q (F0 m 17 ls []) := by
  have hi2 : ∀ w ∈ wsX20, w ∈ wsX2_issueParity := by decide +kernel
  intro n
  induction n with
  | zero =>
    intro j V H locs ls hjn hin hw hl
    refine lv_iload hx hb dX2_issueParity_17 (lv_at hl 0 rfl) ?_
    refine lv_iload_n hx hb dX2_issueParity_19 rfl (lv_at hl 3 rfl) ?_
    refine lv_iconst (v := nI 1) hx hb dX2_issueParity_20 (by decide) ?_
    refine n_sub hx hb dX2_issueParity_21 (by omega) ?_
    refine n_icmp_ge (tgt := 51) hx hb dX2_issueParity_22 (by decide) (by omega) (by omega) (fun c_22 => ?_) (fun c_22 => ?_)
    · have e1 : j = k - 1 := by omega
      subst e1
      exact hk V H locs ls ⟨hin.1, fun i1 h1 => by by_cases q : i1 = i; (· rw [q]; exact hin.2.2); (· exact hin.2.1 i1 (by omega))⟩ hw (lv_sub hl [1, 2, 3, 4] rfl)
    · exfalso
      omega
  | succ n ih =>
    intro j V H locs ls hjn hin hw hl
    refine lv_iload hx hb dX2_issueParity_17 (lv_at hl 0 rfl) ?_
    refine lv_iload_n hx hb dX2_issueParity_19 rfl (lv_at hl 3 rfl) ?_
    refine lv_iconst (v := nI 1) hx hb dX2_issueParity_20 (by decide) ?_
    refine n_sub hx hb dX2_issueParity_21 (by omega) ?_
    refine n_icmp_ge (tgt := 51) hx hb dX2_issueParity_22 (by decide) (by omega) (by omega) (fun c_22 => ?_) (fun c_22 => ?_)
    · exfalso
      omega
    · refine lv_aload_n hx hb dX2_issueParity_25 rfl (lv_at hl 2 rfl) ?_
      refine w_get (ci := 2) (C := RX2) (T := TX2) (M := 10) (v := .ref (ad 4)) hx hb hts hi2 hown hK hw 0 (by omega) _ (cF_0 _) rfl 3 (by decide) (hts (.fieldLink RX2 26 "WideningArray" "parity" "[I") (by decide +kernel)) rfl dX2_issueParity_26 ?_
      refine lv_iload_n hx hb dX2_issueParity_29 rfl (lv_at hl 1 rfl) ?_
      refine lv_dup2_11 hx hb dX2_issueParity_30 rfl rfl ?_
      refine w_iald hx hb hK hw 4 4 (by omega) (cF_4) (i := i) (by omega) (by decide) dX2_issueParity_31 ?_
      refine lv_aload_n hx hb dX2_issueParity_32 rfl (lv_at hl 2 rfl) ?_
      refine w_get (ci := 2) (C := RX2) (T := TX2) (M := 10) (v := .ref (ad 3)) hx hb hts hi2 hown hK hw 0 (by omega) _ (cF_0 _) rfl 2 (by decide) (hts (.fieldLink RX2 22 "WideningArray" "data" "[I") (by decide +kernel)) rfl dX2_issueParity_33 ?_
      refine lv_iload hx hb dX2_issueParity_36 (lv_at hl 0 rfl) ?_
      refine lv_iconst (v := nI 4) hx hb dX2_issueParity_38 (by decide) ?_
      refine n_mul hx hb dX2_issueParity_39 ?_
      refine lv_iload_n hx hb dX2_issueParity_40 rfl (lv_at hl 1 rfl) ?_
      refine n_add hx hb dX2_issueParity_41 ?_
      refine w_iald hx hb hK hw 3 24 (by omega) (cF_3) (i := (j * 4) + i) (by omega) (by decide) dX2_issueParity_42 ?_
      refine lv_ixor hx hb dX2_issueParity_43 ?_
      refine w_iast hx hb hK hw 4 4 (by omega) (cF_4) (i := i) (by omega) (by decide) dX2_issueParity_44 (fun H locs hw => ?_)
      obtain ⟨V_1, hV_1⟩ : ∃ z : vT, z = u2 V 4 i ((V 4 i) ^^^ (V 3 ((j * 4) + i))) := ⟨_, rfl⟩
      rw [← hV_1] at hw
      refine lv_iinc (v := nI (j + 1)) (lv' := [(4, .int (nI (j + 1))), (3, .int (nI i)), (0, .ref (ad 0)), (1, .int (nI k)), (2, .int (nI row))]) hx hb dX2_issueParity_45 hl (k := 0) rfl (nI_1 _) (by decide) rfl (fun ls hl => ?_)
      refine lv_goto (tgt := 17) hx hb dX2_issueParity_48 (by decide) ?_
      have hin' : (∀ a, a ≠ 4 → V_1 a = V0 a) ∧ (∀ i1, i1 < i → V_1 4 i1 = xa (fun e => V0 3 (e * 4 + i1)) (k - 1)) ∧ V_1 4 i = xa (fun e => V0 3 (e * 4 + i)) (j + 1) := by
        refine ⟨fun a ha => by rw [hV_1, u2_r _ _ ha]; exact hin.1 a ha, fun i1 h1 => by rw [hV_1, u2_n _ _ (Or.inr (by omega))]; exact hin.2.1 i1 h1, ?_⟩
        rw [hV_1, u2_s, hin.2.2, hin.1 3 (by decide)]
        rfl
      exact ih (j + 1) _ _ _ ls (by omega) hin' hw (lv_sub hl [0, 1, 2, 3, 4] rfl)
set_option maxHeartbeats 4000000 in
set_option maxRecDepth 100000 in
theorem lp_X2_issueParity {p : Program} {l : Launch} {e : Env} {s : State} {m : MethodId} {args : Array Value} {below : List Frame} {meth : Method} {c : Code} {Q : State → Prop} {D : va_G} {cI cD : ClassId} {ad : Nat → Nat} (hx : p.tables.exec = Jvm.exec) (hb : c.code = cX2_issueParity) (hts : ∀ w ∈ wsX2_issueParity, w.before args s = true) (hown : s.vm.findClass RX2 = some m.cls) (hml : c.maxLocals = 5) (hK : kK D cI cD s) (V0 : vT) (k row : Nat) (hk3 : 3 ≤ k) (hk6 : k ≤ 6) (hrow : row < 40) (hk : ∀ (V1 : vT) (H1 : Heap) (locs1 : List Loc) (ls : Array Slot), ((∀ a, a ≠ 4 → V1 a = V0 a) ∧ ∀ i1, i1 < 4 → V1 4 i1 = xa (fun e => V0 3 (e * 4 + i1)) (k - 1)) → wS D 47 ad (cF cI cD ad) s.heap V1 H1 locs1 → lv_has ls 5 [(0, .ref (ad 0)), (1, .int (nI k)), (2, .int (nI row))] → W p l e ({ frames := 2, cells := 0, slots := 0, locals := 43 }) s m args below meth c H1 locs1 0 0 Q (F0 m 57 ls [])) : ∀ (n i : Nat) (V : vT) (H : Heap) (locs : List Loc) (ls : Array Slot), (i + n = 4) → ((∀ a, a ≠ 4 → V a = V0 a) ∧ ∀ i1, i1 < i → V 4 i1 = xa (fun e => V0 3 (e * 4 + i1)) (k - 1)) → wS D 47 ad (cF cI cD ad) s.heap V H locs → lv_has ls 5 [(3, .int (nI i)), (0, .ref (ad 0)), (1, .int (nI k)), (2, .int (nI row))] → W p l e ({ frames := 2, cells := 0, slots := 0, locals := 43 }) s m args below meth c H locs 0 0 Q (F0 m 2 ls []) := by
  have hi2 : ∀ w ∈ wsX20, w ∈ wsX2_issueParity := by decide +kernel
  intro n
  induction n with
  | zero =>
    intro i V H locs ls hjn hin hw hl
    refine lv_iload_n hx hb dX2_issueParity_2 rfl (lv_at hl 0 rfl) ?_
    refine lv_iconst (v := nI 4) hx hb dX2_issueParity_3 (by decide) ?_
    refine n_icmp_ge (tgt := 57) hx hb dX2_issueParity_4 (by decide) (by omega) (by omega) (fun c_4 => ?_) (fun c_4 => ?_)
    · have e1 : i = 4 := by omega
      subst e1
      exact hk V H locs ls hin hw (lv_sub hl [1, 2, 3] rfl)
    · exfalso
      omega
  | succ n ih =>
    intro i V H locs ls hjn hin hw hl
    refine lv_iload_n hx hb dX2_issueParity_2 rfl (lv_at hl 0 rfl) ?_
    refine lv_iconst (v := nI 4) hx hb dX2_issueParity_3 (by decide) ?_
    refine n_icmp_ge (tgt := 57) hx hb dX2_issueParity_4 (by decide) (by omega) (by omega) (fun c_4 => ?_) (fun c_4 => ?_)
    · exfalso
      omega
    · refine lv_aload_n hx hb dX2_issueParity_7 rfl (lv_at hl 1 rfl) ?_
      refine w_get (ci := 2) (C := RX2) (T := TX2) (M := 10) (v := .ref (ad 4)) hx hb hts hi2 hown hK hw 0 (by omega) _ (cF_0 _) rfl 3 (by decide) (hts (.fieldLink RX2 26 "WideningArray" "parity" "[I") (by decide +kernel)) rfl dX2_issueParity_8 ?_
      refine lv_iload_n hx hb dX2_issueParity_11 rfl (lv_at hl 0 rfl) ?_
      refine lv_iconst (v := nI 0) hx hb dX2_issueParity_12 (by decide) ?_
      refine w_iast hx hb hK hw 4 4 (by omega) (cF_4) (i := i) (by omega) (by decide) dX2_issueParity_13 (fun H locs hw => ?_)
      obtain ⟨V_1, hV_1⟩ : ∃ z : vT, z = u2 V 4 i (nI 0) := ⟨_, rfl⟩
      rw [← hV_1] at hw
      refine lv_iconst (v := nI 0) hx hb dX2_issueParity_14 (by decide) ?_
      refine lv_istore (lv' := [(4, .int (nI 0)), (3, .int (nI i)), (0, .ref (ad 0)), (1, .int (nI k)), (2, .int (nI row))]) hx hb dX2_issueParity_15 hl (by decide) rfl (fun ls hl => ?_)
      refine lp_X2_issueParity_j hx hb hts hown hml hK V0 k row hk3 hk6 hrow i (by omega) (fun V_L H locs ls hin hw hl => ?_) (k - 1) 0 V_1 _ _ ls (by omega) ⟨fun a ha => by rw [hV_1, u2_r _ _ ha]; exact hin.1 a ha, fun i1 h1 => by rw [hV_1, u2_n _ _ (Or.inr (by omega))]; exact hin.2 i1 h1, by rw [hV_1, u2_s]; rfl⟩ hw (lv_sub hl [0, 1, 2, 3, 4] rfl)
      refine lv_iinc (v := nI (i + 1)) (lv' := [(3, .int (nI (i + 1))), (0, .ref (ad 0)), (1, .int (nI k)), (2, .int (nI row))]) hx hb dX2_issueParity_51 hl (k := 0) rfl (nI_1 _) (by decide) rfl (fun ls hl => ?_)
      refine lv_goto (tgt := 2) hx hb dX2_issueParity_54 (by decide) ?_
      exact ih (i + 1) _ _ _ ls (by omega) hin hw (lv_sub hl [0, 1, 2, 3] rfl)
set_option maxHeartbeats 4000000 in
set_option maxRecDepth 100000 in
theorem c_X2_issueParity (l : Launch) (D : va_G) (cI cD : ClassId) (ad : Nat → Nat) (sz : Nat) (V : vT) (k row : Nat) (hk3 : 3 ≤ k) (hk6 : k ≤ 6) (hrow : row < 40) (Qf : Nat → List Wr) (hQ : cQ V Qf) (hq8 : (Qf (pd k row)).length < 8) : Met l yX2_issueParity wsX2_issueParity ({ frames := 2, cells := 0, slots := 0, locals := 43 }) (gP D cI cD 47 ad (cF cI cD ad) sz V [.ref (ad 0), .int (nI k), .int (nI row)]) (va_Qv (fun (V1 : vT) => (∀ a, a < 4 → V1 a = V a) ∧ sameD V V1 ∧ (∀ i, i < 4 → V1 4 i = xa (fun e => V 3 (e * 4 + i)) (k - 1)) ∧ cQ V1 (qAdd Qf (pd k row) (some row, fun i => xa (fun e => V 3 (e * 4 + i)) (k - 1)))) (gB D 47 ad (cF cI cD ad)) (gA 47 ad sz)) 0 0 (gA 47 ad sz) := by
  refine w_met (cc := cX2_issueParity) (maxL := 5) (ret := none) (by decide) rfl (Nat.le_of_ble_eq_true rfl) ?_
  intro p e s m below meth c hx hb hr hts hown hlocks hml hsz hK hw ls hl
  subst hsz
  have hown : s.vm.findClass RX2 = some m.cls := hown
  have hi2 : ∀ w ∈ wsX20, w ∈ wsX2_issueParity := by decide +kernel
  have hl : lv_has ls 5 [(0, .ref (ad 0)), (1, .int (nI k)), (2, .int (nI row))] := hl
  refine lv_iconst (v := nI 0) hx hb dX2_issueParity_0 (by decide) ?_
  refine lv_istore_n (lv' := [(3, .int (nI 0)), (0, .ref (ad 0)), (1, .int (nI k)), (2, .int (nI row))]) hx hb dX2_issueParity_1 rfl hl (by decide) rfl (fun ls hl => ?_)
  refine lp_X2_issueParity hx hb hts hown hml hK V k row hk3 hk6 hrow (fun V_L H locs ls hin hw hl => ?_) 4 0 V _ _ ls (by omega) ⟨fun _ _ => rfl, fun i1 h1 => absurd h1 (by omega)⟩ hw (lv_sub hl [0, 1, 2, 3] rfl)
  have hpd := pd_lt (k := k) (row := row) (by omega)
  refine lv_aload_n hx hb dX2_issueParity_57 rfl (lv_at hl 0 rfl) ?_
  refine w_get (ci := 2) (C := RX2) (T := TX2) (M := 10) (v := .ref (ad 1)) hx hb hts hi2 hown hK hw 0 (by omega) _ (cF_0 _) rfl 0 (by decide) (hts (.fieldLink RX2 11 "WideningArray" "disks" "[LWideningArray$Disk;") (by decide +kernel)) rfl dX2_issueParity_58 ?_
  refine lv_iload_n hx hb dX2_issueParity_61 rfl (lv_at hl 1 rfl) ?_
  refine lv_iload_n hx hb dX2_issueParity_62 rfl (lv_at hl 2 rfl) ?_
  refine w_calli hw (va_runS (As := [.int (nI k), .int (nI row)]) (rest := [.ref (ad 1)]) ⟨hx, hb, hml, hown, hts⟩ (c_X2_parityDisk l D cI cD ad _ V_L k row (by omega) (by omega) (by omega)) (va_cwS 2 hts gX2_issueParity_X2_parityDisk rfl rfl rfl (by decide +kernel) ⟨Nat.le_of_ble_eq_true rfl, Nat.le_of_ble_eq_true rfl⟩) (w_preS hK hw _) rfl rfl hl.1 rfl (lv_room (Nat.le_of_ble_eq_true rfl)) dX2_issueParity_63 ⟨Nat.le_of_ble_eq_true rfl, Nat.le_of_ble_eq_true rfl⟩) (fun r_2 V_1 H locs hp hw => ?_)
  obtain ⟨e9, e8⟩ := hp
  subst e9
  subst e8
  refine w_aald hx hb hK hw 1 6 (by omega) (cF_1 _) (i := pd k row) (by omega) (by decide) rfl dX2_issueParity_66 ?_
  refine lv_iload_n hx hb dX2_issueParity_67 rfl (lv_at hl 2 rfl) ?_
  refine lv_aload_n hx hb dX2_issueParity_68 rfl (lv_at hl 0 rfl) ?_
  refine w_get (ci := 2) (C := RX2) (T := TX2) (M := 10) (v := .ref (ad 4)) hx hb hts hi2 hown hK hw 0 (by omega) _ (cF_0 _) rfl 3 (by decide) (hts (.fieldLink RX2 26 "WideningArray" "parity" "[I") (by decide +kernel)) rfl dX2_issueParity_69 ?_
  refine lv_iconst (v := nI 0) hx hb dX2_issueParity_72 (by decide) ?_
  have hQ9 : cQ V_L Qf := fun d hd => cQd_congr (fun a h1 h2 => hin.1 a (by omega)) (hQ d hd)
  refine w_callv hw (va_runV (As := [.int (nI row), .ref (ad 4), .int (nI 0)]) (rest := []) ⟨hx, hb, hml, hown, hts⟩ (c_X0_issueBlock l D cI cD ad _ V_L (pd k row) (by omega) row (by omega) 4 4 (by omega) cF_4 (by omega) 0 (by omega) (by omega) (Qf (pd k row)).length (hQ9 (pd k row) (by omega)).1 hq8) (cwV 3 hts gX2_issueParity_X0_issueBlock rfl rfl rfl (by decide +kernel) ⟨Nat.le_of_ble_eq_true rfl, Nat.le_of_ble_eq_true rfl⟩) (w_preV hK hw (by omega) (cF_d0 (pd k row) _) rfl _) rfl rfl hl.1 rfl (lv_room (Nat.le_of_ble_eq_true rfl)) dX2_issueParity_73 ⟨Nat.le_of_ble_eq_true rfl, Nat.le_of_ble_eq_true rfl⟩) (fun V_3 H locs hp hw => ?_)
  exact w_vret hx hb hr hlocks hw (⟨fun a ha => (hp.1 a (by omega) (by omega) (by omega)).trans (hin.1 a (by omega)), sameD.trans (fun d hd => ⟨hin.1 _ (by omega), hin.1 _ (by omega), hin.1 _ (by omega)⟩) (sameD_block hp.1), fun i hi => by rw [hp.1 4 (by omega) (by omega) (by omega)]; exact hin.2 i hi, cQ_block hQ9 (by omega) hq8 hrow hp (fun i hi => by rw [Nat.zero_add]; exact hin.2 i hi)⟩) dX2_issueParity_76
