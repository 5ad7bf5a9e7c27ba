set_option maxHeartbeats 4000000 in
set_option maxRecDepth 100000 in
theorem lp_X3_mend_j {p : Program} {l : Launch} {e : Env} {s : State} {m : MethodId} {args : Array Value} {below : List Frame} {meth : Method} {c : Code} {Q : State → Prop} {D : va_G} {cI cD : ClassId} {ad : Nat → Nat} (hx : p.tables.exec = Jvm.exec) (hb : c.code = cX3_mend) (hts : ∀ w ∈ wsX3_mend, w.before args s = true) (hown : s.vm.findClass RX3 = some m.cls) (hml : c.maxLocals = 7) (hK : kK D cI cD s) {V : vT} (k row q9 : Nat) (hk6 : k ≤ 6) (hrow : row < 40) (hq6 : q9 < 6) (i : Nat) (hi4 : i < 4) (hk : ∀ (H1 : Heap) (locs1 : List Loc) (ls : Array Slot), wS D 10 ad (mF cI ad) s.heap V H1 locs1 → lv_has ls 7 [(5, .int (xr (fun e => mw V e (row * 4 + i)) q9 k)), (4, .int (nI i)), (3, .int (nI q9)), (1, .int (nI k)), (2, .int (nI row)), (0, .ref (ad 0))] → W p l e ({ frames := 1, cells := 0, slots := 0, locals := 22 }) s m args below meth c H1 locs1 0 0 Q (F0 m 62 ls [])) : ∀ (n j : Nat) (H : Heap) (locs : List Loc) (ls : Array Slot), j + n = k → wS D 10 ad (mF cI ad) s.heap V H locs → lv_has ls 7 [(6, .int (nI j)), (5, .int (xr (fun e => mw V e (row * 4 + i)) q9 j)), (4, .int (nI i)), (3, .int (nI q9)), (1, .int (nI k)), (2, .int (nI row)), (0, .ref (ad 0))] → W p l e ({ frames := 1, cells := 0, slots := 0, locals := 22 }) s m args below meth c H locs 0 0 Q (F0 m 21 ls []) := by
  have hi3 : ∀ w ∈ wsX30, w ∈ wsX3_mend := by decide +kernel
  intro n
  induction n with
  | zero =>
    intro j H locs ls hjn hw hl
    refine lv_iload hx hb dX3_mend_21 (lv_at hl 0 rfl) ?_
    refine lv_iload_n hx hb dX3_mend_23 rfl (lv_at hl 4 rfl) ?_
    refine n_icmp_ge (tgt := 62) hx hb dX3_mend_24 (by decide) (by omega) (by omega) (fun c_24 => ?_) (fun c_24 => ?_)
    · have e1 : j = k := by omega
      subst e1
      exact hk H locs ls hw (lv_sub hl [1, 2, 3, 4, 5, 6] rfl)
    · exfalso
      omega
  | succ n ih =>
    intro j H locs ls hjn hw hl
    refine lv_iload hx hb dX3_mend_21 (lv_at hl 0 rfl) ?_
    refine lv_iload_n hx hb dX3_mend_23 rfl (lv_at hl 4 rfl) ?_
    refine n_icmp_ge (tgt := 62) hx hb dX3_mend_24 (by decide) (by omega) (by omega) (fun c_24 => ?_) (fun c_24 => ?_)
    · exfalso
      omega
    · refine lv_iload hx hb dX3_mend_27 (lv_at hl 0 rfl) ?_
      refine lv_iload_n hx hb dX3_mend_29 rfl (lv_at hl 3 rfl) ?_
      refine n_icmp_ne (tgt := 38) hx hb dX3_mend_30 (by decide) (by omega) (by omega) (fun c_30 => ?_) (fun c_30 => ?_)
      · have e2 : xr (fun e => mw V e (row * 4 + i)) q9 (j + 1) = xr (fun e => mw V e (row * 4 + i)) q9 j ^^^ mw V j (row * 4 + i) := by rw [xr, if_neg c_30]
        refine lv_iload hx hb dX3_mend_38 (lv_at hl 1 rfl) ?_
        refine lv_aload_n hx hb dX3_mend_40 rfl (lv_at hl 6 rfl) ?_
        refine w_get (ci := 3) (C := RX3) (T := TX3) (M := 24) (v := .ref (ad 1)) hx hb hts hi3 hown hK hw 0 (by omega) _ (mF_0 _) rfl 14 (by decide) (hts (.fieldLink RX3 16 "WideningArrayModel" "words" "[I") (by decide +kernel)) rfl dX3_mend_41 ?_
        refine lv_iload hx hb dX3_mend_44 (lv_at hl 0 rfl) ?_
        refine lv_iload_n hx hb dX3_mend_46 rfl (lv_at hl 5 rfl) ?_
        refine lv_iload hx hb dX3_mend_47 (lv_at hl 2 rfl) ?_
        refine w_calli hw (va_runS (As := [.int (nI j), .int (nI row), .int (nI i)]) (rest := [.ref (ad 1), .int (xr (fun e => mw V e (row * 4 + i)) q9 j)]) ⟨hx, hb, hml, hown, hts⟩ (c_X3_at l D cI cD ad _ V j row i) (va_cwS 3 hts gX3_mend_X3_at rfl rfl rfl (by decide +kernel) ⟨Nat.le_of_ble_eq_true rfl, Nat.le_of_ble_eq_true rfl⟩) (w_preS hK hw _) rfl rfl hl.1 rfl (lv_room (Nat.le_of_ble_eq_true rfl)) dX3_mend_49 ⟨Nat.le_of_ble_eq_true rfl, Nat.le_of_ble_eq_true rfl⟩) (fun r_2 V_1 H locs hp hw => ?_)
        obtain ⟨e9, e8⟩ := hp
        subst e9
        subst e8
        refine w_iald hx hb hK hw 1 1120 (by omega) (fun _ => rfl) (i := 160 * j + 4 * row + i) (by omega) (by decide) dX3_mend_52 ?_
        refine n_is (show V 1 (160 * j + 4 * row + i) = mw V j (row * 4 + i) from congrArg (V 1) (by omega)) ?_
        refine lv_ixor hx hb dX3_mend_53 ?_
        refine lv_istore (lv' := [(5, .int ((xr (fun e => mw V e (row * 4 + i)) q9 j) ^^^ (mw V j (row * 4 + i)))), (6, .int (nI j)), (4, .int (nI i)), (3, .int (nI q9)), (1, .int (nI k)), (2, .int (nI row)), (0, .ref (ad 0))]) hx hb dX3_mend_54 hl (by decide) rfl (fun ls hl => ?_)
        refine lv_iinc (v := nI (j + 1)) (lv' := [(6, .int (nI (j + 1))), (5, .int ((xr (fun e => mw V e (row * 4 + i)) q9 j) ^^^ (mw V j (row * 4 + i)))), (4, .int (nI i)), (3, .int (nI q9)), (1, .int (nI k)), (2, .int (nI row)), (0, .ref (ad 0))]) hx hb dX3_mend_56 hl (k := 1) rfl (nI_1 _) (by decide) rfl (fun ls hl => ?_)
        refine lv_goto (tgt := 21) hx hb dX3_mend_59 (by decide) ?_
        rw [← e2] at hl
        exact ih (j + 1) _ _ ls (by omega) hw (lv_sub hl [0, 1, 2, 3, 4, 5, 6] rfl)
      · have e2 : xr (fun e => mw V e (row * 4 + i)) q9 (j + 1) = xr (fun e => mw V e (row * 4 + i)) q9 j := by rw [xr, if_pos c_30]
        refine lv_iload hx hb dX3_mend_33 (lv_at hl 1 rfl) ?_
        refine lv_goto (tgt := 54) hx hb dX3_mend_35 (by decide) ?_
        refine lv_istore (lv' := [(5, .int (xr (fun e => mw V e (row * 4 + i)) q9 j)), (6, .int (nI j)), (4, .int (nI i)), (3, .int (nI q9)), (1, .int (nI k)), (2, .int (nI row)), (0, .ref (ad 0))]) hx hb dX3_mend_54 hl (by decide) rfl (fun ls hl => ?_)
        refine lv_iinc (v := nI (j + 1)) (lv' := [(6, .int (nI (j + 1))), (5, .int (xr (fun e => mw V e (row * 4 + i)) q9 j)), (4, .int (nI i)), (3, .int (nI q9)), (1, .int (nI k)), (2, .int (nI row)), (0, .ref (ad 0))]) hx hb dX3_mend_56 hl (k := 1) rfl (nI_1 _) (by decide) rfl (fun ls hl => ?_)
        refine lv_goto (tgt := 21) hx hb dX3_mend_59 (by decide) ?_
        rw [← e2] at hl
        exact ih (j + 1) _ _ ls (by omega) hw (lv_sub hl [0, 1, 2, 3, 4, 5, 6] rfl)
set_option maxHeartbeats 4000000 in
set_option maxRecDepth 100000 in
theorem lp_X3_mend {p : Program} {l : Launch} {e : Env} {s : State} {m : MethodId} {args : Array Value} {below : List Frame} {meth : Method} {c : Code} {Q : State → Prop} {D : va_G} {cI cD : ClassId} {ad : Nat → Nat} (hx : p.tables.exec = Jvm.exec) (hb : c.code = cX3_mend) (hts : ∀ w ∈ wsX3_mend, w.before args s = true) (hown : s.vm.findClass RX3 = some m.cls) (hml : c.maxLocals = 7) (hK : kK D cI cD s) (V0 : vT) (k row q9 : Nat) (hk6 : k ≤ 6) (hrow : row < 40) (hq6 : q9 < 6) (hk : ∀ (V1 : vT) (H1 : Heap) (locs1 : List Loc) (ls : Array Slot), ((∀ a, a ≠ 1 → V1 a = V0 a) ∧ ∀ t, V1 1 t = if 160 * q9 + 4 * row ≤ t ∧ t < 160 * q9 + 4 * row + 4 then xr (fun e => mw V0 e (t - 160 * q9)) q9 k else V0 1 t) → wS D 10 ad (mF cI ad) s.heap V1 H1 locs1 → lv_has ls 7 [(0, .ref (ad 0))] → W p l e ({ frames := 1, cells := 0, slots := 0, locals := 22 }) s m args below meth c H1 locs1 0 0 Q (F0 m 82 ls [])) : ∀ (n i : Nat) (V : vT) (H : Heap) (locs : List Loc) (ls : Array Slot), (i + n = 4) → ((∀ a, a ≠ 1 → V a = V0 a) ∧ ∀ t, V 1 t = if 160 * q9 + 4 * row ≤ t ∧ t < 160 * q9 + 4 * row + i then xr (fun e => mw V0 e (t - 160 * q9)) q9 k else V0 1 t) → wS D 10 ad (mF cI ad) s.heap V H locs → lv_has ls 7 [(4, .int (nI i)), (3, .int (nI q9)), (1, .int (nI k)), (2, .int (nI row)), (0, .ref (ad 0))] → W p l e ({ frames := 1, cells := 0, slots := 0, locals := 22 }) s m args below meth c H locs 0 0 Q (F0 m 9 ls []) := by
  have hi3 : ∀ w ∈ wsX30, w ∈ wsX3_mend := by decide +kernel
  intro n
  induction n with
  | zero =>
    intro i V H locs ls hjn hin hw hl
    refine lv_iload hx hb dX3_mend_9 (lv_at hl 0 rfl) ?_
    refine lv_iconst (v := nI 4) hx hb dX3_mend_11 (by decide) ?_
    refine n_icmp_ge (tgt := 82) hx hb dX3_mend_12 (by decide) (by omega) (by omega) (fun c_12 => ?_) (fun c_12 => ?_)
    · have e1 : i = 4 := by omega
      subst e1
      exact hk V H locs ls hin hw (lv_sub hl [4] rfl)
    · exfalso
      omega
  | succ n ih =>
    intro i V H locs ls hjn hin hw hl
    refine lv_iload hx hb dX3_mend_9 (lv_at hl 0 rfl) ?_
    refine lv_iconst (v := nI 4) hx hb dX3_mend_11 (by decide) ?_
    refine n_icmp_ge (tgt := 82) hx hb dX3_mend_12 (by decide) (by omega) (by omega) (fun c_12 => ?_) (fun c_12 => ?_)
    · exfalso
      omega
    · refine lv_iconst (v := nI 0) hx hb dX3_mend_15 (by decide) ?_
      refine lv_istore (lv' := [(5, .int (nI 0)), (4, .int (nI i)), (3, .int (nI q9)), (1, .int (nI k)), (2, .int (nI row)), (0, .ref (ad 0))]) hx hb dX3_mend_16 hl (by decide) rfl (fun ls hl => ?_)
      refine lv_iconst (v := nI 0) hx hb dX3_mend_18 (by decide) ?_
      refine lv_istore (lv' := [(6, .int (nI 0)), (5, .int (nI 0)), (4, .int (nI i)), (3, .int (nI q9)), (1, .int (nI k)), (2, .int (nI row)), (0, .ref (ad 0))]) hx hb dX3_mend_19 hl (by decide) rfl (fun ls hl => ?_)
      refine lp_X3_mend_j hx hb hts hown hml hK k row q9 hk6 hrow hq6 i (by omega) (fun H locs ls hw hl => ?_) k 0 _ _ ls (by omega) hw (lv_sub hl [0, 1, 2, 3, 4, 5, 6] rfl)
      refine lv_aload_n hx hb dX3_mend_62 rfl (lv_at hl 5 rfl) ?_
      refine w_get (ci := 3) (C := RX3) (T := TX3) (M := 24) (v := .ref (ad 1)) hx hb hts hi3 hown hK hw 0 (by omega) _ (mF_0 _) rfl 14 (by decide) (hts (.fieldLink RX3 16 "WideningArrayModel" "words" "[I") (by decide +kernel)) rfl dX3_mend_63 ?_
      refine lv_iload_n hx hb dX3_mend_66 rfl (lv_at hl 2 rfl) ?_
      refine lv_iload_n hx hb dX3_mend_67 rfl (lv_at hl 4 rfl) ?_
      refine lv_iload hx hb dX3_mend_68 (lv_at hl 1 rfl) ?_
      refine w_calli hw (va_runS (As := [.int (nI q9), .int (nI row), .int (nI i)]) (rest := [.ref (ad 1)]) ⟨hx, hb, hml, hown, hts⟩ (c_X3_at l D cI cD ad _ V q9 row i) (va_cwS 3 hts gX3_mend_X3_at rfl rfl rfl (by decide +kernel) ⟨Nat.le_of_ble_eq_true rfl, Nat.le_of_ble_eq_true rfl⟩) (w_preS hK hw _) rfl rfl hl.1 rfl (lv_room (Nat.le_of_ble_eq_true rfl)) dX3_mend_70 ⟨Nat.le_of_ble_eq_true rfl, Nat.le_of_ble_eq_true rfl⟩) (fun r_2 V_1 H locs hp hw => ?_)
      obtain ⟨e9, e8⟩ := hp
      subst e9
      subst e8
      refine lv_iload hx hb dX3_mend_73 (lv_at hl 0 rfl) ?_
      refine w_iast hx hb hK hw 1 1120 (by omega) (fun _ => rfl) (i := 160 * q9 + 4 * row + i) (by omega) (by decide) dX3_mend_75 (fun H locs hw => ?_)
      obtain ⟨V_3, hV_3⟩ : ∃ z : vT, z = u2 V 1 (160 * q9 + 4 * row + i) (xr (fun e => mw V e (row * 4 + i)) q9 k) := ⟨_, rfl⟩
      rw [← hV_3] at hw
      refine lv_iinc (v := nI (i + 1)) (lv' := [(4, .int (nI (i + 1))), (5, .int (xr (fun e => mw V e (row * 4 + i)) q9 k)), (3, .int (nI q9)), (1, .int (nI k)), (2, .int (nI row)), (0, .ref (ad 0))]) hx hb dX3_mend_76 hl (k := 1) rfl (nI_1 _) (by decide) rfl (fun ls hl => ?_)
      refine lv_goto (tgt := 9) hx hb dX3_mend_79 (by decide) ?_
      have hin' : (∀ a, a ≠ 1 → V_3 a = V0 a) ∧ ∀ t, V_3 1 t = if 160 * q9 + 4 * row ≤ t ∧ t < 160 * q9 + 4 * row + (i + 1) then xr (fun e => mw V0 e (t - 160 * q9)) q9 k else V0 1 t := by
        refine ⟨fun a ha => by rw [hV_3, u2_r _ _ ha]; exact hin.1 a ha, fun t => ?_⟩
        by_cases z : t = 160 * q9 + 4 * row + i
        · rw [z, hV_3, u2_s, if_pos (by omega)]
          refine xr_congr (fun e he hne => ?_)
          show V 1 (160 * e + (row * 4 + i)) = V0 1 (160 * e + (160 * q9 + 4 * row + i - 160 * q9))
          rw [hin.2, if_neg (by omega)]
          exact congrArg (V0 1) (by omega)
        · rw [hV_3, u2_n _ _ (Or.inr z), hin.2 t]
          by_cases z2 : 160 * q9 + 4 * row ≤ t ∧ t < 160 * q9 + 4 * row + i
          · rw [if_pos z2, if_pos (by omega)]
          · rw [if_neg z2, if_neg (by omega)]
      exact ih (i + 1) _ _ _ ls (by omega) hin' hw (lv_sub hl [0, 2, 3, 4, 5] rfl)
set_option maxHeartbeats 4000000 in
set_option maxRecDepth 100000 in
theorem c_X3_mend (l : Launch) (D : va_G) (cI cD : ClassId) (ad : Nat → Nat) (sz : Nat) (V : vT) (k row : Nat) (hk0 : 0 < k) (hk6 : k ≤ 6) (hrow : row < 40) : Met l yX3_mend wsX3_mend ({ frames := 1, cells := 0, slots := 0, locals := 22 }) (gP D cI cD 10 ad (mF cI ad) sz V [.ref (ad 0), .int (nI k), .int (nI row)]) (va_Qv (fun (V1 : vT) => (∀ a, a ≠ 1 → V1 a = V a) ∧ ∀ t, V1 1 t = if 160 * (pd k row) + 4 * row ≤ t ∧ t < 160 * (pd k row) + 4 * row + 4 then xr (fun e => mw V e (t - 160 * (pd k row))) (pd k row) k else V 1 t) (gB D 10 ad (mF cI ad)) (gA 10 ad sz)) 0 0 (gA 10 ad sz) := by
  refine w_met (cc := cX3_mend) (maxL := 7) (ret := none) (by decide) rfl (Nat.le_of_ble_eq_true rfl) ?_
  intro p e s m below meth c hx hb hr hts hown hlocks hml hsz hK hw ls hl
  subst hsz
  have hown : s.vm.findClass RX3 = some m.cls := hown
  have hi3 : ∀ w ∈ wsX30, w ∈ wsX3_mend := by decide +kernel
  have hl : lv_has ls 7 [(0, .ref (ad 0)), (1, .int (nI k)), (2, .int (nI row))] := hl
  refine lv_iload_n hx hb dX3_mend_0 rfl (lv_at hl 1 rfl) ?_
  refine lv_iload_n hx hb dX3_mend_1 rfl (lv_at hl 2 rfl) ?_
  refine w_calli hw (va_runS (As := [.int (nI k), .int (nI row)]) (rest := []) ⟨hx, hb, hml, hown, hts⟩ (c_X3_parityDisk l D cI cD ad _ V k row (by omega) (by omega) (by omega)) (va_cwS 2 hts gX3_mend_X3_parityDisk rfl rfl rfl (by decide +kernel) ⟨Nat.le_of_ble_eq_true rfl, Nat.le_of_ble_eq_true rfl⟩) (w_preS hK hw _) rfl rfl hl.1 rfl (lv_room (Nat.le_of_ble_eq_true rfl)) dX3_mend_2 ⟨Nat.le_of_ble_eq_true rfl, Nat.le_of_ble_eq_true rfl⟩) (fun r_2 V_1 H locs hp hw => ?_)
  obtain ⟨e9, e8⟩ := hp
  subst e9
  subst e8
  have hpd := pd_lt (k := k) (row := row) (by omega)
  refine lv_istore_n (lv' := [(3, .int (nI (pd k row))), (0, .ref (ad 0)), (1, .int (nI k)), (2, .int (nI row))]) hx hb dX3_mend_5 rfl hl (by decide) rfl (fun ls hl => ?_)
  refine lv_iconst (v := nI 0) hx hb dX3_mend_6 (by decide) ?_
  refine lv_istore (lv' := [(4, .int (nI 0)), (3, .int (nI (pd k row))), (0, .ref (ad 0)), (1, .int (nI k)), (2, .int (nI row))]) hx hb dX3_mend_7 hl (by decide) rfl (fun ls hl => ?_)
  refine lp_X3_mend hx hb hts hown hml hK V k row (pd k row) hk6 hrow (by omega) (fun V_L H locs ls hin hw hl => ?_) 4 0 V _ _ ls (by omega) ⟨fun _ _ => rfl, fun t => by rw [if_neg (by omega)]⟩ hw (lv_sub hl [0, 1, 3, 4, 2] rfl)
  exact w_vret hx hb hr hlocks hw (hin) dX3_mend_82
set_option maxHeartbeats 4000000 in
set_option maxRecDepth 100000 in
theorem lp_X3_start_b {p : Program} {l : Launch} {e : Env} {s : State} {m : MethodId} {args : Array Value} {below : List Frame} {meth : Method} {c : Code} {Q : State → Prop} {D : va_G} {cI cD : ClassId} {ad : Nat → Nat} (hx : p.tables.exec = Jvm.exec) (hb : c.code = cX3_start) (hts : ∀ w ∈ wsX3_start, w.before args s = true) (hown : s.vm.findClass RX3 = some m.cls) (hml : c.maxLocals = 3) (hK : kK D cI cD s) {V : vT}  (hk : ∀ (H1 : Heap) (locs1 : List Loc) (ls : Array Slot), wS D 10 ad (mF cI ad) s.heap V H1 locs1 → lv_has ls 3 [(1, .int (nI (bst (fun q => V 2 (5 * q)) 14))), (0, .ref (ad 0))] → W p l e ({ frames := 2, cells := 0, slots := 0, locals := 48 }) s m args below meth c H1 locs1 0 0 Q (F0 m 71 ls [])) : ∀ (n j : Nat) (H : Heap) (locs : List Loc) (ls : Array Slot), j + n = 14 ∧ 1 ≤ j → wS D 10 ad (mF cI ad) s.heap V H locs → lv_has ls 3 [(2, .int (nI j)), (1, .int (nI (bst (fun q => V 2 (5 * q)) j))), (0, .ref (ad 0))] → W p l e ({ frames := 2, cells := 0, slots := 0, locals := 48 }) s m args below meth c H locs 0 0 Q (F0 m 34 ls []) := by
  have hi3 : ∀ w ∈ wsX30, w ∈ wsX3_start := by decide +kernel
  intro n
  induction n with
  | zero =>
    intro j H locs ls hjn hw hl
    have hbl : bst (fun q => V 2 (5 * q)) j < 14 := by have := bst_lt (fun q => V 2 (5 * q)) (q := j) (by omega); omega
    refine lv_iload_n hx hb dX3_start_34 rfl (lv_at hl 0 rfl) ?_
    refine lv_bipush (v := nI 14) hx hb dX3_start_35 (by decide) ?_
    refine n_icmp_ge (tgt := 71) hx hb dX3_start_37 (by decide) (by omega) (by omega) (fun c_37 => ?_) (fun c_37 => ?_)
    · have e1 : j = 14 := by omega
      subst e1
      exact hk H locs ls hw (lv_sub hl [1, 2] rfl)
    · exfalso
      omega
  | succ n ih =>
    intro j H locs ls hjn hw hl
    have hbl : bst (fun q => V 2 (5 * q)) j < 14 := by have := bst_lt (fun q => V 2 (5 * q)) (q := j) (by omega); omega
    refine lv_iload_n hx hb dX3_start_34 rfl (lv_at hl 0 rfl) ?_
    refine lv_bipush (v := nI 14) hx hb dX3_start_35 (by decide) ?_
    refine n_icmp_ge (tgt := 71) hx hb dX3_start_37 (by decide) (by omega) (by omega) (fun c_37 => ?_) (fun c_37 => ?_)
    · exfalso
      omega
    · refine lv_aload_n hx hb dX3_start_40 rfl (lv_at hl 2 rfl) ?_
      refine w_get (ci := 3) (C := RX3) (T := TX3) (M := 24) (v := .ref (ad 2)) hx hb hts hi3 hown hK hw 0 (by omega) _ (mF_0 _) rfl 15 (by decide) (hts (.fieldLink RX3 20 "WideningArrayModel" "marks" "[I") (by decide +kernel)) rfl dX3_start_41 ?_
      refine lv_iconst (v := nI 5) hx hb dX3_start_44 (by decide) ?_
      refine lv_iload_n hx hb dX3_start_45 rfl (lv_at hl 0 rfl) ?_
      refine n_mul hx hb dX3_start_46 ?_
      refine w_iald hx hb hK hw 2 70 (by omega) (fun _ => rfl) (i := 5 * j) (by omega) (by decide) dX3_start_47 ?_
      refine lv_aload_n hx hb dX3_start_48 rfl (lv_at hl 2 rfl) ?_
      refine w_get (ci := 3) (C := RX3) (T := TX3) (M := 24) (v := .ref (ad 2)) hx hb hts hi3 hown hK hw 0 (by omega) _ (mF_0 _) rfl 15 (by decide) (hts (.fieldLink RX3 20 "WideningArrayModel" "marks" "[I") (by decide +kernel)) rfl dX3_start_49 ?_
      refine lv_iconst (v := nI 5) hx hb dX3_start_52 (by decide) ?_
      refine lv_iload_n hx hb dX3_start_53 rfl (lv_at hl 1 rfl) ?_
      refine n_mul hx hb dX3_start_54 ?_
      refine w_iald hx hb hK hw 2 70 (by omega) (fun _ => rfl) (i := 5 * (bst (fun q => V 2 (5 * q)) j)) (by omega) (by decide) dX3_start_55 ?_
      refine lv_icmp_le (tgt := 63) hx hb dX3_start_56 (by decide) (fun c_56 => ?_) (fun c_56 => ?_)
      · have e2 : bst (fun q => V 2 (5 * q)) (j + 1) = bst (fun q => V 2 (5 * q)) j := bst_no (f := (fun q => V 2 (5 * q))) (q := j) (Int32.not_lt.mpr c_56)
        refine lv_iload_n hx hb dX3_start_63 rfl (lv_at hl 1 rfl) ?_
        refine lv_istore_n (lv' := [(1, .int (nI (bst (fun q => V 2 (5 * q)) j))), (2, .int (nI j)), (0, .ref (ad 0))]) hx hb dX3_start_64 rfl hl (by decide) rfl (fun ls hl => ?_)
        refine lv_iinc (v := nI (j + 1)) (lv' := [(2, .int (nI (j + 1))), (1, .int (nI (bst (fun q => V 2 (5 * q)) j))), (0, .ref (ad 0))]) hx hb dX3_start_65 hl (k := 1) rfl (nI_1 _) (by decide) rfl (fun ls hl => ?_)
        refine lv_goto (tgt := 34) hx hb dX3_start_68 (by decide) ?_
        have hl : lv_has ls 3 [(2, .int (nI (j + 1))), (1, .int (nI (bst (fun q => V 2 (5 * q)) (j + 1)))), (0, .ref (ad 0))] := by rw [e2]; exact hl
        exact ih (j + 1) _ _ ls (by omega) hw (lv_sub hl [0, 1, 2] rfl)
      · have e2 : bst (fun q => V 2 (5 * q)) (j + 1) = j := bst_yes (f := (fun q => V 2 (5 * q))) (q := j) (Int32.not_le.mp c_56)
        refine lv_iload_n hx hb dX3_start_59 rfl (lv_at hl 0 rfl) ?_
        refine lv_goto (tgt := 64) hx hb dX3_start_60 (by decide) ?_
        refine lv_istore_n (lv' := [(1, .int (nI j)), (2, .int (nI j)), (0, .ref (ad 0))]) hx hb dX3_start_64 rfl hl (by decide) rfl (fun ls hl => ?_)
        refine lv_iinc (v := nI (j + 1)) (lv' := [(2, .int (nI (j + 1))), (1, .int (nI j)), (0, .ref (ad 0))]) hx hb dX3_start_65 hl (k := 1) rfl (nI_1 _) (by decide) rfl (fun ls hl => ?_)
        refine lv_goto (tgt := 34) hx hb dX3_start_68 (by decide) ?_
        have hl : lv_has ls 3 [(2, .int (nI (j + 1))), (1, .int (nI (bst (fun q => V 2 (5 * q)) (j + 1)))), (0, .ref (ad 0))] := by rw [e2]; exact hl
        exact ih (j + 1) _ _ ls (by omega) hw (lv_sub hl [0, 1, 2] rfl)
set_option maxHeartbeats 4000000 in
set_option maxRecDepth 100000 in
theorem lp_X3_start_m {p : Program} {l : Launch} {e : Env} {s : State} {m : MethodId} {args : Array Value} {below : List Frame} {meth : Method} {c : Code} {Q : State → Prop} {D : va_G} {cI cD : ClassId} {ad : Nat → Nat} (hx : p.tables.exec = Jvm.exec) (hb : c.code = cX3_start) (hts : ∀ w ∈ wsX3_start, w.before args s = true) (hown : s.vm.findClass RX3 = some m.cls) (hml : c.maxLocals = 3) (hK : kK D cI cD s) (V0 : vT) (n : Nat) (hn : V0 0 3 = nI n) (dn : Nat) (hdn : V0 0 4 = nI dn) (wide : Bool) (hwd : V0 0 6 = bI wide) (st : Bool) (hst : V0 0 7 = bI st) (hn3 : 3 ≤ n) (hn6 : n ≤ 6) (hd32 : dn < 32) (hwn : wide = true → n < 6) (hk : ∀ (V1 : vT) (H1 : Heap) (locs1 : List Loc) (ls : Array Slot), ((∀ a, a ≠ 1 → V1 a = V0 a) ∧ ∀ d, d < 6 → ∀ i, i < 160 → V1 1 (160 * d + i) = mnd (mw V0) n wide dn st 32 d i) → wS D 10 ad (mF cI ad) s.heap V1 H1 locs1 → lv_has ls 3 [(0, .ref (ad 0))] → W p l e ({ frames := 2, cells := 0, slots := 0, locals := 48 }) s m args below meth c H1 locs1 0 0 Q (F0 m 196 ls [])) : ∀ (n9 j : Nat) (V : vT) (H : Heap) (locs : List Loc) (ls : Array Slot), (j + n9 = 32) → ((∀ a, a ≠ 1 → V a = V0 a) ∧ ∀ d, d < 6 → ∀ i, i < 160 → V 1 (160 * d + i) = mnd (mw V0) n wide dn st j d i) → wS D 10 ad (mF cI ad) s.heap V H locs → lv_has ls 3 [(2, .int (nI j)), (0, .ref (ad 0))] → W p l e ({ frames := 2, cells := 0, slots := 0, locals := 48 }) s m args below meth c H locs 0 0 Q (F0 m 159 ls []) := by
  have hi3 : ∀ w ∈ wsX30, w ∈ wsX3_start := by decide +kernel
  intro n9
  induction n9 with
  | zero =>
    intro j V H locs ls hjn hin hw hl
    refine lv_iload_n hx hb dX3_start_159 rfl (lv_at hl 0 rfl) ?_
    refine lv_bipush (v := nI 32) hx hb dX3_start_160 (by decide) ?_
    refine n_icmp_ge (tgt := 196) hx hb dX3_start_162 (by decide) (by omega) (by omega) (fun c_162 => ?_) (fun c_162 => ?_)
    · have e1 : j = 32 := by omega
      subst e1
      exact hk V H locs ls hin hw (lv_sub hl [1] rfl)
    · exfalso
      omega
  | succ n9 ih =>
    intro j V H locs ls hjn hin hw hl
    refine lv_iload_n hx hb dX3_start_159 rfl (lv_at hl 0 rfl) ?_
    refine lv_bipush (v := nI 32) hx hb dX3_start_160 (by decide) ?_
    refine n_icmp_ge (tgt := 196) hx hb dX3_start_162 (by decide) (by omega) (by omega) (fun c_162 => ?_) (fun c_162 => ?_)
    · exfalso
      omega
    · have hwl := wor_le (n := n) (wide := wide) (dn := dn) (row := j) hn6 hwn
      have hwg := wor_ge (n := n) (wide := wide) (dn := dn) (row := j)
      have hpd := pd_lt (k := wor n wide dn j) (row := j) (by omega)
      refine lv_aload_n hx hb dX3_start_165 rfl (lv_at hl 1 rfl) ?_
      refine w_get (ci := 3) (C := RX3) (T := TX3) (M := 24) (v := .int (bI st)) hx hb hts hi3 hown hK hw 0 (by omega) _ (mF_0 _) rfl 7 (by decide) (hts (.fieldLink RX3 67 "WideningArrayModel" "isStashed" "Z") (by decide +kernel)) (congrArg (fun z => some (Value.int z)) (show V 0 7 = bI st from by rw [hin.1 0 (by decide)]; exact hst)) dX3_start_166 ?_
      refine lv_if_eq (tgt := 180) hx hb dX3_start_169 (by decide) (fun c_169 => ?_) (fun c_169 => ?_)
      · refine lv_aload_n hx hb dX3_start_180 rfl (lv_at hl 1 rfl) ?_
        refine lv_aload_n hx hb dX3_start_181 rfl (lv_at hl 1 rfl) ?_
        refine lv_iload_n hx hb dX3_start_182 rfl (lv_at hl 0 rfl) ?_
        refine w_calli hw (va_runV (As := [.int (nI j)]) (rest := [.ref (ad 0)]) ⟨hx, hb, hml, hown, hts⟩ (c_X3_widthOf l D cI cD ad _ V n (show V 0 3 = nI n from by rw [hin.1 0 (by decide)]; exact hn) wide (show V 0 6 = bI wide from by rw [hin.1 0 (by decide)]; exact hwd) dn (show V 0 4 = nI dn from by rw [hin.1 0 (by decide)]; exact hdn) (by omega) j (by omega)) (cwV 1 hts gX3_start_X3_widthOf rfl rfl rfl (by decide +kernel) ⟨Nat.le_of_ble_eq_true rfl, Nat.le_of_ble_eq_true rfl⟩) (w_preV hK hw (by omega) (mF_0 _) rfl _) rfl rfl hl.1 rfl (lv_room (Nat.le_of_ble_eq_true rfl)) dX3_start_183 ⟨Nat.le_of_ble_eq_true rfl, Nat.le_of_ble_eq_true rfl⟩) (fun r_2 V_1 H locs hp hw => ?_)
        obtain ⟨e9, e8⟩ := hp
        subst e9
        subst e8
        refine lv_iload_n hx hb dX3_start_186 rfl (lv_at hl 0 rfl) ?_
        refine w_callv hw (va_runV (As := [.int (nI (wor n wide dn j)), .int (nI j)]) (rest := []) ⟨hx, hb, hml, hown, hts⟩ (c_X3_mend l D cI cD ad _ V (wor n wide dn j) j (by omega) (by omega) (by omega)) (cwV 2 hts gX3_start_X3_mend rfl rfl rfl (by decide +kernel) ⟨Nat.le_of_ble_eq_true rfl, Nat.le_of_ble_eq_true rfl⟩) (w_preV hK hw (by omega) (mF_0 _) rfl _) rfl rfl hl.1 rfl (lv_room (Nat.le_of_ble_eq_true rfl)) dX3_start_187 ⟨Nat.le_of_ble_eq_true rfl, Nat.le_of_ble_eq_true rfl⟩) (fun V_3 H locs hp hw => ?_)
        refine lv_iinc (v := nI (j + 1)) (lv' := [(2, .int (nI (j + 1))), (0, .ref (ad 0))]) hx hb dX3_start_190 hl (k := 0) rfl (nI_1 _) (by decide) rfl (fun ls hl => ?_)
        refine lv_goto (tgt := 159) hx hb dX3_start_193 (by decide) ?_
        have hl0 : lay st dn j = false := by first | (rw [lay, show st = false from bI_0.mp c_169]; rfl) | (rw [lay, decide_eq_false c_177, Bool.and_false])
        have hin' : (∀ a, a ≠ 1 → V_3 a = V0 a) ∧ ∀ d, d < 6 → ∀ i, i < 160 → V_3 1 (160 * d + i) = mnd (mw V0) n wide dn st (j + 1) d i := by
          refine ⟨fun a ha => (hp.1 a ha).trans (hin.1 a ha), fun d hd i hi => ?_⟩
          rw [hp.2]
          by_cases q : i / 4 = j
          · by_cases q3 : d = pd (wor n wide dn j) j
            · rw [if_pos (by omega), mnd, q, if_pos ⟨by omega, hl0, q3⟩, q3, Nat.add_sub_cancel_left]
              refine xr_congr (fun e he hne => ?_)
              show V 1 (160 * e + i) = mw V0 e i
              rw [hin.2 e (by omega) i hi, mnd, q, if_neg (fun h => by omega)]
            · rw [if_neg (by omega), hin.2 d hd i hi, mnd, mnd, q, if_neg (fun h => by omega), if_neg (fun h => q3 h.2.2)]
          · rw [if_neg (by omega), hin.2 d hd i hi, mnd, mnd]
            by_cases q2 : i < 4 * j
            · simp only [q2, show i < 4 * (j + 1) by omega]
            · simp only [q2, show ¬ i < 4 * (j + 1) by omega]
        exact ih (j + 1) _ _ _ ls (by omega) hin' hw (lv_sub hl [0, 1] rfl)
      · refine lv_iload_n hx hb dX3_start_172 rfl (lv_at hl 0 rfl) ?_
        refine lv_aload_n hx hb dX3_start_173 rfl (lv_at hl 1 rfl) ?_
        refine w_get (ci := 3) (C := RX3) (T := TX3) (M := 24) (v := .int (nI dn)) hx hb hts hi3 hown hK hw 0 (by omega) _ (mF_0 _) rfl 4 (by decide) (hts (.fieldLink RX3 64 "WideningArrayModel" "done" "I") (by decide +kernel)) (congrArg (fun z => some (Value.int z)) (show V 0 4 = nI dn from by rw [hin.1 0 (by decide)]; exact hdn)) dX3_start_174 ?_
        refine n_icmp_eq (tgt := 190) hx hb dX3_start_177 (by decide) (by omega) (by omega) (fun c_177 => ?_) (fun c_177 => ?_)
        · refine lv_iinc (v := nI (j + 1)) (lv' := [(2, .int (nI (j + 1))), (0, .ref (ad 0))]) hx hb dX3_start_190 hl (k := 0) rfl (nI_1 _) (by decide) rfl (fun ls hl => ?_)
          refine lv_goto (tgt := 159) hx hb dX3_start_193 (by decide) ?_
          have hin' : (∀ a, a ≠ 1 → V a = V0 a) ∧ ∀ d, d < 6 → ∀ i, i < 160 → V 1 (160 * d + i) = mnd (mw V0) n wide dn st (j + 1) d i := by
            refine ⟨hin.1, fun d hd i hi => ?_⟩
            rw [hin.2 d hd i hi, mnd, mnd]
            by_cases q : i / 4 = j
            · rw [if_neg (fun h => by omega), if_neg (fun h => by have h1 := h.2.1; rw [q, lay, show st = true from bI_n0.mp c_169, decide_eq_true c_177] at h1; exact absurd h1 (by decide))]
            · by_cases q2 : i < 4 * j
              · simp only [q2, show i < 4 * (j + 1) by omega]
              · simp only [q2, show ¬ i < 4 * (j + 1) by omega]
          exact ih (j + 1) _ _ _ ls (by omega) hin' hw (lv_sub hl [0, 1] rfl)
        · refine lv_aload_n hx hb dX3_start_180 rfl (lv_at hl 1 rfl) ?_
          refine lv_aload_n hx hb dX3_start_181 rfl (lv_at hl 1 rfl) ?_
          refine lv_iload_n hx hb dX3_start_182 rfl (lv_at hl 0 rfl) ?_
          refine w_calli hw (va_runV (As := [.int (nI j)]) (rest := [.ref (ad 0)]) ⟨hx, hb, hml, hown, hts⟩ (c_X3_widthOf l D cI cD ad _ V n (show V 0 3 = nI n from by rw [hin.1 0 (by decide)]; exact hn) wide (show V 0 6 = bI wide from by rw [hin.1 0 (by decide)]; exact hwd) dn (show V 0 4 = nI dn from by rw [hin.1 0 (by decide)]; exact hdn) (by omega) j (by omega)) (cwV 1 hts gX3_start_X3_widthOf rfl rfl rfl (by decide +kernel) ⟨Nat.le_of_ble_eq_true rfl, Nat.le_of_ble_eq_true rfl⟩) (w_preV hK hw (by omega) (mF_0 _) rfl _) rfl rfl hl.1 rfl (lv_room (Nat.le_of_ble_eq_true rfl)) dX3_start_183 ⟨Nat.le_of_ble_eq_true rfl, Nat.le_of_ble_eq_true rfl⟩) (fun r_5 V_4 H locs hp hw => ?_)
          obtain ⟨e9, e8⟩ := hp
          subst e9
          subst e8
          refine lv_iload_n hx hb dX3_start_186 rfl (lv_at hl 0 rfl) ?_
          refine w_callv hw (va_runV (As := [.int (nI (wor n wide dn j)), .int (nI j)]) (rest := []) ⟨hx, hb, hml, hown, hts⟩ (c_X3_mend l D cI cD ad _ V (wor n wide dn j) j (by omega) (by omega) (by omega)) (cwV 2 hts gX3_start_X3_mend rfl rfl rfl (by decide +kernel) ⟨Nat.le_of_ble_eq_true rfl, Nat.le_of_ble_eq_true rfl⟩) (w_preV hK hw (by omega) (mF_0 _) rfl _) rfl rfl hl.1 rfl (lv_room (Nat.le_of_ble_eq_true rfl)) dX3_start_187 ⟨Nat.le_of_ble_eq_true rfl, Nat.le_of_ble_eq_true rfl⟩) (fun V_6 H locs hp hw => ?_)
          refine lv_iinc (v := nI (j + 1)) (lv' := [(2, .int (nI (j + 1))), (0, .ref (ad 0))]) hx hb dX3_start_190 hl (k := 0) rfl (nI_1 _) (by decide) rfl (fun ls hl => ?_)
          refine lv_goto (tgt := 159) hx hb dX3_start_193 (by decide) ?_
          have hl0 : lay st dn j = false := by first | (rw [lay, show st = false from bI_0.mp c_169]; rfl) | (rw [lay, decide_eq_false c_177, Bool.and_false])
          have hin' : (∀ a, a ≠ 1 → V_6 a = V0 a) ∧ ∀ d, d < 6 → ∀ i, i < 160 → V_6 1 (160 * d + i) = mnd (mw V0) n wide dn st (j + 1) d i := by
            refine ⟨fun a ha => (hp.1 a ha).trans (hin.1 a ha), fun d hd i hi => ?_⟩
            rw [hp.2]
            by_cases q : i / 4 = j
            · by_cases q3 : d = pd (wor n wide dn j) j
              · rw [if_pos (by omega), mnd, q, if_pos ⟨by omega, hl0, q3⟩, q3, Nat.add_sub_cancel_left]
                refine xr_congr (fun e he hne => ?_)
                show V 1 (160 * e + i) = mw V0 e i
                rw [hin.2 e (by omega) i hi, mnd, q, if_neg (fun h => by omega)]
              · rw [if_neg (by omega), hin.2 d hd i hi, mnd, mnd, q, if_neg (fun h => by omega), if_neg (fun h => q3 h.2.2)]
            · rw [if_neg (by omega), hin.2 d hd i hi, mnd, mnd]
              by_cases q2 : i < 4 * j
              · simp only [q2, show i < 4 * (j + 1) by omega]
              · simp only [q2, show ¬ i < 4 * (j + 1) by omega]
          exact ih (j + 1) _ _ _ ls (by omega) hin' hw (lv_sub hl [0, 1] rfl)
set_option maxHeartbeats 4000000 in
set_option maxRecDepth 100000 in
theorem c_X3_start (l : Launch) (D : va_G) (cI cD : ClassId) (ad : Nat → Nat) (sz : Nat) (V : vT) (ct : Nat → Nat → Int32) (md fd : Bool) (n : Nat) (wide : Bool) (dn : Nat) (st : Bool) (num : Nat) (lost fresh : Int32) (fp : Nat) (sh : Int32) (hR : mR V (ct, (md, fd), (n, wide, dn, st, num), (lost, fresh), (fp, sh))) (B : Nat) (hB : B < 10000) (hWF : WF B (ct, (md, fd), (n, wide, dn, st, num), (lost, fresh), (fp, sh))) : Met l yX3_start wsX3_start ({ frames := 2, cells := 0, slots := 0, locals := 48 }) (gP D cI cD 10 ad (mF cI ad) sz V [.ref (ad 0)]) (va_Qi (fun (r : Int32) (V1 : vT) => V1 0 0 = nI (oStart (ct, (md, fd), (n, wide, dn, st, num), (lost, fresh), (fp, sh))).1 ∧ ((oStart (ct, (md, fd), (n, wide, dn, st, num), (lost, fresh), (fp, sh))).1 = 0 → (oStart (ct, (md, fd), (n, wide, dn, st, num), (lost, fresh), (fp, sh))).2.1 = r) ∧ mR V1 (oStart (ct, (md, fd), (n, wide, dn, st, num), (lost, fresh), (fp, sh))).2.2) (gB D 10 ad (mF cI ad)) (gA 10 ad sz)) 0 0 (gA 10 ad sz) := by
  refine w_met (cc := cX3_start) (maxL := 3) (ret := (some .int)) (by decide) rfl (Nat.le_of_ble_eq_true rfl) ?_
  intro p e s m below meth c hx hb hr hts hown hlocks hml hsz hK hw ls hl
  subst hsz
  have hown : s.vm.findClass RX3 = some m.cls := hown
  have hi3 : ∀ w ∈ wsX30, w ∈ wsX3_start := by decide +kernel
  have hl : lv_has ls 3 [(0, .ref (ad 0))] := hl
  obtain ⟨⟨hmd, hlo, hfr, hsh, hz6, hmc⟩, hfd, har, hfa⟩ := hR.pt
  refine lv_aload_n hx hb dX3_start_0 rfl (lv_at hl 0 rfl) ?_
  refine lv_iconst (v := nI 0) hx hb dX3_start_1 (by decide) ?_
  refine w_put (ci := 3) (C := RX3) (T := TX3) (M := 24) (x := nI 0) (ty := .int) hx hb hts hi3 tyX3 tyX3_ok nmX3 hown hK hw 0 (by omega) _ (mF_0 _) rfl 0 (by decide) (hts (.fieldLink RX3 44 "WideningArrayModel" "thrown" "I") (by decide +kernel)) rfl (by decide +kernel) rfl rfl (Nat.le_of_ble_eq_true rfl) (mF_0 _) dX3_start_2 (fun H locs hw => ?_)
  obtain ⟨V_1, hV_1⟩ : ∃ z : vT, z = u2 V 0 0 (nI 0) := ⟨_, rfl⟩
  rw [← hV_1] at hw
  refine lv_aload_n hx hb dX3_start_5 rfl (lv_at hl 0 rfl) ?_
  refine w_get (ci := 3) (C := RX3) (T := TX3) (M := 24) (v := .int (bI md)) hx hb hts hi3 hown hK hw 0 (by omega) _ (mF_0 _) rfl 1 (by decide) (hts (.fieldLink RX3 47 "WideningArrayModel" "isThere" "Z") (by decide +kernel)) (congrArg (fun z => some (Value.int z)) (show V_1 0 1 = bI md from by rw [hV_1, u2_n _ _ (Or.inr (by decide))]; exact (hmd))) dX3_start_6 ?_
  refine lv_if_eq (tgt := 19) hx hb dX3_start_9 (by decide) (fun c_9 => ?_) (fun c_9 => ?_)
  · refine lv_aload_n hx hb dX3_start_19 rfl (lv_at hl 0 rfl) ?_
    refine lv_iconst (v := nI 1) hx hb dX3_start_20 (by decide) ?_
    refine w_calli hw (va_runV (As := [.int (nI 1)]) (rest := []) ⟨hx, hb, hml, hown, hts⟩ (c_X3_fail l D cI cD ad _ V_1 (nI 1)) (cwV 1 hts gX3_start_X3_fail rfl rfl rfl (by decide +kernel) ⟨Nat.le_of_ble_eq_true rfl, Nat.le_of_ble_eq_true rfl⟩) (w_preV hK hw (by omega) (mF_0 _) rfl _) rfl rfl hl.1 rfl (lv_room (Nat.le_of_ble_eq_true rfl)) dX3_start_21 ⟨Nat.le_of_ble_eq_true rfl, Nat.le_of_ble_eq_true rfl⟩) (fun r_3 V_2 H locs hp hw => ?_)
    obtain ⟨e9f, e8⟩ := hp
    subst e8
    exact w_iret hx hb hr hlocks hw (by have hL : oStart (ct, (md, fd), (n, wide, dn, st, num), (lost, fresh), (fp, sh)) = (1, 0, (ct, (md, fd), (n, wide, dn, st, num), (lost, fresh), (fp, sh))) := (by rw [oStart]; refine if_pos ?_; first | exact bI_0.mp c_16 | exact (hWF.2.2.1 (bI_0.mp c_9)).1); rw [hL]; exact ⟨by rw [e9f, u2_s], fun h => absurd (show (1 : Nat) = 0 from h) (by decide), mR_u0 (mR_u0 hR hV_1) e9f⟩) dX3_start_24
  · refine lv_aload_n hx hb dX3_start_12 rfl (lv_at hl 0 rfl) ?_
    refine w_get (ci := 3) (C := RX3) (T := TX3) (M := 24) (v := .int (bI fd)) hx hb hts hi3 hown hK hw 0 (by omega) _ (mF_0 _) rfl 2 (by decide) (hts (.fieldLink RX3 51 "WideningArrayModel" "hasFailed" "Z") (by decide +kernel)) (congrArg (fun z => some (Value.int z)) (show V_1 0 2 = bI fd from by rw [hV_1, u2_n _ _ (Or.inr (by decide))]; exact (hfd))) dX3_start_13 ?_
    refine lv_if_ne (tgt := 25) hx hb dX3_start_16 (by decide) (fun c_16 => ?_) (fun c_16 => ?_)
    · have e1 : md = true := bI_n0.mp c_9
      have e2 : fd = true := bI_n0.mp c_16
      obtain ⟨x9, n9, w9, d9, s9, m0, hx1, hxB, m1, m2, m3, m4, hn3, hn6, hd32, hwn, hsw, -⟩ := stq_ok hB hWF.1 (hWF.2.2.2.1 e2).1
      refine lv_aload_n hx hb dX3_start_25 rfl (lv_at hl 0 rfl) ?_
      refine lv_iconst (v := nI 0) hx hb dX3_start_26 (by decide) ?_
      refine w_put (ci := 3) (C := RX3) (T := TX3) (M := 24) (x := nI 0) (ty := .boolean) hx hb hts hi3 tyX3 tyX3_ok nmX3 hown hK hw 0 (by omega) _ (mF_0 _) rfl 2 (by decide) (hts (.fieldLink RX3 51 "WideningArrayModel" "hasFailed" "Z") (by decide +kernel)) rfl (by decide +kernel) rfl rfl (Nat.le_of_ble_eq_true rfl) (mF_0 _) dX3_start_27 (fun H locs hw => ?_)
      obtain ⟨V_4, hV_4⟩ : ∃ z : vT, z = u2 V_1 0 2 (nI 0) := ⟨_, rfl⟩
      rw [← hV_4] at hw
      have hB2 : V_4 2 = V 2 := by rw [hV_4, u2_r _ _ (by decide), hV_1, u2_r _ _ (by decide)]
      obtain ⟨hb14, hm14⟩ := bst_14 hB hR.1 hWF.1 (hWF.2.2.2.1 e2).1
      rw [← hB2] at hb14 hm14
      have hm10 : V_4 2 (5 * stq ct) = mkA ct (stq ct) 0 := hm14 0 (by decide)
      have hslt := stq_lt (c := ct)
      refine lv_iconst (v := nI 0) hx hb dX3_start_30 (by decide) ?_
      refine n_is (show nI 0 = nI (bst (fun q => V_4 2 (5 * q)) 1) from by rw [bst_1]) ?_
      refine lv_istore_n (lv' := [(1, .int (nI (bst (fun q => V_4 2 (5 * q)) 1))), (0, .ref (ad 0))]) hx hb dX3_start_31 rfl hl (by decide) rfl (fun ls hl => ?_)
      refine lv_iconst (v := nI 1) hx hb dX3_start_32 (by decide) ?_
      refine lv_istore_n (lv' := [(2, .int (nI 1)), (1, .int (nI (bst (fun q => V_4 2 (5 * q)) 1))), (0, .ref (ad 0))]) hx hb dX3_start_33 rfl hl (by decide) rfl (fun ls hl => ?_)
      refine lp_X3_start_b hx hb hts hown hml hK (fun H locs ls hw hl => ?_) 13 1 _ _ ls (by omega) hw (lv_sub hl [0, 1, 2] rfl)
      rw [hb14] at hl
      refine lv_aload_n hx hb dX3_start_71 rfl (lv_at hl 1 rfl) ?_
      refine lv_aload_n hx hb dX3_start_72 rfl (lv_at hl 1 rfl) ?_
      refine w_get (ci := 3) (C := RX3) (T := TX3) (M := 24) (v := .ref (ad 2)) hx hb hts hi3 hown hK hw 0 (by omega) _ (mF_0 _) rfl 15 (by decide) (hts (.fieldLink RX3 20 "WideningArrayModel" "marks" "[I") (by decide +kernel)) rfl dX3_start_73 ?_
      refine lv_iconst (v := nI 5) hx hb dX3_start_76 (by decide) ?_
      refine lv_iload_n hx hb dX3_start_77 rfl (lv_at hl 0 rfl) ?_
      refine n_mul hx hb dX3_start_78 ?_
      refine w_iald hx hb hK hw 2 70 (by omega) (fun _ => rfl) (i := 5 * (stq ct)) (by omega) (by decide) dX3_start_79 ?_
      refine n_is (show V_4 2 (5 * (stq ct)) = nI x9 from by exact (hm10).trans m0) ?_
      refine w_put (ci := 3) (C := RX3) (T := TX3) (M := 24) (x := nI x9) (ty := .int) hx hb hts hi3 tyX3 tyX3_ok nmX3 hown hK hw 0 (by omega) _ (mF_0 _) rfl 5 (by decide) (hts (.fieldLink RX3 106 "WideningArrayModel" "number" "I") (by decide +kernel)) rfl (by decide +kernel) rfl rfl (Nat.le_of_ble_eq_true rfl) (mF_0 _) dX3_start_80 (fun H locs hw => ?_)
      obtain ⟨V_5, hV_5⟩ : ∃ z : vT, z = u2 V_4 0 5 (nI x9) := ⟨_, rfl⟩
      rw [← hV_5] at hw
      refine lv_aload_n hx hb dX3_start_83 rfl (lv_at hl 1 rfl) ?_
      refine lv_aload_n hx hb dX3_start_84 rfl (lv_at hl 1 rfl) ?_
      refine w_get (ci := 3) (C := RX3) (T := TX3) (M := 24) (v := .ref (ad 2)) hx hb hts hi3 hown hK hw 0 (by omega) _ (mF_0 _) rfl 15 (by decide) (hts (.fieldLink RX3 20 "WideningArrayModel" "marks" "[I") (by decide +kernel)) rfl dX3_start_85 ?_
      refine lv_iconst (v := nI 5) hx hb dX3_start_88 (by decide) ?_
      refine lv_iload_n hx hb dX3_start_89 rfl (lv_at hl 0 rfl) ?_
      refine n_mul hx hb dX3_start_90 ?_
      refine lv_iconst (v := nI 1) hx hb dX3_start_91 (by decide) ?_
      refine n_add hx hb dX3_start_92 ?_
      refine w_iald hx hb hK hw 2 70 (by omega) (fun _ => rfl) (i := (5 * (stq ct)) + 1) (by omega) (by decide) dX3_start_93 ?_
      refine n_is (show V_5 2 ((5 * (stq ct)) + 1) = nI n9 from by rw [hV_5, u2_r _ _ (by decide)]; exact (hm14 1 (by decide)).trans m1) ?_
      refine w_put (ci := 3) (C := RX3) (T := TX3) (M := 24) (x := nI n9) (ty := .int) hx hb hts hi3 tyX3 tyX3_ok nmX3 hown hK hw 0 (by omega) _ (mF_0 _) rfl 3 (by decide) (hts (.fieldLink RX3 57 "WideningArrayModel" "n" "I") (by decide +kernel)) rfl (by decide +kernel) rfl rfl (Nat.le_of_ble_eq_true rfl) (mF_0 _) dX3_start_94 (fun H locs hw => ?_)
      obtain ⟨V_6, hV_6⟩ : ∃ z : vT, z = u2 V_5 0 3 (nI n9) := ⟨_, rfl⟩
      rw [← hV_6] at hw
      refine lv_aload_n hx hb dX3_start_97 rfl (lv_at hl 1 rfl) ?_
      refine lv_aload_n hx hb dX3_start_98 rfl (lv_at hl 1 rfl) ?_
      refine w_get (ci := 3) (C := RX3) (T := TX3) (M := 24) (v := .ref (ad 2)) hx hb hts hi3 hown hK hw 0 (by omega) _ (mF_0 _) rfl 15 (by decide) (hts (.fieldLink RX3 20 "WideningArrayModel" "marks" "[I") (by decide +kernel)) rfl dX3_start_99 ?_
      refine lv_iconst (v := nI 5) hx hb dX3_start_102 (by decide) ?_
      refine lv_iload_n hx hb dX3_start_103 rfl (lv_at hl 0 rfl) ?_
      refine n_mul hx hb dX3_start_104 ?_
      refine lv_iconst (v := nI 2) hx hb dX3_start_105 (by decide) ?_
      refine n_add hx hb dX3_start_106 ?_
      refine w_iald hx hb hK hw 2 70 (by omega) (fun _ => rfl) (i := (5 * (stq ct)) + 2) (by omega) (by decide) dX3_start_107 ?_
      refine n_is (show V_6 2 ((5 * (stq ct)) + 2) = bI w9 from by rw [hV_6, u2_r _ _ (by decide)]; rw [hV_5, u2_r _ _ (by decide)]; exact (hm14 2 (by decide)).trans m2) ?_
      refine lv_iconst (v := nI 1) hx hb dX3_start_108 (by decide) ?_
      refine lv_icmp_ne (tgt := 116) hx hb dX3_start_109 (by decide) (fun c_109 => ?_) (fun c_109 => ?_)
      · refine lv_iconst (v := nI 0) hx hb dX3_start_116 (by decide) ?_
        refine n_is (show nI 0 = bI w9 from by revert c_109; cases w9 <;> decide) ?_
        refine w_put (ci := 3) (C := RX3) (T := TX3) (M := 24) (x := bI w9) (ty := .boolean) hx hb hts hi3 tyX3 tyX3_ok nmX3 hown hK hw 0 (by omega) _ (mF_0 _) rfl 6 (by decide) (hts (.fieldLink RX3 54 "WideningArrayModel" "isWide" "Z") (by decide +kernel)) rfl (by decide +kernel) (bI_nar _) (bI_fit _) (Nat.le_of_ble_eq_true rfl) (mF_0 _) dX3_start_117 (fun H locs hw => ?_)
        obtain ⟨V_7, hV_7⟩ : ∃ z : vT, z = u2 V_6 0 6 (bI w9) := ⟨_, rfl⟩
        rw [← hV_7] at hw
        refine lv_aload_n hx hb dX3_start_120 rfl (lv_at hl 1 rfl) ?_
        refine lv_aload_n hx hb dX3_start_121 rfl (lv_at hl 1 rfl) ?_
        refine w_get (ci := 3) (C := RX3) (T := TX3) (M := 24) (v := .ref (ad 2)) hx hb hts hi3 hown hK hw 0 (by omega) _ (mF_0 _) rfl 15 (by decide) (hts (.fieldLink RX3 20 "WideningArrayModel" "marks" "[I") (by decide +kernel)) rfl dX3_start_122 ?_
        refine lv_iconst (v := nI 5) hx hb dX3_start_125 (by decide) ?_
        refine lv_iload_n hx hb dX3_start_126 rfl (lv_at hl 0 rfl) ?_
        refine n_mul hx hb dX3_start_127 ?_
        refine lv_iconst (v := nI 3) hx hb dX3_start_128 (by decide) ?_
        refine n_add hx hb dX3_start_129 ?_
        refine w_iald hx hb hK hw 2 70 (by omega) (fun _ => rfl) (i := (5 * (stq ct)) + 3) (by omega) (by decide) dX3_start_130 ?_
        refine n_is (show V_7 2 ((5 * (stq ct)) + 3) = nI d9 from by rw [hV_7, u2_r _ _ (by decide)]; rw [hV_6, u2_r _ _ (by decide)]; rw [hV_5, u2_r _ _ (by decide)]; exact (hm14 3 (by decide)).trans m3) ?_
        refine w_put (ci := 3) (C := RX3) (T := TX3) (M := 24) (x := nI d9) (ty := .int) hx hb hts hi3 tyX3 tyX3_ok nmX3 hown hK hw 0 (by omega) _ (mF_0 _) rfl 4 (by decide) (hts (.fieldLink RX3 64 "WideningArrayModel" "done" "I") (by decide +kernel)) rfl (by decide +kernel) rfl rfl (Nat.le_of_ble_eq_true rfl) (mF_0 _) dX3_start_131 (fun H locs hw => ?_)
        obtain ⟨V_8, hV_8⟩ : ∃ z : vT, z = u2 V_7 0 4 (nI d9) := ⟨_, rfl⟩
        rw [← hV_8] at hw
        refine lv_aload_n hx hb dX3_start_134 rfl (lv_at hl 1 rfl) ?_
        refine lv_aload_n hx hb dX3_start_135 rfl (lv_at hl 1 rfl) ?_
        refine w_get (ci := 3) (C := RX3) (T := TX3) (M := 24) (v := .ref (ad 2)) hx hb hts hi3 hown hK hw 0 (by omega) _ (mF_0 _) rfl 15 (by decide) (hts (.fieldLink RX3 20 "WideningArrayModel" "marks" "[I") (by decide +kernel)) rfl dX3_start_136 ?_
        refine lv_iconst (v := nI 5) hx hb dX3_start_139 (by decide) ?_
        refine lv_iload_n hx hb dX3_start_140 rfl (lv_at hl 0 rfl) ?_
        refine n_mul hx hb dX3_start_141 ?_
        refine lv_iconst (v := nI 4) hx hb dX3_start_142 (by decide) ?_
        refine n_add hx hb dX3_start_143 ?_
        refine w_iald hx hb hK hw 2 70 (by omega) (fun _ => rfl) (i := (5 * (stq ct)) + 4) (by omega) (by decide) dX3_start_144 ?_
        refine n_is (show V_8 2 ((5 * (stq ct)) + 4) = bI s9 from by rw [hV_8, u2_r _ _ (by decide)]; rw [hV_7, u2_r _ _ (by decide)]; rw [hV_6, u2_r _ _ (by decide)]; rw [hV_5, u2_r _ _ (by decide)]; exact (hm14 4 (by decide)).trans m4) ?_
        refine lv_iconst (v := nI 1) hx hb dX3_start_145 (by decide) ?_
        refine lv_icmp_ne (tgt := 153) hx hb dX3_start_146 (by decide) (fun c_146 => ?_) (fun c_146 => ?_)
        · refine lv_iconst (v := nI 0) hx hb dX3_start_153 (by decide) ?_
          refine n_is (show nI 0 = bI s9 from by revert c_146; cases s9 <;> decide) ?_
          refine w_put (ci := 3) (C := RX3) (T := TX3) (M := 24) (x := bI s9) (ty := .boolean) hx hb hts hi3 tyX3 tyX3_ok nmX3 hown hK hw 0 (by omega) _ (mF_0 _) rfl 7 (by decide) (hts (.fieldLink RX3 67 "WideningArrayModel" "isStashed" "Z") (by decide +kernel)) rfl (by decide +kernel) (bI_nar _) (bI_fit _) (Nat.le_of_ble_eq_true rfl) (mF_0 _) dX3_start_154 (fun H locs hw => ?_)
          obtain ⟨V_9, hV_9⟩ : ∃ z : vT, z = u2 V_8 0 7 (bI s9) := ⟨_, rfl⟩
          rw [← hV_9] at hw
          refine lv_iconst (v := nI 0) hx hb dX3_start_157 (by decide) ?_
          refine lv_istore_n (lv' := [(2, .int (nI 0)), (1, .int (nI (stq ct))), (0, .ref (ad 0))]) hx hb dX3_start_158 rfl hl (by decide) rfl (fun ls hl => ?_)
          refine lp_X3_start_m hx hb hts hown hml hK V_9 n9 (show V_9 0 3 = nI n9 from by rw [hV_9, u2_n _ _ (Or.inr (by decide))]; exact (by rw [hV_8, u2_n _ _ (Or.inr (by decide))]; exact (by rw [hV_7, u2_n _ _ (Or.inr (by decide))]; exact (by rw [hV_6, u2_s])))) d9 (show V_9 0 4 = nI d9 from by rw [hV_9, u2_n _ _ (Or.inr (by decide))]; exact (by rw [hV_8, u2_s])) w9 (show V_9 0 6 = bI w9 from by rw [hV_9, u2_n _ _ (Or.inr (by decide))]; exact (by rw [hV_8, u2_n _ _ (Or.inr (by decide))]; exact (by rw [hV_7, u2_s]))) s9 (show V_9 0 7 = bI s9 from by rw [hV_9, u2_s]) hn3 hn6 hd32 hwn (fun V_M H locs ls hM hw hl => ?_) 32 0 V_9 _ _ ls (by omega) ⟨fun _ _ => rfl, fun d hd i hi => by rw [mnd, if_neg (by omega)]⟩ hw (lv_sub hl [0, 2] rfl)
          have g0 : ∀ j, j = 1 ∨ 8 ≤ j → V_9 0 j = V 0 j := fun j hj => by rw [hV_9, u2_n _ _ (Or.inr (by omega)), hV_8, u2_n _ _ (Or.inr (by omega)), hV_7, u2_n _ _ (Or.inr (by omega)), hV_6, u2_n _ _ (Or.inr (by omega)), hV_5, u2_n _ _ (Or.inr (by omega)), hV_4, u2_n _ _ (Or.inr (by omega)), hV_1, u2_n _ _ (Or.inr (by omega))]
          have gc : ∀ a, a ≠ 0 → V_9 a = V a := fun a ha => by rw [hV_9, u2_r _ _ ha, hV_8, u2_r _ _ ha, hV_7, u2_r _ _ ha, hV_6, u2_r _ _ ha, hV_5, u2_r _ _ ha, hV_4, u2_r _ _ ha, hV_1, u2_r _ _ ha]
          have hC := mR_start (V1 := V_9) (x := x9) hR hn6 hwn ((show V_9 0 2 = nI 0 from by rw [hV_9, u2_n _ _ (Or.inr (by decide))]; exact (by rw [hV_8, u2_n _ _ (Or.inr (by decide))]; exact (by rw [hV_7, u2_n _ _ (Or.inr (by decide))]; exact (by rw [hV_6, u2_n _ _ (Or.inr (by decide))]; exact (by rw [hV_5, u2_n _ _ (Or.inr (by decide))]; exact (by rw [hV_4, u2_s])))))).trans rfl) ⟨(show V_9 0 3 = nI n9 from by rw [hV_9, u2_n _ _ (Or.inr (by decide))]; exact (by rw [hV_8, u2_n _ _ (Or.inr (by decide))]; exact (by rw [hV_7, u2_n _ _ (Or.inr (by decide))]; exact (by rw [hV_6, u2_s])))), (show V_9 0 4 = nI d9 from by rw [hV_9, u2_n _ _ (Or.inr (by decide))]; exact (by rw [hV_8, u2_s])), (show V_9 0 5 = nI x9 from by rw [hV_9, u2_n _ _ (Or.inr (by decide))]; exact (by rw [hV_8, u2_n _ _ (Or.inr (by decide))]; exact (by rw [hV_7, u2_n _ _ (Or.inr (by decide))]; exact (by rw [hV_6, u2_n _ _ (Or.inr (by decide))]; exact (by rw [hV_5, u2_s]))))), (show V_9 0 6 = bI w9 from by rw [hV_9, u2_n _ _ (Or.inr (by decide))]; exact (by rw [hV_8, u2_n _ _ (Or.inr (by decide))]; exact (by rw [hV_7, u2_s]))), (show V_9 0 7 = bI s9 from by rw [hV_9, u2_s])⟩ g0 gc hM
          have h00 : V_M 0 0 = nI 0 := by rw [hM.1 0 (by decide)]; exact (by rw [hV_9, u2_n _ _ (Or.inr (by decide))]; exact (by rw [hV_8, u2_n _ _ (Or.inr (by decide))]; exact (by rw [hV_7, u2_n _ _ (Or.inr (by decide))]; exact (by rw [hV_6, u2_n _ _ (Or.inr (by decide))]; exact (by rw [hV_5, u2_n _ _ (Or.inr (by decide))]; exact (by rw [hV_4, u2_n _ _ (Or.inr (by decide))]; exact (by rw [hV_1, u2_s])))))))
          have hL9 := oStart_y (c := ct) (md := md) (n := n) (wide := wide) (dn := dn) (st := st) (num := num) (lost := lost) (fresh := fresh) (fp := fp) (sh := sh) e2 m0 m1 m2 m3 m4 (by omega) hn6 hd32
          refine lv_aload_n hx hb dX3_start_196 rfl (lv_at hl 0 rfl) ?_
          refine w_get (ci := 3) (C := RX3) (T := TX3) (M := 24) (v := .int (bI s9)) hx hb hts hi3 hown hK hw 0 (by omega) _ (mF_0 _) rfl 7 (by decide) (hts (.fieldLink RX3 67 "WideningArrayModel" "isStashed" "Z") (by decide +kernel)) (congrArg (fun z => some (Value.int z)) (show V_M 0 7 = bI s9 from by rw [hM.1 0 (by decide)]; exact (by rw [hV_9, u2_s]))) dX3_start_197 ?_
          refine lv_if_eq (tgt := 207) hx hb dX3_start_200 (by decide) (fun c_200 => ?_) (fun c_200 => ?_)
          · refine lv_aload_n hx hb dX3_start_207 rfl (lv_at hl 0 rfl) ?_
            refine w_get (ci := 3) (C := RX3) (T := TX3) (M := 24) (v := .int (bI w9)) hx hb hts hi3 hown hK hw 0 (by omega) _ (mF_0 _) rfl 6 (by decide) (hts (.fieldLink RX3 54 "WideningArrayModel" "isWide" "Z") (by decide +kernel)) (congrArg (fun z => some (Value.int z)) (show V_M 0 6 = bI w9 from by rw [hM.1 0 (by decide)]; exact (by rw [hV_9, u2_n _ _ (Or.inr (by decide))]; exact (by rw [hV_8, u2_n _ _ (Or.inr (by decide))]; exact (by rw [hV_7, u2_s]))))) dX3_start_208 ?_
            refine lv_if_eq (tgt := 218) hx hb dX3_start_211 (by decide) (fun c_211 => ?_) (fun c_211 => ?_)
            · refine lv_iconst (v := nI 0) hx hb dX3_start_218 (by decide) ?_
              exact w_iret hx hb hr hlocks hw (by rw [if_neg (by rw [show w9 = false from bI_0.mp c_211]; decide)] at hL9; rw [hL9]; exact ⟨h00, fun _ => rfl, hC⟩) dX3_start_219
            · refine lv_iconst (v := nI 1) hx hb dX3_start_214 (by decide) ?_
              refine lv_goto (tgt := 219) hx hb dX3_start_215 (by decide) ?_
              exact w_iret hx hb hr hlocks hw (by rw [if_pos (bI_n0.mp c_211), if_neg (by rw [show s9 = false from bI_0.mp c_200]; decide)] at hL9; rw [hL9]; exact ⟨h00, fun _ => rfl, hC⟩) dX3_start_219
          · refine lv_iconst (v := nI 2) hx hb dX3_start_203 (by decide) ?_
            refine lv_goto (tgt := 219) hx hb dX3_start_204 (by decide) ?_
            exact w_iret hx hb hr hlocks hw (by rw [if_pos (hsw (bI_n0.mp c_200)), if_pos (bI_n0.mp c_200)] at hL9; rw [hL9]; exact ⟨h00, fun _ => rfl, hC⟩) dX3_start_219
        · refine lv_iconst (v := nI 1) hx hb dX3_start_149 (by decide) ?_
          refine lv_goto (tgt := 154) hx hb dX3_start_150 (by decide) ?_
          refine n_is (show nI 1 = bI s9 from by revert c_146; cases s9 <;> decide) ?_
          refine w_put (ci := 3) (C := RX3) (T := TX3) (M := 24) (x := bI s9) (ty := .boolean) hx hb hts hi3 tyX3 tyX3_ok nmX3 hown hK hw 0 (by omega) _ (mF_0 _) rfl 7 (by decide) (hts (.fieldLink RX3 67 "WideningArrayModel" "isStashed" "Z") (by decide +kernel)) rfl (by decide +kernel) (bI_nar _) (bI_fit _) (Nat.le_of_ble_eq_true rfl) (mF_0 _) dX3_start_154 (fun H locs hw => ?_)
          obtain ⟨V_10, hV_10⟩ : ∃ z : vT, z = u2 V_8 0 7 (bI s9) := ⟨_, rfl⟩
          rw [← hV_10] at hw
          refine lv_iconst (v := nI 0) hx hb dX3_start_157 (by decide) ?_
          refine lv_istore_n (lv' := [(2, .int (nI 0)), (1, .int (nI (stq ct))), (0, .ref (ad 0))]) hx hb dX3_start_158 rfl hl (by decide) rfl (fun ls hl => ?_)
          refine lp_X3_start_m hx hb hts hown hml hK V_10 n9 (show V_10 0 3 = nI n9 from by rw [hV_10, u2_n _ _ (Or.inr (by decide))]; exact (by rw [hV_8, u2_n _ _ (Or.inr (by decide))]; exact (by rw [hV_7, u2_n _ _ (Or.inr (by decide))]; exact (by rw [hV_6, u2_s])))) d9 (show V_10 0 4 = nI d9 from by rw [hV_10, u2_n _ _ (Or.inr (by decide))]; exact (by rw [hV_8, u2_s])) w9 (show V_10 0 6 = bI w9 from by rw [hV_10, u2_n _ _ (Or.inr (by decide))]; exact (by rw [hV_8, u2_n _ _ (Or.inr (by decide))]; exact (by rw [hV_7, u2_s]))) s9 (show V_10 0 7 = bI s9 from by rw [hV_10, u2_s]) hn3 hn6 hd32 hwn (fun V_M H locs ls hM hw hl => ?_) 32 0 V_10 _ _ ls (by omega) ⟨fun _ _ => rfl, fun d hd i hi => by rw [mnd, if_neg (by omega)]⟩ hw (lv_sub hl [0, 2] rfl)
          have g0 : ∀ j, j = 1 ∨ 8 ≤ j → V_10 0 j = V 0 j := fun j hj => by rw [hV_10, u2_n _ _ (Or.inr (by omega)), hV_8, u2_n _ _ (Or.inr (by omega)), hV_7, u2_n _ _ (Or.inr (by omega)), hV_6, u2_n _ _ (Or.inr (by omega)), hV_5, u2_n _ _ (Or.inr (by omega)), hV_4, u2_n _ _ (Or.inr (by omega)), hV_1, u2_n _ _ (Or.inr (by omega))]
          have gc : ∀ a, a ≠ 0 → V_10 a = V a := fun a ha => by rw [hV_10, u2_r _ _ ha, hV_8, u2_r _ _ ha, hV_7, u2_r _ _ ha, hV_6, u2_r _ _ ha, hV_5, u2_r _ _ ha, hV_4, u2_r _ _ ha, hV_1, u2_r _ _ ha]
          have hC := mR_start (V1 := V_10) (x := x9) hR hn6 hwn ((show V_10 0 2 = nI 0 from by rw [hV_10, u2_n _ _ (Or.inr (by decide))]; exact (by rw [hV_8, u2_n _ _ (Or.inr (by decide))]; exact (by rw [hV_7, u2_n _ _ (Or.inr (by decide))]; exact (by rw [hV_6, u2_n _ _ (Or.inr (by decide))]; exact (by rw [hV_5, u2_n _ _ (Or.inr (by decide))]; exact (by rw [hV_4, u2_s])))))).trans rfl) ⟨(show V_10 0 3 = nI n9 from by rw [hV_10, u2_n _ _ (Or.inr (by decide))]; exact (by rw [hV_8, u2_n _ _ (Or.inr (by decide))]; exact (by rw [hV_7, u2_n _ _ (Or.inr (by decide))]; exact (by rw [hV_6, u2_s])))), (show V_10 0 4 = nI d9 from by rw [hV_10, u2_n _ _ (Or.inr (by decide))]; exact (by rw [hV_8, u2_s])), (show V_10 0 5 = nI x9 from by rw [hV_10, u2_n _ _ (Or.inr (by decide))]; exact (by rw [hV_8, u2_n _ _ (Or.inr (by decide))]; exact (by rw [hV_7, u2_n _ _ (Or.inr (by decide))]; exact (by rw [hV_6, u2_n _ _ (Or.inr (by decide))]; exact (by rw [hV_5, u2_s]))))), (show V_10 0 6 = bI w9 from by rw [hV_10, u2_n _ _ (Or.inr (by decide))]; exact (by rw [hV_8, u2_n _ _ (Or.inr (by decide))]; exact (by rw [hV_7, u2_s]))), (show V_10 0 7 = bI s9 from by rw [hV_10, u2_s])⟩ g0 gc hM
          have h00 : V_M 0 0 = nI 0 := by rw [hM.1 0 (by decide)]; exact (by rw [hV_10, u2_n _ _ (Or.inr (by decide))]; exact (by rw [hV_8, u2_n _ _ (Or.inr (by decide))]; exact (by rw [hV_7, u2_n _ _ (Or.inr (by decide))]; exact (by rw [hV_6, u2_n _ _ (Or.inr (by decide))]; exact (by rw [hV_5, u2_n _ _ (Or.inr (by decide))]; exact (by rw [hV_4, u2_n _ _ (Or.inr (by decide))]; exact (by rw [hV_1, u2_s])))))))
          have hL9 := oStart_y (c := ct) (md := md) (n := n) (wide := wide) (dn := dn) (st := st) (num := num) (lost := lost) (fresh := fresh) (fp := fp) (sh := sh) e2 m0 m1 m2 m3 m4 (by omega) hn6 hd32
          refine lv_aload_n hx hb dX3_start_196 rfl (lv_at hl 0 rfl) ?_
          refine w_get (ci := 3) (C := RX3) (T := TX3) (M := 24) (v := .int (bI s9)) hx hb hts hi3 hown hK hw 0 (by omega) _ (mF_0 _) rfl 7 (by decide) (hts (.fieldLink RX3 67 "WideningArrayModel" "isStashed" "Z") (by decide +kernel)) (congrArg (fun z => some (Value.int z)) (show V_M 0 7 = bI s9 from by rw [hM.1 0 (by decide)]; exact (by rw [hV_10, u2_s]))) dX3_start_197 ?_
          refine lv_if_eq (tgt := 207) hx hb dX3_start_200 (by decide) (fun c_200 => ?_) (fun c_200 => ?_)
          · refine lv_aload_n hx hb dX3_start_207 rfl (lv_at hl 0 rfl) ?_
            refine w_get (ci := 3) (C := RX3) (T := TX3) (M := 24) (v := .int (bI w9)) hx hb hts hi3 hown hK hw 0 (by omega) _ (mF_0 _) rfl 6 (by decide) (hts (.fieldLink RX3 54 "WideningArrayModel" "isWide" "Z") (by decide +kernel)) (congrArg (fun z => some (Value.int z)) (show V_M 0 6 = bI w9 from by rw [hM.1 0 (by decide)]; exact (by rw [hV_10, u2_n _ _ (Or.inr (by decide))]; exact (by rw [hV_8, u2_n _ _ (Or.inr (by decide))]; exact (by rw [hV_7, u2_s]))))) dX3_start_208 ?_
            refine lv_if_eq (tgt := 218) hx hb dX3_start_211 (by decide) (fun c_211 => ?_) (fun c_211 => ?_)
            · refine lv_iconst (v := nI 0) hx hb dX3_start_218 (by decide) ?_
              exact w_iret hx hb hr hlocks hw (by rw [if_neg (by rw [show w9 = false from bI_0.mp c_211]; decide)] at hL9; rw [hL9]; exact ⟨h00, fun _ => rfl, hC⟩) dX3_start_219
            · refine lv_iconst (v := nI 1) hx hb dX3_start_214 (by decide) ?_
              refine lv_goto (tgt := 219) hx hb dX3_start_215 (by decide) ?_
              exact w_iret hx hb hr hlocks hw (by rw [if_pos (bI_n0.mp c_211), if_neg (by rw [show s9 = false from bI_0.mp c_200]; decide)] at hL9; rw [hL9]; exact ⟨h00, fun _ => rfl, hC⟩) dX3_start_219
          · refine lv_iconst (v := nI 2) hx hb dX3_start_203 (by decide) ?_
            refine lv_goto (tgt := 219) hx hb dX3_start_204 (by decide) ?_
            exact w_iret hx hb hr hlocks hw (by rw [if_pos (hsw (bI_n0.mp c_200)), if_pos (bI_n0.mp c_200)] at hL9; rw [hL9]; exact ⟨h00, fun _ => rfl, hC⟩) dX3_start_219
      · refine lv_iconst (v := nI 1) hx hb dX3_start_112 (by decide) ?_
        refine lv_goto (tgt := 117) hx hb dX3_start_113 (by decide) ?_
        refine n_is (show nI 1 = bI w9 from by revert c_109; cases w9 <;> decide) ?_
        refine w_put (ci := 3) (C := RX3) (T := TX3) (M := 24) (x := bI w9) (ty := .boolean) hx hb hts hi3 tyX3 tyX3_ok nmX3 hown hK hw 0 (by omega) _ (mF_0 _) rfl 6 (by decide) (hts (.fieldLink RX3 54 "WideningArrayModel" "isWide" "Z") (by decide +kernel)) rfl (by decide +kernel) (bI_nar _) (bI_fit _) (Nat.le_of_ble_eq_true rfl) (mF_0 _) dX3_start_117 (fun H locs hw => ?_)
        obtain ⟨V_11, hV_11⟩ : ∃ z : vT, z = u2 V_6 0 6 (bI w9) := ⟨_, rfl⟩
        rw [← hV_11] at hw
        refine lv_aload_n hx hb dX3_start_120 rfl (lv_at hl 1 rfl) ?_
        refine lv_aload_n hx hb dX3_start_121 rfl (lv_at hl 1 rfl) ?_
        refine w_get (ci := 3) (C := RX3) (T := TX3) (M := 24) (v := .ref (ad 2)) hx hb hts hi3 hown hK hw 0 (by omega) _ (mF_0 _) rfl 15 (by decide) (hts (.fieldLink RX3 20 "WideningArrayModel" "marks" "[I") (by decide +kernel)) rfl dX3_start_122 ?_
        refine lv_iconst (v := nI 5) hx hb dX3_start_125 (by decide) ?_
        refine lv_iload_n hx hb dX3_start_126 rfl (lv_at hl 0 rfl) ?_
        refine n_mul hx hb dX3_start_127 ?_
        refine lv_iconst (v := nI 3) hx hb dX3_start_128 (by decide) ?_
        refine n_add hx hb dX3_start_129 ?_
        refine w_iald hx hb hK hw 2 70 (by omega) (fun _ => rfl) (i := (5 * (stq ct)) + 3) (by omega) (by decide) dX3_start_130 ?_
        refine n_is (show V_11 2 ((5 * (stq ct)) + 3) = nI d9 from by rw [hV_11, u2_r _ _ (by decide)]; rw [hV_6, u2_r _ _ (by decide)]; rw [hV_5, u2_r _ _ (by decide)]; exact (hm14 3 (by decide)).trans m3) ?_
        refine w_put (ci := 3) (C := RX3) (T := TX3) (M := 24) (x := nI d9) (ty := .int) hx hb hts hi3 tyX3 tyX3_ok nmX3 hown hK hw 0 (by omega) _ (mF_0 _) rfl 4 (by decide) (hts (.fieldLink RX3 64 "WideningArrayModel" "done" "I") (by decide +kernel)) rfl (by decide +kernel) rfl rfl (Nat.le_of_ble_eq_true rfl) (mF_0 _) dX3_start_131 (fun H locs hw => ?_)
        obtain ⟨V_12, hV_12⟩ : ∃ z : vT, z = u2 V_11 0 4 (nI d9) := ⟨_, rfl⟩
        rw [← hV_12] at hw
        refine lv_aload_n hx hb dX3_start_134 rfl (lv_at hl 1 rfl) ?_
        refine lv_aload_n hx hb dX3_start_135 rfl (lv_at hl 1 rfl) ?_
        refine w_get (ci := 3) (C := RX3) (T := TX3) (M := 24) (v := .ref (ad 2)) hx hb hts hi3 hown hK hw 0 (by omega) _ (mF_0 _) rfl 15 (by decide) (hts (.fieldLink RX3 20 "WideningArrayModel" "marks" "[I") (by decide +kernel)) rfl dX3_start_136 ?_
        refine lv_iconst (v := nI 5) hx hb dX3_start_139 (by decide) ?_
        refine lv_iload_n hx hb dX3_start_140 rfl (lv_at hl 0 rfl) ?_
        refine n_mul hx hb dX3_start_141 ?_
        refine lv_iconst (v := nI 4) hx hb dX3_start_142 (by decide) ?_
        refine n_add hx hb dX3_start_143 ?_
        refine w_iald hx hb hK hw 2 70 (by omega) (fun _ => rfl) (i := (5 * (stq ct)) + 4) (by omega) (by decide) dX3_start_144 ?_
        refine n_is (show V_12 2 ((5 * (stq ct)) + 4) = bI s9 from by rw [hV_12, u2_r _ _ (by decide)]; rw [hV_11, u2_r _ _ (by decide)]; rw [hV_6, u2_r _ _ (by decide)]; rw [hV_5, u2_r _ _ (by decide)]; exact (hm14 4 (by decide)).trans m4) ?_
        refine lv_iconst (v := nI 1) hx hb dX3_start_145 (by decide) ?_
        refine lv_icmp_ne (tgt := 153) hx hb dX3_start_146 (by decide) (fun c_146 => ?_) (fun c_146 => ?_)
        · refine lv_iconst (v := nI 0) hx hb dX3_start_153 (by decide) ?_
          refine n_is (show nI 0 = bI s9 from by revert c_146; cases s9 <;> decide) ?_
          refine w_put (ci := 3) (C := RX3) (T := TX3) (M := 24) (x := bI s9) (ty := .boolean) hx hb hts hi3 tyX3 tyX3_ok nmX3 hown hK hw 0 (by omega) _ (mF_0 _) rfl 7 (by decide) (hts (.fieldLink RX3 67 "WideningArrayModel" "isStashed" "Z") (by decide +kernel)) rfl (by decide +kernel) (bI_nar _) (bI_fit _) (Nat.le_of_ble_eq_true rfl) (mF_0 _) dX3_start_154 (fun H locs hw => ?_)
          obtain ⟨V_13, hV_13⟩ : ∃ z : vT, z = u2 V_12 0 7 (bI s9) := ⟨_, rfl⟩
          rw [← hV_13] at hw
          refine lv_iconst (v := nI 0) hx hb dX3_start_157 (by decide) ?_
          refine lv_istore_n (lv' := [(2, .int (nI 0)), (1, .int (nI (stq ct))), (0, .ref (ad 0))]) hx hb dX3_start_158 rfl hl (by decide) rfl (fun ls hl => ?_)
          refine lp_X3_start_m hx hb hts hown hml hK V_13 n9 (show V_13 0 3 = nI n9 from by rw [hV_13, u2_n _ _ (Or.inr (by decide))]; exact (by rw [hV_12, u2_n _ _ (Or.inr (by decide))]; exact (by rw [hV_11, u2_n _ _ (Or.inr (by decide))]; exact (by rw [hV_6, u2_s])))) d9 (show V_13 0 4 = nI d9 from by rw [hV_13, u2_n _ _ (Or.inr (by decide))]; exact (by rw [hV_12, u2_s])) w9 (show V_13 0 6 = bI w9 from by rw [hV_13, u2_n _ _ (Or.inr (by decide))]; exact (by rw [hV_12, u2_n _ _ (Or.inr (by decide))]; exact (by rw [hV_11, u2_s]))) s9 (show V_13 0 7 = bI s9 from by rw [hV_13, u2_s]) hn3 hn6 hd32 hwn (fun V_M H locs ls hM hw hl => ?_) 32 0 V_13 _ _ ls (by omega) ⟨fun _ _ => rfl, fun d hd i hi => by rw [mnd, if_neg (by omega)]⟩ hw (lv_sub hl [0, 2] rfl)
          have g0 : ∀ j, j = 1 ∨ 8 ≤ j → V_13 0 j = V 0 j := fun j hj => by rw [hV_13, u2_n _ _ (Or.inr (by omega)), hV_12, u2_n _ _ (Or.inr (by omega)), hV_11, u2_n _ _ (Or.inr (by omega)), hV_6, u2_n _ _ (Or.inr (by omega)), hV_5, u2_n _ _ (Or.inr (by omega)), hV_4, u2_n _ _ (Or.inr (by omega)), hV_1, u2_n _ _ (Or.inr (by omega))]
          have gc : ∀ a, a ≠ 0 → V_13 a = V a := fun a ha => by rw [hV_13, u2_r _ _ ha, hV_12, u2_r _ _ ha, hV_11, u2_r _ _ ha, hV_6, u2_r _ _ ha, hV_5, u2_r _ _ ha, hV_4, u2_r _ _ ha, hV_1, u2_r _ _ ha]
          have hC := mR_start (V1 := V_13) (x := x9) hR hn6 hwn ((show V_13 0 2 = nI 0 from by rw [hV_13, u2_n _ _ (Or.inr (by decide))]; exact (by rw [hV_12, u2_n _ _ (Or.inr (by decide))]; exact (by rw [hV_11, u2_n _ _ (Or.inr (by decide))]; exact (by rw [hV_6, u2_n _ _ (Or.inr (by decide))]; exact (by rw [hV_5, u2_n _ _ (Or.inr (by decide))]; exact (by rw [hV_4, u2_s])))))).trans rfl) ⟨(show V_13 0 3 = nI n9 from by rw [hV_13, u2_n _ _ (Or.inr (by decide))]; exact (by rw [hV_12, u2_n _ _ (Or.inr (by decide))]; exact (by rw [hV_11, u2_n _ _ (Or.inr (by decide))]; exact (by rw [hV_6, u2_s])))), (show V_13 0 4 = nI d9 from by rw [hV_13, u2_n _ _ (Or.inr (by decide))]; exact (by rw [hV_12, u2_s])), (show V_13 0 5 = nI x9 from by rw [hV_13, u2_n _ _ (Or.inr (by decide))]; exact (by rw [hV_12, u2_n _ _ (Or.inr (by decide))]; exact (by rw [hV_11, u2_n _ _ (Or.inr (by decide))]; exact (by rw [hV_6, u2_n _ _ (Or.inr (by decide))]; exact (by rw [hV_5, u2_s]))))), (show V_13 0 6 = bI w9 from by rw [hV_13, u2_n _ _ (Or.inr (by decide))]; exact (by rw [hV_12, u2_n _ _ (Or.inr (by decide))]; exact (by rw [hV_11, u2_s]))), (show V_13 0 7 = bI s9 from by rw [hV_13, u2_s])⟩ g0 gc hM
          have h00 : V_M 0 0 = nI 0 := by rw [hM.1 0 (by decide)]; exact (by rw [hV_13, u2_n _ _ (Or.inr (by decide))]; exact (by rw [hV_12, u2_n _ _ (Or.inr (by decide))]; exact (by rw [hV_11, u2_n _ _ (Or.inr (by decide))]; exact (by rw [hV_6, u2_n _ _ (Or.inr (by decide))]; exact (by rw [hV_5, u2_n _ _ (Or.inr (by decide))]; exact (by rw [hV_4, u2_n _ _ (Or.inr (by decide))]; exact (by rw [hV_1, u2_s])))))))
          have hL9 := oStart_y (c := ct) (md := md) (n := n) (wide := wide) (dn := dn) (st := st) (num := num) (lost := lost) (fresh := fresh) (fp := fp) (sh := sh) e2 m0 m1 m2 m3 m4 (by omega) hn6 hd32
          refine lv_aload_n hx hb dX3_start_196 rfl (lv_at hl 0 rfl) ?_
          refine w_get (ci := 3) (C := RX3) (T := TX3) (M := 24) (v := .int (bI s9)) hx hb hts hi3 hown hK hw 0 (by omega) _ (mF_0 _) rfl 7 (by decide) (hts (.fieldLink RX3 67 "WideningArrayModel" "isStashed" "Z") (by decide +kernel)) (congrArg (fun z => some (Value.int z)) (show V_M 0 7 = bI s9 from by rw [hM.1 0 (by decide)]; exact (by rw [hV_13, u2_s]))) dX3_start_197 ?_
          refine lv_if_eq (tgt := 207) hx hb dX3_start_200 (by decide) (fun c_200 => ?_) (fun c_200 => ?_)
          · refine lv_aload_n hx hb dX3_start_207 rfl (lv_at hl 0 rfl) ?_
            refine w_get (ci := 3) (C := RX3) (T := TX3) (M := 24) (v := .int (bI w9)) hx hb hts hi3 hown hK hw 0 (by omega) _ (mF_0 _) rfl 6 (by decide) (hts (.fieldLink RX3 54 "WideningArrayModel" "isWide" "Z") (by decide +kernel)) (congrArg (fun z => some (Value.int z)) (show V_M 0 6 = bI w9 from by rw [hM.1 0 (by decide)]; exact (by rw [hV_13, u2_n _ _ (Or.inr (by decide))]; exact (by rw [hV_12, u2_n _ _ (Or.inr (by decide))]; exact (by rw [hV_11, u2_s]))))) dX3_start_208 ?_
            refine lv_if_eq (tgt := 218) hx hb dX3_start_211 (by decide) (fun c_211 => ?_) (fun c_211 => ?_)
            · refine lv_iconst (v := nI 0) hx hb dX3_start_218 (by decide) ?_
              exact w_iret hx hb hr hlocks hw (by rw [if_neg (by rw [show w9 = false from bI_0.mp c_211]; decide)] at hL9; rw [hL9]; exact ⟨h00, fun _ => rfl, hC⟩) dX3_start_219
            · refine lv_iconst (v := nI 1) hx hb dX3_start_214 (by decide) ?_
              refine lv_goto (tgt := 219) hx hb dX3_start_215 (by decide) ?_
              exact w_iret hx hb hr hlocks hw (by rw [if_pos (bI_n0.mp c_211), if_neg (by rw [show s9 = false from bI_0.mp c_200]; decide)] at hL9; rw [hL9]; exact ⟨h00, fun _ => rfl, hC⟩) dX3_start_219
          · refine lv_iconst (v := nI 2) hx hb dX3_start_203 (by decide) ?_
            refine lv_goto (tgt := 219) hx hb dX3_start_204 (by decide) ?_
            exact w_iret hx hb hr hlocks hw (by rw [if_pos (hsw (bI_n0.mp c_200)), if_pos (bI_n0.mp c_200)] at hL9; rw [hL9]; exact ⟨h00, fun _ => rfl, hC⟩) dX3_start_219
        · refine lv_iconst (v := nI 1) hx hb dX3_start_149 (by decide) ?_
          refine lv_goto (tgt := 154) hx hb dX3_start_150 (by decide) ?_
          refine n_is (show nI 1 = bI s9 from by revert c_146; cases s9 <;> decide) ?_
          refine w_put (ci := 3) (C := RX3) (T := TX3) (M := 24) (x := bI s9) (ty := .boolean) hx hb hts hi3 tyX3 tyX3_ok nmX3 hown hK hw 0 (by omega) _ (mF_0 _) rfl 7 (by decide) (hts (.fieldLink RX3 67 "WideningArrayModel" "isStashed" "Z") (by decide +kernel)) rfl (by decide +kernel) (bI_nar _) (bI_fit _) (Nat.le_of_ble_eq_true rfl) (mF_0 _) dX3_start_154 (fun H locs hw => ?_)
          obtain ⟨V_14, hV_14⟩ : ∃ z : vT, z = u2 V_12 0 7 (bI s9) := ⟨_, rfl⟩
          rw [← hV_14] at hw
          refine lv_iconst (v := nI 0) hx hb dX3_start_157 (by decide) ?_
          refine lv_istore_n (lv' := [(2, .int (nI 0)), (1, .int (nI (stq ct))), (0, .ref (ad 0))]) hx hb dX3_start_158 rfl hl (by decide) rfl (fun ls hl => ?_)
          refine lp_X3_start_m hx hb hts hown hml hK V_14 n9 (show V_14 0 3 = nI n9 from by rw [hV_14, u2_n _ _ (Or.inr (by decide))]; exact (by rw [hV_12, u2_n _ _ (Or.inr (by decide))]; exact (by rw [hV_11, u2_n _ _ (Or.inr (by decide))]; exact (by rw [hV_6, u2_s])))) d9 (show V_14 0 4 = nI d9 from by rw [hV_14, u2_n _ _ (Or.inr (by decide))]; exact (by rw [hV_12, u2_s])) w9 (show V_14 0 6 = bI w9 from by rw [hV_14, u2_n _ _ (Or.inr (by decide))]; exact (by rw [hV_12, u2_n _ _ (Or.inr (by decide))]; exact (by rw [hV_11, u2_s]))) s9 (show V_14 0 7 = bI s9 from by rw [hV_14, u2_s]) hn3 hn6 hd32 hwn (fun V_M H locs ls hM hw hl => ?_) 32 0 V_14 _ _ ls (by omega) ⟨fun _ _ => rfl, fun d hd i hi => by rw [mnd, if_neg (by omega)]⟩ hw (lv_sub hl [0, 2] rfl)
          have g0 : ∀ j, j = 1 ∨ 8 ≤ j → V_14 0 j = V 0 j := fun j hj => by rw [hV_14, u2_n _ _ (Or.inr (by omega)), hV_12, u2_n _ _ (Or.inr (by omega)), hV_11, u2_n _ _ (Or.inr (by omega)), hV_6, u2_n _ _ (Or.inr (by omega)), hV_5, u2_n _ _ (Or.inr (by omega)), hV_4, u2_n _ _ (Or.inr (by omega)), hV_1, u2_n _ _ (Or.inr (by omega))]
          have gc : ∀ a, a ≠ 0 → V_14 a = V a := fun a ha => by rw [hV_14, u2_r _ _ ha, hV_12, u2_r _ _ ha, hV_11, u2_r _ _ ha, hV_6, u2_r _ _ ha, hV_5, u2_r _ _ ha, hV_4, u2_r _ _ ha, hV_1, u2_r _ _ ha]
          have hC := mR_start (V1 := V_14) (x := x9) hR hn6 hwn ((show V_14 0 2 = nI 0 from by rw [hV_14, u2_n _ _ (Or.inr (by decide))]; exact (by rw [hV_12, u2_n _ _ (Or.inr (by decide))]; exact (by rw [hV_11, u2_n _ _ (Or.inr (by decide))]; exact (by rw [hV_6, u2_n _ _ (Or.inr (by decide))]; exact (by rw [hV_5, u2_n _ _ (Or.inr (by decide))]; exact (by rw [hV_4, u2_s])))))).trans rfl) ⟨(show V_14 0 3 = nI n9 from by rw [hV_14, u2_n _ _ (Or.inr (by decide))]; exact (by rw [hV_12, u2_n _ _ (Or.inr (by decide))]; exact (by rw [hV_11, u2_n _ _ (Or.inr (by decide))]; exact (by rw [hV_6, u2_s])))), (show V_14 0 4 = nI d9 from by rw [hV_14, u2_n _ _ (Or.inr (by decide))]; exact (by rw [hV_12, u2_s])), (show V_14 0 5 = nI x9 from by rw [hV_14, u2_n _ _ (Or.inr (by decide))]; exact (by rw [hV_12, u2_n _ _ (Or.inr (by decide))]; exact (by rw [hV_11, u2_n _ _ (Or.inr (by decide))]; exact (by rw [hV_6, u2_n _ _ (Or.inr (by decide))]; exact (by rw [hV_5, u2_s]))))), (show V_14 0 6 = bI w9 from by rw [hV_14, u2_n _ _ (Or.inr (by decide))]; exact (by rw [hV_12, u2_n _ _ (Or.inr (by decide))]; exact (by rw [hV_11, u2_s]))), (show V_14 0 7 = bI s9 from by rw [hV_14, u2_s])⟩ g0 gc hM
          have h00 : V_M 0 0 = nI 0 := by rw [hM.1 0 (by decide)]; exact (by rw [hV_14, u2_n _ _ (Or.inr (by decide))]; exact (by rw [hV_12, u2_n _ _ (Or.inr (by decide))]; exact (by rw [hV_11, u2_n _ _ (Or.inr (by decide))]; exact (by rw [hV_6, u2_n _ _ (Or.inr (by decide))]; exact (by rw [hV_5, u2_n _ _ (Or.inr (by decide))]; exact (by rw [hV_4, u2_n _ _ (Or.inr (by decide))]; exact (by rw [hV_1, u2_s])))))))
          have hL9 := oStart_y (c := ct) (md := md) (n := n) (wide := wide) (dn := dn) (st := st) (num := num) (lost := lost) (fresh := fresh) (fp := fp) (sh := sh) e2 m0 m1 m2 m3 m4 (by omega) hn6 hd32
          refine lv_aload_n hx hb dX3_start_196 rfl (lv_at hl 0 rfl) ?_
          refine w_get (ci := 3) (C := RX3) (T := TX3) (M := 24) (v := .int (bI s9)) hx hb hts hi3 hown hK hw 0 (by omega) _ (mF_0 _) rfl 7 (by decide) (hts (.fieldLink RX3 67 "WideningArrayModel" "isStashed" "Z") (by decide +kernel)) (congrArg (fun z => some (Value.int z)) (show V_M 0 7 = bI s9 from by rw [hM.1 0 (by decide)]; exact (by rw [hV_14, u2_s]))) dX3_start_197 ?_
          refine lv_if_eq (tgt := 207) hx hb dX3_start_200 (by decide) (fun c_200 => ?_) (fun c_200 => ?_)
          · refine lv_aload_n hx hb dX3_start_207 rfl (lv_at hl 0 rfl) ?_
            refine w_get (ci := 3) (C := RX3) (T := TX3) (M := 24) (v := .int (bI w9)) hx hb hts hi3 hown hK hw 0 (by omega) _ (mF_0 _) rfl 6 (by decide) (hts (.fieldLink RX3 54 "WideningArrayModel" "isWide" "Z") (by decide +kernel)) (congrArg (fun z => some (Value.int z)) (show V_M 0 6 = bI w9 from by rw [hM.1 0 (by decide)]; exact (by rw [hV_14, u2_n _ _ (Or.inr (by decide))]; exact (by rw [hV_12, u2_n _ _ (Or.inr (by decide))]; exact (by rw [hV_11, u2_s]))))) dX3_start_208 ?_
            refine lv_if_eq (tgt := 218) hx hb dX3_start_211 (by decide) (fun c_211 => ?_) (fun c_211 => ?_)
            · refine lv_iconst (v := nI 0) hx hb dX3_start_218 (by decide) ?_
              exact w_iret hx hb hr hlocks hw (by rw [if_neg (by rw [show w9 = false from bI_0.mp c_211]; decide)] at hL9; rw [hL9]; exact ⟨h00, fun _ => rfl, hC⟩) dX3_start_219
            · refine lv_iconst (v := nI 1) hx hb dX3_start_214 (by decide) ?_
              refine lv_goto (tgt := 219) hx hb dX3_start_215 (by decide) ?_
              exact w_iret hx hb hr hlocks hw (by rw [if_pos (bI_n0.mp c_211), if_neg (by rw [show s9 = false from bI_0.mp c_200]; decide)] at hL9; rw [hL9]; exact ⟨h00, fun _ => rfl, hC⟩) dX3_start_219
          · refine lv_iconst (v := nI 2) hx hb dX3_start_203 (by decide) ?_
            refine lv_goto (tgt := 219) hx hb dX3_start_204 (by decide) ?_
            exact w_iret hx hb hr hlocks hw (by rw [if_pos (hsw (bI_n0.mp c_200)), if_pos (bI_n0.mp c_200)] at hL9; rw [hL9]; exact ⟨h00, fun _ => rfl, hC⟩) dX3_start_219
    · refine lv_aload_n hx hb dX3_start_19 rfl (lv_at hl 0 rfl) ?_
      refine lv_iconst (v := nI 1) hx hb dX3_start_20 (by decide) ?_
      refine w_calli hw (va_runV (As := [.int (nI 1)]) (rest := []) ⟨hx, hb, hml, hown, hts⟩ (c_X3_fail l D cI cD ad _ V_1 (nI 1)) (cwV 1 hts gX3_start_X3_fail rfl rfl rfl (by decide +kernel) ⟨Nat.le_of_ble_eq_true rfl, Nat.le_of_ble_eq_true rfl⟩) (w_preV hK hw (by omega) (mF_0 _) rfl _) rfl rfl hl.1 rfl (lv_room (Nat.le_of_ble_eq_true rfl)) dX3_start_21 ⟨Nat.le_of_ble_eq_true rfl, Nat.le_of_ble_eq_true rfl⟩) (fun r_16 V_15 H locs hp hw => ?_)
      obtain ⟨e9f, e8⟩ := hp
      subst e8
      exact w_iret hx hb hr hlocks hw (by have hL : oStart (ct, (md, fd), (n, wide, dn, st, num), (lost, fresh), (fp, sh)) = (1, 0, (ct, (md, fd), (n, wide, dn, st, num), (lost, fresh), (fp, sh))) := (by rw [oStart]; refine if_pos ?_; first | exact bI_0.mp c_16 | exact (hWF.2.2.1 (bI_0.mp c_9)).1); rw [hL]; exact ⟨by rw [e9f, u2_s], fun h => absurd (show (1 : Nat) = 0 from h) (by decide), mR_u0 (mR_u0 hR hV_1) e9f⟩) dX3_start_24
