set_option maxHeartbeats 4000000 in
set_option maxRecDepth 100000 in
theorem lp_X3_wordOf {p : Program} {l : Launch} {e : Env} {s : State} {m : MethodId} {args : Array Value} {below : List Frame} {meth : Method} {c : Code} {Q : State → Prop} {D : va_G} {cI cD : ClassId} {ad : Nat → Nat} (hx : p.tables.exec = Jvm.exec) (hb : c.code = cX3_wordOf) (hts : ∀ w ∈ wsX3_wordOf, w.before args s = true) (hown : s.vm.findClass RX3 = some m.cls) (hml : c.maxLocals = 7) (hK : kK D cI cD s) {V : vT} (k d row i : Nat) (hk6 : k ≤ 6) (hd6 : d < 6) (hrow : row < 40) (hi4 : i < 4) (hk : ∀ (H1 : Heap) (locs1 : List Loc) (ls : Array Slot), wS D 10 ad (mF cI ad) s.heap V H1 locs1 → lv_has ls 7 [(5, .int (xr (fun e => mw V e (row * 4 + i)) d k))] → W p l e ({ frames := 1, cells := 0, slots := 0, locals := 22 }) s m args below meth c H1 locs1 0 0 Q (F0 m 68 ls [])) : ∀ (n j : Nat) (H : Heap) (locs : List Loc) (ls : Array Slot), j + n = k → wS D 10 ad (mF cI ad) s.heap V H locs → lv_has ls 7 [(6, .int (nI j)), (5, .int (xr (fun e => mw V e (row * 4 + i)) d j)), (0, .ref (ad 0)), (1, .int (nI k)), (2, .int (nI d)), (3, .int (nI row)), (4, .int (nI i))] → W p l e ({ frames := 1, cells := 0, slots := 0, locals := 22 }) s m args below meth c H locs 0 0 Q (F0 m 27 ls []) := by
  have hi3 : ∀ w ∈ wsX30, w ∈ wsX3_wordOf := by decide +kernel
  intro n
  induction n with
  | zero =>
    intro j H locs ls hjn hw hl
    refine lv_iload hx hb dX3_wordOf_27 (lv_at hl 0 rfl) ?_
    refine lv_iload_n hx hb dX3_wordOf_29 rfl (lv_at hl 3 rfl) ?_
    refine n_icmp_ge (tgt := 68) hx hb dX3_wordOf_30 (by decide) (by omega) (by omega) (fun c_30 => ?_) (fun c_30 => ?_)
    · have e1 : j = k := by omega
      subst e1
      exact hk H locs ls hw (lv_sub hl [1] rfl)
    · exfalso
      omega
  | succ n ih =>
    intro j H locs ls hjn hw hl
    refine lv_iload hx hb dX3_wordOf_27 (lv_at hl 0 rfl) ?_
    refine lv_iload_n hx hb dX3_wordOf_29 rfl (lv_at hl 3 rfl) ?_
    refine n_icmp_ge (tgt := 68) hx hb dX3_wordOf_30 (by decide) (by omega) (by omega) (fun c_30 => ?_) (fun c_30 => ?_)
    · exfalso
      omega
    · refine lv_iload hx hb dX3_wordOf_33 (lv_at hl 0 rfl) ?_
      refine lv_iload_n hx hb dX3_wordOf_35 rfl (lv_at hl 4 rfl) ?_
      refine n_icmp_ne (tgt := 44) hx hb dX3_wordOf_36 (by decide) (by omega) (by omega) (fun c_36 => ?_) (fun c_36 => ?_)
      · have e2 : xr (fun e => mw V e (row * 4 + i)) d (j + 1) = xr (fun e => mw V e (row * 4 + i)) d j ^^^ mw V j (row * 4 + i) := by rw [xr, if_neg c_36]
        refine lv_iload hx hb dX3_wordOf_44 (lv_at hl 1 rfl) ?_
        refine lv_aload_n hx hb dX3_wordOf_46 rfl (lv_at hl 2 rfl) ?_
        refine w_get (ci := 3) (C := RX3) (T := TX3) (M := 24) (v := .ref (ad 1)) hx hb hts hi3 hown hK hw 0 (by omega) _ (mF_0 _) rfl 14 (by decide) (hts (.fieldLink RX3 16 "WideningArrayModel" "words" "[I") (by decide +kernel)) rfl dX3_wordOf_47 ?_
        refine lv_iload hx hb dX3_wordOf_50 (lv_at hl 0 rfl) ?_
        refine lv_iload_n hx hb dX3_wordOf_52 rfl (lv_at hl 5 rfl) ?_
        refine lv_iload hx hb dX3_wordOf_53 (lv_at hl 6 rfl) ?_
        refine w_calli hw (va_runS (As := [.int (nI j), .int (nI row), .int (nI i)]) (rest := [.ref (ad 1), .int (xr (fun e => mw V e (row * 4 + i)) d j)]) ⟨hx, hb, hml, hown, hts⟩ (c_X3_at l D cI cD ad _ V j row i) (va_cwS 3 hts gX3_wordOf_X3_at rfl rfl rfl (by decide +kernel) ⟨Nat.le_of_ble_eq_true rfl, Nat.le_of_ble_eq_true rfl⟩) (w_preS hK hw _) rfl rfl hl.1 rfl (lv_room (Nat.le_of_ble_eq_true rfl)) dX3_wordOf_55 ⟨Nat.le_of_ble_eq_true rfl, Nat.le_of_ble_eq_true rfl⟩) (fun r_2 V_1 H locs hp hw => ?_)
        obtain ⟨e9, e8⟩ := hp
        subst e9
        subst e8
        refine w_iald hx hb hK hw 1 1120 (by omega) (fun _ => rfl) (i := 160 * j + 4 * row + i) (by omega) (by decide) dX3_wordOf_58 ?_
        refine n_is (show V 1 (160 * j + 4 * row + i) = mw V j (row * 4 + i) from congrArg (V 1) (by omega)) ?_
        refine lv_ixor hx hb dX3_wordOf_59 ?_
        refine lv_istore (lv' := [(5, .int ((xr (fun e => mw V e (row * 4 + i)) d j) ^^^ (mw V j (row * 4 + i)))), (6, .int (nI j)), (0, .ref (ad 0)), (1, .int (nI k)), (2, .int (nI d)), (3, .int (nI row)), (4, .int (nI i))]) hx hb dX3_wordOf_60 hl (by decide) rfl (fun ls hl => ?_)
        refine lv_iinc (v := nI (j + 1)) (lv' := [(6, .int (nI (j + 1))), (5, .int ((xr (fun e => mw V e (row * 4 + i)) d j) ^^^ (mw V j (row * 4 + i)))), (0, .ref (ad 0)), (1, .int (nI k)), (2, .int (nI d)), (3, .int (nI row)), (4, .int (nI i))]) hx hb dX3_wordOf_62 hl (k := 1) rfl (nI_1 _) (by decide) rfl (fun ls hl => ?_)
        refine lv_goto (tgt := 27) hx hb dX3_wordOf_65 (by decide) ?_
        rw [← e2] at hl
        exact ih (j + 1) _ _ ls (by omega) hw (lv_sub hl [0, 1, 2, 3, 4, 5, 6] rfl)
      · have e2 : xr (fun e => mw V e (row * 4 + i)) d (j + 1) = xr (fun e => mw V e (row * 4 + i)) d j := by rw [xr, if_pos c_36]
        refine lv_iload hx hb dX3_wordOf_39 (lv_at hl 1 rfl) ?_
        refine lv_goto (tgt := 60) hx hb dX3_wordOf_41 (by decide) ?_
        refine lv_istore (lv' := [(5, .int (xr (fun e => mw V e (row * 4 + i)) d j)), (6, .int (nI j)), (0, .ref (ad 0)), (1, .int (nI k)), (2, .int (nI d)), (3, .int (nI row)), (4, .int (nI i))]) hx hb dX3_wordOf_60 hl (by decide) rfl (fun ls hl => ?_)
        refine lv_iinc (v := nI (j + 1)) (lv' := [(6, .int (nI (j + 1))), (5, .int (xr (fun e => mw V e (row * 4 + i)) d j)), (0, .ref (ad 0)), (1, .int (nI k)), (2, .int (nI d)), (3, .int (nI row)), (4, .int (nI i))]) hx hb dX3_wordOf_62 hl (k := 1) rfl (nI_1 _) (by decide) rfl (fun ls hl => ?_)
        refine lv_goto (tgt := 27) hx hb dX3_wordOf_65 (by decide) ?_
        rw [← e2] at hl
        exact ih (j + 1) _ _ ls (by omega) hw (lv_sub hl [0, 1, 2, 3, 4, 5, 6] rfl)
set_option maxHeartbeats 4000000 in
set_option maxRecDepth 100000 in
theorem c_X3_wordOf (l : Launch) (D : va_G) (cI cD : ClassId) (ad : Nat → Nat) (sz : Nat) (V : vT) (k d row i : Nat) (hk6 : k ≤ 6) (hd6 : d < 6) (hrow : row < 40) (hi4 : i < 4) (hlf : V 0 8 = -1 ∨ V 0 9 = -1) : Met l yX3_wordOf wsX3_wordOf ({ frames := 1, cells := 0, slots := 0, locals := 22 }) (gP D cI cD 10 ad (mF cI ad) sz V [.ref (ad 0), .int (nI k), .int (nI d), .int (nI row), .int (nI i)]) (va_Qi (fun (r : Int32) (V1 : vT) => V = V1 ∧ told (mw V) (ab (V 0 8) (V 0 9)) k row d i = r) (gB D 10 ad (mF cI ad)) (gA 10 ad sz)) 0 0 (gA 10 ad sz) := by
  refine w_met (cc := cX3_wordOf) (maxL := 7) (ret := (some .int)) (by decide) rfl (Nat.le_of_ble_eq_true rfl) ?_
  intro p e s m below meth c hx hb hr hts hown hlocks hml hsz hK hw ls hl
  subst hsz
  have hown : s.vm.findClass RX3 = some m.cls := hown
  have hi3 : ∀ w ∈ wsX30, w ∈ wsX3_wordOf := by decide +kernel
  have hl : lv_has ls 7 [(0, .ref (ad 0)), (1, .int (nI k)), (2, .int (nI d)), (3, .int (nI row)), (4, .int (nI i))] := hl
  refine lv_aload_n hx hb dX3_wordOf_0 rfl (lv_at hl 0 rfl) ?_
  refine lv_iload_n hx hb dX3_wordOf_1 rfl (lv_at hl 2 rfl) ?_
  refine w_calli hw (va_runV (As := [.int (nI d)]) (rest := []) ⟨hx, hb, hml, hown, hts⟩ (c_X3_isOut l D cI cD ad _ V d (by omega) hlf) (cwV 1 hts gX3_wordOf_X3_isOut rfl rfl rfl (by decide +kernel) ⟨Nat.le_of_ble_eq_true rfl, Nat.le_of_ble_eq_true rfl⟩) (w_preV hK hw (by omega) (mF_0 _) rfl _) rfl rfl hl.1 rfl (lv_room (Nat.le_of_ble_eq_true rfl)) dX3_wordOf_2 ⟨Nat.le_of_ble_eq_true rfl, Nat.le_of_ble_eq_true rfl⟩) (fun r_2 V_1 H locs hp hw => ?_)
  obtain ⟨e9, e8⟩ := hp
  subst e9
  subst e8
  refine lv_if_ne (tgt := 21) hx hb dX3_wordOf_5 (by decide) (fun c_5 => ?_) (fun c_5 => ?_)
  · refine lv_iconst (v := nI 0) hx hb dX3_wordOf_21 (by decide) ?_
    refine lv_istore (lv' := [(5, .int (nI 0)), (0, .ref (ad 0)), (1, .int (nI k)), (2, .int (nI d)), (3, .int (nI row)), (4, .int (nI i))]) hx hb dX3_wordOf_22 hl (by decide) rfl (fun ls hl => ?_)
    refine lv_iconst (v := nI 0) hx hb dX3_wordOf_24 (by decide) ?_
    refine lv_istore (lv' := [(6, .int (nI 0)), (5, .int (nI 0)), (0, .ref (ad 0)), (1, .int (nI k)), (2, .int (nI d)), (3, .int (nI row)), (4, .int (nI i))]) hx hb dX3_wordOf_25 hl (by decide) rfl (fun ls hl => ?_)
    refine lp_X3_wordOf hx hb hts hown hml hK k d row i hk6 hd6 hrow hi4 (fun H locs ls hw hl => ?_) k 0 _ _ ls (by omega) hw (lv_sub hl [0, 1, 2, 3, 4, 5, 6] rfl)
    refine lv_iload hx hb dX3_wordOf_68 (lv_at hl 0 rfl) ?_
    exact w_iret hx hb hr hlocks hw (⟨rfl, by rw [told, if_pos (of_decide_eq_true (bI_n0.mp c_5))]⟩) dX3_wordOf_70
  · refine lv_aload_n hx hb dX3_wordOf_8 rfl (lv_at hl 0 rfl) ?_
    refine w_get (ci := 3) (C := RX3) (T := TX3) (M := 24) (v := .ref (ad 1)) hx hb hts hi3 hown hK hw 0 (by omega) _ (mF_0 _) rfl 14 (by decide) (hts (.fieldLink RX3 16 "WideningArrayModel" "words" "[I") (by decide +kernel)) rfl dX3_wordOf_9 ?_
    refine lv_iload_n hx hb dX3_wordOf_12 rfl (lv_at hl 2 rfl) ?_
    refine lv_iload_n hx hb dX3_wordOf_13 rfl (lv_at hl 3 rfl) ?_
    refine lv_iload hx hb dX3_wordOf_14 (lv_at hl 4 rfl) ?_
    refine w_calli hw (va_runS (As := [.int (nI d), .int (nI row), .int (nI i)]) (rest := [.ref (ad 1)]) ⟨hx, hb, hml, hown, hts⟩ (c_X3_at l D cI cD ad _ V d row i) (va_cwS 3 hts gX3_wordOf_X3_at rfl rfl rfl (by decide +kernel) ⟨Nat.le_of_ble_eq_true rfl, Nat.le_of_ble_eq_true rfl⟩) (w_preS hK hw _) rfl rfl hl.1 rfl (lv_room (Nat.le_of_ble_eq_true rfl)) dX3_wordOf_16 ⟨Nat.le_of_ble_eq_true rfl, Nat.le_of_ble_eq_true rfl⟩) (fun r_4 V_3 H locs hp hw => ?_)
    obtain ⟨e9, e8⟩ := hp
    subst e9
    subst e8
    refine w_iald hx hb hK hw 1 1120 (by omega) (fun _ => rfl) (i := 160 * d + 4 * row + i) (by omega) (by decide) dX3_wordOf_19 ?_
    refine n_is (show V 1 (160 * d + 4 * row + i) = mw V d (row * 4 + i) from congrArg (V 1) (by omega)) ?_
    exact w_iret hx hb hr hlocks hw (⟨rfl, by rw [told, if_neg (of_decide_eq_false (bI_0.mp c_5))]⟩) dX3_wordOf_20
set_option maxHeartbeats 4000000 in
set_option maxRecDepth 100000 in
theorem c_X3_wordAt (l : Launch) (D : va_G) (cI cD : ClassId) (ad : Nat → Nat) (sz : Nat) (V : vT) (n : Nat) (hn : V 0 3 = nI n) (wide : Bool) (hwd : V 0 6 = bI wide) (dn : Nat) (hdn : V 0 4 = nI dn) (st : Bool) (hst : V 0 7 = bI st) (hn3 : 3 ≤ n) (hn6 : n ≤ 6) (hd32 : dn < 32) (hwn : wide = true → n < 6) (hsw : st = true → wide = true) (hlf : V 0 8 = -1 ∨ V 0 9 = -1) (b i : Nat) (hb31 : b < 1000) (hi4 : i < 4) : Met l yX3_wordAt wsX3_wordAt ({ frames := 2, cells := 0, slots := 0, locals := 48 }) (gP D cI cD 10 ad (mF cI ad) sz V [.ref (ad 0), .int (nI b), .int (nI i)]) (va_Qi (fun (r : Int32) (V1 : vT) => V = V1 ∧ (if b < 32 * (n - 1) then wob (mw V) (ab (V 0 8) (V 0 9)) n wide dn st b i else 0) = r) (gB D 10 ad (mF cI ad)) (gA 10 ad sz)) 0 0 (gA 10 ad sz) := by
  refine w_met (cc := cX3_wordAt) (maxL := 5) (ret := (some .int)) (by decide) rfl (Nat.le_of_ble_eq_true rfl) ?_
  intro p e s m below meth c hx hb hr hts hown hlocks hml hsz hK hw ls hl
  subst hsz
  have hown : s.vm.findClass RX3 = some m.cls := hown
  have hi3 : ∀ w ∈ wsX30, w ∈ wsX3_wordAt := by decide +kernel
  have hl : lv_has ls 5 [(0, .ref (ad 0)), (1, .int (nI b)), (2, .int (nI i))] := hl
  have hbn : dn * n ≤ 192 := Nat.le_trans (Nat.mul_le_mul (show dn ≤ 32 by omega) hn6) (by decide)
  refine lv_iload_n hx hb dX3_wordAt_0 rfl (lv_at hl 1 rfl) ?_
  refine lv_aload_n hx hb dX3_wordAt_1 rfl (lv_at hl 0 rfl) ?_
  refine w_calli hw (va_runV (As := []) (rest := [.int (nI b)]) ⟨hx, hb, hml, hown, hts⟩ (c_X3_capacity l D cI cD ad _ V n (show V 0 3 = nI n from hn) (by omega)) (cwV 0 hts gX3_wordAt_X3_capacity rfl rfl rfl (by decide +kernel) ⟨Nat.le_of_ble_eq_true rfl, Nat.le_of_ble_eq_true rfl⟩) (w_preV hK hw (by omega) (mF_0 _) rfl _) rfl rfl hl.1 rfl (lv_room (Nat.le_of_ble_eq_true rfl)) dX3_wordAt_2 ⟨Nat.le_of_ble_eq_true rfl, Nat.le_of_ble_eq_true rfl⟩) (fun r_2 V_1 H locs hp hw => ?_)
  obtain ⟨e9, e8⟩ := hp
  subst e9
  subst e8
  refine n_icmp_lt (tgt := 10) hx hb dX3_wordAt_5 (by decide) (by omega) (by omega) (fun c_5 => ?_) (fun c_5 => ?_)
  · refine lv_aload_n hx hb dX3_wordAt_10 rfl (lv_at hl 0 rfl) ?_
    refine lv_iload_n hx hb dX3_wordAt_11 rfl (lv_at hl 1 rfl) ?_
    refine w_calli hw (va_runV (As := [.int (nI b)]) (rest := []) ⟨hx, hb, hml, hown, hts⟩ (c_X3_isInWindow l D cI cD ad _ V n (show V 0 3 = nI n from hn) dn (show V 0 4 = nI dn from hdn) st (show V 0 7 = bI st from hst) (by omega) (by omega) (by omega) wide hsw b (by omega)) (cwV 1 hts gX3_wordAt_X3_isInWindow rfl rfl rfl (by decide +kernel) ⟨Nat.le_of_ble_eq_true rfl, Nat.le_of_ble_eq_true rfl⟩) (w_preV hK hw (by omega) (mF_0 _) rfl _) rfl rfl hl.1 rfl (lv_room (Nat.le_of_ble_eq_true rfl)) dX3_wordAt_12 ⟨Nat.le_of_ble_eq_true rfl, Nat.le_of_ble_eq_true rfl⟩) (fun r_4 V_3 H locs hp hw => ?_)
    obtain ⟨e9, e8⟩ := hp
    subst e9
    subst e8
    refine lv_if_eq (tgt := 63) hx hb dX3_wordAt_15 (by decide) (fun c_15 => ?_) (fun c_15 => ?_)
    · have hp9 : ¬ plc n wide dn st b = 2 := of_decide_eq_false (bI_0.mp c_15)
      refine lv_aload_n hx hb dX3_wordAt_63 rfl (lv_at hl 0 rfl) ?_
      refine lv_iload_n hx hb dX3_wordAt_64 rfl (lv_at hl 1 rfl) ?_
      refine w_calli hw (va_runV (As := [.int (nI b)]) (rest := []) ⟨hx, hb, hml, hown, hts⟩ (c_X3_isNew l D cI cD ad _ V n (show V 0 3 = nI n from hn) dn (show V 0 4 = nI dn from hdn) wide (show V 0 6 = bI wide from hwd) (by omega) (by omega) (by omega) st b (by omega)) (cwV 1 hts gX3_wordAt_X3_isNew rfl rfl rfl (by decide +kernel) ⟨Nat.le_of_ble_eq_true rfl, Nat.le_of_ble_eq_true rfl⟩) (w_preV hK hw (by omega) (mF_0 _) rfl _) rfl rfl hl.1 rfl (lv_room (Nat.le_of_ble_eq_true rfl)) dX3_wordAt_65 ⟨Nat.le_of_ble_eq_true rfl, Nat.le_of_ble_eq_true rfl⟩) (fun r_6 V_5 H locs hp hw => ?_)
      obtain ⟨e9, e8⟩ := hp
      subst e9
      subst e8
      refine lv_if_eq (tgt := 80) hx hb dX3_wordAt_68 (by decide) (fun c_68 => ?_) (fun c_68 => ?_)
      · have h1 : ¬ plc n wide dn st b = 1 := of_decide_eq_false (bI_0.mp c_68)
        have hrw : b / (n - 1) < 40 := plc_row hn3 (k := n) c_5 (by omega) (by omega)
        have hbm := Nat.mod_lt b (show 0 < n - 1 by omega)
        have hdd := dd_lt (k := n) (row := b / (n - 1)) (j := b % (n - 1)) (by omega)
        refine lv_aload_n hx hb dX3_wordAt_80 rfl (lv_at hl 0 rfl) ?_
        refine w_get (ci := 3) (C := RX3) (T := TX3) (M := 24) (v := .int (nI n)) hx hb hts hi3 hown hK hw 0 (by omega) _ (mF_0 _) rfl 3 (by decide) (hts (.fieldLink RX3 57 "WideningArrayModel" "n" "I") (by decide +kernel)) (congrArg (fun z => some (Value.int z)) (show V 0 3 = nI n from hn)) dX3_wordAt_81 ?_
        refine lv_istore_n (lv' := [(3, .int (nI n)), (0, .ref (ad 0)), (1, .int (nI b)), (2, .int (nI i))]) hx hb dX3_wordAt_84 rfl hl (by decide) rfl (fun ls hl => ?_)
        refine lv_iload_n hx hb dX3_wordAt_85 rfl (lv_at hl 2 rfl) ?_
        refine lv_iload_n hx hb dX3_wordAt_86 rfl (lv_at hl 0 rfl) ?_
        refine lv_iconst (v := nI 1) hx hb dX3_wordAt_87 (by decide) ?_
        refine n_sub hx hb dX3_wordAt_88 (by omega) ?_
        refine n_div hx hb dX3_wordAt_89 (by omega) (by omega) (by omega) ?_
        refine lv_istore (lv' := [(4, .int (nI (b / (n - 1)))), (3, .int (nI n)), (0, .ref (ad 0)), (1, .int (nI b)), (2, .int (nI i))]) hx hb dX3_wordAt_90 hl (by decide) rfl (fun ls hl => ?_)
        refine lv_aload_n hx hb dX3_wordAt_92 rfl (lv_at hl 2 rfl) ?_
        refine lv_iload_n hx hb dX3_wordAt_93 rfl (lv_at hl 1 rfl) ?_
        refine lv_iload_n hx hb dX3_wordAt_94 rfl (lv_at hl 1 rfl) ?_
        refine lv_iload hx hb dX3_wordAt_95 (lv_at hl 0 rfl) ?_
        refine lv_iload_n hx hb dX3_wordAt_97 rfl (lv_at hl 3 rfl) ?_
        refine lv_iload_n hx hb dX3_wordAt_98 rfl (lv_at hl 1 rfl) ?_
        refine lv_iconst (v := nI 1) hx hb dX3_wordAt_99 (by decide) ?_
        refine n_sub hx hb dX3_wordAt_100 (by omega) ?_
        refine n_rem hx hb dX3_wordAt_101 (by omega) (by omega) (by omega) ?_
        refine w_calli hw (va_runS (As := [.int (nI n), .int (nI (b / (n - 1))), .int (nI (b % (n - 1)))]) (rest := [.int (nI n), .ref (ad 0)]) ⟨hx, hb, hml, hown, hts⟩ (c_X3_dataDisk l D cI cD ad _ V n (b / (n - 1)) (b % (n - 1)) (by omega) (by omega) (by omega) (by omega)) (va_cwS 3 hts gX3_wordAt_X3_dataDisk rfl rfl rfl (by decide +kernel) ⟨Nat.le_of_ble_eq_true rfl, Nat.le_of_ble_eq_true rfl⟩) (w_preS hK hw _) rfl rfl hl.1 rfl (lv_room (Nat.le_of_ble_eq_true rfl)) dX3_wordAt_102 ⟨Nat.le_of_ble_eq_true rfl, Nat.le_of_ble_eq_true rfl⟩) (fun r_8 V_7 H locs hp hw => ?_)
        obtain ⟨e9, e8⟩ := hp
        subst e9
        subst e8
        refine lv_iload hx hb dX3_wordAt_105 (lv_at hl 0 rfl) ?_
        refine lv_iload_n hx hb dX3_wordAt_107 rfl (lv_at hl 4 rfl) ?_
        refine w_calli hw (va_runV (As := [.int (nI n), .int (nI (dd n (b / (n - 1)) (b % (n - 1)))), .int (nI (b / (n - 1))), .int (nI i)]) (rest := []) ⟨hx, hb, hml, hown, hts⟩ (c_X3_wordOf l D cI cD ad _ V n (dd n (b / (n - 1)) (b % (n - 1))) (b / (n - 1)) i (by omega) (by omega) (by omega) (by omega) hlf) (cwV 4 hts gX3_wordAt_X3_wordOf rfl rfl rfl (by decide +kernel) ⟨Nat.le_of_ble_eq_true rfl, Nat.le_of_ble_eq_true rfl⟩) (w_preV hK hw (by omega) (mF_0 _) rfl _) rfl rfl hl.1 rfl (lv_room (Nat.le_of_ble_eq_true rfl)) dX3_wordAt_108 ⟨Nat.le_of_ble_eq_true rfl, Nat.le_of_ble_eq_true rfl⟩) (fun r_10 V_9 H locs hp hw => ?_)
        obtain ⟨e9, e8⟩ := hp
        subst e9
        subst e8
        exact w_iret hx hb hr hlocks hw (⟨rfl, by rw [if_pos c_5, wob, if_neg hp9]; simp only [if_neg h1]⟩) dX3_wordAt_111
      · have h1 := of_decide_eq_true (bI_n0.mp c_68)
        have hn5 := hwn (plc1 h1).1
        have hrw : b / ((n + 1) - 1) < 40 := plc_row hn3 (k := n + 1) c_5 (by omega) (by omega)
        have hbm := Nat.mod_lt b (show 0 < (n + 1) - 1 by omega)
        have hdd := dd_lt (k := n + 1) (row := b / ((n + 1) - 1)) (j := b % ((n + 1) - 1)) (by omega)
        refine lv_aload_n hx hb dX3_wordAt_71 rfl (lv_at hl 0 rfl) ?_
        refine w_get (ci := 3) (C := RX3) (T := TX3) (M := 24) (v := .int (nI n)) hx hb hts hi3 hown hK hw 0 (by omega) _ (mF_0 _) rfl 3 (by decide) (hts (.fieldLink RX3 57 "WideningArrayModel" "n" "I") (by decide +kernel)) (congrArg (fun z => some (Value.int z)) (show V 0 3 = nI n from hn)) dX3_wordAt_72 ?_
        refine lv_iconst (v := nI 1) hx hb dX3_wordAt_75 (by decide) ?_
        refine n_add hx hb dX3_wordAt_76 ?_
        refine lv_goto (tgt := 84) hx hb dX3_wordAt_77 (by decide) ?_
        refine lv_istore_n (lv' := [(3, .int (nI (n + 1))), (0, .ref (ad 0)), (1, .int (nI b)), (2, .int (nI i))]) hx hb dX3_wordAt_84 rfl hl (by decide) rfl (fun ls hl => ?_)
        refine lv_iload_n hx hb dX3_wordAt_85 rfl (lv_at hl 2 rfl) ?_
        refine lv_iload_n hx hb dX3_wordAt_86 rfl (lv_at hl 0 rfl) ?_
        refine lv_iconst (v := nI 1) hx hb dX3_wordAt_87 (by decide) ?_
        refine n_sub hx hb dX3_wordAt_88 (by omega) ?_
        refine n_div hx hb dX3_wordAt_89 (by omega) (by omega) (by omega) ?_
        refine lv_istore (lv' := [(4, .int (nI (b / ((n + 1) - 1)))), (3, .int (nI (n + 1))), (0, .ref (ad 0)), (1, .int (nI b)), (2, .int (nI i))]) hx hb dX3_wordAt_90 hl (by decide) rfl (fun ls hl => ?_)
        refine lv_aload_n hx hb dX3_wordAt_92 rfl (lv_at hl 2 rfl) ?_
        refine lv_iload_n hx hb dX3_wordAt_93 rfl (lv_at hl 1 rfl) ?_
        refine lv_iload_n hx hb dX3_wordAt_94 rfl (lv_at hl 1 rfl) ?_
        refine lv_iload hx hb dX3_wordAt_95 (lv_at hl 0 rfl) ?_
        refine lv_iload_n hx hb dX3_wordAt_97 rfl (lv_at hl 3 rfl) ?_
        refine lv_iload_n hx hb dX3_wordAt_98 rfl (lv_at hl 1 rfl) ?_
        refine lv_iconst (v := nI 1) hx hb dX3_wordAt_99 (by decide) ?_
        refine n_sub hx hb dX3_wordAt_100 (by omega) ?_
        refine n_rem hx hb dX3_wordAt_101 (by omega) (by omega) (by omega) ?_
        refine w_calli hw (va_runS (As := [.int (nI (n + 1)), .int (nI (b / ((n + 1) - 1))), .int (nI (b % ((n + 1) - 1)))]) (rest := [.int (nI (n + 1)), .ref (ad 0)]) ⟨hx, hb, hml, hown, hts⟩ (c_X3_dataDisk l D cI cD ad _ V (n + 1) (b / ((n + 1) - 1)) (b % ((n + 1) - 1)) (by omega) (by omega) (by omega) (by omega)) (va_cwS 3 hts gX3_wordAt_X3_dataDisk rfl rfl rfl (by decide +kernel) ⟨Nat.le_of_ble_eq_true rfl, Nat.le_of_ble_eq_true rfl⟩) (w_preS hK hw _) rfl rfl hl.1 rfl (lv_room (Nat.le_of_ble_eq_true rfl)) dX3_wordAt_102 ⟨Nat.le_of_ble_eq_true rfl, Nat.le_of_ble_eq_true rfl⟩) (fun r_12 V_11 H locs hp hw => ?_)
        obtain ⟨e9, e8⟩ := hp
        subst e9
        subst e8
        refine lv_iload hx hb dX3_wordAt_105 (lv_at hl 0 rfl) ?_
        refine lv_iload_n hx hb dX3_wordAt_107 rfl (lv_at hl 4 rfl) ?_
        refine w_calli hw (va_runV (As := [.int (nI (n + 1)), .int (nI (dd (n + 1) (b / ((n + 1) - 1)) (b % ((n + 1) - 1)))), .int (nI (b / ((n + 1) - 1))), .int (nI i)]) (rest := []) ⟨hx, hb, hml, hown, hts⟩ (c_X3_wordOf l D cI cD ad _ V (n + 1) (dd (n + 1) (b / ((n + 1) - 1)) (b % ((n + 1) - 1))) (b / ((n + 1) - 1)) i (by omega) (by omega) (by omega) (by omega) hlf) (cwV 4 hts gX3_wordAt_X3_wordOf rfl rfl rfl (by decide +kernel) ⟨Nat.le_of_ble_eq_true rfl, Nat.le_of_ble_eq_true rfl⟩) (w_preV hK hw (by omega) (mF_0 _) rfl _) rfl rfl hl.1 rfl (lv_room (Nat.le_of_ble_eq_true rfl)) dX3_wordAt_108 ⟨Nat.le_of_ble_eq_true rfl, Nat.le_of_ble_eq_true rfl⟩) (fun r_14 V_13 H locs hp hw => ?_)
        obtain ⟨e9, e8⟩ := hp
        subst e9
        subst e8
        exact w_iret hx hb hr hlocks hw (⟨rfl, by rw [if_pos c_5, wob, if_neg hp9]; simp only [if_pos h1]⟩) dX3_wordAt_111
    · have hp9 := of_decide_eq_true (bI_n0.mp c_15)
      have hp2 := plc2 hp9
      have hn5 := hwn hp2.1
      refine lv_bipush (v := nI 32) hx hb dX3_wordAt_18 (by decide) ?_
      refine lv_iload_n hx hb dX3_wordAt_20 rfl (lv_at hl 1 rfl) ?_
      refine n_add hx hb dX3_wordAt_21 ?_
      refine lv_aload_n hx hb dX3_wordAt_22 rfl (lv_at hl 0 rfl) ?_
      refine w_get (ci := 3) (C := RX3) (T := TX3) (M := 24) (v := .int (nI dn)) hx hb hts hi3 hown hK hw 0 (by omega) _ (mF_0 _) rfl 4 (by decide) (hts (.fieldLink RX3 64 "WideningArrayModel" "done" "I") (by decide +kernel)) (congrArg (fun z => some (Value.int z)) (show V 0 4 = nI dn from hdn)) dX3_wordAt_23 ?_
      refine lv_aload_n hx hb dX3_wordAt_26 rfl (lv_at hl 0 rfl) ?_
      refine w_get (ci := 3) (C := RX3) (T := TX3) (M := 24) (v := .int (nI n)) hx hb hts hi3 hown hK hw 0 (by omega) _ (mF_0 _) rfl 3 (by decide) (hts (.fieldLink RX3 57 "WideningArrayModel" "n" "I") (by decide +kernel)) (congrArg (fun z => some (Value.int z)) (show V 0 3 = nI n from hn)) dX3_wordAt_27 ?_
      refine n_mul hx hb dX3_wordAt_30 ?_
      refine n_sub hx hb dX3_wordAt_31 (by omega) ?_
      refine lv_istore_n (lv' := [(3, .int (nI ((32 + b) - (dn * n)))), (0, .ref (ad 0)), (1, .int (nI b)), (2, .int (nI i))]) hx hb dX3_wordAt_32 rfl hl (by decide) rfl (fun ls hl => ?_)
      refine lv_aload_n hx hb dX3_wordAt_33 rfl (lv_at hl 1 rfl) ?_
      refine w_get (ci := 3) (C := RX3) (T := TX3) (M := 24) (v := .ref (ad 1)) hx hb hts hi3 hown hK hw 0 (by omega) _ (mF_0 _) rfl 14 (by decide) (hts (.fieldLink RX3 16 "WideningArrayModel" "words" "[I") (by decide +kernel)) rfl dX3_wordAt_34 ?_
      refine lv_aload_n hx hb dX3_wordAt_37 rfl (lv_at hl 1 rfl) ?_
      refine lv_aload_n hx hb dX3_wordAt_38 rfl (lv_at hl 1 rfl) ?_
      refine w_get (ci := 3) (C := RX3) (T := TX3) (M := 24) (v := .int (nI n)) hx hb hts hi3 hown hK hw 0 (by omega) _ (mF_0 _) rfl 3 (by decide) (hts (.fieldLink RX3 57 "WideningArrayModel" "n" "I") (by decide +kernel)) (congrArg (fun z => some (Value.int z)) (show V 0 3 = nI n from hn)) dX3_wordAt_39 ?_
      refine w_calli hw (va_runV (As := [.int (nI n)]) (rest := [.ref (ad 1)]) ⟨hx, hb, hml, hown, hts⟩ (c_X3_isOut l D cI cD ad _ V n (by omega) hlf) (cwV 1 hts gX3_wordAt_X3_isOut rfl rfl rfl (by decide +kernel) ⟨Nat.le_of_ble_eq_true rfl, Nat.le_of_ble_eq_true rfl⟩) (w_preV hK hw (by omega) (mF_0 _) rfl _) rfl rfl hl.1 rfl (lv_room (Nat.le_of_ble_eq_true rfl)) dX3_wordAt_42 ⟨Nat.le_of_ble_eq_true rfl, Nat.le_of_ble_eq_true rfl⟩) (fun r_16 V_15 H locs hp hw => ?_)
      obtain ⟨e9, e8⟩ := hp
      subst e9
      subst e8
      refine lv_if_eq (tgt := 52) hx hb dX3_wordAt_45 (by decide) (fun c_45 => ?_) (fun c_45 => ?_)
      · refine lv_aload_n hx hb dX3_wordAt_52 rfl (lv_at hl 1 rfl) ?_
        refine w_get (ci := 3) (C := RX3) (T := TX3) (M := 24) (v := .int (nI n)) hx hb hts hi3 hown hK hw 0 (by omega) _ (mF_0 _) rfl 3 (by decide) (hts (.fieldLink RX3 57 "WideningArrayModel" "n" "I") (by decide +kernel)) (congrArg (fun z => some (Value.int z)) (show V 0 3 = nI n from hn)) dX3_wordAt_53 ?_
        refine lv_iload_n hx hb dX3_wordAt_56 rfl (lv_at hl 0 rfl) ?_
        refine lv_iload_n hx hb dX3_wordAt_57 rfl (lv_at hl 3 rfl) ?_
        refine w_calli hw (va_runS (As := [.int (nI n), .int (nI ((32 + b) - (dn * n))), .int (nI i)]) (rest := [.ref (ad 1)]) ⟨hx, hb, hml, hown, hts⟩ (c_X3_at l D cI cD ad _ V n ((32 + b) - (dn * n)) i) (va_cwS 3 hts gX3_wordAt_X3_at rfl rfl rfl (by decide +kernel) ⟨Nat.le_of_ble_eq_true rfl, Nat.le_of_ble_eq_true rfl⟩) (w_preS hK hw _) rfl rfl hl.1 rfl (lv_room (Nat.le_of_ble_eq_true rfl)) dX3_wordAt_58 ⟨Nat.le_of_ble_eq_true rfl, Nat.le_of_ble_eq_true rfl⟩) (fun r_18 V_17 H locs hp hw => ?_)
        obtain ⟨e9, e8⟩ := hp
        subst e9
        subst e8
        refine w_iald hx hb hK hw 1 1120 (by omega) (fun _ => rfl) (i := 160 * n + 4 * ((32 + b) - (dn * n)) + i) (by omega) (by decide) dX3_wordAt_61 ?_
        refine n_is (show V 1 (160 * n + 4 * ((32 + b) - (dn * n)) + i) = mw V n ((32 + (b - dn * n)) * 4 + i) from congrArg (V 1) (by omega)) ?_
        exact w_iret hx hb hr hlocks hw (⟨rfl, by rw [if_pos c_5, wob, if_pos hp9, sd, if_neg (fun h => of_decide_eq_false (bI_0.mp c_45) h.symm)]⟩) dX3_wordAt_62
      · refine lv_iconst (v := nI 0) hx hb dX3_wordAt_48 (by decide) ?_
        refine lv_goto (tgt := 56) hx hb dX3_wordAt_49 (by decide) ?_
        refine lv_iload_n hx hb dX3_wordAt_56 rfl (lv_at hl 0 rfl) ?_
        refine lv_iload_n hx hb dX3_wordAt_57 rfl (lv_at hl 3 rfl) ?_
        refine w_calli hw (va_runS (As := [.int (nI 0), .int (nI ((32 + b) - (dn * n))), .int (nI i)]) (rest := [.ref (ad 1)]) ⟨hx, hb, hml, hown, hts⟩ (c_X3_at l D cI cD ad _ V 0 ((32 + b) - (dn * n)) i) (va_cwS 3 hts gX3_wordAt_X3_at rfl rfl rfl (by decide +kernel) ⟨Nat.le_of_ble_eq_true rfl, Nat.le_of_ble_eq_true rfl⟩) (w_preS hK hw _) rfl rfl hl.1 rfl (lv_room (Nat.le_of_ble_eq_true rfl)) dX3_wordAt_58 ⟨Nat.le_of_ble_eq_true rfl, Nat.le_of_ble_eq_true rfl⟩) (fun r_20 V_19 H locs hp hw => ?_)
        obtain ⟨e9, e8⟩ := hp
        subst e9
        subst e8
        refine w_iald hx hb hK hw 1 1120 (by omega) (fun _ => rfl) (i := 160 * 0 + 4 * ((32 + b) - (dn * n)) + i) (by omega) (by decide) dX3_wordAt_61 ?_
        refine n_is (show V 1 (160 * 0 + 4 * ((32 + b) - (dn * n)) + i) = mw V 0 ((32 + (b - dn * n)) * 4 + i) from congrArg (V 1) (by omega)) ?_
        exact w_iret hx hb hr hlocks hw (⟨rfl, by rw [if_pos c_5, wob, if_pos hp9, sd, if_pos (of_decide_eq_true (bI_n0.mp c_45)).symm]⟩) dX3_wordAt_62
  · refine lv_iconst (v := nI 0) hx hb dX3_wordAt_8 (by decide) ?_
    exact w_iret hx hb hr hlocks hw (⟨rfl, by rw [if_neg (by omega)]; rfl⟩) dX3_wordAt_9
set_option maxHeartbeats 4000000 in
set_option maxRecDepth 100000 in
theorem c_X3_issue (l : Launch) (D : va_G) (cI cD : ClassId) (ad : Nat → Nat) (sz : Nat) (V : vT) (q : Nat) (hq : V 0 16 = nI q) (hq32 : q < 32) (d : Nat) (x : Int32) : Met l yX3_issue wsX3_issue ({ frames := 0, cells := 0, slots := 0, locals := 0 }) (gP D cI cD 10 ad (mF cI ad) sz V [.ref (ad 0), .int (nI d), .int x]) (va_Qv (fun (V1 : vT) => V1 = u2 (u2 (u2 V 3 q (nI d)) 4 q x) 0 16 (nI (q + 1))) (gB D 10 ad (mF cI ad)) (gA 10 ad sz)) 0 0 (gA 10 ad sz) := by
  refine w_met (cc := cX3_issue) (maxL := 3) (ret := none) (by decide) rfl (Nat.le_of_ble_eq_true rfl) ?_
  intro p e s m below meth c hx hb hr hts hown hlocks hml hsz hK hw ls hl
  subst hsz
  have hown : s.vm.findClass RX3 = some m.cls := hown
  have hi3 : ∀ w ∈ wsX30, w ∈ wsX3_issue := by decide +kernel
  have hl : lv_has ls 3 [(0, .ref (ad 0)), (1, .int (nI d)), (2, .int x)] := hl
  refine lv_aload_n hx hb dX3_issue_0 rfl (lv_at hl 0 rfl) ?_
  refine w_get (ci := 3) (C := RX3) (T := TX3) (M := 24) (v := .ref (ad 3)) hx hb hts hi3 hown hK hw 0 (by omega) _ (mF_0 _) rfl 17 (by decide) (hts (.fieldLink RX3 23 "WideningArrayModel" "toDisk" "[I") (by decide +kernel)) rfl dX3_issue_1 ?_
  refine lv_aload_n hx hb dX3_issue_4 rfl (lv_at hl 0 rfl) ?_
  refine w_get (ci := 3) (C := RX3) (T := TX3) (M := 24) (v := .int (nI q)) hx hb hts hi3 hown hK hw 0 (by omega) _ (mF_0 _) rfl 16 (by decide) (hts (.fieldLink RX3 99 "WideningArrayModel" "waiting" "I") (by decide +kernel)) (congrArg (fun z => some (Value.int z)) (show V 0 16 = nI q from hq)) dX3_issue_5 ?_
  refine lv_iload_n hx hb dX3_issue_8 rfl (lv_at hl 1 rfl) ?_
  refine w_iast hx hb hK hw 3 32 (by omega) (fun _ => rfl) (i := q) (by omega) (by decide) dX3_issue_9 (fun H locs hw => ?_)
  obtain ⟨V_1, hV_1⟩ : ∃ z : vT, z = u2 V 3 q (nI d) := ⟨_, rfl⟩
  rw [← hV_1] at hw
  refine lv_aload_n hx hb dX3_issue_10 rfl (lv_at hl 0 rfl) ?_
  refine w_get (ci := 3) (C := RX3) (T := TX3) (M := 24) (v := .ref (ad 4)) hx hb hts hi3 hown hK hw 0 (by omega) _ (mF_0 _) rfl 18 (by decide) (hts (.fieldLink RX3 26 "WideningArrayModel" "toRow" "[I") (by decide +kernel)) rfl dX3_issue_11 ?_
  refine lv_aload_n hx hb dX3_issue_14 rfl (lv_at hl 0 rfl) ?_
  refine w_get (ci := 3) (C := RX3) (T := TX3) (M := 24) (v := .int (nI q)) hx hb hts hi3 hown hK hw 0 (by omega) _ (mF_0 _) rfl 16 (by decide) (hts (.fieldLink RX3 99 "WideningArrayModel" "waiting" "I") (by decide +kernel)) (congrArg (fun z => some (Value.int z)) (show V_1 0 16 = nI q from by rw [hV_1, u2_r _ _ (by decide)]; exact (hq))) dX3_issue_15 ?_
  refine lv_iload_n hx hb dX3_issue_18 rfl (lv_at hl 2 rfl) ?_
  refine w_iast hx hb hK hw 4 32 (by omega) (fun _ => rfl) (i := q) (by omega) (by decide) dX3_issue_19 (fun H locs hw => ?_)
  obtain ⟨V_2, hV_2⟩ : ∃ z : vT, z = u2 V_1 4 q x := ⟨_, rfl⟩
  rw [← hV_2] at hw
  refine lv_aload_n hx hb dX3_issue_20 rfl (lv_at hl 0 rfl) ?_
  refine lv_dup hx hb dX3_issue_21 rfl ?_
  refine w_get (ci := 3) (C := RX3) (T := TX3) (M := 24) (v := .int (nI q)) hx hb hts hi3 hown hK hw 0 (by omega) _ (mF_0 _) rfl 16 (by decide) (hts (.fieldLink RX3 99 "WideningArrayModel" "waiting" "I") (by decide +kernel)) (congrArg (fun z => some (Value.int z)) (show V_2 0 16 = nI q from by rw [hV_2, u2_r _ _ (by decide)]; exact (by rw [hV_1, u2_r _ _ (by decide)]; exact (hq)))) dX3_issue_22 ?_
  refine lv_iconst (v := nI 1) hx hb dX3_issue_25 (by decide) ?_
  refine n_add hx hb dX3_issue_26 ?_
  refine w_put (ci := 3) (C := RX3) (T := TX3) (M := 24) (x := nI (q + 1)) (ty := .int) hx hb hts hi3 tyX3 tyX3_ok nmX3 hown hK hw 0 (by omega) _ (mF_0 _) rfl 16 (by decide) (hts (.fieldLink RX3 99 "WideningArrayModel" "waiting" "I") (by decide +kernel)) rfl (by decide +kernel) rfl rfl (Nat.le_of_ble_eq_true rfl) (mF_0 _) dX3_issue_27 (fun H locs hw => ?_)
  obtain ⟨V_3, hV_3⟩ : ∃ z : vT, z = u2 V_2 0 16 (nI (q + 1)) := ⟨_, rfl⟩
  rw [← hV_3] at hw
  exact w_vret hx hb hr hlocks hw (by rw [hV_3, hV_2, hV_1]) dX3_issue_30
set_option maxHeartbeats 4000000 in
set_option maxRecDepth 100000 in
theorem lp_X3_issueBlock {p : Program} {l : Launch} {e : Env} {s : State} {m : MethodId} {args : Array Value} {below : List Frame} {meth : Method} {c : Code} {Q : State → Prop} {D : va_G} {cI cD : ClassId} {ad : Nat → Nat} (hx : p.tables.exec = Jvm.exec) (hb : c.code = cX3_issueBlock) (hts : ∀ w ∈ wsX3_issueBlock, w.before args s = true) (hown : s.vm.findClass RX3 = some m.cls) (hml : c.maxLocals = 4) (hK : kK D cI cD s) (V0 : vT) (q : Nat) (hq : V0 0 16 = nI q) (hq32 : q < 32) (d row : Nat) (hk : ∀ (V1 : vT) (H1 : Heap) (locs1 : List Loc) (ls : Array Slot), ((∀ a, a ≠ 5 → V1 a = V0 a) ∧ ∀ t, V1 5 t = if 5 * q ≤ t ∧ t < 5 * q + 4 then V0 8 (t - 5 * q) else V0 5 t) → wS D 10 ad (mF cI ad) s.heap V1 H1 locs1 → lv_has ls 4 [(0, .ref (ad 0)), (1, .int (nI d)), (2, .int (nI row))] → W p l e ({ frames := 1, cells := 0, slots := 0, locals := 22 }) s m args below meth c H1 locs1 0 0 Q (F0 m 32 ls [])) : ∀ (n j : Nat) (V : vT) (H : Heap) (locs : List Loc) (ls : Array Slot), (j + n = 4) → ((∀ a, a ≠ 5 → V a = V0 a) ∧ ∀ t, V 5 t = if 5 * q ≤ t ∧ t < 5 * q + j then V0 8 (t - 5 * q) else V0 5 t) → wS D 10 ad (mF cI ad) s.heap V H locs → lv_has ls 4 [(3, .int (nI j)), (0, .ref (ad 0)), (1, .int (nI d)), (2, .int (nI row))] → W p l e ({ frames := 1, cells := 0, slots := 0, locals := 22 }) s m args below meth c H locs 0 0 Q (F0 m 2 ls []) := by
  have hi3 : ∀ w ∈ wsX30, w ∈ wsX3_issueBlock := by decide +kernel
  intro n
  induction n with
  | zero =>
    intro j V H locs ls hjn hin hw hl
    refine lv_iload_n hx hb dX3_issueBlock_2 rfl (lv_at hl 0 rfl) ?_
    refine lv_iconst (v := nI 4) hx hb dX3_issueBlock_3 (by decide) ?_
    refine n_icmp_ge (tgt := 32) hx hb dX3_issueBlock_4 (by decide) (by omega) (by omega) (fun c_4 => ?_) (fun c_4 => ?_)
    · have e1 : j = 4 := by omega
      subst e1
      exact hk V H locs ls hin hw (lv_sub hl [1, 2, 3] rfl)
    · exfalso
      omega
  | succ n ih =>
    intro j V H locs ls hjn hin hw hl
    refine lv_iload_n hx hb dX3_issueBlock_2 rfl (lv_at hl 0 rfl) ?_
    refine lv_iconst (v := nI 4) hx hb dX3_issueBlock_3 (by decide) ?_
    refine n_icmp_ge (tgt := 32) hx hb dX3_issueBlock_4 (by decide) (by omega) (by omega) (fun c_4 => ?_) (fun c_4 => ?_)
    · exfalso
      omega
    · refine lv_aload_n hx hb dX3_issueBlock_7 rfl (lv_at hl 1 rfl) ?_
      refine w_get (ci := 3) (C := RX3) (T := TX3) (M := 24) (v := .ref (ad 5)) hx hb hts hi3 hown hK hw 0 (by omega) _ (mF_0 _) rfl 19 (by decide) (hts (.fieldLink RX3 29 "WideningArrayModel" "what" "[I") (by decide +kernel)) rfl dX3_issueBlock_8 ?_
      refine lv_iconst (v := nI 5) hx hb dX3_issueBlock_11 (by decide) ?_
      refine lv_aload_n hx hb dX3_issueBlock_12 rfl (lv_at hl 1 rfl) ?_
      refine w_get (ci := 3) (C := RX3) (T := TX3) (M := 24) (v := .int (nI q)) hx hb hts hi3 hown hK hw 0 (by omega) _ (mF_0 _) rfl 16 (by decide) (hts (.fieldLink RX3 99 "WideningArrayModel" "waiting" "I") (by decide +kernel)) (congrArg (fun z => some (Value.int z)) (show V 0 16 = nI q from by rw [hin.1 0 (by decide)]; exact hq)) dX3_issueBlock_13 ?_
      refine n_mul hx hb dX3_issueBlock_16 ?_
      refine lv_iload_n hx hb dX3_issueBlock_17 rfl (lv_at hl 0 rfl) ?_
      refine n_add hx hb dX3_issueBlock_18 ?_
      refine lv_aload_n hx hb dX3_issueBlock_19 rfl (lv_at hl 1 rfl) ?_
      refine w_get (ci := 3) (C := RX3) (T := TX3) (M := 24) (v := .ref (ad 8)) hx hb hts hi3 hown hK hw 0 (by omega) _ (mF_0 _) rfl 22 (by decide) (hts (.fieldLink RX3 38 "WideningArrayModel" "block" "[I") (by decide +kernel)) rfl dX3_issueBlock_20 ?_
      refine lv_iload_n hx hb dX3_issueBlock_23 rfl (lv_at hl 0 rfl) ?_
      refine w_iald hx hb hK hw 8 4 (by omega) (fun _ => rfl) (i := j) (by omega) (by decide) dX3_issueBlock_24 ?_
      refine w_iast hx hb hK hw 5 160 (by omega) (fun _ => rfl) (i := (5 * q) + j) (by omega) (by decide) dX3_issueBlock_25 (fun H locs hw => ?_)
      obtain ⟨V_1, hV_1⟩ : ∃ z : vT, z = u2 V 5 ((5 * q) + j) (V 8 j) := ⟨_, rfl⟩
      rw [← hV_1] at hw
      refine lv_iinc (v := nI (j + 1)) (lv' := [(3, .int (nI (j + 1))), (0, .ref (ad 0)), (1, .int (nI d)), (2, .int (nI row))]) hx hb dX3_issueBlock_26 hl (k := 0) rfl (nI_1 _) (by decide) rfl (fun ls hl => ?_)
      refine lv_goto (tgt := 2) hx hb dX3_issueBlock_29 (by decide) ?_
      have hin' : (∀ a, a ≠ 5 → V_1 a = V0 a) ∧ ∀ t, V_1 5 t = if 5 * q ≤ t ∧ t < 5 * q + (j + 1) then V0 8 (t - 5 * q) else V0 5 t := by
        refine ⟨fun a ha => by rw [hV_1, u2_r _ _ ha]; exact hin.1 a ha, fun t => ?_⟩
        by_cases z : t = 5 * q + j
        · rw [z, hV_1, u2_s, if_pos (by omega), hin.1 8 (by decide), Nat.add_sub_cancel_left]
        · rw [hV_1, u2_n _ _ (Or.inr z), hin.2 t]
          by_cases z2 : 5 * q ≤ t ∧ t < 5 * q + j
          · rw [if_pos z2, if_pos (by omega)]
          · rw [if_neg z2, if_neg (by omega)]
      exact ih (j + 1) _ _ _ ls (by omega) hin' hw (lv_sub hl [0, 1, 2, 3] rfl)
set_option maxHeartbeats 4000000 in
set_option maxRecDepth 100000 in
theorem c_X3_issueBlock (l : Launch) (D : va_G) (cI cD : ClassId) (ad : Nat → Nat) (sz : Nat) (V : vT) (L : List (Nat × Wr)) (hQ : gQ V L) (hl32 : L.length < 32) (d row : Nat) (hd6 : d < 6) (hrow : row < 40) : Met l yX3_issueBlock wsX3_issueBlock ({ frames := 1, cells := 0, slots := 0, locals := 22 }) (gP D cI cD 10 ad (mF cI ad) sz V [.ref (ad 0), .int (nI d), .int (nI row)]) (va_Qv (fun (V1 : vT) => gQ V1 (L ++ [(d, (some row, V 8))]) ∧ (∀ a, a ≠ 0 → a ≠ 3 → a ≠ 4 → a ≠ 5 → V1 a = V a) ∧ ∀ j, j ≠ 16 → V1 0 j = V 0 j) (gB D 10 ad (mF cI ad)) (gA 10 ad sz)) 0 0 (gA 10 ad sz) := by
  refine w_met (cc := cX3_issueBlock) (maxL := 4) (ret := none) (by decide) rfl (Nat.le_of_ble_eq_true rfl) ?_
  intro p e s m below meth c hx hb hr hts hown hlocks hml hsz hK hw ls hl
  subst hsz
  have hown : s.vm.findClass RX3 = some m.cls := hown
  have hi3 : ∀ w ∈ wsX30, w ∈ wsX3_issueBlock := by decide +kernel
  have hl : lv_has ls 4 [(0, .ref (ad 0)), (1, .int (nI d)), (2, .int (nI row))] := hl
  refine lv_iconst (v := nI 0) hx hb dX3_issueBlock_0 (by decide) ?_
  refine lv_istore_n (lv' := [(3, .int (nI 0)), (0, .ref (ad 0)), (1, .int (nI d)), (2, .int (nI row))]) hx hb dX3_issueBlock_1 rfl hl (by decide) rfl (fun ls hl => ?_)
  refine lp_X3_issueBlock hx hb hts hown hml hK V L.length hQ.1 hl32 d row (fun V_L H locs ls hin hw hl => ?_) 4 0 V _ _ ls (by omega) ⟨fun _ _ => rfl, fun t => by rw [if_neg (by omega)]⟩ hw (lv_sub hl [0, 1, 2, 3] rfl)
  refine lv_aload_n hx hb dX3_issueBlock_32 rfl (lv_at hl 0 rfl) ?_
  refine lv_iload_n hx hb dX3_issueBlock_33 rfl (lv_at hl 1 rfl) ?_
  refine lv_iload_n hx hb dX3_issueBlock_34 rfl (lv_at hl 2 rfl) ?_
  refine w_callv hw (va_runV (As := [.int (nI d), .int (nI row)]) (rest := []) ⟨hx, hb, hml, hown, hts⟩ (c_X3_issue l D cI cD ad _ V_L L.length (by rw [hin.1 0 (by decide)]; exact hQ.1) hl32 d (nI row)) (cwV 2 hts gX3_issueBlock_X3_issue rfl rfl rfl (by decide +kernel) ⟨Nat.le_of_ble_eq_true rfl, Nat.le_of_ble_eq_true rfl⟩) (w_preV hK hw (by omega) (mF_0 _) rfl _) rfl rfl hl.1 rfl (lv_room (Nat.le_of_ble_eq_true rfl)) dX3_issueBlock_35 ⟨Nat.le_of_ble_eq_true rfl, Nat.le_of_ble_eq_true rfl⟩) (fun V_1 H locs hp hw => ?_)
  exact w_vret hx hb hr hlocks hw (gQ_block hQ hl32 hd6 hrow hin hp) dX3_issueBlock_38
set_option maxHeartbeats 4000000 in
set_option maxRecDepth 100000 in
theorem lp_X3_issueMarks {p : Program} {l : Launch} {e : Env} {s : State} {m : MethodId} {args : Array Value} {below : List Frame} {meth : Method} {c : Code} {Q : State → Prop} {D : va_G} {cI cD : ClassId} {ad : Nat → Nat} (hx : p.tables.exec = Jvm.exec) (hb : c.code = cX3_issueMarks) (hts : ∀ w ∈ wsX3_issueMarks, w.before args s = true) (hown : s.vm.findClass RX3 = some m.cls) (hml : c.maxLocals = 7) (hK : kK D cI cD s) (V0 : vT) (L : List (Nat × Wr)) (num : Nat) (hnum : V0 0 5 = nI num) (hnum2 : num + 1 < 2 ^ 31) (n9 : Nat) (w9 : Bool) (d9 : Nat) (s9 : Bool) (mm : Nat) (hmm : mm ≤ 6) (hlm : L.length + mm ≤ 32) (hk : ∀ (V1 : vT) (H1 : Heap) (locs1 : List Loc) (ls : Array Slot), (gQ V1 (L ++ mkL (mkb (num + 1) n9 w9 d9 s9) mm) ∧ (∀ a, a ≠ 0 → a ≠ 3 → a ≠ 4 → a ≠ 5 → V1 a = V0 a) ∧ ∀ j9, j9 ≠ 16 → V1 0 j9 = V0 0 j9) → wS D 10 ad (mF cI ad) s.heap V1 H1 locs1 → lv_has ls 7 [(0, .ref (ad 0))] → W p l e ({ frames := 1, cells := 0, slots := 0, locals := 22 }) s m args below meth c H1 locs1 0 0 Q (F0 m 113 ls [])) : ∀ (n j : Nat) (V : vT) (H : Heap) (locs : List Loc) (ls : Array Slot), (j + n = mm) → (gQ V (L ++ mkL (mkb (num + 1) n9 w9 d9 s9) j) ∧ (∀ a, a ≠ 0 → a ≠ 3 → a ≠ 4 → a ≠ 5 → V a = V0 a) ∧ ∀ j9, j9 ≠ 16 → V 0 j9 = V0 0 j9) → wS D 10 ad (mF cI ad) s.heap V H locs → lv_has ls 7 [(6, .int (nI j)), (0, .ref (ad 0)), (1, .int (nI n9)), (2, .int (bI w9)), (3, .int (nI d9)), (4, .int (bI s9)), (5, .int (nI mm))] → W p l e ({ frames := 1, cells := 0, slots := 0, locals := 22 }) s m args below meth c H locs 0 0 Q (F0 m 3 ls []) := by
  have hi3 : ∀ w ∈ wsX30, w ∈ wsX3_issueMarks := by decide +kernel
  intro n
  induction n with
  | zero =>
    intro j V H locs ls hjn hin hw hl
    refine lv_iload hx hb dX3_issueMarks_3 (lv_at hl 0 rfl) ?_
    refine lv_iload hx hb dX3_issueMarks_5 (lv_at hl 6 rfl) ?_
    refine n_icmp_ge (tgt := 113) hx hb dX3_issueMarks_7 (by decide) (by omega) (by omega) (fun c_7 => ?_) (fun c_7 => ?_)
    · have e1 : j = mm := by omega
      subst e1
      exact hk V H locs ls hin hw (lv_sub hl [1] rfl)
    · exfalso
      omega
  | succ n ih =>
    intro j V H locs ls hjn hin hw hl
    refine lv_iload hx hb dX3_issueMarks_3 (lv_at hl 0 rfl) ?_
    refine lv_iload hx hb dX3_issueMarks_5 (lv_at hl 6 rfl) ?_
    refine n_icmp_ge (tgt := 113) hx hb dX3_issueMarks_7 (by decide) (by omega) (by omega) (fun c_7 => ?_) (fun c_7 => ?_)
    · exfalso
      omega
    · have hlj : (L ++ mkL (mkb (num + 1) n9 w9 d9 s9) j).length < 32 := by rw [List.length_append, mkL_len]; omega
      refine lv_aload_n hx hb dX3_issueMarks_10 rfl (lv_at hl 1 rfl) ?_
      refine w_get (ci := 3) (C := RX3) (T := TX3) (M := 24) (v := .ref (ad 5)) hx hb hts hi3 hown hK hw 0 (by omega) _ (mF_0 _) rfl 19 (by decide) (hts (.fieldLink RX3 29 "WideningArrayModel" "what" "[I") (by decide +kernel)) rfl dX3_issueMarks_11 ?_
      refine lv_iconst (v := nI 5) hx hb dX3_issueMarks_14 (by decide) ?_
      refine lv_aload_n hx hb dX3_issueMarks_15 rfl (lv_at hl 1 rfl) ?_
      refine w_get (ci := 3) (C := RX3) (T := TX3) (M := 24) (v := .int (nI ((L ++ mkL (mkb (num + 1) n9 w9 d9 s9) j).length))) hx hb hts hi3 hown hK hw 0 (by omega) _ (mF_0 _) rfl 16 (by decide) (hts (.fieldLink RX3 99 "WideningArrayModel" "waiting" "I") (by decide +kernel)) (congrArg (fun z => some (Value.int z)) (show V 0 16 = nI ((L ++ mkL (mkb (num + 1) n9 w9 d9 s9) j).length) from hin.1.1)) dX3_issueMarks_16 ?_
      refine n_mul hx hb dX3_issueMarks_19 ?_
      refine lv_aload_n hx hb dX3_issueMarks_20 rfl (lv_at hl 1 rfl) ?_
      refine w_get (ci := 3) (C := RX3) (T := TX3) (M := 24) (v := .int (nI num)) hx hb hts hi3 hown hK hw 0 (by omega) _ (mF_0 _) rfl 5 (by decide) (hts (.fieldLink RX3 106 "WideningArrayModel" "number" "I") (by decide +kernel)) (congrArg (fun z => some (Value.int z)) (show V 0 5 = nI num from by rw [hin.2.2 5 (by decide)]; exact hnum)) dX3_issueMarks_21 ?_
      refine lv_iconst (v := nI 1) hx hb dX3_issueMarks_24 (by decide) ?_
      refine n_add hx hb dX3_issueMarks_25 ?_
      refine w_iast hx hb hK hw 5 160 (by omega) (fun _ => rfl) (i := 5 * ((L ++ mkL (mkb (num + 1) n9 w9 d9 s9) j).length)) (by omega) (by decide) dX3_issueMarks_26 (fun H locs hw => ?_)
      obtain ⟨V_1, hV_1⟩ : ∃ z : vT, z = u2 V 5 (5 * ((L ++ mkL (mkb (num + 1) n9 w9 d9 s9) j).length)) (nI (num + 1)) := ⟨_, rfl⟩
      rw [← hV_1] at hw
      refine lv_aload_n hx hb dX3_issueMarks_27 rfl (lv_at hl 1 rfl) ?_
      refine w_get (ci := 3) (C := RX3) (T := TX3) (M := 24) (v := .ref (ad 5)) hx hb hts hi3 hown hK hw 0 (by omega) _ (mF_0 _) rfl 19 (by decide) (hts (.fieldLink RX3 29 "WideningArrayModel" "what" "[I") (by decide +kernel)) rfl dX3_issueMarks_28 ?_
      refine lv_iconst (v := nI 5) hx hb dX3_issueMarks_31 (by decide) ?_
      refine lv_aload_n hx hb dX3_issueMarks_32 rfl (lv_at hl 1 rfl) ?_
      refine w_get (ci := 3) (C := RX3) (T := TX3) (M := 24) (v := .int (nI ((L ++ mkL (mkb (num + 1) n9 w9 d9 s9) j).length))) hx hb hts hi3 hown hK hw 0 (by omega) _ (mF_0 _) rfl 16 (by decide) (hts (.fieldLink RX3 99 "WideningArrayModel" "waiting" "I") (by decide +kernel)) (congrArg (fun z => some (Value.int z)) (show V_1 0 16 = nI ((L ++ mkL (mkb (num + 1) n9 w9 d9 s9) j).length) from by rw [hV_1, u2_r _ _ (by decide)]; exact (hin.1.1))) dX3_issueMarks_33 ?_
      refine n_mul hx hb dX3_issueMarks_36 ?_
      refine lv_iconst (v := nI 1) hx hb dX3_issueMarks_37 (by decide) ?_
      refine n_add hx hb dX3_issueMarks_38 ?_
      refine lv_iload_n hx hb dX3_issueMarks_39 rfl (lv_at hl 2 rfl) ?_
      refine w_iast hx hb hK hw 5 160 (by omega) (fun _ => rfl) (i := (5 * ((L ++ mkL (mkb (num + 1) n9 w9 d9 s9) j).length)) + 1) (by omega) (by decide) dX3_issueMarks_40 (fun H locs hw => ?_)
      obtain ⟨V_2, hV_2⟩ : ∃ z : vT, z = u2 V_1 5 ((5 * ((L ++ mkL (mkb (num + 1) n9 w9 d9 s9) j).length)) + 1) (nI n9) := ⟨_, rfl⟩
      rw [← hV_2] at hw
      refine lv_aload_n hx hb dX3_issueMarks_41 rfl (lv_at hl 1 rfl) ?_
      refine w_get (ci := 3) (C := RX3) (T := TX3) (M := 24) (v := .ref (ad 5)) hx hb hts hi3 hown hK hw 0 (by omega) _ (mF_0 _) rfl 19 (by decide) (hts (.fieldLink RX3 29 "WideningArrayModel" "what" "[I") (by decide +kernel)) rfl dX3_issueMarks_42 ?_
      refine lv_iconst (v := nI 5) hx hb dX3_issueMarks_45 (by decide) ?_
      refine lv_aload_n hx hb dX3_issueMarks_46 rfl (lv_at hl 1 rfl) ?_
      refine w_get (ci := 3) (C := RX3) (T := TX3) (M := 24) (v := .int (nI ((L ++ mkL (mkb (num + 1) n9 w9 d9 s9) j).length))) hx hb hts hi3 hown hK hw 0 (by omega) _ (mF_0 _) rfl 16 (by decide) (hts (.fieldLink RX3 99 "WideningArrayModel" "waiting" "I") (by decide +kernel)) (congrArg (fun z => some (Value.int z)) (show V_2 0 16 = nI ((L ++ mkL (mkb (num + 1) n9 w9 d9 s9) j).length) from by rw [hV_2, u2_r _ _ (by decide)]; exact (by rw [hV_1, u2_r _ _ (by decide)]; exact (hin.1.1)))) dX3_issueMarks_47 ?_
      refine n_mul hx hb dX3_issueMarks_50 ?_
      refine lv_iconst (v := nI 2) hx hb dX3_issueMarks_51 (by decide) ?_
      refine n_add hx hb dX3_issueMarks_52 ?_
      refine lv_iload_n hx hb dX3_issueMarks_53 rfl (lv_at hl 3 rfl) ?_
      refine lv_if_eq (tgt := 61) hx hb dX3_issueMarks_54 (by decide) (fun c_54 => ?_) (fun c_54 => ?_)
      · refine lv_iconst (v := nI 0) hx hb dX3_issueMarks_61 (by decide) ?_
        refine n_is (show nI 0 = bI w9 from by rw [bI_0.mp c_54]; rfl) ?_
        refine w_iast hx hb hK hw 5 160 (by omega) (fun _ => rfl) (i := (5 * ((L ++ mkL (mkb (num + 1) n9 w9 d9 s9) j).length)) + 2) (by omega) (by decide) dX3_issueMarks_62 (fun H locs hw => ?_)
        obtain ⟨V_3, hV_3⟩ : ∃ z : vT, z = u2 V_2 5 ((5 * ((L ++ mkL (mkb (num + 1) n9 w9 d9 s9) j).length)) + 2) (bI w9) := ⟨_, rfl⟩
        rw [← hV_3] at hw
        refine lv_aload_n hx hb dX3_issueMarks_63 rfl (lv_at hl 1 rfl) ?_
        refine w_get (ci := 3) (C := RX3) (T := TX3) (M := 24) (v := .ref (ad 5)) hx hb hts hi3 hown hK hw 0 (by omega) _ (mF_0 _) rfl 19 (by decide) (hts (.fieldLink RX3 29 "WideningArrayModel" "what" "[I") (by decide +kernel)) rfl dX3_issueMarks_64 ?_
        refine lv_iconst (v := nI 5) hx hb dX3_issueMarks_67 (by decide) ?_
        refine lv_aload_n hx hb dX3_issueMarks_68 rfl (lv_at hl 1 rfl) ?_
        refine w_get (ci := 3) (C := RX3) (T := TX3) (M := 24) (v := .int (nI ((L ++ mkL (mkb (num + 1) n9 w9 d9 s9) j).length))) hx hb hts hi3 hown hK hw 0 (by omega) _ (mF_0 _) rfl 16 (by decide) (hts (.fieldLink RX3 99 "WideningArrayModel" "waiting" "I") (by decide +kernel)) (congrArg (fun z => some (Value.int z)) (show V_3 0 16 = nI ((L ++ mkL (mkb (num + 1) n9 w9 d9 s9) j).length) from by rw [hV_3, u2_r _ _ (by decide)]; exact (by rw [hV_2, u2_r _ _ (by decide)]; exact (by rw [hV_1, u2_r _ _ (by decide)]; exact (hin.1.1))))) dX3_issueMarks_69 ?_
        refine n_mul hx hb dX3_issueMarks_72 ?_
        refine lv_iconst (v := nI 3) hx hb dX3_issueMarks_73 (by decide) ?_
        refine n_add hx hb dX3_issueMarks_74 ?_
        refine lv_iload_n hx hb dX3_issueMarks_75 rfl (lv_at hl 4 rfl) ?_
        refine w_iast hx hb hK hw 5 160 (by omega) (fun _ => rfl) (i := (5 * ((L ++ mkL (mkb (num + 1) n9 w9 d9 s9) j).length)) + 3) (by omega) (by decide) dX3_issueMarks_76 (fun H locs hw => ?_)
        obtain ⟨V_4, hV_4⟩ : ∃ z : vT, z = u2 V_3 5 ((5 * ((L ++ mkL (mkb (num + 1) n9 w9 d9 s9) j).length)) + 3) (nI d9) := ⟨_, rfl⟩
        rw [← hV_4] at hw
        refine lv_aload_n hx hb dX3_issueMarks_77 rfl (lv_at hl 1 rfl) ?_
        refine w_get (ci := 3) (C := RX3) (T := TX3) (M := 24) (v := .ref (ad 5)) hx hb hts hi3 hown hK hw 0 (by omega) _ (mF_0 _) rfl 19 (by decide) (hts (.fieldLink RX3 29 "WideningArrayModel" "what" "[I") (by decide +kernel)) rfl dX3_issueMarks_78 ?_
        refine lv_iconst (v := nI 5) hx hb dX3_issueMarks_81 (by decide) ?_
        refine lv_aload_n hx hb dX3_issueMarks_82 rfl (lv_at hl 1 rfl) ?_
        refine w_get (ci := 3) (C := RX3) (T := TX3) (M := 24) (v := .int (nI ((L ++ mkL (mkb (num + 1) n9 w9 d9 s9) j).length))) hx hb hts hi3 hown hK hw 0 (by omega) _ (mF_0 _) rfl 16 (by decide) (hts (.fieldLink RX3 99 "WideningArrayModel" "waiting" "I") (by decide +kernel)) (congrArg (fun z => some (Value.int z)) (show V_4 0 16 = nI ((L ++ mkL (mkb (num + 1) n9 w9 d9 s9) j).length) from by rw [hV_4, u2_r _ _ (by decide)]; exact (by rw [hV_3, u2_r _ _ (by decide)]; exact (by rw [hV_2, u2_r _ _ (by decide)]; exact (by rw [hV_1, u2_r _ _ (by decide)]; exact (hin.1.1)))))) dX3_issueMarks_83 ?_
        refine n_mul hx hb dX3_issueMarks_86 ?_
        refine lv_iconst (v := nI 4) hx hb dX3_issueMarks_87 (by decide) ?_
        refine n_add hx hb dX3_issueMarks_88 ?_
        refine lv_iload hx hb dX3_issueMarks_89 (lv_at hl 5 rfl) ?_
        refine lv_if_eq (tgt := 98) hx hb dX3_issueMarks_91 (by decide) (fun c_91 => ?_) (fun c_91 => ?_)
        · refine lv_iconst (v := nI 0) hx hb dX3_issueMarks_98 (by decide) ?_
          refine n_is (show nI 0 = bI s9 from by rw [bI_0.mp c_91]; rfl) ?_
          refine w_iast hx hb hK hw 5 160 (by omega) (fun _ => rfl) (i := (5 * ((L ++ mkL (mkb (num + 1) n9 w9 d9 s9) j).length)) + 4) (by omega) (by decide) dX3_issueMarks_99 (fun H locs hw => ?_)
          obtain ⟨V_5, hV_5⟩ : ∃ z : vT, z = u2 V_4 5 ((5 * ((L ++ mkL (mkb (num + 1) n9 w9 d9 s9) j).length)) + 4) (bI s9) := ⟨_, rfl⟩
          rw [← hV_5] at hw
          refine lv_aload_n hx hb dX3_issueMarks_100 rfl (lv_at hl 1 rfl) ?_
          refine lv_iload hx hb dX3_issueMarks_101 (lv_at hl 0 rfl) ?_
          refine lv_iconst (v := (-1)) hx hb dX3_issueMarks_103 (by decide) ?_
          refine w_callv hw (va_runV (As := [.int (nI j), .int (-1)]) (rest := []) ⟨hx, hb, hml, hown, hts⟩ (c_X3_issue l D cI cD ad _ V_5 ((L ++ mkL (mkb (num + 1) n9 w9 d9 s9) j).length) (show V_5 0 16 = nI ((L ++ mkL (mkb (num + 1) n9 w9 d9 s9) j).length) from by rw [hV_5, u2_r _ _ (by decide)]; exact (by rw [hV_4, u2_r _ _ (by decide)]; exact (by rw [hV_3, u2_r _ _ (by decide)]; exact (by rw [hV_2, u2_r _ _ (by decide)]; exact (by rw [hV_1, u2_r _ _ (by decide)]; exact (hin.1.1)))))) hlj j (-1)) (cwV 2 hts gX3_issueMarks_X3_issue rfl rfl rfl (by decide +kernel) ⟨Nat.le_of_ble_eq_true rfl, Nat.le_of_ble_eq_true rfl⟩) (w_preV hK hw (by omega) (mF_0 _) rfl _) rfl rfl hl.1 rfl (lv_room (Nat.le_of_ble_eq_true rfl)) dX3_issueMarks_104 ⟨Nat.le_of_ble_eq_true rfl, Nat.le_of_ble_eq_true rfl⟩) (fun V_6 H locs hp hw => ?_)
          refine lv_iinc (v := nI (j + 1)) (lv' := [(6, .int (nI (j + 1))), (0, .ref (ad 0)), (1, .int (nI n9)), (2, .int (bI w9)), (3, .int (nI d9)), (4, .int (bI s9)), (5, .int (nI mm))]) hx hb dX3_issueMarks_107 hl (k := 0) rfl (nI_1 _) (by decide) rfl (fun ls hl => ?_)
          refine lv_goto (tgt := 3) hx hb dX3_issueMarks_110 (by decide) ?_
          obtain ⟨g1, g2, g3⟩ := gQ_marks hin.1 hlj (by omega) (by omega) hV_1 hV_2 hV_3 hV_4 hV_5 hp
          rw [List.append_assoc, ← mkL_succ] at g1
          exact ih (j + 1) _ _ _ ls (by omega) ⟨g1, fun a q0 q3 q4 q5 => (g2 a q0 q3 q4 q5).trans (hin.2.1 a q0 q3 q4 q5), fun j9 h9 => (g3 j9 h9).trans (hin.2.2 j9 h9)⟩ hw (lv_sub hl [0, 1, 2, 3, 4, 5, 6] rfl)
        · refine lv_iconst (v := nI 1) hx hb dX3_issueMarks_94 (by decide) ?_
          refine lv_goto (tgt := 99) hx hb dX3_issueMarks_95 (by decide) ?_
          refine n_is (show nI 1 = bI s9 from by rw [bI_n0.mp c_91]; rfl) ?_
          refine w_iast hx hb hK hw 5 160 (by omega) (fun _ => rfl) (i := (5 * ((L ++ mkL (mkb (num + 1) n9 w9 d9 s9) j).length)) + 4) (by omega) (by decide) dX3_issueMarks_99 (fun H locs hw => ?_)
          obtain ⟨V_7, hV_7⟩ : ∃ z : vT, z = u2 V_4 5 ((5 * ((L ++ mkL (mkb (num + 1) n9 w9 d9 s9) j).length)) + 4) (bI s9) := ⟨_, rfl⟩
          rw [← hV_7] at hw
          refine lv_aload_n hx hb dX3_issueMarks_100 rfl (lv_at hl 1 rfl) ?_
          refine lv_iload hx hb dX3_issueMarks_101 (lv_at hl 0 rfl) ?_
          refine lv_iconst (v := (-1)) hx hb dX3_issueMarks_103 (by decide) ?_
          refine w_callv hw (va_runV (As := [.int (nI j), .int (-1)]) (rest := []) ⟨hx, hb, hml, hown, hts⟩ (c_X3_issue l D cI cD ad _ V_7 ((L ++ mkL (mkb (num + 1) n9 w9 d9 s9) j).length) (show V_7 0 16 = nI ((L ++ mkL (mkb (num + 1) n9 w9 d9 s9) j).length) from by rw [hV_7, u2_r _ _ (by decide)]; exact (by rw [hV_4, u2_r _ _ (by decide)]; exact (by rw [hV_3, u2_r _ _ (by decide)]; exact (by rw [hV_2, u2_r _ _ (by decide)]; exact (by rw [hV_1, u2_r _ _ (by decide)]; exact (hin.1.1)))))) hlj j (-1)) (cwV 2 hts gX3_issueMarks_X3_issue rfl rfl rfl (by decide +kernel) ⟨Nat.le_of_ble_eq_true rfl, Nat.le_of_ble_eq_true rfl⟩) (w_preV hK hw (by omega) (mF_0 _) rfl _) rfl rfl hl.1 rfl (lv_room (Nat.le_of_ble_eq_true rfl)) dX3_issueMarks_104 ⟨Nat.le_of_ble_eq_true rfl, Nat.le_of_ble_eq_true rfl⟩) (fun V_8 H locs hp hw => ?_)
          refine lv_iinc (v := nI (j + 1)) (lv' := [(6, .int (nI (j + 1))), (0, .ref (ad 0)), (1, .int (nI n9)), (2, .int (bI w9)), (3, .int (nI d9)), (4, .int (bI s9)), (5, .int (nI mm))]) hx hb dX3_issueMarks_107 hl (k := 0) rfl (nI_1 _) (by decide) rfl (fun ls hl => ?_)
          refine lv_goto (tgt := 3) hx hb dX3_issueMarks_110 (by decide) ?_
          obtain ⟨g1, g2, g3⟩ := gQ_marks hin.1 hlj (by omega) (by omega) hV_1 hV_2 hV_3 hV_4 hV_7 hp
          rw [List.append_assoc, ← mkL_succ] at g1
          exact ih (j + 1) _ _ _ ls (by omega) ⟨g1, fun a q0 q3 q4 q5 => (g2 a q0 q3 q4 q5).trans (hin.2.1 a q0 q3 q4 q5), fun j9 h9 => (g3 j9 h9).trans (hin.2.2 j9 h9)⟩ hw (lv_sub hl [0, 1, 2, 3, 4, 5, 6] rfl)
      · refine lv_iconst (v := nI 1) hx hb dX3_issueMarks_57 (by decide) ?_
        refine lv_goto (tgt := 62) hx hb dX3_issueMarks_58 (by decide) ?_
        refine n_is (show nI 1 = bI w9 from by rw [bI_n0.mp c_54]; rfl) ?_
        refine w_iast hx hb hK hw 5 160 (by omega) (fun _ => rfl) (i := (5 * ((L ++ mkL (mkb (num + 1) n9 w9 d9 s9) j).length)) + 2) (by omega) (by decide) dX3_issueMarks_62 (fun H locs hw => ?_)
        obtain ⟨V_9, hV_9⟩ : ∃ z : vT, z = u2 V_2 5 ((5 * ((L ++ mkL (mkb (num + 1) n9 w9 d9 s9) j).length)) + 2) (bI w9) := ⟨_, rfl⟩
        rw [← hV_9] at hw
        refine lv_aload_n hx hb dX3_issueMarks_63 rfl (lv_at hl 1 rfl) ?_
        refine w_get (ci := 3) (C := RX3) (T := TX3) (M := 24) (v := .ref (ad 5)) hx hb hts hi3 hown hK hw 0 (by omega) _ (mF_0 _) rfl 19 (by decide) (hts (.fieldLink RX3 29 "WideningArrayModel" "what" "[I") (by decide +kernel)) rfl dX3_issueMarks_64 ?_
        refine lv_iconst (v := nI 5) hx hb dX3_issueMarks_67 (by decide) ?_
        refine lv_aload_n hx hb dX3_issueMarks_68 rfl (lv_at hl 1 rfl) ?_
        refine w_get (ci := 3) (C := RX3) (T := TX3) (M := 24) (v := .int (nI ((L ++ mkL (mkb (num + 1) n9 w9 d9 s9) j).length))) hx hb hts hi3 hown hK hw 0 (by omega) _ (mF_0 _) rfl 16 (by decide) (hts (.fieldLink RX3 99 "WideningArrayModel" "waiting" "I") (by decide +kernel)) (congrArg (fun z => some (Value.int z)) (show V_9 0 16 = nI ((L ++ mkL (mkb (num + 1) n9 w9 d9 s9) j).length) from by rw [hV_9, u2_r _ _ (by decide)]; exact (by rw [hV_2, u2_r _ _ (by decide)]; exact (by rw [hV_1, u2_r _ _ (by decide)]; exact (hin.1.1))))) dX3_issueMarks_69 ?_
        refine n_mul hx hb dX3_issueMarks_72 ?_
        refine lv_iconst (v := nI 3) hx hb dX3_issueMarks_73 (by decide) ?_
        refine n_add hx hb dX3_issueMarks_74 ?_
        refine lv_iload_n hx hb dX3_issueMarks_75 rfl (lv_at hl 4 rfl) ?_
        refine w_iast hx hb hK hw 5 160 (by omega) (fun _ => rfl) (i := (5 * ((L ++ mkL (mkb (num + 1) n9 w9 d9 s9) j).length)) + 3) (by omega) (by decide) dX3_issueMarks_76 (fun H locs hw => ?_)
        obtain ⟨V_10, hV_10⟩ : ∃ z : vT, z = u2 V_9 5 ((5 * ((L ++ mkL (mkb (num + 1) n9 w9 d9 s9) j).length)) + 3) (nI d9) := ⟨_, rfl⟩
        rw [← hV_10] at hw
        refine lv_aload_n hx hb dX3_issueMarks_77 rfl (lv_at hl 1 rfl) ?_
        refine w_get (ci := 3) (C := RX3) (T := TX3) (M := 24) (v := .ref (ad 5)) hx hb hts hi3 hown hK hw 0 (by omega) _ (mF_0 _) rfl 19 (by decide) (hts (.fieldLink RX3 29 "WideningArrayModel" "what" "[I") (by decide +kernel)) rfl dX3_issueMarks_78 ?_
        refine lv_iconst (v := nI 5) hx hb dX3_issueMarks_81 (by decide) ?_
        refine lv_aload_n hx hb dX3_issueMarks_82 rfl (lv_at hl 1 rfl) ?_
        refine w_get (ci := 3) (C := RX3) (T := TX3) (M := 24) (v := .int (nI ((L ++ mkL (mkb (num + 1) n9 w9 d9 s9) j).length))) hx hb hts hi3 hown hK hw 0 (by omega) _ (mF_0 _) rfl 16 (by decide) (hts (.fieldLink RX3 99 "WideningArrayModel" "waiting" "I") (by decide +kernel)) (congrArg (fun z => some (Value.int z)) (show V_10 0 16 = nI ((L ++ mkL (mkb (num + 1) n9 w9 d9 s9) j).length) from by rw [hV_10, u2_r _ _ (by decide)]; exact (by rw [hV_9, u2_r _ _ (by decide)]; exact (by rw [hV_2, u2_r _ _ (by decide)]; exact (by rw [hV_1, u2_r _ _ (by decide)]; exact (hin.1.1)))))) dX3_issueMarks_83 ?_
        refine n_mul hx hb dX3_issueMarks_86 ?_
        refine lv_iconst (v := nI 4) hx hb dX3_issueMarks_87 (by decide) ?_
        refine n_add hx hb dX3_issueMarks_88 ?_
        refine lv_iload hx hb dX3_issueMarks_89 (lv_at hl 5 rfl) ?_
        refine lv_if_eq (tgt := 98) hx hb dX3_issueMarks_91 (by decide) (fun c_91 => ?_) (fun c_91 => ?_)
        · refine lv_iconst (v := nI 0) hx hb dX3_issueMarks_98 (by decide) ?_
          refine n_is (show nI 0 = bI s9 from by rw [bI_0.mp c_91]; rfl) ?_
          refine w_iast hx hb hK hw 5 160 (by omega) (fun _ => rfl) (i := (5 * ((L ++ mkL (mkb (num + 1) n9 w9 d9 s9) j).length)) + 4) (by omega) (by decide) dX3_issueMarks_99 (fun H locs hw => ?_)
          obtain ⟨V_11, hV_11⟩ : ∃ z : vT, z = u2 V_10 5 ((5 * ((L ++ mkL (mkb (num + 1) n9 w9 d9 s9) j).length)) + 4) (bI s9) := ⟨_, rfl⟩
          rw [← hV_11] at hw
          refine lv_aload_n hx hb dX3_issueMarks_100 rfl (lv_at hl 1 rfl) ?_
          refine lv_iload hx hb dX3_issueMarks_101 (lv_at hl 0 rfl) ?_
          refine lv_iconst (v := (-1)) hx hb dX3_issueMarks_103 (by decide) ?_
          refine w_callv hw (va_runV (As := [.int (nI j), .int (-1)]) (rest := []) ⟨hx, hb, hml, hown, hts⟩ (c_X3_issue l D cI cD ad _ V_11 ((L ++ mkL (mkb (num + 1) n9 w9 d9 s9) j).length) (show V_11 0 16 = nI ((L ++ mkL (mkb (num + 1) n9 w9 d9 s9) j).length) from by rw [hV_11, u2_r _ _ (by decide)]; exact (by rw [hV_10, u2_r _ _ (by decide)]; exact (by rw [hV_9, u2_r _ _ (by decide)]; exact (by rw [hV_2, u2_r _ _ (by decide)]; exact (by rw [hV_1, u2_r _ _ (by decide)]; exact (hin.1.1)))))) hlj j (-1)) (cwV 2 hts gX3_issueMarks_X3_issue rfl rfl rfl (by decide +kernel) ⟨Nat.le_of_ble_eq_true rfl, Nat.le_of_ble_eq_true rfl⟩) (w_preV hK hw (by omega) (mF_0 _) rfl _) rfl rfl hl.1 rfl (lv_room (Nat.le_of_ble_eq_true rfl)) dX3_issueMarks_104 ⟨Nat.le_of_ble_eq_true rfl, Nat.le_of_ble_eq_true rfl⟩) (fun V_12 H locs hp hw => ?_)
          refine lv_iinc (v := nI (j + 1)) (lv' := [(6, .int (nI (j + 1))), (0, .ref (ad 0)), (1, .int (nI n9)), (2, .int (bI w9)), (3, .int (nI d9)), (4, .int (bI s9)), (5, .int (nI mm))]) hx hb dX3_issueMarks_107 hl (k := 0) rfl (nI_1 _) (by decide) rfl (fun ls hl => ?_)
          refine lv_goto (tgt := 3) hx hb dX3_issueMarks_110 (by decide) ?_
          obtain ⟨g1, g2, g3⟩ := gQ_marks hin.1 hlj (by omega) (by omega) hV_1 hV_2 hV_9 hV_10 hV_11 hp
          rw [List.append_assoc, ← mkL_succ] at g1
          exact ih (j + 1) _ _ _ ls (by omega) ⟨g1, fun a q0 q3 q4 q5 => (g2 a q0 q3 q4 q5).trans (hin.2.1 a q0 q3 q4 q5), fun j9 h9 => (g3 j9 h9).trans (hin.2.2 j9 h9)⟩ hw (lv_sub hl [0, 1, 2, 3, 4, 5, 6] rfl)
        · refine lv_iconst (v := nI 1) hx hb dX3_issueMarks_94 (by decide) ?_
          refine lv_goto (tgt := 99) hx hb dX3_issueMarks_95 (by decide) ?_
          refine n_is (show nI 1 = bI s9 from by rw [bI_n0.mp c_91]; rfl) ?_
          refine w_iast hx hb hK hw 5 160 (by omega) (fun _ => rfl) (i := (5 * ((L ++ mkL (mkb (num + 1) n9 w9 d9 s9) j).length)) + 4) (by omega) (by decide) dX3_issueMarks_99 (fun H locs hw => ?_)
          obtain ⟨V_13, hV_13⟩ : ∃ z : vT, z = u2 V_10 5 ((5 * ((L ++ mkL (mkb (num + 1) n9 w9 d9 s9) j).length)) + 4) (bI s9) := ⟨_, rfl⟩
          rw [← hV_13] at hw
          refine lv_aload_n hx hb dX3_issueMarks_100 rfl (lv_at hl 1 rfl) ?_
          refine lv_iload hx hb dX3_issueMarks_101 (lv_at hl 0 rfl) ?_
          refine lv_iconst (v := (-1)) hx hb dX3_issueMarks_103 (by decide) ?_
          refine w_callv hw (va_runV (As := [.int (nI j), .int (-1)]) (rest := []) ⟨hx, hb, hml, hown, hts⟩ (c_X3_issue l D cI cD ad _ V_13 ((L ++ mkL (mkb (num + 1) n9 w9 d9 s9) j).length) (show V_13 0 16 = nI ((L ++ mkL (mkb (num + 1) n9 w9 d9 s9) j).length) from by rw [hV_13, u2_r _ _ (by decide)]; exact (by rw [hV_10, u2_r _ _ (by decide)]; exact (by rw [hV_9, u2_r _ _ (by decide)]; exact (by rw [hV_2, u2_r _ _ (by decide)]; exact (by rw [hV_1, u2_r _ _ (by decide)]; exact (hin.1.1)))))) hlj j (-1)) (cwV 2 hts gX3_issueMarks_X3_issue rfl rfl rfl (by decide +kernel) ⟨Nat.le_of_ble_eq_true rfl, Nat.le_of_ble_eq_true rfl⟩) (w_preV hK hw (by omega) (mF_0 _) rfl _) rfl rfl hl.1 rfl (lv_room (Nat.le_of_ble_eq_true rfl)) dX3_issueMarks_104 ⟨Nat.le_of_ble_eq_true rfl, Nat.le_of_ble_eq_true rfl⟩) (fun V_14 H locs hp hw => ?_)
          refine lv_iinc (v := nI (j + 1)) (lv' := [(6, .int (nI (j + 1))), (0, .ref (ad 0)), (1, .int (nI n9)), (2, .int (bI w9)), (3, .int (nI d9)), (4, .int (bI s9)), (5, .int (nI mm))]) hx hb dX3_issueMarks_107 hl (k := 0) rfl (nI_1 _) (by decide) rfl (fun ls hl => ?_)
          refine lv_goto (tgt := 3) hx hb dX3_issueMarks_110 (by decide) ?_
          obtain ⟨g1, g2, g3⟩ := gQ_marks hin.1 hlj (by omega) (by omega) hV_1 hV_2 hV_9 hV_10 hV_13 hp
          rw [List.append_assoc, ← mkL_succ] at g1
          exact ih (j + 1) _ _ _ ls (by omega) ⟨g1, fun a q0 q3 q4 q5 => (g2 a q0 q3 q4 q5).trans (hin.2.1 a q0 q3 q4 q5), fun j9 h9 => (g3 j9 h9).trans (hin.2.2 j9 h9)⟩ hw (lv_sub hl [0, 1, 2, 3, 4, 5, 6] rfl)
set_option maxHeartbeats 4000000 in
set_option maxRecDepth 100000 in
theorem c_X3_issueMarks (l : Launch) (D : va_G) (cI cD : ClassId) (ad : Nat → Nat) (sz : Nat) (V : vT) (L : List (Nat × Wr)) (hQ : gQ V L) (num : Nat) (hnum : V 0 5 = nI num) (hnum2 : num + 1 < 2 ^ 31) (n9 : Nat) (w9 : Bool) (d9 : Nat) (s9 : Bool) (mm : Nat) (hmm : mm ≤ 6) (hlm : L.length + mm ≤ 32) : Met l yX3_issueMarks wsX3_issueMarks ({ frames := 1, cells := 0, slots := 0, locals := 22 }) (gP D cI cD 10 ad (mF cI ad) sz V [.ref (ad 0), .int (nI n9), .int (bI w9), .int (nI d9), .int (bI s9), .int (nI mm)]) (va_Qv (fun (V1 : vT) => gQ V1 (L ++ mkL (mkb (num + 1) n9 w9 d9 s9) mm) ∧ (∀ a, a ≠ 0 → a ≠ 3 → a ≠ 4 → a ≠ 5 → V1 a = V a) ∧ ∀ j9, j9 ≠ 16 → V1 0 j9 = V 0 j9) (gB D 10 ad (mF cI ad)) (gA 10 ad sz)) 0 0 (gA 10 ad sz) := by
  refine w_met (cc := cX3_issueMarks) (maxL := 7) (ret := none) (by decide) rfl (Nat.le_of_ble_eq_true rfl) ?_
  intro p e s m below meth c hx hb hr hts hown hlocks hml hsz hK hw ls hl
  subst hsz
  have hown : s.vm.findClass RX3 = some m.cls := hown
  have hi3 : ∀ w ∈ wsX30, w ∈ wsX3_issueMarks := by decide +kernel
  have hl : lv_has ls 7 [(0, .ref (ad 0)), (1, .int (nI n9)), (2, .int (bI w9)), (3, .int (nI d9)), (4, .int (bI s9)), (5, .int (nI mm))] := hl
  refine lv_iconst (v := nI 0) hx hb dX3_issueMarks_0 (by decide) ?_
  refine lv_istore (lv' := [(6, .int (nI 0)), (0, .ref (ad 0)), (1, .int (nI n9)), (2, .int (bI w9)), (3, .int (nI d9)), (4, .int (bI s9)), (5, .int (nI mm))]) hx hb dX3_issueMarks_1 hl (by decide) rfl (fun ls hl => ?_)
  refine lp_X3_issueMarks hx hb hts hown hml hK V L num hnum hnum2 n9 w9 d9 s9 mm hmm hlm (fun V_L H locs ls hin hw hl => ?_) mm 0 V _ _ ls (by omega) ⟨by rw [show mkL (mkb (num + 1) n9 w9 d9 s9) 0 = [] from rfl, List.append_nil]; exact hQ, fun _ _ _ _ _ => rfl, fun _ _ => rfl⟩ hw (lv_sub hl [0, 1, 2, 3, 4, 5, 6] rfl)
  exact w_vret hx hb hr hlocks hw (hin) dX3_issueMarks_113
set_option maxHeartbeats 4000000 in
set_option maxRecDepth 100000 in
theorem lp_X3_perform_m {p : Program} {l : Launch} {e : Env} {s : State} {m : MethodId} {args : Array Value} {below : List Frame} {meth : Method} {c : Code} {Q : State → Prop} {D : va_G} {cI cD : ClassId} {ad : Nat → Nat} (hx : p.tables.exec = Jvm.exec) (hb : c.code = cX3_perform) (hts : ∀ w ∈ wsX3_perform, w.before args s = true) (hown : s.vm.findClass RX3 = some m.cls) (hml : c.maxLocals = 5) (hK : kK D cI cD s) (V0 : vT) (k d pl : Nat) (hk32 : k < 32) (hd6 : d < 6) (hpl : pl < 2) (hk : ∀ (V1 : vT) (H1 : Heap) (locs1 : List Loc) (ls : Array Slot), ((∀ a, a ≠ 2 → V1 a = V0 a) ∧ ∀ t, V1 2 t = if 10 * d + 5 * pl ≤ t ∧ t < 10 * d + 5 * pl + 5 then V0 5 (5 * k + (t - (10 * d + 5 * pl))) else V0 2 t) → wS D 10 ad (mF cI ad) s.heap V1 H1 locs1 → lv_has ls 5 [(0, .ref (ad 0))] → W p l e ({ frames := 1, cells := 0, slots := 0, locals := 22 }) s m args below meth c H1 locs1 0 0 Q (F0 m 78 ls [])) : ∀ (n j : Nat) (V : vT) (H : Heap) (locs : List Loc) (ls : Array Slot), (j + n = 5) → ((∀ a, a ≠ 2 → V a = V0 a) ∧ ∀ t, V 2 t = if 10 * d + 5 * pl ≤ t ∧ t < 10 * d + 5 * pl + j then V0 5 (5 * k + (t - (10 * d + 5 * pl))) else V0 2 t) → wS D 10 ad (mF cI ad) s.heap V H locs → lv_has ls 5 [(4, .int (nI j)), (0, .ref (ad 0)), (1, .int (nI k)), (2, .int (nI d)), (3, .int (nI pl))] → W p l e ({ frames := 1, cells := 0, slots := 0, locals := 22 }) s m args below meth c H locs 0 0 Q (F0 m 39 ls []) := by
  have hi3 : ∀ w ∈ wsX30, w ∈ wsX3_perform := by decide +kernel
  intro n
  induction n with
  | zero =>
    intro j V H locs ls hjn hin hw hl
    refine lv_iload hx hb dX3_perform_39 (lv_at hl 0 rfl) ?_
    refine lv_iconst (v := nI 5) hx hb dX3_perform_41 (by decide) ?_
    refine n_icmp_ge (tgt := 78) hx hb dX3_perform_42 (by decide) (by omega) (by omega) (fun c_42 => ?_) (fun c_42 => ?_)
    · have e1 : j = 5 := by omega
      subst e1
      exact hk V H locs ls hin hw (lv_sub hl [1] rfl)
    · exfalso
      omega
  | succ n ih =>
    intro j V H locs ls hjn hin hw hl
    refine lv_iload hx hb dX3_perform_39 (lv_at hl 0 rfl) ?_
    refine lv_iconst (v := nI 5) hx hb dX3_perform_41 (by decide) ?_
    refine n_icmp_ge (tgt := 78) hx hb dX3_perform_42 (by decide) (by omega) (by omega) (fun c_42 => ?_) (fun c_42 => ?_)
    · exfalso
      omega
    · refine lv_aload_n hx hb dX3_perform_45 rfl (lv_at hl 1 rfl) ?_
      refine w_get (ci := 3) (C := RX3) (T := TX3) (M := 24) (v := .ref (ad 2)) hx hb hts hi3 hown hK hw 0 (by omega) _ (mF_0 _) rfl 15 (by decide) (hts (.fieldLink RX3 20 "WideningArrayModel" "marks" "[I") (by decide +kernel)) rfl dX3_perform_46 ?_
      refine lv_bipush (v := nI 10) hx hb dX3_perform_49 (by decide) ?_
      refine lv_iload_n hx hb dX3_perform_51 rfl (lv_at hl 3 rfl) ?_
      refine n_mul hx hb dX3_perform_52 ?_
      refine lv_iconst (v := nI 5) hx hb dX3_perform_53 (by decide) ?_
      refine lv_iload_n hx hb dX3_perform_54 rfl (lv_at hl 4 rfl) ?_
      refine n_mul hx hb dX3_perform_55 ?_
      refine n_add hx hb dX3_perform_56 ?_
      refine lv_iload hx hb dX3_perform_57 (lv_at hl 0 rfl) ?_
      refine n_add hx hb dX3_perform_59 ?_
      refine lv_aload_n hx hb dX3_perform_60 rfl (lv_at hl 1 rfl) ?_
      refine w_get (ci := 3) (C := RX3) (T := TX3) (M := 24) (v := .ref (ad 5)) hx hb hts hi3 hown hK hw 0 (by omega) _ (mF_0 _) rfl 19 (by decide) (hts (.fieldLink RX3 29 "WideningArrayModel" "what" "[I") (by decide +kernel)) rfl dX3_perform_61 ?_
      refine lv_iconst (v := nI 5) hx hb dX3_perform_64 (by decide) ?_
      refine lv_iload_n hx hb dX3_perform_65 rfl (lv_at hl 2 rfl) ?_
      refine n_mul hx hb dX3_perform_66 ?_
      refine lv_iload hx hb dX3_perform_67 (lv_at hl 0 rfl) ?_
      refine n_add hx hb dX3_perform_69 ?_
      refine w_iald hx hb hK hw 5 160 (by omega) (fun _ => rfl) (i := (5 * k) + j) (by omega) (by decide) dX3_perform_70 ?_
      refine w_iast hx hb hK hw 2 70 (by omega) (fun _ => rfl) (i := ((10 * d) + (5 * pl)) + j) (by omega) (by decide) dX3_perform_71 (fun H locs hw => ?_)
      obtain ⟨V_1, hV_1⟩ : ∃ z : vT, z = u2 V 2 (((10 * d) + (5 * pl)) + j) (V 5 ((5 * k) + j)) := ⟨_, rfl⟩
      rw [← hV_1] at hw
      refine lv_iinc (v := nI (j + 1)) (lv' := [(4, .int (nI (j + 1))), (0, .ref (ad 0)), (1, .int (nI k)), (2, .int (nI d)), (3, .int (nI pl))]) hx hb dX3_perform_72 hl (k := 0) rfl (nI_1 _) (by decide) rfl (fun ls hl => ?_)
      refine lv_goto (tgt := 39) hx hb dX3_perform_75 (by decide) ?_
      have hin' : (∀ a, a ≠ 2 → V_1 a = V0 a) ∧ ∀ t, V_1 2 t = if 10 * d + 5 * pl ≤ t ∧ t < 10 * d + 5 * pl + (j + 1) then V0 5 (5 * k + (t - (10 * d + 5 * pl))) else V0 2 t := by
        refine ⟨fun a ha => by rw [hV_1, u2_r _ _ ha]; exact hin.1 a ha, fun t => ?_⟩
        by_cases z : t = 10 * d + 5 * pl + j
        · rw [z, hV_1, u2_s, if_pos (by omega), hin.1 5 (by decide), Nat.add_sub_cancel_left]
        · rw [hV_1, u2_n _ _ (Or.inr z), hin.2 t]
          by_cases z2 : 10 * d + 5 * pl ≤ t ∧ t < 10 * d + 5 * pl + j
          · rw [if_pos z2, if_pos (by omega)]
          · rw [if_neg z2, if_neg (by omega)]
      exact ih (j + 1) _ _ _ ls (by omega) hin' hw (lv_sub hl [0, 1, 2, 3, 4] rfl)
set_option maxHeartbeats 4000000 in
set_option maxRecDepth 100000 in
theorem lp_X3_perform_w {p : Program} {l : Launch} {e : Env} {s : State} {m : MethodId} {args : Array Value} {below : List Frame} {meth : Method} {c : Code} {Q : State → Prop} {D : va_G} {cI cD : ClassId} {ad : Nat → Nat} (hx : p.tables.exec = Jvm.exec) (hb : c.code = cX3_perform) (hts : ∀ w ∈ wsX3_perform, w.before args s = true) (hown : s.vm.findClass RX3 = some m.cls) (hml : c.maxLocals = 5) (hK : kK D cI cD s) (V0 : vT) (k d r9 : Nat) (hk32 : k < 32) (hd6 : d < 6) (hr40 : r9 < 40) (hr9 : V0 4 k = nI r9) (hk : ∀ (V1 : vT) (H1 : Heap) (locs1 : List Loc) (ls : Array Slot), ((∀ a, a ≠ 1 → V1 a = V0 a) ∧ ∀ t, V1 1 t = if 160 * d + 4 * r9 ≤ t ∧ t < 160 * d + 4 * r9 + 4 then V0 5 (5 * k + (t - (160 * d + 4 * r9))) else V0 1 t) → wS D 10 ad (mF cI ad) s.heap V1 H1 locs1 → lv_has ls 5 [(0, .ref (ad 0))] → W p l e ({ frames := 1, cells := 0, slots := 0, locals := 22 }) s m args below meth c H1 locs1 0 0 Q (F0 m 120 ls [])) : ∀ (n j : Nat) (V : vT) (H : Heap) (locs : List Loc) (ls : Array Slot), (j + n = 4) → ((∀ a, a ≠ 1 → V a = V0 a) ∧ ∀ t, V 1 t = if 160 * d + 4 * r9 ≤ t ∧ t < 160 * d + 4 * r9 + j then V0 5 (5 * k + (t - (160 * d + 4 * r9))) else V0 1 t) → wS D 10 ad (mF cI ad) s.heap V H locs → lv_has ls 5 [(3, .int (nI j)), (0, .ref (ad 0)), (1, .int (nI k)), (2, .int (nI d))] → W p l e ({ frames := 1, cells := 0, slots := 0, locals := 22 }) s m args below meth c H locs 0 0 Q (F0 m 83 ls []) := by
  have hi3 : ∀ w ∈ wsX30, w ∈ wsX3_perform := by decide +kernel
  intro n
  induction n with
  | zero =>
    intro j V H locs ls hjn hin hw hl
    refine lv_iload_n hx hb dX3_perform_83 rfl (lv_at hl 0 rfl) ?_
    refine lv_iconst (v := nI 4) hx hb dX3_perform_84 (by decide) ?_
    refine n_icmp_ge (tgt := 120) hx hb dX3_perform_85 (by decide) (by omega) (by omega) (fun c_85 => ?_) (fun c_85 => ?_)
    · have e1 : j = 4 := by omega
      subst e1
      exact hk V H locs ls hin hw (lv_sub hl [1] rfl)
    · exfalso
      omega
  | succ n ih =>
    intro j V H locs ls hjn hin hw hl
    refine lv_iload_n hx hb dX3_perform_83 rfl (lv_at hl 0 rfl) ?_
    refine lv_iconst (v := nI 4) hx hb dX3_perform_84 (by decide) ?_
    refine n_icmp_ge (tgt := 120) hx hb dX3_perform_85 (by decide) (by omega) (by omega) (fun c_85 => ?_) (fun c_85 => ?_)
    · exfalso
      omega
    · refine lv_aload_n hx hb dX3_perform_88 rfl (lv_at hl 1 rfl) ?_
      refine w_get (ci := 3) (C := RX3) (T := TX3) (M := 24) (v := .ref (ad 1)) hx hb hts hi3 hown hK hw 0 (by omega) _ (mF_0 _) rfl 14 (by decide) (hts (.fieldLink RX3 16 "WideningArrayModel" "words" "[I") (by decide +kernel)) rfl dX3_perform_89 ?_
      refine lv_iload_n hx hb dX3_perform_92 rfl (lv_at hl 3 rfl) ?_
      refine lv_aload_n hx hb dX3_perform_93 rfl (lv_at hl 1 rfl) ?_
      refine w_get (ci := 3) (C := RX3) (T := TX3) (M := 24) (v := .ref (ad 4)) hx hb hts hi3 hown hK hw 0 (by omega) _ (mF_0 _) rfl 18 (by decide) (hts (.fieldLink RX3 26 "WideningArrayModel" "toRow" "[I") (by decide +kernel)) rfl dX3_perform_94 ?_
      refine lv_iload_n hx hb dX3_perform_97 rfl (lv_at hl 2 rfl) ?_
      refine w_iald hx hb hK hw 4 32 (by omega) (fun _ => rfl) (i := k) (by omega) (by decide) dX3_perform_98 ?_
      refine n_is (show V 4 k = nI r9 from by rw [hin.1 4 (by decide)]; exact hr9) ?_
      refine lv_iload_n hx hb dX3_perform_99 rfl (lv_at hl 0 rfl) ?_
      refine w_calli hw (va_runS (As := [.int (nI d), .int (nI r9), .int (nI j)]) (rest := [.ref (ad 1)]) ⟨hx, hb, hml, hown, hts⟩ (c_X3_at l D cI cD ad _ V d r9 j) (va_cwS 3 hts gX3_perform_X3_at rfl rfl rfl (by decide +kernel) ⟨Nat.le_of_ble_eq_true rfl, Nat.le_of_ble_eq_true rfl⟩) (w_preS hK hw _) rfl rfl hl.1 rfl (lv_room (Nat.le_of_ble_eq_true rfl)) dX3_perform_100 ⟨Nat.le_of_ble_eq_true rfl, Nat.le_of_ble_eq_true rfl⟩) (fun r_2 V_1 H locs hp hw => ?_)
      obtain ⟨e9, e8⟩ := hp
      subst e9
      subst e8
      refine lv_aload_n hx hb dX3_perform_103 rfl (lv_at hl 1 rfl) ?_
      refine w_get (ci := 3) (C := RX3) (T := TX3) (M := 24) (v := .ref (ad 5)) hx hb hts hi3 hown hK hw 0 (by omega) _ (mF_0 _) rfl 19 (by decide) (hts (.fieldLink RX3 29 "WideningArrayModel" "what" "[I") (by decide +kernel)) rfl dX3_perform_104 ?_
      refine lv_iconst (v := nI 5) hx hb dX3_perform_107 (by decide) ?_
      refine lv_iload_n hx hb dX3_perform_108 rfl (lv_at hl 2 rfl) ?_
      refine n_mul hx hb dX3_perform_109 ?_
      refine lv_iload_n hx hb dX3_perform_110 rfl (lv_at hl 0 rfl) ?_
      refine n_add hx hb dX3_perform_111 ?_
      refine w_iald hx hb hK hw 5 160 (by omega) (fun _ => rfl) (i := (5 * k) + j) (by omega) (by decide) dX3_perform_112 ?_
      refine w_iast hx hb hK hw 1 1120 (by omega) (fun _ => rfl) (i := 160 * d + 4 * r9 + j) (by omega) (by decide) dX3_perform_113 (fun H locs hw => ?_)
      obtain ⟨V_3, hV_3⟩ : ∃ z : vT, z = u2 V 1 (160 * d + 4 * r9 + j) (V 5 ((5 * k) + j)) := ⟨_, rfl⟩
      rw [← hV_3] at hw
      refine lv_iinc (v := nI (j + 1)) (lv' := [(3, .int (nI (j + 1))), (0, .ref (ad 0)), (1, .int (nI k)), (2, .int (nI d))]) hx hb dX3_perform_114 hl (k := 0) rfl (nI_1 _) (by decide) rfl (fun ls hl => ?_)
      refine lv_goto (tgt := 83) hx hb dX3_perform_117 (by decide) ?_
      have hin' : (∀ a, a ≠ 1 → V_3 a = V0 a) ∧ ∀ t, V_3 1 t = if 160 * d + 4 * r9 ≤ t ∧ t < 160 * d + 4 * r9 + (j + 1) then V0 5 (5 * k + (t - (160 * d + 4 * r9))) else V0 1 t := by
        refine ⟨fun a ha => by rw [hV_3, u2_r _ _ ha]; exact hin.1 a ha, fun t => ?_⟩
        by_cases z : t = 160 * d + 4 * r9 + j
        · rw [z, hV_3, u2_s, if_pos (by omega), hin.1 5 (by decide), Nat.add_sub_cancel_left]
        · rw [hV_3, u2_n _ _ (Or.inr z), hin.2 t]
          by_cases z2 : 160 * d + 4 * r9 ≤ t ∧ t < 160 * d + 4 * r9 + j
          · rw [if_pos z2, if_pos (by omega)]
          · rw [if_neg z2, if_neg (by omega)]
      exact ih (j + 1) _ _ _ ls (by omega) hin' hw (lv_sub hl [0, 1, 2, 3] rfl)
set_option maxHeartbeats 4000000 in
set_option maxRecDepth 100000 in
theorem c_X3_perform (l : Launch) (D : va_G) (cI cD : ClassId) (ad : Nat → Nat) (sz : Nat) (V : vT) (L : List (Nat × Wr)) (hQ : gQ V L) (k : Nat) (x9 : Nat × Wr) (hx9 : L[k]? = some x9) (hlf : V 0 8 = -1 ∨ V 0 9 = -1) : Met l yX3_perform wsX3_perform ({ frames := 1, cells := 0, slots := 0, locals := 22 }) (gP D cI cD 10 ad (mF cI ad) sz V [.ref (ad 0), .int (nI k)]) (va_Qv (fun (V1 : vT) => (∀ a, a ≠ 1 → a ≠ 2 → V1 a = V a) ∧ (∀ t, 60 ≤ t → V1 2 t = V 2 t) ∧ ∀ d, d < 6 → ∀ i, i < 170 → mc V1 d i = if d = x9.1 ∧ ¬ nI d = ab (V 0 8) (V 0 9) then apW x9.2 (mc V d) i else mc V d i) (gB D 10 ad (mF cI ad)) (gA 10 ad sz)) 0 0 (gA 10 ad sz) := by
  refine w_met (cc := cX3_perform) (maxL := 5) (ret := none) (by decide) rfl (Nat.le_of_ble_eq_true rfl) ?_
  intro p e s m below meth c hx hb hr hts hown hlocks hml hsz hK hw ls hl
  subst hsz
  have hown : s.vm.findClass RX3 = some m.cls := hown
  have hi3 : ∀ w ∈ wsX30, w ∈ wsX3_perform := by decide +kernel
  have hl : lv_has ls 5 [(0, .ref (ad 0)), (1, .int (nI k))] := hl
  have hg := hQ.2.2 k x9 hx9
  have hk32 : k < 32 := by have := (List.getElem?_eq_some_iff.mp hx9).1; have := hQ.2.1; omega
  obtain ⟨d9, _ | r9, b9⟩ := x9
  · simp only [gAt] at hg
    have hd6 := hg.1
    obtain ⟨y9, hy9, hb0⟩ := hg.2.2.2.1
    refine lv_aload_n hx hb dX3_perform_0 rfl (lv_at hl 0 rfl) ?_
    refine w_get (ci := 3) (C := RX3) (T := TX3) (M := 24) (v := .ref (ad 3)) hx hb hts hi3 hown hK hw 0 (by omega) _ (mF_0 _) rfl 17 (by decide) (hts (.fieldLink RX3 23 "WideningArrayModel" "toDisk" "[I") (by decide +kernel)) rfl dX3_perform_1 ?_
    refine lv_iload_n hx hb dX3_perform_4 rfl (lv_at hl 1 rfl) ?_
    refine w_iald hx hb hK hw 3 32 (by omega) (fun _ => rfl) (i := k) (by omega) (by decide) dX3_perform_5 ?_
    refine n_is (show V 3 k = nI d9 from hg.2.1) ?_
    refine lv_istore_n (lv' := [(2, .int (nI d9)), (0, .ref (ad 0)), (1, .int (nI k))]) hx hb dX3_perform_6 rfl hl (by decide) rfl (fun ls hl => ?_)
    refine lv_aload_n hx hb dX3_perform_7 rfl (lv_at hl 1 rfl) ?_
    refine lv_iload_n hx hb dX3_perform_8 rfl (lv_at hl 0 rfl) ?_
    refine w_calli hw (va_runV (As := [.int (nI d9)]) (rest := []) ⟨hx, hb, hml, hown, hts⟩ (c_X3_isOut l D cI cD ad _ V d9 (by omega) hlf) (cwV 1 hts gX3_perform_X3_isOut rfl rfl rfl (by decide +kernel) ⟨Nat.le_of_ble_eq_true rfl, Nat.le_of_ble_eq_true rfl⟩) (w_preV hK hw (by omega) (mF_0 _) rfl _) rfl rfl hl.1 rfl (lv_room (Nat.le_of_ble_eq_true rfl)) dX3_perform_9 ⟨Nat.le_of_ble_eq_true rfl, Nat.le_of_ble_eq_true rfl⟩) (fun r_2 V_1 H locs hp hw => ?_)
    obtain ⟨e9, e8⟩ := hp
    subst e9
    subst e8
    refine lv_if_eq (tgt := 16) hx hb dX3_perform_12 (by decide) (fun c_12 => ?_) (fun c_12 => ?_)
    · refine lv_aload_n hx hb dX3_perform_16 rfl (lv_at hl 1 rfl) ?_
      refine w_get (ci := 3) (C := RX3) (T := TX3) (M := 24) (v := .ref (ad 4)) hx hb hts hi3 hown hK hw 0 (by omega) _ (mF_0 _) rfl 18 (by decide) (hts (.fieldLink RX3 26 "WideningArrayModel" "toRow" "[I") (by decide +kernel)) rfl dX3_perform_17 ?_
      refine lv_iload_n hx hb dX3_perform_20 rfl (lv_at hl 2 rfl) ?_
      refine w_iald hx hb hK hw 4 32 (by omega) (fun _ => rfl) (i := k) (by omega) (by decide) dX3_perform_21 ?_
      refine n_is (show V 4 k = (-1) from hg.2.2.1) ?_
      refine lv_if_ge (tgt := 81) hx hb dX3_perform_22 (by decide) (fun c_22 => ?_) (fun c_22 => ?_)
      · exact absurd c_22 (by decide)
      · refine lv_aload_n hx hb dX3_perform_25 rfl (lv_at hl 1 rfl) ?_
        refine w_get (ci := 3) (C := RX3) (T := TX3) (M := 24) (v := .ref (ad 5)) hx hb hts hi3 hown hK hw 0 (by omega) _ (mF_0 _) rfl 19 (by decide) (hts (.fieldLink RX3 29 "WideningArrayModel" "what" "[I") (by decide +kernel)) rfl dX3_perform_26 ?_
        refine lv_iconst (v := nI 5) hx hb dX3_perform_29 (by decide) ?_
        refine lv_iload_n hx hb dX3_perform_30 rfl (lv_at hl 2 rfl) ?_
        refine n_mul hx hb dX3_perform_31 ?_
        refine w_iald hx hb hK hw 5 160 (by omega) (fun _ => rfl) (i := 5 * k) (by omega) (by decide) dX3_perform_32 ?_
        refine n_is (show V 5 (5 * k) = nI y9 from by have h5 := hg.2.2.2.2 0 (by decide); rw [show 5 * k + 0 = 5 * k from rfl] at h5; rw [h5]; exact hb0) ?_
        refine lv_iconst (v := nI 2) hx hb dX3_perform_33 (by decide) ?_
        refine n_rem hx hb dX3_perform_34 (by omega) (by omega) (by omega) ?_
        refine lv_istore_n (lv' := [(3, .int (nI (y9 % 2))), (2, .int (nI d9)), (0, .ref (ad 0)), (1, .int (nI k))]) hx hb dX3_perform_35 rfl hl (by decide) rfl (fun ls hl => ?_)
        refine lv_iconst (v := nI 0) hx hb dX3_perform_36 (by decide) ?_
        refine lv_istore (lv' := [(4, .int (nI 0)), (3, .int (nI (y9 % 2))), (2, .int (nI d9)), (0, .ref (ad 0)), (1, .int (nI k))]) hx hb dX3_perform_37 hl (by decide) rfl (fun ls hl => ?_)
        refine lp_X3_perform_m hx hb hts hown hml hK V k d9 (y9 % 2) hk32 hd6 (by omega) (fun V_L H locs ls hin hw hl => ?_) 5 0 V _ _ ls (by omega) ⟨fun _ _ => rfl, fun t => by rw [if_neg (by omega)]⟩ hw (lv_sub hl [0, 3, 4, 2, 1] rfl)
        refine lv_goto (tgt := 120) hx hb dX3_perform_78 (by decide) ?_
        exact w_vret hx hb hr hlocks hw (⟨fun a h1 h2 => hin.1 a h2, fun t ht => by rw [hin.2 t, if_neg (by omega)], fun d hd i hi => by rw [mc_marks hy9 hb0 hg.2.2.2.2 hin d i hi]; by_cases z : d = d9; (· subst z; rw [if_pos rfl, if_pos ⟨rfl, of_decide_eq_false (bI_0.mp c_12)⟩]); (· rw [if_neg z, if_neg (fun h => z h.1)])⟩) dX3_perform_120
    · exact w_vret hx hb hr hlocks hw (⟨fun _ _ _ => rfl, fun _ _ => rfl, fun d hd i hi => by rw [if_neg (fun h => by have h1 := h.1; have h2 := h.2; rw [h1] at h2; exact h2 (of_decide_eq_true (bI_n0.mp c_12)))]⟩) dX3_perform_15
  · simp only [gAt] at hg
    have hd6 := hg.1
    refine lv_aload_n hx hb dX3_perform_0 rfl (lv_at hl 0 rfl) ?_
    refine w_get (ci := 3) (C := RX3) (T := TX3) (M := 24) (v := .ref (ad 3)) hx hb hts hi3 hown hK hw 0 (by omega) _ (mF_0 _) rfl 17 (by decide) (hts (.fieldLink RX3 23 "WideningArrayModel" "toDisk" "[I") (by decide +kernel)) rfl dX3_perform_1 ?_
    refine lv_iload_n hx hb dX3_perform_4 rfl (lv_at hl 1 rfl) ?_
    refine w_iald hx hb hK hw 3 32 (by omega) (fun _ => rfl) (i := k) (by omega) (by decide) dX3_perform_5 ?_
    refine n_is (show V 3 k = nI d9 from hg.2.1) ?_
    refine lv_istore_n (lv' := [(2, .int (nI d9)), (0, .ref (ad 0)), (1, .int (nI k))]) hx hb dX3_perform_6 rfl hl (by decide) rfl (fun ls hl => ?_)
    refine lv_aload_n hx hb dX3_perform_7 rfl (lv_at hl 1 rfl) ?_
    refine lv_iload_n hx hb dX3_perform_8 rfl (lv_at hl 0 rfl) ?_
    refine w_calli hw (va_runV (As := [.int (nI d9)]) (rest := []) ⟨hx, hb, hml, hown, hts⟩ (c_X3_isOut l D cI cD ad _ V d9 (by omega) hlf) (cwV 1 hts gX3_perform_X3_isOut rfl rfl rfl (by decide +kernel) ⟨Nat.le_of_ble_eq_true rfl, Nat.le_of_ble_eq_true rfl⟩) (w_preV hK hw (by omega) (mF_0 _) rfl _) rfl rfl hl.1 rfl (lv_room (Nat.le_of_ble_eq_true rfl)) dX3_perform_9 ⟨Nat.le_of_ble_eq_true rfl, Nat.le_of_ble_eq_true rfl⟩) (fun r_4 V_3 H locs hp hw => ?_)
    obtain ⟨e9, e8⟩ := hp
    subst e9
    subst e8
    refine lv_if_eq (tgt := 16) hx hb dX3_perform_12 (by decide) (fun c_12 => ?_) (fun c_12 => ?_)
    · refine lv_aload_n hx hb dX3_perform_16 rfl (lv_at hl 1 rfl) ?_
      refine w_get (ci := 3) (C := RX3) (T := TX3) (M := 24) (v := .ref (ad 4)) hx hb hts hi3 hown hK hw 0 (by omega) _ (mF_0 _) rfl 18 (by decide) (hts (.fieldLink RX3 26 "WideningArrayModel" "toRow" "[I") (by decide +kernel)) rfl dX3_perform_17 ?_
      refine lv_iload_n hx hb dX3_perform_20 rfl (lv_at hl 2 rfl) ?_
      refine w_iald hx hb hK hw 4 32 (by omega) (fun _ => rfl) (i := k) (by omega) (by decide) dX3_perform_21 ?_
      refine n_is (show V 4 k = nI r9 from hg.2.2.2.1) ?_
      refine lv_if_ge (tgt := 81) hx hb dX3_perform_22 (by decide) (fun c_22 => ?_) (fun c_22 => ?_)
      · refine lv_iconst (v := nI 0) hx hb dX3_perform_81 (by decide) ?_
        refine lv_istore_n (lv' := [(3, .int (nI 0)), (2, .int (nI d9)), (0, .ref (ad 0)), (1, .int (nI k))]) hx hb dX3_perform_82 rfl hl (by decide) rfl (fun ls hl => ?_)
        refine lp_X3_perform_w hx hb hts hown hml hK V k d9 r9 hk32 hd6 hg.2.2.1 hg.2.2.2.1 (fun V_L H locs ls hin hw hl => ?_) 4 0 V _ _ ls (by omega) ⟨fun _ _ => rfl, fun t => by rw [if_neg (by omega)]⟩ hw (lv_sub hl [0, 2, 3, 1] rfl)
        exact w_vret hx hb hr hlocks hw (⟨fun a h1 h2 => hin.1 a h1, fun t ht => by rw [hin.1 2 (by decide)], fun d hd i hi => by rw [mc_block hg.2.2.1 hg.2.2.2.2 hin d i hi]; by_cases z : d = d9; (· subst z; rw [if_pos rfl, if_pos ⟨rfl, of_decide_eq_false (bI_0.mp c_12)⟩]); (· rw [if_neg z, if_neg (fun h => z h.1)])⟩) dX3_perform_120
      · exact absurd (nI_pos' (n := r9) (by have := hg.2.2.1; omega)) c_22
    · exact w_vret hx hb hr hlocks hw (⟨fun _ _ _ => rfl, fun _ _ => rfl, fun d hd i hi => by rw [if_neg (fun h => by have h1 := h.1; have h2 := h.2; rw [h1] at h2; exact h2 (of_decide_eq_true (bI_n0.mp c_12)))]⟩) dX3_perform_15
