set_option maxHeartbeats 4000000 in
set_option maxRecDepth 100000 in
theorem lp_X2_wordByTheRest {p : Program} {l : Launch} {e : Env} {s : State} {m : MethodId} {args : Array Value} {below : List Frame} {meth : Method} {c : Code} {Q : State → Prop} {D : va_G} {cI cD : ClassId} {ad : Nat → Nat} (hx : p.tables.exec = Jvm.exec) (hb : c.code = cX2_wordByTheRest) (hts : ∀ w ∈ wsX2_wordByTheRest, w.before args s = true) (hown : s.vm.findClass RX2 = some m.cls) (hml : c.maxLocals = 7) (hK : kK D cI cD s) {V : vT} (k row d i : Nat) (hk6 : k ≤ 6) (hrow : row < 40) (hd6 : d < 6) (hi4 : i < 4) (hk : ∀ (H1 : Heap) (locs1 : List Loc) (ls : Array Slot), wS D 47 ad (cF cI cD ad) s.heap V H1 locs1 → lv_has ls 7 [(5, .int (xr (fun e => V (6 + 7 * e) (row * 4 + i)) d k))] → W p l e ({ frames := 1, cells := 0, slots := 0, locals := 22 }) s m args below meth c H1 locs1 0 0 Q (F0 m 42 ls [])) : ∀ (n j : Nat) (H : Heap) (locs : List Loc) (ls : Array Slot), j + n = k → wS D 47 ad (cF cI cD ad) s.heap V H locs → lv_has ls 7 [(6, .int (nI j)), (5, .int (xr (fun e => V (6 + 7 * e) (row * 4 + i)) d j)), (0, .ref (ad 0)), (1, .int (nI k)), (2, .int (nI row)), (3, .int (nI d)), (4, .int (nI i))] → W p l e ({ frames := 1, cells := 0, slots := 0, locals := 22 }) s m args below meth c H locs 0 0 Q (F0 m 6 ls []) := by
  have hi2 : ∀ w ∈ wsX20, w ∈ wsX2_wordByTheRest := by decide +kernel
  intro n
  induction n with
  | zero =>
    intro j H locs ls hjn hw hl
    refine lv_iload hx hb dX2_wordByTheRest_6 (lv_at hl 0 rfl) ?_
    refine lv_iload_n hx hb dX2_wordByTheRest_8 rfl (lv_at hl 3 rfl) ?_
    refine n_icmp_ge (tgt := 42) hx hb dX2_wordByTheRest_9 (by decide) (by omega) (by omega) (fun c_9 => ?_) (fun c_9 => ?_)
    · have e1 : j = k := by omega
      subst e1
      exact hk H locs ls hw (lv_sub hl [1] rfl)
    · exfalso
      omega
  | succ n ih =>
    intro j H locs ls hjn hw hl
    refine lv_iload hx hb dX2_wordByTheRest_6 (lv_at hl 0 rfl) ?_
    refine lv_iload_n hx hb dX2_wordByTheRest_8 rfl (lv_at hl 3 rfl) ?_
    refine n_icmp_ge (tgt := 42) hx hb dX2_wordByTheRest_9 (by decide) (by omega) (by omega) (fun c_9 => ?_) (fun c_9 => ?_)
    · exfalso
      omega
    · refine lv_iload hx hb dX2_wordByTheRest_12 (lv_at hl 0 rfl) ?_
      refine lv_iload_n hx hb dX2_wordByTheRest_14 rfl (lv_at hl 5 rfl) ?_
      refine n_icmp_eq (tgt := 36) hx hb dX2_wordByTheRest_15 (by decide) (by omega) (by omega) (fun c_15 => ?_) (fun c_15 => ?_)
      · have e2 : xr (fun e => V (6 + 7 * e) (row * 4 + i)) d (j + 1) = xr (fun e => V (6 + 7 * e) (row * 4 + i)) d j := by rw [xr, if_pos c_15]
        refine lv_iinc (v := nI (j + 1)) (lv' := [(6, .int (nI (j + 1))), (5, .int (xr (fun e => V (6 + 7 * e) (row * 4 + i)) d j)), (0, .ref (ad 0)), (1, .int (nI k)), (2, .int (nI row)), (3, .int (nI d)), (4, .int (nI i))]) hx hb dX2_wordByTheRest_36 hl (k := 0) rfl (nI_1 _) (by decide) rfl (fun ls hl => ?_)
        refine lv_goto (tgt := 6) hx hb dX2_wordByTheRest_39 (by decide) ?_
        rw [← e2] at hl
        exact ih (j + 1) _ _ ls (by omega) hw (lv_sub hl [0, 1, 2, 3, 4, 5, 6] rfl)
      · have e2 : xr (fun e => V (6 + 7 * e) (row * 4 + i)) d (j + 1) = xr (fun e => V (6 + 7 * e) (row * 4 + i)) d j ^^^ V (6 + 7 * j) (row * 4 + i) := by rw [xr, if_neg c_15]
        refine lv_iload hx hb dX2_wordByTheRest_18 (lv_at hl 1 rfl) ?_
        refine lv_aload_n hx hb dX2_wordByTheRest_20 rfl (lv_at hl 2 rfl) ?_
        refine w_get (ci := 2) (C := RX2) (T := TX2) (M := 10) (v := .ref (ad 1)) hx hb hts hi2 hown hK hw 0 (by omega) _ (cF_0 _) rfl 0 (by decide) (hts (.fieldLink RX2 11 "WideningArray" "disks" "[LWideningArray$Disk;") (by decide +kernel)) rfl dX2_wordByTheRest_21 ?_
        refine lv_iload hx hb dX2_wordByTheRest_24 (lv_at hl 0 rfl) ?_
        refine w_aald hx hb hK hw 1 6 (by omega) (cF_1 _) (i := j) (by omega) (by decide) rfl dX2_wordByTheRest_26 ?_
        refine lv_iload_n hx hb dX2_wordByTheRest_27 rfl (lv_at hl 4 rfl) ?_
        refine lv_iload hx hb dX2_wordByTheRest_28 (lv_at hl 6 rfl) ?_
        refine w_calli hw (va_runV (As := [.int (nI row), .int (nI i)]) (rest := [.int (xr (fun e => V (6 + 7 * e) (row * 4 + i)) d j)]) ⟨hx, hb, hml, hown, hts⟩ (c_X0_word l D cI cD ad _ V j (by omega) row i (by omega) (by omega)) (cwV 2 hts gX2_wordByTheRest_X0_word rfl rfl rfl (by decide +kernel) ⟨Nat.le_of_ble_eq_true rfl, Nat.le_of_ble_eq_true rfl⟩) (w_preV hK hw (by omega) (cF_d0 j _) rfl _) rfl rfl hl.1 rfl (lv_room (Nat.le_of_ble_eq_true rfl)) dX2_wordByTheRest_30 ⟨Nat.le_of_ble_eq_true rfl, Nat.le_of_ble_eq_true rfl⟩) (fun r_2 V_1 H locs hp hw => ?_)
        obtain ⟨e9, e8⟩ := hp
        subst e9
        subst e8
        refine lv_ixor hx hb dX2_wordByTheRest_33 ?_
        refine lv_istore (lv' := [(5, .int ((xr (fun e => V (6 + 7 * e) (row * 4 + i)) d j) ^^^ (V (6 + 7 * j) (row * 4 + i)))), (6, .int (nI j)), (0, .ref (ad 0)), (1, .int (nI k)), (2, .int (nI row)), (3, .int (nI d)), (4, .int (nI i))]) hx hb dX2_wordByTheRest_34 hl (by decide) rfl (fun ls hl => ?_)
        refine lv_iinc (v := nI (j + 1)) (lv' := [(6, .int (nI (j + 1))), (5, .int ((xr (fun e => V (6 + 7 * e) (row * 4 + i)) d j) ^^^ (V (6 + 7 * j) (row * 4 + i)))), (0, .ref (ad 0)), (1, .int (nI k)), (2, .int (nI row)), (3, .int (nI d)), (4, .int (nI i))]) hx hb dX2_wordByTheRest_36 hl (k := 1) rfl (nI_1 _) (by decide) rfl (fun ls hl => ?_)
        refine lv_goto (tgt := 6) hx hb dX2_wordByTheRest_39 (by decide) ?_
        rw [← e2] at hl
        exact ih (j + 1) _ _ ls (by omega) hw (lv_sub hl [0, 1, 2, 3, 4, 5, 6] rfl)
set_option maxHeartbeats 4000000 in
set_option maxRecDepth 100000 in
theorem c_X2_wordByTheRest (l : Launch) (D : va_G) (cI cD : ClassId) (ad : Nat → Nat) (sz : Nat) (V : vT) (k row d i : Nat) (hk6 : k ≤ 6) (hrow : row < 40) (hd6 : d < 6) (hi4 : i < 4) : Met l yX2_wordByTheRest wsX2_wordByTheRest ({ frames := 1, cells := 0, slots := 0, locals := 22 }) (gP D cI cD 47 ad (cF cI cD ad) sz V [.ref (ad 0), .int (nI k), .int (nI row), .int (nI d), .int (nI i)]) (va_Qi (fun (r : Int32) (V1 : vT) => V = V1 ∧ xr (fun e => V (6 + 7 * e) (row * 4 + i)) d k = r) (gB D 47 ad (cF cI cD ad)) (gA 47 ad sz)) 0 0 (gA 47 ad sz) := by
  refine w_met (cc := cX2_wordByTheRest) (maxL := 7) (ret := (some .int)) (by decide) rfl (Nat.le_of_ble_eq_true rfl) ?_
  intro p e s m below meth c hx hb hr hts hown hlocks hml hsz hK hw ls hl
  subst hsz
  have hown : s.vm.findClass RX2 = some m.cls := hown
  have hi2 : ∀ w ∈ wsX20, w ∈ wsX2_wordByTheRest := by decide +kernel
  have hl : lv_has ls 7 [(0, .ref (ad 0)), (1, .int (nI k)), (2, .int (nI row)), (3, .int (nI d)), (4, .int (nI i))] := hl
  refine lv_iconst (v := nI 0) hx hb dX2_wordByTheRest_0 (by decide) ?_
  refine lv_istore (lv' := [(5, .int (nI 0)), (0, .ref (ad 0)), (1, .int (nI k)), (2, .int (nI row)), (3, .int (nI d)), (4, .int (nI i))]) hx hb dX2_wordByTheRest_1 hl (by decide) rfl (fun ls hl => ?_)
  refine lv_iconst (v := nI 0) hx hb dX2_wordByTheRest_3 (by decide) ?_
  refine lv_istore (lv' := [(6, .int (nI 0)), (5, .int (nI 0)), (0, .ref (ad 0)), (1, .int (nI k)), (2, .int (nI row)), (3, .int (nI d)), (4, .int (nI i))]) hx hb dX2_wordByTheRest_4 hl (by decide) rfl (fun ls hl => ?_)
  refine lp_X2_wordByTheRest hx hb hts hown hml hK k row d i hk6 hrow hd6 hi4 (fun H locs ls hw hl => ?_) k 0 _ _ ls (by omega) hw (lv_sub hl [0, 1, 2, 3, 4, 5, 6] rfl)
  refine lv_iload hx hb dX2_wordByTheRest_42 (lv_at hl 0 rfl) ?_
  exact w_iret hx hb hr hlocks hw (⟨rfl, rfl⟩) dX2_wordByTheRest_44
set_option maxHeartbeats 4000000 in
set_option maxRecDepth 100000 in
theorem c_X2_wordTold (l : Launch) (D : va_G) (cI cD : ClassId) (ad : Nat → Nat) (sz : Nat) (V : vT) (k row d i : Nat) (hk6 : k ≤ 6) (hrow : row < 40) (hd6 : d < 6) (hi4 : i < 4) : Met l yX2_wordTold wsX2_wordTold ({ frames := 2, cells := 0, slots := 0, locals := 48 }) (gP D cI cD 47 ad (cF cI cD ad) sz V [.ref (ad 0), .int (nI k), .int (nI row), .int (nI d), .int (nI i)]) (va_Qi (fun (r : Int32) (V1 : vT) => V = V1 ∧ told (cw V) (ab (V 0 6) (V 0 7)) k row d i = r) (gB D 47 ad (cF cI cD ad)) (gA 47 ad sz)) 0 0 (gA 47 ad sz) := by
  refine w_met (cc := cX2_wordTold) (maxL := 5) (ret := (some .int)) (by decide) rfl (Nat.le_of_ble_eq_true rfl) ?_
  intro p e s m below meth c hx hb hr hts hown hlocks hml hsz hK hw ls hl
  subst hsz
  have hown : s.vm.findClass RX2 = some m.cls := hown
  have hi2 : ∀ w ∈ wsX20, w ∈ wsX2_wordTold := by decide +kernel
  have hl : lv_has ls 5 [(0, .ref (ad 0)), (1, .int (nI k)), (2, .int (nI row)), (3, .int (nI d)), (4, .int (nI i))] := hl
  refine lv_iload_n hx hb dX2_wordTold_0 rfl (lv_at hl 3 rfl) ?_
  refine lv_aload_n hx hb dX2_wordTold_1 rfl (lv_at hl 0 rfl) ?_
  refine w_calli hw (va_runV (As := []) (rest := [.int (nI d)]) ⟨hx, hb, hml, hown, hts⟩ (c_X2_absentDisk l D cI cD ad _ V) (cwV 0 hts gX2_wordTold_X2_absentDisk rfl rfl rfl (by decide +kernel) ⟨Nat.le_of_ble_eq_true rfl, Nat.le_of_ble_eq_true rfl⟩) (w_preV hK hw (by omega) (cF_0 _) rfl _) rfl rfl hl.1 rfl (lv_room (Nat.le_of_ble_eq_true rfl)) dX2_wordTold_2 ⟨Nat.le_of_ble_eq_true rfl, Nat.le_of_ble_eq_true rfl⟩) (fun r_2 V_1 H locs hp hw => ?_)
  obtain ⟨e9, e8⟩ := hp
  subst e9
  subst e8
  refine lv_icmp_ne (tgt := 20) hx hb dX2_wordTold_5 (by decide) (fun c_5 => ?_) (fun c_5 => ?_)
  · refine lv_aload_n hx hb dX2_wordTold_20 rfl (lv_at hl 0 rfl) ?_
    refine w_get (ci := 2) (C := RX2) (T := TX2) (M := 10) (v := .ref (ad 1)) hx hb hts hi2 hown hK hw 0 (by omega) _ (cF_0 _) rfl 0 (by decide) (hts (.fieldLink RX2 11 "WideningArray" "disks" "[LWideningArray$Disk;") (by decide +kernel)) rfl dX2_wordTold_21 ?_
    refine lv_iload_n hx hb dX2_wordTold_24 rfl (lv_at hl 3 rfl) ?_
    refine w_aald hx hb hK hw 1 6 (by omega) (cF_1 _) (i := d) (by omega) (by decide) rfl dX2_wordTold_25 ?_
    refine lv_iload_n hx hb dX2_wordTold_26 rfl (lv_at hl 2 rfl) ?_
    refine lv_iload hx hb dX2_wordTold_27 (lv_at hl 4 rfl) ?_
    refine w_calli hw (va_runV (As := [.int (nI row), .int (nI i)]) (rest := []) ⟨hx, hb, hml, hown, hts⟩ (c_X0_word l D cI cD ad _ V d (by omega) row i (by omega) (by omega)) (cwV 2 hts gX2_wordTold_X0_word rfl rfl rfl (by decide +kernel) ⟨Nat.le_of_ble_eq_true rfl, Nat.le_of_ble_eq_true rfl⟩) (w_preV hK hw (by omega) (cF_d0 d _) rfl _) rfl rfl hl.1 rfl (lv_room (Nat.le_of_ble_eq_true rfl)) dX2_wordTold_29 ⟨Nat.le_of_ble_eq_true rfl, Nat.le_of_ble_eq_true rfl⟩) (fun r_4 V_3 H locs hp hw => ?_)
    obtain ⟨e9, e8⟩ := hp
    subst e9
    subst e8
    exact w_iret hx hb hr hlocks hw (⟨rfl, by rw [told, if_neg c_5]⟩) dX2_wordTold_32
  · refine lv_aload_n hx hb dX2_wordTold_8 rfl (lv_at hl 0 rfl) ?_
    refine lv_iload_n hx hb dX2_wordTold_9 rfl (lv_at hl 1 rfl) ?_
    refine lv_iload_n hx hb dX2_wordTold_10 rfl (lv_at hl 2 rfl) ?_
    refine lv_iload_n hx hb dX2_wordTold_11 rfl (lv_at hl 3 rfl) ?_
    refine lv_iload hx hb dX2_wordTold_12 (lv_at hl 4 rfl) ?_
    refine w_calli hw (va_runV (As := [.int (nI k), .int (nI row), .int (nI d), .int (nI i)]) (rest := []) ⟨hx, hb, hml, hown, hts⟩ (c_X2_wordByTheRest l D cI cD ad _ V k row d i (by omega) (by omega) (by omega) (by omega)) (cwV 4 hts gX2_wordTold_X2_wordByTheRest rfl rfl rfl (by decide +kernel) ⟨Nat.le_of_ble_eq_true rfl, Nat.le_of_ble_eq_true rfl⟩) (w_preV hK hw (by omega) (cF_0 _) rfl _) rfl rfl hl.1 rfl (lv_room (Nat.le_of_ble_eq_true rfl)) dX2_wordTold_14 ⟨Nat.le_of_ble_eq_true rfl, Nat.le_of_ble_eq_true rfl⟩) (fun r_6 V_5 H locs hp hw => ?_)
    obtain ⟨e9, e8⟩ := hp
    subst e9
    subst e8
    refine lv_goto (tgt := 32) hx hb dX2_wordTold_17 (by decide) ?_
    exact w_iret hx hb hr hlocks hw (⟨rfl, by rw [told, if_pos c_5]⟩) dX2_wordTold_32
set_option maxHeartbeats 4000000 in
set_option maxRecDepth 100000 in
theorem c_X2_wordOfBlock (l : Launch) (D : va_G) (cI cD : ClassId) (ad : Nat → Nat) (sz : Nat) (V : vT) (n : Nat) (hn : V 2 1 = nI n) (wide : Bool) (hwd : V 2 2 = bI wide) (dn : Nat) (hdn : V 2 3 = nI dn) (st : Bool) (hst : V 2 4 = bI st) (hn3 : 3 ≤ n) (hn6 : n ≤ 6) (hd32 : dn < 32) (hwn : wide = true → n < 6) (b i : Nat) (hbc : b < 32 * (n - 1)) (hi4 : i < 4) : Met l yX2_wordOfBlock wsX2_wordOfBlock ({ frames := 3, cells := 0, slots := 0, locals := 72 }) (gP D cI cD 47 ad (cF cI cD ad) sz V [.ref (ad 0), .int (nI b), .int (nI i)]) (va_Qi (fun (r : Int32) (V1 : vT) => V = V1 ∧ wob (cw V) (ab (V 0 6) (V 0 7)) n wide dn st b i = r) (gB D 47 ad (cF cI cD ad)) (gA 47 ad sz)) 0 0 (gA 47 ad sz) := by
  refine w_met (cc := cX2_wordOfBlock) (maxL := 6) (ret := (some .int)) (by decide) rfl (Nat.le_of_ble_eq_true rfl) ?_
  intro p e s m below meth c hx hb hr hts hown hlocks hml hsz hK hw ls hl
  subst hsz
  have hown : s.vm.findClass RX2 = some m.cls := hown
  have hl : lv_has ls 6 [(0, .ref (ad 0)), (1, .int (nI b)), (2, .int (nI i))] := hl
  have hbn : dn * n ≤ 192 := Nat.le_trans (Nat.mul_le_mul (show dn ≤ 32 by omega) hn6) (by decide)
  have hp2 : plc n wide dn st b < 3 := plc_lt
  refine lv_aload_n hx hb dX2_wordOfBlock_0 rfl (lv_at hl 0 rfl) ?_
  refine lv_iload_n hx hb dX2_wordOfBlock_1 rfl (lv_at hl 1 rfl) ?_
  refine w_calli hw (va_runV (As := [.int (nI b)]) (rest := []) ⟨hx, hb, hml, hown, hts⟩ (c_X2_placeOf l D cI cD ad _ V n (show V 2 1 = nI n from hn) wide (show V 2 2 = bI wide from hwd) dn (show V 2 3 = nI dn from hdn) st (show V 2 4 = bI st from hst) (by omega) (by omega) b (by omega)) (cwV 1 hts gX2_wordOfBlock_X2_placeOf rfl rfl rfl (by decide +kernel) ⟨Nat.le_of_ble_eq_true rfl, Nat.le_of_ble_eq_true rfl⟩) (w_preV hK hw (by omega) (cF_0 _) rfl _) rfl rfl hl.1 rfl (lv_room (Nat.le_of_ble_eq_true rfl)) dX2_wordOfBlock_2 ⟨Nat.le_of_ble_eq_true rfl, Nat.le_of_ble_eq_true rfl⟩) (fun r_2 V_1 H locs hp hw => ?_)
  obtain ⟨e9, e8⟩ := hp
  subst e9
  subst e8
  refine lv_istore_n (lv' := [(3, .int (nI (plc n wide dn st b))), (0, .ref (ad 0)), (1, .int (nI b)), (2, .int (nI i))]) hx hb dX2_wordOfBlock_5 rfl hl (by decide) rfl (fun ls hl => ?_)
  refine lv_iload_n hx hb dX2_wordOfBlock_6 rfl (lv_at hl 0 rfl) ?_
  refine lv_iconst (v := nI 2) hx hb dX2_wordOfBlock_7 (by decide) ?_
  refine n_icmp_ne (tgt := 23) hx hb dX2_wordOfBlock_8 (by decide) (by omega) (by omega) (fun c_8 => ?_) (fun c_8 => ?_)
  · have hp2 : plc n wide dn st b < 3 := plc_lt
    have hk : 2 ≤ (if plc n wide dn st b = 1 then n + 1 else n) - 1 ∧ (if plc n wide dn st b = 1 then n + 1 else n) ≤ 6 := plc_k hn3 hn6 hwn
    have hrw : b / ((if plc n wide dn st b = 1 then n + 1 else n) - 1) < 40 := plc_row hn3 hbc hk.1
    have hbm := Nat.mod_lt b (show 0 < (if plc n wide dn st b = 1 then n + 1 else n) - 1 by omega)
    have hdd := dd_lt (k := (if plc n wide dn st b = 1 then n + 1 else n)) (row := b / ((if plc n wide dn st b = 1 then n + 1 else n) - 1)) (j := b % ((if plc n wide dn st b = 1 then n + 1 else n) - 1)) (by omega)
    refine lv_aload_n hx hb dX2_wordOfBlock_23 rfl (lv_at hl 1 rfl) ?_
    refine lv_iload_n hx hb dX2_wordOfBlock_24 rfl (lv_at hl 0 rfl) ?_
    refine w_calli hw (va_runV (As := [.int (nI (plc n wide dn st b))]) (rest := []) ⟨hx, hb, hml, hown, hts⟩ (c_X2_widthIn l D cI cD ad _ V n (show V 2 1 = nI n from hn) (plc n wide dn st b) (by omega)) (cwV 1 hts gX2_wordOfBlock_X2_widthIn rfl rfl rfl (by decide +kernel) ⟨Nat.le_of_ble_eq_true rfl, Nat.le_of_ble_eq_true rfl⟩) (w_preV hK hw (by omega) (cF_0 _) rfl _) rfl rfl hl.1 rfl (lv_room (Nat.le_of_ble_eq_true rfl)) dX2_wordOfBlock_25 ⟨Nat.le_of_ble_eq_true rfl, Nat.le_of_ble_eq_true rfl⟩) (fun r_4 V_3 H locs hp hw => ?_)
    obtain ⟨e9, e8⟩ := hp
    subst e9
    subst e8
    refine lv_istore (lv' := [(4, .int (nI (if plc n wide dn st b = 1 then n + 1 else n))), (3, .int (nI (plc n wide dn st b))), (0, .ref (ad 0)), (1, .int (nI b)), (2, .int (nI i))]) hx hb dX2_wordOfBlock_28 hl (by decide) rfl (fun ls hl => ?_)
    refine lv_iload_n hx hb dX2_wordOfBlock_30 rfl (lv_at hl 3 rfl) ?_
    refine lv_iload hx hb dX2_wordOfBlock_31 (lv_at hl 0 rfl) ?_
    refine lv_iconst (v := nI 1) hx hb dX2_wordOfBlock_33 (by decide) ?_
    refine n_sub hx hb dX2_wordOfBlock_34 (by omega) ?_
    refine n_div hx hb dX2_wordOfBlock_35 (by omega) (by omega) (by omega) ?_
    refine lv_istore (lv' := [(5, .int (nI (b / ((if plc n wide dn st b = 1 then n + 1 else n) - 1)))), (4, .int (nI (if plc n wide dn st b = 1 then n + 1 else n))), (3, .int (nI (plc n wide dn st b))), (0, .ref (ad 0)), (1, .int (nI b)), (2, .int (nI i))]) hx hb dX2_wordOfBlock_36 hl (by decide) rfl (fun ls hl => ?_)
    refine lv_aload_n hx hb dX2_wordOfBlock_38 rfl (lv_at hl 3 rfl) ?_
    refine lv_iload hx hb dX2_wordOfBlock_39 (lv_at hl 1 rfl) ?_
    refine lv_iload hx hb dX2_wordOfBlock_41 (lv_at hl 0 rfl) ?_
    refine lv_iload hx hb dX2_wordOfBlock_43 (lv_at hl 1 rfl) ?_
    refine lv_iload hx hb dX2_wordOfBlock_45 (lv_at hl 0 rfl) ?_
    refine lv_iload_n hx hb dX2_wordOfBlock_47 rfl (lv_at hl 4 rfl) ?_
    refine lv_iload hx hb dX2_wordOfBlock_48 (lv_at hl 1 rfl) ?_
    refine lv_iconst (v := nI 1) hx hb dX2_wordOfBlock_50 (by decide) ?_
    refine n_sub hx hb dX2_wordOfBlock_51 (by omega) ?_
    refine n_rem hx hb dX2_wordOfBlock_52 (by omega) (by omega) (by omega) ?_
    refine w_calli hw (va_runS (As := [.int (nI (if plc n wide dn st b = 1 then n + 1 else n)), .int (nI (b / ((if plc n wide dn st b = 1 then n + 1 else n) - 1))), .int (nI (b % ((if plc n wide dn st b = 1 then n + 1 else n) - 1)))]) (rest := [.int (nI (b / ((if plc n wide dn st b = 1 then n + 1 else n) - 1))), .int (nI (if plc n wide dn st b = 1 then n + 1 else n)), .ref (ad 0)]) ⟨hx, hb, hml, hown, hts⟩ (c_X2_dataDisk l D cI cD ad _ V (if plc n wide dn st b = 1 then n + 1 else n) (b / ((if plc n wide dn st b = 1 then n + 1 else n) - 1)) (b % ((if plc n wide dn st b = 1 then n + 1 else n) - 1)) (by omega) (by omega) (by omega) (by omega)) (va_cwS 3 hts gX2_wordOfBlock_X2_dataDisk rfl rfl rfl (by decide +kernel) ⟨Nat.le_of_ble_eq_true rfl, Nat.le_of_ble_eq_true rfl⟩) (w_preS hK hw _) rfl rfl hl.1 rfl (lv_room (Nat.le_of_ble_eq_true rfl)) dX2_wordOfBlock_53 ⟨Nat.le_of_ble_eq_true rfl, Nat.le_of_ble_eq_true rfl⟩) (fun r_6 V_5 H locs hp hw => ?_)
    obtain ⟨e9, e8⟩ := hp
    subst e9
    subst e8
    refine lv_iload_n hx hb dX2_wordOfBlock_56 rfl (lv_at hl 5 rfl) ?_
    refine w_calli hw (va_runV (As := [.int (nI (if plc n wide dn st b = 1 then n + 1 else n)), .int (nI (b / ((if plc n wide dn st b = 1 then n + 1 else n) - 1))), .int (nI (dd (if plc n wide dn st b = 1 then n + 1 else n) (b / ((if plc n wide dn st b = 1 then n + 1 else n) - 1)) (b % ((if plc n wide dn st b = 1 then n + 1 else n) - 1)))), .int (nI i)]) (rest := []) ⟨hx, hb, hml, hown, hts⟩ (c_X2_wordTold l D cI cD ad _ V (if plc n wide dn st b = 1 then n + 1 else n) (b / ((if plc n wide dn st b = 1 then n + 1 else n) - 1)) (dd (if plc n wide dn st b = 1 then n + 1 else n) (b / ((if plc n wide dn st b = 1 then n + 1 else n) - 1)) (b % ((if plc n wide dn st b = 1 then n + 1 else n) - 1))) i (by omega) (by omega) (by omega) (by omega)) (cwV 4 hts gX2_wordOfBlock_X2_wordTold rfl rfl rfl (by decide +kernel) ⟨Nat.le_of_ble_eq_true rfl, Nat.le_of_ble_eq_true rfl⟩) (w_preV hK hw (by omega) (cF_0 _) rfl _) rfl rfl hl.1 rfl (lv_room (Nat.le_of_ble_eq_true rfl)) dX2_wordOfBlock_57 ⟨Nat.le_of_ble_eq_true rfl, Nat.le_of_ble_eq_true rfl⟩) (fun r_8 V_7 H locs hp hw => ?_)
    obtain ⟨e9, e8⟩ := hp
    subst e9
    subst e8
    exact w_iret hx hb hr hlocks hw (⟨rfl, by rw [wob, if_neg c_8]⟩) dX2_wordOfBlock_60
  · have hpw : wide = true ∧ dn * n ≤ b ∧ b < dn * n + n := plc2 c_8
    have hn5 := hwn hpw.1
    refine lv_aload_n hx hb dX2_wordOfBlock_11 rfl (lv_at hl 1 rfl) ?_
    refine lv_iload_n hx hb dX2_wordOfBlock_12 rfl (lv_at hl 2 rfl) ?_
    refine lv_aload_n hx hb dX2_wordOfBlock_13 rfl (lv_at hl 1 rfl) ?_
    refine w_calli hw (va_runV (As := []) (rest := [.int (nI b), .ref (ad 0)]) ⟨hx, hb, hml, hown, hts⟩ (c_X2_firstOfWindow l D cI cD ad _ V n (show V 2 1 = nI n from hn) dn (show V 2 3 = nI dn from hdn)) (cwV 0 hts gX2_wordOfBlock_X2_firstOfWindow rfl rfl rfl (by decide +kernel) ⟨Nat.le_of_ble_eq_true rfl, Nat.le_of_ble_eq_true rfl⟩) (w_preV hK hw (by omega) (cF_0 _) rfl _) rfl rfl hl.1 rfl (lv_room (Nat.le_of_ble_eq_true rfl)) dX2_wordOfBlock_14 ⟨Nat.le_of_ble_eq_true rfl, Nat.le_of_ble_eq_true rfl⟩) (fun r_10 V_9 H locs hp hw => ?_)
    obtain ⟨e9, e8⟩ := hp
    subst e9
    subst e8
    refine n_sub hx hb dX2_wordOfBlock_17 (by omega) ?_
    refine lv_iload_n hx hb dX2_wordOfBlock_18 rfl (lv_at hl 3 rfl) ?_
    refine w_calli hw (va_runV (As := [.int (nI (b - (dn * n))), .int (nI i)]) (rest := []) ⟨hx, hb, hml, hown, hts⟩ (c_X2_wordOfStash l D cI cD ad _ V n (show V 2 1 = nI n from hn) (by omega) (b - (dn * n)) i (by omega) (by omega)) (cwV 2 hts gX2_wordOfBlock_X2_wordOfStash rfl rfl rfl (by decide +kernel) ⟨Nat.le_of_ble_eq_true rfl, Nat.le_of_ble_eq_true rfl⟩) (w_preV hK hw (by omega) (cF_0 _) rfl _) rfl rfl hl.1 rfl (lv_room (Nat.le_of_ble_eq_true rfl)) dX2_wordOfBlock_19 ⟨Nat.le_of_ble_eq_true rfl, Nat.le_of_ble_eq_true rfl⟩) (fun r_12 V_11 H locs hp hw => ?_)
    obtain ⟨e9, e8⟩ := hp
    subst e9
    subst e8
    exact w_iret hx hb hr hlocks hw (⟨rfl, by rw [wob, if_pos c_8]⟩) dX2_wordOfBlock_22
