set_option maxHeartbeats 4000000 in
set_option maxRecDepth 100000 in
theorem c_X2_diskCount (l : Launch) (D : va_G) (cI cD : ClassId) (ad : Nat → Nat) (sz : Nat) (V : vT) (n : Nat) (hn : V 2 1 = nI n) (wide : Bool) (hwd : V 2 2 = bI wide) : Met l yX2_diskCount wsX2_diskCount ({ frames := 0, cells := 0, slots := 0, locals := 0 }) (gP D cI cD 47 ad (cF cI cD ad) sz V [.ref (ad 0)]) (va_Qi (fun (r : Int32) (V1 : vT) => V = V1 ∧ nI (kw n wide) = r) (gB D 47 ad (cF cI cD ad)) (gA 47 ad sz)) 0 0 (gA 47 ad sz) := by
  refine w_met (cc := cX2_diskCount) (maxL := 1) (ret := (some .int)) (by decide) rfl (Nat.le_of_ble_eq_true rfl) ?_
  intro p e s m below meth c hx hb hr hts hown hlocks hml hsz hK hw ls hl
  subst hsz
  have hown : s.vm.findClass RX2 = some m.cls := hown
  have hi1 : ∀ w ∈ wsX10, w ∈ wsX2_diskCount := by decide +kernel
  have hi2 : ∀ w ∈ wsX20, w ∈ wsX2_diskCount := by decide +kernel
  have hl : lv_has ls 1 [(0, .ref (ad 0))] := hl
  refine lv_aload_n hx hb dX2_diskCount_0 rfl (lv_at hl 0 rfl) ?_
  refine w_get (ci := 2) (C := RX2) (T := TX2) (M := 10) (v := .ref (ad 2)) hx hb hts hi2 hown hK hw 0 (by omega) _ (cF_0 _) rfl 1 (by decide) (hts (.fieldLink RX2 18 "WideningArray" "now" "LWideningArray$Marks;") (by decide +kernel)) rfl dX2_diskCount_1 ?_
  refine w_getN (ci := 1) (C := RX1) (T := TX1) (M := 5) (v := .int (bI wide)) hx hb hts hi1 hown hK hw 2 (by omega) _ (cF_2 _) rfl 2 (by decide) (va_Nw.use rfl (hK.2 (.fieldLinkNest "WideningArray" 102 "WideningArray$Marks" "widened" "Z" "WideningArray") (by decide +kernel))) (congrArg (fun z => some (Value.int z)) (show V 2 2 = bI wide from hwd)) dX2_diskCount_4 ?_
  refine lv_if_eq (tgt := 22) hx hb dX2_diskCount_7 (by decide) (fun c_7 => ?_) (fun c_7 => ?_)
  · have e1 := bI_0.mp c_7
    refine lv_aload_n hx hb dX2_diskCount_22 rfl (lv_at hl 0 rfl) ?_
    refine w_get (ci := 2) (C := RX2) (T := TX2) (M := 10) (v := .ref (ad 2)) hx hb hts hi2 hown hK hw 0 (by omega) _ (cF_0 _) rfl 1 (by decide) (hts (.fieldLink RX2 18 "WideningArray" "now" "LWideningArray$Marks;") (by decide +kernel)) rfl dX2_diskCount_23 ?_
    refine w_getN (ci := 1) (C := RX1) (T := TX1) (M := 5) (v := .int (nI n)) hx hb hts hi1 hown hK hw 2 (by omega) _ (cF_2 _) rfl 1 (by decide) (va_Nw.use rfl (hK.2 (.fieldLinkNest "WideningArray" 58 "WideningArray$Marks" "width" "I" "WideningArray") (by decide +kernel))) (congrArg (fun z => some (Value.int z)) (show V 2 1 = nI n from hn)) dX2_diskCount_26 ?_
    exact w_iret hx hb hr hlocks hw (⟨rfl, by rw [e1]; rfl⟩) dX2_diskCount_29
  · have e1 := bI_n0.mp c_7
    refine lv_aload_n hx hb dX2_diskCount_10 rfl (lv_at hl 0 rfl) ?_
    refine w_get (ci := 2) (C := RX2) (T := TX2) (M := 10) (v := .ref (ad 2)) hx hb hts hi2 hown hK hw 0 (by omega) _ (cF_0 _) rfl 1 (by decide) (hts (.fieldLink RX2 18 "WideningArray" "now" "LWideningArray$Marks;") (by decide +kernel)) rfl dX2_diskCount_11 ?_
    refine w_getN (ci := 1) (C := RX1) (T := TX1) (M := 5) (v := .int (nI n)) hx hb hts hi1 hown hK hw 2 (by omega) _ (cF_2 _) rfl 1 (by decide) (va_Nw.use rfl (hK.2 (.fieldLinkNest "WideningArray" 58 "WideningArray$Marks" "width" "I" "WideningArray") (by decide +kernel))) (congrArg (fun z => some (Value.int z)) (show V 2 1 = nI n from hn)) dX2_diskCount_14 ?_
    refine lv_iconst (v := nI 1) hx hb dX2_diskCount_17 (by decide) ?_
    refine n_add hx hb dX2_diskCount_18 ?_
    refine lv_goto (tgt := 29) hx hb dX2_diskCount_19 (by decide) ?_
    exact w_iret hx hb hr hlocks hw (⟨rfl, by rw [e1]; rfl⟩) dX2_diskCount_29
set_option maxHeartbeats 4000000 in
set_option maxRecDepth 100000 in
theorem c_X2_capacity (l : Launch) (D : va_G) (cI cD : ClassId) (ad : Nat → Nat) (sz : Nat) (V : vT) (n : Nat) (hn : V 2 1 = nI n) (h1 : 1 ≤ n) : Met l yX2_capacity wsX2_capacity ({ frames := 0, cells := 0, slots := 0, locals := 0 }) (gP D cI cD 47 ad (cF cI cD ad) sz V [.ref (ad 0)]) (va_Qi (fun (r : Int32) (V1 : vT) => V = V1 ∧ nI (32 * (n - 1)) = r) (gB D 47 ad (cF cI cD ad)) (gA 47 ad sz)) 0 0 (gA 47 ad sz) := by
  refine w_met (cc := cX2_capacity) (maxL := 1) (ret := (some .int)) (by decide) rfl (Nat.le_of_ble_eq_true rfl) ?_
  intro p e s m below meth c hx hb hr hts hown hlocks hml hsz hK hw ls hl
  subst hsz
  have hown : s.vm.findClass RX2 = some m.cls := hown
  have hi1 : ∀ w ∈ wsX10, w ∈ wsX2_capacity := by decide +kernel
  have hi2 : ∀ w ∈ wsX20, w ∈ wsX2_capacity := by decide +kernel
  have hl : lv_has ls 1 [(0, .ref (ad 0))] := hl
  refine lv_bipush (v := nI 32) hx hb dX2_capacity_0 (by decide) ?_
  refine lv_aload_n hx hb dX2_capacity_2 rfl (lv_at hl 0 rfl) ?_
  refine w_get (ci := 2) (C := RX2) (T := TX2) (M := 10) (v := .ref (ad 2)) hx hb hts hi2 hown hK hw 0 (by omega) _ (cF_0 _) rfl 1 (by decide) (hts (.fieldLink RX2 18 "WideningArray" "now" "LWideningArray$Marks;") (by decide +kernel)) rfl dX2_capacity_3 ?_
  refine w_getN (ci := 1) (C := RX1) (T := TX1) (M := 5) (v := .int (nI n)) hx hb hts hi1 hown hK hw 2 (by omega) _ (cF_2 _) rfl 1 (by decide) (va_Nw.use rfl (hK.2 (.fieldLinkNest "WideningArray" 58 "WideningArray$Marks" "width" "I" "WideningArray") (by decide +kernel))) (congrArg (fun z => some (Value.int z)) (show V 2 1 = nI n from hn)) dX2_capacity_6 ?_
  refine lv_iconst (v := nI 1) hx hb dX2_capacity_9 (by decide) ?_
  refine n_sub hx hb dX2_capacity_10 (by omega) ?_
  refine n_mul hx hb dX2_capacity_11 ?_
  exact w_iret hx hb hr hlocks hw (⟨rfl, rfl⟩) dX2_capacity_12
set_option maxHeartbeats 4000000 in
set_option maxRecDepth 100000 in
theorem c_X2_absentDisk (l : Launch) (D : va_G) (cI cD : ClassId) (ad : Nat → Nat) (sz : Nat) (V : vT)  : Met l yX2_absentDisk wsX2_absentDisk ({ frames := 0, cells := 0, slots := 0, locals := 0 }) (gP D cI cD 47 ad (cF cI cD ad) sz V [.ref (ad 0)]) (va_Qi (fun (r : Int32) (V1 : vT) => V = V1 ∧ ab (V 0 6) (V 0 7) = r) (gB D 47 ad (cF cI cD ad)) (gA 47 ad sz)) 0 0 (gA 47 ad sz) := by
  refine w_met (cc := cX2_absentDisk) (maxL := 1) (ret := (some .int)) (by decide) rfl (Nat.le_of_ble_eq_true rfl) ?_
  intro p e s m below meth c hx hb hr hts hown hlocks hml hsz hK hw ls hl
  subst hsz
  have hown : s.vm.findClass RX2 = some m.cls := hown
  have hi2 : ∀ w ∈ wsX20, w ∈ wsX2_absentDisk := by decide +kernel
  have hl : lv_has ls 1 [(0, .ref (ad 0))] := hl
  refine lv_aload_n hx hb dX2_absentDisk_0 rfl (lv_at hl 0 rfl) ?_
  refine w_get (ci := 2) (C := RX2) (T := TX2) (M := 10) (v := .int (V 0 6)) hx hb hts hi2 hown hK hw 0 (by omega) _ (cF_0 _) rfl 6 (by decide) (hts (.fieldLink RX2 29 "WideningArray" "lost" "I") (by decide +kernel)) rfl dX2_absentDisk_1 ?_
  refine lv_iconst (v := (-1)) hx hb dX2_absentDisk_4 (by decide) ?_
  refine lv_icmp_eq (tgt := 15) hx hb dX2_absentDisk_5 (by decide) (fun c_5 => ?_) (fun c_5 => ?_)
  · refine lv_aload_n hx hb dX2_absentDisk_15 rfl (lv_at hl 0 rfl) ?_
    refine w_get (ci := 2) (C := RX2) (T := TX2) (M := 10) (v := .int (V 0 7)) hx hb hts hi2 hown hK hw 0 (by omega) _ (cF_0 _) rfl 7 (by decide) (hts (.fieldLink RX2 33 "WideningArray" "replaced" "I") (by decide +kernel)) rfl dX2_absentDisk_16 ?_
    exact w_iret hx hb hr hlocks hw (⟨rfl, by rw [ab, if_pos c_5]⟩) dX2_absentDisk_19
  · refine lv_aload_n hx hb dX2_absentDisk_8 rfl (lv_at hl 0 rfl) ?_
    refine w_get (ci := 2) (C := RX2) (T := TX2) (M := 10) (v := .int (V 0 6)) hx hb hts hi2 hown hK hw 0 (by omega) _ (cF_0 _) rfl 6 (by decide) (hts (.fieldLink RX2 29 "WideningArray" "lost" "I") (by decide +kernel)) rfl dX2_absentDisk_9 ?_
    refine lv_goto (tgt := 19) hx hb dX2_absentDisk_12 (by decide) ?_
    exact w_iret hx hb hr hlocks hw (⟨rfl, by rw [ab, if_neg c_5]⟩) dX2_absentDisk_19
set_option maxHeartbeats 4000000 in
set_option maxRecDepth 100000 in
theorem c_X2_firstOfWindow (l : Launch) (D : va_G) (cI cD : ClassId) (ad : Nat → Nat) (sz : Nat) (V : vT) (n : Nat) (hn : V 2 1 = nI n) (dn : Nat) (hdn : V 2 3 = nI dn) : Met l yX2_firstOfWindow wsX2_firstOfWindow ({ frames := 0, cells := 0, slots := 0, locals := 0 }) (gP D cI cD 47 ad (cF cI cD ad) sz V [.ref (ad 0)]) (va_Qi (fun (r : Int32) (V1 : vT) => V = V1 ∧ nI (dn * n) = r) (gB D 47 ad (cF cI cD ad)) (gA 47 ad sz)) 0 0 (gA 47 ad sz) := by
  refine w_met (cc := cX2_firstOfWindow) (maxL := 1) (ret := (some .int)) (by decide) rfl (Nat.le_of_ble_eq_true rfl) ?_
  intro p e s m below meth c hx hb hr hts hown hlocks hml hsz hK hw ls hl
  subst hsz
  have hown : s.vm.findClass RX2 = some m.cls := hown
  have hi1 : ∀ w ∈ wsX10, w ∈ wsX2_firstOfWindow := by decide +kernel
  have hi2 : ∀ w ∈ wsX20, w ∈ wsX2_firstOfWindow := by decide +kernel
  have hl : lv_has ls 1 [(0, .ref (ad 0))] := hl
  refine lv_aload_n hx hb dX2_firstOfWindow_0 rfl (lv_at hl 0 rfl) ?_
  refine w_get (ci := 2) (C := RX2) (T := TX2) (M := 10) (v := .ref (ad 2)) hx hb hts hi2 hown hK hw 0 (by omega) _ (cF_0 _) rfl 1 (by decide) (hts (.fieldLink RX2 18 "WideningArray" "now" "LWideningArray$Marks;") (by decide +kernel)) rfl dX2_firstOfWindow_1 ?_
  refine w_getN (ci := 1) (C := RX1) (T := TX1) (M := 5) (v := .int (nI dn)) hx hb hts hi1 hown hK hw 2 (by omega) _ (cF_2 _) rfl 3 (by decide) (va_Nw.use rfl (hK.2 (.fieldLinkNest "WideningArray" 110 "WideningArray$Marks" "done" "I" "WideningArray") (by decide +kernel))) (congrArg (fun z => some (Value.int z)) (show V 2 3 = nI dn from hdn)) dX2_firstOfWindow_4 ?_
  refine lv_aload_n hx hb dX2_firstOfWindow_7 rfl (lv_at hl 0 rfl) ?_
  refine w_get (ci := 2) (C := RX2) (T := TX2) (M := 10) (v := .ref (ad 2)) hx hb hts hi2 hown hK hw 0 (by omega) _ (cF_0 _) rfl 1 (by decide) (hts (.fieldLink RX2 18 "WideningArray" "now" "LWideningArray$Marks;") (by decide +kernel)) rfl dX2_firstOfWindow_8 ?_
  refine w_getN (ci := 1) (C := RX1) (T := TX1) (M := 5) (v := .int (nI n)) hx hb hts hi1 hown hK hw 2 (by omega) _ (cF_2 _) rfl 1 (by decide) (va_Nw.use rfl (hK.2 (.fieldLinkNest "WideningArray" 58 "WideningArray$Marks" "width" "I" "WideningArray") (by decide +kernel))) (congrArg (fun z => some (Value.int z)) (show V 2 1 = nI n from hn)) dX2_firstOfWindow_11 ?_
  refine n_mul hx hb dX2_firstOfWindow_14 ?_
  exact w_iret hx hb hr hlocks hw (⟨rfl, rfl⟩) dX2_firstOfWindow_15
set_option maxHeartbeats 4000000 in
set_option maxRecDepth 100000 in
theorem c_X2_placeOf (l : Launch) (D : va_G) (cI cD : ClassId) (ad : Nat → Nat) (sz : Nat) (V : vT) (n : Nat) (hn : V 2 1 = nI n) (wide : Bool) (hwd : V 2 2 = bI wide) (dn : Nat) (hdn : V 2 3 = nI dn) (st : Bool) (hst : V 2 4 = bI st) (hn6 : n ≤ 6) (hd32 : dn < 32) (b : Nat) (hb31 : b < 1000) : Met l yX2_placeOf wsX2_placeOf ({ frames := 1, cells := 0, slots := 0, locals := 20 }) (gP D cI cD 47 ad (cF cI cD ad) sz V [.ref (ad 0), .int (nI b)]) (va_Qi (fun (r : Int32) (V1 : vT) => V = V1 ∧ nI (plc n wide dn st b) = r) (gB D 47 ad (cF cI cD ad)) (gA 47 ad sz)) 0 0 (gA 47 ad sz) := by
  refine w_met (cc := cX2_placeOf) (maxL := 2) (ret := (some .int)) (by decide) rfl (Nat.le_of_ble_eq_true rfl) ?_
  intro p e s m below meth c hx hb hr hts hown hlocks hml hsz hK hw ls hl
  subst hsz
  have hown : s.vm.findClass RX2 = some m.cls := hown
  have hi1 : ∀ w ∈ wsX10, w ∈ wsX2_placeOf := by decide +kernel
  have hi2 : ∀ w ∈ wsX20, w ∈ wsX2_placeOf := by decide +kernel
  have hl : lv_has ls 2 [(0, .ref (ad 0)), (1, .int (nI b))] := hl
  have hbn : dn * n ≤ 192 := Nat.le_trans (Nat.mul_le_mul (show dn ≤ 32 by omega) hn6) (by decide)
  refine lv_aload_n hx hb dX2_placeOf_0 rfl (lv_at hl 0 rfl) ?_
  refine w_get (ci := 2) (C := RX2) (T := TX2) (M := 10) (v := .ref (ad 2)) hx hb hts hi2 hown hK hw 0 (by omega) _ (cF_0 _) rfl 1 (by decide) (hts (.fieldLink RX2 18 "WideningArray" "now" "LWideningArray$Marks;") (by decide +kernel)) rfl dX2_placeOf_1 ?_
  refine w_getN (ci := 1) (C := RX1) (T := TX1) (M := 5) (v := .int (bI wide)) hx hb hts hi1 hown hK hw 2 (by omega) _ (cF_2 _) rfl 2 (by decide) (va_Nw.use rfl (hK.2 (.fieldLinkNest "WideningArray" 102 "WideningArray$Marks" "widened" "Z" "WideningArray") (by decide +kernel))) (congrArg (fun z => some (Value.int z)) (show V 2 2 = bI wide from hwd)) dX2_placeOf_4 ?_
  refine lv_if_ne (tgt := 12) hx hb dX2_placeOf_7 (by decide) (fun c_7 => ?_) (fun c_7 => ?_)
  · have e1 := bI_n0.mp c_7
    refine lv_iload_n hx hb dX2_placeOf_12 rfl (lv_at hl 1 rfl) ?_
    refine lv_aload_n hx hb dX2_placeOf_13 rfl (lv_at hl 0 rfl) ?_
    refine w_calli hw (va_runV (As := []) (rest := [.int (nI b)]) ⟨hx, hb, hml, hown, hts⟩ (c_X2_firstOfWindow l D cI cD ad _ V n (show V 2 1 = nI n from hn) dn (show V 2 3 = nI dn from hdn)) (cwV 0 hts gX2_placeOf_X2_firstOfWindow rfl rfl rfl (by decide +kernel) ⟨Nat.le_of_ble_eq_true rfl, Nat.le_of_ble_eq_true rfl⟩) (w_preV hK hw (by omega) (cF_0 _) rfl _) rfl rfl hl.1 rfl (lv_room (Nat.le_of_ble_eq_true rfl)) dX2_placeOf_14 ⟨Nat.le_of_ble_eq_true rfl, Nat.le_of_ble_eq_true rfl⟩) (fun r_2 V_1 H locs hp hw => ?_)
    obtain ⟨e9, e8⟩ := hp
    subst e9
    subst e8
    refine n_icmp_ge (tgt := 22) hx hb dX2_placeOf_17 (by decide) (by omega) (by omega) (fun c_17 => ?_) (fun c_17 => ?_)
    · refine lv_aload_n hx hb dX2_placeOf_22 rfl (lv_at hl 0 rfl) ?_
      refine w_get (ci := 2) (C := RX2) (T := TX2) (M := 10) (v := .ref (ad 2)) hx hb hts hi2 hown hK hw 0 (by omega) _ (cF_0 _) rfl 1 (by decide) (hts (.fieldLink RX2 18 "WideningArray" "now" "LWideningArray$Marks;") (by decide +kernel)) rfl dX2_placeOf_23 ?_
      refine w_getN (ci := 1) (C := RX1) (T := TX1) (M := 5) (v := .int (bI st)) hx hb hts hi1 hown hK hw 2 (by omega) _ (cF_2 _) rfl 4 (by decide) (va_Nw.use rfl (hK.2 (.fieldLinkNest "WideningArray" 113 "WideningArray$Marks" "stashed" "Z" "WideningArray") (by decide +kernel))) (congrArg (fun z => some (Value.int z)) (show V 2 4 = bI st from hst)) dX2_placeOf_26 ?_
      refine lv_if_eq (tgt := 52) hx hb dX2_placeOf_29 (by decide) (fun c_29 => ?_) (fun c_29 => ?_)
      · have e2 := bI_0.mp c_29
        refine lv_iconst (v := nI 0) hx hb dX2_placeOf_52 (by decide) ?_
        exact w_iret hx hb hr hlocks hw (⟨rfl, by rw [plc, if_neg (by rw [e1]; decide), if_neg (by omega), if_neg (fun h => by first | (have h1 := h.1; rw [e2] at h1; exact absurd h1 (by decide)) | (have h2 := h.2; omega))]⟩) dX2_placeOf_53
      · have e2 := bI_n0.mp c_29
        refine lv_iload_n hx hb dX2_placeOf_32 rfl (lv_at hl 1 rfl) ?_
        refine lv_aload_n hx hb dX2_placeOf_33 rfl (lv_at hl 0 rfl) ?_
        refine w_calli hw (va_runV (As := []) (rest := [.int (nI b)]) ⟨hx, hb, hml, hown, hts⟩ (c_X2_firstOfWindow l D cI cD ad _ V n (show V 2 1 = nI n from hn) dn (show V 2 3 = nI dn from hdn)) (cwV 0 hts gX2_placeOf_X2_firstOfWindow rfl rfl rfl (by decide +kernel) ⟨Nat.le_of_ble_eq_true rfl, Nat.le_of_ble_eq_true rfl⟩) (w_preV hK hw (by omega) (cF_0 _) rfl _) rfl rfl hl.1 rfl (lv_room (Nat.le_of_ble_eq_true rfl)) dX2_placeOf_34 ⟨Nat.le_of_ble_eq_true rfl, Nat.le_of_ble_eq_true rfl⟩) (fun r_4 V_3 H locs hp hw => ?_)
        obtain ⟨e9, e8⟩ := hp
        subst e9
        subst e8
        refine lv_aload_n hx hb dX2_placeOf_37 rfl (lv_at hl 0 rfl) ?_
        refine w_get (ci := 2) (C := RX2) (T := TX2) (M := 10) (v := .ref (ad 2)) hx hb hts hi2 hown hK hw 0 (by omega) _ (cF_0 _) rfl 1 (by decide) (hts (.fieldLink RX2 18 "WideningArray" "now" "LWideningArray$Marks;") (by decide +kernel)) rfl dX2_placeOf_38 ?_
        refine w_getN (ci := 1) (C := RX1) (T := TX1) (M := 5) (v := .int (nI n)) hx hb hts hi1 hown hK hw 2 (by omega) _ (cF_2 _) rfl 1 (by decide) (va_Nw.use rfl (hK.2 (.fieldLinkNest "WideningArray" 58 "WideningArray$Marks" "width" "I" "WideningArray") (by decide +kernel))) (congrArg (fun z => some (Value.int z)) (show V 2 1 = nI n from hn)) dX2_placeOf_41 ?_
        refine n_add hx hb dX2_placeOf_44 ?_
        refine n_icmp_ge (tgt := 52) hx hb dX2_placeOf_45 (by decide) (by omega) (by omega) (fun c_45 => ?_) (fun c_45 => ?_)
        · refine lv_iconst (v := nI 0) hx hb dX2_placeOf_52 (by decide) ?_
          exact w_iret hx hb hr hlocks hw (⟨rfl, by rw [plc, if_neg (by rw [e1]; decide), if_neg (by omega), if_neg (fun h => by first | (have h1 := h.1; rw [e2] at h1; exact absurd h1 (by decide)) | (have h2 := h.2; omega))]⟩) dX2_placeOf_53
        · refine lv_iconst (v := nI 2) hx hb dX2_placeOf_48 (by decide) ?_
          refine lv_goto (tgt := 53) hx hb dX2_placeOf_49 (by decide) ?_
          exact w_iret hx hb hr hlocks hw (⟨rfl, by rw [plc, if_neg (by rw [e1]; decide), if_neg (by omega), if_pos ⟨e2, by omega⟩]⟩) dX2_placeOf_53
    · refine lv_iconst (v := nI 1) hx hb dX2_placeOf_20 (by decide) ?_
      exact w_iret hx hb hr hlocks hw (⟨rfl, by rw [plc, if_neg (by rw [e1]; decide), if_pos (by omega)]⟩) dX2_placeOf_21
  · have e1 := bI_0.mp c_7
    refine lv_iconst (v := nI 0) hx hb dX2_placeOf_10 (by decide) ?_
    exact w_iret hx hb hr hlocks hw (⟨rfl, by rw [plc, if_pos e1]⟩) dX2_placeOf_11
set_option maxHeartbeats 4000000 in
set_option maxRecDepth 100000 in
theorem c_X2_widthIn (l : Launch) (D : va_G) (cI cD : ClassId) (ad : Nat → Nat) (sz : Nat) (V : vT) (n : Nat) (hn : V 2 1 = nI n) (q : Nat) (hq : q < 3) : Met l yX2_widthIn wsX2_widthIn ({ frames := 0, cells := 0, slots := 0, locals := 0 }) (gP D cI cD 47 ad (cF cI cD ad) sz V [.ref (ad 0), .int (nI q)]) (va_Qi (fun (r : Int32) (V1 : vT) => V = V1 ∧ nI (if q = 1 then n + 1 else n) = r) (gB D 47 ad (cF cI cD ad)) (gA 47 ad sz)) 0 0 (gA 47 ad sz) := by
  refine w_met (cc := cX2_widthIn) (maxL := 2) (ret := (some .int)) (by decide) rfl (Nat.le_of_ble_eq_true rfl) ?_
  intro p e s m below meth c hx hb hr hts hown hlocks hml hsz hK hw ls hl
  subst hsz
  have hown : s.vm.findClass RX2 = some m.cls := hown
  have hi1 : ∀ w ∈ wsX10, w ∈ wsX2_widthIn := by decide +kernel
  have hi2 : ∀ w ∈ wsX20, w ∈ wsX2_widthIn := by decide +kernel
  have hl : lv_has ls 2 [(0, .ref (ad 0)), (1, .int (nI q))] := hl
  refine lv_iload_n hx hb dX2_widthIn_0 rfl (lv_at hl 1 rfl) ?_
  refine lv_iconst (v := nI 1) hx hb dX2_widthIn_1 (by decide) ?_
  refine n_icmp_ne (tgt := 17) hx hb dX2_widthIn_2 (by decide) (by omega) (by omega) (fun c_2 => ?_) (fun c_2 => ?_)
  · refine lv_aload_n hx hb dX2_widthIn_17 rfl (lv_at hl 0 rfl) ?_
    refine w_get (ci := 2) (C := RX2) (T := TX2) (M := 10) (v := .ref (ad 2)) hx hb hts hi2 hown hK hw 0 (by omega) _ (cF_0 _) rfl 1 (by decide) (hts (.fieldLink RX2 18 "WideningArray" "now" "LWideningArray$Marks;") (by decide +kernel)) rfl dX2_widthIn_18 ?_
    refine w_getN (ci := 1) (C := RX1) (T := TX1) (M := 5) (v := .int (nI n)) hx hb hts hi1 hown hK hw 2 (by omega) _ (cF_2 _) rfl 1 (by decide) (va_Nw.use rfl (hK.2 (.fieldLinkNest "WideningArray" 58 "WideningArray$Marks" "width" "I" "WideningArray") (by decide +kernel))) (congrArg (fun z => some (Value.int z)) (show V 2 1 = nI n from hn)) dX2_widthIn_21 ?_
    exact w_iret hx hb hr hlocks hw (⟨rfl, by rw [if_neg c_2]⟩) dX2_widthIn_24
  · refine lv_aload_n hx hb dX2_widthIn_5 rfl (lv_at hl 0 rfl) ?_
    refine w_get (ci := 2) (C := RX2) (T := TX2) (M := 10) (v := .ref (ad 2)) hx hb hts hi2 hown hK hw 0 (by omega) _ (cF_0 _) rfl 1 (by decide) (hts (.fieldLink RX2 18 "WideningArray" "now" "LWideningArray$Marks;") (by decide +kernel)) rfl dX2_widthIn_6 ?_
    refine w_getN (ci := 1) (C := RX1) (T := TX1) (M := 5) (v := .int (nI n)) hx hb hts hi1 hown hK hw 2 (by omega) _ (cF_2 _) rfl 1 (by decide) (va_Nw.use rfl (hK.2 (.fieldLinkNest "WideningArray" 58 "WideningArray$Marks" "width" "I" "WideningArray") (by decide +kernel))) (congrArg (fun z => some (Value.int z)) (show V 2 1 = nI n from hn)) dX2_widthIn_9 ?_
    refine lv_iconst (v := nI 1) hx hb dX2_widthIn_12 (by decide) ?_
    refine n_add hx hb dX2_widthIn_13 ?_
    refine lv_goto (tgt := 24) hx hb dX2_widthIn_14 (by decide) ?_
    exact w_iret hx hb hr hlocks hw (⟨rfl, by rw [if_pos c_2]⟩) dX2_widthIn_24
set_option maxHeartbeats 4000000 in
set_option maxRecDepth 100000 in
theorem c_X2_widthOfRow (l : Launch) (D : va_G) (cI cD : ClassId) (ad : Nat → Nat) (sz : Nat) (V : vT) (n : Nat) (hn : V 2 1 = nI n) (wide : Bool) (hwd : V 2 2 = bI wide) (dn : Nat) (hdn : V 2 3 = nI dn) (hd32 : dn < 32) (row : Nat) (hrow : row < 40) : Met l yX2_widthOfRow wsX2_widthOfRow ({ frames := 0, cells := 0, slots := 0, locals := 0 }) (gP D cI cD 47 ad (cF cI cD ad) sz V [.ref (ad 0), .int (nI row)]) (va_Qi (fun (r : Int32) (V1 : vT) => V = V1 ∧ nI (wor n wide dn row) = r) (gB D 47 ad (cF cI cD ad)) (gA 47 ad sz)) 0 0 (gA 47 ad sz) := by
  refine w_met (cc := cX2_widthOfRow) (maxL := 2) (ret := (some .int)) (by decide) rfl (Nat.le_of_ble_eq_true rfl) ?_
  intro p e s m below meth c hx hb hr hts hown hlocks hml hsz hK hw ls hl
  subst hsz
  have hown : s.vm.findClass RX2 = some m.cls := hown
  have hi1 : ∀ w ∈ wsX10, w ∈ wsX2_widthOfRow := by decide +kernel
  have hi2 : ∀ w ∈ wsX20, w ∈ wsX2_widthOfRow := by decide +kernel
  have hl : lv_has ls 2 [(0, .ref (ad 0)), (1, .int (nI row))] := hl
  refine lv_aload_n hx hb dX2_widthOfRow_0 rfl (lv_at hl 0 rfl) ?_
  refine w_get (ci := 2) (C := RX2) (T := TX2) (M := 10) (v := .ref (ad 2)) hx hb hts hi2 hown hK hw 0 (by omega) _ (cF_0 _) rfl 1 (by decide) (hts (.fieldLink RX2 18 "WideningArray" "now" "LWideningArray$Marks;") (by decide +kernel)) rfl dX2_widthOfRow_1 ?_
  refine w_getN (ci := 1) (C := RX1) (T := TX1) (M := 5) (v := .int (bI wide)) hx hb hts hi1 hown hK hw 2 (by omega) _ (cF_2 _) rfl 2 (by decide) (va_Nw.use rfl (hK.2 (.fieldLinkNest "WideningArray" 102 "WideningArray$Marks" "widened" "Z" "WideningArray") (by decide +kernel))) (congrArg (fun z => some (Value.int z)) (show V 2 2 = bI wide from hwd)) dX2_widthOfRow_4 ?_
  refine lv_if_eq (tgt := 33) hx hb dX2_widthOfRow_7 (by decide) (fun c_7 => ?_) (fun c_7 => ?_)
  · have e1 := bI_0.mp c_7
    refine lv_aload_n hx hb dX2_widthOfRow_33 rfl (lv_at hl 0 rfl) ?_
    refine w_get (ci := 2) (C := RX2) (T := TX2) (M := 10) (v := .ref (ad 2)) hx hb hts hi2 hown hK hw 0 (by omega) _ (cF_0 _) rfl 1 (by decide) (hts (.fieldLink RX2 18 "WideningArray" "now" "LWideningArray$Marks;") (by decide +kernel)) rfl dX2_widthOfRow_34 ?_
    refine w_getN (ci := 1) (C := RX1) (T := TX1) (M := 5) (v := .int (nI n)) hx hb hts hi1 hown hK hw 2 (by omega) _ (cF_2 _) rfl 1 (by decide) (va_Nw.use rfl (hK.2 (.fieldLinkNest "WideningArray" 58 "WideningArray$Marks" "width" "I" "WideningArray") (by decide +kernel))) (congrArg (fun z => some (Value.int z)) (show V 2 1 = nI n from hn)) dX2_widthOfRow_37 ?_
    exact w_iret hx hb hr hlocks hw (⟨rfl, by rw [wor, if_neg (fun h => by first | (have h1 := h.1; rw [e1] at h1; exact absurd h1 (by decide)) | (have h2 := h.2; omega))]⟩) dX2_widthOfRow_40
  · have e1 := bI_n0.mp c_7
    refine lv_iload_n hx hb dX2_widthOfRow_10 rfl (lv_at hl 1 rfl) ?_
    refine lv_aload_n hx hb dX2_widthOfRow_11 rfl (lv_at hl 0 rfl) ?_
    refine w_get (ci := 2) (C := RX2) (T := TX2) (M := 10) (v := .ref (ad 2)) hx hb hts hi2 hown hK hw 0 (by omega) _ (cF_0 _) rfl 1 (by decide) (hts (.fieldLink RX2 18 "WideningArray" "now" "LWideningArray$Marks;") (by decide +kernel)) rfl dX2_widthOfRow_12 ?_
    refine w_getN (ci := 1) (C := RX1) (T := TX1) (M := 5) (v := .int (nI dn)) hx hb hts hi1 hown hK hw 2 (by omega) _ (cF_2 _) rfl 3 (by decide) (va_Nw.use rfl (hK.2 (.fieldLinkNest "WideningArray" 110 "WideningArray$Marks" "done" "I" "WideningArray") (by decide +kernel))) (congrArg (fun z => some (Value.int z)) (show V 2 3 = nI dn from hdn)) dX2_widthOfRow_15 ?_
    refine n_icmp_ge (tgt := 33) hx hb dX2_widthOfRow_18 (by decide) (by omega) (by omega) (fun c_18 => ?_) (fun c_18 => ?_)
    · refine lv_aload_n hx hb dX2_widthOfRow_33 rfl (lv_at hl 0 rfl) ?_
      refine w_get (ci := 2) (C := RX2) (T := TX2) (M := 10) (v := .ref (ad 2)) hx hb hts hi2 hown hK hw 0 (by omega) _ (cF_0 _) rfl 1 (by decide) (hts (.fieldLink RX2 18 "WideningArray" "now" "LWideningArray$Marks;") (by decide +kernel)) rfl dX2_widthOfRow_34 ?_
      refine w_getN (ci := 1) (C := RX1) (T := TX1) (M := 5) (v := .int (nI n)) hx hb hts hi1 hown hK hw 2 (by omega) _ (cF_2 _) rfl 1 (by decide) (va_Nw.use rfl (hK.2 (.fieldLinkNest "WideningArray" 58 "WideningArray$Marks" "width" "I" "WideningArray") (by decide +kernel))) (congrArg (fun z => some (Value.int z)) (show V 2 1 = nI n from hn)) dX2_widthOfRow_37 ?_
      exact w_iret hx hb hr hlocks hw (⟨rfl, by rw [wor, if_neg (fun h => by first | (have h1 := h.1; rw [e1] at h1; exact absurd h1 (by decide)) | (have h2 := h.2; omega))]⟩) dX2_widthOfRow_40
    · refine lv_aload_n hx hb dX2_widthOfRow_21 rfl (lv_at hl 0 rfl) ?_
      refine w_get (ci := 2) (C := RX2) (T := TX2) (M := 10) (v := .ref (ad 2)) hx hb hts hi2 hown hK hw 0 (by omega) _ (cF_0 _) rfl 1 (by decide) (hts (.fieldLink RX2 18 "WideningArray" "now" "LWideningArray$Marks;") (by decide +kernel)) rfl dX2_widthOfRow_22 ?_
      refine w_getN (ci := 1) (C := RX1) (T := TX1) (M := 5) (v := .int (nI n)) hx hb hts hi1 hown hK hw 2 (by omega) _ (cF_2 _) rfl 1 (by decide) (va_Nw.use rfl (hK.2 (.fieldLinkNest "WideningArray" 58 "WideningArray$Marks" "width" "I" "WideningArray") (by decide +kernel))) (congrArg (fun z => some (Value.int z)) (show V 2 1 = nI n from hn)) dX2_widthOfRow_25 ?_
      refine lv_iconst (v := nI 1) hx hb dX2_widthOfRow_28 (by decide) ?_
      refine n_add hx hb dX2_widthOfRow_29 ?_
      refine lv_goto (tgt := 40) hx hb dX2_widthOfRow_30 (by decide) ?_
      exact w_iret hx hb hr hlocks hw (⟨rfl, by rw [wor, if_pos ⟨e1, by omega⟩]⟩) dX2_widthOfRow_40
set_option maxHeartbeats 4000000 in
set_option maxRecDepth 100000 in
theorem c_X2_isBeingLaid (l : Launch) (D : va_G) (cI cD : ClassId) (ad : Nat → Nat) (sz : Nat) (V : vT) (dn : Nat) (hdn : V 2 3 = nI dn) (st : Bool) (hst : V 2 4 = bI st) (hd32 : dn < 32) (row : Nat) (hrow : row < 40) : Met l yX2_isBeingLaid wsX2_isBeingLaid ({ frames := 0, cells := 0, slots := 0, locals := 0 }) (gP D cI cD 47 ad (cF cI cD ad) sz V [.ref (ad 0), .int (nI row)]) (va_Qi (fun (r : Int32) (V1 : vT) => V = V1 ∧ bI (lay st dn row) = r) (gB D 47 ad (cF cI cD ad)) (gA 47 ad sz)) 0 0 (gA 47 ad sz) := by
  refine w_met (cc := cX2_isBeingLaid) (maxL := 2) (ret := (some .boolean)) (by decide) rfl (Nat.le_of_ble_eq_true rfl) ?_
  intro p e s m below meth c hx hb hr hts hown hlocks hml hsz hK hw ls hl
  subst hsz
  have hown : s.vm.findClass RX2 = some m.cls := hown
  have hi1 : ∀ w ∈ wsX10, w ∈ wsX2_isBeingLaid := by decide +kernel
  have hi2 : ∀ w ∈ wsX20, w ∈ wsX2_isBeingLaid := by decide +kernel
  have hl : lv_has ls 2 [(0, .ref (ad 0)), (1, .int (nI row))] := hl
  refine lv_aload_n hx hb dX2_isBeingLaid_0 rfl (lv_at hl 0 rfl) ?_
  refine w_get (ci := 2) (C := RX2) (T := TX2) (M := 10) (v := .ref (ad 2)) hx hb hts hi2 hown hK hw 0 (by omega) _ (cF_0 _) rfl 1 (by decide) (hts (.fieldLink RX2 18 "WideningArray" "now" "LWideningArray$Marks;") (by decide +kernel)) rfl dX2_isBeingLaid_1 ?_
  refine w_getN (ci := 1) (C := RX1) (T := TX1) (M := 5) (v := .int (bI st)) hx hb hts hi1 hown hK hw 2 (by omega) _ (cF_2 _) rfl 4 (by decide) (va_Nw.use rfl (hK.2 (.fieldLinkNest "WideningArray" 113 "WideningArray$Marks" "stashed" "Z" "WideningArray") (by decide +kernel))) (congrArg (fun z => some (Value.int z)) (show V 2 4 = bI st from hst)) dX2_isBeingLaid_4 ?_
  refine lv_if_eq (tgt := 25) hx hb dX2_isBeingLaid_7 (by decide) (fun c_7 => ?_) (fun c_7 => ?_)
  · have e1 := bI_0.mp c_7
    refine lv_iconst (v := nI 0) hx hb dX2_isBeingLaid_25 (by decide) ?_
    exact w_zret hx hb hr hlocks hw rfl (⟨rfl, by rw [lay, e1]; first | rfl | (rw [decide_eq_false c_18]; rfl)⟩) dX2_isBeingLaid_26
  · have e1 := bI_n0.mp c_7
    refine lv_iload_n hx hb dX2_isBeingLaid_10 rfl (lv_at hl 1 rfl) ?_
    refine lv_aload_n hx hb dX2_isBeingLaid_11 rfl (lv_at hl 0 rfl) ?_
    refine w_get (ci := 2) (C := RX2) (T := TX2) (M := 10) (v := .ref (ad 2)) hx hb hts hi2 hown hK hw 0 (by omega) _ (cF_0 _) rfl 1 (by decide) (hts (.fieldLink RX2 18 "WideningArray" "now" "LWideningArray$Marks;") (by decide +kernel)) rfl dX2_isBeingLaid_12 ?_
    refine w_getN (ci := 1) (C := RX1) (T := TX1) (M := 5) (v := .int (nI dn)) hx hb hts hi1 hown hK hw 2 (by omega) _ (cF_2 _) rfl 3 (by decide) (va_Nw.use rfl (hK.2 (.fieldLinkNest "WideningArray" 110 "WideningArray$Marks" "done" "I" "WideningArray") (by decide +kernel))) (congrArg (fun z => some (Value.int z)) (show V 2 3 = nI dn from hdn)) dX2_isBeingLaid_15 ?_
    refine n_icmp_ne (tgt := 25) hx hb dX2_isBeingLaid_18 (by decide) (by omega) (by omega) (fun c_18 => ?_) (fun c_18 => ?_)
    · refine lv_iconst (v := nI 0) hx hb dX2_isBeingLaid_25 (by decide) ?_
      exact w_zret hx hb hr hlocks hw rfl (⟨rfl, by rw [lay, e1]; first | rfl | (rw [decide_eq_false c_18]; rfl)⟩) dX2_isBeingLaid_26
    · refine lv_iconst (v := nI 1) hx hb dX2_isBeingLaid_21 (by decide) ?_
      refine lv_goto (tgt := 26) hx hb dX2_isBeingLaid_22 (by decide) ?_
      exact w_zret hx hb hr hlocks hw rfl (⟨rfl, by rw [lay, e1]; rw [decide_eq_true c_18]; rfl⟩) dX2_isBeingLaid_26
set_option maxHeartbeats 4000000 in
set_option maxRecDepth 100000 in
theorem c_X2_parityDisk (l : Launch) (D : va_G) (cI cD : ClassId) (ad : Nat → Nat) (sz : Nat) (V : vT) (k row : Nat) (hk : 0 < k) (hk6 : k ≤ 6) (hrow : row < 40) : Met l yX2_parityDisk wsX2_parityDisk ({ frames := 0, cells := 0, slots := 0, locals := 0 }) (gP D cI cD 47 ad (cF cI cD ad) sz V [.int (nI k), .int (nI row)]) (va_Qi (fun (r : Int32) (V1 : vT) => V = V1 ∧ nI (pd k row) = r) (gB D 47 ad (cF cI cD ad)) (gA 47 ad sz)) 0 0 (gA 47 ad sz) := by
  refine w_met (cc := cX2_parityDisk) (maxL := 2) (ret := (some .int)) (by decide) rfl (Nat.le_of_ble_eq_true rfl) ?_
  intro p e s m below meth c hx hb hr hts hown hlocks hml hsz hK hw ls hl
  subst hsz
  have hown : s.vm.findClass RX2 = some m.cls := hown
  have hl : lv_has ls 2 [(0, .int (nI k)), (1, .int (nI row))] := hl
  refine lv_iload_n hx hb dX2_parityDisk_0 rfl (lv_at hl 0 rfl) ?_
  refine lv_iconst (v := nI 1) hx hb dX2_parityDisk_1 (by decide) ?_
  refine n_sub hx hb dX2_parityDisk_2 (by omega) ?_
  refine lv_iload_n hx hb dX2_parityDisk_3 rfl (lv_at hl 1 rfl) ?_
  refine lv_iload_n hx hb dX2_parityDisk_4 rfl (lv_at hl 0 rfl) ?_
  refine n_rem hx hb dX2_parityDisk_5 (by omega) (by omega) (by omega) ?_
  refine n_sub hx hb dX2_parityDisk_6 (by have := Nat.mod_lt row hk; omega) ?_
  exact w_iret hx hb hr hlocks hw (⟨rfl, rfl⟩) dX2_parityDisk_7
set_option maxHeartbeats 4000000 in
set_option maxRecDepth 100000 in
theorem c_X2_dataDisk (l : Launch) (D : va_G) (cI cD : ClassId) (ad : Nat → Nat) (sz : Nat) (V : vT) (k row j : Nat) (hk : 0 < k) (hk6 : k ≤ 6) (hrow : row < 40) (hj : j < 6) : Met l yX2_dataDisk wsX2_dataDisk ({ frames := 1, cells := 0, slots := 0, locals := 21 }) (gP D cI cD 47 ad (cF cI cD ad) sz V [.int (nI k), .int (nI row), .int (nI j)]) (va_Qi (fun (r : Int32) (V1 : vT) => V = V1 ∧ nI (dd k row j) = r) (gB D 47 ad (cF cI cD ad)) (gA 47 ad sz)) 0 0 (gA 47 ad sz) := by
  refine w_met (cc := cX2_dataDisk) (maxL := 3) (ret := (some .int)) (by decide) rfl (Nat.le_of_ble_eq_true rfl) ?_
  intro p e s m below meth c hx hb hr hts hown hlocks hml hsz hK hw ls hl
  subst hsz
  have hown : s.vm.findClass RX2 = some m.cls := hown
  have hl : lv_has ls 3 [(0, .int (nI k)), (1, .int (nI row)), (2, .int (nI j))] := hl
  refine lv_iload_n hx hb dX2_dataDisk_0 rfl (lv_at hl 0 rfl) ?_
  refine lv_iload_n hx hb dX2_dataDisk_1 rfl (lv_at hl 1 rfl) ?_
  refine w_calli hw (va_runS (As := [.int (nI k), .int (nI row)]) (rest := []) ⟨hx, hb, hml, hown, hts⟩ (c_X2_parityDisk l D cI cD ad _ V k row (by omega) (by omega) (by omega)) (va_cwS 2 hts gX2_dataDisk_X2_parityDisk rfl rfl rfl (by decide +kernel) ⟨Nat.le_of_ble_eq_true rfl, Nat.le_of_ble_eq_true rfl⟩) (w_preS hK hw _) rfl rfl hl.1 rfl (lv_room (Nat.le_of_ble_eq_true rfl)) dX2_dataDisk_2 ⟨Nat.le_of_ble_eq_true rfl, Nat.le_of_ble_eq_true rfl⟩) (fun r_2 V_1 H locs hp hw => ?_)
  obtain ⟨e9, e8⟩ := hp
  subst e9
  subst e8
  refine lv_iconst (v := nI 1) hx hb dX2_dataDisk_5 (by decide) ?_
  refine n_add hx hb dX2_dataDisk_6 ?_
  refine lv_iload_n hx hb dX2_dataDisk_7 rfl (lv_at hl 2 rfl) ?_
  refine n_add hx hb dX2_dataDisk_8 ?_
  refine lv_iload_n hx hb dX2_dataDisk_9 rfl (lv_at hl 0 rfl) ?_
  refine n_rem hx hb dX2_dataDisk_10 (by have := pd_lt (row := row) hk; omega) (by omega) (by omega) ?_
  exact w_iret hx hb hr hlocks hw (⟨rfl, rfl⟩) dX2_dataDisk_11
set_option maxHeartbeats 4000000 in
set_option maxRecDepth 100000 in
theorem c_X2_wordOfStash (l : Launch) (D : va_G) (cI cD : ClassId) (ad : Nat → Nat) (sz : Nat) (V : vT) (n : Nat) (hn : V 2 1 = nI n) (hn5 : n < 6) (j i : Nat) (hj : j < 8) (hi4 : i < 4) : Met l yX2_wordOfStash wsX2_wordOfStash ({ frames := 1, cells := 0, slots := 0, locals := 22 }) (gP D cI cD 47 ad (cF cI cD ad) sz V [.ref (ad 0), .int (nI j), .int (nI i)]) (va_Qi (fun (r : Int32) (V1 : vT) => V = V1 ∧ V (6 + 7 * sd (ab (V 0 6) (V 0 7)) n) ((32 + j) * 4 + i) = r) (gB D 47 ad (cF cI cD ad)) (gA 47 ad sz)) 0 0 (gA 47 ad sz) := by
  refine w_met (cc := cX2_wordOfStash) (maxL := 4) (ret := (some .int)) (by decide) rfl (Nat.le_of_ble_eq_true rfl) ?_
  intro p e s m below meth c hx hb hr hts hown hlocks hml hsz hK hw ls hl
  subst hsz
  have hown : s.vm.findClass RX2 = some m.cls := hown
  have hi1 : ∀ w ∈ wsX10, w ∈ wsX2_wordOfStash := by decide +kernel
  have hi2 : ∀ w ∈ wsX20, w ∈ wsX2_wordOfStash := by decide +kernel
  have hl : lv_has ls 4 [(0, .ref (ad 0)), (1, .int (nI j)), (2, .int (nI i))] := hl
  refine lv_aload_n hx hb dX2_wordOfStash_0 rfl (lv_at hl 0 rfl) ?_
  refine w_calli hw (va_runV (As := []) (rest := []) ⟨hx, hb, hml, hown, hts⟩ (c_X2_absentDisk l D cI cD ad _ V) (cwV 0 hts gX2_wordOfStash_X2_absentDisk rfl rfl rfl (by decide +kernel) ⟨Nat.le_of_ble_eq_true rfl, Nat.le_of_ble_eq_true rfl⟩) (w_preV hK hw (by omega) (cF_0 _) rfl _) rfl rfl hl.1 rfl (lv_room (Nat.le_of_ble_eq_true rfl)) dX2_wordOfStash_1 ⟨Nat.le_of_ble_eq_true rfl, Nat.le_of_ble_eq_true rfl⟩) (fun r_2 V_1 H locs hp hw => ?_)
  obtain ⟨e9, e8⟩ := hp
  subst e9
  subst e8
  refine lv_aload_n hx hb dX2_wordOfStash_4 rfl (lv_at hl 0 rfl) ?_
  refine w_get (ci := 2) (C := RX2) (T := TX2) (M := 10) (v := .ref (ad 2)) hx hb hts hi2 hown hK hw 0 (by omega) _ (cF_0 _) rfl 1 (by decide) (hts (.fieldLink RX2 18 "WideningArray" "now" "LWideningArray$Marks;") (by decide +kernel)) rfl dX2_wordOfStash_5 ?_
  refine w_getN (ci := 1) (C := RX1) (T := TX1) (M := 5) (v := .int (nI n)) hx hb hts hi1 hown hK hw 2 (by omega) _ (cF_2 _) rfl 1 (by decide) (va_Nw.use rfl (hK.2 (.fieldLinkNest "WideningArray" 58 "WideningArray$Marks" "width" "I" "WideningArray") (by decide +kernel))) (congrArg (fun z => some (Value.int z)) (show V 2 1 = nI n from hn)) dX2_wordOfStash_8 ?_
  refine lv_icmp_ne (tgt := 18) hx hb dX2_wordOfStash_11 (by decide) (fun c_11 => ?_) (fun c_11 => ?_)
  · refine lv_aload_n hx hb dX2_wordOfStash_18 rfl (lv_at hl 0 rfl) ?_
    refine w_get (ci := 2) (C := RX2) (T := TX2) (M := 10) (v := .ref (ad 2)) hx hb hts hi2 hown hK hw 0 (by omega) _ (cF_0 _) rfl 1 (by decide) (hts (.fieldLink RX2 18 "WideningArray" "now" "LWideningArray$Marks;") (by decide +kernel)) rfl dX2_wordOfStash_19 ?_
    refine w_getN (ci := 1) (C := RX1) (T := TX1) (M := 5) (v := .int (nI n)) hx hb hts hi1 hown hK hw 2 (by omega) _ (cF_2 _) rfl 1 (by decide) (va_Nw.use rfl (hK.2 (.fieldLinkNest "WideningArray" 58 "WideningArray$Marks" "width" "I" "WideningArray") (by decide +kernel))) (congrArg (fun z => some (Value.int z)) (show V 2 1 = nI n from hn)) dX2_wordOfStash_22 ?_
    refine lv_istore_n (lv' := [(3, .int (nI n)), (0, .ref (ad 0)), (1, .int (nI j)), (2, .int (nI i))]) hx hb dX2_wordOfStash_25 rfl hl (by decide) rfl (fun ls hl => ?_)
    refine lv_aload_n hx hb dX2_wordOfStash_26 rfl (lv_at hl 1 rfl) ?_
    refine w_get (ci := 2) (C := RX2) (T := TX2) (M := 10) (v := .ref (ad 1)) hx hb hts hi2 hown hK hw 0 (by omega) _ (cF_0 _) rfl 0 (by decide) (hts (.fieldLink RX2 11 "WideningArray" "disks" "[LWideningArray$Disk;") (by decide +kernel)) rfl dX2_wordOfStash_27 ?_
    refine lv_iload_n hx hb dX2_wordOfStash_30 rfl (lv_at hl 0 rfl) ?_
    refine w_aald hx hb hK hw 1 6 (by omega) (cF_1 _) (i := n) (by omega) (by decide) rfl dX2_wordOfStash_31 ?_
    refine lv_bipush (v := nI 32) hx hb dX2_wordOfStash_32 (by decide) ?_
    refine lv_iload_n hx hb dX2_wordOfStash_34 rfl (lv_at hl 2 rfl) ?_
    refine n_add hx hb dX2_wordOfStash_35 ?_
    refine lv_iload_n hx hb dX2_wordOfStash_36 rfl (lv_at hl 3 rfl) ?_
    refine w_calli hw (va_runV (As := [.int (nI (32 + j)), .int (nI i)]) (rest := []) ⟨hx, hb, hml, hown, hts⟩ (c_X0_word l D cI cD ad _ V n (by omega) (32 + j) i (by omega) (by omega)) (cwV 2 hts gX2_wordOfStash_X0_word rfl rfl rfl (by decide +kernel) ⟨Nat.le_of_ble_eq_true rfl, Nat.le_of_ble_eq_true rfl⟩) (w_preV hK hw (by omega) (cF_d0 n _) rfl _) rfl rfl hl.1 rfl (lv_room (Nat.le_of_ble_eq_true rfl)) dX2_wordOfStash_37 ⟨Nat.le_of_ble_eq_true rfl, Nat.le_of_ble_eq_true rfl⟩) (fun r_4 V_3 H locs hp hw => ?_)
    obtain ⟨e9, e8⟩ := hp
    subst e9
    subst e8
    exact w_iret hx hb hr hlocks hw (⟨rfl, by rw [sd, if_neg c_11]⟩) dX2_wordOfStash_40
  · refine lv_iconst (v := nI 0) hx hb dX2_wordOfStash_14 (by decide) ?_
    refine lv_goto (tgt := 25) hx hb dX2_wordOfStash_15 (by decide) ?_
    refine lv_istore_n (lv' := [(3, .int (nI 0)), (0, .ref (ad 0)), (1, .int (nI j)), (2, .int (nI i))]) hx hb dX2_wordOfStash_25 rfl hl (by decide) rfl (fun ls hl => ?_)
    refine lv_aload_n hx hb dX2_wordOfStash_26 rfl (lv_at hl 1 rfl) ?_
    refine w_get (ci := 2) (C := RX2) (T := TX2) (M := 10) (v := .ref (ad 1)) hx hb hts hi2 hown hK hw 0 (by omega) _ (cF_0 _) rfl 0 (by decide) (hts (.fieldLink RX2 11 "WideningArray" "disks" "[LWideningArray$Disk;") (by decide +kernel)) rfl dX2_wordOfStash_27 ?_
    refine lv_iload_n hx hb dX2_wordOfStash_30 rfl (lv_at hl 0 rfl) ?_
    refine w_aald hx hb hK hw 1 6 (by omega) (cF_1 _) (i := 0) (by omega) (by decide) rfl dX2_wordOfStash_31 ?_
    refine lv_bipush (v := nI 32) hx hb dX2_wordOfStash_32 (by decide) ?_
    refine lv_iload_n hx hb dX2_wordOfStash_34 rfl (lv_at hl 2 rfl) ?_
    refine n_add hx hb dX2_wordOfStash_35 ?_
    refine lv_iload_n hx hb dX2_wordOfStash_36 rfl (lv_at hl 3 rfl) ?_
    refine w_calli hw (va_runV (As := [.int (nI (32 + j)), .int (nI i)]) (rest := []) ⟨hx, hb, hml, hown, hts⟩ (c_X0_word l D cI cD ad _ V 0 (by omega) (32 + j) i (by omega) (by omega)) (cwV 2 hts gX2_wordOfStash_X0_word rfl rfl rfl (by decide +kernel) ⟨Nat.le_of_ble_eq_true rfl, Nat.le_of_ble_eq_true rfl⟩) (w_preV hK hw (by omega) (cF_d0 0 _) rfl _) rfl rfl hl.1 rfl (lv_room (Nat.le_of_ble_eq_true rfl)) dX2_wordOfStash_37 ⟨Nat.le_of_ble_eq_true rfl, Nat.le_of_ble_eq_true rfl⟩) (fun r_6 V_5 H locs hp hw => ?_)
    obtain ⟨e9, e8⟩ := hp
    subst e9
    subst e8
    exact w_iret hx hb hr hlocks hw (⟨rfl, by rw [sd, if_pos c_11]⟩) dX2_wordOfStash_40
