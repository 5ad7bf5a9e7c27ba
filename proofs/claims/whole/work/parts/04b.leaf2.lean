set_option maxHeartbeats 4000000 in
set_option maxRecDepth 100000 in
/-- marks come to their place -/
theorem c_X0_setMarks (l : Launch) (D : va_G) (cI cD : ClassId) (ad : Nat → Nat) (sz : Nat) (V : vT) (d : Nat) (hd : d < 6) (k2 : Nat) (hk2 : k2 < 47) (hF2 : ∀ f, cF cI cD ad k2 f = cM f) (hz2 : isB (V k2 2)) (hz4 : isB (V k2 4)) : Met l yX0_setMarks wsX0_setMarks ({ frames := 1, cells := 0, slots := 0, locals := 21 }) (gP D cI cD 47 ad (cF cI cD ad) sz V [.ref (ad (5 + 7 * d)), .ref (ad k2)]) (va_Qv (fun (V1 : vT) => (∀ a, a ≠ (if V k2 0 &&& nI 1 = nI 1 then 8 + 7 * d else 7 + 7 * d) → V1 a = V a) ∧ ∀ j, j < 5 → V1 (if V k2 0 &&& nI 1 = nI 1 then 8 + 7 * d else 7 + 7 * d) j = V k2 j) (gB D 47 ad (cF cI cD ad)) (gA 47 ad sz)) 0 0 (gA 47 ad sz) := by
  refine w_met (cc := cX0_setMarks) (maxL := 2) (ret := none) (by decide) rfl (Nat.le_of_ble_eq_true rfl) ?_
  intro p e s m below meth c hx hb hr hts hown hlocks hml hsz hK hw ls hl
  subst hsz
  have hown : s.vm.findClass RX0 = some m.cls := hown
  have hi1 : ∀ w ∈ wsX10, w ∈ wsX0_setMarks := by decide +kernel
  have hl : lv_has ls 2 [(0, .ref (ad (5 + 7 * d))), (1, .ref (ad k2))] := hl
  refine lv_aload_n hx hb dX0_setMarks_0 rfl (lv_at hl 0 rfl) ?_
  refine lv_aload_n hx hb dX0_setMarks_1 rfl (lv_at hl 1 rfl) ?_
  refine w_getN (ci := 1) (C := RX1) (T := TX1) (M := 5) (v := .int (V k2 0)) hx hb hts hi1 hown hK hw k2 (by omega) _ (hF2 _) rfl 0 (by decide) (va_Nw.use rfl (hK.2 (.fieldLinkNest "WideningArray$Disk" 47 "WideningArray$Marks" "number" "I" "WideningArray") (by decide +kernel))) rfl dX0_setMarks_2 ?_
  refine lv_iconst (v := nI 1) hx hb dX0_setMarks_5 (by decide) ?_
  refine lv_iand hx hb dX0_setMarks_6 ?_
  refine w_callr hw (va_runV (As := [.int ((V k2 0) &&& (nI 1))]) (rest := []) ⟨hx, hb, hml, hown, hts⟩ (c_X0_marksIn l D cI cD ad _ V d (by omega) ((V k2 0) &&& (nI 1))) (cwV 1 hts gX0_setMarks_X0_marksIn rfl rfl rfl (by decide +kernel) ⟨Nat.le_of_ble_eq_true rfl, Nat.le_of_ble_eq_true rfl⟩) (w_preV hK hw (by omega) (cF_d0 d _) rfl _) rfl rfl hl.1 rfl (lv_room (Nat.le_of_ble_eq_true rfl)) dX0_setMarks_7 ⟨Nat.le_of_ble_eq_true rfl, Nat.le_of_ble_eq_true rfl⟩) (fun k_2 V_1 H locs hp hw => ?_)
  obtain ⟨e9, e8⟩ := hp
  dsimp only at e9 e8
  subst e9
  have hk_2 : k_2 < 47 := by rw [← e8]; split <;> omega
  have hFk_2 : ∀ f, cF cI cD ad k_2 f = cM f := by intro f; rw [← e8]; split <;> first | exact cF_d3 d f | exact cF_d2 d f
  refine lv_aload_n hx hb dX0_setMarks_10 rfl (lv_at hl 1 rfl) ?_
  refine w_callv hw (va_runV (As := [.ref (ad k2)]) (rest := []) ⟨hx, hb, hml, hown, hts⟩ (c_X1_take l D cI cD ad _ V k_2 (by omega) (hFk_2) k2 (by omega) (hF2) hz2 hz4) (cwV 1 hts gX0_setMarks_X1_take rfl rfl rfl (by decide +kernel) ⟨Nat.le_of_ble_eq_true rfl, Nat.le_of_ble_eq_true rfl⟩) (w_preV hK hw (by omega) (hFk_2 _) rfl _) rfl rfl hl.1 rfl (lv_room (Nat.le_of_ble_eq_true rfl)) dX0_setMarks_11 ⟨Nat.le_of_ble_eq_true rfl, Nat.le_of_ble_eq_true rfl⟩) (fun V_3 H locs hp hw => ?_)
  exact w_vret hx hb hr hlocks hw (by rw [e8]; exact hp) dX0_setMarks_14
set_option maxHeartbeats 4000000 in
set_option maxRecDepth 100000 in
/-- a block waits behind those that wait -/
theorem c_X0_issueBlock (l : Launch) (D : va_G) (cI cD : ClassId) (ad : Nat → Nat) (sz : Nat) (V : vT) (d : Nat) (hd : d < 6) (row : Nat) (hrow : row < 40) (ks ns : Nat) (hks : ks < 47) (hS : ∀ f, cF cI cD ad ks f = .inl (cI, ns, .inl f)) (hns : ns ≤ 24) (at9 : Nat) (hat : at9 + 4 ≤ ns) (hsd : ks ≠ 9 + 7 * d) (q : Nat) (hq : V (5 + 7 * d) 3 = nI q) (hq8 : q < 8) : Met l yX0_issueBlock wsX0_issueBlock ({ frames := 1, cells := 0, slots := 0, locals := 20 }) (gP D cI cD 47 ad (cF cI cD ad) sz V [.ref (ad (5 + 7 * d)), .int (nI row), .ref (ad ks), .int (nI at9)]) (va_Qv (fun (V1 : vT) => (∀ a, a ≠ 5 + 7 * d → a ≠ 9 + 7 * d → a ≠ 10 + 7 * d → V1 a = V a) ∧ V1 (5 + 7 * d) 3 = nI (q + 1) ∧ V1 (9 + 7 * d) = upd (V (9 + 7 * d)) q (nI row) ∧ V1 (10 + 7 * d) = va_cpy (V ks) (V (10 + 7 * d)) at9 (q * 4) 4) (gB D 47 ad (cF cI cD ad)) (gA 47 ad sz)) 0 0 (gA 47 ad sz) := by
  refine w_met (cc := cX0_issueBlock) (maxL := 4) (ret := none) (by decide) rfl (Nat.le_of_ble_eq_true rfl) ?_
  intro p e s m below meth c hx hb hr hts hown hlocks hml hsz hK hw ls hl
  subst hsz
  have hown : s.vm.findClass RX0 = some m.cls := hown
  have hi0 : ∀ w ∈ wsX00, w ∈ wsX0_issueBlock := by decide +kernel
  have hl : lv_has ls 4 [(0, .ref (ad (5 + 7 * d))), (1, .int (nI row)), (2, .ref (ad ks)), (3, .int (nI at9))] := hl
  refine lv_aload_n hx hb dX0_issueBlock_0 rfl (lv_at hl 0 rfl) ?_
  refine w_get (ci := 0) (C := RX0) (T := TX0) (M := 7) (v := .int (nI q)) hx hb hts hi0 hown hK hw (5 + 7 * d) (by omega) _ (cF_d0 d _) rfl 3 (by decide) (hts (.fieldLink RX0 43 "WideningArray$Disk" "waiting" "I") (by decide +kernel)) (congrArg (fun z => some (Value.int z)) (show V (5 + 7 * d) 3 = nI q from hq)) dX0_issueBlock_1 ?_
  refine lv_bipush (v := nI 8) hx hb dX0_issueBlock_4 (by decide) ?_
  refine n_icmp_ge (tgt := 45) hx hb dX0_issueBlock_6 (by decide) (by omega) (by omega) (fun c_6 => ?_) (fun c_6 => ?_)
  · exfalso
    omega
  · refine lv_aload_n hx hb dX0_issueBlock_9 rfl (lv_at hl 0 rfl) ?_
    refine w_get (ci := 0) (C := RX0) (T := TX0) (M := 7) (v := .ref (ad (9 + 7 * d))) hx hb hts hi0 hown hK hw (5 + 7 * d) (by omega) _ (cF_d0 d _) rfl 4 (by decide) (hts (.fieldLink RX0 25 "WideningArray$Disk" "waitingRows" "[I") (by decide +kernel)) rfl dX0_issueBlock_10 ?_
    refine lv_aload_n hx hb dX0_issueBlock_13 rfl (lv_at hl 0 rfl) ?_
    refine w_get (ci := 0) (C := RX0) (T := TX0) (M := 7) (v := .int (nI q)) hx hb hts hi0 hown hK hw (5 + 7 * d) (by omega) _ (cF_d0 d _) rfl 3 (by decide) (hts (.fieldLink RX0 43 "WideningArray$Disk" "waiting" "I") (by decide +kernel)) (congrArg (fun z => some (Value.int z)) (show V (5 + 7 * d) 3 = nI q from hq)) dX0_issueBlock_14 ?_
    refine lv_iload_n hx hb dX0_issueBlock_17 rfl (lv_at hl 1 rfl) ?_
    refine w_iast hx hb hK hw (9 + 7 * d) 8 (by omega) (cF_d4 d) (i := q) (by omega) (by decide) dX0_issueBlock_18 (fun H locs hw => ?_)
    obtain ⟨V_1, hV_1⟩ : ∃ z : vT, z = u2 V (9 + 7 * d) q (nI row) := ⟨_, rfl⟩
    rw [← hV_1] at hw
    refine lv_aload_n hx hb dX0_issueBlock_19 rfl (lv_at hl 2 rfl) ?_
    refine lv_iload_n hx hb dX0_issueBlock_20 rfl (lv_at hl 3 rfl) ?_
    refine lv_aload_n hx hb dX0_issueBlock_21 rfl (lv_at hl 0 rfl) ?_
    refine w_get (ci := 0) (C := RX0) (T := TX0) (M := 7) (v := .ref (ad (10 + 7 * d))) hx hb hts hi0 hown hK hw (5 + 7 * d) (by omega) _ (cF_d0 d _) rfl 5 (by decide) (hts (.fieldLink RX0 28 "WideningArray$Disk" "waitingWords" "[I") (by decide +kernel)) rfl dX0_issueBlock_22 ?_
    refine lv_aload_n hx hb dX0_issueBlock_25 rfl (lv_at hl 0 rfl) ?_
    refine w_get (ci := 0) (C := RX0) (T := TX0) (M := 7) (v := .int (nI q)) hx hb hts hi0 hown hK hw (5 + 7 * d) (by omega) _ (cF_d0 d _) rfl 3 (by decide) (hts (.fieldLink RX0 43 "WideningArray$Disk" "waiting" "I") (by decide +kernel)) (congrArg (fun z => some (Value.int z)) (show V_1 (5 + 7 * d) 3 = nI q from by rw [hV_1, u2_r _ _ (by omega)]; exact hq)) dX0_issueBlock_26 ?_
    refine lv_iconst (v := nI 4) hx hb dX0_issueBlock_29 (by decide) ?_
    refine n_mul hx hb dX0_issueBlock_30 ?_
    refine lv_iconst (v := nI 4) hx hb dX0_issueBlock_31 (by decide) ?_
    refine w_copyi hx hb (hml.trans hl.1.symm) hown (hts (.methodLink RX0 58 arraycopyName) (by decide +kernel)) (hts (.native arraycopyName) (by decide +kernel)) (hts (.static arraycopyName) (by decide +kernel)) (hts (.initialized "java/lang/System") (by decide +kernel)) hK hw ks (10 + 7 * d) ns 32 hks (by omega) (hS) (cF_d5 d) (sp := at9) (dp := q * 4) (n := 4) (by omega) (by omega) (by omega) (by omega) (Nat.le_of_ble_eq_true rfl) (by decide) dX0_issueBlock_32 (fun H locs hw => ?_)
    obtain ⟨V_2, hV_2⟩ : ∃ z : vT, z = va_up V_1 (10 + 7 * d) (va_cpy (V_1 ks) (V_1 (10 + 7 * d)) at9 (q * 4) 4) := ⟨_, rfl⟩
    rw [← hV_2] at hw
    refine lv_aload_n hx hb dX0_issueBlock_35 rfl (lv_at hl 0 rfl) ?_
    refine lv_dup hx hb dX0_issueBlock_36 rfl ?_
    refine w_get (ci := 0) (C := RX0) (T := TX0) (M := 7) (v := .int (nI q)) hx hb hts hi0 hown hK hw (5 + 7 * d) (by omega) _ (cF_d0 d _) rfl 3 (by decide) (hts (.fieldLink RX0 43 "WideningArray$Disk" "waiting" "I") (by decide +kernel)) (congrArg (fun z => some (Value.int z)) (show V_2 (5 + 7 * d) 3 = nI q from by rw [hV_2, va_up_ne _ _ (by omega), hV_1, u2_r _ _ (by omega)]; exact hq)) dX0_issueBlock_37 ?_
    refine lv_iconst (v := nI 1) hx hb dX0_issueBlock_40 (by decide) ?_
    refine n_add hx hb dX0_issueBlock_41 ?_
    refine w_put (ci := 0) (C := RX0) (T := TX0) (M := 7) (x := nI (q + 1)) (ty := .int) hx hb hts hi0 tyX0 tyX0_ok nmX0 hown hK hw (5 + 7 * d) (by omega) _ (cF_d0 d _) rfl 3 (by decide) (hts (.fieldLink RX0 43 "WideningArray$Disk" "waiting" "I") (by decide +kernel)) rfl (by decide +kernel) rfl rfl (Nat.le_of_ble_eq_true rfl) (cF_d0 d _) dX0_issueBlock_42 (fun H locs hw => ?_)
    obtain ⟨V_3, hV_3⟩ : ∃ z : vT, z = u2 V_2 (5 + 7 * d) 3 (nI (q + 1)) := ⟨_, rfl⟩
    rw [← hV_3] at hw
    exact w_vret hx hb hr hlocks hw (⟨fun a h1 h2 h3 => by rw [hV_3, u2_r _ _ h1, hV_2, va_up_ne _ _ h3, hV_1, u2_r _ _ h2], by rw [hV_3, u2_s], by rw [hV_3, u2_r _ _ (by omega), hV_2, va_up_ne _ _ (by omega), hV_1, u2, va_up_self], by rw [hV_3, u2_r _ _ (by omega), hV_2, va_up_self, hV_1, u2_r _ _ hsd, u2_r _ _ (by omega)]⟩) dX0_issueBlock_45
set_option maxHeartbeats 4000000 in
set_option maxRecDepth 100000 in
/-- marks wait behind those that wait -/
theorem c_X0_issueMarks (l : Launch) (D : va_G) (cI cD : ClassId) (ad : Nat → Nat) (sz : Nat) (V : vT) (d : Nat) (hd : d < 6) (k2 : Nat) (hk2 : k2 < 47) (hF2 : ∀ f, cF cI cD ad k2 f = cM f) (hz2 : isB (V k2 2)) (hz4 : isB (V k2 4)) (hk9 : k2 ≠ 9 + 7 * d) (q : Nat) (hq : V (5 + 7 * d) 3 = nI q) (hq8 : q < 8) : Met l yX0_issueMarks wsX0_issueMarks ({ frames := 1, cells := 0, slots := 0, locals := 21 }) (gP D cI cD 47 ad (cF cI cD ad) sz V [.ref (ad (5 + 7 * d)), .ref (ad k2)]) (va_Qv (fun (V1 : vT) => (∀ a, a ≠ 5 + 7 * d → a ≠ 9 + 7 * d → a ≠ 11 + 7 * d → V1 a = V a) ∧ V1 (5 + 7 * d) 3 = nI (q + 1) ∧ V1 (9 + 7 * d) = upd (V (9 + 7 * d)) q (-1) ∧ ∀ j, j < 5 → V1 (11 + 7 * d) j = V k2 j) (gB D 47 ad (cF cI cD ad)) (gA 47 ad sz)) 0 0 (gA 47 ad sz) := by
  refine w_met (cc := cX0_issueMarks) (maxL := 2) (ret := none) (by decide) rfl (Nat.le_of_ble_eq_true rfl) ?_
  intro p e s m below meth c hx hb hr hts hown hlocks hml hsz hK hw ls hl
  subst hsz
  have hown : s.vm.findClass RX0 = some m.cls := hown
  have hi0 : ∀ w ∈ wsX00, w ∈ wsX0_issueMarks := by decide +kernel
  have hl : lv_has ls 2 [(0, .ref (ad (5 + 7 * d))), (1, .ref (ad k2))] := hl
  refine lv_aload_n hx hb dX0_issueMarks_0 rfl (lv_at hl 0 rfl) ?_
  refine w_get (ci := 0) (C := RX0) (T := TX0) (M := 7) (v := .int (nI q)) hx hb hts hi0 hown hK hw (5 + 7 * d) (by omega) _ (cF_d0 d _) rfl 3 (by decide) (hts (.fieldLink RX0 43 "WideningArray$Disk" "waiting" "I") (by decide +kernel)) (congrArg (fun z => some (Value.int z)) (show V (5 + 7 * d) 3 = nI q from hq)) dX0_issueMarks_1 ?_
  refine lv_bipush (v := nI 8) hx hb dX0_issueMarks_4 (by decide) ?_
  refine n_icmp_ge (tgt := 37) hx hb dX0_issueMarks_6 (by decide) (by omega) (by omega) (fun c_6 => ?_) (fun c_6 => ?_)
  · exfalso
    omega
  · refine lv_aload_n hx hb dX0_issueMarks_9 rfl (lv_at hl 0 rfl) ?_
    refine w_get (ci := 0) (C := RX0) (T := TX0) (M := 7) (v := .ref (ad (9 + 7 * d))) hx hb hts hi0 hown hK hw (5 + 7 * d) (by omega) _ (cF_d0 d _) rfl 4 (by decide) (hts (.fieldLink RX0 25 "WideningArray$Disk" "waitingRows" "[I") (by decide +kernel)) rfl dX0_issueMarks_10 ?_
    refine lv_aload_n hx hb dX0_issueMarks_13 rfl (lv_at hl 0 rfl) ?_
    refine w_get (ci := 0) (C := RX0) (T := TX0) (M := 7) (v := .int (nI q)) hx hb hts hi0 hown hK hw (5 + 7 * d) (by omega) _ (cF_d0 d _) rfl 3 (by decide) (hts (.fieldLink RX0 43 "WideningArray$Disk" "waiting" "I") (by decide +kernel)) (congrArg (fun z => some (Value.int z)) (show V (5 + 7 * d) 3 = nI q from hq)) dX0_issueMarks_14 ?_
    refine lv_iconst (v := (-1)) hx hb dX0_issueMarks_17 (by decide) ?_
    refine w_iast hx hb hK hw (9 + 7 * d) 8 (by omega) (cF_d4 d) (i := q) (by omega) (by decide) dX0_issueMarks_18 (fun H locs hw => ?_)
    obtain ⟨V_1, hV_1⟩ : ∃ z : vT, z = u2 V (9 + 7 * d) q (-1) := ⟨_, rfl⟩
    rw [← hV_1] at hw
    refine lv_aload_n hx hb dX0_issueMarks_19 rfl (lv_at hl 0 rfl) ?_
    refine w_get (ci := 0) (C := RX0) (T := TX0) (M := 7) (v := .ref (ad (11 + 7 * d))) hx hb hts hi0 hown hK hw (5 + 7 * d) (by omega) _ (cF_d0 d _) rfl 6 (by decide) (hts (.fieldLink RX0 31 "WideningArray$Disk" "waitingMarks" "LWideningArray$Marks;") (by decide +kernel)) rfl dX0_issueMarks_20 ?_
    refine lv_aload_n hx hb dX0_issueMarks_23 rfl (lv_at hl 1 rfl) ?_
    refine w_callv hw (va_runV (As := [.ref (ad k2)]) (rest := []) ⟨hx, hb, hml, hown, hts⟩ (c_X1_take l D cI cD ad _ V_1 (11 + 7 * d) (by omega) (cF_d6 d) k2 (by omega) (hF2) (by rw [hV_1, u2_r _ _ hk9]; exact hz2) (by rw [hV_1, u2_r _ _ hk9]; exact hz4)) (cwV 1 hts gX0_issueMarks_X1_take rfl rfl rfl (by decide +kernel) ⟨Nat.le_of_ble_eq_true rfl, Nat.le_of_ble_eq_true rfl⟩) (w_preV hK hw (by omega) (cF_d6 d _) rfl _) rfl rfl hl.1 rfl (lv_room (Nat.le_of_ble_eq_true rfl)) dX0_issueMarks_24 ⟨Nat.le_of_ble_eq_true rfl, Nat.le_of_ble_eq_true rfl⟩) (fun V_2 H locs hp hw => ?_)
    refine lv_aload_n hx hb dX0_issueMarks_27 rfl (lv_at hl 0 rfl) ?_
    refine lv_dup hx hb dX0_issueMarks_28 rfl ?_
    refine w_get (ci := 0) (C := RX0) (T := TX0) (M := 7) (v := .int (nI q)) hx hb hts hi0 hown hK hw (5 + 7 * d) (by omega) _ (cF_d0 d _) rfl 3 (by decide) (hts (.fieldLink RX0 43 "WideningArray$Disk" "waiting" "I") (by decide +kernel)) (congrArg (fun z => some (Value.int z)) (show V_2 (5 + 7 * d) 3 = nI q from by rw [hp.1 _ (by omega), hV_1, u2_r _ _ (by omega)]; exact hq)) dX0_issueMarks_29 ?_
    refine lv_iconst (v := nI 1) hx hb dX0_issueMarks_32 (by decide) ?_
    refine n_add hx hb dX0_issueMarks_33 ?_
    refine w_put (ci := 0) (C := RX0) (T := TX0) (M := 7) (x := nI (q + 1)) (ty := .int) hx hb hts hi0 tyX0 tyX0_ok nmX0 hown hK hw (5 + 7 * d) (by omega) _ (cF_d0 d _) rfl 3 (by decide) (hts (.fieldLink RX0 43 "WideningArray$Disk" "waiting" "I") (by decide +kernel)) rfl (by decide +kernel) rfl rfl (Nat.le_of_ble_eq_true rfl) (cF_d0 d _) dX0_issueMarks_34 (fun H locs hw => ?_)
    obtain ⟨V_3, hV_3⟩ : ∃ z : vT, z = u2 V_2 (5 + 7 * d) 3 (nI (q + 1)) := ⟨_, rfl⟩
    rw [← hV_3] at hw
    exact w_vret hx hb hr hlocks hw (⟨fun a h1 h2 h3 => by rw [hV_3, u2_r _ _ h1, hp.1 _ h3, hV_1, u2_r _ _ h2], by rw [hV_3, u2_s], by rw [hV_3, u2_r _ _ (by omega), hp.1 _ (by omega), hV_1, u2, va_up_self], fun j hj => by rw [hV_3, u2_r _ _ (by omega), hp.2 j hj, hV_1, u2_r _ _ hk9]⟩) dX0_issueMarks_37
