set_option maxHeartbeats 4000000 in
set_option maxRecDepth 100000 in
theorem lp_X2_layWindow {p : Program} {l : Launch} {e : Env} {s : State} {m : MethodId} {args : Array Value} {below : List Frame} {meth : Method} {c : Code} {Q : State → Prop} {D : va_G} {cI cD : ClassId} {ad : Nat → Nat} (hx : p.tables.exec = Jvm.exec) (hb : c.code = cX2_layWindow) (hts : ∀ w ∈ wsX2_layWindow, w.before args s = true) (hown : s.vm.findClass RX2 = some m.cls) (hml : c.maxLocals = 3) (hK : kK D cI cD s) (V0 : vT) (n : Nat) (hn : V0 2 1 = nI n) (dn : Nat) (hdn : V0 2 3 = nI dn) (hn3 : 3 ≤ n) (hn5 : n < 6) (hd32 : dn < 32) (hk : ∀ (V1 : vT) (H1 : Heap) (locs1 : List Loc) (ls : Array Slot), ((∀ a, a < 5 → V1 a = V0 a) ∧ sameD V0 V1 ∧ cQ V1 (lyQ (V0 3) (n + 1) dn n)) → wS D 47 ad (cF cI cD ad) s.heap V1 H1 locs1 → lv_has ls 3 [(1, .int (nI (n + 1))), (0, .ref (ad 0))] → W p l e ({ frames := 4, cells := 0, slots := 0, locals := 87 }) s m args below meth c H1 locs1 0 0 Q (F0 m 63 ls [])) : ∀ (n9 j : Nat) (V : vT) (H : Heap) (locs : List Loc) (ls : Array Slot), (j + n9 = n) → ((∀ a, a < 5 → V a = V0 a) ∧ sameD V0 V ∧ cQ V (lyQ (V0 3) (n + 1) dn j)) → wS D 47 ad (cF cI cD ad) s.heap V H locs → lv_has ls 3 [(2, .int (nI j)), (1, .int (nI (n + 1))), (0, .ref (ad 0))] → W p l e ({ frames := 4, cells := 0, slots := 0, locals := 87 }) s m args below meth c H locs 0 0 Q (F0 m 12 ls []) := by
  have hi1 : ∀ w ∈ wsX10, w ∈ wsX2_layWindow := by decide +kernel
  have hi2 : ∀ w ∈ wsX20, w ∈ wsX2_layWindow := by decide +kernel
  intro n9
  induction n9 with
  | zero =>
    intro j V H locs ls hjn hin hw hl
    refine lv_iload_n hx hb dX2_layWindow_12 rfl (lv_at hl 0 rfl) ?_
    refine lv_aload_n hx hb dX2_layWindow_13 rfl (lv_at hl 2 rfl) ?_
    refine w_get (ci := 2) (C := RX2) (T := TX2) (M := 10) (v := .ref (ad 2)) hx hb hts hi2 hown hK hw 0 (by omega) _ (cF_0 _) rfl 1 (by decide) (hts (.fieldLink RX2 18 "WideningArray" "now" "LWideningArray$Marks;") (by decide +kernel)) rfl dX2_layWindow_14 ?_
    refine w_getN (ci := 1) (C := RX1) (T := TX1) (M := 5) (v := .int (nI n)) hx hb hts hi1 hown hK hw 2 (by omega) _ (cF_2 _) rfl 1 (by decide) (va_Nw.use rfl (hK.2 (.fieldLinkNest "WideningArray" 58 "WideningArray$Marks" "width" "I" "WideningArray") (by decide +kernel))) (congrArg (fun z => some (Value.int z)) (show V 2 1 = nI n from by rw [hin.1 2 (by decide)]; exact hn)) dX2_layWindow_17 ?_
    refine n_icmp_ge (tgt := 63) hx hb dX2_layWindow_20 (by decide) (by omega) (by omega) (fun c_20 => ?_) (fun c_20 => ?_)
    · have e1 : j = n := by omega
      rw [e1] at hin
      exact hk V H locs ls hin hw (lv_sub hl [1, 2] rfl)
    · exfalso
      omega
  | succ n9 ih =>
    intro j V H locs ls hjn hin hw hl
    refine lv_iload_n hx hb dX2_layWindow_12 rfl (lv_at hl 0 rfl) ?_
    refine lv_aload_n hx hb dX2_layWindow_13 rfl (lv_at hl 2 rfl) ?_
    refine w_get (ci := 2) (C := RX2) (T := TX2) (M := 10) (v := .ref (ad 2)) hx hb hts hi2 hown hK hw 0 (by omega) _ (cF_0 _) rfl 1 (by decide) (hts (.fieldLink RX2 18 "WideningArray" "now" "LWideningArray$Marks;") (by decide +kernel)) rfl dX2_layWindow_14 ?_
    refine w_getN (ci := 1) (C := RX1) (T := TX1) (M := 5) (v := .int (nI n)) hx hb hts hi1 hown hK hw 2 (by omega) _ (cF_2 _) rfl 1 (by decide) (va_Nw.use rfl (hK.2 (.fieldLinkNest "WideningArray" 58 "WideningArray$Marks" "width" "I" "WideningArray") (by decide +kernel))) (congrArg (fun z => some (Value.int z)) (show V 2 1 = nI n from by rw [hin.1 2 (by decide)]; exact hn)) dX2_layWindow_17 ?_
    refine n_icmp_ge (tgt := 63) hx hb dX2_layWindow_20 (by decide) (by omega) (by omega) (fun c_20 => ?_) (fun c_20 => ?_)
    · exfalso
      omega
    · refine lv_aload_n hx hb dX2_layWindow_23 rfl (lv_at hl 2 rfl) ?_
      refine w_get (ci := 2) (C := RX2) (T := TX2) (M := 10) (v := .ref (ad 1)) hx hb hts hi2 hown hK hw 0 (by omega) _ (cF_0 _) rfl 0 (by decide) (hts (.fieldLink RX2 11 "WideningArray" "disks" "[LWideningArray$Disk;") (by decide +kernel)) rfl dX2_layWindow_24 ?_
      refine lv_iload_n hx hb dX2_layWindow_27 rfl (lv_at hl 1 rfl) ?_
      refine lv_aload_n hx hb dX2_layWindow_28 rfl (lv_at hl 2 rfl) ?_
      refine w_get (ci := 2) (C := RX2) (T := TX2) (M := 10) (v := .ref (ad 2)) hx hb hts hi2 hown hK hw 0 (by omega) _ (cF_0 _) rfl 1 (by decide) (hts (.fieldLink RX2 18 "WideningArray" "now" "LWideningArray$Marks;") (by decide +kernel)) rfl dX2_layWindow_29 ?_
      refine w_getN (ci := 1) (C := RX1) (T := TX1) (M := 5) (v := .int (nI dn)) hx hb hts hi1 hown hK hw 2 (by omega) _ (cF_2 _) rfl 3 (by decide) (va_Nw.use rfl (hK.2 (.fieldLinkNest "WideningArray" 110 "WideningArray$Marks" "done" "I" "WideningArray") (by decide +kernel))) (congrArg (fun z => some (Value.int z)) (show V 2 3 = nI dn from by rw [hin.1 2 (by decide)]; exact hdn)) dX2_layWindow_32 ?_
      refine lv_iload_n hx hb dX2_layWindow_35 rfl (lv_at hl 0 rfl) ?_
      refine w_calli hw (va_runS (As := [.int (nI (n + 1)), .int (nI dn), .int (nI j)]) (rest := [.ref (ad 1)]) ⟨hx, hb, hml, hown, hts⟩ (c_X2_dataDisk l D cI cD ad _ V (n + 1) dn j (by omega) (by omega) (by omega) (by omega)) (va_cwS 3 hts gX2_layWindow_X2_dataDisk rfl rfl rfl (by decide +kernel) ⟨Nat.le_of_ble_eq_true rfl, Nat.le_of_ble_eq_true rfl⟩) (w_preS hK hw _) rfl rfl hl.1 rfl (lv_room (Nat.le_of_ble_eq_true rfl)) dX2_layWindow_36 ⟨Nat.le_of_ble_eq_true rfl, Nat.le_of_ble_eq_true rfl⟩) (fun r_2 V_1 H locs hp hw => ?_)
      obtain ⟨e9, e8⟩ := hp
      subst e9
      subst e8
      have hdd := dd_lt (k := n + 1) (row := dn) (j := j) (by omega)
      refine w_aald hx hb hK hw 1 6 (by omega) (cF_1 _) (i := dd (n + 1) dn j) (by omega) (by decide) rfl dX2_layWindow_39 ?_
      refine lv_aload_n hx hb dX2_layWindow_40 rfl (lv_at hl 2 rfl) ?_
      refine w_get (ci := 2) (C := RX2) (T := TX2) (M := 10) (v := .ref (ad 2)) hx hb hts hi2 hown hK hw 0 (by omega) _ (cF_0 _) rfl 1 (by decide) (hts (.fieldLink RX2 18 "WideningArray" "now" "LWideningArray$Marks;") (by decide +kernel)) rfl dX2_layWindow_41 ?_
      refine w_getN (ci := 1) (C := RX1) (T := TX1) (M := 5) (v := .int (nI dn)) hx hb hts hi1 hown hK hw 2 (by omega) _ (cF_2 _) rfl 3 (by decide) (va_Nw.use rfl (hK.2 (.fieldLinkNest "WideningArray" 110 "WideningArray$Marks" "done" "I" "WideningArray") (by decide +kernel))) (congrArg (fun z => some (Value.int z)) (show V 2 3 = nI dn from by rw [hin.1 2 (by decide)]; exact hdn)) dX2_layWindow_44 ?_
      refine lv_aload_n hx hb dX2_layWindow_47 rfl (lv_at hl 2 rfl) ?_
      refine w_get (ci := 2) (C := RX2) (T := TX2) (M := 10) (v := .ref (ad 3)) hx hb hts hi2 hown hK hw 0 (by omega) _ (cF_0 _) rfl 2 (by decide) (hts (.fieldLink RX2 22 "WideningArray" "data" "[I") (by decide +kernel)) rfl dX2_layWindow_48 ?_
      refine lv_iload_n hx hb dX2_layWindow_51 rfl (lv_at hl 0 rfl) ?_
      refine lv_iconst (v := nI 4) hx hb dX2_layWindow_52 (by decide) ?_
      refine n_mul hx hb dX2_layWindow_53 ?_
      have hQ9 := hin.2.2
      have hdd := dd_lt (k := n + 1) (row := dn) (j := j) (by omega)
      refine w_callv hw (va_runV (As := [.int (nI dn), .ref (ad 3), .int (nI (j * 4))]) (rest := []) ⟨hx, hb, hml, hown, hts⟩ (c_X0_issueBlock l D cI cD ad _ V (dd (n + 1) dn j) (by omega) dn (by omega) 3 24 (by omega) cF_3 (by omega) (j * 4) (by omega) (by omega) (lyQ (V0 3) (n + 1) dn j (dd (n + 1) dn j)).length (hQ9 (dd (n + 1) dn j) (by omega)).1 (Nat.lt_of_le_of_lt (lyQ_len j _) (by omega))) (cwV 3 hts gX2_layWindow_X0_issueBlock rfl rfl rfl (by decide +kernel) ⟨Nat.le_of_ble_eq_true rfl, Nat.le_of_ble_eq_true rfl⟩) (w_preV hK hw (by omega) (cF_d0 (dd (n + 1) dn j) _) rfl _) rfl rfl hl.1 rfl (lv_room (Nat.le_of_ble_eq_true rfl)) dX2_layWindow_54 ⟨Nat.le_of_ble_eq_true rfl, Nat.le_of_ble_eq_true rfl⟩) (fun V_3 H locs hp hw => ?_)
      have hQ2 : cQ V_3 (lyQ (V0 3) (n + 1) dn (j + 1)) := cQ_block hQ9 (by omega) (Nat.lt_of_le_of_lt (lyQ_len j _) (by omega)) (by omega) hp (fun i hi => by rw [hin.1 3 (by decide)])
      have hs2 := hp.1
      clear hp hQ9
      refine lv_iinc (v := nI (j + 1)) (lv' := [(2, .int (nI (j + 1))), (1, .int (nI (n + 1))), (0, .ref (ad 0))]) hx hb dX2_layWindow_57 hl (k := 0) rfl (nI_1 _) (by decide) rfl (fun ls hl => ?_)
      refine lv_goto (tgt := 12) hx hb dX2_layWindow_60 (by decide) ?_
      exact ih (j + 1) _ _ _ ls (by omega) ⟨fun a ha => (hs2 a (by omega) (by omega) (by omega)).trans (hin.1 a ha), sameD.trans hin.2.1 (sameD_block hs2), hQ2⟩ hw (lv_sub hl [0, 1, 2] rfl)
set_option maxHeartbeats 4000000 in
set_option maxRecDepth 100000 in
theorem c_X2_layWindow (l : Launch) (D : va_G) (cI cD : ClassId) (ad : Nat → Nat) (sz : Nat) (V : vT) (n : Nat) (hn : V 2 1 = nI n) (dn : Nat) (hdn : V 2 3 = nI dn) (hn3 : 3 ≤ n) (hn5 : n < 6) (hd32 : dn < 32) (fp : Nat) (hfp : fp < 2 ^ 31) (hf : V 0 8 = nI fp) (fd : Bool) (hfd : V 0 5 = bI fd) (hQ : cQ V (fun _ => [])) : Met l yX2_layWindow wsX2_layWindow ({ frames := 4, cells := 0, slots := 0, locals := 87 }) (gP D cI cD 47 ad (cF cI cD ad) sz V [.ref (ad 0)]) (va_Qi (fun (r : Int32) (V1 : vT) => ∃ Va, (∀ a, a < 4 → Va a = V a) ∧ sameD V Va ∧ AW Va (qAdd (lyQ (V 3) (n + 1) dn n) (pd (n + 1) dn) (some dn, fun i => xa (fun e => V 3 (e * 4 + i)) (n + 1 - 1))) fp fd r V1) (gB D 47 ad (cF cI cD ad)) (gA 47 ad sz)) 0 0 (gA 47 ad sz) := by
  refine w_met (cc := cX2_layWindow) (maxL := 3) (ret := (some .boolean)) (by decide) rfl (Nat.le_of_ble_eq_true rfl) ?_
  intro p e s m below meth c hx hb hr hts hown hlocks hml hsz hK hw ls hl
  subst hsz
  have hown : s.vm.findClass RX2 = some m.cls := hown
  have hi1 : ∀ w ∈ wsX10, w ∈ wsX2_layWindow := by decide +kernel
  have hi2 : ∀ w ∈ wsX20, w ∈ wsX2_layWindow := by decide +kernel
  have hl : lv_has ls 3 [(0, .ref (ad 0))] := hl
  refine lv_aload_n hx hb dX2_layWindow_0 rfl (lv_at hl 0 rfl) ?_
  refine w_get (ci := 2) (C := RX2) (T := TX2) (M := 10) (v := .ref (ad 2)) hx hb hts hi2 hown hK hw 0 (by omega) _ (cF_0 _) rfl 1 (by decide) (hts (.fieldLink RX2 18 "WideningArray" "now" "LWideningArray$Marks;") (by decide +kernel)) rfl dX2_layWindow_1 ?_
  refine w_getN (ci := 1) (C := RX1) (T := TX1) (M := 5) (v := .int (nI n)) hx hb hts hi1 hown hK hw 2 (by omega) _ (cF_2 _) rfl 1 (by decide) (va_Nw.use rfl (hK.2 (.fieldLinkNest "WideningArray" 58 "WideningArray$Marks" "width" "I" "WideningArray") (by decide +kernel))) (congrArg (fun z => some (Value.int z)) (show V 2 1 = nI n from hn)) dX2_layWindow_4 ?_
  refine lv_iconst (v := nI 1) hx hb dX2_layWindow_7 (by decide) ?_
  refine n_add hx hb dX2_layWindow_8 ?_
  refine lv_istore_n (lv' := [(1, .int (nI (n + 1))), (0, .ref (ad 0))]) hx hb dX2_layWindow_9 rfl hl (by decide) rfl (fun ls hl => ?_)
  refine lv_iconst (v := nI 0) hx hb dX2_layWindow_10 (by decide) ?_
  refine lv_istore_n (lv' := [(2, .int (nI 0)), (1, .int (nI (n + 1))), (0, .ref (ad 0))]) hx hb dX2_layWindow_11 rfl hl (by decide) rfl (fun ls hl => ?_)
  refine lp_X2_layWindow hx hb hts hown hml hK V n hn dn hdn hn3 hn5 hd32 (fun Va H locs ls hin hw hl => ?_) n 0 V _ _ ls (by omega) ⟨fun _ _ => rfl, sameD.rf, hQ⟩ hw (lv_sub hl [0, 1, 2] rfl)
  refine lv_aload_n hx hb dX2_layWindow_63 rfl (lv_at hl 1 rfl) ?_
  refine lv_iload_n hx hb dX2_layWindow_64 rfl (lv_at hl 0 rfl) ?_
  refine lv_aload_n hx hb dX2_layWindow_65 rfl (lv_at hl 1 rfl) ?_
  refine w_get (ci := 2) (C := RX2) (T := TX2) (M := 10) (v := .ref (ad 2)) hx hb hts hi2 hown hK hw 0 (by omega) _ (cF_0 _) rfl 1 (by decide) (hts (.fieldLink RX2 18 "WideningArray" "now" "LWideningArray$Marks;") (by decide +kernel)) rfl dX2_layWindow_66 ?_
  refine w_getN (ci := 1) (C := RX1) (T := TX1) (M := 5) (v := .int (nI dn)) hx hb hts hi1 hown hK hw 2 (by omega) _ (cF_2 _) rfl 3 (by decide) (va_Nw.use rfl (hK.2 (.fieldLinkNest "WideningArray" 110 "WideningArray$Marks" "done" "I" "WideningArray") (by decide +kernel))) (congrArg (fun z => some (Value.int z)) (show Va 2 3 = nI dn from by rw [hin.1 2 (by decide)]; exact hdn)) dX2_layWindow_69 ?_
  refine w_callv hw (va_runV (As := [.int (nI (n + 1)), .int (nI dn)]) (rest := []) ⟨hx, hb, hml, hown, hts⟩ (c_X2_issueParity l D cI cD ad _ Va (n + 1) dn (by omega) (by omega) (by omega) _ hin.2.2 (Nat.lt_of_le_of_lt (lyQ_len n _) (by omega))) (cwV 2 hts gX2_layWindow_X2_issueParity rfl rfl rfl (by decide +kernel) ⟨Nat.le_of_ble_eq_true rfl, Nat.le_of_ble_eq_true rfl⟩) (w_preV hK hw (by omega) (cF_0 _) rfl _) rfl rfl hl.1 rfl (lv_room (Nat.le_of_ble_eq_true rfl)) dX2_layWindow_72 ⟨Nat.le_of_ble_eq_true rfl, Nat.le_of_ble_eq_true rfl⟩) (fun V_1 H locs hp hw => ?_)
  have hP := hp
  clear hp
  rw [hin.1 3 (by decide)] at hP
  refine lv_aload_n hx hb dX2_layWindow_75 rfl (lv_at hl 1 rfl) ?_
  refine w_calli hw (va_runV (As := []) (rest := []) ⟨hx, hb, hml, hown, hts⟩ (c_X2_awaitWrites l D cI cD ad _ V_1 (qAdd (lyQ (V 3) (n + 1) dn n) (pd (n + 1) dn) (some dn, fun i => xa (fun e => V 3 (e * 4 + i)) (n + 1 - 1))) hP.2.2.2 fp hfp (by rw [hP.1 0 (by decide), hin.1 0 (by decide)]; exact hf) fd (by rw [hP.1 0 (by decide), hin.1 0 (by decide)]; exact hfd)) (cwV 0 hts gX2_layWindow_X2_awaitWrites rfl rfl rfl (by decide +kernel) ⟨Nat.le_of_ble_eq_true rfl, Nat.le_of_ble_eq_true rfl⟩) (w_preV hK hw (by omega) (cF_0 _) rfl _) rfl rfl hl.1 rfl (lv_room (Nat.le_of_ble_eq_true rfl)) dX2_layWindow_76 ⟨Nat.le_of_ble_eq_true rfl, Nat.le_of_ble_eq_true rfl⟩) (fun r_3 V_2 H locs hp hw => ?_)
  have hA : AW V_1 (qAdd (lyQ (V 3) (n + 1) dn n) (pd (n + 1) dn) (some dn, fun i => xa (fun e => V 3 (e * 4 + i)) (n + 1 - 1))) fp fd r_3 V_2 := hp
  clear hp
  have e9 := hA.1
  subst e9
  exact w_zret hx hb hr hlocks hw (bI_nar _) (⟨_, fun a ha => (hP.1 a ha).trans (hin.1 a (by omega)), sameD.trans hin.2.1 hP.2.1, hA⟩) dX2_layWindow_79
set_option maxHeartbeats 4000000 in
set_option maxRecDepth 100000 in
theorem c_X2_markRowDone (l : Launch) (D : va_G) (cI cD : ClassId) (ad : Nat → Nat) (sz : Nat) (V : vT) (n : Nat) (hn : V 2 1 = nI n) (wide : Bool) (hwd : V 2 2 = bI wide) (dn : Nat) (hdn : V 2 3 = nI dn) (num : Nat) (hnum : V 2 0 = nI num) (hkw : kw n wide ≤ 6) (hn5 : n < 6) (hd32 : dn < 32) (fp : Nat) (hfp : fp < 2 ^ 31) (hf : V 0 8 = nI fp) (fd : Bool) (hfd : V 0 5 = bI fd) (hQ : cQ V (fun _ => [])) : Met l yX2_markRowDone wsX2_markRowDone ({ frames := 4, cells := 0, slots := 0, locals := 87 }) (gP D cI cD 47 ad (cF cI cD ad) sz V [.ref (ad 0)]) (va_Qi (fun (r : Int32) (V1 : vT) => ∃ Vn Vc, (∀ a, a ≠ 2 → Vn a = V a) ∧ Vn 2 0 = nI num ∧ Vn 2 1 = nI (if dn + 1 = 32 then n + 1 else n) ∧ Vn 2 2 = bI (if dn + 1 = 32 then false else wide) ∧ Vn 2 3 = nI (if dn + 1 = 32 then 0 else dn + 1) ∧ Vn 2 4 = bI false ∧ NM Vn num (if dn + 1 = 32 then n + 1 else n) (if dn + 1 = 32 then false else wide) Vc ∧ AW Vc (mkQ (Vc 2) (kw (if dn + 1 = 32 then n + 1 else n) (if dn + 1 = 32 then false else wide))) fp fd r V1) (gB D 47 ad (cF cI cD ad)) (gA 47 ad sz)) 0 0 (gA 47 ad sz) := by
  refine w_met (cc := cX2_markRowDone) (maxL := 1) (ret := (some .boolean)) (by decide) rfl (Nat.le_of_ble_eq_true rfl) ?_
  intro p e s m below meth c hx hb hr hts hown hlocks hml hsz hK hw ls hl
  subst hsz
  have hown : s.vm.findClass RX2 = some m.cls := hown
  have hi1 : ∀ w ∈ wsX10, w ∈ wsX2_markRowDone := by decide +kernel
  have hi2 : ∀ w ∈ wsX20, w ∈ wsX2_markRowDone := by decide +kernel
  have hl : lv_has ls 1 [(0, .ref (ad 0))] := hl
  refine lv_aload_n hx hb dX2_markRowDone_0 rfl (lv_at hl 0 rfl) ?_
  refine w_get (ci := 2) (C := RX2) (T := TX2) (M := 10) (v := .ref (ad 2)) hx hb hts hi2 hown hK hw 0 (by omega) _ (cF_0 _) rfl 1 (by decide) (hts (.fieldLink RX2 18 "WideningArray" "now" "LWideningArray$Marks;") (by decide +kernel)) rfl dX2_markRowDone_1 ?_
  refine lv_dup hx hb dX2_markRowDone_4 rfl ?_
  refine w_getN (ci := 1) (C := RX1) (T := TX1) (M := 5) (v := .int (nI dn)) hx hb hts hi1 hown hK hw 2 (by omega) _ (cF_2 _) rfl 3 (by decide) (va_Nw.use rfl (hK.2 (.fieldLinkNest "WideningArray" 110 "WideningArray$Marks" "done" "I" "WideningArray") (by decide +kernel))) (congrArg (fun z => some (Value.int z)) (show V 2 3 = nI dn from hdn)) dX2_markRowDone_5 ?_
  refine lv_iconst (v := nI 1) hx hb dX2_markRowDone_8 (by decide) ?_
  refine n_add hx hb dX2_markRowDone_9 ?_
  refine w_putN (ci := 1) (C := RX1) (T := TX1) (M := 5) (x := nI (dn + 1)) (ty := .int) hx hb hts hi1 tyX1 tyX1_ok nmX1 hown hK hw 2 (by omega) _ (cF_2 _) rfl 3 (by decide) (va_Nw.use rfl (hK.2 (.fieldLinkNest "WideningArray" 110 "WideningArray$Marks" "done" "I" "WideningArray") (by decide +kernel))) rfl (by decide +kernel) rfl rfl (Nat.le_of_ble_eq_true rfl) (cF_2 _) dX2_markRowDone_10 (fun H locs hw => ?_)
  obtain ⟨V_1, hV_1⟩ : ∃ z : vT, z = u2 V 2 3 (nI (dn + 1)) := ⟨_, rfl⟩
  rw [← hV_1] at hw
  refine lv_aload_n hx hb dX2_markRowDone_13 rfl (lv_at hl 0 rfl) ?_
  refine w_get (ci := 2) (C := RX2) (T := TX2) (M := 10) (v := .ref (ad 2)) hx hb hts hi2 hown hK hw 0 (by omega) _ (cF_0 _) rfl 1 (by decide) (hts (.fieldLink RX2 18 "WideningArray" "now" "LWideningArray$Marks;") (by decide +kernel)) rfl dX2_markRowDone_14 ?_
  refine lv_iconst (v := nI 0) hx hb dX2_markRowDone_17 (by decide) ?_
  refine w_putN (ci := 1) (C := RX1) (T := TX1) (M := 5) (x := nI 0) (ty := .boolean) hx hb hts hi1 tyX1 tyX1_ok nmX1 hown hK hw 2 (by omega) _ (cF_2 _) rfl 4 (by decide) (va_Nw.use rfl (hK.2 (.fieldLinkNest "WideningArray" 113 "WideningArray$Marks" "stashed" "Z" "WideningArray") (by decide +kernel))) rfl (by decide +kernel) rfl rfl (Nat.le_of_ble_eq_true rfl) (cF_2 _) dX2_markRowDone_18 (fun H locs hw => ?_)
  obtain ⟨V_2, hV_2⟩ : ∃ z : vT, z = u2 V_1 2 4 (nI 0) := ⟨_, rfl⟩
  rw [← hV_2] at hw
  refine lv_aload_n hx hb dX2_markRowDone_21 rfl (lv_at hl 0 rfl) ?_
  refine w_get (ci := 2) (C := RX2) (T := TX2) (M := 10) (v := .ref (ad 2)) hx hb hts hi2 hown hK hw 0 (by omega) _ (cF_0 _) rfl 1 (by decide) (hts (.fieldLink RX2 18 "WideningArray" "now" "LWideningArray$Marks;") (by decide +kernel)) rfl dX2_markRowDone_22 ?_
  refine w_getN (ci := 1) (C := RX1) (T := TX1) (M := 5) (v := .int (nI (dn + 1))) hx hb hts hi1 hown hK hw 2 (by omega) _ (cF_2 _) rfl 3 (by decide) (va_Nw.use rfl (hK.2 (.fieldLinkNest "WideningArray" 110 "WideningArray$Marks" "done" "I" "WideningArray") (by decide +kernel))) (congrArg (fun z => some (Value.int z)) (show V_2 2 3 = nI (dn + 1) from by rw [hV_2, u2_n _ _ (Or.inr (by decide)), hV_1, u2_s])) dX2_markRowDone_25 ?_
  refine lv_bipush (v := nI 32) hx hb dX2_markRowDone_28 (by decide) ?_
  refine n_icmp_ne (tgt := 62) hx hb dX2_markRowDone_30 (by decide) (by omega) (by omega) (fun c_30 => ?_) (fun c_30 => ?_)
  · refine lv_aload_n hx hb dX2_markRowDone_62 rfl (lv_at hl 0 rfl) ?_
    have hn9 : ∀ a, a ≠ 2 → V_2 a = V a := fun a ha => by rw [hV_2, u2_r _ _ ha, hV_1, u2_r _ _ ha]
    have hc1 : V_2 2 1 = nI n := by rw [hV_2, u2_n _ _ (Or.inr (by decide)), hV_1, u2_n _ _ (Or.inr (by decide))]; exact hn
    have hc2 : V_2 2 2 = bI wide := by rw [hV_2, u2_n _ _ (Or.inr (by decide)), hV_1, u2_n _ _ (Or.inr (by decide))]; exact hwd
    have hc3 : V_2 2 3 = nI (dn + 1) := by rw [hV_2, u2_n _ _ (Or.inr (by decide)), hV_1, u2_s]
    have hc4 : V_2 2 4 = bI false := by rw [hV_2, u2_s]; rfl
    have hc0 : V_2 2 0 = nI num := by rw [hV_2, u2_n _ _ (Or.inr (by decide)), hV_1, u2_n _ _ (Or.inr (by decide))]; exact hnum
    refine w_callv hw (va_runV (As := []) (rest := []) ⟨hx, hb, hml, hown, hts⟩ (c_X2_issueNewMarks l D cI cD ad _ V_2 n hc1 wide hc2 false hc4 num hc0 hkw (fun d hd => cQd_congr (fun a h1 h2 => hn9 a (by omega)) (hQ d hd))) (cwV 0 hts gX2_markRowDone_X2_issueNewMarks rfl rfl rfl (by decide +kernel) ⟨Nat.le_of_ble_eq_true rfl, Nat.le_of_ble_eq_true rfl⟩) (w_preV hK hw (by omega) (cF_0 _) rfl _) rfl rfl hl.1 rfl (lv_room (Nat.le_of_ble_eq_true rfl)) dX2_markRowDone_63 ⟨Nat.le_of_ble_eq_true rfl, Nat.le_of_ble_eq_true rfl⟩) (fun V_3 H locs hp hw => ?_)
    have hN : NM V_2 num n wide V_3 := hp
    clear hp
    refine lv_aload_n hx hb dX2_markRowDone_66 rfl (lv_at hl 0 rfl) ?_
    refine w_calli hw (va_runV (As := []) (rest := []) ⟨hx, hb, hml, hown, hts⟩ (c_X2_awaitWrites l D cI cD ad _ V_3 (fun d => if d < kw n wide then [(none, V_3 2)] else []) hN.2.2.2.2.2.2 fp hfp (by rw [hN.1, hn9 0 (by decide)]; exact hf) fd (by rw [hN.1, hn9 0 (by decide)]; exact hfd)) (cwV 0 hts gX2_markRowDone_X2_awaitWrites rfl rfl rfl (by decide +kernel) ⟨Nat.le_of_ble_eq_true rfl, Nat.le_of_ble_eq_true rfl⟩) (w_preV hK hw (by omega) (cF_0 _) rfl _) rfl rfl hl.1 rfl (lv_room (Nat.le_of_ble_eq_true rfl)) dX2_markRowDone_67 ⟨Nat.le_of_ble_eq_true rfl, Nat.le_of_ble_eq_true rfl⟩) (fun r_5 V_4 H locs hp hw => ?_)
    have hA : AW V_3 (fun d => if d < kw n wide then [(none, V_3 2)] else []) fp fd r_5 V_4 := hp
    clear hp
    have e9 := hA.1
    subst e9
    exact w_zret hx hb hr hlocks hw (bI_nar _) (by rw [if_neg c_30, if_neg c_30, if_neg c_30]; exact ⟨_, _, hn9, hc0, hc1, hc2, hc3, hc4, hN, hA⟩) dX2_markRowDone_70
  · refine lv_aload_n hx hb dX2_markRowDone_33 rfl (lv_at hl 0 rfl) ?_
    refine w_get (ci := 2) (C := RX2) (T := TX2) (M := 10) (v := .ref (ad 2)) hx hb hts hi2 hown hK hw 0 (by omega) _ (cF_0 _) rfl 1 (by decide) (hts (.fieldLink RX2 18 "WideningArray" "now" "LWideningArray$Marks;") (by decide +kernel)) rfl dX2_markRowDone_34 ?_
    refine lv_dup hx hb dX2_markRowDone_37 rfl ?_
    refine w_getN (ci := 1) (C := RX1) (T := TX1) (M := 5) (v := .int (nI n)) hx hb hts hi1 hown hK hw 2 (by omega) _ (cF_2 _) rfl 1 (by decide) (va_Nw.use rfl (hK.2 (.fieldLinkNest "WideningArray" 58 "WideningArray$Marks" "width" "I" "WideningArray") (by decide +kernel))) (congrArg (fun z => some (Value.int z)) (show V_2 2 1 = nI n from by rw [hV_2, u2_n _ _ (Or.inr (by decide)), hV_1, u2_n _ _ (Or.inr (by decide))]; exact hn)) dX2_markRowDone_38 ?_
    refine lv_iconst (v := nI 1) hx hb dX2_markRowDone_41 (by decide) ?_
    refine n_add hx hb dX2_markRowDone_42 ?_
    refine w_putN (ci := 1) (C := RX1) (T := TX1) (M := 5) (x := nI (n + 1)) (ty := .int) hx hb hts hi1 tyX1 tyX1_ok nmX1 hown hK hw 2 (by omega) _ (cF_2 _) rfl 1 (by decide) (va_Nw.use rfl (hK.2 (.fieldLinkNest "WideningArray" 58 "WideningArray$Marks" "width" "I" "WideningArray") (by decide +kernel))) rfl (by decide +kernel) rfl rfl (Nat.le_of_ble_eq_true rfl) (cF_2 _) dX2_markRowDone_43 (fun H locs hw => ?_)
    obtain ⟨V_6, hV_6⟩ : ∃ z : vT, z = u2 V_2 2 1 (nI (n + 1)) := ⟨_, rfl⟩
    rw [← hV_6] at hw
    refine lv_aload_n hx hb dX2_markRowDone_46 rfl (lv_at hl 0 rfl) ?_
    refine w_get (ci := 2) (C := RX2) (T := TX2) (M := 10) (v := .ref (ad 2)) hx hb hts hi2 hown hK hw 0 (by omega) _ (cF_0 _) rfl 1 (by decide) (hts (.fieldLink RX2 18 "WideningArray" "now" "LWideningArray$Marks;") (by decide +kernel)) rfl dX2_markRowDone_47 ?_
    refine lv_iconst (v := nI 0) hx hb dX2_markRowDone_50 (by decide) ?_
    refine w_putN (ci := 1) (C := RX1) (T := TX1) (M := 5) (x := nI 0) (ty := .boolean) hx hb hts hi1 tyX1 tyX1_ok nmX1 hown hK hw 2 (by omega) _ (cF_2 _) rfl 2 (by decide) (va_Nw.use rfl (hK.2 (.fieldLinkNest "WideningArray" 102 "WideningArray$Marks" "widened" "Z" "WideningArray") (by decide +kernel))) rfl (by decide +kernel) rfl rfl (Nat.le_of_ble_eq_true rfl) (cF_2 _) dX2_markRowDone_51 (fun H locs hw => ?_)
    obtain ⟨V_7, hV_7⟩ : ∃ z : vT, z = u2 V_6 2 2 (nI 0) := ⟨_, rfl⟩
    rw [← hV_7] at hw
    refine lv_aload_n hx hb dX2_markRowDone_54 rfl (lv_at hl 0 rfl) ?_
    refine w_get (ci := 2) (C := RX2) (T := TX2) (M := 10) (v := .ref (ad 2)) hx hb hts hi2 hown hK hw 0 (by omega) _ (cF_0 _) rfl 1 (by decide) (hts (.fieldLink RX2 18 "WideningArray" "now" "LWideningArray$Marks;") (by decide +kernel)) rfl dX2_markRowDone_55 ?_
    refine lv_iconst (v := nI 0) hx hb dX2_markRowDone_58 (by decide) ?_
    refine w_putN (ci := 1) (C := RX1) (T := TX1) (M := 5) (x := nI 0) (ty := .int) hx hb hts hi1 tyX1 tyX1_ok nmX1 hown hK hw 2 (by omega) _ (cF_2 _) rfl 3 (by decide) (va_Nw.use rfl (hK.2 (.fieldLinkNest "WideningArray" 110 "WideningArray$Marks" "done" "I" "WideningArray") (by decide +kernel))) rfl (by decide +kernel) rfl rfl (Nat.le_of_ble_eq_true rfl) (cF_2 _) dX2_markRowDone_59 (fun H locs hw => ?_)
    obtain ⟨V_8, hV_8⟩ : ∃ z : vT, z = u2 V_7 2 3 (nI 0) := ⟨_, rfl⟩
    rw [← hV_8] at hw
    refine lv_aload_n hx hb dX2_markRowDone_62 rfl (lv_at hl 0 rfl) ?_
    have hn9 : ∀ a, a ≠ 2 → V_8 a = V a := fun a ha => by rw [hV_8, u2_r _ _ ha, hV_7, u2_r _ _ ha, hV_6, u2_r _ _ ha, hV_2, u2_r _ _ ha, hV_1, u2_r _ _ ha]
    have hc1 : V_8 2 1 = nI (n + 1) := by rw [hV_8, u2_n _ _ (Or.inr (by decide)), hV_7, u2_n _ _ (Or.inr (by decide)), hV_6, u2_s]
    have hc2 : V_8 2 2 = bI false := by rw [hV_8, u2_n _ _ (Or.inr (by decide)), hV_7, u2_s]; rfl
    have hc3 : V_8 2 3 = nI 0 := by rw [hV_8, u2_s]
    have hc4 : V_8 2 4 = bI false := by rw [hV_8, u2_n _ _ (Or.inr (by decide)), hV_7, u2_n _ _ (Or.inr (by decide)), hV_6, u2_n _ _ (Or.inr (by decide)), hV_2, u2_s]; rfl
    have hc0 : V_8 2 0 = nI num := by rw [hV_8, u2_n _ _ (Or.inr (by decide)), hV_7, u2_n _ _ (Or.inr (by decide)), hV_6, u2_n _ _ (Or.inr (by decide)), hV_2, u2_n _ _ (Or.inr (by decide)), hV_1, u2_n _ _ (Or.inr (by decide))]; exact hnum
    refine w_callv hw (va_runV (As := []) (rest := []) ⟨hx, hb, hml, hown, hts⟩ (c_X2_issueNewMarks l D cI cD ad _ V_8 (n + 1) hc1 false hc2 false hc4 num hc0 (show n + 1 ≤ 6 by omega) (fun d hd => cQd_congr (fun a h1 h2 => hn9 a (by omega)) (hQ d hd))) (cwV 0 hts gX2_markRowDone_X2_issueNewMarks rfl rfl rfl (by decide +kernel) ⟨Nat.le_of_ble_eq_true rfl, Nat.le_of_ble_eq_true rfl⟩) (w_preV hK hw (by omega) (cF_0 _) rfl _) rfl rfl hl.1 rfl (lv_room (Nat.le_of_ble_eq_true rfl)) dX2_markRowDone_63 ⟨Nat.le_of_ble_eq_true rfl, Nat.le_of_ble_eq_true rfl⟩) (fun V_9 H locs hp hw => ?_)
    have hN : NM V_8 num (n + 1) false V_9 := hp
    clear hp
    refine lv_aload_n hx hb dX2_markRowDone_66 rfl (lv_at hl 0 rfl) ?_
    refine w_calli hw (va_runV (As := []) (rest := []) ⟨hx, hb, hml, hown, hts⟩ (c_X2_awaitWrites l D cI cD ad _ V_9 (fun d => if d < kw (n + 1) false then [(none, V_9 2)] else []) hN.2.2.2.2.2.2 fp hfp (by rw [hN.1, hn9 0 (by decide)]; exact hf) fd (by rw [hN.1, hn9 0 (by decide)]; exact hfd)) (cwV 0 hts gX2_markRowDone_X2_awaitWrites rfl rfl rfl (by decide +kernel) ⟨Nat.le_of_ble_eq_true rfl, Nat.le_of_ble_eq_true rfl⟩) (w_preV hK hw (by omega) (cF_0 _) rfl _) rfl rfl hl.1 rfl (lv_room (Nat.le_of_ble_eq_true rfl)) dX2_markRowDone_67 ⟨Nat.le_of_ble_eq_true rfl, Nat.le_of_ble_eq_true rfl⟩) (fun r_11 V_10 H locs hp hw => ?_)
    have hA : AW V_9 (fun d => if d < kw (n + 1) false then [(none, V_9 2)] else []) fp fd r_11 V_10 := hp
    clear hp
    have e9 := hA.1
    subst e9
    exact w_zret hx hb hr hlocks hw (bI_nar _) (by rw [if_pos c_30, if_pos c_30, if_pos c_30]; exact ⟨_, _, hn9, hc0, hc1, hc2, hc3, hc4, hN, hA⟩) dX2_markRowDone_70
