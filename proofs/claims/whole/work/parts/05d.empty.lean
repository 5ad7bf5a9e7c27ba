set_option maxHeartbeats 4000000 in
set_option maxRecDepth 100000 in
theorem lp_J7_fill {p : Program} {l : Launch} {e : Env} {s : State} {m : MethodId} {args : Array Value} {below : List Frame} {meth : Method} {c : Code} {Q : State → Prop} {D : va_G} {cI cD : ClassId} {ad : Nat → Nat} (hx : p.tables.exec = Jvm.exec) (hb : c.code = cJ7_fill_53178) (hts : ∀ w ∈ wsJ7_fill_53178, w.before args s = true) (hown : s.vm.findClass RJ7 = some m.cls) (hml : c.maxLocals = 4) (hK : kK D cI cD s) (k nl : Nat) (hk : k < 47) (hnl : nl < 1000) (hF : ∀ f, cF cI cD ad k f = .inl (cI, nl, .inl f)) (x : Int32) (V0 : vT) (hk9 : ∀ (V1 : vT) (H1 : Heap) (locs1 : List Loc) (ls : Array Slot), ((∀ a, a ≠ k → V1 a = V0 a) ∧ ∀ i, i < nl → V1 k i = x) → wS D 47 ad (cF cI cD ad) s.heap V1 H1 locs1 → lv_has ls 4 [(0, .ref (ad k))] → W p l e ({ frames := 0, cells := 0, slots := 0, locals := 0 }) s m args below meth c H1 locs1 0 0 Q (F0 m 20 ls [])) : ∀ (n j : Nat) (V : vT) (H : Heap) (locs : List Loc) (ls : Array Slot), (j + n = nl) → ((∀ a, a ≠ k → V a = V0 a) ∧ ∀ i, i < j → V k i = x) → wS D 47 ad (cF cI cD ad) s.heap V H locs → lv_has ls 4 [(3, .int (nI nl)), (2, .int (nI j)), (0, .ref (ad k)), (1, .int x)] → W p l e ({ frames := 0, cells := 0, slots := 0, locals := 0 }) s m args below meth c H locs 0 0 Q (F0 m 5 ls []) := by
  intro n
  induction n with
  | zero =>
    intro j V H locs ls hjn hin hw hl
    refine lv_iload_n hx hb dJ7_fill_53178_5 rfl (lv_at hl 1 rfl) ?_
    refine lv_iload_n hx hb dJ7_fill_53178_6 rfl (lv_at hl 0 rfl) ?_
    refine n_icmp_ge (tgt := 20) hx hb dJ7_fill_53178_7 (by decide) (by omega) (by omega) (fun c_7 => ?_) (fun c_7 => ?_)
    · have e1 : j = nl := by omega
      subst e1
      exact hk9 V H locs ls hin hw (lv_sub hl [2] rfl)
    · exfalso
      omega
  | succ n ih =>
    intro j V H locs ls hjn hin hw hl
    refine lv_iload_n hx hb dJ7_fill_53178_5 rfl (lv_at hl 1 rfl) ?_
    refine lv_iload_n hx hb dJ7_fill_53178_6 rfl (lv_at hl 0 rfl) ?_
    refine n_icmp_ge (tgt := 20) hx hb dJ7_fill_53178_7 (by decide) (by omega) (by omega) (fun c_7 => ?_) (fun c_7 => ?_)
    · exfalso
      omega
    · refine lv_aload_n hx hb dJ7_fill_53178_10 rfl (lv_at hl 2 rfl) ?_
      refine lv_iload_n hx hb dJ7_fill_53178_11 rfl (lv_at hl 1 rfl) ?_
      refine lv_iload_n hx hb dJ7_fill_53178_12 rfl (lv_at hl 3 rfl) ?_
      refine w_iast hx hb hK hw k nl (by omega) hF (i := j) (by omega) (by omega) dJ7_fill_53178_13 (fun H locs hw => ?_)
      obtain ⟨V_1, hV_1⟩ : ∃ z : vT, z = u2 V k j x := ⟨_, rfl⟩
      rw [← hV_1] at hw
      refine lv_iinc (v := nI (j + 1)) (lv' := [(2, .int (nI (j + 1))), (3, .int (nI nl)), (0, .ref (ad k)), (1, .int x)]) hx hb dJ7_fill_53178_14 hl (k := 1) rfl (nI_1 _) (by decide) rfl (fun ls hl => ?_)
      refine lv_goto (tgt := 5) hx hb dJ7_fill_53178_17 (by decide) ?_
      exact ih (j + 1) _ _ _ ls (by omega) ⟨fun a h => by rw [hV_1, u2_r _ _ h]; exact hin.1 a h, fun i hi => by rw [hV_1]; by_cases e2 : i = j; (· rw [e2, u2_s]); (· rw [u2_n _ _ (Or.inr e2)]; exact hin.2 i (by omega))⟩ hw (lv_sub hl [1, 0, 2, 3] rfl)
set_option maxHeartbeats 4000000 in
set_option maxRecDepth 100000 in
theorem c_J7_fill_53178 (l : Launch) (D : va_G) (cI cD : ClassId) (ad : Nat → Nat) (sz : Nat) (V : vT) (k nl : Nat) (hk : k < 47) (hnl : nl < 1000) (hF : ∀ f, cF cI cD ad k f = .inl (cI, nl, .inl f)) (x : Int32) : Met l yJ7_fill_53178 wsJ7_fill_53178 ({ frames := 0, cells := 0, slots := 0, locals := 0 }) (gP D cI cD 47 ad (cF cI cD ad) sz V [.ref (ad k), .int x]) (va_Qv (fun (V1 : vT) => (∀ a, a ≠ k → V1 a = V a) ∧ ∀ i, i < nl → V1 k i = x) (gB D 47 ad (cF cI cD ad)) (gA 47 ad sz)) 0 0 (gA 47 ad sz) := by
  refine w_met (cc := cJ7_fill_53178) (maxL := 4) (ret := none) (by decide) rfl (Nat.le_of_ble_eq_true rfl) ?_
  intro p e s m below meth c hx hb hr hts hown hlocks hml hsz hK hw ls hl
  subst hsz
  have hown : s.vm.findClass RJ7 = some m.cls := hown
  have hl : lv_has ls 4 [(0, .ref (ad k)), (1, .int x)] := hl
  refine lv_iconst (v := nI 0) hx hb dJ7_fill_53178_0 (by decide) ?_
  refine lv_istore_n (lv' := [(2, .int (nI 0)), (0, .ref (ad k)), (1, .int x)]) hx hb dJ7_fill_53178_1 rfl hl (by decide) rfl (fun ls hl => ?_)
  refine lv_aload_n hx hb dJ7_fill_53178_2 rfl (lv_at hl 1 rfl) ?_
  refine va_alen hx hb hK.1 hw.1 k 0 (by rw [wl_get (by omega), hF]) rfl (v := nI nl) rfl dJ7_fill_53178_3 ?_
  refine lv_istore_n (lv' := [(3, .int (nI nl)), (2, .int (nI 0)), (0, .ref (ad k)), (1, .int x)]) hx hb dJ7_fill_53178_4 rfl hl (by decide) rfl (fun ls hl => ?_)
  refine lp_J7_fill hx hb hts hown hml hK k nl hk hnl hF x V (fun V_9 H locs ls hin hw hl => ?_) nl 0 V _ _ ls (by omega) ⟨fun _ _ => rfl, fun i hi => absurd hi (by omega)⟩ hw (lv_sub hl [0, 1, 2, 3] rfl)
  exact w_vret hx hb hr hlocks hw (hin) dJ7_fill_53178_20
set_option maxHeartbeats 4000000 in
set_option maxRecDepth 100000 in
theorem c_X0_empty (l : Launch) (D : va_G) (cI cD : ClassId) (ad : Nat → Nat) (sz : Nat) (V : vT) (d : Nat) (hd : d < 6) : Met l yX0_empty wsX0_empty ({ frames := 1, cells := 0, slots := 0, locals := 23 }) (gP D cI cD 47 ad (cF cI cD ad) sz V [.ref (ad (5 + 7 * d))]) (va_Qv (fun (V1 : vT) => (∀ a, a ≠ 5 + 7 * d → a ≠ 6 + 7 * d → a ≠ 7 + 7 * d → a ≠ 8 + 7 * d → V1 a = V a) ∧ V1 (5 + 7 * d) 3 = nI 0 ∧ ∀ i, i < 170 → dc V1 d i = 0) (gB D 47 ad (cF cI cD ad)) (gA 47 ad sz)) 0 0 (gA 47 ad sz) := by
  refine w_met (cc := cX0_empty) (maxL := 1) (ret := none) (by decide) rfl (Nat.le_of_ble_eq_true rfl) ?_
  intro p e s m below meth c hx hb hr hts hown hlocks hml hsz hK hw ls hl
  subst hsz
  have hown : s.vm.findClass RX0 = some m.cls := hown
  have hi0 : ∀ w ∈ wsX00, w ∈ wsX0_empty := by decide +kernel
  have hl : lv_has ls 1 [(0, .ref (ad (5 + 7 * d)))] := hl
  refine lv_aload_n hx hb dX0_empty_0 rfl (lv_at hl 0 rfl) ?_
  refine w_get (ci := 0) (C := RX0) (T := TX0) (M := 7) (v := .ref (ad (6 + 7 * d))) hx hb hts hi0 hown hK hw (5 + 7 * d) (by omega) _ (cF_d0 d _) rfl 0 (by decide) (hts (.fieldLink RX0 9 "WideningArray$Disk" "words" "[I") (by decide +kernel)) rfl dX0_empty_1 ?_
  refine lv_iconst (v := nI 0) hx hb dX0_empty_4 (by decide) ?_
  refine w_callv hw (va_runS (As := [.ref (ad (6 + 7 * d)), .int (nI 0)]) (rest := []) ⟨hx, hb, hml, hown, hts⟩ (c_J7_fill_53178 l D cI cD ad _ V (6 + 7 * d) 160 (by omega) (by omega) (cF_d1 d) (nI 0)) (va_cwS 2 hts gX0_empty_J7_fill_53178 rfl rfl rfl (by decide +kernel) ⟨Nat.le_of_ble_eq_true rfl, Nat.le_of_ble_eq_true rfl⟩) (w_preS hK hw _) rfl rfl hl.1 rfl (lv_room (Nat.le_of_ble_eq_true rfl)) dX0_empty_5 ⟨Nat.le_of_ble_eq_true rfl, Nat.le_of_ble_eq_true rfl⟩) (fun V_1 H locs hp hw => ?_)
  obtain ⟨ha1, ha2⟩ := hp
  refine lv_aload_n hx hb dX0_empty_8 rfl (lv_at hl 0 rfl) ?_
  refine w_get (ci := 0) (C := RX0) (T := TX0) (M := 7) (v := .ref (ad (7 + 7 * d))) hx hb hts hi0 hown hK hw (5 + 7 * d) (by omega) _ (cF_d0 d _) rfl 1 (by decide) (hts (.fieldLink RX0 18 "WideningArray$Disk" "evenMarks" "LWideningArray$Marks;") (by decide +kernel)) rfl dX0_empty_9 ?_
  refine w_callv hw (va_runV (As := []) (rest := []) ⟨hx, hb, hml, hown, hts⟩ (c_X1_empty l D cI cD ad _ V_1 (7 + 7 * d) (by omega) (cF_d2 d)) (cwV 0 hts gX0_empty_X1_empty rfl rfl rfl (by decide +kernel) ⟨Nat.le_of_ble_eq_true rfl, Nat.le_of_ble_eq_true rfl⟩) (w_preV hK hw (by omega) (cF_d2 d _) rfl _) rfl rfl hl.1 rfl (lv_room (Nat.le_of_ble_eq_true rfl)) dX0_empty_12 ⟨Nat.le_of_ble_eq_true rfl, Nat.le_of_ble_eq_true rfl⟩) (fun V_2 H locs hp hw => ?_)
  obtain ⟨hb1, hb2⟩ := hp
  refine lv_aload_n hx hb dX0_empty_15 rfl (lv_at hl 0 rfl) ?_
  refine w_get (ci := 0) (C := RX0) (T := TX0) (M := 7) (v := .ref (ad (8 + 7 * d))) hx hb hts hi0 hown hK hw (5 + 7 * d) (by omega) _ (cF_d0 d _) rfl 2 (by decide) (hts (.fieldLink RX0 22 "WideningArray$Disk" "oddMarks" "LWideningArray$Marks;") (by decide +kernel)) rfl dX0_empty_16 ?_
  refine w_callv hw (va_runV (As := []) (rest := []) ⟨hx, hb, hml, hown, hts⟩ (c_X1_empty l D cI cD ad _ V_2 (8 + 7 * d) (by omega) (cF_d3 d)) (cwV 0 hts gX0_empty_X1_empty rfl rfl rfl (by decide +kernel) ⟨Nat.le_of_ble_eq_true rfl, Nat.le_of_ble_eq_true rfl⟩) (w_preV hK hw (by omega) (cF_d3 d _) rfl _) rfl rfl hl.1 rfl (lv_room (Nat.le_of_ble_eq_true rfl)) dX0_empty_19 ⟨Nat.le_of_ble_eq_true rfl, Nat.le_of_ble_eq_true rfl⟩) (fun V_3 H locs hp hw => ?_)
  obtain ⟨hc1, hc2⟩ := hp
  refine lv_aload_n hx hb dX0_empty_22 rfl (lv_at hl 0 rfl) ?_
  refine lv_iconst (v := nI 0) hx hb dX0_empty_23 (by decide) ?_
  refine w_put (ci := 0) (C := RX0) (T := TX0) (M := 7) (x := nI 0) (ty := .int) hx hb hts hi0 tyX0 tyX0_ok nmX0 hown hK hw (5 + 7 * d) (by omega) _ (cF_d0 d _) rfl 3 (by decide) (hts (.fieldLink RX0 43 "WideningArray$Disk" "waiting" "I") (by decide +kernel)) rfl (by decide +kernel) rfl rfl (Nat.le_of_ble_eq_true rfl) (cF_d0 d _) dX0_empty_24 (fun H locs hw => ?_)
  obtain ⟨V_4, hV_4⟩ : ∃ z : vT, z = u2 V_3 (5 + 7 * d) 3 (nI 0) := ⟨_, rfl⟩
  rw [← hV_4] at hw
  exact w_vret hx hb hr hlocks hw (⟨fun a h1 h2 h3 h4 => by rw [hV_4, u2_r _ _ h1, hc1 _ h4, hb1 _ h3, ha1 _ h2], by rw [hV_4, u2_s], fun i hi => by simp only [dc]; rw [hV_4, u2_r _ _ (by omega), u2_r _ _ (by omega), u2_r _ _ (by omega), hc1 (6 + 7 * d) (by omega), hb1 (6 + 7 * d) (by omega), hc1 (7 + 7 * d) (by omega)]; split; (· exact ha2 i (by omega)); (· split; (· exact hb2 _ (by omega)); (· exact hc2 _ (by omega)))⟩) dX0_empty_27
set_option maxHeartbeats 4000000 in
set_option maxRecDepth 100000 in
theorem c_X2_beginWrites (l : Launch) (D : va_G) (cI cD : ClassId) (ad : Nat → Nat) (sz : Nat) (V : vT) (fp pts : Nat) (hfp : fp < 2 ^ 31) (hpt : pts < 10) (hf : V 0 8 = nI fp) : Met l yX2_beginWrites wsX2_beginWrites ({ frames := 1, cells := 0, slots := 0, locals := 14 }) (gP D cI cD 47 ad (cF cI cD ad) sz V [.ref (ad 0), .int (nI pts)]) (va_Qv (fun (V1 : vT) => V1 = u2 V 0 8 (nI (min fp pts))) (gB D 47 ad (cF cI cD ad)) (gA 47 ad sz)) 0 0 (gA 47 ad sz) := by
  refine w_met (cc := cX2_beginWrites) (maxL := 2) (ret := none) (by decide) rfl (Nat.le_of_ble_eq_true rfl) ?_
  intro p e s m below meth c hx hb hr hts hown hlocks hml hsz hK hw ls hl
  subst hsz
  have hown : s.vm.findClass RX2 = some m.cls := hown
  have hi2 : ∀ w ∈ wsX20, w ∈ wsX2_beginWrites := by decide +kernel
  have hl : lv_has ls 2 [(0, .ref (ad 0)), (1, .int (nI pts))] := hl
  refine lv_aload_n hx hb dX2_beginWrites_0 rfl (lv_at hl 0 rfl) ?_
  refine lv_aload_n hx hb dX2_beginWrites_1 rfl (lv_at hl 0 rfl) ?_
  refine w_get (ci := 2) (C := RX2) (T := TX2) (M := 10) (v := .int (nI fp)) hx hb hts hi2 hown hK hw 0 (by omega) _ (cF_0 _) rfl 8 (by decide) (hts (.fieldLink RX2 54 "WideningArray" "failPoint" "I") (by decide +kernel)) (congrArg (fun z => some (Value.int z)) (show V 0 8 = nI fp from hf)) dX2_beginWrites_2 ?_
  refine lv_iload_n hx hb dX2_beginWrites_5 rfl (lv_at hl 1 rfl) ?_
  refine va_mmin hx hb (hml.trans hl.1.symm) hown (hts (.methodLink RX2 234 Lib.Math.min.name) (by decide +kernel)) (hts (.static Lib.Math.min.name) (by decide +kernel)) (hts (.initialized "java/lang/Math") (by decide +kernel)) (hts (.code Lib.Math.min.name Lib.Math.min.code 2 (some .int)) (by decide +kernel)) (Nat.le_of_ble_eq_true rfl) (Nat.le_of_ble_eq_true rfl) (Nat.zero_le _) (Nat.zero_le _) dX2_beginWrites_6 ?_
  refine n_is (show (if nI pts < nI fp then nI pts else nI fp) = nI (min fp pts) from by rw [Nat.min_def]; by_cases q : pts < fp; (· rw [if_pos (nI_lt q hfp), if_neg (by omega)]); (· rw [if_neg (nI_nlt (by omega) (by omega)), if_pos (by omega)])) ?_
  refine w_put (ci := 2) (C := RX2) (T := TX2) (M := 10) (x := nI (min fp pts)) (ty := .int) hx hb hts hi2 tyX2 tyX2_ok nmX2 hown hK hw 0 (by omega) _ (cF_0 _) rfl 8 (by decide) (hts (.fieldLink RX2 54 "WideningArray" "failPoint" "I") (by decide +kernel)) rfl (by decide +kernel) rfl rfl (Nat.le_of_ble_eq_true rfl) (cF_0 _) dX2_beginWrites_9 (fun H locs hw => ?_)
  obtain ⟨V_1, hV_1⟩ : ∃ z : vT, z = u2 V 0 8 (nI (min fp pts)) := ⟨_, rfl⟩
  rw [← hV_1] at hw
  exact w_vret hx hb hr hlocks hw (hV_1) dX2_beginWrites_12
