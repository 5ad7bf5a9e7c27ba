set_option maxHeartbeats 4000000 in
set_option maxRecDepth 100000 in
theorem c_X2_issueChange (l : Launch) (D : va_G) (cI cD : ClassId) (ad : Nat → Nat) (sz : Nat) (V : vT) (b k row own i : Nat) (v : Int32) (hre : row = b / (k - 1)) (hoe : own = b % (k - 1)) (hk3 : 3 ≤ k) (hk6 : k ≤ 6) (hrow : row < 40) (hb31 : b < 1000) (hi4 : i < 4) (hQ : cQ V (fun _ => [])) : Met l yX2_issueChange wsX2_issueChange ({ frames := 4, cells := 0, slots := 0, locals := 96 }) (gP D cI cD 47 ad (cF cI cD ad) sz V [.ref (ad 0), .int (nI b), .int (nI k), .int (nI i), .int v]) (va_Qv (fun (V1 : vT) => (∀ a, a < 3 → V1 a = V a) ∧ sameD V V1 ∧ cQ V1 (qAdd (qAdd (fun _ => []) (dd k row own) (some row, fun i1 => chg (fun j i => told (cw V) (ab (V 0 6) (V 0 7)) k row (dd k row j) i) own i v own i1)) (pd k row) (some row, fun i1 => xa (fun e => chg (fun j i => told (cw V) (ab (V 0 6) (V 0 7)) k row (dd k row j) i) own i v e i1) (k - 1)))) (gB D 47 ad (cF cI cD ad)) (gA 47 ad sz)) 0 0 (gA 47 ad sz) := by
  refine w_met (cc := cX2_issueChange) (maxL := 7) (ret := none) (by decide) rfl (Nat.le_of_ble_eq_true rfl) ?_
  intro p e s m below meth c hx hb hr hts hown hlocks hml hsz hK hw ls hl
  subst hsz
  have hown : s.vm.findClass RX2 = some m.cls := hown
  have hi2 : ∀ w ∈ wsX20, w ∈ wsX2_issueChange := by decide +kernel
  have hl : lv_has ls 7 [(0, .ref (ad 0)), (1, .int (nI b)), (2, .int (nI k)), (3, .int (nI i)), (4, .int v)] := hl
  have hown9 : own < k - 1 := by rw [hoe]; exact Nat.mod_lt _ (by omega)
  refine lv_iload_n hx hb dX2_issueChange_0 rfl (lv_at hl 1 rfl) ?_
  refine lv_iload_n hx hb dX2_issueChange_1 rfl (lv_at hl 2 rfl) ?_
  refine lv_iconst (v := nI 1) hx hb dX2_issueChange_2 (by decide) ?_
  refine n_sub hx hb dX2_issueChange_3 (by omega) ?_
  refine n_div hx hb dX2_issueChange_4 (by omega) (by omega) (by omega) ?_
  refine n_is (show nI (b / (k - 1)) = nI row from by rw [hre]) ?_
  refine lv_istore (lv' := [(5, .int (nI row)), (0, .ref (ad 0)), (1, .int (nI b)), (2, .int (nI k)), (3, .int (nI i)), (4, .int v)]) hx hb dX2_issueChange_5 hl (by decide) rfl (fun ls hl => ?_)
  refine lv_iload_n hx hb dX2_issueChange_7 rfl (lv_at hl 2 rfl) ?_
  refine lv_iload_n hx hb dX2_issueChange_8 rfl (lv_at hl 3 rfl) ?_
  refine lv_iconst (v := nI 1) hx hb dX2_issueChange_9 (by decide) ?_
  refine n_sub hx hb dX2_issueChange_10 (by omega) ?_
  refine n_rem hx hb dX2_issueChange_11 (by omega) (by omega) (by omega) ?_
  refine n_is (show nI (b % (k - 1)) = nI own from by rw [hoe]) ?_
  refine lv_istore (lv' := [(6, .int (nI own)), (5, .int (nI row)), (0, .ref (ad 0)), (1, .int (nI b)), (2, .int (nI k)), (3, .int (nI i)), (4, .int v)]) hx hb dX2_issueChange_12 hl (by decide) rfl (fun ls hl => ?_)
  refine lv_aload_n hx hb dX2_issueChange_14 rfl (lv_at hl 2 rfl) ?_
  refine lv_iload_n hx hb dX2_issueChange_15 rfl (lv_at hl 4 rfl) ?_
  refine lv_iload hx hb dX2_issueChange_16 (lv_at hl 1 rfl) ?_
  refine w_callv hw (va_runV (As := [.int (nI k), .int (nI row)]) (rest := []) ⟨hx, hb, hml, hown, hts⟩ (c_X2_fetchRow l D cI cD ad _ V k row (by omega) (by omega) (by omega)) (cwV 2 hts gX2_issueChange_X2_fetchRow rfl rfl rfl (by decide +kernel) ⟨Nat.le_of_ble_eq_true rfl, Nat.le_of_ble_eq_true rfl⟩) (w_preV hK hw (by omega) (cF_0 _) rfl _) rfl rfl hl.1 rfl (lv_room (Nat.le_of_ble_eq_true rfl)) dX2_issueChange_18 ⟨Nat.le_of_ble_eq_true rfl, Nat.le_of_ble_eq_true rfl⟩) (fun V_1 H locs hp hw => ?_)
  obtain ⟨hf1, hf2⟩ := hp
  refine lv_aload_n hx hb dX2_issueChange_21 rfl (lv_at hl 2 rfl) ?_
  refine w_get (ci := 2) (C := RX2) (T := TX2) (M := 10) (v := .ref (ad 3)) hx hb hts hi2 hown hK hw 0 (by omega) _ (cF_0 _) rfl 2 (by decide) (hts (.fieldLink RX2 22 "WideningArray" "data" "[I") (by decide +kernel)) rfl dX2_issueChange_22 ?_
  refine lv_iload hx hb dX2_issueChange_25 (lv_at hl 0 rfl) ?_
  refine lv_iconst (v := nI 4) hx hb dX2_issueChange_27 (by decide) ?_
  refine n_mul hx hb dX2_issueChange_28 ?_
  refine lv_iload_n hx hb dX2_issueChange_29 rfl (lv_at hl 5 rfl) ?_
  refine n_add hx hb dX2_issueChange_30 ?_
  refine lv_iload hx hb dX2_issueChange_31 (lv_at hl 6 rfl) ?_
  refine w_iast hx hb hK hw 3 24 (by omega) (cF_3) (i := (own * 4) + i) (by omega) (by decide) dX2_issueChange_33 (fun H locs hw => ?_)
  obtain ⟨V_2, hV_2⟩ : ∃ z : vT, z = u2 V_1 3 ((own * 4) + i) v := ⟨_, rfl⟩
  rw [← hV_2] at hw
  have hd3 : ∀ j1 i1, j1 < k - 1 → i1 < 4 → V_2 3 (j1 * 4 + i1) = chg (fun j i => told (cw V) (ab (V 0 6) (V 0 7)) k row (dd k row j) i) own i v j1 i1 := by
    intro j1 i1 h1 h2
    unfold chg
    by_cases q : j1 = own ∧ i1 = i
    · rw [if_pos q, q.1, q.2, hV_2, u2_s]
    · rw [if_neg q, hV_2, u2_n _ _ (Or.inr (by omega))]
      exact hf2 j1 i1 h1 h2
  have hs3 : ∀ a, a ≠ 3 → V_2 a = V a := fun a ha => by rw [hV_2, u2_r _ _ ha]; exact hf1 a ha
  have hdd := dd_lt (k := k) (row := row) (j := own) (by omega)
  have hpd := pd_lt (k := k) (row := row) (by omega)
  refine lv_aload_n hx hb dX2_issueChange_34 rfl (lv_at hl 2 rfl) ?_
  refine w_get (ci := 2) (C := RX2) (T := TX2) (M := 10) (v := .ref (ad 1)) hx hb hts hi2 hown hK hw 0 (by omega) _ (cF_0 _) rfl 0 (by decide) (hts (.fieldLink RX2 11 "WideningArray" "disks" "[LWideningArray$Disk;") (by decide +kernel)) rfl dX2_issueChange_35 ?_
  refine lv_iload_n hx hb dX2_issueChange_38 rfl (lv_at hl 4 rfl) ?_
  refine lv_iload hx hb dX2_issueChange_39 (lv_at hl 1 rfl) ?_
  refine lv_iload hx hb dX2_issueChange_41 (lv_at hl 0 rfl) ?_
  refine w_calli hw (va_runS (As := [.int (nI k), .int (nI row), .int (nI own)]) (rest := [.ref (ad 1)]) ⟨hx, hb, hml, hown, hts⟩ (c_X2_dataDisk l D cI cD ad _ V_2 k row own (by omega) (by omega) (by omega) (by omega)) (va_cwS 3 hts gX2_issueChange_X2_dataDisk rfl rfl rfl (by decide +kernel) ⟨Nat.le_of_ble_eq_true rfl, Nat.le_of_ble_eq_true rfl⟩) (w_preS hK hw _) rfl rfl hl.1 rfl (lv_room (Nat.le_of_ble_eq_true rfl)) dX2_issueChange_43 ⟨Nat.le_of_ble_eq_true rfl, Nat.le_of_ble_eq_true rfl⟩) (fun r_4 V_3 H locs hp hw => ?_)
  obtain ⟨e9, e8⟩ := hp
  subst e9
  subst e8
  refine w_aald hx hb hK hw 1 6 (by omega) (cF_1 _) (i := dd k row own) (by omega) (by decide) rfl dX2_issueChange_46 ?_
  refine lv_iload hx hb dX2_issueChange_47 (lv_at hl 1 rfl) ?_
  refine lv_aload_n hx hb dX2_issueChange_49 rfl (lv_at hl 2 rfl) ?_
  refine w_get (ci := 2) (C := RX2) (T := TX2) (M := 10) (v := .ref (ad 3)) hx hb hts hi2 hown hK hw 0 (by omega) _ (cF_0 _) rfl 2 (by decide) (hts (.fieldLink RX2 22 "WideningArray" "data" "[I") (by decide +kernel)) rfl dX2_issueChange_50 ?_
  refine lv_iload hx hb dX2_issueChange_53 (lv_at hl 0 rfl) ?_
  refine lv_iconst (v := nI 4) hx hb dX2_issueChange_55 (by decide) ?_
  refine n_mul hx hb dX2_issueChange_56 ?_
  have hQ9 : cQ V_2 (fun _ => []) := fun d hd => cQd_congr (fun a h1 h2 => hs3 a (by omega)) (hQ d hd)
  refine w_callv hw (va_runV (As := [.int (nI row), .ref (ad 3), .int (nI (own * 4))]) (rest := []) ⟨hx, hb, hml, hown, hts⟩ (c_X0_issueBlock l D cI cD ad _ V_2 (dd k row own) (by omega) row (by omega) 3 24 (by omega) cF_3 (by omega) (own * 4) (by omega) (by omega) ((fun _ => []) (dd k row own)).length (hQ9 (dd k row own) (by omega)).1 (show 0 < 8 by decide)) (cwV 3 hts gX2_issueChange_X0_issueBlock rfl rfl rfl (by decide +kernel) ⟨Nat.le_of_ble_eq_true rfl, Nat.le_of_ble_eq_true rfl⟩) (w_preV hK hw (by omega) (cF_d0 (dd k row own) _) rfl _) rfl rfl hl.1 rfl (lv_room (Nat.le_of_ble_eq_true rfl)) dX2_issueChange_57 ⟨Nat.le_of_ble_eq_true rfl, Nat.le_of_ble_eq_true rfl⟩) (fun V_5 H locs hp hw => ?_)
  have hQb := cQ_block (Qf := fun _ => []) hQ9 (by omega) (show 0 < 8 by decide) hrow hp (b := fun i1 => chg (fun j i => told (cw V) (ab (V 0 6) (V 0 7)) k row (dd k row j) i) own i v own i1) (fun i1 h1 => hd3 own i1 (by omega) h1)
  have hs4 := hp.1
  clear hp
  refine lv_aload_n hx hb dX2_issueChange_60 rfl (lv_at hl 2 rfl) ?_
  refine lv_iload_n hx hb dX2_issueChange_61 rfl (lv_at hl 4 rfl) ?_
  refine lv_iload hx hb dX2_issueChange_62 (lv_at hl 1 rfl) ?_
  refine w_callv hw (va_runV (As := [.int (nI k), .int (nI row)]) (rest := []) ⟨hx, hb, hml, hown, hts⟩ (c_X2_issueParity l D cI cD ad _ V_5 k row (by omega) (by omega) (by omega) _ hQb (Nat.lt_of_le_of_lt (qAdd_len (m := 0) (Nat.zero_le _)) (by decide))) (cwV 2 hts gX2_issueChange_X2_issueParity rfl rfl rfl (by decide +kernel) ⟨Nat.le_of_ble_eq_true rfl, Nat.le_of_ble_eq_true rfl⟩) (w_preV hK hw (by omega) (cF_0 _) rfl _) rfl rfl hl.1 rfl (lv_room (Nat.le_of_ble_eq_true rfl)) dX2_issueChange_64 ⟨Nat.le_of_ble_eq_true rfl, Nat.le_of_ble_eq_true rfl⟩) (fun V_6 H locs hp hw => ?_)
  exact w_vret hx hb hr hlocks hw (⟨fun a ha => (hp.1 a (by omega)).trans ((hs4 a (by omega) (by omega) (by omega)).trans (hs3 a (by omega))), sameD.trans (fun d hd => ⟨hs3 _ (by omega), hs3 _ (by omega), hs3 _ (by omega)⟩) (sameD.trans (sameD_block hs4) hp.2.1), cQ_eqb (fun i1 h1 => xa_congr (fun e he => by rw [hs4 3 (by omega) (by omega) (by omega)]; exact hd3 e i1 he h1)) hp.2.2.2⟩) dX2_issueChange_67
set_option maxHeartbeats 4000000 in
set_option maxRecDepth 100000 in
theorem lp_X2_setByTheRest {p : Program} {l : Launch} {e : Env} {s : State} {m : MethodId} {args : Array Value} {below : List Frame} {meth : Method} {c : Code} {Q : State → Prop} {D : va_G} {cI cD : ClassId} {ad : Nat → Nat} (hx : p.tables.exec = Jvm.exec) (hb : c.code = cX2_setByTheRest) (hts : ∀ w ∈ wsX2_setByTheRest, w.before args s = true) (hown : s.vm.findClass RX2 = some m.cls) (hml : c.maxLocals = 5) (hK : kK D cI cD s) (V0 : vT) (k row d : Nat) (hk6 : k ≤ 6) (hrow : row < 40) (hd6 : d < 6) (hk : ∀ (V1 : vT) (H1 : Heap) (locs1 : List Loc) (ls : Array Slot), ((∀ a, a ≠ 6 + 7 * d → V1 a = V0 a) ∧ ∀ i, V1 (6 + 7 * d) i = if row * 4 ≤ i ∧ i < row * 4 + 4 then xr (fun e => V0 (6 + 7 * e) i) d k else V0 (6 + 7 * d) i) → wS D 47 ad (cF cI cD ad) s.heap V1 H1 locs1 → lv_has ls 5 [(0, .ref (ad 0))] → W p l e ({ frames := 2, cells := 0, slots := 0, locals := 48 }) s m args below meth c H1 locs1 0 0 Q (F0 m 36 ls [])) : ∀ (n j : Nat) (V : vT) (H : Heap) (locs : List Loc) (ls : Array Slot), (j + n = 4) → ((∀ a, a ≠ 6 + 7 * d → V a = V0 a) ∧ ∀ i, V (6 + 7 * d) i = if row * 4 ≤ i ∧ i < row * 4 + j then xr (fun e => V0 (6 + 7 * e) i) d k else V0 (6 + 7 * d) i) → wS D 47 ad (cF cI cD ad) s.heap V H locs → lv_has ls 5 [(4, .int (nI j)), (0, .ref (ad 0)), (1, .int (nI k)), (2, .int (nI row)), (3, .int (nI d))] → W p l e ({ frames := 2, cells := 0, slots := 0, locals := 48 }) s m args below meth c H locs 0 0 Q (F0 m 3 ls []) := by
  have hi2 : ∀ w ∈ wsX20, w ∈ wsX2_setByTheRest := by decide +kernel
  intro n
  induction n with
  | zero =>
    intro j V H locs ls hjn hin hw hl
    refine lv_iload hx hb dX2_setByTheRest_3 (lv_at hl 0 rfl) ?_
    refine lv_iconst (v := nI 4) hx hb dX2_setByTheRest_5 (by decide) ?_
    refine n_icmp_ge (tgt := 36) hx hb dX2_setByTheRest_6 (by decide) (by omega) (by omega) (fun c_6 => ?_) (fun c_6 => ?_)
    · have e1 : j = 4 := by omega
      subst e1
      exact hk V H locs ls hin hw (lv_sub hl [1] rfl)
    · exfalso
      omega
  | succ n ih =>
    intro j V H locs ls hjn hin hw hl
    refine lv_iload hx hb dX2_setByTheRest_3 (lv_at hl 0 rfl) ?_
    refine lv_iconst (v := nI 4) hx hb dX2_setByTheRest_5 (by decide) ?_
    refine n_icmp_ge (tgt := 36) hx hb dX2_setByTheRest_6 (by decide) (by omega) (by omega) (fun c_6 => ?_) (fun c_6 => ?_)
    · exfalso
      omega
    · refine lv_aload_n hx hb dX2_setByTheRest_9 rfl (lv_at hl 1 rfl) ?_
      refine w_get (ci := 2) (C := RX2) (T := TX2) (M := 10) (v := .ref (ad 1)) hx hb hts hi2 hown hK hw 0 (by omega) _ (cF_0 _) rfl 0 (by decide) (hts (.fieldLink RX2 11 "WideningArray" "disks" "[LWideningArray$Disk;") (by decide +kernel)) rfl dX2_setByTheRest_10 ?_
      refine lv_iload_n hx hb dX2_setByTheRest_13 rfl (lv_at hl 4 rfl) ?_
      refine w_aald hx hb hK hw 1 6 (by omega) (cF_1 _) (i := d) (by omega) (by decide) rfl dX2_setByTheRest_14 ?_
      refine lv_iload_n hx hb dX2_setByTheRest_15 rfl (lv_at hl 3 rfl) ?_
      refine lv_iload hx hb dX2_setByTheRest_16 (lv_at hl 0 rfl) ?_
      refine lv_aload_n hx hb dX2_setByTheRest_18 rfl (lv_at hl 1 rfl) ?_
      refine lv_iload_n hx hb dX2_setByTheRest_19 rfl (lv_at hl 2 rfl) ?_
      refine lv_iload_n hx hb dX2_setByTheRest_20 rfl (lv_at hl 3 rfl) ?_
      refine lv_iload_n hx hb dX2_setByTheRest_21 rfl (lv_at hl 4 rfl) ?_
      refine lv_iload hx hb dX2_setByTheRest_22 (lv_at hl 0 rfl) ?_
      refine w_calli hw (va_runV (As := [.int (nI k), .int (nI row), .int (nI d), .int (nI j)]) (rest := [.int (nI j), .int (nI row), .ref (ad (5 + 7 * d))]) ⟨hx, hb, hml, hown, hts⟩ (c_X2_wordByTheRest l D cI cD ad _ V k row d j (by omega) (by omega) (by omega) (by omega)) (cwV 4 hts gX2_setByTheRest_X2_wordByTheRest rfl rfl rfl (by decide +kernel) ⟨Nat.le_of_ble_eq_true rfl, Nat.le_of_ble_eq_true rfl⟩) (w_preV hK hw (by omega) (cF_0 _) rfl _) rfl rfl hl.1 rfl (lv_room (Nat.le_of_ble_eq_true rfl)) dX2_setByTheRest_24 ⟨Nat.le_of_ble_eq_true rfl, Nat.le_of_ble_eq_true rfl⟩) (fun r_2 V_1 H locs hp hw => ?_)
      obtain ⟨e9, e8⟩ := hp
      subst e9
      subst e8
      refine w_callv hw (va_runV (As := [.int (nI row), .int (nI j), .int (xr (fun e => V (6 + 7 * e) (row * 4 + j)) d k)]) (rest := []) ⟨hx, hb, hml, hown, hts⟩ (c_X0_setWord l D cI cD ad _ V d (by omega) row j (xr (fun e => V (6 + 7 * e) (row * 4 + j)) d k) (by omega) (by omega)) (cwV 3 hts gX2_setByTheRest_X0_setWord rfl rfl rfl (by decide +kernel) ⟨Nat.le_of_ble_eq_true rfl, Nat.le_of_ble_eq_true rfl⟩) (w_preV hK hw (by omega) (cF_d0 d _) rfl _) rfl rfl hl.1 rfl (lv_room (Nat.le_of_ble_eq_true rfl)) dX2_setByTheRest_27 ⟨Nat.le_of_ble_eq_true rfl, Nat.le_of_ble_eq_true rfl⟩) (fun V_3 H locs hp hw => ?_)
      refine lv_iinc (v := nI (j + 1)) (lv' := [(4, .int (nI (j + 1))), (0, .ref (ad 0)), (1, .int (nI k)), (2, .int (nI row)), (3, .int (nI d))]) hx hb dX2_setByTheRest_30 hl (k := 0) rfl (nI_1 _) (by decide) rfl (fun ls hl => ?_)
      refine lv_goto (tgt := 3) hx hb dX2_setByTheRest_33 (by decide) ?_
      have hin' : (∀ a, a ≠ 6 + 7 * d → V_3 a = V0 a) ∧ ∀ i, V_3 (6 + 7 * d) i = if row * 4 ≤ i ∧ i < row * 4 + (j + 1) then xr (fun e => V0 (6 + 7 * e) i) d k else V0 (6 + 7 * d) i := by
        refine ⟨fun a ha => by rw [hp, u2_r _ _ ha]; exact hin.1 a ha, fun i => ?_⟩
        by_cases q : i = row * 4 + j
        · rw [q, hp, u2_s, if_pos (by omega)]
          exact xr_congr (fun e he hne => by rw [hin.1 _ (by omega)])
        · rw [hp, u2_n _ _ (Or.inr q), hin.2 i]
          by_cases q2 : row * 4 ≤ i ∧ i < row * 4 + j
          · rw [if_pos q2, if_pos (by omega)]
          · rw [if_neg q2, if_neg (by omega)]
      exact ih (j + 1) _ _ _ ls (by omega) hin' hw (lv_sub hl [0, 1, 2, 3, 4] rfl)
set_option maxHeartbeats 4000000 in
set_option maxRecDepth 100000 in
theorem c_X2_setByTheRest (l : Launch) (D : va_G) (cI cD : ClassId) (ad : Nat → Nat) (sz : Nat) (V : vT) (k row d : Nat) (hk6 : k ≤ 6) (hrow : row < 40) (hd6 : d < 6) : Met l yX2_setByTheRest wsX2_setByTheRest ({ frames := 2, cells := 0, slots := 0, locals := 48 }) (gP D cI cD 47 ad (cF cI cD ad) sz V [.ref (ad 0), .int (nI k), .int (nI row), .int (nI d)]) (va_Qv (fun (V1 : vT) => (∀ a, a ≠ 6 + 7 * d → V1 a = V a) ∧ ∀ i, V1 (6 + 7 * d) i = if row * 4 ≤ i ∧ i < row * 4 + 4 then xr (fun e => V (6 + 7 * e) i) d k else V (6 + 7 * d) i) (gB D 47 ad (cF cI cD ad)) (gA 47 ad sz)) 0 0 (gA 47 ad sz) := by
  refine w_met (cc := cX2_setByTheRest) (maxL := 5) (ret := none) (by decide) rfl (Nat.le_of_ble_eq_true rfl) ?_
  intro p e s m below meth c hx hb hr hts hown hlocks hml hsz hK hw ls hl
  subst hsz
  have hown : s.vm.findClass RX2 = some m.cls := hown
  have hi2 : ∀ w ∈ wsX20, w ∈ wsX2_setByTheRest := by decide +kernel
  have hl : lv_has ls 5 [(0, .ref (ad 0)), (1, .int (nI k)), (2, .int (nI row)), (3, .int (nI d))] := hl
  refine lv_iconst (v := nI 0) hx hb dX2_setByTheRest_0 (by decide) ?_
  refine lv_istore (lv' := [(4, .int (nI 0)), (0, .ref (ad 0)), (1, .int (nI k)), (2, .int (nI row)), (3, .int (nI d))]) hx hb dX2_setByTheRest_1 hl (by decide) rfl (fun ls hl => ?_)
  refine lp_X2_setByTheRest hx hb hts hown hml hK V k row d hk6 hrow hd6 (fun V_L H locs ls hin hw hl => ?_) 4 0 V _ _ ls (by omega) ⟨fun _ _ => rfl, fun i => by rw [if_neg (by omega)]⟩ hw (lv_sub hl [0, 1, 2, 3, 4] rfl)
  exact w_vret hx hb hr hlocks hw (hin) dX2_setByTheRest_36
set_option maxHeartbeats 4000000 in
set_option maxRecDepth 100000 in
theorem lp_X2_isParityRight {p : Program} {l : Launch} {e : Env} {s : State} {m : MethodId} {args : Array Value} {below : List Frame} {meth : Method} {c : Code} {Q : State → Prop} {D : va_G} {cI cD : ClassId} {ad : Nat → Nat} (hx : p.tables.exec = Jvm.exec) (hb : c.code = cX2_isParityRight) (hts : ∀ w ∈ wsX2_isParityRight, w.before args s = true) (hown : s.vm.findClass RX2 = some m.cls) (hml : c.maxLocals = 5) (hK : kK D cI cD s) {V : vT} (kk row : Nat) (hk0 : 0 < kk) (hk6 : kk ≤ 6) (hrow : row < 40) (hke : ∀ (j : Nat) (H1 : Heap) (locs1 : List Loc) (ls : Array Slot), j < 4 → ¬ (V (6 + 7 * pd kk row) (row * 4 + j) = xr (fun e => V (6 + 7 * e) (row * 4 + j)) (pd kk row) kk) → wS D 47 ad (cF cI cD ad) s.heap V H1 locs1 → lv_has ls 5 [(0, .ref (ad 0))] → W p l e ({ frames := 2, cells := 0, slots := 0, locals := 48 }) s m args below meth c H1 locs1 0 0 Q (F0 m 45 ls [])) (hk : (∀ i, i < 4 → V (6 + 7 * pd kk row) (row * 4 + i) = xr (fun e => V (6 + 7 * e) (row * 4 + i)) (pd kk row) kk) → ∀ (H1 : Heap) (locs1 : List Loc) (ls : Array Slot), wS D 47 ad (cF cI cD ad) s.heap V H1 locs1 → lv_has ls 5 [(0, .ref (ad 0))] → W p l e ({ frames := 2, cells := 0, slots := 0, locals := 48 }) s m args below meth c H1 locs1 0 0 Q (F0 m 53 ls [])) : ∀ (n j : Nat) (H : Heap) (locs : List Loc) (ls : Array Slot), j + n = 4 → (∀ i, i < j → V (6 + 7 * pd kk row) (row * 4 + i) = xr (fun e => V (6 + 7 * e) (row * 4 + i)) (pd kk row) kk) → wS D 47 ad (cF cI cD ad) s.heap V H locs → lv_has ls 5 [(4, .int (nI j)), (3, .int (nI (pd kk row))), (2, .int (nI kk)), (0, .ref (ad 0)), (1, .int (nI row))] → W p l e ({ frames := 2, cells := 0, slots := 0, locals := 48 }) s m args below meth c H locs 0 0 Q (F0 m 15 ls []) := by
  have hi2 : ∀ w ∈ wsX20, w ∈ wsX2_isParityRight := by decide +kernel
  intro n
  induction n with
  | zero =>
    intro j H locs ls hjn hin hw hl
    have hpd := pd_lt (k := kk) (row := row) hk0
    refine lv_iload hx hb dX2_isParityRight_15 (lv_at hl 0 rfl) ?_
    refine lv_iconst (v := nI 4) hx hb dX2_isParityRight_17 (by decide) ?_
    refine n_icmp_ge (tgt := 53) hx hb dX2_isParityRight_18 (by decide) (by omega) (by omega) (fun c_18 => ?_) (fun c_18 => ?_)
    · have e1 : j = 4 := by omega
      subst e1
      exact hk hin H locs ls hw (lv_sub hl [3] rfl)
    · exfalso
      omega
  | succ n ih =>
    intro j H locs ls hjn hin hw hl
    have hpd := pd_lt (k := kk) (row := row) hk0
    refine lv_iload hx hb dX2_isParityRight_15 (lv_at hl 0 rfl) ?_
    refine lv_iconst (v := nI 4) hx hb dX2_isParityRight_17 (by decide) ?_
    refine n_icmp_ge (tgt := 53) hx hb dX2_isParityRight_18 (by decide) (by omega) (by omega) (fun c_18 => ?_) (fun c_18 => ?_)
    · exfalso
      omega
    · refine lv_aload_n hx hb dX2_isParityRight_21 rfl (lv_at hl 3 rfl) ?_
      refine w_get (ci := 2) (C := RX2) (T := TX2) (M := 10) (v := .ref (ad 1)) hx hb hts hi2 hown hK hw 0 (by omega) _ (cF_0 _) rfl 0 (by decide) (hts (.fieldLink RX2 11 "WideningArray" "disks" "[LWideningArray$Disk;") (by decide +kernel)) rfl dX2_isParityRight_22 ?_
      refine lv_iload_n hx hb dX2_isParityRight_25 rfl (lv_at hl 1 rfl) ?_
      refine w_aald hx hb hK hw 1 6 (by omega) (cF_1 _) (i := pd kk row) (by omega) (by decide) rfl dX2_isParityRight_26 ?_
      refine lv_iload_n hx hb dX2_isParityRight_27 rfl (lv_at hl 4 rfl) ?_
      refine lv_iload hx hb dX2_isParityRight_28 (lv_at hl 0 rfl) ?_
      refine w_calli hw (va_runV (As := [.int (nI row), .int (nI j)]) (rest := []) ⟨hx, hb, hml, hown, hts⟩ (c_X0_word l D cI cD ad _ V (pd kk row) (by omega) row j (by omega) (by omega)) (cwV 2 hts gX2_isParityRight_X0_word rfl rfl rfl (by decide +kernel) ⟨Nat.le_of_ble_eq_true rfl, Nat.le_of_ble_eq_true rfl⟩) (w_preV hK hw (by omega) (cF_d0 (pd kk row) _) rfl _) rfl rfl hl.1 rfl (lv_room (Nat.le_of_ble_eq_true rfl)) dX2_isParityRight_30 ⟨Nat.le_of_ble_eq_true rfl, Nat.le_of_ble_eq_true rfl⟩) (fun r_2 V_1 H locs hp hw => ?_)
      obtain ⟨e9, e8⟩ := hp
      subst e9
      subst e8
      refine lv_aload_n hx hb dX2_isParityRight_33 rfl (lv_at hl 3 rfl) ?_
      refine lv_iload_n hx hb dX2_isParityRight_34 rfl (lv_at hl 2 rfl) ?_
      refine lv_iload_n hx hb dX2_isParityRight_35 rfl (lv_at hl 4 rfl) ?_
      refine lv_iload_n hx hb dX2_isParityRight_36 rfl (lv_at hl 1 rfl) ?_
      refine lv_iload hx hb dX2_isParityRight_37 (lv_at hl 0 rfl) ?_
      refine w_calli hw (va_runV (As := [.int (nI kk), .int (nI row), .int (nI (pd kk row)), .int (nI j)]) (rest := [.int (V (6 + 7 * (pd kk row)) (row * 4 + j))]) ⟨hx, hb, hml, hown, hts⟩ (c_X2_wordByTheRest l D cI cD ad _ V kk row (pd kk row) j (by omega) (by omega) (by omega) (by omega)) (cwV 4 hts gX2_isParityRight_X2_wordByTheRest rfl rfl rfl (by decide +kernel) ⟨Nat.le_of_ble_eq_true rfl, Nat.le_of_ble_eq_true rfl⟩) (w_preV hK hw (by omega) (cF_0 _) rfl _) rfl rfl hl.1 rfl (lv_room (Nat.le_of_ble_eq_true rfl)) dX2_isParityRight_39 ⟨Nat.le_of_ble_eq_true rfl, Nat.le_of_ble_eq_true rfl⟩) (fun r_4 V_3 H locs hp hw => ?_)
      obtain ⟨e9, e8⟩ := hp
      subst e9
      subst e8
      refine lv_icmp_eq (tgt := 47) hx hb dX2_isParityRight_42 (by decide) (fun c_42 => ?_) (fun c_42 => ?_)
      · refine lv_iinc (v := nI (j + 1)) (lv' := [(4, .int (nI (j + 1))), (3, .int (nI (pd kk row))), (2, .int (nI kk)), (0, .ref (ad 0)), (1, .int (nI row))]) hx hb dX2_isParityRight_47 hl (k := 0) rfl (nI_1 _) (by decide) rfl (fun ls hl => ?_)
        refine lv_goto (tgt := 15) hx hb dX2_isParityRight_50 (by decide) ?_
        exact ih (j + 1) _ _ ls (by omega) (fun i hi => by by_cases q : i = j; (· rw [q]; exact c_42); (· exact hin i (by omega))) hw (lv_sub hl [0, 1, 2, 3, 4] rfl)
      · exact hke j _ _ ls (by omega) c_42 hw (lv_sub hl [3] rfl)
set_option maxHeartbeats 4000000 in
set_option maxRecDepth 100000 in
theorem c_X2_isParityRight (l : Launch) (D : va_G) (cI cD : ClassId) (ad : Nat → Nat) (sz : Nat) (V : vT) (n : Nat) (hn : V 2 1 = nI n) (wide : Bool) (hwd : V 2 2 = bI wide) (dn : Nat) (hdn : V 2 3 = nI dn) (hd32 : dn < 32) (row : Nat) (hrow : row < 40) (hw9 : 0 < wor n wide dn row ∧ wor n wide dn row ≤ 6) : Met l yX2_isParityRight wsX2_isParityRight ({ frames := 2, cells := 0, slots := 0, locals := 48 }) (gP D cI cD 47 ad (cF cI cD ad) sz V [.ref (ad 0), .int (nI row)]) (va_Qi (fun (r : Int32) (V1 : vT) => V = V1 ∧ bI (prt (cw V) (wor n wide dn row) row) = r) (gB D 47 ad (cF cI cD ad)) (gA 47 ad sz)) 0 0 (gA 47 ad sz) := by
  refine w_met (cc := cX2_isParityRight) (maxL := 5) (ret := (some .boolean)) (by decide) rfl (Nat.le_of_ble_eq_true rfl) ?_
  intro p e s m below meth c hx hb hr hts hown hlocks hml hsz hK hw ls hl
  subst hsz
  have hown : s.vm.findClass RX2 = some m.cls := hown
  have hi2 : ∀ w ∈ wsX20, w ∈ wsX2_isParityRight := by decide +kernel
  have hl : lv_has ls 5 [(0, .ref (ad 0)), (1, .int (nI row))] := hl
  refine lv_aload_n hx hb dX2_isParityRight_0 rfl (lv_at hl 0 rfl) ?_
  refine lv_iload_n hx hb dX2_isParityRight_1 rfl (lv_at hl 1 rfl) ?_
  refine w_calli hw (va_runV (As := [.int (nI row)]) (rest := []) ⟨hx, hb, hml, hown, hts⟩ (c_X2_widthOfRow l D cI cD ad _ V n (show V 2 1 = nI n from hn) wide (show V 2 2 = bI wide from hwd) dn (show V 2 3 = nI dn from hdn) (by omega) row (by omega)) (cwV 1 hts gX2_isParityRight_X2_widthOfRow rfl rfl rfl (by decide +kernel) ⟨Nat.le_of_ble_eq_true rfl, Nat.le_of_ble_eq_true rfl⟩) (w_preV hK hw (by omega) (cF_0 _) rfl _) rfl rfl hl.1 rfl (lv_room (Nat.le_of_ble_eq_true rfl)) dX2_isParityRight_2 ⟨Nat.le_of_ble_eq_true rfl, Nat.le_of_ble_eq_true rfl⟩) (fun r_2 V_1 H locs hp hw => ?_)
  obtain ⟨e9, e8⟩ := hp
  subst e9
  subst e8
  refine lv_istore_n (lv' := [(2, .int (nI (wor n wide dn row))), (0, .ref (ad 0)), (1, .int (nI row))]) hx hb dX2_isParityRight_5 rfl hl (by decide) rfl (fun ls hl => ?_)
  refine lv_iload_n hx hb dX2_isParityRight_6 rfl (lv_at hl 0 rfl) ?_
  refine lv_iload_n hx hb dX2_isParityRight_7 rfl (lv_at hl 2 rfl) ?_
  refine w_calli hw (va_runS (As := [.int (nI (wor n wide dn row)), .int (nI row)]) (rest := []) ⟨hx, hb, hml, hown, hts⟩ (c_X2_parityDisk l D cI cD ad _ V (wor n wide dn row) row (by omega) (by omega) (by omega)) (va_cwS 2 hts gX2_isParityRight_X2_parityDisk rfl rfl rfl (by decide +kernel) ⟨Nat.le_of_ble_eq_true rfl, Nat.le_of_ble_eq_true rfl⟩) (w_preS hK hw _) rfl rfl hl.1 rfl (lv_room (Nat.le_of_ble_eq_true rfl)) dX2_isParityRight_8 ⟨Nat.le_of_ble_eq_true rfl, Nat.le_of_ble_eq_true rfl⟩) (fun r_4 V_3 H locs hp hw => ?_)
  obtain ⟨e9, e8⟩ := hp
  subst e9
  subst e8
  refine lv_istore_n (lv' := [(3, .int (nI (pd (wor n wide dn row) row))), (2, .int (nI (wor n wide dn row))), (0, .ref (ad 0)), (1, .int (nI row))]) hx hb dX2_isParityRight_11 rfl hl (by decide) rfl (fun ls hl => ?_)
  refine lv_iconst (v := nI 0) hx hb dX2_isParityRight_12 (by decide) ?_
  refine lv_istore (lv' := [(4, .int (nI 0)), (3, .int (nI (pd (wor n wide dn row) row))), (2, .int (nI (wor n wide dn row))), (0, .ref (ad 0)), (1, .int (nI row))]) hx hb dX2_isParityRight_13 hl (by decide) rfl (fun ls hl => ?_)
  refine lp_X2_isParityRight hx hb hts hown hml hK (V := V) (wor n wide dn row) row hw9.1 hw9.2 hrow (fun j H locs ls hj hne hw hl => ?f) (fun hall H locs ls hw hl => ?t) 4 0 _ _ ls (by omega) (fun i hi => absurd hi (by omega)) hw (lv_sub hl [0, 1, 2, 3, 4] rfl)
  case t =>
    refine lv_iconst (v := nI 1) hx hb dX2_isParityRight_53 (by decide) ?_
    exact w_zret hx hb hr hlocks hw rfl (⟨rfl, by rw [prt_t hall]; rfl⟩) dX2_isParityRight_54
  case f =>
    refine lv_iconst (v := nI 0) hx hb dX2_isParityRight_45 (by decide) ?_
    exact w_zret hx hb hr hlocks hw rfl (⟨rfl, by rw [prt_f (fun h => hne (h j hj))]; rfl⟩) dX2_isParityRight_46
