set_option maxHeartbeats 4000000 in
set_option maxRecDepth 100000 in
theorem lp_X2_issueNewMarks {p : Program} {l : Launch} {e : Env} {s : State} {m : MethodId} {args : Array Value} {below : List Frame} {meth : Method} {c : Code} {Q : State → Prop} {D : va_G} {cI cD : ClassId} {ad : Nat → Nat} (hx : p.tables.exec = Jvm.exec) (hb : c.code = cX2_issueNewMarks) (hts : ∀ w ∈ wsX2_issueNewMarks, w.before args s = true) (hown : s.vm.findClass RX2 = some m.cls) (hml : c.maxLocals = 2) (hK : kK D cI cD s) (V0 : vT) (n : Nat) (hn : V0 2 1 = nI n) (wide : Bool) (hwd : V0 2 2 = bI wide) (st : Bool) (hst : V0 2 4 = bI st) (hkw : kw n wide ≤ 6) (hk : ∀ (V1 : vT) (H1 : Heap) (locs1 : List Loc) (ls : Array Slot), ((∀ a, a < 5 → V1 a = V0 a) ∧ sameD V0 V1 ∧ ∀ d, d < 6 → cQd V1 d (if d < kw n wide then [(none, V0 2)] else [])) → wS D 47 ad (cF cI cD ad) s.heap V1 H1 locs1 → lv_has ls 2 [(0, .ref (ad 0))] → W p l e ({ frames := 2, cells := 0, slots := 0, locals := 42 }) s m args below meth c H1 locs1 0 0 Q (F0 m 42 ls [])) : ∀ (n9 j : Nat) (V : vT) (H : Heap) (locs : List Loc) (ls : Array Slot), (j + n9 = kw n wide) → ((∀ a, a < 5 → V a = V0 a) ∧ sameD V0 V ∧ ∀ d, d < 6 → cQd V d (if d < j then [(none, V0 2)] else [])) → wS D 47 ad (cF cI cD ad) s.heap V H locs → lv_has ls 2 [(1, .int (nI j)), (0, .ref (ad 0))] → W p l e ({ frames := 2, cells := 0, slots := 0, locals := 42 }) s m args below meth c H locs 0 0 Q (F0 m 15 ls []) := by
  have hi1 : ∀ w ∈ wsX10, w ∈ wsX2_issueNewMarks := by decide +kernel
  have hi2 : ∀ w ∈ wsX20, w ∈ wsX2_issueNewMarks := by decide +kernel
  intro n9
  induction n9 with
  | zero =>
    intro j V H locs ls hjn hin hw hl
    refine lv_iload_n hx hb dX2_issueNewMarks_15 rfl (lv_at hl 0 rfl) ?_
    refine lv_aload_n hx hb dX2_issueNewMarks_16 rfl (lv_at hl 1 rfl) ?_
    refine w_calli hw (va_runV (As := []) (rest := [.int (nI j)]) ⟨hx, hb, hml, hown, hts⟩ (c_X2_diskCount l D cI cD ad _ V n (show V 2 1 = nI n from by rw [hin.1 2 (by decide)]; exact hn) wide (show V 2 2 = bI wide from by rw [hin.1 2 (by decide)]; exact hwd)) (cwV 0 hts gX2_issueNewMarks_X2_diskCount rfl rfl rfl (by decide +kernel) ⟨Nat.le_of_ble_eq_true rfl, Nat.le_of_ble_eq_true rfl⟩) (w_preV hK hw (by omega) (cF_0 _) rfl _) rfl rfl hl.1 rfl (lv_room (Nat.le_of_ble_eq_true rfl)) dX2_issueNewMarks_17 ⟨Nat.le_of_ble_eq_true rfl, Nat.le_of_ble_eq_true rfl⟩) (fun r_2 V_1 H locs hp hw => ?_)
    obtain ⟨e9, e8⟩ := hp
    subst e9
    subst e8
    refine n_icmp_ge (tgt := 42) hx hb dX2_issueNewMarks_20 (by decide) (by omega) (by omega) (fun c_20 => ?_) (fun c_20 => ?_)
    · have e1 : j = kw n wide := by omega
      subst e1
      exact hk V H locs ls hin hw (lv_sub hl [1] rfl)
    · exfalso
      omega
  | succ n9 ih =>
    intro j V H locs ls hjn hin hw hl
    refine lv_iload_n hx hb dX2_issueNewMarks_15 rfl (lv_at hl 0 rfl) ?_
    refine lv_aload_n hx hb dX2_issueNewMarks_16 rfl (lv_at hl 1 rfl) ?_
    refine w_calli hw (va_runV (As := []) (rest := [.int (nI j)]) ⟨hx, hb, hml, hown, hts⟩ (c_X2_diskCount l D cI cD ad _ V n (show V 2 1 = nI n from by rw [hin.1 2 (by decide)]; exact hn) wide (show V 2 2 = bI wide from by rw [hin.1 2 (by decide)]; exact hwd)) (cwV 0 hts gX2_issueNewMarks_X2_diskCount rfl rfl rfl (by decide +kernel) ⟨Nat.le_of_ble_eq_true rfl, Nat.le_of_ble_eq_true rfl⟩) (w_preV hK hw (by omega) (cF_0 _) rfl _) rfl rfl hl.1 rfl (lv_room (Nat.le_of_ble_eq_true rfl)) dX2_issueNewMarks_17 ⟨Nat.le_of_ble_eq_true rfl, Nat.le_of_ble_eq_true rfl⟩) (fun r_2 V_1 H locs hp hw => ?_)
    obtain ⟨e9, e8⟩ := hp
    subst e9
    subst e8
    refine n_icmp_ge (tgt := 42) hx hb dX2_issueNewMarks_20 (by decide) (by omega) (by omega) (fun c_20 => ?_) (fun c_20 => ?_)
    · exfalso
      omega
    · refine lv_aload_n hx hb dX2_issueNewMarks_23 rfl (lv_at hl 1 rfl) ?_
      refine w_get (ci := 2) (C := RX2) (T := TX2) (M := 10) (v := .ref (ad 1)) hx hb hts hi2 hown hK hw 0 (by omega) _ (cF_0 _) rfl 0 (by decide) (hts (.fieldLink RX2 11 "WideningArray" "disks" "[LWideningArray$Disk;") (by decide +kernel)) rfl dX2_issueNewMarks_24 ?_
      refine lv_iload_n hx hb dX2_issueNewMarks_27 rfl (lv_at hl 0 rfl) ?_
      refine w_aald hx hb hK hw 1 6 (by omega) (cF_1 _) (i := j) (by omega) (by decide) rfl dX2_issueNewMarks_28 ?_
      refine lv_aload_n hx hb dX2_issueNewMarks_29 rfl (lv_at hl 1 rfl) ?_
      refine w_get (ci := 2) (C := RX2) (T := TX2) (M := 10) (v := .ref (ad 2)) hx hb hts hi2 hown hK hw 0 (by omega) _ (cF_0 _) rfl 1 (by decide) (hts (.fieldLink RX2 18 "WideningArray" "now" "LWideningArray$Marks;") (by decide +kernel)) rfl dX2_issueNewMarks_30 ?_
      refine w_callv hw (va_runV (As := [.ref (ad 2)]) (rest := []) ⟨hx, hb, hml, hown, hts⟩ (c_X0_issueMarks l D cI cD ad _ V j (by omega) 2 (by omega) cF_2 (by rw [hin.1 2 (by decide), hwd]; exact isB_bI _) (by rw [hin.1 2 (by decide), hst]; exact isB_bI _) (by omega) 0 (by have h9 := hin.2.2 j (by omega); rw [if_neg (Nat.lt_irrefl j)] at h9; exact h9.1) (by omega)) (cwV 1 hts gX2_issueNewMarks_X0_issueMarks rfl rfl rfl (by decide +kernel) ⟨Nat.le_of_ble_eq_true rfl, Nat.le_of_ble_eq_true rfl⟩) (w_preV hK hw (by omega) (cF_d0 j _) rfl _) rfl rfl hl.1 rfl (lv_room (Nat.le_of_ble_eq_true rfl)) dX2_issueNewMarks_33 ⟨Nat.le_of_ble_eq_true rfl, Nat.le_of_ble_eq_true rfl⟩) (fun V_3 H locs hp hw => ?_)
      refine lv_iinc (v := nI (j + 1)) (lv' := [(1, .int (nI (j + 1))), (0, .ref (ad 0))]) hx hb dX2_issueNewMarks_36 hl (k := 0) rfl (nI_1 _) (by decide) rfl (fun ls hl => ?_)
      refine lv_goto (tgt := 15) hx hb dX2_issueNewMarks_39 (by decide) ?_
      have hin' : (∀ a, a < 5 → V_3 a = V0 a) ∧ sameD V0 V_3 ∧ ∀ d, d < 6 → cQd V_3 d (if d < j + 1 then [(none, V0 2)] else []) := by
        refine ⟨fun a ha => (hp.1 a (by omega) (by omega) (by omega)).trans (hin.1 a ha), hin.2.1.trans (fun d hd => ⟨hp.1 _ (by omega) (by omega) (by omega), hp.1 _ (by omega) (by omega) (by omega), hp.1 _ (by omega) (by omega) (by omega)⟩), fun d hd => ?_⟩
        have h9 := hin.2.2 d hd
        by_cases e2 : d = j
        · subst e2
          rw [if_neg (Nat.lt_irrefl d)] at h9
          rw [if_pos (by omega)]
          refine cQd_marks h9 (by rw [hwd]; exact isB_bI _) (by rw [hst]; exact isB_bI _) hp.2.1 hp.2.2.1 (fun i hi => ?_)
          rw [hp.2.2.2 i hi, hin.1 2 (by decide)]
        · have e3 : (if d < j + 1 then [((none : Option Nat), V0 2)] else []) = (if d < j then [(none, V0 2)] else []) := by
            by_cases q : d < j
            · rw [if_pos (by omega), if_pos q]
            · rw [if_neg (by omega), if_neg q]
          rw [e3]
          exact cQd_congr (fun a h1 h2 => hp.1 a (by omega) (by omega) (by omega)) h9
      exact ih (j + 1) _ _ _ ls (by omega) hin' hw (lv_sub hl [0, 1] rfl)
set_option maxHeartbeats 4000000 in
set_option maxRecDepth 100000 in
theorem c_X2_issueNewMarks (l : Launch) (D : va_G) (cI cD : ClassId) (ad : Nat → Nat) (sz : Nat) (V : vT) (n : Nat) (hn : V 2 1 = nI n) (wide : Bool) (hwd : V 2 2 = bI wide) (st : Bool) (hst : V 2 4 = bI st) (num : Nat) (hnum : V 2 0 = nI num) (hkw : kw n wide ≤ 6) (hQ : cQ V (fun _ => [])) : Met l yX2_issueNewMarks wsX2_issueNewMarks ({ frames := 2, cells := 0, slots := 0, locals := 42 }) (gP D cI cD 47 ad (cF cI cD ad) sz V [.ref (ad 0)]) (va_Qv (fun (V1 : vT) => V1 0 = V 0 ∧ V1 3 = V 3 ∧ V1 4 = V 4 ∧ V1 2 0 = nI (num + 1) ∧ (∀ j, j ≠ 0 → V1 2 j = V 2 j) ∧ sameD V V1 ∧ ∀ d, d < 6 → cQd V1 d (if d < kw n wide then [(none, V1 2)] else [])) (gB D 47 ad (cF cI cD ad)) (gA 47 ad sz)) 0 0 (gA 47 ad sz) := by
  refine w_met (cc := cX2_issueNewMarks) (maxL := 2) (ret := none) (by decide) rfl (Nat.le_of_ble_eq_true rfl) ?_
  intro p e s m below meth c hx hb hr hts hown hlocks hml hsz hK hw ls hl
  subst hsz
  have hown : s.vm.findClass RX2 = some m.cls := hown
  have hi1 : ∀ w ∈ wsX10, w ∈ wsX2_issueNewMarks := by decide +kernel
  have hi2 : ∀ w ∈ wsX20, w ∈ wsX2_issueNewMarks := by decide +kernel
  have hl : lv_has ls 2 [(0, .ref (ad 0))] := hl
  refine lv_aload_n hx hb dX2_issueNewMarks_0 rfl (lv_at hl 0 rfl) ?_
  refine w_get (ci := 2) (C := RX2) (T := TX2) (M := 10) (v := .ref (ad 2)) hx hb hts hi2 hown hK hw 0 (by omega) _ (cF_0 _) rfl 1 (by decide) (hts (.fieldLink RX2 18 "WideningArray" "now" "LWideningArray$Marks;") (by decide +kernel)) rfl dX2_issueNewMarks_1 ?_
  refine lv_dup hx hb dX2_issueNewMarks_4 rfl ?_
  refine w_getN (ci := 1) (C := RX1) (T := TX1) (M := 5) (v := .int (nI num)) hx hb hts hi1 hown hK hw 2 (by omega) _ (cF_2 _) rfl 0 (by decide) (va_Nw.use rfl (hK.2 (.fieldLinkNest "WideningArray" 197 "WideningArray$Marks" "number" "I" "WideningArray") (by decide +kernel))) (congrArg (fun z => some (Value.int z)) (show V 2 0 = nI num from hnum)) dX2_issueNewMarks_5 ?_
  refine lv_iconst (v := nI 1) hx hb dX2_issueNewMarks_8 (by decide) ?_
  refine n_add hx hb dX2_issueNewMarks_9 ?_
  refine w_putN (ci := 1) (C := RX1) (T := TX1) (M := 5) (x := nI (num + 1)) (ty := .int) hx hb hts hi1 tyX1 tyX1_ok nmX1 hown hK hw 2 (by omega) _ (cF_2 _) rfl 0 (by decide) (va_Nw.use rfl (hK.2 (.fieldLinkNest "WideningArray" 197 "WideningArray$Marks" "number" "I" "WideningArray") (by decide +kernel))) rfl (by decide +kernel) rfl rfl (Nat.le_of_ble_eq_true rfl) (cF_2 _) dX2_issueNewMarks_10 (fun H locs hw => ?_)
  obtain ⟨V_1, hV_1⟩ : ∃ z : vT, z = u2 V 2 0 (nI (num + 1)) := ⟨_, rfl⟩
  rw [← hV_1] at hw
  refine lv_iconst (v := nI 0) hx hb dX2_issueNewMarks_13 (by decide) ?_
  refine lv_istore_n (lv' := [(1, .int (nI 0)), (0, .ref (ad 0))]) hx hb dX2_issueNewMarks_14 rfl hl (by decide) rfl (fun ls hl => ?_)
  refine lp_X2_issueNewMarks hx hb hts hown hml hK V_1 n (by rw [hV_1, u2_n _ _ (Or.inr (by decide))]; exact hn) wide (by rw [hV_1, u2_n _ _ (Or.inr (by decide))]; exact hwd) st (by rw [hV_1, u2_n _ _ (Or.inr (by decide))]; exact hst) hkw (fun V_L H locs ls hin hw hl => ?tail) (kw n wide) 0 V_1 _ _ ls (by omega) ⟨fun _ _ => rfl, sameD.rf, fun d hd => ?que⟩ hw (lv_sub hl [0, 1] rfl)
  case que =>
    rw [if_neg (Nat.not_lt_zero d), hV_1]
    exact cQd_congr (fun a h1 h2 => u2_r _ _ (by omega)) (hQ d hd)
  case tail =>
    exact w_vret hx hb hr hlocks hw (⟨by rw [hin.1 0 (by decide), hV_1, u2_r _ _ (by decide)], by rw [hin.1 3 (by decide), hV_1, u2_r _ _ (by decide)], by rw [hin.1 4 (by decide), hV_1, u2_r _ _ (by decide)], by rw [hin.1 2 (by decide), hV_1, u2_s], fun j hj => by rw [hin.1 2 (by decide), hV_1, u2_n _ _ (Or.inr hj)], sameD.trans (fun d hd => by rw [hV_1]; exact ⟨u2_r _ _ (by omega), u2_r _ _ (by omega), u2_r _ _ (by omega)⟩) hin.2.1, by rw [hin.1 2 (by decide)]; exact hin.2.2⟩) dX2_issueNewMarks_42
