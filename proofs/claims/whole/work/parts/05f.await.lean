set_option maxHeartbeats 4000000 in
set_option maxRecDepth 100000 in
theorem lp_X2_awaitWrites {p : Program} {l : Launch} {e : Env} {s : State} {m : MethodId} {args : Array Value} {below : List Frame} {meth : Method} {c : Code} {Q : State → Prop} {D : va_G} {cI cD : ClassId} {ad : Nat → Nat} (hx : p.tables.exec = Jvm.exec) (hb : c.code = cX2_awaitWrites) (hts : ∀ w ∈ wsX2_awaitWrites, w.before args s = true) (hown : s.vm.findClass RX2 = some m.cls) (hml : c.maxLocals = 3) (hK : kK D cI cD s) (V0 : vT) (Qf : Nat → List Wr) (hQ : cQ V0 Qf) (fl : Bool) (hk : ∀ (V1 : vT) (H1 : Heap) (locs1 : List Loc) (ls : Array Slot), ((∀ a, a < 5 → V1 a = V0 a) ∧ ∀ d, d < 6 → V1 (5 + 7 * d) 3 = nI 0 ∧ ∀ i, i < 170 → dc V1 d i = apL ((Qf d).take (wdn (ab (V0 0 6) (V0 0 7)) fl (V0 0 9) d (Qf d).length)) (dc V0 d) i) → wS D 47 ad (cF cI cD ad) s.heap V1 H1 locs1 → lv_has ls 3 [(1, .int (bI fl)), (0, .ref (ad 0))] → W p l e ({ frames := 3, cells := 0, slots := 0, locals := 65 }) s m args below meth c H1 locs1 0 0 Q (F0 m 43 ls [])) : ∀ (n j : Nat) (V : vT) (H : Heap) (locs : List Loc) (ls : Array Slot), (j + n = 6) → ((∀ a, a < 5 → V a = V0 a) ∧ (∀ d, d < 6 → j ≤ d → ∀ a, 5 + 7 * d ≤ a → a ≤ 11 + 7 * d → V a = V0 a) ∧ ∀ d, d < j → V (5 + 7 * d) 3 = nI 0 ∧ ∀ i, i < 170 → dc V d i = apL ((Qf d).take (wdn (ab (V0 0 6) (V0 0 7)) fl (V0 0 9) d (Qf d).length)) (dc V0 d) i) → wS D 47 ad (cF cI cD ad) s.heap V H locs → lv_has ls 3 [(2, .int (nI j)), (1, .int (bI fl)), (0, .ref (ad 0))] → W p l e ({ frames := 3, cells := 0, slots := 0, locals := 65 }) s m args below meth c H locs 0 0 Q (F0 m 16 ls []) := by
  have hi2 : ∀ w ∈ wsX20, w ∈ wsX2_awaitWrites := by decide +kernel
  intro n
  induction n with
  | zero =>
    intro j V H locs ls hjn hin hw hl
    refine lv_iload_n hx hb dX2_awaitWrites_16 rfl (lv_at hl 0 rfl) ?_
    refine lv_bipush (v := nI 6) hx hb dX2_awaitWrites_17 (by decide) ?_
    refine n_icmp_ge (tgt := 43) hx hb dX2_awaitWrites_19 (by decide) (by omega) (by omega) (fun c_19 => ?_) (fun c_19 => ?_)
    · have e1 : j = 6 := by omega
      subst e1
      exact hk V H locs ls ⟨hin.1, hin.2.2⟩ hw (lv_sub hl [1, 2] rfl)
    · exfalso
      omega
  | succ n ih =>
    intro j V H locs ls hjn hin hw hl
    refine lv_iload_n hx hb dX2_awaitWrites_16 rfl (lv_at hl 0 rfl) ?_
    refine lv_bipush (v := nI 6) hx hb dX2_awaitWrites_17 (by decide) ?_
    refine n_icmp_ge (tgt := 43) hx hb dX2_awaitWrites_19 (by decide) (by omega) (by omega) (fun c_19 => ?_) (fun c_19 => ?_)
    · exfalso
      omega
    · refine lv_aload_n hx hb dX2_awaitWrites_22 rfl (lv_at hl 2 rfl) ?_
      refine w_get (ci := 2) (C := RX2) (T := TX2) (M := 10) (v := .ref (ad 1)) hx hb hts hi2 hown hK hw 0 (by omega) _ (cF_0 _) rfl 0 (by decide) (hts (.fieldLink RX2 11 "WideningArray" "disks" "[LWideningArray$Disk;") (by decide +kernel)) rfl dX2_awaitWrites_23 ?_
      refine lv_iload_n hx hb dX2_awaitWrites_26 rfl (lv_at hl 0 rfl) ?_
      refine w_aald hx hb hK hw 1 6 (by omega) (cF_1 _) (i := j) (by omega) (by decide) rfl dX2_awaitWrites_27 ?_
      refine lv_aload_n hx hb dX2_awaitWrites_28 rfl (lv_at hl 2 rfl) ?_
      refine lv_iload_n hx hb dX2_awaitWrites_29 rfl (lv_at hl 0 rfl) ?_
      refine lv_iload_n hx hb dX2_awaitWrites_30 rfl (lv_at hl 1 rfl) ?_
      refine w_calli hw (va_runV (As := [.int (nI j), .int (bI fl)]) (rest := [.ref (ad (5 + 7 * j))]) ⟨hx, hb, hml, hown, hts⟩ (c_X2_writesDone l D cI cD ad _ V j (by omega) fl (Qf j).length (by rw [hin.2.1 j (by omega) (Nat.le_refl _) _ (by omega) (by omega)]; exact (hQ j (by omega)).1) (hQ j (by omega)).2.1) (cwV 2 hts gX2_awaitWrites_X2_writesDone rfl rfl rfl (by decide +kernel) ⟨Nat.le_of_ble_eq_true rfl, Nat.le_of_ble_eq_true rfl⟩) (w_preV hK hw (by omega) (cF_0 _) rfl _) rfl rfl hl.1 rfl (lv_room (Nat.le_of_ble_eq_true rfl)) dX2_awaitWrites_31 ⟨Nat.le_of_ble_eq_true rfl, Nat.le_of_ble_eq_true rfl⟩) (fun r_2 V_1 H locs hp hw => ?_)
      obtain ⟨e9, e8⟩ := hp
      subst e9
      subst e8
      rw [hin.1 0 (by decide)]
      refine w_callv hw (va_runV (As := [.int (nI (wdn (ab (V0 0 6) (V0 0 7)) fl (V0 0 9) j (Qf j).length))]) (rest := []) ⟨hx, hb, hml, hown, hts⟩ (c_X0_doFirst l D cI cD ad _ V j (by omega) (Qf j) (cQd_congr (hin.2.1 j (by omega) (Nat.le_refl _)) (hQ j (by omega))) (wdn (ab (V0 0 6) (V0 0 7)) fl (V0 0 9) j (Qf j).length) wdn_le) (cwV 1 hts gX2_awaitWrites_X0_doFirst rfl rfl rfl (by decide +kernel) ⟨Nat.le_of_ble_eq_true rfl, Nat.le_of_ble_eq_true rfl⟩) (w_preV hK hw (by omega) (cF_d0 j _) rfl _) rfl rfl hl.1 rfl (lv_room (Nat.le_of_ble_eq_true rfl)) dX2_awaitWrites_34 ⟨Nat.le_of_ble_eq_true rfl, Nat.le_of_ble_eq_true rfl⟩) (fun V_3 H locs hp hw => ?_)
      refine lv_iinc (v := nI (j + 1)) (lv' := [(2, .int (nI (j + 1))), (1, .int (bI fl)), (0, .ref (ad 0))]) hx hb dX2_awaitWrites_37 hl (k := 0) rfl (nI_1 _) (by decide) rfl (fun ls hl => ?_)
      refine lv_goto (tgt := 16) hx hb dX2_awaitWrites_40 (by decide) ?_
      have hin' : (∀ a, a < 5 → V_3 a = V0 a) ∧ (∀ d, d < 6 → j + 1 ≤ d → ∀ a, 5 + 7 * d ≤ a → a ≤ 11 + 7 * d → V_3 a = V0 a) ∧ ∀ d, d < j + 1 → V_3 (5 + 7 * d) 3 = nI 0 ∧ ∀ i, i < 170 → dc V_3 d i = apL ((Qf d).take (wdn (ab (V0 0 6) (V0 0 7)) fl (V0 0 9) d (Qf d).length)) (dc V0 d) i := by
        refine ⟨fun a ha => (hp.1 a (by omega) (by omega) (by omega) (by omega)).trans (hin.1 a ha), fun d hd hjd a h1 h2 => (hp.1 a (by omega) (by omega) (by omega) (by omega)).trans (hin.2.1 d hd (by omega) a h1 h2), fun d hd => ?_⟩
        by_cases e2 : d = j
        · subst e2
          refine ⟨hp.2.1, fun i hi => ?_⟩
          rw [hp.2.2 i hi]
          refine apL_pt _ ?_
          simp only [dc]
          rw [hin.2.1 d (by omega) (Nat.le_refl _) (6 + 7 * d) (by omega) (by omega), hin.2.1 d (by omega) (Nat.le_refl _) (7 + 7 * d) (by omega) (by omega), hin.2.1 d (by omega) (Nat.le_refl _) (8 + 7 * d) (by omega) (by omega)]
        · have h9 := hin.2.2 d (by omega)
          refine ⟨by rw [hp.1 _ (by omega) (by omega) (by omega) (by omega)]; exact h9.1, fun i hi => ?_⟩
          rw [← h9.2 i hi]
          simp only [dc]
          rw [hp.1 (6 + 7 * d) (by omega) (by omega) (by omega) (by omega), hp.1 (7 + 7 * d) (by omega) (by omega) (by omega) (by omega), hp.1 (8 + 7 * d) (by omega) (by omega) (by omega) (by omega)]
      exact ih (j + 1) _ _ _ ls (by omega) hin' hw (lv_sub hl [0, 1, 2] rfl)
set_option maxHeartbeats 4000000 in
set_option maxRecDepth 100000 in
theorem c_X2_awaitWrites (l : Launch) (D : va_G) (cI cD : ClassId) (ad : Nat → Nat) (sz : Nat) (V : vT) (Qf : Nat → List Wr) (hQ : cQ V Qf) (fp : Nat) (hfp : fp < 2 ^ 31) (hf : V 0 8 = nI fp) (fd : Bool) (hfd : V 0 5 = bI fd) : Met l yX2_awaitWrites wsX2_awaitWrites ({ frames := 3, cells := 0, slots := 0, locals := 65 }) (gP D cI cD 47 ad (cF cI cD ad) sz V [.ref (ad 0)]) (va_Qi (fun (r : Int32) (V1 : vT) => bI (!decide (fp = 1)) = r ∧ V1 0 8 = nI (fp - 1) ∧ V1 0 5 = bI (fd || decide (fp = 1)) ∧ (∀ j, j ≠ 5 → j ≠ 8 → V1 0 j = V 0 j) ∧ (∀ a, 1 ≤ a → a < 5 → V1 a = V a) ∧ ∀ d, d < 6 → V1 (5 + 7 * d) 3 = nI 0 ∧ ∀ i, i < 170 → dc V1 d i = apL ((Qf d).take (wdn (ab (V 0 6) (V 0 7)) (decide (fp = 1)) (V 0 9) d (Qf d).length)) (dc V d) i) (gB D 47 ad (cF cI cD ad)) (gA 47 ad sz)) 0 0 (gA 47 ad sz) := by
  refine w_met (cc := cX2_awaitWrites) (maxL := 3) (ret := (some .boolean)) (by decide) rfl (Nat.le_of_ble_eq_true rfl) ?_
  intro p e s m below meth c hx hb hr hts hown hlocks hml hsz hK hw ls hl
  subst hsz
  have hown : s.vm.findClass RX2 = some m.cls := hown
  have hi2 : ∀ w ∈ wsX20, w ∈ wsX2_awaitWrites := by decide +kernel
  have hl : lv_has ls 3 [(0, .ref (ad 0))] := hl
  refine lv_aload_n hx hb dX2_awaitWrites_0 rfl (lv_at hl 0 rfl) ?_
  refine w_get (ci := 2) (C := RX2) (T := TX2) (M := 10) (v := .int (nI fp)) hx hb hts hi2 hown hK hw 0 (by omega) _ (cF_0 _) rfl 8 (by decide) (hts (.fieldLink RX2 54 "WideningArray" "failPoint" "I") (by decide +kernel)) (congrArg (fun z => some (Value.int z)) (show V 0 8 = nI fp from hf)) dX2_awaitWrites_1 ?_
  refine lv_iconst (v := nI 1) hx hb dX2_awaitWrites_4 (by decide) ?_
  refine n_icmp_ne (tgt := 12) hx hb dX2_awaitWrites_5 (by decide) (by omega) (by omega) (fun c_5 => ?_) (fun c_5 => ?_)
  · refine lv_iconst (v := nI 0) hx hb dX2_awaitWrites_12 (by decide) ?_
    refine n_is (show nI 0 = bI (decide (fp = 1)) from by rw [decide_eq_false c_5]; rfl) ?_
    refine lv_istore_n (lv' := [(1, .int (bI (decide (fp = 1)))), (0, .ref (ad 0))]) hx hb dX2_awaitWrites_13 rfl hl (by decide) rfl (fun ls hl => ?_)
    refine lv_iconst (v := nI 0) hx hb dX2_awaitWrites_14 (by decide) ?_
    refine lv_istore_n (lv' := [(2, .int (nI 0)), (1, .int (bI (decide (fp = 1)))), (0, .ref (ad 0))]) hx hb dX2_awaitWrites_15 rfl hl (by decide) rfl (fun ls hl => ?_)
    refine lp_X2_awaitWrites hx hb hts hown hml hK V Qf hQ (decide (fp = 1)) (fun V_L H locs ls hin hw hl => ?_) 6 0 V _ _ ls (by omega) ⟨fun _ _ => rfl, fun _ _ _ _ _ _ => rfl, fun d hd => absurd hd (by omega)⟩ hw (lv_sub hl [0, 1, 2] rfl)
    have h0 := hin.1 0 (by decide)
    refine lv_aload_n hx hb dX2_awaitWrites_43 rfl (lv_at hl 1 rfl) ?_
    refine w_get (ci := 2) (C := RX2) (T := TX2) (M := 10) (v := .int (nI fp)) hx hb hts hi2 hown hK hw 0 (by omega) _ (cF_0 _) rfl 8 (by decide) (hts (.fieldLink RX2 54 "WideningArray" "failPoint" "I") (by decide +kernel)) (congrArg (fun z => some (Value.int z)) (show V_L 0 8 = nI fp from by rw [h0]; exact hf)) dX2_awaitWrites_44 ?_
    refine lv_if_le (tgt := 60) hx hb dX2_awaitWrites_47 (by decide) (fun c_47 => ?_) (fun c_47 => ?_)
    · have e3 : fp = 0 := Nat.eq_zero_of_not_pos (fun q => nI_nle q hfp c_47)
      refine lv_aload_n hx hb dX2_awaitWrites_60 rfl (lv_at hl 1 rfl) ?_
      refine lv_aload_n hx hb dX2_awaitWrites_61 rfl (lv_at hl 1 rfl) ?_
      refine w_get (ci := 2) (C := RX2) (T := TX2) (M := 10) (v := .int (bI fd)) hx hb hts hi2 hown hK hw 0 (by omega) _ (cF_0 _) rfl 5 (by decide) (hts (.fieldLink RX2 51 "WideningArray" "failed" "Z") (by decide +kernel)) (congrArg (fun z => some (Value.int z)) (show V_L 0 5 = bI fd from by rw [h0]; exact hfd)) dX2_awaitWrites_62 ?_
      refine lv_if_ne (tgt := 72) hx hb dX2_awaitWrites_65 (by decide) (fun c_65 => ?_) (fun c_65 => ?_)
      · refine lv_iconst (v := nI 1) hx hb dX2_awaitWrites_72 (by decide) ?_
        refine lv_goto (tgt := 77) hx hb dX2_awaitWrites_73 (by decide) ?_
        refine n_is (show nI 1 = bI (fd || decide (fp = 1)) from by first | (rw [bI_n0.mp c_65]; rfl) | (rw [bI_0.mp c_65, bI_n0.mp c_69]; rfl)) ?_
        refine w_put (ci := 2) (C := RX2) (T := TX2) (M := 10) (x := bI (fd || decide (fp = 1))) (ty := .boolean) hx hb hts hi2 tyX2 tyX2_ok nmX2 hown hK hw 0 (by omega) _ (cF_0 _) rfl 5 (by decide) (hts (.fieldLink RX2 51 "WideningArray" "failed" "Z") (by decide +kernel)) rfl (by decide +kernel) (bI_nar _) (bI_fit _) (Nat.le_of_ble_eq_true rfl) (cF_0 _) dX2_awaitWrites_77 (fun H locs hw => ?_)
        obtain ⟨V_1, hV_1⟩ : ∃ z : vT, z = u2 V_L 0 5 (bI (fd || decide (fp = 1))) := ⟨_, rfl⟩
        rw [← hV_1] at hw
        refine lv_iload_n hx hb dX2_awaitWrites_80 rfl (lv_at hl 0 rfl) ?_
        refine lv_if_ne (tgt := 88) hx hb dX2_awaitWrites_81 (by decide) (fun c_81 => ?_) (fun c_81 => ?_)
        · refine lv_iconst (v := nI 0) hx hb dX2_awaitWrites_88 (by decide) ?_
          refine n_is (show nI 0 = bI (!decide (fp = 1)) from by rw [bI_n0.mp c_81]; rfl) ?_
          exact w_zret hx hb hr hlocks hw (bI_nar _) (⟨rfl, by rw [hV_1, u2_n _ _ (Or.inr (by decide)), h0, hf, e3], by rw [hV_1, u2_s], fun j h5 h8 => by rw [hV_1, u2_n _ _ (Or.inr (by omega)), h0], fun a h1 h2 => by rw [hV_1, u2_r _ _ (by omega)]; exact hin.1 a h2, fun d hd => ⟨by rw [hV_1, u2_r _ _ (by omega)]; exact (hin.2 d hd).1, fun i hi => by rw [← (hin.2 d hd).2 i hi]; exact dc_u2 (by omega) (by omega) (by omega) (fun a ha => by rw [hV_1, u2_r _ _ ha])⟩⟩) dX2_awaitWrites_89
        · refine lv_iconst (v := nI 1) hx hb dX2_awaitWrites_84 (by decide) ?_
          refine lv_goto (tgt := 89) hx hb dX2_awaitWrites_85 (by decide) ?_
          refine n_is (show nI 1 = bI (!decide (fp = 1)) from by rw [bI_0.mp c_81]; rfl) ?_
          exact w_zret hx hb hr hlocks hw (bI_nar _) (⟨rfl, by rw [hV_1, u2_n _ _ (Or.inr (by decide)), h0, hf, e3], by rw [hV_1, u2_s], fun j h5 h8 => by rw [hV_1, u2_n _ _ (Or.inr (by omega)), h0], fun a h1 h2 => by rw [hV_1, u2_r _ _ (by omega)]; exact hin.1 a h2, fun d hd => ⟨by rw [hV_1, u2_r _ _ (by omega)]; exact (hin.2 d hd).1, fun i hi => by rw [← (hin.2 d hd).2 i hi]; exact dc_u2 (by omega) (by omega) (by omega) (fun a ha => by rw [hV_1, u2_r _ _ ha])⟩⟩) dX2_awaitWrites_89
      · refine lv_iload_n hx hb dX2_awaitWrites_68 rfl (lv_at hl 0 rfl) ?_
        refine lv_if_eq (tgt := 76) hx hb dX2_awaitWrites_69 (by decide) (fun c_69 => ?_) (fun c_69 => ?_)
        · refine lv_iconst (v := nI 0) hx hb dX2_awaitWrites_76 (by decide) ?_
          refine n_is (show nI 0 = bI (fd || decide (fp = 1)) from by first | (rw [bI_n0.mp c_65]; rfl) | (rw [bI_0.mp c_65, bI_0.mp c_69]; rfl)) ?_
          refine w_put (ci := 2) (C := RX2) (T := TX2) (M := 10) (x := bI (fd || decide (fp = 1))) (ty := .boolean) hx hb hts hi2 tyX2 tyX2_ok nmX2 hown hK hw 0 (by omega) _ (cF_0 _) rfl 5 (by decide) (hts (.fieldLink RX2 51 "WideningArray" "failed" "Z") (by decide +kernel)) rfl (by decide +kernel) (bI_nar _) (bI_fit _) (Nat.le_of_ble_eq_true rfl) (cF_0 _) dX2_awaitWrites_77 (fun H locs hw => ?_)
          obtain ⟨V_2, hV_2⟩ : ∃ z : vT, z = u2 V_L 0 5 (bI (fd || decide (fp = 1))) := ⟨_, rfl⟩
          rw [← hV_2] at hw
          refine lv_iload_n hx hb dX2_awaitWrites_80 rfl (lv_at hl 0 rfl) ?_
          refine lv_if_ne (tgt := 88) hx hb dX2_awaitWrites_81 (by decide) (fun c_81 => ?_) (fun c_81 => ?_)
          · refine lv_iconst (v := nI 0) hx hb dX2_awaitWrites_88 (by decide) ?_
            refine n_is (show nI 0 = bI (!decide (fp = 1)) from by rw [bI_n0.mp c_81]; rfl) ?_
            exact w_zret hx hb hr hlocks hw (bI_nar _) (⟨rfl, by rw [hV_2, u2_n _ _ (Or.inr (by decide)), h0, hf, e3], by rw [hV_2, u2_s], fun j h5 h8 => by rw [hV_2, u2_n _ _ (Or.inr (by omega)), h0], fun a h1 h2 => by rw [hV_2, u2_r _ _ (by omega)]; exact hin.1 a h2, fun d hd => ⟨by rw [hV_2, u2_r _ _ (by omega)]; exact (hin.2 d hd).1, fun i hi => by rw [← (hin.2 d hd).2 i hi]; exact dc_u2 (by omega) (by omega) (by omega) (fun a ha => by rw [hV_2, u2_r _ _ ha])⟩⟩) dX2_awaitWrites_89
          · refine lv_iconst (v := nI 1) hx hb dX2_awaitWrites_84 (by decide) ?_
            refine lv_goto (tgt := 89) hx hb dX2_awaitWrites_85 (by decide) ?_
            refine n_is (show nI 1 = bI (!decide (fp = 1)) from by rw [bI_0.mp c_81]; rfl) ?_
            exact w_zret hx hb hr hlocks hw (bI_nar _) (⟨rfl, by rw [hV_2, u2_n _ _ (Or.inr (by decide)), h0, hf, e3], by rw [hV_2, u2_s], fun j h5 h8 => by rw [hV_2, u2_n _ _ (Or.inr (by omega)), h0], fun a h1 h2 => by rw [hV_2, u2_r _ _ (by omega)]; exact hin.1 a h2, fun d hd => ⟨by rw [hV_2, u2_r _ _ (by omega)]; exact (hin.2 d hd).1, fun i hi => by rw [← (hin.2 d hd).2 i hi]; exact dc_u2 (by omega) (by omega) (by omega) (fun a ha => by rw [hV_2, u2_r _ _ ha])⟩⟩) dX2_awaitWrites_89
        · refine lv_iconst (v := nI 1) hx hb dX2_awaitWrites_72 (by decide) ?_
          refine lv_goto (tgt := 77) hx hb dX2_awaitWrites_73 (by decide) ?_
          refine n_is (show nI 1 = bI (fd || decide (fp = 1)) from by first | (rw [bI_n0.mp c_65]; rfl) | (rw [bI_0.mp c_65, bI_n0.mp c_69]; rfl)) ?_
          refine w_put (ci := 2) (C := RX2) (T := TX2) (M := 10) (x := bI (fd || decide (fp = 1))) (ty := .boolean) hx hb hts hi2 tyX2 tyX2_ok nmX2 hown hK hw 0 (by omega) _ (cF_0 _) rfl 5 (by decide) (hts (.fieldLink RX2 51 "WideningArray" "failed" "Z") (by decide +kernel)) rfl (by decide +kernel) (bI_nar _) (bI_fit _) (Nat.le_of_ble_eq_true rfl) (cF_0 _) dX2_awaitWrites_77 (fun H locs hw => ?_)
          obtain ⟨V_3, hV_3⟩ : ∃ z : vT, z = u2 V_L 0 5 (bI (fd || decide (fp = 1))) := ⟨_, rfl⟩
          rw [← hV_3] at hw
          refine lv_iload_n hx hb dX2_awaitWrites_80 rfl (lv_at hl 0 rfl) ?_
          refine lv_if_ne (tgt := 88) hx hb dX2_awaitWrites_81 (by decide) (fun c_81 => ?_) (fun c_81 => ?_)
          · refine lv_iconst (v := nI 0) hx hb dX2_awaitWrites_88 (by decide) ?_
            refine n_is (show nI 0 = bI (!decide (fp = 1)) from by rw [bI_n0.mp c_81]; rfl) ?_
            exact w_zret hx hb hr hlocks hw (bI_nar _) (⟨rfl, by rw [hV_3, u2_n _ _ (Or.inr (by decide)), h0, hf, e3], by rw [hV_3, u2_s], fun j h5 h8 => by rw [hV_3, u2_n _ _ (Or.inr (by omega)), h0], fun a h1 h2 => by rw [hV_3, u2_r _ _ (by omega)]; exact hin.1 a h2, fun d hd => ⟨by rw [hV_3, u2_r _ _ (by omega)]; exact (hin.2 d hd).1, fun i hi => by rw [← (hin.2 d hd).2 i hi]; exact dc_u2 (by omega) (by omega) (by omega) (fun a ha => by rw [hV_3, u2_r _ _ ha])⟩⟩) dX2_awaitWrites_89
          · refine lv_iconst (v := nI 1) hx hb dX2_awaitWrites_84 (by decide) ?_
            refine lv_goto (tgt := 89) hx hb dX2_awaitWrites_85 (by decide) ?_
            refine n_is (show nI 1 = bI (!decide (fp = 1)) from by rw [bI_0.mp c_81]; rfl) ?_
            exact w_zret hx hb hr hlocks hw (bI_nar _) (⟨rfl, by rw [hV_3, u2_n _ _ (Or.inr (by decide)), h0, hf, e3], by rw [hV_3, u2_s], fun j h5 h8 => by rw [hV_3, u2_n _ _ (Or.inr (by omega)), h0], fun a h1 h2 => by rw [hV_3, u2_r _ _ (by omega)]; exact hin.1 a h2, fun d hd => ⟨by rw [hV_3, u2_r _ _ (by omega)]; exact (hin.2 d hd).1, fun i hi => by rw [← (hin.2 d hd).2 i hi]; exact dc_u2 (by omega) (by omega) (by omega) (fun a ha => by rw [hV_3, u2_r _ _ ha])⟩⟩) dX2_awaitWrites_89
    · have e3 : 0 < fp := Nat.pos_of_ne_zero (fun q => c_47 (by rw [q]; decide))
      refine lv_aload_n hx hb dX2_awaitWrites_50 rfl (lv_at hl 1 rfl) ?_
      refine lv_dup hx hb dX2_awaitWrites_51 rfl ?_
      refine w_get (ci := 2) (C := RX2) (T := TX2) (M := 10) (v := .int (nI fp)) hx hb hts hi2 hown hK hw 0 (by omega) _ (cF_0 _) rfl 8 (by decide) (hts (.fieldLink RX2 54 "WideningArray" "failPoint" "I") (by decide +kernel)) (congrArg (fun z => some (Value.int z)) (show V_L 0 8 = nI fp from by rw [h0]; exact hf)) dX2_awaitWrites_52 ?_
      refine lv_iconst (v := nI 1) hx hb dX2_awaitWrites_55 (by decide) ?_
      refine n_sub hx hb dX2_awaitWrites_56 (by omega) ?_
      refine w_put (ci := 2) (C := RX2) (T := TX2) (M := 10) (x := nI (fp - 1)) (ty := .int) hx hb hts hi2 tyX2 tyX2_ok nmX2 hown hK hw 0 (by omega) _ (cF_0 _) rfl 8 (by decide) (hts (.fieldLink RX2 54 "WideningArray" "failPoint" "I") (by decide +kernel)) rfl (by decide +kernel) rfl rfl (Nat.le_of_ble_eq_true rfl) (cF_0 _) dX2_awaitWrites_57 (fun H locs hw => ?_)
      obtain ⟨V_4, hV_4⟩ : ∃ z : vT, z = u2 V_L 0 8 (nI (fp - 1)) := ⟨_, rfl⟩
      rw [← hV_4] at hw
      refine lv_aload_n hx hb dX2_awaitWrites_60 rfl (lv_at hl 1 rfl) ?_
      refine lv_aload_n hx hb dX2_awaitWrites_61 rfl (lv_at hl 1 rfl) ?_
      refine w_get (ci := 2) (C := RX2) (T := TX2) (M := 10) (v := .int (bI fd)) hx hb hts hi2 hown hK hw 0 (by omega) _ (cF_0 _) rfl 5 (by decide) (hts (.fieldLink RX2 51 "WideningArray" "failed" "Z") (by decide +kernel)) (congrArg (fun z => some (Value.int z)) (show V_4 0 5 = bI fd from by rw [hV_4, u2_n _ _ (Or.inr (by decide)), h0]; exact hfd)) dX2_awaitWrites_62 ?_
      refine lv_if_ne (tgt := 72) hx hb dX2_awaitWrites_65 (by decide) (fun c_65 => ?_) (fun c_65 => ?_)
      · refine lv_iconst (v := nI 1) hx hb dX2_awaitWrites_72 (by decide) ?_
        refine lv_goto (tgt := 77) hx hb dX2_awaitWrites_73 (by decide) ?_
        refine n_is (show nI 1 = bI (fd || decide (fp = 1)) from by first | (rw [bI_n0.mp c_65]; rfl) | (rw [bI_0.mp c_65, bI_n0.mp c_69]; rfl)) ?_
        refine w_put (ci := 2) (C := RX2) (T := TX2) (M := 10) (x := bI (fd || decide (fp = 1))) (ty := .boolean) hx hb hts hi2 tyX2 tyX2_ok nmX2 hown hK hw 0 (by omega) _ (cF_0 _) rfl 5 (by decide) (hts (.fieldLink RX2 51 "WideningArray" "failed" "Z") (by decide +kernel)) rfl (by decide +kernel) (bI_nar _) (bI_fit _) (Nat.le_of_ble_eq_true rfl) (cF_0 _) dX2_awaitWrites_77 (fun H locs hw => ?_)
        obtain ⟨V_5, hV_5⟩ : ∃ z : vT, z = u2 V_4 0 5 (bI (fd || decide (fp = 1))) := ⟨_, rfl⟩
        rw [← hV_5] at hw
        refine lv_iload_n hx hb dX2_awaitWrites_80 rfl (lv_at hl 0 rfl) ?_
        refine lv_if_ne (tgt := 88) hx hb dX2_awaitWrites_81 (by decide) (fun c_81 => ?_) (fun c_81 => ?_)
        · refine lv_iconst (v := nI 0) hx hb dX2_awaitWrites_88 (by decide) ?_
          refine n_is (show nI 0 = bI (!decide (fp = 1)) from by rw [bI_n0.mp c_81]; rfl) ?_
          exact w_zret hx hb hr hlocks hw (bI_nar _) (⟨rfl, by rw [hV_5, u2_n _ _ (Or.inr (by decide)), hV_4, u2_s], by rw [hV_5, u2_s], fun j h5 h8 => by rw [hV_5, u2_n _ _ (Or.inr (by omega)), hV_4, u2_n _ _ (Or.inr (by omega)), h0], fun a h1 h2 => by rw [hV_5, u2_r _ _ (by omega), hV_4, u2_r _ _ (by omega)]; exact hin.1 a h2, fun d hd => ⟨by rw [hV_5, u2_r _ _ (by omega), hV_4, u2_r _ _ (by omega)]; exact (hin.2 d hd).1, fun i hi => by rw [← (hin.2 d hd).2 i hi]; exact dc_u2 (by omega) (by omega) (by omega) (fun a ha => by rw [hV_5, u2_r _ _ ha, hV_4, u2_r _ _ ha])⟩⟩) dX2_awaitWrites_89
        · refine lv_iconst (v := nI 1) hx hb dX2_awaitWrites_84 (by decide) ?_
          refine lv_goto (tgt := 89) hx hb dX2_awaitWrites_85 (by decide) ?_
          refine n_is (show nI 1 = bI (!decide (fp = 1)) from by rw [bI_0.mp c_81]; rfl) ?_
          exact w_zret hx hb hr hlocks hw (bI_nar _) (⟨rfl, by rw [hV_5, u2_n _ _ (Or.inr (by decide)), hV_4, u2_s], by rw [hV_5, u2_s], fun j h5 h8 => by rw [hV_5, u2_n _ _ (Or.inr (by omega)), hV_4, u2_n _ _ (Or.inr (by omega)), h0], fun a h1 h2 => by rw [hV_5, u2_r _ _ (by omega), hV_4, u2_r _ _ (by omega)]; exact hin.1 a h2, fun d hd => ⟨by rw [hV_5, u2_r _ _ (by omega), hV_4, u2_r _ _ (by omega)]; exact (hin.2 d hd).1, fun i hi => by rw [← (hin.2 d hd).2 i hi]; exact dc_u2 (by omega) (by omega) (by omega) (fun a ha => by rw [hV_5, u2_r _ _ ha, hV_4, u2_r _ _ ha])⟩⟩) dX2_awaitWrites_89
      · refine lv_iload_n hx hb dX2_awaitWrites_68 rfl (lv_at hl 0 rfl) ?_
        refine lv_if_eq (tgt := 76) hx hb dX2_awaitWrites_69 (by decide) (fun c_69 => ?_) (fun c_69 => ?_)
        · refine lv_iconst (v := nI 0) hx hb dX2_awaitWrites_76 (by decide) ?_
          refine n_is (show nI 0 = bI (fd || decide (fp = 1)) from by first | (rw [bI_n0.mp c_65]; rfl) | (rw [bI_0.mp c_65, bI_0.mp c_69]; rfl)) ?_
          refine w_put (ci := 2) (C := RX2) (T := TX2) (M := 10) (x := bI (fd || decide (fp = 1))) (ty := .boolean) hx hb hts hi2 tyX2 tyX2_ok nmX2 hown hK hw 0 (by omega) _ (cF_0 _) rfl 5 (by decide) (hts (.fieldLink RX2 51 "WideningArray" "failed" "Z") (by decide +kernel)) rfl (by decide +kernel) (bI_nar _) (bI_fit _) (Nat.le_of_ble_eq_true rfl) (cF_0 _) dX2_awaitWrites_77 (fun H locs hw => ?_)
          obtain ⟨V_6, hV_6⟩ : ∃ z : vT, z = u2 V_4 0 5 (bI (fd || decide (fp = 1))) := ⟨_, rfl⟩
          rw [← hV_6] at hw
          refine lv_iload_n hx hb dX2_awaitWrites_80 rfl (lv_at hl 0 rfl) ?_
          refine lv_if_ne (tgt := 88) hx hb dX2_awaitWrites_81 (by decide) (fun c_81 => ?_) (fun c_81 => ?_)
          · refine lv_iconst (v := nI 0) hx hb dX2_awaitWrites_88 (by decide) ?_
            refine n_is (show nI 0 = bI (!decide (fp = 1)) from by rw [bI_n0.mp c_81]; rfl) ?_
            exact w_zret hx hb hr hlocks hw (bI_nar _) (⟨rfl, by rw [hV_6, u2_n _ _ (Or.inr (by decide)), hV_4, u2_s], by rw [hV_6, u2_s], fun j h5 h8 => by rw [hV_6, u2_n _ _ (Or.inr (by omega)), hV_4, u2_n _ _ (Or.inr (by omega)), h0], fun a h1 h2 => by rw [hV_6, u2_r _ _ (by omega), hV_4, u2_r _ _ (by omega)]; exact hin.1 a h2, fun d hd => ⟨by rw [hV_6, u2_r _ _ (by omega), hV_4, u2_r _ _ (by omega)]; exact (hin.2 d hd).1, fun i hi => by rw [← (hin.2 d hd).2 i hi]; exact dc_u2 (by omega) (by omega) (by omega) (fun a ha => by rw [hV_6, u2_r _ _ ha, hV_4, u2_r _ _ ha])⟩⟩) dX2_awaitWrites_89
          · refine lv_iconst (v := nI 1) hx hb dX2_awaitWrites_84 (by decide) ?_
            refine lv_goto (tgt := 89) hx hb dX2_awaitWrites_85 (by decide) ?_
            refine n_is (show nI 1 = bI (!decide (fp = 1)) from by rw [bI_0.mp c_81]; rfl) ?_
            exact w_zret hx hb hr hlocks hw (bI_nar _) (⟨rfl, by rw [hV_6, u2_n _ _ (Or.inr (by decide)), hV_4, u2_s], by rw [hV_6, u2_s], fun j h5 h8 => by rw [hV_6, u2_n _ _ (Or.inr (by omega)), hV_4, u2_n _ _ (Or.inr (by omega)), h0], fun a h1 h2 => by rw [hV_6, u2_r _ _ (by omega), hV_4, u2_r _ _ (by omega)]; exact hin.1 a h2, fun d hd => ⟨by rw [hV_6, u2_r _ _ (by omega), hV_4, u2_r _ _ (by omega)]; exact (hin.2 d hd).1, fun i hi => by rw [← (hin.2 d hd).2 i hi]; exact dc_u2 (by omega) (by omega) (by omega) (fun a ha => by rw [hV_6, u2_r _ _ ha, hV_4, u2_r _ _ ha])⟩⟩) dX2_awaitWrites_89
        · refine lv_iconst (v := nI 1) hx hb dX2_awaitWrites_72 (by decide) ?_
          refine lv_goto (tgt := 77) hx hb dX2_awaitWrites_73 (by decide) ?_
          refine n_is (show nI 1 = bI (fd || decide (fp = 1)) from by first | (rw [bI_n0.mp c_65]; rfl) | (rw [bI_0.mp c_65, bI_n0.mp c_69]; rfl)) ?_
          refine w_put (ci := 2) (C := RX2) (T := TX2) (M := 10) (x := bI (fd || decide (fp = 1))) (ty := .boolean) hx hb hts hi2 tyX2 tyX2_ok nmX2 hown hK hw 0 (by omega) _ (cF_0 _) rfl 5 (by decide) (hts (.fieldLink RX2 51 "WideningArray" "failed" "Z") (by decide +kernel)) rfl (by decide +kernel) (bI_nar _) (bI_fit _) (Nat.le_of_ble_eq_true rfl) (cF_0 _) dX2_awaitWrites_77 (fun H locs hw => ?_)
          obtain ⟨V_7, hV_7⟩ : ∃ z : vT, z = u2 V_4 0 5 (bI (fd || decide (fp = 1))) := ⟨_, rfl⟩
          rw [← hV_7] at hw
          refine lv_iload_n hx hb dX2_awaitWrites_80 rfl (lv_at hl 0 rfl) ?_
          refine lv_if_ne (tgt := 88) hx hb dX2_awaitWrites_81 (by decide) (fun c_81 => ?_) (fun c_81 => ?_)
          · refine lv_iconst (v := nI 0) hx hb dX2_awaitWrites_88 (by decide) ?_
            refine n_is (show nI 0 = bI (!decide (fp = 1)) from by rw [bI_n0.mp c_81]; rfl) ?_
            exact w_zret hx hb hr hlocks hw (bI_nar _) (⟨rfl, by rw [hV_7, u2_n _ _ (Or.inr (by decide)), hV_4, u2_s], by rw [hV_7, u2_s], fun j h5 h8 => by rw [hV_7, u2_n _ _ (Or.inr (by omega)), hV_4, u2_n _ _ (Or.inr (by omega)), h0], fun a h1 h2 => by rw [hV_7, u2_r _ _ (by omega), hV_4, u2_r _ _ (by omega)]; exact hin.1 a h2, fun d hd => ⟨by rw [hV_7, u2_r _ _ (by omega), hV_4, u2_r _ _ (by omega)]; exact (hin.2 d hd).1, fun i hi => by rw [← (hin.2 d hd).2 i hi]; exact dc_u2 (by omega) (by omega) (by omega) (fun a ha => by rw [hV_7, u2_r _ _ ha, hV_4, u2_r _ _ ha])⟩⟩) dX2_awaitWrites_89
          · refine lv_iconst (v := nI 1) hx hb dX2_awaitWrites_84 (by decide) ?_
            refine lv_goto (tgt := 89) hx hb dX2_awaitWrites_85 (by decide) ?_
            refine n_is (show nI 1 = bI (!decide (fp = 1)) from by rw [bI_0.mp c_81]; rfl) ?_
            exact w_zret hx hb hr hlocks hw (bI_nar _) (⟨rfl, by rw [hV_7, u2_n _ _ (Or.inr (by decide)), hV_4, u2_s], by rw [hV_7, u2_s], fun j h5 h8 => by rw [hV_7, u2_n _ _ (Or.inr (by omega)), hV_4, u2_n _ _ (Or.inr (by omega)), h0], fun a h1 h2 => by rw [hV_7, u2_r _ _ (by omega), hV_4, u2_r _ _ (by omega)]; exact hin.1 a h2, fun d hd => ⟨by rw [hV_7, u2_r _ _ (by omega), hV_4, u2_r _ _ (by omega)]; exact (hin.2 d hd).1, fun i hi => by rw [← (hin.2 d hd).2 i hi]; exact dc_u2 (by omega) (by omega) (by omega) (fun a ha => by rw [hV_7, u2_r _ _ ha, hV_4, u2_r _ _ ha])⟩⟩) dX2_awaitWrites_89
  · refine lv_iconst (v := nI 1) hx hb dX2_awaitWrites_8 (by decide) ?_
    refine lv_goto (tgt := 13) hx hb dX2_awaitWrites_9 (by decide) ?_
    refine n_is (show nI 1 = bI (decide (fp = 1)) from by rw [decide_eq_true c_5]; rfl) ?_
    refine lv_istore_n (lv' := [(1, .int (bI (decide (fp = 1)))), (0, .ref (ad 0))]) hx hb dX2_awaitWrites_13 rfl hl (by decide) rfl (fun ls hl => ?_)
    refine lv_iconst (v := nI 0) hx hb dX2_awaitWrites_14 (by decide) ?_
    refine lv_istore_n (lv' := [(2, .int (nI 0)), (1, .int (bI (decide (fp = 1)))), (0, .ref (ad 0))]) hx hb dX2_awaitWrites_15 rfl hl (by decide) rfl (fun ls hl => ?_)
    refine lp_X2_awaitWrites hx hb hts hown hml hK V Qf hQ (decide (fp = 1)) (fun V_L H locs ls hin hw hl => ?_) 6 0 V _ _ ls (by omega) ⟨fun _ _ => rfl, fun _ _ _ _ _ _ => rfl, fun d hd => absurd hd (by omega)⟩ hw (lv_sub hl [0, 1, 2] rfl)
    have h0 := hin.1 0 (by decide)
    refine lv_aload_n hx hb dX2_awaitWrites_43 rfl (lv_at hl 1 rfl) ?_
    refine w_get (ci := 2) (C := RX2) (T := TX2) (M := 10) (v := .int (nI fp)) hx hb hts hi2 hown hK hw 0 (by omega) _ (cF_0 _) rfl 8 (by decide) (hts (.fieldLink RX2 54 "WideningArray" "failPoint" "I") (by decide +kernel)) (congrArg (fun z => some (Value.int z)) (show V_L 0 8 = nI fp from by rw [h0]; exact hf)) dX2_awaitWrites_44 ?_
    refine lv_if_le (tgt := 60) hx hb dX2_awaitWrites_47 (by decide) (fun c_47 => ?_) (fun c_47 => ?_)
    · have e3 : fp = 0 := Nat.eq_zero_of_not_pos (fun q => nI_nle q hfp c_47)
      refine lv_aload_n hx hb dX2_awaitWrites_60 rfl (lv_at hl 1 rfl) ?_
      refine lv_aload_n hx hb dX2_awaitWrites_61 rfl (lv_at hl 1 rfl) ?_
      refine w_get (ci := 2) (C := RX2) (T := TX2) (M := 10) (v := .int (bI fd)) hx hb hts hi2 hown hK hw 0 (by omega) _ (cF_0 _) rfl 5 (by decide) (hts (.fieldLink RX2 51 "WideningArray" "failed" "Z") (by decide +kernel)) (congrArg (fun z => some (Value.int z)) (show V_L 0 5 = bI fd from by rw [h0]; exact hfd)) dX2_awaitWrites_62 ?_
      refine lv_if_ne (tgt := 72) hx hb dX2_awaitWrites_65 (by decide) (fun c_65 => ?_) (fun c_65 => ?_)
      · refine lv_iconst (v := nI 1) hx hb dX2_awaitWrites_72 (by decide) ?_
        refine lv_goto (tgt := 77) hx hb dX2_awaitWrites_73 (by decide) ?_
        refine n_is (show nI 1 = bI (fd || decide (fp = 1)) from by first | (rw [bI_n0.mp c_65]; rfl) | (rw [bI_0.mp c_65, bI_n0.mp c_69]; rfl)) ?_
        refine w_put (ci := 2) (C := RX2) (T := TX2) (M := 10) (x := bI (fd || decide (fp = 1))) (ty := .boolean) hx hb hts hi2 tyX2 tyX2_ok nmX2 hown hK hw 0 (by omega) _ (cF_0 _) rfl 5 (by decide) (hts (.fieldLink RX2 51 "WideningArray" "failed" "Z") (by decide +kernel)) rfl (by decide +kernel) (bI_nar _) (bI_fit _) (Nat.le_of_ble_eq_true rfl) (cF_0 _) dX2_awaitWrites_77 (fun H locs hw => ?_)
        obtain ⟨V_8, hV_8⟩ : ∃ z : vT, z = u2 V_L 0 5 (bI (fd || decide (fp = 1))) := ⟨_, rfl⟩
        rw [← hV_8] at hw
        refine lv_iload_n hx hb dX2_awaitWrites_80 rfl (lv_at hl 0 rfl) ?_
        refine lv_if_ne (tgt := 88) hx hb dX2_awaitWrites_81 (by decide) (fun c_81 => ?_) (fun c_81 => ?_)
        · refine lv_iconst (v := nI 0) hx hb dX2_awaitWrites_88 (by decide) ?_
          refine n_is (show nI 0 = bI (!decide (fp = 1)) from by rw [bI_n0.mp c_81]; rfl) ?_
          exact w_zret hx hb hr hlocks hw (bI_nar _) (⟨rfl, by rw [hV_8, u2_n _ _ (Or.inr (by decide)), h0, hf, e3], by rw [hV_8, u2_s], fun j h5 h8 => by rw [hV_8, u2_n _ _ (Or.inr (by omega)), h0], fun a h1 h2 => by rw [hV_8, u2_r _ _ (by omega)]; exact hin.1 a h2, fun d hd => ⟨by rw [hV_8, u2_r _ _ (by omega)]; exact (hin.2 d hd).1, fun i hi => by rw [← (hin.2 d hd).2 i hi]; exact dc_u2 (by omega) (by omega) (by omega) (fun a ha => by rw [hV_8, u2_r _ _ ha])⟩⟩) dX2_awaitWrites_89
        · refine lv_iconst (v := nI 1) hx hb dX2_awaitWrites_84 (by decide) ?_
          refine lv_goto (tgt := 89) hx hb dX2_awaitWrites_85 (by decide) ?_
          refine n_is (show nI 1 = bI (!decide (fp = 1)) from by rw [bI_0.mp c_81]; rfl) ?_
          exact w_zret hx hb hr hlocks hw (bI_nar _) (⟨rfl, by rw [hV_8, u2_n _ _ (Or.inr (by decide)), h0, hf, e3], by rw [hV_8, u2_s], fun j h5 h8 => by rw [hV_8, u2_n _ _ (Or.inr (by omega)), h0], fun a h1 h2 => by rw [hV_8, u2_r _ _ (by omega)]; exact hin.1 a h2, fun d hd => ⟨by rw [hV_8, u2_r _ _ (by omega)]; exact (hin.2 d hd).1, fun i hi => by rw [← (hin.2 d hd).2 i hi]; exact dc_u2 (by omega) (by omega) (by omega) (fun a ha => by rw [hV_8, u2_r _ _ ha])⟩⟩) dX2_awaitWrites_89
      · refine lv_iload_n hx hb dX2_awaitWrites_68 rfl (lv_at hl 0 rfl) ?_
        refine lv_if_eq (tgt := 76) hx hb dX2_awaitWrites_69 (by decide) (fun c_69 => ?_) (fun c_69 => ?_)
        · refine lv_iconst (v := nI 0) hx hb dX2_awaitWrites_76 (by decide) ?_
          refine n_is (show nI 0 = bI (fd || decide (fp = 1)) from by first | (rw [bI_n0.mp c_65]; rfl) | (rw [bI_0.mp c_65, bI_0.mp c_69]; rfl)) ?_
          refine w_put (ci := 2) (C := RX2) (T := TX2) (M := 10) (x := bI (fd || decide (fp = 1))) (ty := .boolean) hx hb hts hi2 tyX2 tyX2_ok nmX2 hown hK hw 0 (by omega) _ (cF_0 _) rfl 5 (by decide) (hts (.fieldLink RX2 51 "WideningArray" "failed" "Z") (by decide +kernel)) rfl (by decide +kernel) (bI_nar _) (bI_fit _) (Nat.le_of_ble_eq_true rfl) (cF_0 _) dX2_awaitWrites_77 (fun H locs hw => ?_)
          obtain ⟨V_9, hV_9⟩ : ∃ z : vT, z = u2 V_L 0 5 (bI (fd || decide (fp = 1))) := ⟨_, rfl⟩
          rw [← hV_9] at hw
          refine lv_iload_n hx hb dX2_awaitWrites_80 rfl (lv_at hl 0 rfl) ?_
          refine lv_if_ne (tgt := 88) hx hb dX2_awaitWrites_81 (by decide) (fun c_81 => ?_) (fun c_81 => ?_)
          · refine lv_iconst (v := nI 0) hx hb dX2_awaitWrites_88 (by decide) ?_
            refine n_is (show nI 0 = bI (!decide (fp = 1)) from by rw [bI_n0.mp c_81]; rfl) ?_
            exact w_zret hx hb hr hlocks hw (bI_nar _) (⟨rfl, by rw [hV_9, u2_n _ _ (Or.inr (by decide)), h0, hf, e3], by rw [hV_9, u2_s], fun j h5 h8 => by rw [hV_9, u2_n _ _ (Or.inr (by omega)), h0], fun a h1 h2 => by rw [hV_9, u2_r _ _ (by omega)]; exact hin.1 a h2, fun d hd => ⟨by rw [hV_9, u2_r _ _ (by omega)]; exact (hin.2 d hd).1, fun i hi => by rw [← (hin.2 d hd).2 i hi]; exact dc_u2 (by omega) (by omega) (by omega) (fun a ha => by rw [hV_9, u2_r _ _ ha])⟩⟩) dX2_awaitWrites_89
          · refine lv_iconst (v := nI 1) hx hb dX2_awaitWrites_84 (by decide) ?_
            refine lv_goto (tgt := 89) hx hb dX2_awaitWrites_85 (by decide) ?_
            refine n_is (show nI 1 = bI (!decide (fp = 1)) from by rw [bI_0.mp c_81]; rfl) ?_
            exact w_zret hx hb hr hlocks hw (bI_nar _) (⟨rfl, by rw [hV_9, u2_n _ _ (Or.inr (by decide)), h0, hf, e3], by rw [hV_9, u2_s], fun j h5 h8 => by rw [hV_9, u2_n _ _ (Or.inr (by omega)), h0], fun a h1 h2 => by rw [hV_9, u2_r _ _ (by omega)]; exact hin.1 a h2, fun d hd => ⟨by rw [hV_9, u2_r _ _ (by omega)]; exact (hin.2 d hd).1, fun i hi => by rw [← (hin.2 d hd).2 i hi]; exact dc_u2 (by omega) (by omega) (by omega) (fun a ha => by rw [hV_9, u2_r _ _ ha])⟩⟩) dX2_awaitWrites_89
        · refine lv_iconst (v := nI 1) hx hb dX2_awaitWrites_72 (by decide) ?_
          refine lv_goto (tgt := 77) hx hb dX2_awaitWrites_73 (by decide) ?_
          refine n_is (show nI 1 = bI (fd || decide (fp = 1)) from by first | (rw [bI_n0.mp c_65]; rfl) | (rw [bI_0.mp c_65, bI_n0.mp c_69]; rfl)) ?_
          refine w_put (ci := 2) (C := RX2) (T := TX2) (M := 10) (x := bI (fd || decide (fp = 1))) (ty := .boolean) hx hb hts hi2 tyX2 tyX2_ok nmX2 hown hK hw 0 (by omega) _ (cF_0 _) rfl 5 (by decide) (hts (.fieldLink RX2 51 "WideningArray" "failed" "Z") (by decide +kernel)) rfl (by decide +kernel) (bI_nar _) (bI_fit _) (Nat.le_of_ble_eq_true rfl) (cF_0 _) dX2_awaitWrites_77 (fun H locs hw => ?_)
          obtain ⟨V_10, hV_10⟩ : ∃ z : vT, z = u2 V_L 0 5 (bI (fd || decide (fp = 1))) := ⟨_, rfl⟩
          rw [← hV_10] at hw
          refine lv_iload_n hx hb dX2_awaitWrites_80 rfl (lv_at hl 0 rfl) ?_
          refine lv_if_ne (tgt := 88) hx hb dX2_awaitWrites_81 (by decide) (fun c_81 => ?_) (fun c_81 => ?_)
          · refine lv_iconst (v := nI 0) hx hb dX2_awaitWrites_88 (by decide) ?_
            refine n_is (show nI 0 = bI (!decide (fp = 1)) from by rw [bI_n0.mp c_81]; rfl) ?_
            exact w_zret hx hb hr hlocks hw (bI_nar _) (⟨rfl, by rw [hV_10, u2_n _ _ (Or.inr (by decide)), h0, hf, e3], by rw [hV_10, u2_s], fun j h5 h8 => by rw [hV_10, u2_n _ _ (Or.inr (by omega)), h0], fun a h1 h2 => by rw [hV_10, u2_r _ _ (by omega)]; exact hin.1 a h2, fun d hd => ⟨by rw [hV_10, u2_r _ _ (by omega)]; exact (hin.2 d hd).1, fun i hi => by rw [← (hin.2 d hd).2 i hi]; exact dc_u2 (by omega) (by omega) (by omega) (fun a ha => by rw [hV_10, u2_r _ _ ha])⟩⟩) dX2_awaitWrites_89
          · refine lv_iconst (v := nI 1) hx hb dX2_awaitWrites_84 (by decide) ?_
            refine lv_goto (tgt := 89) hx hb dX2_awaitWrites_85 (by decide) ?_
            refine n_is (show nI 1 = bI (!decide (fp = 1)) from by rw [bI_0.mp c_81]; rfl) ?_
            exact w_zret hx hb hr hlocks hw (bI_nar _) (⟨rfl, by rw [hV_10, u2_n _ _ (Or.inr (by decide)), h0, hf, e3], by rw [hV_10, u2_s], fun j h5 h8 => by rw [hV_10, u2_n _ _ (Or.inr (by omega)), h0], fun a h1 h2 => by rw [hV_10, u2_r _ _ (by omega)]; exact hin.1 a h2, fun d hd => ⟨by rw [hV_10, u2_r _ _ (by omega)]; exact (hin.2 d hd).1, fun i hi => by rw [← (hin.2 d hd).2 i hi]; exact dc_u2 (by omega) (by omega) (by omega) (fun a ha => by rw [hV_10, u2_r _ _ ha])⟩⟩) dX2_awaitWrites_89
    · have e3 : 0 < fp := Nat.pos_of_ne_zero (fun q => c_47 (by rw [q]; decide))
      refine lv_aload_n hx hb dX2_awaitWrites_50 rfl (lv_at hl 1 rfl) ?_
      refine lv_dup hx hb dX2_awaitWrites_51 rfl ?_
      refine w_get (ci := 2) (C := RX2) (T := TX2) (M := 10) (v := .int (nI fp)) hx hb hts hi2 hown hK hw 0 (by omega) _ (cF_0 _) rfl 8 (by decide) (hts (.fieldLink RX2 54 "WideningArray" "failPoint" "I") (by decide +kernel)) (congrArg (fun z => some (Value.int z)) (show V_L 0 8 = nI fp from by rw [h0]; exact hf)) dX2_awaitWrites_52 ?_
      refine lv_iconst (v := nI 1) hx hb dX2_awaitWrites_55 (by decide) ?_
      refine n_sub hx hb dX2_awaitWrites_56 (by omega) ?_
      refine w_put (ci := 2) (C := RX2) (T := TX2) (M := 10) (x := nI (fp - 1)) (ty := .int) hx hb hts hi2 tyX2 tyX2_ok nmX2 hown hK hw 0 (by omega) _ (cF_0 _) rfl 8 (by decide) (hts (.fieldLink RX2 54 "WideningArray" "failPoint" "I") (by decide +kernel)) rfl (by decide +kernel) rfl rfl (Nat.le_of_ble_eq_true rfl) (cF_0 _) dX2_awaitWrites_57 (fun H locs hw => ?_)
      obtain ⟨V_11, hV_11⟩ : ∃ z : vT, z = u2 V_L 0 8 (nI (fp - 1)) := ⟨_, rfl⟩
      rw [← hV_11] at hw
      refine lv_aload_n hx hb dX2_awaitWrites_60 rfl (lv_at hl 1 rfl) ?_
      refine lv_aload_n hx hb dX2_awaitWrites_61 rfl (lv_at hl 1 rfl) ?_
      refine w_get (ci := 2) (C := RX2) (T := TX2) (M := 10) (v := .int (bI fd)) hx hb hts hi2 hown hK hw 0 (by omega) _ (cF_0 _) rfl 5 (by decide) (hts (.fieldLink RX2 51 "WideningArray" "failed" "Z") (by decide +kernel)) (congrArg (fun z => some (Value.int z)) (show V_11 0 5 = bI fd from by rw [hV_11, u2_n _ _ (Or.inr (by decide)), h0]; exact hfd)) dX2_awaitWrites_62 ?_
      refine lv_if_ne (tgt := 72) hx hb dX2_awaitWrites_65 (by decide) (fun c_65 => ?_) (fun c_65 => ?_)
      · refine lv_iconst (v := nI 1) hx hb dX2_awaitWrites_72 (by decide) ?_
        refine lv_goto (tgt := 77) hx hb dX2_awaitWrites_73 (by decide) ?_
        refine n_is (show nI 1 = bI (fd || decide (fp = 1)) from by first | (rw [bI_n0.mp c_65]; rfl) | (rw [bI_0.mp c_65, bI_n0.mp c_69]; rfl)) ?_
        refine w_put (ci := 2) (C := RX2) (T := TX2) (M := 10) (x := bI (fd || decide (fp = 1))) (ty := .boolean) hx hb hts hi2 tyX2 tyX2_ok nmX2 hown hK hw 0 (by omega) _ (cF_0 _) rfl 5 (by decide) (hts (.fieldLink RX2 51 "WideningArray" "failed" "Z") (by decide +kernel)) rfl (by decide +kernel) (bI_nar _) (bI_fit _) (Nat.le_of_ble_eq_true rfl) (cF_0 _) dX2_awaitWrites_77 (fun H locs hw => ?_)
        obtain ⟨V_12, hV_12⟩ : ∃ z : vT, z = u2 V_11 0 5 (bI (fd || decide (fp = 1))) := ⟨_, rfl⟩
        rw [← hV_12] at hw
        refine lv_iload_n hx hb dX2_awaitWrites_80 rfl (lv_at hl 0 rfl) ?_
        refine lv_if_ne (tgt := 88) hx hb dX2_awaitWrites_81 (by decide) (fun c_81 => ?_) (fun c_81 => ?_)
        · refine lv_iconst (v := nI 0) hx hb dX2_awaitWrites_88 (by decide) ?_
          refine n_is (show nI 0 = bI (!decide (fp = 1)) from by rw [bI_n0.mp c_81]; rfl) ?_
          exact w_zret hx hb hr hlocks hw (bI_nar _) (⟨rfl, by rw [hV_12, u2_n _ _ (Or.inr (by decide)), hV_11, u2_s], by rw [hV_12, u2_s], fun j h5 h8 => by rw [hV_12, u2_n _ _ (Or.inr (by omega)), hV_11, u2_n _ _ (Or.inr (by omega)), h0], fun a h1 h2 => by rw [hV_12, u2_r _ _ (by omega), hV_11, u2_r _ _ (by omega)]; exact hin.1 a h2, fun d hd => ⟨by rw [hV_12, u2_r _ _ (by omega), hV_11, u2_r _ _ (by omega)]; exact (hin.2 d hd).1, fun i hi => by rw [← (hin.2 d hd).2 i hi]; exact dc_u2 (by omega) (by omega) (by omega) (fun a ha => by rw [hV_12, u2_r _ _ ha, hV_11, u2_r _ _ ha])⟩⟩) dX2_awaitWrites_89
        · refine lv_iconst (v := nI 1) hx hb dX2_awaitWrites_84 (by decide) ?_
          refine lv_goto (tgt := 89) hx hb dX2_awaitWrites_85 (by decide) ?_
          refine n_is (show nI 1 = bI (!decide (fp = 1)) from by rw [bI_0.mp c_81]; rfl) ?_
          exact w_zret hx hb hr hlocks hw (bI_nar _) (⟨rfl, by rw [hV_12, u2_n _ _ (Or.inr (by decide)), hV_11, u2_s], by rw [hV_12, u2_s], fun j h5 h8 => by rw [hV_12, u2_n _ _ (Or.inr (by omega)), hV_11, u2_n _ _ (Or.inr (by omega)), h0], fun a h1 h2 => by rw [hV_12, u2_r _ _ (by omega), hV_11, u2_r _ _ (by omega)]; exact hin.1 a h2, fun d hd => ⟨by rw [hV_12, u2_r _ _ (by omega), hV_11, u2_r _ _ (by omega)]; exact (hin.2 d hd).1, fun i hi => by rw [← (hin.2 d hd).2 i hi]; exact dc_u2 (by omega) (by omega) (by omega) (fun a ha => by rw [hV_12, u2_r _ _ ha, hV_11, u2_r _ _ ha])⟩⟩) dX2_awaitWrites_89
      · refine lv_iload_n hx hb dX2_awaitWrites_68 rfl (lv_at hl 0 rfl) ?_
        refine lv_if_eq (tgt := 76) hx hb dX2_awaitWrites_69 (by decide) (fun c_69 => ?_) (fun c_69 => ?_)
        · refine lv_iconst (v := nI 0) hx hb dX2_awaitWrites_76 (by decide) ?_
          refine n_is (show nI 0 = bI (fd || decide (fp = 1)) from by first | (rw [bI_n0.mp c_65]; rfl) | (rw [bI_0.mp c_65, bI_0.mp c_69]; rfl)) ?_
          refine w_put (ci := 2) (C := RX2) (T := TX2) (M := 10) (x := bI (fd || decide (fp = 1))) (ty := .boolean) hx hb hts hi2 tyX2 tyX2_ok nmX2 hown hK hw 0 (by omega) _ (cF_0 _) rfl 5 (by decide) (hts (.fieldLink RX2 51 "WideningArray" "failed" "Z") (by decide +kernel)) rfl (by decide +kernel) (bI_nar _) (bI_fit _) (Nat.le_of_ble_eq_true rfl) (cF_0 _) dX2_awaitWrites_77 (fun H locs hw => ?_)
          obtain ⟨V_13, hV_13⟩ : ∃ z : vT, z = u2 V_11 0 5 (bI (fd || decide (fp = 1))) := ⟨_, rfl⟩
          rw [← hV_13] at hw
          refine lv_iload_n hx hb dX2_awaitWrites_80 rfl (lv_at hl 0 rfl) ?_
          refine lv_if_ne (tgt := 88) hx hb dX2_awaitWrites_81 (by decide) (fun c_81 => ?_) (fun c_81 => ?_)
          · refine lv_iconst (v := nI 0) hx hb dX2_awaitWrites_88 (by decide) ?_
            refine n_is (show nI 0 = bI (!decide (fp = 1)) from by rw [bI_n0.mp c_81]; rfl) ?_
            exact w_zret hx hb hr hlocks hw (bI_nar _) (⟨rfl, by rw [hV_13, u2_n _ _ (Or.inr (by decide)), hV_11, u2_s], by rw [hV_13, u2_s], fun j h5 h8 => by rw [hV_13, u2_n _ _ (Or.inr (by omega)), hV_11, u2_n _ _ (Or.inr (by omega)), h0], fun a h1 h2 => by rw [hV_13, u2_r _ _ (by omega), hV_11, u2_r _ _ (by omega)]; exact hin.1 a h2, fun d hd => ⟨by rw [hV_13, u2_r _ _ (by omega), hV_11, u2_r _ _ (by omega)]; exact (hin.2 d hd).1, fun i hi => by rw [← (hin.2 d hd).2 i hi]; exact dc_u2 (by omega) (by omega) (by omega) (fun a ha => by rw [hV_13, u2_r _ _ ha, hV_11, u2_r _ _ ha])⟩⟩) dX2_awaitWrites_89
          · refine lv_iconst (v := nI 1) hx hb dX2_awaitWrites_84 (by decide) ?_
            refine lv_goto (tgt := 89) hx hb dX2_awaitWrites_85 (by decide) ?_
            refine n_is (show nI 1 = bI (!decide (fp = 1)) from by rw [bI_0.mp c_81]; rfl) ?_
            exact w_zret hx hb hr hlocks hw (bI_nar _) (⟨rfl, by rw [hV_13, u2_n _ _ (Or.inr (by decide)), hV_11, u2_s], by rw [hV_13, u2_s], fun j h5 h8 => by rw [hV_13, u2_n _ _ (Or.inr (by omega)), hV_11, u2_n _ _ (Or.inr (by omega)), h0], fun a h1 h2 => by rw [hV_13, u2_r _ _ (by omega), hV_11, u2_r _ _ (by omega)]; exact hin.1 a h2, fun d hd => ⟨by rw [hV_13, u2_r _ _ (by omega), hV_11, u2_r _ _ (by omega)]; exact (hin.2 d hd).1, fun i hi => by rw [← (hin.2 d hd).2 i hi]; exact dc_u2 (by omega) (by omega) (by omega) (fun a ha => by rw [hV_13, u2_r _ _ ha, hV_11, u2_r _ _ ha])⟩⟩) dX2_awaitWrites_89
        · refine lv_iconst (v := nI 1) hx hb dX2_awaitWrites_72 (by decide) ?_
          refine lv_goto (tgt := 77) hx hb dX2_awaitWrites_73 (by decide) ?_
          refine n_is (show nI 1 = bI (fd || decide (fp = 1)) from by first | (rw [bI_n0.mp c_65]; rfl) | (rw [bI_0.mp c_65, bI_n0.mp c_69]; rfl)) ?_
          refine w_put (ci := 2) (C := RX2) (T := TX2) (M := 10) (x := bI (fd || decide (fp = 1))) (ty := .boolean) hx hb hts hi2 tyX2 tyX2_ok nmX2 hown hK hw 0 (by omega) _ (cF_0 _) rfl 5 (by decide) (hts (.fieldLink RX2 51 "WideningArray" "failed" "Z") (by decide +kernel)) rfl (by decide +kernel) (bI_nar _) (bI_fit _) (Nat.le_of_ble_eq_true rfl) (cF_0 _) dX2_awaitWrites_77 (fun H locs hw => ?_)
          obtain ⟨V_14, hV_14⟩ : ∃ z : vT, z = u2 V_11 0 5 (bI (fd || decide (fp = 1))) := ⟨_, rfl⟩
          rw [← hV_14] at hw
          refine lv_iload_n hx hb dX2_awaitWrites_80 rfl (lv_at hl 0 rfl) ?_
          refine lv_if_ne (tgt := 88) hx hb dX2_awaitWrites_81 (by decide) (fun c_81 => ?_) (fun c_81 => ?_)
          · refine lv_iconst (v := nI 0) hx hb dX2_awaitWrites_88 (by decide) ?_
            refine n_is (show nI 0 = bI (!decide (fp = 1)) from by rw [bI_n0.mp c_81]; rfl) ?_
            exact w_zret hx hb hr hlocks hw (bI_nar _) (⟨rfl, by rw [hV_14, u2_n _ _ (Or.inr (by decide)), hV_11, u2_s], by rw [hV_14, u2_s], fun j h5 h8 => by rw [hV_14, u2_n _ _ (Or.inr (by omega)), hV_11, u2_n _ _ (Or.inr (by omega)), h0], fun a h1 h2 => by rw [hV_14, u2_r _ _ (by omega), hV_11, u2_r _ _ (by omega)]; exact hin.1 a h2, fun d hd => ⟨by rw [hV_14, u2_r _ _ (by omega), hV_11, u2_r _ _ (by omega)]; exact (hin.2 d hd).1, fun i hi => by rw [← (hin.2 d hd).2 i hi]; exact dc_u2 (by omega) (by omega) (by omega) (fun a ha => by rw [hV_14, u2_r _ _ ha, hV_11, u2_r _ _ ha])⟩⟩) dX2_awaitWrites_89
          · refine lv_iconst (v := nI 1) hx hb dX2_awaitWrites_84 (by decide) ?_
            refine lv_goto (tgt := 89) hx hb dX2_awaitWrites_85 (by decide) ?_
            refine n_is (show nI 1 = bI (!decide (fp = 1)) from by rw [bI_0.mp c_81]; rfl) ?_
            exact w_zret hx hb hr hlocks hw (bI_nar _) (⟨rfl, by rw [hV_14, u2_n _ _ (Or.inr (by decide)), hV_11, u2_s], by rw [hV_14, u2_s], fun j h5 h8 => by rw [hV_14, u2_n _ _ (Or.inr (by omega)), hV_11, u2_n _ _ (Or.inr (by omega)), h0], fun a h1 h2 => by rw [hV_14, u2_r _ _ (by omega), hV_11, u2_r _ _ (by omega)]; exact hin.1 a h2, fun d hd => ⟨by rw [hV_14, u2_r _ _ (by omega), hV_11, u2_r _ _ (by omega)]; exact (hin.2 d hd).1, fun i hi => by rw [← (hin.2 d hd).2 i hi]; exact dc_u2 (by omega) (by omega) (by omega) (fun a ha => by rw [hV_14, u2_r _ _ ha, hV_11, u2_r _ _ ha])⟩⟩) dX2_awaitWrites_89
