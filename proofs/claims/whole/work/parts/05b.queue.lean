set_option maxHeartbeats 4000000 in
set_option maxRecDepth 100000 in
theorem c_X2_writesDone (l : Launch) (D : va_G) (cI cD : ClassId) (ad : Nat → Nat) (sz : Nat) (V : vT) (d : Nat) (hd6 : d < 6) (fl : Bool) (q : Nat) (hq : V (5 + 7 * d) 3 = nI q) (hq8 : q ≤ 8) : Met l yX2_writesDone wsX2_writesDone ({ frames := 1, cells := 0, slots := 0, locals := 20 }) (gP D cI cD 47 ad (cF cI cD ad) sz V [.ref (ad 0), .int (nI d), .int (bI fl)]) (va_Qi (fun (r : Int32) (V1 : vT) => V = V1 ∧ nI (wdn (ab (V 0 6) (V 0 7)) fl (V 0 9) d q) = r) (gB D 47 ad (cF cI cD ad)) (gA 47 ad sz)) 0 0 (gA 47 ad sz) := by
  refine w_met (cc := cX2_writesDone) (maxL := 4) (ret := (some .int)) (by decide) rfl (Nat.le_of_ble_eq_true rfl) ?_
  intro p e s m below meth c hx hb hr hts hown hlocks hml hsz hK hw ls hl
  subst hsz
  have hown : s.vm.findClass RX2 = some m.cls := hown
  have hi0 : ∀ w ∈ wsX00, w ∈ wsX2_writesDone := by decide +kernel
  have hi2 : ∀ w ∈ wsX20, w ∈ wsX2_writesDone := by decide +kernel
  have hl : lv_has ls 4 [(0, .ref (ad 0)), (1, .int (nI d)), (2, .int (bI fl))] := hl
  refine lv_iload_n hx hb dX2_writesDone_0 rfl (lv_at hl 1 rfl) ?_
  refine lv_aload_n hx hb dX2_writesDone_1 rfl (lv_at hl 0 rfl) ?_
  refine w_calli hw (va_runV (As := []) (rest := [.int (nI d)]) ⟨hx, hb, hml, hown, hts⟩ (c_X2_absentDisk l D cI cD ad _ V) (cwV 0 hts gX2_writesDone_X2_absentDisk rfl rfl rfl (by decide +kernel) ⟨Nat.le_of_ble_eq_true rfl, Nat.le_of_ble_eq_true rfl⟩) (w_preV hK hw (by omega) (cF_0 _) rfl _) rfl rfl hl.1 rfl (lv_room (Nat.le_of_ble_eq_true rfl)) dX2_writesDone_2 ⟨Nat.le_of_ble_eq_true rfl, Nat.le_of_ble_eq_true rfl⟩) (fun r_2 V_1 H locs hp hw => ?_)
  obtain ⟨e9, e8⟩ := hp
  subst e9
  subst e8
  refine lv_icmp_ne (tgt := 10) hx hb dX2_writesDone_5 (by decide) (fun c_5 => ?_) (fun c_5 => ?_)
  · refine lv_aload_n hx hb dX2_writesDone_10 rfl (lv_at hl 0 rfl) ?_
    refine w_get (ci := 2) (C := RX2) (T := TX2) (M := 10) (v := .ref (ad 1)) hx hb hts hi2 hown hK hw 0 (by omega) _ (cF_0 _) rfl 0 (by decide) (hts (.fieldLink RX2 11 "WideningArray" "disks" "[LWideningArray$Disk;") (by decide +kernel)) rfl dX2_writesDone_11 ?_
    refine lv_iload_n hx hb dX2_writesDone_14 rfl (lv_at hl 1 rfl) ?_
    refine w_aald hx hb hK hw 1 6 (by omega) (cF_1 _) (i := d) (by omega) (by decide) rfl dX2_writesDone_15 ?_
    refine w_getN (ci := 0) (C := RX0) (T := TX0) (M := 7) (v := .int (nI q)) hx hb hts hi0 hown hK hw (5 + 7 * d) (by omega) _ (cF_d0 d _) rfl 3 (by decide) (va_Nw.use rfl (hK.2 (.fieldLinkNest "WideningArray" 246 "WideningArray$Disk" "waiting" "I" "WideningArray") (by decide +kernel))) (congrArg (fun z => some (Value.int z)) (show V (5 + 7 * d) 3 = nI q from hq)) dX2_writesDone_16 ?_
    refine lv_istore_n (lv' := [(3, .int (nI q)), (0, .ref (ad 0)), (1, .int (nI d)), (2, .int (bI fl))]) hx hb dX2_writesDone_19 rfl hl (by decide) rfl (fun ls hl => ?_)
    refine lv_iload_n hx hb dX2_writesDone_20 rfl (lv_at hl 3 rfl) ?_
    refine lv_if_eq (tgt := 42) hx hb dX2_writesDone_21 (by decide) (fun c_21 => ?_) (fun c_21 => ?_)
    · have e1 := bI_0.mp c_21
      refine lv_iload_n hx hb dX2_writesDone_42 rfl (lv_at hl 0 rfl) ?_
      exact w_iret hx hb hr hlocks hw (⟨rfl, by rw [wdn, if_neg c_5, if_neg (by rw [e1]; decide)]⟩) dX2_writesDone_43
    · have e1 := bI_n0.mp c_21
      refine lv_aload_n hx hb dX2_writesDone_24 rfl (lv_at hl 1 rfl) ?_
      refine w_get (ci := 2) (C := RX2) (T := TX2) (M := 10) (v := .int (V 0 9)) hx hb hts hi2 hown hK hw 0 (by omega) _ (cF_0 _) rfl 9 (by decide) (hts (.fieldLink RX2 154 "WideningArray" "failShares" "I") (by decide +kernel)) rfl dX2_writesDone_25 ?_
      refine lv_iconst (v := nI 4) hx hb dX2_writesDone_28 (by decide) ?_
      refine lv_iload_n hx hb dX2_writesDone_29 rfl (lv_at hl 2 rfl) ?_
      refine n_mul hx hb dX2_writesDone_30 ?_
      refine lv_ishr hx hb dX2_writesDone_31 ?_
      refine lv_bipush (v := nI 15) hx hb dX2_writesDone_32 (by decide) ?_
      refine lv_iand hx hb dX2_writesDone_34 ?_
      refine n_is (show ((V 0 9) >>> ((nI (4 * d)) &&& 31)) &&& (nI 15) = nI (sh4 (V 0 9) d) from pk_and _ 4 (by decide)) ?_
      have hs4 := sh4_lt (V 0 9) d
      refine lv_iload_n hx hb dX2_writesDone_35 rfl (lv_at hl 0 rfl) ?_
      refine lv_iconst (v := nI 1) hx hb dX2_writesDone_36 (by decide) ?_
      refine n_add hx hb dX2_writesDone_37 ?_
      refine n_rem hx hb dX2_writesDone_38 (by omega) (by omega) (by omega) ?_
      refine lv_goto (tgt := 43) hx hb dX2_writesDone_39 (by decide) ?_
      exact w_iret hx hb hr hlocks hw (⟨rfl, by rw [wdn, if_neg c_5, if_pos e1]⟩) dX2_writesDone_43
  · refine lv_iconst (v := nI 0) hx hb dX2_writesDone_8 (by decide) ?_
    exact w_iret hx hb hr hlocks hw (⟨rfl, by rw [wdn, if_pos c_5]⟩) dX2_writesDone_9
set_option maxHeartbeats 4000000 in
set_option maxRecDepth 100000 in
theorem lp_X0_doFirst {p : Program} {l : Launch} {e : Env} {s : State} {m : MethodId} {args : Array Value} {below : List Frame} {meth : Method} {c : Code} {Q : State → Prop} {D : va_G} {cI cD : ClassId} {ad : Nat → Nat} (hx : p.tables.exec = Jvm.exec) (hb : c.code = cX0_doFirst) (hts : ∀ w ∈ wsX0_doFirst, w.before args s = true) (hown : s.vm.findClass RX0 = some m.cls) (hml : c.maxLocals = 4) (hK : kK D cI cD s) (d : Nat) (hd : d < 6) (V0 : vT) (L : List Wr) (hQ : cQd V0 d L) (mm : Nat) (hmm : mm ≤ L.length) (hk : ∀ (V1 : vT) (H1 : Heap) (locs1 : List Loc) (ls : Array Slot), ((∀ a, a ≠ 6 + 7 * d → a ≠ 7 + 7 * d → a ≠ 8 + 7 * d → V1 a = V0 a) ∧ ∀ i, i < 170 → dc V1 d i = apL (L.take mm) (dc V0 d) i) → wS D 47 ad (cF cI cD ad) s.heap V1 H1 locs1 → lv_has ls 4 [(0, .ref (ad (5 + 7 * d)))] → W p l e ({ frames := 2, cells := 0, slots := 0, locals := 42 }) s m args below meth c H1 locs1 0 0 Q (F0 m 62 ls [])) : ∀ (n j : Nat) (V : vT) (H : Heap) (locs : List Loc) (ls : Array Slot), (j + n = mm) → ((∀ a, a ≠ 6 + 7 * d → a ≠ 7 + 7 * d → a ≠ 8 + 7 * d → V a = V0 a) ∧ ∀ i, i < 170 → dc V d i = apL (L.take j) (dc V0 d) i) → wS D 47 ad (cF cI cD ad) s.heap V H locs → lv_has ls 4 [(2, .int (nI j)), (0, .ref (ad (5 + 7 * d))), (1, .int (nI mm))] → W p l e ({ frames := 2, cells := 0, slots := 0, locals := 42 }) s m args below meth c H locs 0 0 Q (F0 m 2 ls []) := by
  have hi0 : ∀ w ∈ wsX00, w ∈ wsX0_doFirst := by decide +kernel
  have hL8 := hQ.2.1
  intro n
  induction n with
  | zero =>
    intro j V H locs ls hjn hin hw hl
    refine lv_iload_n hx hb dX0_doFirst_2 rfl (lv_at hl 0 rfl) ?_
    refine lv_iload_n hx hb dX0_doFirst_3 rfl (lv_at hl 2 rfl) ?_
    refine n_icmp_ge (tgt := 62) hx hb dX0_doFirst_4 (by decide) (by omega) (by omega) (fun c_4 => ?_) (fun c_4 => ?_)
    · have e1 : j = mm := by omega
      subst e1
      exact hk V H locs ls hin hw (lv_sub hl [1] rfl)
    · exfalso
      omega
  | succ n ih =>
    intro j V H locs ls hjn hin hw hl
    refine lv_iload_n hx hb dX0_doFirst_2 rfl (lv_at hl 0 rfl) ?_
    refine lv_iload_n hx hb dX0_doFirst_3 rfl (lv_at hl 2 rfl) ?_
    refine n_icmp_ge (tgt := 62) hx hb dX0_doFirst_4 (by decide) (by omega) (by omega) (fun c_4 => ?_) (fun c_4 => ?_)
    · exfalso
      omega
    · refine lv_iload_n hx hb dX0_doFirst_7 rfl (lv_at hl 0 rfl) ?_
      refine lv_aload_n hx hb dX0_doFirst_8 rfl (lv_at hl 1 rfl) ?_
      refine w_get (ci := 0) (C := RX0) (T := TX0) (M := 7) (v := .int (nI L.length)) hx hb hts hi0 hown hK hw (5 + 7 * d) (by omega) _ (cF_d0 d _) rfl 3 (by decide) (hts (.fieldLink RX0 43 "WideningArray$Disk" "waiting" "I") (by decide +kernel)) (congrArg (fun z => some (Value.int z)) (show V (5 + 7 * d) 3 = nI L.length from by rw [hin.1 _ (by omega) (by omega) (by omega)]; exact hQ.1)) dX0_doFirst_9 ?_
      refine n_icmp_ge (tgt := 62) hx hb dX0_doFirst_12 (by decide) (by omega) (by omega) (fun c_12 => ?_) (fun c_12 => ?_)
      · exfalso
        omega
      · have hjl : j < L.length := by omega
        obtain ⟨x9, hx9⟩ : ∃ x, L[j]? = some x := ⟨_, List.getElem?_eq_getElem hjl⟩
        have hq9 := hQ.2.2 j x9 hx9
        have hs9 := apL_succ hx9 (dc V0 d)
        have hL8 := hQ.2.1
        obtain ⟨_ | r9, b9⟩ := x9
        · simp only [qAt] at hq9
          refine lv_aload_n hx hb dX0_doFirst_15 rfl (lv_at hl 1 rfl) ?_
          refine w_get (ci := 0) (C := RX0) (T := TX0) (M := 7) (v := .ref (ad (9 + 7 * d))) hx hb hts hi0 hown hK hw (5 + 7 * d) (by omega) _ (cF_d0 d _) rfl 4 (by decide) (hts (.fieldLink RX0 25 "WideningArray$Disk" "waitingRows" "[I") (by decide +kernel)) rfl dX0_doFirst_16 ?_
          refine lv_iload_n hx hb dX0_doFirst_19 rfl (lv_at hl 0 rfl) ?_
          refine w_iald hx hb hK hw (9 + 7 * d) 8 (by omega) (cF_d4 d) (i := j) (by omega) (by decide) dX0_doFirst_20 ?_
          refine n_is (show V (9 + 7 * d) j = (-1) from by rw [hin.1 _ (by omega) (by omega) (by omega)]; exact hq9.1) ?_
          refine lv_istore_n (lv' := [(3, .int (-1)), (2, .int (nI j)), (0, .ref (ad (5 + 7 * d))), (1, .int (nI mm))]) hx hb dX0_doFirst_21 rfl hl (by decide) rfl (fun ls hl => ?_)
          refine lv_iload_n hx hb dX0_doFirst_22 rfl (lv_at hl 0 rfl) ?_
          refine lv_iconst (v := (-1)) hx hb dX0_doFirst_23 (by decide) ?_
          refine lv_icmp_ne (tgt := 38) hx hb dX0_doFirst_24 (by decide) (fun c_24 => ?_) (fun c_24 => ?_)
          · exact absurd rfl c_24
          · refine lv_aload_n hx hb dX0_doFirst_27 rfl (lv_at hl 2 rfl) ?_
            refine lv_aload_n hx hb dX0_doFirst_28 rfl (lv_at hl 2 rfl) ?_
            refine w_get (ci := 0) (C := RX0) (T := TX0) (M := 7) (v := .ref (ad (11 + 7 * d))) hx hb hts hi0 hown hK hw (5 + 7 * d) (by omega) _ (cF_d0 d _) rfl 6 (by decide) (hts (.fieldLink RX0 31 "WideningArray$Disk" "waitingMarks" "LWideningArray$Marks;") (by decide +kernel)) rfl dX0_doFirst_29 ?_
            refine w_callv hw (va_runV (As := [.ref (ad (11 + 7 * d))]) (rest := []) ⟨hx, hb, hml, hown, hts⟩ (c_X0_setMarks l D cI cD ad _ V d (by omega) (11 + 7 * d) (by omega) (cF_d6 d) (by rw [hin.1 _ (by omega) (by omega) (by omega), hq9.2.1 2 (by decide)]; exact hq9.2.2.1) (by rw [hin.1 _ (by omega) (by omega) (by omega), hq9.2.1 4 (by decide)]; exact hq9.2.2.2)) (cwV 1 hts gX0_doFirst_X0_setMarks rfl rfl rfl (by decide +kernel) ⟨Nat.le_of_ble_eq_true rfl, Nat.le_of_ble_eq_true rfl⟩) (w_preV hK hw (by omega) (cF_d0 d _) rfl _) rfl rfl hl.1 rfl (lv_room (Nat.le_of_ble_eq_true rfl)) dX0_doFirst_32 ⟨Nat.le_of_ble_eq_true rfl, Nat.le_of_ble_eq_true rfl⟩) (fun V_1 H locs hp hw => ?_)
            refine lv_goto (tgt := 56) hx hb dX0_doFirst_35 (by decide) ?_
            refine lv_iinc (v := nI (j + 1)) (lv' := [(2, .int (nI (j + 1))), (3, .int (-1)), (0, .ref (ad (5 + 7 * d))), (1, .int (nI mm))]) hx hb dX0_doFirst_56 hl (k := 1) rfl (nI_1 _) (by decide) rfl (fun ls hl => ?_)
            refine lv_goto (tgt := 2) hx hb dX0_doFirst_59 (by decide) ?_
            exact ih (j + 1) _ _ _ ls (by omega) ⟨fun a h1 h2 h3 => by rw [hp.1 a (by split <;> assumption)]; exact hin.1 a h1 h2 h3, fun i hi => by rw [hs9, dc_marks (k := 0) (b := b9) (fun i hi => by rw [hin.1 _ (by omega) (by omega) (by omega)]; exact hq9.2.1 i hi) hp.1 hp.2 hi]; exact apW_pt _ (hin.2 i hi)⟩ hw (lv_sub hl [0, 2, 3] rfl)
        · simp only [qAt] at hq9
          have hr40 := hq9.1
          refine lv_aload_n hx hb dX0_doFirst_15 rfl (lv_at hl 1 rfl) ?_
          refine w_get (ci := 0) (C := RX0) (T := TX0) (M := 7) (v := .ref (ad (9 + 7 * d))) hx hb hts hi0 hown hK hw (5 + 7 * d) (by omega) _ (cF_d0 d _) rfl 4 (by decide) (hts (.fieldLink RX0 25 "WideningArray$Disk" "waitingRows" "[I") (by decide +kernel)) rfl dX0_doFirst_16 ?_
          refine lv_iload_n hx hb dX0_doFirst_19 rfl (lv_at hl 0 rfl) ?_
          refine w_iald hx hb hK hw (9 + 7 * d) 8 (by omega) (cF_d4 d) (i := j) (by omega) (by decide) dX0_doFirst_20 ?_
          refine n_is (show V (9 + 7 * d) j = nI r9 from by rw [hin.1 _ (by omega) (by omega) (by omega)]; exact hq9.2.1) ?_
          refine lv_istore_n (lv' := [(3, .int (nI r9)), (2, .int (nI j)), (0, .ref (ad (5 + 7 * d))), (1, .int (nI mm))]) hx hb dX0_doFirst_21 rfl hl (by decide) rfl (fun ls hl => ?_)
          refine lv_iload_n hx hb dX0_doFirst_22 rfl (lv_at hl 0 rfl) ?_
          refine lv_iconst (v := (-1)) hx hb dX0_doFirst_23 (by decide) ?_
          refine lv_icmp_ne (tgt := 38) hx hb dX0_doFirst_24 (by decide) (fun c_24 => ?_) (fun c_24 => ?_)
          · refine lv_aload_n hx hb dX0_doFirst_38 rfl (lv_at hl 2 rfl) ?_
            refine w_get (ci := 0) (C := RX0) (T := TX0) (M := 7) (v := .ref (ad (10 + 7 * d))) hx hb hts hi0 hown hK hw (5 + 7 * d) (by omega) _ (cF_d0 d _) rfl 5 (by decide) (hts (.fieldLink RX0 28 "WideningArray$Disk" "waitingWords" "[I") (by decide +kernel)) rfl dX0_doFirst_39 ?_
            refine lv_iload_n hx hb dX0_doFirst_42 rfl (lv_at hl 1 rfl) ?_
            refine lv_iconst (v := nI 4) hx hb dX0_doFirst_43 (by decide) ?_
            refine n_mul hx hb dX0_doFirst_44 ?_
            refine lv_aload_n hx hb dX0_doFirst_45 rfl (lv_at hl 2 rfl) ?_
            refine w_get (ci := 0) (C := RX0) (T := TX0) (M := 7) (v := .ref (ad (6 + 7 * d))) hx hb hts hi0 hown hK hw (5 + 7 * d) (by omega) _ (cF_d0 d _) rfl 0 (by decide) (hts (.fieldLink RX0 9 "WideningArray$Disk" "words" "[I") (by decide +kernel)) rfl dX0_doFirst_46 ?_
            refine lv_iload_n hx hb dX0_doFirst_49 rfl (lv_at hl 0 rfl) ?_
            refine lv_iconst (v := nI 4) hx hb dX0_doFirst_50 (by decide) ?_
            refine n_mul hx hb dX0_doFirst_51 ?_
            refine lv_iconst (v := nI 4) hx hb dX0_doFirst_52 (by decide) ?_
            refine w_copyi hx hb (hml.trans hl.1.symm) hown (hts (.methodLink RX0 58 arraycopyName) (by decide +kernel)) (hts (.native arraycopyName) (by decide +kernel)) (hts (.static arraycopyName) (by decide +kernel)) (hts (.initialized "java/lang/System") (by decide +kernel)) hK hw (10 + 7 * d) (6 + 7 * d) 32 160 (by omega) (by omega) (cF_d5 d) (cF_d1 d) (sp := j * 4) (dp := r9 * 4) (n := 4) (by omega) (by omega) (by omega) (by omega) (Nat.le_of_ble_eq_true rfl) (by decide) dX0_doFirst_53 (fun H locs hw => ?_)
            obtain ⟨V_2, hV_2⟩ : ∃ z : vT, z = va_up V (6 + 7 * d) (va_cpy (V (10 + 7 * d)) (V (6 + 7 * d)) (j * 4) (r9 * 4) 4) := ⟨_, rfl⟩
            rw [← hV_2] at hw
            refine lv_iinc (v := nI (j + 1)) (lv' := [(2, .int (nI (j + 1))), (3, .int (nI r9)), (0, .ref (ad (5 + 7 * d))), (1, .int (nI mm))]) hx hb dX0_doFirst_56 hl (k := 1) rfl (nI_1 _) (by decide) rfl (fun ls hl => ?_)
            refine lv_goto (tgt := 2) hx hb dX0_doFirst_59 (by decide) ?_
            exact ih (j + 1) _ _ _ ls (by omega) ⟨fun a h1 h2 h3 => by rw [hV_2, va_up_ne _ _ h1]; exact hin.1 a h1 h2 h3, fun i hi => by rw [hs9, dc_block hV_2 hr40 (b := b9) (fun i hi => by rw [hin.1 _ (by omega) (by omega) (by omega)]; exact hq9.2.2 i hi)]; exact apW_pt _ (hin.2 i hi)⟩ hw (lv_sub hl [0, 2, 3] rfl)
          · exact absurd c_24 (nI_nm1 (by omega))
set_option maxHeartbeats 4000000 in
set_option maxRecDepth 100000 in
theorem c_X0_doFirst (l : Launch) (D : va_G) (cI cD : ClassId) (ad : Nat → Nat) (sz : Nat) (V : vT) (d : Nat) (hd : d < 6) (L : List Wr) (hQ : cQd V d L) (mm : Nat) (hmm : mm ≤ L.length) : Met l yX0_doFirst wsX0_doFirst ({ frames := 2, cells := 0, slots := 0, locals := 42 }) (gP D cI cD 47 ad (cF cI cD ad) sz V [.ref (ad (5 + 7 * d)), .int (nI mm)]) (va_Qv (fun (V1 : vT) => (∀ a, a ≠ 5 + 7 * d → a ≠ 6 + 7 * d → a ≠ 7 + 7 * d → a ≠ 8 + 7 * d → V1 a = V a) ∧ V1 (5 + 7 * d) 3 = nI 0 ∧ ∀ i, i < 170 → dc V1 d i = apL (L.take mm) (dc V d) i) (gB D 47 ad (cF cI cD ad)) (gA 47 ad sz)) 0 0 (gA 47 ad sz) := by
  refine w_met (cc := cX0_doFirst) (maxL := 4) (ret := none) (by decide) rfl (Nat.le_of_ble_eq_true rfl) ?_
  intro p e s m below meth c hx hb hr hts hown hlocks hml hsz hK hw ls hl
  subst hsz
  have hown : s.vm.findClass RX0 = some m.cls := hown
  have hi0 : ∀ w ∈ wsX00, w ∈ wsX0_doFirst := by decide +kernel
  have hl : lv_has ls 4 [(0, .ref (ad (5 + 7 * d))), (1, .int (nI mm))] := hl
  refine lv_iconst (v := nI 0) hx hb dX0_doFirst_0 (by decide) ?_
  refine lv_istore_n (lv' := [(2, .int (nI 0)), (0, .ref (ad (5 + 7 * d))), (1, .int (nI mm))]) hx hb dX0_doFirst_1 rfl hl (by decide) rfl (fun ls hl => ?_)
  refine lp_X0_doFirst hx hb hts hown hml hK d hd V L hQ mm hmm (fun V_9 H locs ls hin hw hl => ?_) mm 0 V _ _ ls (by omega) ⟨fun _ _ _ _ => rfl, fun _ _ => rfl⟩ hw (lv_sub hl [0, 1, 2] rfl)
  refine lv_aload_n hx hb dX0_doFirst_62 rfl (lv_at hl 0 rfl) ?_
  refine lv_iconst (v := nI 0) hx hb dX0_doFirst_63 (by decide) ?_
  refine w_put (ci := 0) (C := RX0) (T := TX0) (M := 7) (x := nI 0) (ty := .int) hx hb hts hi0 tyX0 tyX0_ok nmX0 hown hK hw (5 + 7 * d) (by omega) _ (cF_d0 d _) rfl 3 (by decide) (hts (.fieldLink RX0 43 "WideningArray$Disk" "waiting" "I") (by decide +kernel)) rfl (by decide +kernel) rfl rfl (Nat.le_of_ble_eq_true rfl) (cF_d0 d _) dX0_doFirst_64 (fun H locs hw => ?_)
  obtain ⟨V_1, hV_1⟩ : ∃ z : vT, z = u2 V_9 (5 + 7 * d) 3 (nI 0) := ⟨_, rfl⟩
  rw [← hV_1] at hw
  exact w_vret hx hb hr hlocks hw (⟨fun a h1 h2 h3 h4 => by rw [hV_1, u2_r _ _ h1]; exact hin.1 a h2 h3 h4, by rw [hV_1, u2_s], fun i hi => by rw [← hin.2 i hi, hV_1]; simp only [dc]; rw [u2_r _ _ (by omega), u2_r _ _ (by omega), u2_r _ _ (by omega)]⟩) dX0_doFirst_67
