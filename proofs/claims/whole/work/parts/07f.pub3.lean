set_option maxHeartbeats 4000000 in
set_option maxRecDepth 100000 in
theorem c_X2_replace (l : Launch) (hlt : l.stackTraces = false) (D : va_G) (cI cD : ClassId) (ad : Nat → Nat) (sz : Nat) (V : vT) (ct : Nat → Nat → Int32) (md fd : Bool) (n : Nat) (wide : Bool) (dn : Nat) (st : Bool) (num : Nat) (lost fresh : Int32) (fp : Nat) (sh : Int32) (hR : cR V (ct, (md, fd), (n, wide, dn, st, num), (lost, fresh), (fp, sh))) (B : Nat) (hB : B < 10000) (hWF : WF B (ct, (md, fd), (n, wide, dn, st, num), (lost, fresh), (fp, sh))) : vx_Met l yX2_replace wsX2_replace ({ frames := 7, cells := 4, slots := 24, locals := 110 }) (gPx D cI cD 47 ad (cF cI cD ad) sz V [.ref (ad 0)]) (va_Qi (fun (r : Int32) (V1 : vT) => (oReplace (ct, (md, fd), (n, wide, dn, st, num), (lost, fresh), (fp, sh))).1 = 0 ∧ (oReplace (ct, (md, fd), (n, wide, dn, st, num), (lost, fresh), (fp, sh))).2.1 = r ∧ cR V1 (oReplace (ct, (md, fd), (n, wide, dn, st, num), (lost, fresh), (fp, sh))).2.2) (gB D 47 ad (cF cI cD ad)) (gA 47 ad sz)) (gX D 47 ad (cF cI cD ad) sz (fun E V1 => ((E = "java/lang/IllegalStateException" ∧ (oReplace (ct, (md, fd), (n, wide, dn, st, num), (lost, fresh), (fp, sh))).1 = 1) ∨ (E = "java/lang/IllegalArgumentException" ∧ (oReplace (ct, (md, fd), (n, wide, dn, st, num), (lost, fresh), (fp, sh))).1 = 2)) ∧ cR V1 (oReplace (ct, (md, fd), (n, wide, dn, st, num), (lost, fresh), (fp, sh))).2.2)) 4 24 (gA 47 ad sz) := by
  refine w_xmet (cc := cX2_replace) (maxL := 1) (ret := (some .int)) (by decide) rfl (Nat.le_of_ble_eq_true rfl) ?_
  intro p e s m below meth c hx hb hr hts hown hlocks hml hsz hK hw hT9 hZ hout ls hl
  subst hsz
  have hown : s.vm.findClass RX2 = some m.cls := hown
  have hi2 : ∀ w ∈ wsX20, w ∈ wsX2_replace := by decide +kernel
  have hl : lv_has ls 1 [(0, .ref (ad 0))] := hl
  obtain ⟨hmd, hfd, hlo, hfr, hfp8, hsh, hQ0, hdc⟩ := hR.pt
  refine lv_aload_n hx hb dX2_replace_0 rfl (lv_at hl 0 rfl) ?_
  refine w_xcallv hw (vx_runV (As := []) (rest := []) ⟨hx, hb, hml, hown, hts⟩ (c_X2_checkServing l hlt D cI cD ad _ V md hmd fd hfd) (cwV 0 hts gX2_replace_X2_checkServing rfl rfl rfl (by decide +kernel) ⟨Nat.le_of_ble_eq_true rfl, Nat.le_of_ble_eq_true rfl⟩) (w_xpreV hK hT9 hZ hw (by omega) (cF_0 _) rfl _) rfl rfl hl.1 rfl (lv_room (Nat.le_of_ble_eq_true rfl)) dX2_replace_1 ⟨Nat.le_of_ble_eq_true rfl, Nat.le_of_ble_eq_true rfl⟩) (fun E9 ce9 q9 V9 H locs hp hw h1 h2 h3 => ?_) (fun V_1 H locs hp hw => ?_)
  · exact w_xout hout hlocks h1 h2 h3 hw (by obtain ⟨e9, e8, e7⟩ := hp; subst e9; subst e8; have hL : oReplace (ct, (md, fd), (n, wide, dn, st, num), (lost, fresh), (fp, sh)) = (1, 0, (ct, (md, fd), (n, wide, dn, st, num), (lost, fresh), (fp, sh))) := (by rw [oReplace, ifS_n (a := (ct, (md, fd), (n, wide, dn, st, num), (lost, fresh), (fp, sh))) e7]); rw [hL]; exact ⟨Or.inl ⟨rfl, rfl⟩, hR⟩) (Nat.le_of_ble_eq_true rfl) (Nat.le_of_ble_eq_true rfl)
  obtain ⟨e9, e1, e2⟩ := hp
  subst e9
  obtain ⟨hnum, hn, hwd, hdn, hst⟩ := hR.sv e1 e2
  obtain ⟨hn3, hn6, hwn, hd32, hsw, hnum1, hnumB, hlo9, hfr9, hlf9, hfp9, hex9⟩ := hWF.sv e1 e2
  have hkw6 := kw_le hn6 hwn
  have hkwn := kw_ge (n := n) (wide := wide)
  refine lv_aload_n hx hb dX2_replace_4 rfl (lv_at hl 0 rfl) ?_
  refine w_get (ci := 2) (C := RX2) (T := TX2) (M := 10) (v := .int lost) hx hb hts hi2 hown hK hw 0 (by omega) _ (cF_0 _) rfl 6 (by decide) (hts (.fieldLink RX2 29 "WideningArray" "lost" "I") (by decide +kernel)) (congrArg (fun z => some (Value.int z)) (show V 0 6 = lost from hlo)) dX2_replace_5 ?_
  refine lv_iconst (v := (-1)) hx hb dX2_replace_8 (by decide) ?_
  refine lv_icmp_ne (tgt := 22) hx hb dX2_replace_9 (by decide) (fun c_9 => ?_) (fun c_9 => ?_)
  · refine lv_aload_n hx hb dX2_replace_22 rfl (lv_at hl 0 rfl) ?_
    refine lv_aload_n hx hb dX2_replace_23 rfl (lv_at hl 0 rfl) ?_
    refine w_get (ci := 2) (C := RX2) (T := TX2) (M := 10) (v := .int lost) hx hb hts hi2 hown hK hw 0 (by omega) _ (cF_0 _) rfl 6 (by decide) (hts (.fieldLink RX2 29 "WideningArray" "lost" "I") (by decide +kernel)) (congrArg (fun z => some (Value.int z)) (show V 0 6 = lost from hlo)) dX2_replace_24 ?_
    refine w_put (ci := 2) (C := RX2) (T := TX2) (M := 10) (x := lost) (ty := .int) hx hb hts hi2 tyX2 tyX2_ok nmX2 hown hK hw 0 (by omega) _ (cF_0 _) rfl 7 (by decide) (hts (.fieldLink RX2 33 "WideningArray" "replaced" "I") (by decide +kernel)) rfl (by decide +kernel) rfl rfl (Nat.le_of_ble_eq_true rfl) (cF_0 _) dX2_replace_27 (fun H locs hw => ?_)
    obtain ⟨V_2, hV_2⟩ : ∃ z : vT, z = u2 V 0 7 lost := ⟨_, rfl⟩
    rw [← hV_2] at hw
    refine lv_aload_n hx hb dX2_replace_30 rfl (lv_at hl 0 rfl) ?_
    refine lv_iconst (v := (-1)) hx hb dX2_replace_31 (by decide) ?_
    refine w_put (ci := 2) (C := RX2) (T := TX2) (M := 10) (x := (-1)) (ty := .int) hx hb hts hi2 tyX2 tyX2_ok nmX2 hown hK hw 0 (by omega) _ (cF_0 _) rfl 6 (by decide) (hts (.fieldLink RX2 29 "WideningArray" "lost" "I") (by decide +kernel)) rfl (by decide +kernel) rfl rfl (Nat.le_of_ble_eq_true rfl) (cF_0 _) dX2_replace_32 (fun H locs hw => ?_)
    obtain ⟨V_3, hV_3⟩ : ∃ z : vT, z = u2 V_2 0 6 (-1) := ⟨_, rfl⟩
    rw [← hV_3] at hw
    refine lv_aload_n hx hb dX2_replace_35 rfl (lv_at hl 0 rfl) ?_
    refine w_get (ci := 2) (C := RX2) (T := TX2) (M := 10) (v := .int lost) hx hb hts hi2 hown hK hw 0 (by omega) _ (cF_0 _) rfl 7 (by decide) (hts (.fieldLink RX2 33 "WideningArray" "replaced" "I") (by decide +kernel)) (congrArg (fun z => some (Value.int z)) (show V_3 0 7 = lost from by rw [hV_3, u2_n _ _ (Or.inr (by decide)), hV_2, u2_s])) dX2_replace_36 ?_
    exact vx_ret (W.widen (k := 4) (n := 24) (Nat.le_of_ble_eq_true rfl) (Nat.le_of_ble_eq_true rfl) (w_iret hx hb hr hlocks hw (by have hL : oReplace (ct, (md, fd), (n, wide, dn, st, num), (lost, fresh), (fp, sh)) = (0, lost, (ct, (md, fd), (n, wide, dn, st, num), (-1, lost), (fp, sh))) := (by rw [oReplace, ifS_y (a := (ct, (md, fd), (n, wide, dn, st, num), (lost, fresh), (fp, sh))) e1 e2]; exact if_neg c_9); rw [hL]; exact ⟨rfl, rfl, cR_own (fun a ha => by rw [hV_3, u2_r _ _ ha, hV_2, u2_r _ _ ha]) hR ⟨by rw [hV_3, u2_n _ _ (Or.inr (by decide)), hV_2, u2_n _ _ (Or.inr (by decide))]; exact hmd, by rw [hV_3, u2_n _ _ (Or.inr (by decide)), hV_2, u2_n _ _ (Or.inr (by decide))]; exact hfd, by rw [hV_3, u2_s], by rw [hV_3, u2_n _ _ (Or.inr (by decide)), hV_2, u2_s], by rw [hV_3, u2_n _ _ (Or.inr (by decide)), hV_2, u2_n _ _ (Or.inr (by decide))]; exact hfp8, by rw [hV_3, u2_n _ _ (Or.inr (by decide)), hV_2, u2_n _ _ (Or.inr (by decide))]; exact hsh⟩⟩) dX2_replace_39))
  · obtain ⟨sa9, hsa9⟩ := hT9.2 (138, "no disk is lost") (by decide +kernel)
    exact w_throw (own := RX2) (cls := "java/lang/IllegalArgumentException") (text := "no disk is lost") (names := ["java/lang/RuntimeException", "java/lang/Exception"]) (sa := sa9) hx hb hlt hown (by decide +kernel) (by decide +kernel) (hts (.classLink RX2 37 "java/lang/IllegalArgumentException") (by decide +kernel)) (hts (.initialized "java/lang/IllegalArgumentException") (by decide +kernel)) hsa9 (vx_hat (L := vx_atS RX2 41 "java/lang/IllegalArgumentException" ["java/lang/RuntimeException", "java/lang/Exception"]) (B := [.castable "java/lang/IllegalArgumentException" "java/lang/IllegalArgumentException", .declares ⟨"java/lang/RuntimeException", "<init>", "(Ljava/lang/String;)V"⟩, .declares ⟨"java/lang/Exception", "<init>", "(Ljava/lang/String;)V"⟩, .declares ⟨"java/lang/Throwable", "<init>", "(Ljava/lang/String;)V"⟩]) (fun w hw => hts w ((by decide +kernel : ∀ w ∈ (vx_atS RX2 41 "java/lang/IllegalArgumentException" ["java/lang/RuntimeException", "java/lang/Exception"]).filter goodWord, w ∈ wsX2_replace) w hw)) (by decide +kernel) (vx_c (va_Nw.use rfl (hT9.1 (.castable "java/lang/IllegalArgumentException" "java/lang/IllegalArgumentException") (by decide +kernel))) (vx_c (va_Nw.use rfl (hT9.1 (.declares ⟨"java/lang/RuntimeException", "<init>", "(Ljava/lang/String;)V"⟩) (by decide +kernel))) (vx_c (va_Nw.use rfl (hT9.1 (.declares ⟨"java/lang/Exception", "<init>", "(Ljava/lang/String;)V"⟩) (by decide +kernel))) (vx_c (va_Nw.use rfl (hT9.1 (.declares ⟨"java/lang/Throwable", "<init>", "(Ljava/lang/String;)V"⟩) (by decide +kernel))) (vx_n)))))) (by decide +kernel) hZ hw (hl.1.trans hml.symm) dX2_replace_12 dX2_replace_15 dX2_replace_16 dX2_replace_18 dX2_replace_21 hout (Nat.le_of_ble_eq_true rfl) (Nat.le_of_ble_eq_true rfl) (Nat.le_of_ble_eq_true rfl) (Nat.le_of_ble_eq_true rfl) hlocks (by have hL : oReplace (ct, (md, fd), (n, wide, dn, st, num), (lost, fresh), (fp, sh)) = (2, 0, (ct, (md, fd), (n, wide, dn, st, num), (lost, fresh), (fp, sh))) := (by rw [oReplace, ifS_y (a := (ct, (md, fd), (n, wide, dn, st, num), (lost, fresh), (fp, sh))) e1 e2]; exact if_pos c_9); rw [hL]; exact ⟨Or.inr ⟨rfl, rfl⟩, hR⟩) (Nat.le_of_ble_eq_true rfl) (Nat.le_of_ble_eq_true rfl)
set_option maxHeartbeats 4000000 in
set_option maxRecDepth 100000 in
theorem c_X2_crash (l : Launch) (hlt : l.stackTraces = false) (D : va_G) (cI cD : ClassId) (ad : Nat → Nat) (sz : Nat) (V : vT) (ct : Nat → Nat → Int32) (md fd : Bool) (n : Nat) (wide : Bool) (dn : Nat) (st : Bool) (num : Nat) (lost fresh : Int32) (fp : Nat) (sh : Int32) (hR : cR V (ct, (md, fd), (n, wide, dn, st, num), (lost, fresh), (fp, sh))) (B : Nat) (hB : B < 10000) (hWF : WF B (ct, (md, fd), (n, wide, dn, st, num), (lost, fresh), (fp, sh))) (w h : Int32) : vx_Met l yX2_crash wsX2_crash ({ frames := 7, cells := 4, slots := 24, locals := 110 }) (gPx D cI cD 47 ad (cF cI cD ad) sz V [.ref (ad 0), .int w, .int h]) (va_Qv (fun (V1 : vT) => (oCrash (ct, (md, fd), (n, wide, dn, st, num), (lost, fresh), (fp, sh)) w h).1 = 0 ∧ cR V1 (oCrash (ct, (md, fd), (n, wide, dn, st, num), (lost, fresh), (fp, sh)) w h).2.2) (gB D 47 ad (cF cI cD ad)) (gA 47 ad sz)) (gX D 47 ad (cF cI cD ad) sz (fun E V1 => ((E = "java/lang/IllegalStateException" ∧ (oCrash (ct, (md, fd), (n, wide, dn, st, num), (lost, fresh), (fp, sh)) w h).1 = 1) ∨ (E = "java/lang/IllegalArgumentException" ∧ (oCrash (ct, (md, fd), (n, wide, dn, st, num), (lost, fresh), (fp, sh)) w h).1 = 2)) ∧ cR V1 (oCrash (ct, (md, fd), (n, wide, dn, st, num), (lost, fresh), (fp, sh)) w h).2.2)) 4 24 (gA 47 ad sz) := by
  refine w_xmet (cc := cX2_crash) (maxL := 3) (ret := none) (by decide) rfl (Nat.le_of_ble_eq_true rfl) ?_
  intro p e s m below meth c hx hb hr hts hown hlocks hml hsz hK hw hT9 hZ hout ls hl
  subst hsz
  have hown : s.vm.findClass RX2 = some m.cls := hown
  have hi2 : ∀ w ∈ wsX20, w ∈ wsX2_crash := by decide +kernel
  have hl : lv_has ls 3 [(0, .ref (ad 0)), (1, .int w), (2, .int h)] := hl
  obtain ⟨hmd, hfd, hlo, hfr, hfp8, hsh, hQ0, hdc⟩ := hR.pt
  refine lv_aload_n hx hb dX2_crash_0 rfl (lv_at hl 0 rfl) ?_
  refine w_xcallv hw (vx_runV (As := []) (rest := []) ⟨hx, hb, hml, hown, hts⟩ (c_X2_checkServing l hlt D cI cD ad _ V md hmd fd hfd) (cwV 0 hts gX2_crash_X2_checkServing rfl rfl rfl (by decide +kernel) ⟨Nat.le_of_ble_eq_true rfl, Nat.le_of_ble_eq_true rfl⟩) (w_xpreV hK hT9 hZ hw (by omega) (cF_0 _) rfl _) rfl rfl hl.1 rfl (lv_room (Nat.le_of_ble_eq_true rfl)) dX2_crash_1 ⟨Nat.le_of_ble_eq_true rfl, Nat.le_of_ble_eq_true rfl⟩) (fun E9 ce9 q9 V9 H locs hp hw h1 h2 h3 => ?_) (fun V_1 H locs hp hw => ?_)
  · exact w_xout hout hlocks h1 h2 h3 hw (by obtain ⟨e9, e8, e7⟩ := hp; subst e9; subst e8; have hL : oCrash (ct, (md, fd), (n, wide, dn, st, num), (lost, fresh), (fp, sh)) w h = (1, 0, (ct, (md, fd), (n, wide, dn, st, num), (lost, fresh), (fp, sh))) := (by rw [oCrash, ifS_n (a := (ct, (md, fd), (n, wide, dn, st, num), (lost, fresh), (fp, sh))) e7]); rw [hL]; exact ⟨Or.inl ⟨rfl, rfl⟩, hR⟩) (Nat.le_of_ble_eq_true rfl) (Nat.le_of_ble_eq_true rfl)
  obtain ⟨e9, e1, e2⟩ := hp
  subst e9
  obtain ⟨hnum, hn, hwd, hdn, hst⟩ := hR.sv e1 e2
  obtain ⟨hn3, hn6, hwn, hd32, hsw, hnum1, hnumB, hlo9, hfr9, hlf9, hfp9, hex9⟩ := hWF.sv e1 e2
  have hkw6 := kw_le hn6 hwn
  have hkwn := kw_ge (n := n) (wide := wide)
  refine lv_iload_n hx hb dX2_crash_4 rfl (lv_at hl 1 rfl) ?_
  refine lv_iconst (v := nI 1) hx hb dX2_crash_5 (by decide) ?_
  refine lv_icmp_lt (tgt := 17) hx hb dX2_crash_6 (by decide) (fun c_6 => ?_) (fun c_6 => ?_)
  · obtain ⟨sa9, hsa9⟩ := hT9.2 (152, "power can\'t be made to fail so") (by decide +kernel)
    exact w_throw (own := RX2) (cls := "java/lang/IllegalArgumentException") (text := "power can\'t be made to fail so") (names := ["java/lang/RuntimeException", "java/lang/Exception"]) (sa := sa9) hx hb hlt hown (by decide +kernel) (by decide +kernel) (hts (.classLink RX2 37 "java/lang/IllegalArgumentException") (by decide +kernel)) (hts (.initialized "java/lang/IllegalArgumentException") (by decide +kernel)) hsa9 (vx_hat (L := vx_atS RX2 41 "java/lang/IllegalArgumentException" ["java/lang/RuntimeException", "java/lang/Exception"]) (B := [.castable "java/lang/IllegalArgumentException" "java/lang/IllegalArgumentException", .declares ⟨"java/lang/RuntimeException", "<init>", "(Ljava/lang/String;)V"⟩, .declares ⟨"java/lang/Exception", "<init>", "(Ljava/lang/String;)V"⟩, .declares ⟨"java/lang/Throwable", "<init>", "(Ljava/lang/String;)V"⟩]) (fun w hw => hts w ((by decide +kernel : ∀ w ∈ (vx_atS RX2 41 "java/lang/IllegalArgumentException" ["java/lang/RuntimeException", "java/lang/Exception"]).filter goodWord, w ∈ wsX2_crash) w hw)) (by decide +kernel) (vx_c (va_Nw.use rfl (hT9.1 (.castable "java/lang/IllegalArgumentException" "java/lang/IllegalArgumentException") (by decide +kernel))) (vx_c (va_Nw.use rfl (hT9.1 (.declares ⟨"java/lang/RuntimeException", "<init>", "(Ljava/lang/String;)V"⟩) (by decide +kernel))) (vx_c (va_Nw.use rfl (hT9.1 (.declares ⟨"java/lang/Exception", "<init>", "(Ljava/lang/String;)V"⟩) (by decide +kernel))) (vx_c (va_Nw.use rfl (hT9.1 (.declares ⟨"java/lang/Throwable", "<init>", "(Ljava/lang/String;)V"⟩) (by decide +kernel))) (vx_n)))))) (by decide +kernel) hZ hw (hl.1.trans hml.symm) dX2_crash_17 dX2_crash_20 dX2_crash_21 dX2_crash_23 dX2_crash_26 hout (Nat.le_of_ble_eq_true rfl) (Nat.le_of_ble_eq_true rfl) (Nat.le_of_ble_eq_true rfl) (Nat.le_of_ble_eq_true rfl) hlocks (by have hL : oCrash (ct, (md, fd), (n, wide, dn, st, num), (lost, fresh), (fp, sh)) w h = (2, 0, (ct, (md, fd), (n, wide, dn, st, num), (lost, fresh), (fp, sh))) := (by rw [oCrash, ifS_y (a := (ct, (md, fd), (n, wide, dn, st, num), (lost, fresh), (fp, sh))) e1 e2]; exact if_pos (by first | exact Or.inl c_6 | (rw [hlo, hfr] at c_14; exact Or.inr c_14))); rw [hL]; exact ⟨Or.inr ⟨rfl, rfl⟩, hR⟩) (Nat.le_of_ble_eq_true rfl) (Nat.le_of_ble_eq_true rfl)
  · refine lv_aload_n hx hb dX2_crash_9 rfl (lv_at hl 0 rfl) ?_
    refine w_calli hw (va_runV (As := []) (rest := []) ⟨hx, hb, hml, hown, hts⟩ (c_X2_absentDisk l D cI cD ad _ V) (cwV 0 hts gX2_crash_X2_absentDisk rfl rfl rfl (by decide +kernel) ⟨Nat.le_of_ble_eq_true rfl, Nat.le_of_ble_eq_true rfl⟩) (w_preV hK hw (by omega) (cF_0 _) rfl _) rfl rfl hl.1 rfl (lv_room (Nat.le_of_ble_eq_true rfl)) dX2_crash_10 ⟨Nat.le_of_ble_eq_true rfl, Nat.le_of_ble_eq_true rfl⟩) (fun r_3 V_2 H locs hp hw => ?_)
    obtain ⟨e9, e8⟩ := hp
    subst e9
    subst e8
    refine lv_iconst (v := (-1)) hx hb dX2_crash_13 (by decide) ?_
    refine lv_icmp_eq (tgt := 27) hx hb dX2_crash_14 (by decide) (fun c_14 => ?_) (fun c_14 => ?_)
    · obtain ⟨ww, hww, e12⟩ := nI_of (x := w) (fun q => c_6 (Int32.lt_trans q (by decide)))
      subst e12
      refine lv_aload_n hx hb dX2_crash_27 rfl (lv_at hl 0 rfl) ?_
      refine lv_iload_n hx hb dX2_crash_28 rfl (lv_at hl 1 rfl) ?_
      refine w_put (ci := 2) (C := RX2) (T := TX2) (M := 10) (x := nI ww) (ty := .int) hx hb hts hi2 tyX2 tyX2_ok nmX2 hown hK hw 0 (by omega) _ (cF_0 _) rfl 8 (by decide) (hts (.fieldLink RX2 54 "WideningArray" "failPoint" "I") (by decide +kernel)) rfl (by decide +kernel) rfl rfl (Nat.le_of_ble_eq_true rfl) (cF_0 _) dX2_crash_29 (fun H locs hw => ?_)
      obtain ⟨V_4, hV_4⟩ : ∃ z : vT, z = u2 V 0 8 (nI ww) := ⟨_, rfl⟩
      rw [← hV_4] at hw
      refine lv_aload_n hx hb dX2_crash_32 rfl (lv_at hl 0 rfl) ?_
      refine lv_iload_n hx hb dX2_crash_33 rfl (lv_at hl 2 rfl) ?_
      refine w_put (ci := 2) (C := RX2) (T := TX2) (M := 10) (x := h) (ty := .int) hx hb hts hi2 tyX2 tyX2_ok nmX2 hown hK hw 0 (by omega) _ (cF_0 _) rfl 9 (by decide) (hts (.fieldLink RX2 154 "WideningArray" "failShares" "I") (by decide +kernel)) rfl (by decide +kernel) rfl rfl (Nat.le_of_ble_eq_true rfl) (cF_0 _) dX2_crash_34 (fun H locs hw => ?_)
      obtain ⟨V_5, hV_5⟩ : ∃ z : vT, z = u2 V_4 0 9 h := ⟨_, rfl⟩
      rw [← hV_5] at hw
      exact vx_ret (W.widen (k := 4) (n := 24) (Nat.le_of_ble_eq_true rfl) (Nat.le_of_ble_eq_true rfl) (w_vret hx hb hr hlocks hw (by have hL : oCrash (ct, (md, fd), (n, wide, dn, st, num), (lost, fresh), (fp, sh)) (nI ww) h = (0, 0, (ct, (md, fd), (n, wide, dn, st, num), (lost, fresh), (ww, h))) := (by rw [oCrash, ifS_y (a := (ct, (md, fd), (n, wide, dn, st, num), (lost, fresh), (fp, sh))) e1 e2]; refine (if_neg ?_).trans (by rw [nI_clamp (by omega)]); intro q; rcases q with q | q; (· exact c_6 q); (· rw [hlo, hfr] at c_14; exact q c_14)); rw [hL]; exact ⟨rfl, cR_own (fun a ha => by rw [hV_5, u2_r _ _ ha, hV_4, u2_r _ _ ha]) hR ⟨by rw [hV_5, u2_n _ _ (Or.inr (by decide)), hV_4, u2_n _ _ (Or.inr (by decide))]; exact hmd, by rw [hV_5, u2_n _ _ (Or.inr (by decide)), hV_4, u2_n _ _ (Or.inr (by decide))]; exact hfd, by rw [hV_5, u2_n _ _ (Or.inr (by decide)), hV_4, u2_n _ _ (Or.inr (by decide))]; exact hlo, by rw [hV_5, u2_n _ _ (Or.inr (by decide)), hV_4, u2_n _ _ (Or.inr (by decide))]; exact hfr, by rw [hV_5, u2_n _ _ (Or.inr (by decide)), hV_4, u2_s], by rw [hV_5, u2_s]⟩⟩) dX2_crash_37))
    · obtain ⟨sa9, hsa9⟩ := hT9.2 (152, "power can\'t be made to fail so") (by decide +kernel)
      exact w_throw (own := RX2) (cls := "java/lang/IllegalArgumentException") (text := "power can\'t be made to fail so") (names := ["java/lang/RuntimeException", "java/lang/Exception"]) (sa := sa9) hx hb hlt hown (by decide +kernel) (by decide +kernel) (hts (.classLink RX2 37 "java/lang/IllegalArgumentException") (by decide +kernel)) (hts (.initialized "java/lang/IllegalArgumentException") (by decide +kernel)) hsa9 (vx_hat (L := vx_atS RX2 41 "java/lang/IllegalArgumentException" ["java/lang/RuntimeException", "java/lang/Exception"]) (B := [.castable "java/lang/IllegalArgumentException" "java/lang/IllegalArgumentException", .declares ⟨"java/lang/RuntimeException", "<init>", "(Ljava/lang/String;)V"⟩, .declares ⟨"java/lang/Exception", "<init>", "(Ljava/lang/String;)V"⟩, .declares ⟨"java/lang/Throwable", "<init>", "(Ljava/lang/String;)V"⟩]) (fun w hw => hts w ((by decide +kernel : ∀ w ∈ (vx_atS RX2 41 "java/lang/IllegalArgumentException" ["java/lang/RuntimeException", "java/lang/Exception"]).filter goodWord, w ∈ wsX2_crash) w hw)) (by decide +kernel) (vx_c (va_Nw.use rfl (hT9.1 (.castable "java/lang/IllegalArgumentException" "java/lang/IllegalArgumentException") (by decide +kernel))) (vx_c (va_Nw.use rfl (hT9.1 (.declares ⟨"java/lang/RuntimeException", "<init>", "(Ljava/lang/String;)V"⟩) (by decide +kernel))) (vx_c (va_Nw.use rfl (hT9.1 (.declares ⟨"java/lang/Exception", "<init>", "(Ljava/lang/String;)V"⟩) (by decide +kernel))) (vx_c (va_Nw.use rfl (hT9.1 (.declares ⟨"java/lang/Throwable", "<init>", "(Ljava/lang/String;)V"⟩) (by decide +kernel))) (vx_n)))))) (by decide +kernel) hZ hw (hl.1.trans hml.symm) dX2_crash_17 dX2_crash_20 dX2_crash_21 dX2_crash_23 dX2_crash_26 hout (Nat.le_of_ble_eq_true rfl) (Nat.le_of_ble_eq_true rfl) (Nat.le_of_ble_eq_true rfl) (Nat.le_of_ble_eq_true rfl) hlocks (by have hL : oCrash (ct, (md, fd), (n, wide, dn, st, num), (lost, fresh), (fp, sh)) w h = (2, 0, (ct, (md, fd), (n, wide, dn, st, num), (lost, fresh), (fp, sh))) := (by rw [oCrash, ifS_y (a := (ct, (md, fd), (n, wide, dn, st, num), (lost, fresh), (fp, sh))) e1 e2]; exact if_pos (by first | exact Or.inl c_6 | (rw [hlo, hfr] at c_14; exact Or.inr c_14))); rw [hL]; exact ⟨Or.inr ⟨rfl, rfl⟩, hR⟩) (Nat.le_of_ble_eq_true rfl) (Nat.le_of_ble_eq_true rfl)
set_option maxHeartbeats 4000000 in
set_option maxRecDepth 100000 in
theorem c_X2_lose (l : Launch) (hlt : l.stackTraces = false) (D : va_G) (cI cD : ClassId) (ad : Nat → Nat) (sz : Nat) (V : vT) (ct : Nat → Nat → Int32) (md fd : Bool) (n : Nat) (wide : Bool) (dn : Nat) (st : Bool) (num : Nat) (lost fresh : Int32) (fp : Nat) (sh : Int32) (hR : cR V (ct, (md, fd), (n, wide, dn, st, num), (lost, fresh), (fp, sh))) (B : Nat) (hB : B < 10000) (hWF : WF B (ct, (md, fd), (n, wide, dn, st, num), (lost, fresh), (fp, sh))) (d : Int32) : vx_Met l yX2_lose wsX2_lose ({ frames := 7, cells := 4, slots := 24, locals := 111 }) (gPx D cI cD 47 ad (cF cI cD ad) sz V [.ref (ad 0), .int d]) (va_Qv (fun (V1 : vT) => (oLose (ct, (md, fd), (n, wide, dn, st, num), (lost, fresh), (fp, sh)) d).1 = 0 ∧ cR V1 (oLose (ct, (md, fd), (n, wide, dn, st, num), (lost, fresh), (fp, sh)) d).2.2) (gB D 47 ad (cF cI cD ad)) (gA 47 ad sz)) (gX D 47 ad (cF cI cD ad) sz (fun E V1 => ((E = "java/lang/IllegalStateException" ∧ (oLose (ct, (md, fd), (n, wide, dn, st, num), (lost, fresh), (fp, sh)) d).1 = 1) ∨ (E = "java/lang/IndexOutOfBoundsException" ∧ (oLose (ct, (md, fd), (n, wide, dn, st, num), (lost, fresh), (fp, sh)) d).1 = 2) ∨ (E = "java/lang/IllegalArgumentException" ∧ (oLose (ct, (md, fd), (n, wide, dn, st, num), (lost, fresh), (fp, sh)) d).1 = 3)) ∧ cR V1 (oLose (ct, (md, fd), (n, wide, dn, st, num), (lost, fresh), (fp, sh)) d).2.2)) 4 24 (gA 47 ad sz) := by
  refine w_xmet (cc := cX2_lose) (maxL := 2) (ret := none) (by decide) rfl (Nat.le_of_ble_eq_true rfl) ?_
  intro p e s m below meth c hx hb hr hts hown hlocks hml hsz hK hw hT9 hZ hout ls hl
  subst hsz
  have hown : s.vm.findClass RX2 = some m.cls := hown
  have hi2 : ∀ w ∈ wsX20, w ∈ wsX2_lose := by decide +kernel
  have hl : lv_has ls 2 [(0, .ref (ad 0)), (1, .int d)] := hl
  obtain ⟨hmd, hfd, hlo, hfr, hfp8, hsh, hQ0, hdc⟩ := hR.pt
  have hfpl : fp < 2 ^ 31 := hWF.2.1
  refine lv_aload_n hx hb dX2_lose_0 rfl (lv_at hl 0 rfl) ?_
  refine w_xcallv hw (vx_runV (As := []) (rest := []) ⟨hx, hb, hml, hown, hts⟩ (c_X2_checkServing l hlt D cI cD ad _ V md hmd fd hfd) (cwV 0 hts gX2_lose_X2_checkServing rfl rfl rfl (by decide +kernel) ⟨Nat.le_of_ble_eq_true rfl, Nat.le_of_ble_eq_true rfl⟩) (w_xpreV hK hT9 hZ hw (by omega) (cF_0 _) rfl _) rfl rfl hl.1 rfl (lv_room (Nat.le_of_ble_eq_true rfl)) dX2_lose_1 ⟨Nat.le_of_ble_eq_true rfl, Nat.le_of_ble_eq_true rfl⟩) (fun E9 ce9 q9 V9 H locs hp hw h1 h2 h3 => ?_) (fun V_1 H locs hp hw => ?_)
  · exact w_xout hout hlocks h1 h2 h3 hw (by obtain ⟨e9, e8, e7⟩ := hp; subst e9; subst e8; have hL : oLose (ct, (md, fd), (n, wide, dn, st, num), (lost, fresh), (fp, sh)) d = (1, 0, (ct, (md, fd), (n, wide, dn, st, num), (lost, fresh), (fp, sh))) := (by rw [oLose, ifS_n (a := (ct, (md, fd), (n, wide, dn, st, num), (lost, fresh), (fp, sh))) e7]); rw [hL]; exact ⟨Or.inl ⟨rfl, rfl⟩, hR⟩) (Nat.le_of_ble_eq_true rfl) (Nat.le_of_ble_eq_true rfl)
  obtain ⟨e9, e1, e2⟩ := hp
  subst e9
  obtain ⟨hnum, hn, hwd, hdn, hst⟩ := hR.sv e1 e2
  obtain ⟨hn3, hn6, hwn, hd32, hsw, hnum1, hnumB, hlo9, hfr9, hlf9, hfp9, hex9⟩ := hWF.sv e1 e2
  have hkw6 := kw_le hn6 hwn
  have hkwn := kw_ge (n := n) (wide := wide)
  refine lv_aload_n hx hb dX2_lose_4 rfl (lv_at hl 0 rfl) ?_
  refine lv_iload_n hx hb dX2_lose_5 rfl (lv_at hl 1 rfl) ?_
  refine w_xcallv hw (vx_runV (As := [.int d]) (rest := []) ⟨hx, hb, hml, hown, hts⟩ (c_X2_checkDisk l hlt D cI cD ad _ V n hn wide hwd d) (cwV 1 hts gX2_lose_X2_checkDisk rfl rfl rfl (by decide +kernel) ⟨Nat.le_of_ble_eq_true rfl, Nat.le_of_ble_eq_true rfl⟩) (w_xpreV hK hT9 hZ hw (by omega) (cF_0 _) rfl _) rfl rfl hl.1 rfl (lv_room (Nat.le_of_ble_eq_true rfl)) dX2_lose_6 ⟨Nat.le_of_ble_eq_true rfl, Nat.le_of_ble_eq_true rfl⟩) (fun E9 ce9 q9 V9 H locs hp hw h1 h2 h3 => ?_) (fun V_2 H locs hp hw => ?_)
  · exact w_xout hout hlocks h1 h2 h3 hw (by obtain ⟨e9, e8, e7⟩ := hp; subst e9; subst e8; have hL : oLose (ct, (md, fd), (n, wide, dn, st, num), (lost, fresh), (fp, sh)) d = (2, 0, (ct, (md, fd), (n, wide, dn, st, num), (lost, fresh), (fp, sh))) := (by rw [oLose, ifS_y (a := (ct, (md, fd), (n, wide, dn, st, num), (lost, fresh), (fp, sh))) e1 e2]; exact if_pos (e7)); rw [hL]; exact ⟨Or.inr (Or.inl ⟨rfl, rfl⟩), hR⟩) (Nat.le_of_ble_eq_true rfl) (Nat.le_of_ble_eq_true rfl)
  obtain ⟨e9, e3, e4⟩ := hp
  subst e9
  obtain ⟨dd9, hdd9, e10⟩ := nI_in2 e3 e4 (by omega)
  subst e10
  refine lv_aload_n hx hb dX2_lose_9 rfl (lv_at hl 0 rfl) ?_
  refine w_calli hw (va_runV (As := []) (rest := []) ⟨hx, hb, hml, hown, hts⟩ (c_X2_absentDisk l D cI cD ad _ V) (cwV 0 hts gX2_lose_X2_absentDisk rfl rfl rfl (by decide +kernel) ⟨Nat.le_of_ble_eq_true rfl, Nat.le_of_ble_eq_true rfl⟩) (w_preV hK hw (by omega) (cF_0 _) rfl _) rfl rfl hl.1 rfl (lv_room (Nat.le_of_ble_eq_true rfl)) dX2_lose_10 ⟨Nat.le_of_ble_eq_true rfl, Nat.le_of_ble_eq_true rfl⟩) (fun r_4 V_3 H locs hp hw => ?_)
  obtain ⟨e9, e8⟩ := hp
  subst e9
  subst e8
  refine lv_iconst (v := (-1)) hx hb dX2_lose_13 (by decide) ?_
  refine lv_icmp_ne (tgt := 24) hx hb dX2_lose_14 (by decide) (fun c_14 => ?_) (fun c_14 => ?_)
  · obtain ⟨sa9, hsa9⟩ := hT9.2 (136, "no disk can be lost now") (by decide +kernel)
    exact w_throw (own := RX2) (cls := "java/lang/IllegalArgumentException") (text := "no disk can be lost now") (names := ["java/lang/RuntimeException", "java/lang/Exception"]) (sa := sa9) hx hb hlt hown (by decide +kernel) (by decide +kernel) (hts (.classLink RX2 37 "java/lang/IllegalArgumentException") (by decide +kernel)) (hts (.initialized "java/lang/IllegalArgumentException") (by decide +kernel)) hsa9 (vx_hat (L := vx_atS RX2 41 "java/lang/IllegalArgumentException" ["java/lang/RuntimeException", "java/lang/Exception"]) (B := [.castable "java/lang/IllegalArgumentException" "java/lang/IllegalArgumentException", .declares ⟨"java/lang/RuntimeException", "<init>", "(Ljava/lang/String;)V"⟩, .declares ⟨"java/lang/Exception", "<init>", "(Ljava/lang/String;)V"⟩, .declares ⟨"java/lang/Throwable", "<init>", "(Ljava/lang/String;)V"⟩]) (fun w hw => hts w ((by decide +kernel : ∀ w ∈ (vx_atS RX2 41 "java/lang/IllegalArgumentException" ["java/lang/RuntimeException", "java/lang/Exception"]).filter goodWord, w ∈ wsX2_lose) w hw)) (by decide +kernel) (vx_c (va_Nw.use rfl (hT9.1 (.castable "java/lang/IllegalArgumentException" "java/lang/IllegalArgumentException") (by decide +kernel))) (vx_c (va_Nw.use rfl (hT9.1 (.declares ⟨"java/lang/RuntimeException", "<init>", "(Ljava/lang/String;)V"⟩) (by decide +kernel))) (vx_c (va_Nw.use rfl (hT9.1 (.declares ⟨"java/lang/Exception", "<init>", "(Ljava/lang/String;)V"⟩) (by decide +kernel))) (vx_c (va_Nw.use rfl (hT9.1 (.declares ⟨"java/lang/Throwable", "<init>", "(Ljava/lang/String;)V"⟩) (by decide +kernel))) (vx_n)))))) (by decide +kernel) hZ hw (hl.1.trans hml.symm) dX2_lose_24 dX2_lose_27 dX2_lose_28 dX2_lose_30 dX2_lose_33 hout (Nat.le_of_ble_eq_true rfl) (Nat.le_of_ble_eq_true rfl) (Nat.le_of_ble_eq_true rfl) (Nat.le_of_ble_eq_true rfl) hlocks (by have hL : oLose (ct, (md, fd), (n, wide, dn, st, num), (lost, fresh), (fp, sh)) (nI dd9) = (3, 0, (ct, (md, fd), (n, wide, dn, st, num), (lost, fresh), (fp, sh))) := (by rw [oLose, ifS_y (a := (ct, (md, fd), (n, wide, dn, st, num), (lost, fresh), (fp, sh))) e1 e2]; refine (if_neg ?_).trans (if_pos ?_); (· intro h; rcases h with h | h; (· exact e3 h); (· exact h e4)); (· first | (rw [hlo, hfr] at c_14; exact Or.inl c_14) | exact Or.inr (fun z => c_21 (by rw [show fp = 0 from z]; rfl)))); rw [hL]; exact ⟨Or.inr (Or.inr ⟨rfl, rfl⟩), hR⟩) (Nat.le_of_ble_eq_true rfl) (Nat.le_of_ble_eq_true rfl)
  · refine lv_aload_n hx hb dX2_lose_17 rfl (lv_at hl 0 rfl) ?_
    refine w_get (ci := 2) (C := RX2) (T := TX2) (M := 10) (v := .int (nI fp)) hx hb hts hi2 hown hK hw 0 (by omega) _ (cF_0 _) rfl 8 (by decide) (hts (.fieldLink RX2 54 "WideningArray" "failPoint" "I") (by decide +kernel)) (congrArg (fun z => some (Value.int z)) (show V 0 8 = nI fp from hfp8)) dX2_lose_18 ?_
    refine lv_if_eq (tgt := 34) hx hb dX2_lose_21 (by decide) (fun c_21 => ?_) (fun c_21 => ?_)
    · refine lv_aload_n hx hb dX2_lose_34 rfl (lv_at hl 0 rfl) ?_
      refine lv_iload_n hx hb dX2_lose_35 rfl (lv_at hl 1 rfl) ?_
      refine w_put (ci := 2) (C := RX2) (T := TX2) (M := 10) (x := nI dd9) (ty := .int) hx hb hts hi2 tyX2 tyX2_ok nmX2 hown hK hw 0 (by omega) _ (cF_0 _) rfl 6 (by decide) (hts (.fieldLink RX2 29 "WideningArray" "lost" "I") (by decide +kernel)) rfl (by decide +kernel) rfl rfl (Nat.le_of_ble_eq_true rfl) (cF_0 _) dX2_lose_36 (fun H locs hw => ?_)
      obtain ⟨V_5, hV_5⟩ : ∃ z : vT, z = u2 V 0 6 (nI dd9) := ⟨_, rfl⟩
      rw [← hV_5] at hw
      refine lv_aload_n hx hb dX2_lose_39 rfl (lv_at hl 0 rfl) ?_
      refine w_get (ci := 2) (C := RX2) (T := TX2) (M := 10) (v := .ref (ad 1)) hx hb hts hi2 hown hK hw 0 (by omega) _ (cF_0 _) rfl 0 (by decide) (hts (.fieldLink RX2 11 "WideningArray" "disks" "[LWideningArray$Disk;") (by decide +kernel)) rfl dX2_lose_40 ?_
      refine lv_iload_n hx hb dX2_lose_43 rfl (lv_at hl 1 rfl) ?_
      refine w_aald hx hb hK hw 1 6 (by omega) (cF_1 _) (i := dd9) (by omega) (by decide) rfl dX2_lose_44 ?_
      refine w_callv hw (va_runV (As := []) (rest := []) ⟨hx, hb, hml, hown, hts⟩ (c_X0_empty l D cI cD ad _ V_5 dd9 (by omega)) (cwV 0 hts gX2_lose_X0_empty rfl rfl rfl (by decide +kernel) ⟨Nat.le_of_ble_eq_true rfl, Nat.le_of_ble_eq_true rfl⟩) (w_preV hK hw (by omega) (cF_d0 dd9 _) rfl _) rfl rfl hl.1 rfl (lv_room (Nat.le_of_ble_eq_true rfl)) dX2_lose_45 ⟨Nat.le_of_ble_eq_true rfl, Nat.le_of_ble_eq_true rfl⟩) (fun V_6 H locs hp hw => ?_)
      exact vx_ret (W.widen (k := 4) (n := 24) (Nat.le_of_ble_eq_true rfl) (Nat.le_of_ble_eq_true rfl) (w_vret hx hb hr hlocks hw (by have hL : oLose (ct, (md, fd), (n, wide, dn, st, num), (lost, fresh), (fp, sh)) (nI dd9) = (0, 0, (emp ct dd9, (md, fd), (n, wide, dn, st, num), (nI dd9, fresh), (fp, sh))) := (by rw [oLose, ifS_y (a := (ct, (md, fd), (n, wide, dn, st, num), (lost, fresh), (fp, sh))) e1 e2]; refine (if_neg ?_).trans ((if_neg ?_).trans (by rw [nI_clamp (by omega)])); (· intro h; rcases h with h | h; (· exact e3 h); (· exact h e4)); (· intro h; rcases h with h | h; (· rw [hlo, hfr] at c_14; exact h c_14); (· exact h ((nI_z (by omega)).mp c_21)))); rw [hL]; exact ⟨rfl, cR_lose hV_5 hR hp hdd9 (by omega)⟩) dX2_lose_48))
    · obtain ⟨sa9, hsa9⟩ := hT9.2 (136, "no disk can be lost now") (by decide +kernel)
      exact w_throw (own := RX2) (cls := "java/lang/IllegalArgumentException") (text := "no disk can be lost now") (names := ["java/lang/RuntimeException", "java/lang/Exception"]) (sa := sa9) hx hb hlt hown (by decide +kernel) (by decide +kernel) (hts (.classLink RX2 37 "java/lang/IllegalArgumentException") (by decide +kernel)) (hts (.initialized "java/lang/IllegalArgumentException") (by decide +kernel)) hsa9 (vx_hat (L := vx_atS RX2 41 "java/lang/IllegalArgumentException" ["java/lang/RuntimeException", "java/lang/Exception"]) (B := [.castable "java/lang/IllegalArgumentException" "java/lang/IllegalArgumentException", .declares ⟨"java/lang/RuntimeException", "<init>", "(Ljava/lang/String;)V"⟩, .declares ⟨"java/lang/Exception", "<init>", "(Ljava/lang/String;)V"⟩, .declares ⟨"java/lang/Throwable", "<init>", "(Ljava/lang/String;)V"⟩]) (fun w hw => hts w ((by decide +kernel : ∀ w ∈ (vx_atS RX2 41 "java/lang/IllegalArgumentException" ["java/lang/RuntimeException", "java/lang/Exception"]).filter goodWord, w ∈ wsX2_lose) w hw)) (by decide +kernel) (vx_c (va_Nw.use rfl (hT9.1 (.castable "java/lang/IllegalArgumentException" "java/lang/IllegalArgumentException") (by decide +kernel))) (vx_c (va_Nw.use rfl (hT9.1 (.declares ⟨"java/lang/RuntimeException", "<init>", "(Ljava/lang/String;)V"⟩) (by decide +kernel))) (vx_c (va_Nw.use rfl (hT9.1 (.declares ⟨"java/lang/Exception", "<init>", "(Ljava/lang/String;)V"⟩) (by decide +kernel))) (vx_c (va_Nw.use rfl (hT9.1 (.declares ⟨"java/lang/Throwable", "<init>", "(Ljava/lang/String;)V"⟩) (by decide +kernel))) (vx_n)))))) (by decide +kernel) hZ hw (hl.1.trans hml.symm) dX2_lose_24 dX2_lose_27 dX2_lose_28 dX2_lose_30 dX2_lose_33 hout (Nat.le_of_ble_eq_true rfl) (Nat.le_of_ble_eq_true rfl) (Nat.le_of_ble_eq_true rfl) (Nat.le_of_ble_eq_true rfl) hlocks (by have hL : oLose (ct, (md, fd), (n, wide, dn, st, num), (lost, fresh), (fp, sh)) (nI dd9) = (3, 0, (ct, (md, fd), (n, wide, dn, st, num), (lost, fresh), (fp, sh))) := (by rw [oLose, ifS_y (a := (ct, (md, fd), (n, wide, dn, st, num), (lost, fresh), (fp, sh))) e1 e2]; refine (if_neg ?_).trans (if_pos ?_); (· intro h; rcases h with h | h; (· exact e3 h); (· exact h e4)); (· first | (rw [hlo, hfr] at c_14; exact Or.inl c_14) | exact Or.inr (fun z => c_21 (by rw [show fp = 0 from z]; rfl)))); rw [hL]; exact ⟨Or.inr (Or.inr ⟨rfl, rfl⟩), hR⟩) (Nat.le_of_ble_eq_true rfl) (Nat.le_of_ble_eq_true rfl)
set_option maxHeartbeats 4000000 in
set_option maxRecDepth 100000 in
theorem c_X2_count (l : Launch) (D : va_G) (cI cD : ClassId) (ad : Nat → Nat) (sz : Nat) (V : vT) (ct : Nat → Nat → Int32) (md fd : Bool) (n : Nat) (wide : Bool) (dn : Nat) (st : Bool) (num : Nat) (lost fresh : Int32) (fp : Nat) (sh : Int32) (hR : cR V (ct, (md, fd), (n, wide, dn, st, num), (lost, fresh), (fp, sh))) (B : Nat) (hB : B < 10000) (hWF : WF B (ct, (md, fd), (n, wide, dn, st, num), (lost, fresh), (fp, sh))) (w : Int32) : Met l yX2_count wsX2_count ({ frames := 1, cells := 0, slots := 0, locals := 20 }) (gP D cI cD 47 ad (cF cI cD ad) sz V [.ref (ad 0), .int w]) (va_Qi (fun (r : Int32) (V1 : vT) => V = V1 ∧ oCount (ct, (md, fd), (n, wide, dn, st, num), (lost, fresh), (fp, sh)) w = r) (gB D 47 ad (cF cI cD ad)) (gA 47 ad sz)) 0 0 (gA 47 ad sz) := by
  refine w_met (cc := cX2_count) (maxL := 2) (ret := (some .int)) (by decide) rfl (Nat.le_of_ble_eq_true rfl) ?_
  intro p e s m below meth c hx hb hr hts hown hlocks hml hsz hK hw ls hl
  subst hsz
  have hown : s.vm.findClass RX2 = some m.cls := hown
  have hi1 : ∀ w ∈ wsX10, w ∈ wsX2_count := by decide +kernel
  have hi2 : ∀ w ∈ wsX20, w ∈ wsX2_count := by decide +kernel
  have hl : lv_has ls 2 [(0, .ref (ad 0)), (1, .int w)] := hl
  obtain ⟨hmd, hfd, hlo, hfr, hfp8, hsh, hQ0, hdc⟩ := hR.pt
  refine lv_iload_n hx hb dX2_count_0 rfl (lv_at hl 1 rfl) ?_
  refine lv_bipush (v := nI 7) hx hb dX2_count_1 (by decide) ?_
  refine lv_icmp_ne (tgt := 19) hx hb dX2_count_3 (by decide) (fun c_3 => ?_) (fun c_3 => ?_)
  · refine lv_aload_n hx hb dX2_count_19 rfl (lv_at hl 0 rfl) ?_
    refine w_get (ci := 2) (C := RX2) (T := TX2) (M := 10) (v := .int (bI md)) hx hb hts hi2 hown hK hw 0 (by omega) _ (cF_0 _) rfl 4 (by decide) (hts (.fieldLink RX2 47 "WideningArray" "made" "Z") (by decide +kernel)) (congrArg (fun z => some (Value.int z)) (show V 0 4 = bI md from hmd)) dX2_count_20 ?_
    refine lv_if_eq (tgt := 33) hx hb dX2_count_23 (by decide) (fun c_23 => ?_) (fun c_23 => ?_)
    · refine lv_iconst (v := (-1)) hx hb dX2_count_33 (by decide) ?_
      exact w_iret hx hb hr hlocks hw (⟨rfl, by rw [oCount, if_neg c_3, if_neg]; intro h; first | (have h1 := bI_0.mp c_23; rw [show md = true from h.1] at h1; exact absurd h1 (by decide)) | (have h1 := bI_n0.mp c_30; rw [show fd = false from h.2] at h1; exact absurd h1 (by decide))⟩) dX2_count_34
    · refine lv_aload_n hx hb dX2_count_26 rfl (lv_at hl 0 rfl) ?_
      refine w_get (ci := 2) (C := RX2) (T := TX2) (M := 10) (v := .int (bI fd)) hx hb hts hi2 hown hK hw 0 (by omega) _ (cF_0 _) rfl 5 (by decide) (hts (.fieldLink RX2 51 "WideningArray" "failed" "Z") (by decide +kernel)) (congrArg (fun z => some (Value.int z)) (show V 0 5 = bI fd from hfd)) dX2_count_27 ?_
      refine lv_if_eq (tgt := 35) hx hb dX2_count_30 (by decide) (fun c_30 => ?_) (fun c_30 => ?_)
      · have e1 : md = true := bI_n0.mp c_23
        have e2 : fd = false := bI_0.mp c_30
        obtain ⟨hnum, hn, hwd, hdn, hst⟩ := hR.sv e1 e2
        obtain ⟨hn3, hn6, hwn, hd32, hsw, hnum1, hnumB, hlo9, hfr9, hlf9, hfp9, hex9⟩ := hWF.sv e1 e2
        refine lv_iload_n hx hb dX2_count_35 rfl (lv_at hl 1 rfl) ?_
        by_cases s0 : w = nI 0
        · subst s0
          refine lv_tableIn (off := 44) (tgt := 80) hx hb dX2_count_36 (by decide) (by decide) (by decide +kernel) (by decide) ?_
          refine lv_aload_n hx hb dX2_count_80 rfl (lv_at hl 0 rfl) ?_
          refine w_calli hw (va_runV (As := []) (rest := []) ⟨hx, hb, hml, hown, hts⟩ (c_X2_diskCount l D cI cD ad _ V n (show V 2 1 = nI n from hn) wide (show V 2 2 = bI wide from hwd)) (cwV 0 hts gX2_count_X2_diskCount rfl rfl rfl (by decide +kernel) ⟨Nat.le_of_ble_eq_true rfl, Nat.le_of_ble_eq_true rfl⟩) (w_preV hK hw (by omega) (cF_0 _) rfl _) rfl rfl hl.1 rfl (lv_room (Nat.le_of_ble_eq_true rfl)) dX2_count_81 ⟨Nat.le_of_ble_eq_true rfl, Nat.le_of_ble_eq_true rfl⟩) (fun r_2 V_1 H locs hp hw => ?_)
          obtain ⟨e9, e8⟩ := hp
          subst e9
          subst e8
          exact w_iret hx hb hr hlocks hw (⟨rfl, by rw [oCount, if_neg c_3, if_pos ⟨e1, e2⟩, if_pos rfl]⟩) dX2_count_84
        by_cases s1 : w = nI 1
        · subst s1
          refine lv_tableIn (off := 49) (tgt := 85) hx hb dX2_count_36 (by decide) (by decide) (by decide +kernel) (by decide) ?_
          refine lv_aload_n hx hb dX2_count_85 rfl (lv_at hl 0 rfl) ?_
          refine w_calli hw (va_runV (As := []) (rest := []) ⟨hx, hb, hml, hown, hts⟩ (c_X2_capacity l D cI cD ad _ V n (show V 2 1 = nI n from hn) (by omega)) (cwV 0 hts gX2_count_X2_capacity rfl rfl rfl (by decide +kernel) ⟨Nat.le_of_ble_eq_true rfl, Nat.le_of_ble_eq_true rfl⟩) (w_preV hK hw (by omega) (cF_0 _) rfl _) rfl rfl hl.1 rfl (lv_room (Nat.le_of_ble_eq_true rfl)) dX2_count_86 ⟨Nat.le_of_ble_eq_true rfl, Nat.le_of_ble_eq_true rfl⟩) (fun r_4 V_3 H locs hp hw => ?_)
          obtain ⟨e9, e8⟩ := hp
          subst e9
          subst e8
          exact w_iret hx hb hr hlocks hw (⟨rfl, by rw [oCount, if_neg c_3, if_pos ⟨e1, e2⟩, if_neg (by decide), if_pos rfl]⟩) dX2_count_89
        by_cases s2 : w = nI 2
        · subst s2
          refine lv_tableIn (off := 54) (tgt := 90) hx hb dX2_count_36 (by decide) (by decide) (by decide +kernel) (by decide) ?_
          refine lv_aload_n hx hb dX2_count_90 rfl (lv_at hl 0 rfl) ?_
          refine w_get (ci := 2) (C := RX2) (T := TX2) (M := 10) (v := .ref (ad 2)) hx hb hts hi2 hown hK hw 0 (by omega) _ (cF_0 _) rfl 1 (by decide) (hts (.fieldLink RX2 18 "WideningArray" "now" "LWideningArray$Marks;") (by decide +kernel)) rfl dX2_count_91 ?_
          refine w_getN (ci := 1) (C := RX1) (T := TX1) (M := 5) (v := .int (nI dn)) hx hb hts hi1 hown hK hw 2 (by omega) _ (cF_2 _) rfl 3 (by decide) (va_Nw.use rfl (hK.2 (.fieldLinkNest "WideningArray" 110 "WideningArray$Marks" "done" "I" "WideningArray") (by decide +kernel))) (congrArg (fun z => some (Value.int z)) (show V 2 3 = nI dn from hdn)) dX2_count_94 ?_
          exact w_iret hx hb hr hlocks hw (⟨rfl, by rw [oCount, if_neg c_3, if_pos ⟨e1, e2⟩, if_neg (by decide), if_neg (by decide), if_pos rfl]⟩) dX2_count_97
        by_cases s3 : w = nI 3
        · subst s3
          refine lv_tableIn (off := 62) (tgt := 98) hx hb dX2_count_36 (by decide) (by decide) (by decide +kernel) (by decide) ?_
          refine lv_aload_n hx hb dX2_count_98 rfl (lv_at hl 0 rfl) ?_
          refine w_get (ci := 2) (C := RX2) (T := TX2) (M := 10) (v := .ref (ad 2)) hx hb hts hi2 hown hK hw 0 (by omega) _ (cF_0 _) rfl 1 (by decide) (hts (.fieldLink RX2 18 "WideningArray" "now" "LWideningArray$Marks;") (by decide +kernel)) rfl dX2_count_99 ?_
          refine w_getN (ci := 1) (C := RX1) (T := TX1) (M := 5) (v := .int (bI wide)) hx hb hts hi1 hown hK hw 2 (by omega) _ (cF_2 _) rfl 2 (by decide) (va_Nw.use rfl (hK.2 (.fieldLinkNest "WideningArray" 102 "WideningArray$Marks" "widened" "Z" "WideningArray") (by decide +kernel))) (congrArg (fun z => some (Value.int z)) (show V 2 2 = bI wide from hwd)) dX2_count_102 ?_
          refine lv_if_eq (tgt := 112) hx hb dX2_count_105 (by decide) (fun c_105 => ?_) (fun c_105 => ?_)
          · refine lv_iconst (v := nI 0) hx hb dX2_count_112 (by decide) ?_
            exact w_iret hx hb hr hlocks hw (⟨rfl, by rw [oCount, if_neg c_3, if_pos ⟨e1, e2⟩, if_neg (by decide), if_neg (by decide), if_neg (by decide), if_pos rfl]; first | (rw [show (ct, (md, fd), (n, wide, dn, st, num), (lost, fresh), (fp, sh)).2.2.1.2.1 = wide from rfl, bI_0.mp c_105]; rfl) | (rw [show (ct, (md, fd), (n, wide, dn, st, num), (lost, fresh), (fp, sh)).2.2.1.2.1 = wide from rfl, bI_n0.mp c_105]; rfl)⟩) dX2_count_113
          · refine lv_iconst (v := nI 1) hx hb dX2_count_108 (by decide) ?_
            refine lv_goto (tgt := 113) hx hb dX2_count_109 (by decide) ?_
            exact w_iret hx hb hr hlocks hw (⟨rfl, by rw [oCount, if_neg c_3, if_pos ⟨e1, e2⟩, if_neg (by decide), if_neg (by decide), if_neg (by decide), if_pos rfl]; first | (rw [show (ct, (md, fd), (n, wide, dn, st, num), (lost, fresh), (fp, sh)).2.2.1.2.1 = wide from rfl, bI_0.mp c_105]; rfl) | (rw [show (ct, (md, fd), (n, wide, dn, st, num), (lost, fresh), (fp, sh)).2.2.1.2.1 = wide from rfl, bI_n0.mp c_105]; rfl)⟩) dX2_count_113
        by_cases s4 : w = nI 4
        · subst s4
          refine lv_tableIn (off := 78) (tgt := 114) hx hb dX2_count_36 (by decide) (by decide) (by decide +kernel) (by decide) ?_
          refine lv_aload_n hx hb dX2_count_114 rfl (lv_at hl 0 rfl) ?_
          refine w_get (ci := 2) (C := RX2) (T := TX2) (M := 10) (v := .ref (ad 2)) hx hb hts hi2 hown hK hw 0 (by omega) _ (cF_0 _) rfl 1 (by decide) (hts (.fieldLink RX2 18 "WideningArray" "now" "LWideningArray$Marks;") (by decide +kernel)) rfl dX2_count_115 ?_
          refine w_getN (ci := 1) (C := RX1) (T := TX1) (M := 5) (v := .int (bI st)) hx hb hts hi1 hown hK hw 2 (by omega) _ (cF_2 _) rfl 4 (by decide) (va_Nw.use rfl (hK.2 (.fieldLinkNest "WideningArray" 113 "WideningArray$Marks" "stashed" "Z" "WideningArray") (by decide +kernel))) (congrArg (fun z => some (Value.int z)) (show V 2 4 = bI st from hst)) dX2_count_118 ?_
          refine lv_if_eq (tgt := 128) hx hb dX2_count_121 (by decide) (fun c_121 => ?_) (fun c_121 => ?_)
          · refine lv_iconst (v := nI 0) hx hb dX2_count_128 (by decide) ?_
            exact w_iret hx hb hr hlocks hw (⟨rfl, by rw [oCount, if_neg c_3, if_pos ⟨e1, e2⟩, if_neg (by decide), if_neg (by decide), if_neg (by decide), if_neg (by decide), if_pos rfl]; first | (rw [show (ct, (md, fd), (n, wide, dn, st, num), (lost, fresh), (fp, sh)).2.2.1.2.2.2.1 = st from rfl, bI_0.mp c_121]; rfl) | (rw [show (ct, (md, fd), (n, wide, dn, st, num), (lost, fresh), (fp, sh)).2.2.1.2.2.2.1 = st from rfl, bI_n0.mp c_121]; rfl)⟩) dX2_count_129
          · refine lv_iconst (v := nI 1) hx hb dX2_count_124 (by decide) ?_
            refine lv_goto (tgt := 129) hx hb dX2_count_125 (by decide) ?_
            exact w_iret hx hb hr hlocks hw (⟨rfl, by rw [oCount, if_neg c_3, if_pos ⟨e1, e2⟩, if_neg (by decide), if_neg (by decide), if_neg (by decide), if_neg (by decide), if_pos rfl]; first | (rw [show (ct, (md, fd), (n, wide, dn, st, num), (lost, fresh), (fp, sh)).2.2.1.2.2.2.1 = st from rfl, bI_0.mp c_121]; rfl) | (rw [show (ct, (md, fd), (n, wide, dn, st, num), (lost, fresh), (fp, sh)).2.2.1.2.2.2.1 = st from rfl, bI_n0.mp c_121]; rfl)⟩) dX2_count_129
        by_cases s5 : w = nI 5
        · subst s5
          refine lv_tableIn (off := 94) (tgt := 130) hx hb dX2_count_36 (by decide) (by decide) (by decide +kernel) (by decide) ?_
          refine lv_aload_n hx hb dX2_count_130 rfl (lv_at hl 0 rfl) ?_
          refine w_get (ci := 2) (C := RX2) (T := TX2) (M := 10) (v := .int lost) hx hb hts hi2 hown hK hw 0 (by omega) _ (cF_0 _) rfl 6 (by decide) (hts (.fieldLink RX2 29 "WideningArray" "lost" "I") (by decide +kernel)) (congrArg (fun z => some (Value.int z)) (show V 0 6 = lost from hlo)) dX2_count_131 ?_
          exact w_iret hx hb hr hlocks hw (⟨rfl, by rw [oCount, if_neg c_3, if_pos ⟨e1, e2⟩, if_neg (by decide), if_neg (by decide), if_neg (by decide), if_neg (by decide), if_neg (by decide), if_pos rfl]⟩) dX2_count_134
        by_cases s6 : w = nI 6
        · subst s6
          refine lv_tableIn (off := 99) (tgt := 135) hx hb dX2_count_36 (by decide) (by decide) (by decide +kernel) (by decide) ?_
          refine lv_aload_n hx hb dX2_count_135 rfl (lv_at hl 0 rfl) ?_
          refine w_get (ci := 2) (C := RX2) (T := TX2) (M := 10) (v := .int fresh) hx hb hts hi2 hown hK hw 0 (by omega) _ (cF_0 _) rfl 7 (by decide) (hts (.fieldLink RX2 33 "WideningArray" "replaced" "I") (by decide +kernel)) (congrArg (fun z => some (Value.int z)) (show V 0 7 = fresh from hfr)) dX2_count_136 ?_
          exact w_iret hx hb hr hlocks hw (⟨rfl, by rw [oCount, if_neg c_3, if_pos ⟨e1, e2⟩, if_neg (by decide), if_neg (by decide), if_neg (by decide), if_neg (by decide), if_neg (by decide), if_neg (by decide), if_pos rfl]⟩) dX2_count_139
        refine lv_tableOut (tgt := 140) hx hb dX2_count_36 (tsw_out (fun k hk => by rcases (show k = 0 ∨ k = 1 ∨ k = 2 ∨ k = 3 ∨ k = 4 ∨ k = 5 ∨ k = 6 by omega) with rfl | rfl | rfl | rfl | rfl | rfl | rfl <;> assumption)) (by decide) ?_
        refine lv_iconst (v := (-1)) hx hb dX2_count_140 (by decide) ?_
        exact w_iret hx hb hr hlocks hw (⟨rfl, by rw [oCount, if_neg c_3, if_pos ⟨e1, e2⟩, if_neg s0, if_neg s1, if_neg s2, if_neg s3, if_neg s4, if_neg s5, if_neg s6]⟩) dX2_count_141
      · refine lv_iconst (v := (-1)) hx hb dX2_count_33 (by decide) ?_
        exact w_iret hx hb hr hlocks hw (⟨rfl, by rw [oCount, if_neg c_3, if_neg]; intro h; first | (have h1 := bI_0.mp c_23; rw [show md = true from h.1] at h1; exact absurd h1 (by decide)) | (have h1 := bI_n0.mp c_30; rw [show fd = false from h.2] at h1; exact absurd h1 (by decide))⟩) dX2_count_34
  · refine lv_aload_n hx hb dX2_count_6 rfl (lv_at hl 0 rfl) ?_
    refine w_get (ci := 2) (C := RX2) (T := TX2) (M := 10) (v := .int (bI fd)) hx hb hts hi2 hown hK hw 0 (by omega) _ (cF_0 _) rfl 5 (by decide) (hts (.fieldLink RX2 51 "WideningArray" "failed" "Z") (by decide +kernel)) (congrArg (fun z => some (Value.int z)) (show V 0 5 = bI fd from hfd)) dX2_count_7 ?_
    refine lv_if_eq (tgt := 17) hx hb dX2_count_10 (by decide) (fun c_10 => ?_) (fun c_10 => ?_)
    · refine lv_iconst (v := nI 0) hx hb dX2_count_17 (by decide) ?_
      exact w_iret hx hb hr hlocks hw (⟨rfl, by rw [oCount, if_pos c_3]; first | (rw [show (ct, (md, fd), (n, wide, dn, st, num), (lost, fresh), (fp, sh)).2.1.2 = fd from rfl, bI_0.mp c_10]; rfl) | (rw [show (ct, (md, fd), (n, wide, dn, st, num), (lost, fresh), (fp, sh)).2.1.2 = fd from rfl, bI_n0.mp c_10]; rfl)⟩) dX2_count_18
    · refine lv_iconst (v := nI 1) hx hb dX2_count_13 (by decide) ?_
      refine lv_goto (tgt := 18) hx hb dX2_count_14 (by decide) ?_
      exact w_iret hx hb hr hlocks hw (⟨rfl, by rw [oCount, if_pos c_3]; first | (rw [show (ct, (md, fd), (n, wide, dn, st, num), (lost, fresh), (fp, sh)).2.1.2 = fd from rfl, bI_0.mp c_10]; rfl) | (rw [show (ct, (md, fd), (n, wide, dn, st, num), (lost, fresh), (fp, sh)).2.1.2 = fd from rfl, bI_n0.mp c_10]; rfl)⟩) dX2_count_18
