set_option maxHeartbeats 4000000 in
set_option maxRecDepth 100000 in
theorem c_X2_rebuild (l : Launch) (hlt : l.stackTraces = false) (D : va_G) (cI cD : ClassId) (ad : Nat → Nat) (sz : Nat) (V : vT) (ct : Nat → Nat → Int32) (md fd : Bool) (n : Nat) (wide : Bool) (dn : Nat) (st : Bool) (num : Nat) (lost fresh : Int32) (fp : Nat) (sh : Int32) (hR : cR V (ct, (md, fd), (n, wide, dn, st, num), (lost, fresh), (fp, sh))) (B : Nat) (hB : B < 10000) (hWF : WF B (ct, (md, fd), (n, wide, dn, st, num), (lost, fresh), (fp, sh))) : vx_Met l yX2_rebuild wsX2_rebuild ({ frames := 7, cells := 4, slots := 24, locals := 110 }) (gPx D cI cD 47 ad (cF cI cD ad) sz V [.ref (ad 0)]) (va_Qi (fun (r : Int32) (V1 : vT) => (oRebuild (ct, (md, fd), (n, wide, dn, st, num), (lost, fresh), (fp, sh))).1 = 0 ∧ (oRebuild (ct, (md, fd), (n, wide, dn, st, num), (lost, fresh), (fp, sh))).2.1 = r ∧ cR V1 (oRebuild (ct, (md, fd), (n, wide, dn, st, num), (lost, fresh), (fp, sh))).2.2) (gB D 47 ad (cF cI cD ad)) (gA 47 ad sz)) (gX D 47 ad (cF cI cD ad) sz (fun E V1 => ((E = "java/lang/IllegalStateException" ∧ (oRebuild (ct, (md, fd), (n, wide, dn, st, num), (lost, fresh), (fp, sh))).1 = 1) ∨ (E = "java/lang/IllegalArgumentException" ∧ (oRebuild (ct, (md, fd), (n, wide, dn, st, num), (lost, fresh), (fp, sh))).1 = 2)) ∧ cR V1 (oRebuild (ct, (md, fd), (n, wide, dn, st, num), (lost, fresh), (fp, sh))).2.2)) 4 24 (gA 47 ad sz) := by
  refine w_xmet (cc := cX2_rebuild) (maxL := 2) (ret := (some .int)) (by decide) rfl (Nat.le_of_ble_eq_true rfl) ?_
  intro p e s m below meth c hx hb hr hts hown hlocks hml hsz hK hw hT9 hZ hout ls hl
  subst hsz
  have hown : s.vm.findClass RX2 = some m.cls := hown
  have hi2 : ∀ w ∈ wsX20, w ∈ wsX2_rebuild := by decide +kernel
  have hl : lv_has ls 2 [(0, .ref (ad 0))] := hl
  obtain ⟨hmd, hfd, hlo, hfr, hfp8, hsh, hQ0, hdc⟩ := hR.pt
  refine lv_aload_n hx hb dX2_rebuild_0 rfl (lv_at hl 0 rfl) ?_
  refine w_xcallv hw (vx_runV (As := []) (rest := []) ⟨hx, hb, hml, hown, hts⟩ (c_X2_checkServing l hlt D cI cD ad _ V md hmd fd hfd) (cwV 0 hts gX2_rebuild_X2_checkServing rfl rfl rfl (by decide +kernel) ⟨Nat.le_of_ble_eq_true rfl, Nat.le_of_ble_eq_true rfl⟩) (w_xpreV hK hT9 hZ hw (by omega) (cF_0 _) rfl _) rfl rfl hl.1 rfl (lv_room (Nat.le_of_ble_eq_true rfl)) dX2_rebuild_1 ⟨Nat.le_of_ble_eq_true rfl, Nat.le_of_ble_eq_true rfl⟩) (fun E9 ce9 q9 V9 H locs hp hw h1 h2 h3 => ?_) (fun V_1 H locs hp hw => ?_)
  · exact w_xout hout hlocks h1 h2 h3 hw (by obtain ⟨e9, e8, e7⟩ := hp; subst e9; subst e8; have hL : oRebuild (ct, (md, fd), (n, wide, dn, st, num), (lost, fresh), (fp, sh)) = (1, 0, (ct, (md, fd), (n, wide, dn, st, num), (lost, fresh), (fp, sh))) := (by rw [oRebuild, ifS_n (a := (ct, (md, fd), (n, wide, dn, st, num), (lost, fresh), (fp, sh))) e7]); rw [hL]; exact ⟨Or.inl ⟨rfl, rfl⟩, hR⟩) (Nat.le_of_ble_eq_true rfl) (Nat.le_of_ble_eq_true rfl)
  obtain ⟨e9, e1, e2⟩ := hp
  subst e9
  obtain ⟨hnum, hn, hwd, hdn, hst⟩ := hR.sv e1 e2
  obtain ⟨hn3, hn6, hwn, hd32, hsw, hnum1, hnumB, hlo9, hfr9, hlf9, hfp9, hex9⟩ := hWF.sv e1 e2
  have hkw6 := kw_le hn6 hwn
  have hkwn := kw_ge (n := n) (wide := wide)
  refine lv_aload_n hx hb dX2_rebuild_4 rfl (lv_at hl 0 rfl) ?_
  refine w_get (ci := 2) (C := RX2) (T := TX2) (M := 10) (v := .int fresh) hx hb hts hi2 hown hK hw 0 (by omega) _ (cF_0 _) rfl 7 (by decide) (hts (.fieldLink RX2 33 "WideningArray" "replaced" "I") (by decide +kernel)) (congrArg (fun z => some (Value.int z)) (show V 0 7 = fresh from hfr)) dX2_rebuild_5 ?_
  refine lv_iconst (v := (-1)) hx hb dX2_rebuild_8 (by decide) ?_
  refine lv_icmp_ne (tgt := 22) hx hb dX2_rebuild_9 (by decide) (fun c_9 => ?_) (fun c_9 => ?_)
  · have hlo1 : lost = -1 := hlf9.resolve_right c_9
    obtain ⟨dd9, hdd9, e12⟩ := hfr9.resolve_left c_9
    subst e12
    have hsdd : sd (ab lost (nI dd9)) n = if dd9 = n then 0 else n := by rw [ab, if_pos hlo1, sd]; by_cases q : dd9 = n; (· rw [if_pos q, if_pos (by rw [q])]); (· rw [if_neg q, if_neg (fun h => q ((nI_eq (by omega) (by omega)).mp h))])
    refine lv_aload_n hx hb dX2_rebuild_22 rfl (lv_at hl 0 rfl) ?_
    refine w_get (ci := 2) (C := RX2) (T := TX2) (M := 10) (v := .int (nI dd9)) hx hb hts hi2 hown hK hw 0 (by omega) _ (cF_0 _) rfl 7 (by decide) (hts (.fieldLink RX2 33 "WideningArray" "replaced" "I") (by decide +kernel)) (congrArg (fun z => some (Value.int z)) (show V 0 7 = nI dd9 from hfr)) dX2_rebuild_23 ?_
    refine lv_istore_n (lv' := [(1, .int (nI dd9)), (0, .ref (ad 0))]) hx hb dX2_rebuild_26 rfl hl (by decide) rfl (fun ls hl => ?_)
    refine lv_aload_n hx hb dX2_rebuild_27 rfl (lv_at hl 1 rfl) ?_
    refine lv_iload_n hx hb dX2_rebuild_28 rfl (lv_at hl 0 rfl) ?_
    refine w_callv hw (va_runV (As := [.int (nI dd9)]) (rest := []) ⟨hx, hb, hml, hown, hts⟩ (c_X2_rebuildDataRows l D cI cD ad _ V n (show V 2 1 = nI n from hn) wide (show V 2 2 = bI wide from hwd) dn (show V 2 3 = nI dn from hdn) st (show V 2 4 = bI st from hst) hn3 hn6 hd32 hwn dd9 (by omega)) (cwV 1 hts gX2_rebuild_X2_rebuildDataRows rfl rfl rfl (by decide +kernel) ⟨Nat.le_of_ble_eq_true rfl, Nat.le_of_ble_eq_true rfl⟩) (w_preV hK hw (by omega) (cF_0 _) rfl _) rfl rfl hl.1 rfl (lv_room (Nat.le_of_ble_eq_true rfl)) dX2_rebuild_29 ⟨Nat.le_of_ble_eq_true rfl, Nat.le_of_ble_eq_true rfl⟩) (fun V_2 H locs hp hw => ?_)
    have p1 := hp
    clear hp
    refine lv_aload_n hx hb dX2_rebuild_32 rfl (lv_at hl 1 rfl) ?_
    refine lv_iload_n hx hb dX2_rebuild_33 rfl (lv_at hl 0 rfl) ?_
    refine w_callv hw (va_runV (As := [.int (nI dd9)]) (rest := []) ⟨hx, hb, hml, hown, hts⟩ (c_X2_rebuildStash l D cI cD ad _ V_2 n (show V_2 2 1 = nI n from by rw [p1.1 2 (by omega)]; exact hn) st (show V_2 2 4 = bI st from by rw [p1.1 2 (by omega)]; exact hst) hn3 hn6 (fun h => hwn (hsw h)) dd9 (by omega) (fun h => by rw [p1.1 0 (by omega), hlo, hfr, hsdd]; split <;> omega)) (cwV 1 hts gX2_rebuild_X2_rebuildStash rfl rfl rfl (by decide +kernel) ⟨Nat.le_of_ble_eq_true rfl, Nat.le_of_ble_eq_true rfl⟩) (w_preV hK hw (by omega) (cF_0 _) rfl _) rfl rfl hl.1 rfl (lv_room (Nat.le_of_ble_eq_true rfl)) dX2_rebuild_34 ⟨Nat.le_of_ble_eq_true rfl, Nat.le_of_ble_eq_true rfl⟩) (fun V_3 H locs hp hw => ?_)
    have p2 := hp
    clear hp
    rw [p1.1 0 (by omega), hlo, hfr, hsdd] at p2
    refine lv_aload_n hx hb dX2_rebuild_37 rfl (lv_at hl 1 rfl) ?_
    refine w_get (ci := 2) (C := RX2) (T := TX2) (M := 10) (v := .ref (ad 1)) hx hb hts hi2 hown hK hw 0 (by omega) _ (cF_0 _) rfl 0 (by decide) (hts (.fieldLink RX2 11 "WideningArray" "disks" "[LWideningArray$Disk;") (by decide +kernel)) rfl dX2_rebuild_38 ?_
    refine lv_iload_n hx hb dX2_rebuild_41 rfl (lv_at hl 0 rfl) ?_
    refine w_aald hx hb hK hw 1 6 (by omega) (cF_1 _) (i := dd9) (by omega) (by decide) rfl dX2_rebuild_42 ?_
    refine lv_aload_n hx hb dX2_rebuild_43 rfl (lv_at hl 1 rfl) ?_
    refine w_get (ci := 2) (C := RX2) (T := TX2) (M := 10) (v := .ref (ad 2)) hx hb hts hi2 hown hK hw 0 (by omega) _ (cF_0 _) rfl 1 (by decide) (hts (.fieldLink RX2 18 "WideningArray" "now" "LWideningArray$Marks;") (by decide +kernel)) rfl dX2_rebuild_44 ?_
    refine w_callv hw (va_runV (As := [.ref (ad 2)]) (rest := []) ⟨hx, hb, hml, hown, hts⟩ (c_X0_setMarks l D cI cD ad _ V_3 dd9 (by omega) 2 (by omega) cF_2 (by rw [show V_3 2 2 = bI wide from by rw [p2.1 2 (by omega)]; rw [p1.1 2 (by omega)]; exact hwd]; exact isB_bI _) (by rw [show V_3 2 4 = bI st from by rw [p2.1 2 (by omega)]; rw [p1.1 2 (by omega)]; exact hst]; exact isB_bI _)) (cwV 1 hts gX2_rebuild_X0_setMarks rfl rfl rfl (by decide +kernel) ⟨Nat.le_of_ble_eq_true rfl, Nat.le_of_ble_eq_true rfl⟩) (w_preV hK hw (by omega) (cF_d0 dd9 _) rfl _) rfl rfl hl.1 rfl (lv_room (Nat.le_of_ble_eq_true rfl)) dX2_rebuild_47 ⟨Nat.le_of_ble_eq_true rfl, Nat.le_of_ble_eq_true rfl⟩) (fun V_4 H locs hp hw => ?_)
    have p3 := hp
    clear hp
    refine lv_aload_n hx hb dX2_rebuild_50 rfl (lv_at hl 1 rfl) ?_
    refine lv_iconst (v := (-1)) hx hb dX2_rebuild_51 (by decide) ?_
    refine w_put (ci := 2) (C := RX2) (T := TX2) (M := 10) (x := (-1)) (ty := .int) hx hb hts hi2 tyX2 tyX2_ok nmX2 hown hK hw 0 (by omega) _ (cF_0 _) rfl 7 (by decide) (hts (.fieldLink RX2 33 "WideningArray" "replaced" "I") (by decide +kernel)) rfl (by decide +kernel) rfl rfl (Nat.le_of_ble_eq_true rfl) (cF_0 _) dX2_rebuild_52 (fun H locs hw => ?_)
    obtain ⟨V_5, hV_5⟩ : ∃ z : vT, z = u2 V_4 0 7 (-1) := ⟨_, rfl⟩
    rw [← hV_5] at hw
    refine lv_iload_n hx hb dX2_rebuild_55 rfl (lv_at hl 0 rfl) ?_
    exact vx_ret (W.widen (k := 4) (n := 24) (Nat.le_of_ble_eq_true rfl) (Nat.le_of_ble_eq_true rfl) (w_iret hx hb hr hlocks hw (by have hL : oRebuild (ct, (md, fd), (n, wide, dn, st, num), (lost, nI dd9), (fp, sh)) = (0, nI dd9, (rbc ct n wide dn st num dd9, (md, fd), (n, wide, dn, st, num), (lost, -1), (fp, sh))) := (by rw [oRebuild, ifS_y (a := (ct, (md, fd), (n, wide, dn, st, num), (lost, nI dd9), (fp, sh))) e1 e2]; refine (if_neg c_9).trans (by rw [nI_clamp (by omega)])); rw [hL]; exact ⟨rfl, rfl, cR_rebuild hR e1 e2 (by omega) hn3 hn6 hwn hsw p1 p2 p3 hV_5⟩) dX2_rebuild_56))
  · obtain ⟨sa9, hsa9⟩ := hT9.2 (140, "no disk is replaced") (by decide +kernel)
    exact w_throw (own := RX2) (cls := "java/lang/IllegalArgumentException") (text := "no disk is replaced") (names := ["java/lang/RuntimeException", "java/lang/Exception"]) (sa := sa9) hx hb hlt hown (by decide +kernel) (by decide +kernel) (hts (.classLink RX2 37 "java/lang/IllegalArgumentException") (by decide +kernel)) (hts (.initialized "java/lang/IllegalArgumentException") (by decide +kernel)) hsa9 (vx_hat (L := vx_atS RX2 41 "java/lang/IllegalArgumentException" ["java/lang/RuntimeException", "java/lang/Exception"]) (B := [.castable "java/lang/IllegalArgumentException" "java/lang/IllegalArgumentException", .declares ⟨"java/lang/RuntimeException", "<init>", "(Ljava/lang/String;)V"⟩, .declares ⟨"java/lang/Exception", "<init>", "(Ljava/lang/String;)V"⟩, .declares ⟨"java/lang/Throwable", "<init>", "(Ljava/lang/String;)V"⟩]) (fun w hw => hts w ((by decide +kernel : ∀ w ∈ (vx_atS RX2 41 "java/lang/IllegalArgumentException" ["java/lang/RuntimeException", "java/lang/Exception"]).filter goodWord, w ∈ wsX2_rebuild) w hw)) (by decide +kernel) (vx_c (va_Nw.use rfl (hT9.1 (.castable "java/lang/IllegalArgumentException" "java/lang/IllegalArgumentException") (by decide +kernel))) (vx_c (va_Nw.use rfl (hT9.1 (.declares ⟨"java/lang/RuntimeException", "<init>", "(Ljava/lang/String;)V"⟩) (by decide +kernel))) (vx_c (va_Nw.use rfl (hT9.1 (.declares ⟨"java/lang/Exception", "<init>", "(Ljava/lang/String;)V"⟩) (by decide +kernel))) (vx_c (va_Nw.use rfl (hT9.1 (.declares ⟨"java/lang/Throwable", "<init>", "(Ljava/lang/String;)V"⟩) (by decide +kernel))) (vx_n)))))) (by decide +kernel) hZ hw (hl.1.trans hml.symm) dX2_rebuild_12 dX2_rebuild_15 dX2_rebuild_16 dX2_rebuild_18 dX2_rebuild_21 hout (Nat.le_of_ble_eq_true rfl) (Nat.le_of_ble_eq_true rfl) (Nat.le_of_ble_eq_true rfl) (Nat.le_of_ble_eq_true rfl) hlocks (by have hL : oRebuild (ct, (md, fd), (n, wide, dn, st, num), (lost, fresh), (fp, sh)) = (2, 0, (ct, (md, fd), (n, wide, dn, st, num), (lost, fresh), (fp, sh))) := (by rw [oRebuild, ifS_y (a := (ct, (md, fd), (n, wide, dn, st, num), (lost, fresh), (fp, sh))) e1 e2]; exact if_pos c_9); rw [hL]; exact ⟨Or.inr ⟨rfl, rfl⟩, hR⟩) (Nat.le_of_ble_eq_true rfl) (Nat.le_of_ble_eq_true rfl)
set_option maxHeartbeats 4000000 in
set_option maxRecDepth 100000 in
theorem c_X2_start (l : Launch) (hlt : l.stackTraces = false) (D : va_G) (cI cD : ClassId) (ad : Nat → Nat) (sz : Nat) (V : vT) (ct : Nat → Nat → Int32) (md fd : Bool) (n : Nat) (wide : Bool) (dn : Nat) (st : Bool) (num : Nat) (lost fresh : Int32) (fp : Nat) (sh : Int32) (hR : cR V (ct, (md, fd), (n, wide, dn, st, num), (lost, fresh), (fp, sh))) (B : Nat) (hB : B < 10000) (hWF : WF B (ct, (md, fd), (n, wide, dn, st, num), (lost, fresh), (fp, sh))) : vx_Met l yX2_start wsX2_start ({ frames := 6, cells := 4, slots := 24, locals := 94 }) (gPx D cI cD 47 ad (cF cI cD ad) sz V [.ref (ad 0)]) (va_Qi (fun (r : Int32) (V1 : vT) => (oStart (ct, (md, fd), (n, wide, dn, st, num), (lost, fresh), (fp, sh))).1 = 0 ∧ (oStart (ct, (md, fd), (n, wide, dn, st, num), (lost, fresh), (fp, sh))).2.1 = r ∧ cR V1 (oStart (ct, (md, fd), (n, wide, dn, st, num), (lost, fresh), (fp, sh))).2.2) (gB D 47 ad (cF cI cD ad)) (gA 47 ad sz)) (gX D 47 ad (cF cI cD ad) sz (fun E V1 => (E = "java/lang/IllegalStateException" ∧ (oStart (ct, (md, fd), (n, wide, dn, st, num), (lost, fresh), (fp, sh))).1 = 1) ∧ cR V1 (oStart (ct, (md, fd), (n, wide, dn, st, num), (lost, fresh), (fp, sh))).2.2)) 4 24 (gA 47 ad sz) := by
  refine w_xmet (cc := cX2_start) (maxL := 1) (ret := (some .int)) (by decide) rfl (Nat.le_of_ble_eq_true rfl) ?_
  intro p e s m below meth c hx hb hr hts hown hlocks hml hsz hK hw hT9 hZ hout ls hl
  subst hsz
  have hown : s.vm.findClass RX2 = some m.cls := hown
  have hi1 : ∀ w ∈ wsX10, w ∈ wsX2_start := by decide +kernel
  have hi2 : ∀ w ∈ wsX20, w ∈ wsX2_start := by decide +kernel
  have hl : lv_has ls 1 [(0, .ref (ad 0))] := hl
  obtain ⟨hmd, hfd, hlo, hfr, hfp8, hsh, hQ0, hdc⟩ := hR.pt
  refine lv_aload_n hx hb dX2_start_0 rfl (lv_at hl 0 rfl) ?_
  refine w_get (ci := 2) (C := RX2) (T := TX2) (M := 10) (v := .int (bI fd)) hx hb hts hi2 hown hK hw 0 (by omega) _ (cF_0 _) rfl 5 (by decide) (hts (.fieldLink RX2 51 "WideningArray" "failed" "Z") (by decide +kernel)) (congrArg (fun z => some (Value.int z)) (show V 0 5 = bI fd from hfd)) dX2_start_1 ?_
  refine lv_if_ne (tgt := 17) hx hb dX2_start_4 (by decide) (fun c_4 => ?_) (fun c_4 => ?_)
  · have e2 : fd = true := bI_n0.mp c_4
    obtain ⟨x9, n9, w9, d9, s9, m0, hx1, hxB, m1, m2, m3, m4, hn3, hn6, hd32, hwn, hsw, -⟩ := stq_ok hB hWF.1 (hWF.2.2.2.1 e2).1
    refine lv_aload_n hx hb dX2_start_17 rfl (lv_at hl 0 rfl) ?_
    refine lv_iconst (v := nI 0) hx hb dX2_start_18 (by decide) ?_
    refine w_put (ci := 2) (C := RX2) (T := TX2) (M := 10) (x := nI 0) (ty := .boolean) hx hb hts hi2 tyX2 tyX2_ok nmX2 hown hK hw 0 (by omega) _ (cF_0 _) rfl 5 (by decide) (hts (.fieldLink RX2 51 "WideningArray" "failed" "Z") (by decide +kernel)) rfl (by decide +kernel) rfl rfl (Nat.le_of_ble_eq_true rfl) (cF_0 _) dX2_start_19 (fun H locs hw => ?_)
    obtain ⟨V_1, hV_1⟩ : ∃ z : vT, z = u2 V 0 5 (nI 0) := ⟨_, rfl⟩
    rw [← hV_1] at hw
    refine lv_aload_n hx hb dX2_start_22 rfl (lv_at hl 0 rfl) ?_
    refine w_get (ci := 2) (C := RX2) (T := TX2) (M := 10) (v := .ref (ad 2)) hx hb hts hi2 hown hK hw 0 (by omega) _ (cF_0 _) rfl 1 (by decide) (hts (.fieldLink RX2 18 "WideningArray" "now" "LWideningArray$Marks;") (by decide +kernel)) rfl dX2_start_23 ?_
    refine lv_aload_n hx hb dX2_start_26 rfl (lv_at hl 0 rfl) ?_
    have hq1 : ∀ q j, j < 5 → q < 12 → V_1 (mcl q) j = mkA ct q j := fun q j hj hq => by rw [hV_1, u2_r _ _ (by unfold mcl; omega), mcl_dc (V := V) hj, hdc _ (by omega) _ (by omega)]; rfl
    have hq2 : bst (fun q => V_1 (mcl q) 0) 12 = stq ct := bst_congr1 (fun p hp => hq1 p 0 (by decide) (by omega))
    refine w_callr hw (va_runV (As := []) (rest := [.ref (ad 2)]) ⟨hx, hb, hml, hown, hts⟩ (c_X2_highestMarks l D cI cD ad _ V_1) (cwV 0 hts gX2_start_X2_highestMarks rfl rfl rfl (by decide +kernel) ⟨Nat.le_of_ble_eq_true rfl, Nat.le_of_ble_eq_true rfl⟩) (w_preV hK hw (by omega) (cF_0 _) rfl _) rfl rfl hl.1 rfl (lv_room (Nat.le_of_ble_eq_true rfl)) dX2_start_27 ⟨Nat.le_of_ble_eq_true rfl, Nat.le_of_ble_eq_true rfl⟩) (fun k_3 V_2 H locs hp hw => ?_)
    obtain ⟨e9, e8⟩ := hp
    dsimp only at e9 e8
    subst e9
    rw [hq2] at e8
    subst e8
    have hmc := mcl_lt (stq_lt (c := ct))
    refine w_callv hw (va_runV (As := [.ref (ad (mcl (stq ct)))]) (rest := []) ⟨hx, hb, hml, hown, hts⟩ (c_X1_take l D cI cD ad _ V_1 2 (by omega) (cF_2) (mcl (stq ct)) (by omega) (mcl_F (stq ct)) (by rw [hq1 _ 2 (by decide) stq_lt, m2]; exact isB_bI _) (by rw [hq1 _ 4 (by decide) stq_lt, m4]; exact isB_bI _)) (cwV 1 hts gX2_start_X1_take rfl rfl rfl (by decide +kernel) ⟨Nat.le_of_ble_eq_true rfl, Nat.le_of_ble_eq_true rfl⟩) (w_preV hK hw (by omega) (cF_2 _) rfl _) rfl rfl hl.1 rfl (lv_room (Nat.le_of_ble_eq_true rfl)) dX2_start_30 ⟨Nat.le_of_ble_eq_true rfl, Nat.le_of_ble_eq_true rfl⟩) (fun V_4 H locs hp hw => ?_)
    have p2 := hp
    clear hp
    refine lv_aload_n hx hb dX2_start_33 rfl (lv_at hl 0 rfl) ?_
    refine w_callv hw (va_runV (As := []) (rest := []) ⟨hx, hb, hml, hown, hts⟩ (c_X2_mendParity l D cI cD ad _ V_4 n9 (show V_4 2 1 = nI n9 from by rw [p2.2 1 (by decide), hq1 _ 1 (by decide) stq_lt]; exact m1) w9 (show V_4 2 2 = bI w9 from by rw [p2.2 2 (by decide), hq1 _ 2 (by decide) stq_lt]; exact m2) d9 (show V_4 2 3 = nI d9 from by rw [p2.2 3 (by decide), hq1 _ 3 (by decide) stq_lt]; exact m3) s9 (show V_4 2 4 = bI s9 from by rw [p2.2 4 (by decide), hq1 _ 4 (by decide) stq_lt]; exact m4) hn3 hn6 hd32 hwn) (cwV 0 hts gX2_start_X2_mendParity rfl rfl rfl (by decide +kernel) ⟨Nat.le_of_ble_eq_true rfl, Nat.le_of_ble_eq_true rfl⟩) (w_preV hK hw (by omega) (cF_0 _) rfl _) rfl rfl hl.1 rfl (lv_room (Nat.le_of_ble_eq_true rfl)) dX2_start_34 ⟨Nat.le_of_ble_eq_true rfl, Nat.le_of_ble_eq_true rfl⟩) (fun V_5 H locs hp hw => ?_)
    have p3 := hp
    clear hp
    have hC := cR_start hR hV_1 p2 m0 m1 m2 m3 m4 hn6 hwn p3
    have hL9 := oStart_y (c := ct) (md := md) (n := n) (wide := wide) (dn := dn) (st := st) (num := num) (lost := lost) (fresh := fresh) (fp := fp) (sh := sh) e2 m0 m1 m2 m3 m4 (by omega) hn6 hd32
    refine lv_aload_n hx hb dX2_start_37 rfl (lv_at hl 0 rfl) ?_
    refine w_get (ci := 2) (C := RX2) (T := TX2) (M := 10) (v := .ref (ad 2)) hx hb hts hi2 hown hK hw 0 (by omega) _ (cF_0 _) rfl 1 (by decide) (hts (.fieldLink RX2 18 "WideningArray" "now" "LWideningArray$Marks;") (by decide +kernel)) rfl dX2_start_38 ?_
    refine w_getN (ci := 1) (C := RX1) (T := TX1) (M := 5) (v := .int (bI w9)) hx hb hts hi1 hown hK hw 2 (by omega) _ (cF_2 _) rfl 2 (by decide) (va_Nw.use rfl (hK.2 (.fieldLinkNest "WideningArray" 102 "WideningArray$Marks" "widened" "Z" "WideningArray") (by decide +kernel))) (congrArg (fun z => some (Value.int z)) (show V_5 2 2 = bI w9 from by rw [p3.1 2 (fun d hd => by omega)]; rw [p2.2 2 (by decide), hq1 _ 2 (by decide) stq_lt]; exact m2)) dX2_start_41 ?_
    refine lv_if_ne (tgt := 49) hx hb dX2_start_44 (by decide) (fun c_44 => ?_) (fun c_44 => ?_)
    · refine lv_aload_n hx hb dX2_start_49 rfl (lv_at hl 0 rfl) ?_
      refine w_get (ci := 2) (C := RX2) (T := TX2) (M := 10) (v := .ref (ad 2)) hx hb hts hi2 hown hK hw 0 (by omega) _ (cF_0 _) rfl 1 (by decide) (hts (.fieldLink RX2 18 "WideningArray" "now" "LWideningArray$Marks;") (by decide +kernel)) rfl dX2_start_50 ?_
      refine w_getN (ci := 1) (C := RX1) (T := TX1) (M := 5) (v := .int (bI s9)) hx hb hts hi1 hown hK hw 2 (by omega) _ (cF_2 _) rfl 4 (by decide) (va_Nw.use rfl (hK.2 (.fieldLinkNest "WideningArray" 113 "WideningArray$Marks" "stashed" "Z" "WideningArray") (by decide +kernel))) (congrArg (fun z => some (Value.int z)) (show V_5 2 4 = bI s9 from by rw [p3.1 2 (fun d hd => by omega)]; rw [p2.2 4 (by decide), hq1 _ 4 (by decide) stq_lt]; exact m4)) dX2_start_53 ?_
      refine lv_if_eq (tgt := 63) hx hb dX2_start_56 (by decide) (fun c_56 => ?_) (fun c_56 => ?_)
      · refine lv_iconst (v := nI 1) hx hb dX2_start_63 (by decide) ?_
        exact vx_ret (W.widen (k := 4) (n := 24) (Nat.le_of_ble_eq_true rfl) (Nat.le_of_ble_eq_true rfl) (w_iret hx hb hr hlocks hw (by rw [if_pos (bI_n0.mp c_44), if_neg (by rw [bI_0.mp c_56]; decide)] at hL9; rw [hL9]; exact ⟨rfl, rfl, hC⟩) dX2_start_64))
      · refine lv_iconst (v := nI 2) hx hb dX2_start_59 (by decide) ?_
        refine lv_goto (tgt := 64) hx hb dX2_start_60 (by decide) ?_
        exact vx_ret (W.widen (k := 4) (n := 24) (Nat.le_of_ble_eq_true rfl) (Nat.le_of_ble_eq_true rfl) (w_iret hx hb hr hlocks hw (by rw [if_pos (bI_n0.mp c_44), if_pos (bI_n0.mp c_56)] at hL9; rw [hL9]; exact ⟨rfl, rfl, hC⟩) dX2_start_64))
    · refine lv_iconst (v := nI 0) hx hb dX2_start_47 (by decide) ?_
      exact vx_ret (W.widen (k := 4) (n := 24) (Nat.le_of_ble_eq_true rfl) (Nat.le_of_ble_eq_true rfl) (w_iret hx hb hr hlocks hw (by rw [if_neg (by rw [bI_0.mp c_44]; decide)] at hL9; rw [hL9]; exact ⟨rfl, rfl, hC⟩) dX2_start_48))
  · obtain ⟨sa9, hsa9⟩ := hT9.2 (159, "power has not failed") (by decide +kernel)
    exact w_throw (own := RX2) (cls := "java/lang/IllegalStateException") (text := "power has not failed") (names := ["java/lang/RuntimeException", "java/lang/Exception"]) (sa := sa9) hx hb hlt hown (by decide +kernel) (by decide +kernel) (hts (.classLink RX2 157 "java/lang/IllegalStateException") (by decide +kernel)) (hts (.initialized "java/lang/IllegalStateException") (by decide +kernel)) hsa9 (vx_hat (L := vx_atS RX2 161 "java/lang/IllegalStateException" ["java/lang/RuntimeException", "java/lang/Exception"]) (B := [.castable "java/lang/IllegalStateException" "java/lang/IllegalStateException", .declares ⟨"java/lang/RuntimeException", "<init>", "(Ljava/lang/String;)V"⟩, .declares ⟨"java/lang/Exception", "<init>", "(Ljava/lang/String;)V"⟩, .declares ⟨"java/lang/Throwable", "<init>", "(Ljava/lang/String;)V"⟩]) (fun w hw => hts w ((by decide +kernel : ∀ w ∈ (vx_atS RX2 161 "java/lang/IllegalStateException" ["java/lang/RuntimeException", "java/lang/Exception"]).filter goodWord, w ∈ wsX2_start) w hw)) (by decide +kernel) (vx_c (va_Nw.use rfl (hT9.1 (.castable "java/lang/IllegalStateException" "java/lang/IllegalStateException") (by decide +kernel))) (vx_c (va_Nw.use rfl (hT9.1 (.declares ⟨"java/lang/RuntimeException", "<init>", "(Ljava/lang/String;)V"⟩) (by decide +kernel))) (vx_c (va_Nw.use rfl (hT9.1 (.declares ⟨"java/lang/Exception", "<init>", "(Ljava/lang/String;)V"⟩) (by decide +kernel))) (vx_c (va_Nw.use rfl (hT9.1 (.declares ⟨"java/lang/Throwable", "<init>", "(Ljava/lang/String;)V"⟩) (by decide +kernel))) (vx_n)))))) (by decide +kernel) hZ hw (hl.1.trans hml.symm) dX2_start_7 dX2_start_10 dX2_start_11 dX2_start_13 dX2_start_16 hout (Nat.le_of_ble_eq_true rfl) (Nat.le_of_ble_eq_true rfl) (Nat.le_of_ble_eq_true rfl) (Nat.le_of_ble_eq_true rfl) hlocks (by have hL : oStart (ct, (md, fd), (n, wide, dn, st, num), (lost, fresh), (fp, sh)) = (1, 0, (ct, (md, fd), (n, wide, dn, st, num), (lost, fresh), (fp, sh))) := (by rw [oStart]; exact if_pos (bI_0.mp c_4)); rw [hL]; exact ⟨⟨rfl, rfl⟩, hR⟩) (Nat.le_of_ble_eq_true rfl) (Nat.le_of_ble_eq_true rfl)
