set_option maxHeartbeats 4000000 in
set_option maxRecDepth 100000 in
theorem c_X2_step (l : Launch) (hlt : l.stackTraces = false) (D : va_G) (cI cD : ClassId) (ad : Nat → Nat) (sz : Nat) (V : vT) (ct : Nat → Nat → Int32) (md fd : Bool) (n : Nat) (wide : Bool) (dn : Nat) (st : Bool) (num : Nat) (lost fresh : Int32) (fp : Nat) (sh : Int32) (hR : cR V (ct, (md, fd), (n, wide, dn, st, num), (lost, fresh), (fp, sh))) (B : Nat) (hB : B < 10000) (hWF : WF B (ct, (md, fd), (n, wide, dn, st, num), (lost, fresh), (fp, sh))) : vx_Met l yX2_step wsX2_step ({ frames := 7, cells := 4, slots := 24, locals := 120 }) (gPx D cI cD 47 ad (cF cI cD ad) sz V [.ref (ad 0)]) (va_Qi (fun (r : Int32) (V1 : vT) => (oStep (ct, (md, fd), (n, wide, dn, st, num), (lost, fresh), (fp, sh))).1 = 0 ∧ (oStep (ct, (md, fd), (n, wide, dn, st, num), (lost, fresh), (fp, sh))).2.1 = r ∧ cR V1 (oStep (ct, (md, fd), (n, wide, dn, st, num), (lost, fresh), (fp, sh))).2.2) (gB D 47 ad (cF cI cD ad)) (gA 47 ad sz)) (gX D 47 ad (cF cI cD ad) sz (fun E V1 => ((E = "java/lang/IllegalStateException" ∧ (oStep (ct, (md, fd), (n, wide, dn, st, num), (lost, fresh), (fp, sh))).1 = 1) ∨ (E = "java/lang/IllegalArgumentException" ∧ (oStep (ct, (md, fd), (n, wide, dn, st, num), (lost, fresh), (fp, sh))).1 = 2) ∨ (E = "java/lang/UnsupportedOperationException" ∧ (oStep (ct, (md, fd), (n, wide, dn, st, num), (lost, fresh), (fp, sh))).1 = 3)) ∧ cR V1 (oStep (ct, (md, fd), (n, wide, dn, st, num), (lost, fresh), (fp, sh))).2.2)) 4 24 (gA 47 ad sz) := by
  refine w_xmet (cc := cX2_step) (maxL := 1) (ret := (some .int)) (by decide) rfl (Nat.le_of_ble_eq_true rfl) ?_
  intro p e s m below meth c hx hb hr hts hown hlocks hml hsz hK hw hT9 hZ hout ls hl
  subst hsz
  have hown : s.vm.findClass RX2 = some m.cls := hown
  have hi1 : ∀ w ∈ wsX10, w ∈ wsX2_step := by decide +kernel
  have hi2 : ∀ w ∈ wsX20, w ∈ wsX2_step := by decide +kernel
  have hl : lv_has ls 1 [(0, .ref (ad 0))] := hl
  obtain ⟨hmd, hfd, hlo, hfr, hfp8, hsh, hQ0, hdc⟩ := hR.pt
  have hfpl : fp < 2 ^ 31 := hWF.2.1
  refine lv_aload_n hx hb dX2_step_0 rfl (lv_at hl 0 rfl) ?_
  refine w_xcallv hw (vx_runV (As := []) (rest := []) ⟨hx, hb, hml, hown, hts⟩ (c_X2_checkServing l hlt D cI cD ad _ V md hmd fd hfd) (cwV 0 hts gX2_step_X2_checkServing rfl rfl rfl (by decide +kernel) ⟨Nat.le_of_ble_eq_true rfl, Nat.le_of_ble_eq_true rfl⟩) (w_xpreV hK hT9 hZ hw (by omega) (cF_0 _) rfl _) rfl rfl hl.1 rfl (lv_room (Nat.le_of_ble_eq_true rfl)) dX2_step_1 ⟨Nat.le_of_ble_eq_true rfl, Nat.le_of_ble_eq_true rfl⟩) (fun E9 ce9 q9 V9 H locs hp hw h1 h2 h3 => ?_) (fun V_1 H locs hp hw => ?_)
  · exact w_xout hout hlocks h1 h2 h3 hw (by obtain ⟨e9, e8, e7⟩ := hp; subst e9; subst e8; have hL : oStep (ct, (md, fd), (n, wide, dn, st, num), (lost, fresh), (fp, sh)) = (1, 0, (ct, (md, fd), (n, wide, dn, st, num), (lost, fresh), (fp, sh))) := (by rw [oStep, ifS_n (a := (ct, (md, fd), (n, wide, dn, st, num), (lost, fresh), (fp, sh))) e7]); rw [hL]; exact ⟨Or.inl ⟨rfl, rfl⟩, hR⟩) (Nat.le_of_ble_eq_true rfl) (Nat.le_of_ble_eq_true rfl)
  obtain ⟨e9, e1, e2⟩ := hp
  subst e9
  obtain ⟨hnum, hn, hwd, hdn, hst⟩ := hR.sv e1 e2
  obtain ⟨hn3, hn6, hwn, hd32, hsw, hnum1, hnumB, hlo9, hfr9, hlf9, hfp9, hex9⟩ := hWF.sv e1 e2
  have hkw6 := kw_le hn6 hwn
  have hkwn := kw_ge (n := n) (wide := wide)
  refine lv_aload_n hx hb dX2_step_4 rfl (lv_at hl 0 rfl) ?_
  refine w_get (ci := 2) (C := RX2) (T := TX2) (M := 10) (v := .ref (ad 2)) hx hb hts hi2 hown hK hw 0 (by omega) _ (cF_0 _) rfl 1 (by decide) (hts (.fieldLink RX2 18 "WideningArray" "now" "LWideningArray$Marks;") (by decide +kernel)) rfl dX2_step_5 ?_
  refine w_getN (ci := 1) (C := RX1) (T := TX1) (M := 5) (v := .int (bI wide)) hx hb hts hi1 hown hK hw 2 (by omega) _ (cF_2 _) rfl 2 (by decide) (va_Nw.use rfl (hK.2 (.fieldLinkNest "WideningArray" 102 "WideningArray$Marks" "widened" "Z" "WideningArray") (by decide +kernel))) (congrArg (fun z => some (Value.int z)) (show V 2 2 = bI wide from hwd)) dX2_step_8 ?_
  refine lv_if_ne (tgt := 24) hx hb dX2_step_11 (by decide) (fun c_11 => ?_) (fun c_11 => ?_)
  · have ew : wide = true := bI_n0.mp c_11
    have hn5 := hwn ew
    refine lv_aload_n hx hb dX2_step_24 rfl (lv_at hl 0 rfl) ?_
    refine lv_aload_n hx hb dX2_step_25 rfl (lv_at hl 0 rfl) ?_
    refine w_get (ci := 2) (C := RX2) (T := TX2) (M := 10) (v := .ref (ad 2)) hx hb hts hi2 hown hK hw 0 (by omega) _ (cF_0 _) rfl 1 (by decide) (hts (.fieldLink RX2 18 "WideningArray" "now" "LWideningArray$Marks;") (by decide +kernel)) rfl dX2_step_26 ?_
    refine w_getN (ci := 1) (C := RX1) (T := TX1) (M := 5) (v := .int (bI st)) hx hb hts hi1 hown hK hw 2 (by omega) _ (cF_2 _) rfl 4 (by decide) (va_Nw.use rfl (hK.2 (.fieldLinkNest "WideningArray" 113 "WideningArray$Marks" "stashed" "Z" "WideningArray") (by decide +kernel))) (congrArg (fun z => some (Value.int z)) (show V 2 4 = bI st from hst)) dX2_step_29 ?_
    refine lv_if_eq (tgt := 39) hx hb dX2_step_32 (by decide) (fun c_32 => ?_) (fun c_32 => ?_)
    · refine lv_iconst (v := nI 4) hx hb dX2_step_39 (by decide) ?_
      refine w_callv hw (va_runV (As := [.int (nI 4)]) (rest := []) ⟨hx, hb, hml, hown, hts⟩ (c_X2_beginWrites l D cI cD ad _ V fp 4 hfpl (by omega) hfp8) (cwV 1 hts gX2_step_X2_beginWrites rfl rfl rfl (by decide +kernel) ⟨Nat.le_of_ble_eq_true rfl, Nat.le_of_ble_eq_true rfl⟩) (w_preV hK hw (by omega) (cF_0 _) rfl _) rfl rfl hl.1 rfl (lv_room (Nat.le_of_ble_eq_true rfl)) dX2_step_40 ⟨Nat.le_of_ble_eq_true rfl, Nat.le_of_ble_eq_true rfl⟩) (fun V_2 H locs hp hw => ?_)
      have hVb := hp
      clear hp
      have hfF : min fp 4 < 2 ^ 31 := by omega
      refine lv_aload_n hx hb dX2_step_43 rfl (lv_at hl 0 rfl) ?_
      refine w_callv hw (va_runV (As := []) (rest := []) ⟨hx, hb, hml, hown, hts⟩ (c_X2_fetchWindow l D cI cD ad _ V_2 n (show V_2 2 1 = nI n from by rw [hVb, u2_r _ _ (by decide)]; exact hn) wide (show V_2 2 2 = bI wide from by rw [hVb, u2_r _ _ (by decide)]; exact hwd) dn (show V_2 2 3 = nI dn from by rw [hVb, u2_r _ _ (by decide)]; exact hdn) st (show V_2 2 4 = bI st from by rw [hVb, u2_r _ _ (by decide)]; exact hst) hn3 hn6 hd32 hwn) (cwV 0 hts gX2_step_X2_fetchWindow rfl rfl rfl (by decide +kernel) ⟨Nat.le_of_ble_eq_true rfl, Nat.le_of_ble_eq_true rfl⟩) (w_preV hK hw (by omega) (cF_0 _) rfl _) rfl rfl hl.1 rfl (lv_room (Nat.le_of_ble_eq_true rfl)) dX2_step_44 ⟨Nat.le_of_ble_eq_true rfl, Nat.le_of_ble_eq_true rfl⟩) (fun V_3 H locs hp hw => ?_)
      have hM := cMid_start hR e1 e2 hVb hn3 hn6 hwn hp
      clear hp
      obtain ⟨-, -, hm5, -, -, hm8, -, hm20, hm21, hm22, hm23, hm24, hmQ, -⟩ := id hM
      refine lv_aload_n hx hb dX2_step_47 rfl (lv_at hl 0 rfl) ?_
      refine lv_aload_n hx hb dX2_step_48 rfl (lv_at hl 0 rfl) ?_
      refine w_get (ci := 2) (C := RX2) (T := TX2) (M := 10) (v := .ref (ad 2)) hx hb hts hi2 hown hK hw 0 (by omega) _ (cF_0 _) rfl 1 (by decide) (hts (.fieldLink RX2 18 "WideningArray" "now" "LWideningArray$Marks;") (by decide +kernel)) rfl dX2_step_49 ?_
      refine w_getN (ci := 1) (C := RX1) (T := TX1) (M := 5) (v := .int (bI st)) hx hb hts hi1 hown hK hw 2 (by omega) _ (cF_2 _) rfl 4 (by decide) (va_Nw.use rfl (hK.2 (.fieldLinkNest "WideningArray" 113 "WideningArray$Marks" "stashed" "Z" "WideningArray") (by decide +kernel))) (congrArg (fun z => some (Value.int z)) (show V_3 2 4 = bI st from hm24)) dX2_step_52 ?_
      refine lv_if_ne (tgt := 65) hx hb dX2_step_55 (by decide) (fun c_55 => ?_) (fun c_55 => ?_)
      · exact absurd c_32 c_55
      · have es : st = false := bI_0.mp c_32
        have hO := oStep_u (c := ct) (n := n) (dn := dn) (num := num) (lost := lost) (fresh := fresh) (fp := fp) (sh := sh) e1 e2 ew es
        refine lv_aload_n hx hb dX2_step_58 rfl (lv_at hl 0 rfl) ?_
        refine w_calli hw (va_runV (As := []) (rest := [.ref (ad 0)]) ⟨hx, hb, hml, hown, hts⟩ (c_X2_stashWindow l D cI cD ad _ V_3 n hm21 wide hm22 num hm20 hkw6 hn3 hn5 (min fp 4) hfF hm8 false hm5 hmQ) (cwV 0 hts gX2_step_X2_stashWindow rfl rfl rfl (by decide +kernel) ⟨Nat.le_of_ble_eq_true rfl, Nat.le_of_ble_eq_true rfl⟩) (w_preV hK hw (by omega) (cF_0 _) rfl _) rfl rfl hl.1 rfl (lv_room (Nat.le_of_ble_eq_true rfl)) dX2_step_59 ⟨Nat.le_of_ble_eq_true rfl, Nat.le_of_ble_eq_true rfl⟩) (fun r_5 V_4 H locs hp hw => ?_)
        obtain ⟨Va9, Vb9, s1, s2, sA, hs9⟩ := hp
        rcases hs9 with ⟨t1, t2, t3⟩ | ⟨t1, Vc9, tN, tB⟩
        · subst t2
          subst t3
          have hFf : (oStep (ct, (md, fd), (n, wide, dn, st, num), (lost, fresh), (fp, sh))).1 = 3 ∧ cR V_4 (oStep (ct, (md, fd), (n, wide, dn, st, num), (lost, fresh), (fp, sh))).2.2 := by
            rw [hO, if_pos t1]
            exact ⟨rfl, cR_stash1 hM s1 s2 sA t1⟩
          refine lv_if_eq (tgt := 83) hx hb dX2_step_62 (by decide) (fun c_62 => ?_) (fun c_62 => ?_)
          · refine lv_iconst (v := nI 0) hx hb dX2_step_83 (by decide) ?_
            refine n_is (show nI 0 = bI false from rfl) ?_
            refine w_xcallv hw (vx_runV (As := [.int (bI false)]) (rest := []) ⟨hx, hb, hml, hown, hts⟩ (c_X2_checkPower l hlt D cI cD ad _ V_4 false) (cwV 1 hts gX2_step_X2_checkPower rfl rfl rfl (by decide +kernel) ⟨Nat.le_of_ble_eq_true rfl, Nat.le_of_ble_eq_true rfl⟩) (w_xpreV hK hT9 hZ hw (by omega) (cF_0 _) rfl _) rfl rfl hl.1 rfl (lv_room (Nat.le_of_ble_eq_true rfl)) dX2_step_84 ⟨Nat.le_of_ble_eq_true rfl, Nat.le_of_ble_eq_true rfl⟩) (fun E9 ce9 q9 V9 H locs hp hw h1 h2 h3 => ?_) (fun V_6 H locs hp hw => ?_)
            · exact w_xout hout hlocks h1 h2 h3 hw (by obtain ⟨e9, e8, e7⟩ := hp; subst e9; subst e8; exact ⟨Or.inr (Or.inr ⟨rfl, hFf.1⟩), hFf.2⟩) (Nat.le_of_ble_eq_true rfl) (Nat.le_of_ble_eq_true rfl)
            obtain ⟨e9, e13⟩ := hp
            subst e9
            exact absurd e13 (by decide)
          · exact absurd (show bI false = 0 from rfl) c_62
        · have e9 := tB.1
          subst e9
          refine lv_if_eq (tgt := 83) hx hb dX2_step_62 (by decide) (fun c_62 => ?_) (fun c_62 => ?_)
          · have z2 : min fp 4 - 1 = 1 := by have := bI_0.mp c_62; simpa using this
            have hFf : (oStep (ct, (md, fd), (n, wide, dn, st, num), (lost, fresh), (fp, sh))).1 = 3 ∧ cR V_4 (oStep (ct, (md, fd), (n, wide, dn, st, num), (lost, fresh), (fp, sh))).2.2 := by
              rw [hO, if_neg t1, if_pos z2]
              exact ⟨rfl, cR_stash2 hM s1 s2 sA t1 tN tB z2⟩
            refine lv_iconst (v := nI 0) hx hb dX2_step_83 (by decide) ?_
            refine n_is (show nI 0 = bI false from rfl) ?_
            refine w_xcallv hw (vx_runV (As := [.int (bI false)]) (rest := []) ⟨hx, hb, hml, hown, hts⟩ (c_X2_checkPower l hlt D cI cD ad _ V_4 false) (cwV 1 hts gX2_step_X2_checkPower rfl rfl rfl (by decide +kernel) ⟨Nat.le_of_ble_eq_true rfl, Nat.le_of_ble_eq_true rfl⟩) (w_xpreV hK hT9 hZ hw (by omega) (cF_0 _) rfl _) rfl rfl hl.1 rfl (lv_room (Nat.le_of_ble_eq_true rfl)) dX2_step_84 ⟨Nat.le_of_ble_eq_true rfl, Nat.le_of_ble_eq_true rfl⟩) (fun E9 ce9 q9 V9 H locs hp hw h1 h2 h3 => ?_) (fun V_7 H locs hp hw => ?_)
            · exact w_xout hout hlocks h1 h2 h3 hw (by obtain ⟨e9, e8, e7⟩ := hp; subst e9; subst e8; exact ⟨Or.inr (Or.inr ⟨rfl, hFf.1⟩), hFf.2⟩) (Nat.le_of_ble_eq_true rfl) (Nat.le_of_ble_eq_true rfl)
            obtain ⟨e9, e13⟩ := hp
            subst e9
            exact absurd e13 (by decide)
          · have z2 : min fp 4 - 1 ≠ 1 := by have := bI_n0.mp c_62; simpa using this
            rw [if_neg t1, if_neg z2] at hO
            have hM := cMid_stash hM s1 s2 sA t1 tN tB z2
            have hfF : min fp 4 - 2 < 2 ^ 31 := by omega
            obtain ⟨-, -, hm5, -, -, hm8, -, hm20, hm21, hm22, hm23, hm24, hmQ, -⟩ := id hM
            refine lv_aload_n hx hb dX2_step_65 rfl (lv_at hl 0 rfl) ?_
            refine w_calli hw (va_runV (As := []) (rest := [.ref (ad 0)]) ⟨hx, hb, hml, hown, hts⟩ (c_X2_layWindow l D cI cD ad _ V_4 n hm21 dn hm23 hn3 hn5 hd32 (min fp 4 - 2) hfF hm8 false hm5 hmQ) (cwV 0 hts gX2_step_X2_layWindow rfl rfl rfl (by decide +kernel) ⟨Nat.le_of_ble_eq_true rfl, Nat.le_of_ble_eq_true rfl⟩) (w_preV hK hw (by omega) (cF_0 _) rfl _) rfl rfl hl.1 rfl (lv_room (Nat.le_of_ble_eq_true rfl)) dX2_step_66 ⟨Nat.le_of_ble_eq_true rfl, Nat.le_of_ble_eq_true rfl⟩) (fun r_9 V_8 H locs hp hw => ?_)
            obtain ⟨Vl9, l1, l2, lA⟩ := hp
            have e9 := lA.1
            subst e9
            refine lv_if_eq (tgt := 83) hx hb dX2_step_69 (by decide) (fun c_69 => ?_) (fun c_69 => ?_)
            · have z3 : min fp 4 - 2 = 1 := by have := bI_0.mp c_69; simpa using this
              have hFf : (oStep (ct, (md, fd), (n, wide, dn, st, num), (lost, fresh), (fp, sh))).1 = 3 ∧ cR V_8 (oStep (ct, (md, fd), (n, wide, dn, st, num), (lost, fresh), (fp, sh))).2.2 := by
                rw [hO, layR, if_pos z3]
                exact ⟨rfl, cR_layF hM l1 l2 lA z3⟩
              refine lv_iconst (v := nI 0) hx hb dX2_step_83 (by decide) ?_
              refine n_is (show nI 0 = bI false from rfl) ?_
              refine w_xcallv hw (vx_runV (As := [.int (bI false)]) (rest := []) ⟨hx, hb, hml, hown, hts⟩ (c_X2_checkPower l hlt D cI cD ad _ V_8 false) (cwV 1 hts gX2_step_X2_checkPower rfl rfl rfl (by decide +kernel) ⟨Nat.le_of_ble_eq_true rfl, Nat.le_of_ble_eq_true rfl⟩) (w_xpreV hK hT9 hZ hw (by omega) (cF_0 _) rfl _) rfl rfl hl.1 rfl (lv_room (Nat.le_of_ble_eq_true rfl)) dX2_step_84 ⟨Nat.le_of_ble_eq_true rfl, Nat.le_of_ble_eq_true rfl⟩) (fun E9 ce9 q9 V9 H locs hp hw h1 h2 h3 => ?_) (fun V_10 H locs hp hw => ?_)
              · exact w_xout hout hlocks h1 h2 h3 hw (by obtain ⟨e9, e8, e7⟩ := hp; subst e9; subst e8; exact ⟨Or.inr (Or.inr ⟨rfl, hFf.1⟩), hFf.2⟩) (Nat.le_of_ble_eq_true rfl) (Nat.le_of_ble_eq_true rfl)
              obtain ⟨e9, e13⟩ := hp
              subst e9
              exact absurd e13 (by decide)
            · have z3 : min fp 4 - 2 ≠ 1 := by have := bI_n0.mp c_69; simpa using this
              rw [layR, if_neg z3] at hO
              have hM := cMid_lay hM l1 l2 lA z3
              have hfF : min fp 4 - 2 - 1 < 2 ^ 31 := by omega
              obtain ⟨-, -, hm5, -, -, hm8, -, hm20, hm21, hm22, hm23, hm24, hmQ, -⟩ := id hM
              refine lv_aload_n hx hb dX2_step_72 rfl (lv_at hl 0 rfl) ?_
              refine w_calli hw (va_runV (As := []) (rest := [.ref (ad 0)]) ⟨hx, hb, hml, hown, hts⟩ (c_X2_markRowDone l D cI cD ad _ V_8 n hm21 wide hm22 dn hm23 (num + 1) hm20 hkw6 hn5 hd32 (min fp 4 - 2 - 1) hfF hm8 false hm5 hmQ) (cwV 0 hts gX2_step_X2_markRowDone rfl rfl rfl (by decide +kernel) ⟨Nat.le_of_ble_eq_true rfl, Nat.le_of_ble_eq_true rfl⟩) (w_preV hK hw (by omega) (cF_0 _) rfl _) rfl rfl hl.1 rfl (lv_room (Nat.le_of_ble_eq_true rfl)) dX2_step_73 ⟨Nat.le_of_ble_eq_true rfl, Nat.le_of_ble_eq_true rfl⟩) (fun r_12 V_11 H locs hp hw => ?_)
              obtain ⟨Vn9, Vk9, k1, i0, i1, i2, i3, i4, kN, kA⟩ := hp
              have e9 := kA.1
              subst e9
              refine lv_if_eq (tgt := 83) hx hb dX2_step_76 (by decide) (fun c_76 => ?_) (fun c_76 => ?_)
              · have z4 : min fp 4 - 2 - 1 = 1 := by have := bI_0.mp c_76; simpa using this
                have hFf : (oStep (ct, (md, fd), (n, wide, dn, st, num), (lost, fresh), (fp, sh))).1 = 3 ∧ cR V_11 (oStep (ct, (md, fd), (n, wide, dn, st, num), (lost, fresh), (fp, sh))).2.2 := by
                  rw [hO, if_pos z4]
                  exact ⟨rfl, cR_markF hM k1 i0 i1 i2 i3 i4 kN kA z4⟩
                refine lv_iconst (v := nI 0) hx hb dX2_step_83 (by decide) ?_
                refine n_is (show nI 0 = bI false from rfl) ?_
                refine w_xcallv hw (vx_runV (As := [.int (bI false)]) (rest := []) ⟨hx, hb, hml, hown, hts⟩ (c_X2_checkPower l hlt D cI cD ad _ V_11 false) (cwV 1 hts gX2_step_X2_checkPower rfl rfl rfl (by decide +kernel) ⟨Nat.le_of_ble_eq_true rfl, Nat.le_of_ble_eq_true rfl⟩) (w_xpreV hK hT9 hZ hw (by omega) (cF_0 _) rfl _) rfl rfl hl.1 rfl (lv_room (Nat.le_of_ble_eq_true rfl)) dX2_step_84 ⟨Nat.le_of_ble_eq_true rfl, Nat.le_of_ble_eq_true rfl⟩) (fun E9 ce9 q9 V9 H locs hp hw h1 h2 h3 => ?_) (fun V_13 H locs hp hw => ?_)
                · exact w_xout hout hlocks h1 h2 h3 hw (by obtain ⟨e9, e8, e7⟩ := hp; subst e9; subst e8; exact ⟨Or.inr (Or.inr ⟨rfl, hFf.1⟩), hFf.2⟩) (Nat.le_of_ble_eq_true rfl) (Nat.le_of_ble_eq_true rfl)
                obtain ⟨e9, e13⟩ := hp
                subst e9
                exact absurd e13 (by decide)
              · have z4 : min fp 4 - 2 - 1 ≠ 1 := by have := bI_n0.mp c_76; simpa using this
                rw [if_neg z4] at hO
                have hC := cR_markT hM k1 i0 i1 i2 i3 i4 kN kA (by omega)
                refine lv_iconst (v := nI 1) hx hb dX2_step_79 (by decide) ?_
                refine lv_goto (tgt := 84) hx hb dX2_step_80 (by decide) ?_
                refine n_is (show nI 1 = bI true from rfl) ?_
                refine w_xcallv hw (vx_runV (As := [.int (bI true)]) (rest := []) ⟨hx, hb, hml, hown, hts⟩ (c_X2_checkPower l hlt D cI cD ad _ V_11 true) (cwV 1 hts gX2_step_X2_checkPower rfl rfl rfl (by decide +kernel) ⟨Nat.le_of_ble_eq_true rfl, Nat.le_of_ble_eq_true rfl⟩) (w_xpreV hK hT9 hZ hw (by omega) (cF_0 _) rfl _) rfl rfl hl.1 rfl (lv_room (Nat.le_of_ble_eq_true rfl)) dX2_step_84 ⟨Nat.le_of_ble_eq_true rfl, Nat.le_of_ble_eq_true rfl⟩) (fun E9 ce9 q9 V9 H locs hp hw h1 h2 h3 => ?_) (fun V_14 H locs hp hw => ?_)
                · exact w_xout hout hlocks h1 h2 h3 hw (by obtain ⟨e9, e8, e7⟩ := hp; subst e9; subst e8; exact absurd e7 (by decide)) (Nat.le_of_ble_eq_true rfl) (Nat.le_of_ble_eq_true rfl)
                obtain ⟨e9, e13⟩ := hp
                subst e9
                refine lv_aload_n hx hb dX2_step_87 rfl (lv_at hl 0 rfl) ?_
                refine w_get (ci := 2) (C := RX2) (T := TX2) (M := 10) (v := .ref (ad 2)) hx hb hts hi2 hown hK hw 0 (by omega) _ (cF_0 _) rfl 1 (by decide) (hts (.fieldLink RX2 18 "WideningArray" "now" "LWideningArray$Marks;") (by decide +kernel)) rfl dX2_step_88 ?_
                refine w_getN (ci := 1) (C := RX1) (T := TX1) (M := 5) (v := .int (nI (nxd dn))) hx hb hts hi1 hown hK hw 2 (by omega) _ (cF_2 _) rfl 3 (by decide) (va_Nw.use rfl (hK.2 (.fieldLinkNest "WideningArray" 110 "WideningArray$Marks" "done" "I" "WideningArray") (by decide +kernel))) (congrArg (fun z => some (Value.int z)) (show V_11 2 3 = nI (nxd dn) from by rw [kA.2.2.2.2.1 2 (by decide) (by decide), kN.2.2.2.2.1 3 (by decide)]; exact i3)) dX2_step_91 ?_
                exact vx_ret (W.widen (k := 4) (n := 24) (Nat.le_of_ble_eq_true rfl) (Nat.le_of_ble_eq_true rfl) (w_iret hx hb hr hlocks hw (by rw [hO]; exact ⟨rfl, rfl, hC⟩) dX2_step_94))
    · refine lv_iconst (v := nI 2) hx hb dX2_step_35 (by decide) ?_
      refine lv_goto (tgt := 40) hx hb dX2_step_36 (by decide) ?_
      refine w_callv hw (va_runV (As := [.int (nI 2)]) (rest := []) ⟨hx, hb, hml, hown, hts⟩ (c_X2_beginWrites l D cI cD ad _ V fp 2 hfpl (by omega) hfp8) (cwV 1 hts gX2_step_X2_beginWrites rfl rfl rfl (by decide +kernel) ⟨Nat.le_of_ble_eq_true rfl, Nat.le_of_ble_eq_true rfl⟩) (w_preV hK hw (by omega) (cF_0 _) rfl _) rfl rfl hl.1 rfl (lv_room (Nat.le_of_ble_eq_true rfl)) dX2_step_40 ⟨Nat.le_of_ble_eq_true rfl, Nat.le_of_ble_eq_true rfl⟩) (fun V_15 H locs hp hw => ?_)
      have hVb := hp
      clear hp
      have hfF : min fp 2 < 2 ^ 31 := by omega
      refine lv_aload_n hx hb dX2_step_43 rfl (lv_at hl 0 rfl) ?_
      refine w_callv hw (va_runV (As := []) (rest := []) ⟨hx, hb, hml, hown, hts⟩ (c_X2_fetchWindow l D cI cD ad _ V_15 n (show V_15 2 1 = nI n from by rw [hVb, u2_r _ _ (by decide)]; exact hn) wide (show V_15 2 2 = bI wide from by rw [hVb, u2_r _ _ (by decide)]; exact hwd) dn (show V_15 2 3 = nI dn from by rw [hVb, u2_r _ _ (by decide)]; exact hdn) st (show V_15 2 4 = bI st from by rw [hVb, u2_r _ _ (by decide)]; exact hst) hn3 hn6 hd32 hwn) (cwV 0 hts gX2_step_X2_fetchWindow rfl rfl rfl (by decide +kernel) ⟨Nat.le_of_ble_eq_true rfl, Nat.le_of_ble_eq_true rfl⟩) (w_preV hK hw (by omega) (cF_0 _) rfl _) rfl rfl hl.1 rfl (lv_room (Nat.le_of_ble_eq_true rfl)) dX2_step_44 ⟨Nat.le_of_ble_eq_true rfl, Nat.le_of_ble_eq_true rfl⟩) (fun V_16 H locs hp hw => ?_)
      have hM := cMid_start hR e1 e2 hVb hn3 hn6 hwn hp
      clear hp
      obtain ⟨-, -, hm5, -, -, hm8, -, hm20, hm21, hm22, hm23, hm24, hmQ, -⟩ := id hM
      refine lv_aload_n hx hb dX2_step_47 rfl (lv_at hl 0 rfl) ?_
      refine lv_aload_n hx hb dX2_step_48 rfl (lv_at hl 0 rfl) ?_
      refine w_get (ci := 2) (C := RX2) (T := TX2) (M := 10) (v := .ref (ad 2)) hx hb hts hi2 hown hK hw 0 (by omega) _ (cF_0 _) rfl 1 (by decide) (hts (.fieldLink RX2 18 "WideningArray" "now" "LWideningArray$Marks;") (by decide +kernel)) rfl dX2_step_49 ?_
      refine w_getN (ci := 1) (C := RX1) (T := TX1) (M := 5) (v := .int (bI st)) hx hb hts hi1 hown hK hw 2 (by omega) _ (cF_2 _) rfl 4 (by decide) (va_Nw.use rfl (hK.2 (.fieldLinkNest "WideningArray" 113 "WideningArray$Marks" "stashed" "Z" "WideningArray") (by decide +kernel))) (congrArg (fun z => some (Value.int z)) (show V_16 2 4 = bI st from hm24)) dX2_step_52 ?_
      refine lv_if_ne (tgt := 65) hx hb dX2_step_55 (by decide) (fun c_55 => ?_) (fun c_55 => ?_)
      · have es : st = true := bI_n0.mp c_32
        have hO := oStep_s (c := ct) (n := n) (dn := dn) (num := num) (lost := lost) (fresh := fresh) (fp := fp) (sh := sh) e1 e2 ew es
        refine lv_aload_n hx hb dX2_step_65 rfl (lv_at hl 0 rfl) ?_
        refine w_calli hw (va_runV (As := []) (rest := [.ref (ad 0)]) ⟨hx, hb, hml, hown, hts⟩ (c_X2_layWindow l D cI cD ad _ V_16 n hm21 dn hm23 hn3 hn5 hd32 (min fp 2) hfF hm8 false hm5 hmQ) (cwV 0 hts gX2_step_X2_layWindow rfl rfl rfl (by decide +kernel) ⟨Nat.le_of_ble_eq_true rfl, Nat.le_of_ble_eq_true rfl⟩) (w_preV hK hw (by omega) (cF_0 _) rfl _) rfl rfl hl.1 rfl (lv_room (Nat.le_of_ble_eq_true rfl)) dX2_step_66 ⟨Nat.le_of_ble_eq_true rfl, Nat.le_of_ble_eq_true rfl⟩) (fun r_18 V_17 H locs hp hw => ?_)
        obtain ⟨Vl9, l1, l2, lA⟩ := hp
        have e9 := lA.1
        subst e9
        refine lv_if_eq (tgt := 83) hx hb dX2_step_69 (by decide) (fun c_69 => ?_) (fun c_69 => ?_)
        · have z3 : min fp 2 = 1 := by have := bI_0.mp c_69; simpa using this
          have hFf : (oStep (ct, (md, fd), (n, wide, dn, st, num), (lost, fresh), (fp, sh))).1 = 3 ∧ cR V_17 (oStep (ct, (md, fd), (n, wide, dn, st, num), (lost, fresh), (fp, sh))).2.2 := by
            rw [hO, layR, if_pos z3]
            exact ⟨rfl, cR_layF hM l1 l2 lA z3⟩
          refine lv_iconst (v := nI 0) hx hb dX2_step_83 (by decide) ?_
          refine n_is (show nI 0 = bI false from rfl) ?_
          refine w_xcallv hw (vx_runV (As := [.int (bI false)]) (rest := []) ⟨hx, hb, hml, hown, hts⟩ (c_X2_checkPower l hlt D cI cD ad _ V_17 false) (cwV 1 hts gX2_step_X2_checkPower rfl rfl rfl (by decide +kernel) ⟨Nat.le_of_ble_eq_true rfl, Nat.le_of_ble_eq_true rfl⟩) (w_xpreV hK hT9 hZ hw (by omega) (cF_0 _) rfl _) rfl rfl hl.1 rfl (lv_room (Nat.le_of_ble_eq_true rfl)) dX2_step_84 ⟨Nat.le_of_ble_eq_true rfl, Nat.le_of_ble_eq_true rfl⟩) (fun E9 ce9 q9 V9 H locs hp hw h1 h2 h3 => ?_) (fun V_19 H locs hp hw => ?_)
          · exact w_xout hout hlocks h1 h2 h3 hw (by obtain ⟨e9, e8, e7⟩ := hp; subst e9; subst e8; exact ⟨Or.inr (Or.inr ⟨rfl, hFf.1⟩), hFf.2⟩) (Nat.le_of_ble_eq_true rfl) (Nat.le_of_ble_eq_true rfl)
          obtain ⟨e9, e13⟩ := hp
          subst e9
          exact absurd e13 (by decide)
        · have z3 : min fp 2 ≠ 1 := by have := bI_n0.mp c_69; simpa using this
          rw [layR, if_neg z3] at hO
          have hM := cMid_lay hM l1 l2 lA z3
          have hfF : min fp 2 - 1 < 2 ^ 31 := by omega
          obtain ⟨-, -, hm5, -, -, hm8, -, hm20, hm21, hm22, hm23, hm24, hmQ, -⟩ := id hM
          refine lv_aload_n hx hb dX2_step_72 rfl (lv_at hl 0 rfl) ?_
          refine w_calli hw (va_runV (As := []) (rest := [.ref (ad 0)]) ⟨hx, hb, hml, hown, hts⟩ (c_X2_markRowDone l D cI cD ad _ V_17 n hm21 wide hm22 dn hm23 (num) hm20 hkw6 hn5 hd32 (min fp 2 - 1) hfF hm8 false hm5 hmQ) (cwV 0 hts gX2_step_X2_markRowDone rfl rfl rfl (by decide +kernel) ⟨Nat.le_of_ble_eq_true rfl, Nat.le_of_ble_eq_true rfl⟩) (w_preV hK hw (by omega) (cF_0 _) rfl _) rfl rfl hl.1 rfl (lv_room (Nat.le_of_ble_eq_true rfl)) dX2_step_73 ⟨Nat.le_of_ble_eq_true rfl, Nat.le_of_ble_eq_true rfl⟩) (fun r_21 V_20 H locs hp hw => ?_)
          obtain ⟨Vn9, Vk9, k1, i0, i1, i2, i3, i4, kN, kA⟩ := hp
          have e9 := kA.1
          subst e9
          refine lv_if_eq (tgt := 83) hx hb dX2_step_76 (by decide) (fun c_76 => ?_) (fun c_76 => ?_)
          · have z4 : min fp 2 - 1 = 1 := by have := bI_0.mp c_76; simpa using this
            have hFf : (oStep (ct, (md, fd), (n, wide, dn, st, num), (lost, fresh), (fp, sh))).1 = 3 ∧ cR V_20 (oStep (ct, (md, fd), (n, wide, dn, st, num), (lost, fresh), (fp, sh))).2.2 := by
              rw [hO, if_pos z4]
              exact ⟨rfl, cR_markF hM k1 i0 i1 i2 i3 i4 kN kA z4⟩
            refine lv_iconst (v := nI 0) hx hb dX2_step_83 (by decide) ?_
            refine n_is (show nI 0 = bI false from rfl) ?_
            refine w_xcallv hw (vx_runV (As := [.int (bI false)]) (rest := []) ⟨hx, hb, hml, hown, hts⟩ (c_X2_checkPower l hlt D cI cD ad _ V_20 false) (cwV 1 hts gX2_step_X2_checkPower rfl rfl rfl (by decide +kernel) ⟨Nat.le_of_ble_eq_true rfl, Nat.le_of_ble_eq_true rfl⟩) (w_xpreV hK hT9 hZ hw (by omega) (cF_0 _) rfl _) rfl rfl hl.1 rfl (lv_room (Nat.le_of_ble_eq_true rfl)) dX2_step_84 ⟨Nat.le_of_ble_eq_true rfl, Nat.le_of_ble_eq_true rfl⟩) (fun E9 ce9 q9 V9 H locs hp hw h1 h2 h3 => ?_) (fun V_22 H locs hp hw => ?_)
            · exact w_xout hout hlocks h1 h2 h3 hw (by obtain ⟨e9, e8, e7⟩ := hp; subst e9; subst e8; exact ⟨Or.inr (Or.inr ⟨rfl, hFf.1⟩), hFf.2⟩) (Nat.le_of_ble_eq_true rfl) (Nat.le_of_ble_eq_true rfl)
            obtain ⟨e9, e13⟩ := hp
            subst e9
            exact absurd e13 (by decide)
          · have z4 : min fp 2 - 1 ≠ 1 := by have := bI_n0.mp c_76; simpa using this
            rw [if_neg z4] at hO
            have hC := cR_markT hM k1 i0 i1 i2 i3 i4 kN kA (by omega)
            refine lv_iconst (v := nI 1) hx hb dX2_step_79 (by decide) ?_
            refine lv_goto (tgt := 84) hx hb dX2_step_80 (by decide) ?_
            refine n_is (show nI 1 = bI true from rfl) ?_
            refine w_xcallv hw (vx_runV (As := [.int (bI true)]) (rest := []) ⟨hx, hb, hml, hown, hts⟩ (c_X2_checkPower l hlt D cI cD ad _ V_20 true) (cwV 1 hts gX2_step_X2_checkPower rfl rfl rfl (by decide +kernel) ⟨Nat.le_of_ble_eq_true rfl, Nat.le_of_ble_eq_true rfl⟩) (w_xpreV hK hT9 hZ hw (by omega) (cF_0 _) rfl _) rfl rfl hl.1 rfl (lv_room (Nat.le_of_ble_eq_true rfl)) dX2_step_84 ⟨Nat.le_of_ble_eq_true rfl, Nat.le_of_ble_eq_true rfl⟩) (fun E9 ce9 q9 V9 H locs hp hw h1 h2 h3 => ?_) (fun V_23 H locs hp hw => ?_)
            · exact w_xout hout hlocks h1 h2 h3 hw (by obtain ⟨e9, e8, e7⟩ := hp; subst e9; subst e8; exact absurd e7 (by decide)) (Nat.le_of_ble_eq_true rfl) (Nat.le_of_ble_eq_true rfl)
            obtain ⟨e9, e13⟩ := hp
            subst e9
            refine lv_aload_n hx hb dX2_step_87 rfl (lv_at hl 0 rfl) ?_
            refine w_get (ci := 2) (C := RX2) (T := TX2) (M := 10) (v := .ref (ad 2)) hx hb hts hi2 hown hK hw 0 (by omega) _ (cF_0 _) rfl 1 (by decide) (hts (.fieldLink RX2 18 "WideningArray" "now" "LWideningArray$Marks;") (by decide +kernel)) rfl dX2_step_88 ?_
            refine w_getN (ci := 1) (C := RX1) (T := TX1) (M := 5) (v := .int (nI (nxd dn))) hx hb hts hi1 hown hK hw 2 (by omega) _ (cF_2 _) rfl 3 (by decide) (va_Nw.use rfl (hK.2 (.fieldLinkNest "WideningArray" 110 "WideningArray$Marks" "done" "I" "WideningArray") (by decide +kernel))) (congrArg (fun z => some (Value.int z)) (show V_20 2 3 = nI (nxd dn) from by rw [kA.2.2.2.2.1 2 (by decide) (by decide), kN.2.2.2.2.1 3 (by decide)]; exact i3)) dX2_step_91 ?_
            exact vx_ret (W.widen (k := 4) (n := 24) (Nat.le_of_ble_eq_true rfl) (Nat.le_of_ble_eq_true rfl) (w_iret hx hb hr hlocks hw (by rw [hO]; exact ⟨rfl, rfl, hC⟩) dX2_step_94))
      · exact absurd c_55 c_32
  · obtain ⟨sa9, hsa9⟩ := hT9.2 (119, "not widened") (by decide +kernel)
    exact w_throw (own := RX2) (cls := "java/lang/IllegalArgumentException") (text := "not widened") (names := ["java/lang/RuntimeException", "java/lang/Exception"]) (sa := sa9) hx hb hlt hown (by decide +kernel) (by decide +kernel) (hts (.classLink RX2 37 "java/lang/IllegalArgumentException") (by decide +kernel)) (hts (.initialized "java/lang/IllegalArgumentException") (by decide +kernel)) hsa9 (vx_hat (L := vx_atS RX2 41 "java/lang/IllegalArgumentException" ["java/lang/RuntimeException", "java/lang/Exception"]) (B := [.castable "java/lang/IllegalArgumentException" "java/lang/IllegalArgumentException", .declares ⟨"java/lang/RuntimeException", "<init>", "(Ljava/lang/String;)V"⟩, .declares ⟨"java/lang/Exception", "<init>", "(Ljava/lang/String;)V"⟩, .declares ⟨"java/lang/Throwable", "<init>", "(Ljava/lang/String;)V"⟩]) (fun w hw => hts w ((by decide +kernel : ∀ w ∈ (vx_atS RX2 41 "java/lang/IllegalArgumentException" ["java/lang/RuntimeException", "java/lang/Exception"]).filter goodWord, w ∈ wsX2_step) w hw)) (by decide +kernel) (vx_c (va_Nw.use rfl (hT9.1 (.castable "java/lang/IllegalArgumentException" "java/lang/IllegalArgumentException") (by decide +kernel))) (vx_c (va_Nw.use rfl (hT9.1 (.declares ⟨"java/lang/RuntimeException", "<init>", "(Ljava/lang/String;)V"⟩) (by decide +kernel))) (vx_c (va_Nw.use rfl (hT9.1 (.declares ⟨"java/lang/Exception", "<init>", "(Ljava/lang/String;)V"⟩) (by decide +kernel))) (vx_c (va_Nw.use rfl (hT9.1 (.declares ⟨"java/lang/Throwable", "<init>", "(Ljava/lang/String;)V"⟩) (by decide +kernel))) (vx_n)))))) (by decide +kernel) hZ hw (hl.1.trans hml.symm) dX2_step_14 dX2_step_17 dX2_step_18 dX2_step_20 dX2_step_23 hout (Nat.le_of_ble_eq_true rfl) (Nat.le_of_ble_eq_true rfl) (Nat.le_of_ble_eq_true rfl) (Nat.le_of_ble_eq_true rfl) hlocks (by have hL : oStep (ct, (md, fd), (n, wide, dn, st, num), (lost, fresh), (fp, sh)) = (2, 0, (ct, (md, fd), (n, wide, dn, st, num), (lost, fresh), (fp, sh))) := (by rw [oStep, ifS_y (a := (ct, (md, fd), (n, wide, dn, st, num), (lost, fresh), (fp, sh))) e1 e2]; exact if_pos (bI_0.mp c_11)); rw [hL]; exact ⟨Or.inr (Or.inl ⟨rfl, rfl⟩), hR⟩) (Nat.le_of_ble_eq_true rfl) (Nat.le_of_ble_eq_true rfl)
