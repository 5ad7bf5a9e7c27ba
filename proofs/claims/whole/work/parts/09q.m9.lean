set_option maxHeartbeats 4000000 in
set_option maxRecDepth 100000 in
theorem c_X3_step (l : Launch) (D : va_G) (cI cD : ClassId) (ad : Nat → Nat) (sz : Nat) (V : vT) (ct : Nat → Nat → Int32) (md fd : Bool) (n : Nat) (wide : Bool) (dn : Nat) (st : Bool) (num : Nat) (lost fresh : Int32) (fp : Nat) (sh : Int32) (hR : mR V (ct, (md, fd), (n, wide, dn, st, num), (lost, fresh), (fp, sh))) (B : Nat) (hB : B < 10000) (hWF : WF B (ct, (md, fd), (n, wide, dn, st, num), (lost, fresh), (fp, sh))) : Met l yX3_step wsX3_step ({ frames := 4, cells := 0, slots := 0, locals := 94 }) (gP D cI cD 10 ad (mF cI ad) sz V [.ref (ad 0)]) (va_Qi (fun (r : Int32) (V1 : vT) => V1 0 0 = nI (oStep (ct, (md, fd), (n, wide, dn, st, num), (lost, fresh), (fp, sh))).1 ∧ ((oStep (ct, (md, fd), (n, wide, dn, st, num), (lost, fresh), (fp, sh))).1 = 0 → (oStep (ct, (md, fd), (n, wide, dn, st, num), (lost, fresh), (fp, sh))).2.1 = r) ∧ mR V1 (oStep (ct, (md, fd), (n, wide, dn, st, num), (lost, fresh), (fp, sh))).2.2) (gB D 10 ad (mF cI ad)) (gA 10 ad sz)) 0 0 (gA 10 ad sz) := by
  refine w_met (cc := cX3_step) (maxL := 1) (ret := (some .int)) (by decide) rfl (Nat.le_of_ble_eq_true rfl) ?_
  intro p e s m below meth c hx hb hr hts hown hlocks hml hsz hK hw ls hl
  subst hsz
  have hown : s.vm.findClass RX3 = some m.cls := hown
  have hi3 : ∀ w ∈ wsX30, w ∈ wsX3_step := by decide +kernel
  have hl : lv_has ls 1 [(0, .ref (ad 0))] := hl
  obtain ⟨⟨hmd, hlo, hfr, hsh, hz6, hmc⟩, hfd, har, hfa⟩ := hR.pt
  refine lv_aload_n hx hb dX3_step_0 rfl (lv_at hl 0 rfl) ?_
  refine w_calli hw (va_runV (As := []) (rest := []) ⟨hx, hb, hml, hown, hts⟩ (c_X3_works l D cI cD ad _ V md hmd fd hfd) (cwV 0 hts gX3_step_X3_works rfl rfl rfl (by decide +kernel) ⟨Nat.le_of_ble_eq_true rfl, Nat.le_of_ble_eq_true rfl⟩) (w_preV hK hw (by omega) (mF_0 _) rfl _) rfl rfl hl.1 rfl (lv_room (Nat.le_of_ble_eq_true rfl)) dX3_step_1 ⟨Nat.le_of_ble_eq_true rfl, Nat.le_of_ble_eq_true rfl⟩) (fun r_2 V_1 H locs hp hw => ?_)
  obtain ⟨hW9, e8⟩ := hp
  subst e8
  refine lv_if_ne (tgt := 9) hx hb dX3_step_4 (by decide) (fun c_4 => ?_) (fun c_4 => ?_)
  · have e12 := of_decide_eq_true (bI_n0.mp c_4)
    obtain ⟨e1, e2⟩ := id e12
    rw [if_pos e12] at hW9
    have h00 : V_1 0 0 = nI 0 := by rw [hW9, u2_s]
    have hR := mR_u0 hR hW9
    obtain ⟨⟨hmd, hlo, hfr, hsh, hz6, hmc⟩, hfd, har, hfa⟩ := hR.pt
    obtain ⟨hn, hdn, hnum, hwd, hst⟩ := hR.sv e1 e2
    obtain ⟨hn3, hn6, hwn, hd32, hsw, hnum1, hnumB, hlo9, hfr9, hlf9, hfp9, hex9⟩ := hWF.sv e1 e2
    have hkw6 := kw_le hn6 hwn
    have hkwn := kw_ge (n := n) (wide := wide)
    have hlf : V_1 0 8 = -1 ∨ V_1 0 9 = -1 := by rw [hlo, hfr]; exact hlf9
    have h8 : V_1 0 8 = -1 ∨ ∃ d, d < 10 ∧ V_1 0 8 = nI d := by rw [hlo]; exact hlo9.imp id (fun ⟨d, hd, e⟩ => ⟨d, by omega, e⟩)
    have h9 : V_1 0 9 = -1 ∨ ∃ d, d < 10 ∧ V_1 0 9 = nI d := by rw [hfr]; exact hfr9.imp id (fun ⟨d, hd, e⟩ => ⟨d, by omega, e⟩)
    refine lv_aload_n hx hb dX3_step_9 rfl (lv_at hl 0 rfl) ?_
    refine w_get (ci := 3) (C := RX3) (T := TX3) (M := 24) (v := .int (bI wide)) hx hb hts hi3 hown hK hw 0 (by omega) _ (mF_0 _) rfl 6 (by decide) (hts (.fieldLink RX3 54 "WideningArrayModel" "isWide" "Z") (by decide +kernel)) (congrArg (fun z => some (Value.int z)) (show V_1 0 6 = bI wide from hwd)) dX3_step_10 ?_
    refine lv_if_ne (tgt := 22) hx hb dX3_step_13 (by decide) (fun c_13 => ?_) (fun c_13 => ?_)
    · have ew : wide = true := bI_n0.mp c_13
      subst ew
      have hn5 := hwn rfl
      refine lv_aload_n hx hb dX3_step_22 rfl (lv_at hl 0 rfl) ?_
      refine w_callv hw (va_runV (As := []) (rest := []) ⟨hx, hb, hml, hown, hts⟩ (c_X3_begin l D cI cD ad _ V_1) (cwV 0 hts gX3_step_X3_begin rfl rfl rfl (by decide +kernel) ⟨Nat.le_of_ble_eq_true rfl, Nat.le_of_ble_eq_true rfl⟩) (w_preV hK hw (by omega) (mF_0 _) rfl _) rfl rfl hl.1 rfl (lv_room (Nat.le_of_ble_eq_true rfl)) dX3_step_23 ⟨Nat.le_of_ble_eq_true rfl, Nat.le_of_ble_eq_true rfl⟩) (fun V_3 H locs hp hw => ?_)
      have hB9 := hp
      clear hp
      have hsl9 : ∀ j, j ≤ 12 → V_3 0 j = V_1 0 j := fun j hj => hB9.2.1 j (by omega) (by omega)
      have h00 : V_3 0 0 = nI 0 := (hsl9 0 (by decide)).trans h00
      have hR : mR V_3 (ct, (md, fd), (n, true, dn, st, num), (lost, fresh), (fp, sh)) := hR.frame (hB9.1 1 (by decide)) (hB9.1 2 (by decide)) hsl9
      obtain ⟨⟨hmd, hlo, hfr, hsh, hz6, hmc⟩, hfd, har, hfa⟩ := hR.pt
      obtain ⟨hn, hdn, hnum, hwd, hst⟩ := hR.sv e1 e2
      have hlf : V_3 0 8 = -1 ∨ V_3 0 9 = -1 := by rw [hlo, hfr]; exact hlf9
      have hp13 := hB9.2.2.1
      have hQ := gQ_nil hB9.2.2.2
      refine lv_aload_n hx hb dX3_step_26 rfl (lv_at hl 0 rfl) ?_
      refine w_get (ci := 3) (C := RX3) (T := TX3) (M := 24) (v := .int (bI st)) hx hb hts hi3 hown hK hw 0 (by omega) _ (mF_0 _) rfl 7 (by decide) (hts (.fieldLink RX3 67 "WideningArrayModel" "isStashed" "Z") (by decide +kernel)) (congrArg (fun z => some (Value.int z)) (show V_3 0 7 = bI st from hst)) dX3_step_27 ?_
      refine lv_if_ne (tgt := 46) hx hb dX3_step_30 (by decide) (fun c_30 => ?_) (fun c_30 => ?_)
      · have es : st = true := bI_n0.mp c_30
        subst es
        have hO := oStep_s (c := ct) (n := n) (dn := dn) (num := num) (lost := lost) (fresh := fresh) (fp := fp) (sh := sh) e1 e2 rfl rfl
        refine lv_aload_n hx hb dX3_step_46 rfl (lv_at hl 0 rfl) ?_
        refine w_calli hw (va_runV (As := []) (rest := []) ⟨hx, hb, hml, hown, hts⟩ (c_X3_lay l D cI cD ad _ V_3 ct md fd n dn num lost fresh fp sh hR e1 e2 hn3 hn5 hd32 hlf9 hWF.2.1 (by omega) hQ h00 0 (by decide) hp13 (by omega)) (cwV 0 hts gX3_step_X3_lay rfl rfl rfl (by decide +kernel) ⟨Nat.le_of_ble_eq_true rfl, Nat.le_of_ble_eq_true rfl⟩) (w_preV hK hw (by omega) (mF_0 _) rfl _) rfl rfl hl.1 rfl (lv_room (Nat.le_of_ble_eq_true rfl)) dX3_step_47 ⟨Nat.le_of_ble_eq_true rfl, Nat.le_of_ble_eq_true rfl⟩) (fun r_5 V_4 H locs hp hw => ?_)
        obtain ⟨h00, e8, hM⟩ := hp
        rw [show layR (ct, (md, fd), (n, true, dn, true, num), (lost, fresh), (fp, sh)) ct (stD (ct, (md, fd), (n, true, dn, true, num), (lost, fresh), (fp, sh))) (min fp (0 + 2) - 0) num = oStep (ct, (md, fd), (n, true, dn, true, num), (lost, fresh), (fp, sh)) from hO.symm] at e8 hM
        subst e8
        refine lv_if_eq (tgt := 60) hx hb dX3_step_50 (by decide) (fun c_50 => ?_) (fun c_50 => ?_)
        · have zc : ¬ (oStep (ct, (md, fd), (n, true, dn, true, num), (lost, fresh), (fp, sh))).1 = 0 := of_decide_eq_false (bI_0.mp c_50)
          have hOr : ((oStep (ct, (md, fd), (n, true, dn, true, num), (lost, fresh), (fp, sh))).1 = 3 ∧ ¬ (oStep (ct, (md, fd), (n, true, dn, true, num), (lost, fresh), (fp, sh))).1 = 0) ∨ (∃ cc nn ww ss nm, oStep (ct, (md, fd), (n, true, dn, true, num), (lost, fresh), (fp, sh)) = (0, nI (nxd dn), (cc, (md, false), (nn, ww, nxd dn, ss, nm), (lost, fresh), (0, sh)))) := by rw [hO]; exact layR_or.imp id (fun ⟨cc, h⟩ => ⟨cc, _, _, _, _, h⟩)
          have hc3 : (oStep (ct, (md, fd), (n, true, dn, true, num), (lost, fresh), (fp, sh))).1 = 3 := hOr.elim (fun h => h.1) (fun ⟨_, _, _, _, _, h⟩ => absurd (by rw [h]) zc)
          refine lv_aload_n hx hb dX3_step_60 rfl (lv_at hl 0 rfl) ?_
          refine lv_iconst (v := nI 3) hx hb dX3_step_61 (by decide) ?_
          refine w_calli hw (va_runV (As := [.int (nI 3)]) (rest := []) ⟨hx, hb, hml, hown, hts⟩ (c_X3_fail l D cI cD ad _ V_4 (nI 3)) (cwV 1 hts gX3_step_X3_fail rfl rfl rfl (by decide +kernel) ⟨Nat.le_of_ble_eq_true rfl, Nat.le_of_ble_eq_true rfl⟩) (w_preV hK hw (by omega) (mF_0 _) rfl _) rfl rfl hl.1 rfl (lv_room (Nat.le_of_ble_eq_true rfl)) dX3_step_62 ⟨Nat.le_of_ble_eq_true rfl, Nat.le_of_ble_eq_true rfl⟩) (fun r_7 V_6 H locs hp hw => ?_)
          obtain ⟨e9f, e8⟩ := hp
          subst e8
          exact w_iret hx hb hr hlocks hw (by rw [hc3]; exact ⟨by rw [e9f, u2_s], fun h => absurd (show (3 : Nat) = 0 from h) (by decide), mR_u0 hM e9f⟩) dX3_step_65
        · have zc : (oStep (ct, (md, fd), (n, true, dn, true, num), (lost, fresh), (fp, sh))).1 = 0 := of_decide_eq_true (bI_n0.mp c_50)
          have hOr : ((oStep (ct, (md, fd), (n, true, dn, true, num), (lost, fresh), (fp, sh))).1 = 3 ∧ ¬ (oStep (ct, (md, fd), (n, true, dn, true, num), (lost, fresh), (fp, sh))).1 = 0) ∨ (∃ cc nn ww ss nm, oStep (ct, (md, fd), (n, true, dn, true, num), (lost, fresh), (fp, sh)) = (0, nI (nxd dn), (cc, (md, false), (nn, ww, nxd dn, ss, nm), (lost, fresh), (0, sh)))) := by rw [hO]; exact layR_or.imp id (fun ⟨cc, h⟩ => ⟨cc, _, _, _, _, h⟩)
          obtain ⟨cc9, nn9, ww9, ss9, nm9, hE9⟩ := hOr.resolve_left (fun h => h.2 zc)
          have hM9 := hM
          rw [hE9] at hM9
          have hd9 := (hM9.sv e1 rfl).2.1
          refine lv_aload_n hx hb dX3_step_53 rfl (lv_at hl 0 rfl) ?_
          refine w_get (ci := 3) (C := RX3) (T := TX3) (M := 24) (v := .int (nI (nxd dn))) hx hb hts hi3 hown hK hw 0 (by omega) _ (mF_0 _) rfl 4 (by decide) (hts (.fieldLink RX3 64 "WideningArrayModel" "done" "I") (by decide +kernel)) (congrArg (fun z => some (Value.int z)) (show V_4 0 4 = nI (nxd dn) from hd9)) dX3_step_54 ?_
          refine lv_goto (tgt := 65) hx hb dX3_step_57 (by decide) ?_
          exact w_iret hx hb hr hlocks hw (⟨by rw [zc]; exact h00, fun _ => by rw [hE9], hM⟩) dX3_step_65
      · have es : st = false := bI_0.mp c_30
        subst es
        have hO := oStep_u (c := ct) (n := n) (dn := dn) (num := num) (lost := lost) (fresh := fresh) (fp := fp) (sh := sh) e1 e2 rfl rfl
        refine lv_aload_n hx hb dX3_step_33 rfl (lv_at hl 0 rfl) ?_
        refine w_calli hw (va_runV (As := []) (rest := []) ⟨hx, hb, hml, hown, hts⟩ (c_X3_stash l D cI cD ad _ V_3 ct md fd n dn num lost fresh fp sh hR e1 e2 hn3 hn5 hd32 hlf9 hWF.2.1 (by omega) hQ h00 hp13) (cwV 0 hts gX3_step_X3_stash rfl rfl rfl (by decide +kernel) ⟨Nat.le_of_ble_eq_true rfl, Nat.le_of_ble_eq_true rfl⟩) (w_preV hK hw (by omega) (mF_0 _) rfl _) rfl rfl hl.1 rfl (lv_room (Nat.le_of_ble_eq_true rfl)) dX3_step_34 ⟨Nat.le_of_ble_eq_true rfl, Nat.le_of_ble_eq_true rfl⟩) (fun r_9 V_8 H locs hp hw => ?_)
        obtain ⟨h00, hs9⟩ := hp
        rcases hs9 with ⟨t1, t2, t3⟩ | ⟨t1, t2, t3⟩ | ⟨t1, t2, t3, t4, t5, t6⟩
        · subst t2
          have d1 : decide (fp = 0 + 1) = decide (min fp 4 = 1) := decide_eq_decide.mpr (by omega)
          rw [if_pos (by omega)] at hO
          refine lv_if_ne (tgt := 46) hx hb dX3_step_37 (by decide) (fun c_37 => ?_) (fun c_37 => ?_)
          · exact absurd (by decide) c_37
          · refine lv_aload_n hx hb dX3_step_40 rfl (lv_at hl 0 rfl) ?_
            refine lv_iconst (v := nI 3) hx hb dX3_step_41 (by decide) ?_
            refine w_calli hw (va_runV (As := [.int (nI 3)]) (rest := []) ⟨hx, hb, hml, hown, hts⟩ (c_X3_fail l D cI cD ad _ V_8 (nI 3)) (cwV 1 hts gX3_step_X3_fail rfl rfl rfl (by decide +kernel) ⟨Nat.le_of_ble_eq_true rfl, Nat.le_of_ble_eq_true rfl⟩) (w_preV hK hw (by omega) (mF_0 _) rfl _) rfl rfl hl.1 rfl (lv_room (Nat.le_of_ble_eq_true rfl)) dX3_step_42 ⟨Nat.le_of_ble_eq_true rfl, Nat.le_of_ble_eq_true rfl⟩) (fun r_11 V_10 H locs hp hw => ?_)
            obtain ⟨e9f, e8⟩ := hp
            subst e8
            exact w_iret hx hb hr hlocks hw (by rw [hO]; refine ⟨by rw [e9f, u2_s]; rfl, fun h => absurd (show (3 : Nat) = 0 from h) (by decide), mR_u0 ?_ e9f⟩; unfold flA stC1; show mR _ (eff _ (decide (min fp 4 = 1)) _ _ _, _); rw [← d1]; exact t3 _ _ _ _ _) dX3_step_45
        · subst t2
          have d1 : decide (fp = 0 + 1) = decide (min fp 4 = 1) := decide_eq_decide.mpr (by omega)
          have d2 : decide (fp = 1 + 1) = decide (min fp 4 - 1 = 1) := decide_eq_decide.mpr (by omega)
          rw [if_neg (by omega), if_pos (by omega)] at hO
          refine lv_if_ne (tgt := 46) hx hb dX3_step_37 (by decide) (fun c_37 => ?_) (fun c_37 => ?_)
          · exact absurd (by decide) c_37
          · refine lv_aload_n hx hb dX3_step_40 rfl (lv_at hl 0 rfl) ?_
            refine lv_iconst (v := nI 3) hx hb dX3_step_41 (by decide) ?_
            refine w_calli hw (va_runV (As := [.int (nI 3)]) (rest := []) ⟨hx, hb, hml, hown, hts⟩ (c_X3_fail l D cI cD ad _ V_8 (nI 3)) (cwV 1 hts gX3_step_X3_fail rfl rfl rfl (by decide +kernel) ⟨Nat.le_of_ble_eq_true rfl, Nat.le_of_ble_eq_true rfl⟩) (w_preV hK hw (by omega) (mF_0 _) rfl _) rfl rfl hl.1 rfl (lv_room (Nat.le_of_ble_eq_true rfl)) dX3_step_42 ⟨Nat.le_of_ble_eq_true rfl, Nat.le_of_ble_eq_true rfl⟩) (fun r_13 V_12 H locs hp hw => ?_)
            obtain ⟨e9f, e8⟩ := hp
            subst e8
            exact w_iret hx hb hr hlocks hw (by rw [hO]; refine ⟨by rw [e9f, u2_s]; rfl, fun h => absurd (show (3 : Nat) = 0 from h) (by decide), mR_u0 ?_ e9f⟩; unfold flA stC2 stC1; show mR _ (eff _ (decide (min fp 4 - 1 = 1)) _ _ _, _); rw [← d2, ← d1]; exact t3 _ _ _ _ _) dX3_step_45
        · subst t3
          have d1 : decide (fp = 0 + 1) = decide (min fp 4 = 1) := decide_eq_decide.mpr (by omega)
          have d2 : decide (fp = 1 + 1) = decide (min fp 4 - 1 = 1) := decide_eq_decide.mpr (by omega)
          rw [if_neg (by omega), if_neg (by omega)] at hO
          refine lv_if_ne (tgt := 46) hx hb dX3_step_37 (by decide) (fun c_37 => ?_) (fun c_37 => ?_)
          · refine lv_aload_n hx hb dX3_step_46 rfl (lv_at hl 0 rfl) ?_
            refine w_calli hw (va_runV (As := []) (rest := []) ⟨hx, hb, hml, hown, hts⟩ (c_X3_lay l D cI cD ad _ V_8 (eff (ab lost fresh) (decide (fp = 1 + 1)) sh (mkQ (mkb (num + 1) n true dn true) (n + 1)) (eff (ab lost fresh) (decide (fp = 0 + 1)) sh (stQ (stD (ct, (md, fd), (n, true, dn, false, num), (lost, fresh), (fp, sh))) n n) ct)) md fd n dn (num + 1) lost fresh fp sh t4 e1 e2 hn3 hn5 hd32 hlf9 hWF.2.1 (by omega) t6 h00 2 (by decide) t5 (by omega)) (cwV 0 hts gX3_step_X3_lay rfl rfl rfl (by decide +kernel) ⟨Nat.le_of_ble_eq_true rfl, Nat.le_of_ble_eq_true rfl⟩) (w_preV hK hw (by omega) (mF_0 _) rfl _) rfl rfl hl.1 rfl (lv_room (Nat.le_of_ble_eq_true rfl)) dX3_step_47 ⟨Nat.le_of_ble_eq_true rfl, Nat.le_of_ble_eq_true rfl⟩) (fun r_15 V_14 H locs hp hw => ?_)
            obtain ⟨h00, e8, hM⟩ := hp
            have hDD : ∀ j i, j < n → i < 4 → stD (eff (ab lost fresh) (decide (fp = 1 + 1)) sh (mkQ (mkb (num + 1) n true dn true) (n + 1)) (eff (ab lost fresh) (decide (fp = 0 + 1)) sh (stQ (stD (ct, (md, fd), (n, true, dn, false, num), (lost, fresh), (fp, sh))) n n) ct), (md, fd), (n, true, dn, true, num + 1), (lost, fresh), (fp, sh)) (j * 4 + i) = stD (ct, (md, fd), (n, true, dn, false, num), (lost, fresh), (fp, sh)) (j * 4 + i) := fun j i hj hi => by
              refine (d3_at hi).trans ?_
              show winw (eff (ab lost fresh) (decide (fp = 1 + 1)) sh (mkQ (mkb (num + 1) n true dn true) (n + 1)) (eff (ab lost fresh) (decide (fp = 0 + 1)) sh (stQ (stD (ct, (md, fd), (n, true, dn, false, num), (lost, fresh), (fp, sh))) n n) ct)) (ab lost fresh) n true dn true j i = _
              rw [decide_eq_false (show ¬ fp = 0 + 1 by omega), decide_eq_false (show ¬ fp = 1 + 1 by omega)]
              exact restash hn3 hn5 _ (fun j i hj hi => d3_at hi) hj hi
            rw [layR_D hDD, d1, d2] at e8 hM
            have hsw9 := layR_sw (V := V_14) (c0 := ct) (st := false) (num := num) (c0' := eff (ab lost fresh) (decide (min fp 4 - 1 = 1)) sh (mkQ (mkb (num + 1) n true dn true) (n + 1)) (eff (ab lost fresh) (decide (min fp 4 = 1)) sh (stQ (stD (ct, (md, fd), (n, true, dn, false, num), (lost, fresh), (fp, sh))) n n) ct)) (md := md) (fd := fd) (n := n) (wide := true) (dn := dn) (st' := true) (num' := num + 1) (lost := lost) (fresh := fresh) (fp := fp) (sh := sh) (c := eff (ab lost fresh) (decide (min fp 4 - 1 = 1)) sh (mkQ (mkb (num + 1) n true dn true) (n + 1)) (eff (ab lost fresh) (decide (min fp 4 = 1)) sh (stQ (stD (ct, (md, fd), (n, true, dn, false, num), (lost, fresh), (fp, sh))) n n) ct)) (D := stD (ct, (md, fd), (n, true, dn, false, num), (lost, fresh), (fp, sh))) (f := min fp (2 + 2) - 2) (nm := num + 1)
            rw [hsw9.1] at e8
            have hM := hsw9.2 hM
            rw [show layR (ct, (md, fd), (n, true, dn, false, num), (lost, fresh), (fp, sh)) (eff (ab lost fresh) (decide (min fp 4 - 1 = 1)) sh (mkQ (mkb (num + 1) n true dn true) (n + 1)) (eff (ab lost fresh) (decide (min fp 4 = 1)) sh (stQ (stD (ct, (md, fd), (n, true, dn, false, num), (lost, fresh), (fp, sh))) n n) ct)) (stD (ct, (md, fd), (n, true, dn, false, num), (lost, fresh), (fp, sh))) (min fp (2 + 2) - 2) (num + 1) = oStep (ct, (md, fd), (n, true, dn, false, num), (lost, fresh), (fp, sh)) from hO.symm] at e8 hM
            subst e8
            refine lv_if_eq (tgt := 60) hx hb dX3_step_50 (by decide) (fun c_50 => ?_) (fun c_50 => ?_)
            · have zc : ¬ (oStep (ct, (md, fd), (n, true, dn, false, num), (lost, fresh), (fp, sh))).1 = 0 := of_decide_eq_false (bI_0.mp c_50)
              have hOr : ((oStep (ct, (md, fd), (n, true, dn, false, num), (lost, fresh), (fp, sh))).1 = 3 ∧ ¬ (oStep (ct, (md, fd), (n, true, dn, false, num), (lost, fresh), (fp, sh))).1 = 0) ∨ (∃ cc nn ww ss nm, oStep (ct, (md, fd), (n, true, dn, false, num), (lost, fresh), (fp, sh)) = (0, nI (nxd dn), (cc, (md, false), (nn, ww, nxd dn, ss, nm), (lost, fresh), (0, sh)))) := by rw [hO]; exact layR_or.imp id (fun ⟨cc, h⟩ => ⟨cc, _, _, _, _, h⟩)
              have hc3 : (oStep (ct, (md, fd), (n, true, dn, false, num), (lost, fresh), (fp, sh))).1 = 3 := hOr.elim (fun h => h.1) (fun ⟨_, _, _, _, _, h⟩ => absurd (by rw [h]) zc)
              refine lv_aload_n hx hb dX3_step_60 rfl (lv_at hl 0 rfl) ?_
              refine lv_iconst (v := nI 3) hx hb dX3_step_61 (by decide) ?_
              refine w_calli hw (va_runV (As := [.int (nI 3)]) (rest := []) ⟨hx, hb, hml, hown, hts⟩ (c_X3_fail l D cI cD ad _ V_14 (nI 3)) (cwV 1 hts gX3_step_X3_fail rfl rfl rfl (by decide +kernel) ⟨Nat.le_of_ble_eq_true rfl, Nat.le_of_ble_eq_true rfl⟩) (w_preV hK hw (by omega) (mF_0 _) rfl _) rfl rfl hl.1 rfl (lv_room (Nat.le_of_ble_eq_true rfl)) dX3_step_62 ⟨Nat.le_of_ble_eq_true rfl, Nat.le_of_ble_eq_true rfl⟩) (fun r_17 V_16 H locs hp hw => ?_)
              obtain ⟨e9f, e8⟩ := hp
              subst e8
              exact w_iret hx hb hr hlocks hw (by rw [hc3]; exact ⟨by rw [e9f, u2_s], fun h => absurd (show (3 : Nat) = 0 from h) (by decide), mR_u0 hM e9f⟩) dX3_step_65
            · have zc : (oStep (ct, (md, fd), (n, true, dn, false, num), (lost, fresh), (fp, sh))).1 = 0 := of_decide_eq_true (bI_n0.mp c_50)
              have hOr : ((oStep (ct, (md, fd), (n, true, dn, false, num), (lost, fresh), (fp, sh))).1 = 3 ∧ ¬ (oStep (ct, (md, fd), (n, true, dn, false, num), (lost, fresh), (fp, sh))).1 = 0) ∨ (∃ cc nn ww ss nm, oStep (ct, (md, fd), (n, true, dn, false, num), (lost, fresh), (fp, sh)) = (0, nI (nxd dn), (cc, (md, false), (nn, ww, nxd dn, ss, nm), (lost, fresh), (0, sh)))) := by rw [hO]; exact layR_or.imp id (fun ⟨cc, h⟩ => ⟨cc, _, _, _, _, h⟩)
              obtain ⟨cc9, nn9, ww9, ss9, nm9, hE9⟩ := hOr.resolve_left (fun h => h.2 zc)
              have hM9 := hM
              rw [hE9] at hM9
              have hd9 := (hM9.sv e1 rfl).2.1
              refine lv_aload_n hx hb dX3_step_53 rfl (lv_at hl 0 rfl) ?_
              refine w_get (ci := 3) (C := RX3) (T := TX3) (M := 24) (v := .int (nI (nxd dn))) hx hb hts hi3 hown hK hw 0 (by omega) _ (mF_0 _) rfl 4 (by decide) (hts (.fieldLink RX3 64 "WideningArrayModel" "done" "I") (by decide +kernel)) (congrArg (fun z => some (Value.int z)) (show V_14 0 4 = nI (nxd dn) from hd9)) dX3_step_54 ?_
              refine lv_goto (tgt := 65) hx hb dX3_step_57 (by decide) ?_
              exact w_iret hx hb hr hlocks hw (⟨by rw [zc]; exact h00, fun _ => by rw [hE9], hM⟩) dX3_step_65
          · exact absurd c_37 (by decide)
    · have ew : wide = false := bI_0.mp c_13
      refine lv_aload_n hx hb dX3_step_16 rfl (lv_at hl 0 rfl) ?_
      refine lv_iconst (v := nI 2) hx hb dX3_step_17 (by decide) ?_
      refine w_calli hw (va_runV (As := [.int (nI 2)]) (rest := []) ⟨hx, hb, hml, hown, hts⟩ (c_X3_fail l D cI cD ad _ V_1 (nI 2)) (cwV 1 hts gX3_step_X3_fail rfl rfl rfl (by decide +kernel) ⟨Nat.le_of_ble_eq_true rfl, Nat.le_of_ble_eq_true rfl⟩) (w_preV hK hw (by omega) (mF_0 _) rfl _) rfl rfl hl.1 rfl (lv_room (Nat.le_of_ble_eq_true rfl)) dX3_step_18 ⟨Nat.le_of_ble_eq_true rfl, Nat.le_of_ble_eq_true rfl⟩) (fun r_19 V_18 H locs hp hw => ?_)
      obtain ⟨e9f, e8⟩ := hp
      subst e8
      exact w_iret hx hb hr hlocks hw (by have hL : oStep (ct, (md, fd), (n, wide, dn, st, num), (lost, fresh), (fp, sh)) = (2, 0, (ct, (md, fd), (n, wide, dn, st, num), (lost, fresh), (fp, sh))) := (by rw [oStep, ifS_y (a := (ct, (md, fd), (n, wide, dn, st, num), (lost, fresh), (fp, sh))) e1 e2]; exact if_pos ew); rw [hL]; exact ⟨by rw [e9f, u2_s], fun h => absurd (show (2 : Nat) = 0 from h) (by decide), mR_u0 hR e9f⟩) dX3_step_21
  · have e12 := of_decide_eq_false (bI_0.mp c_4)
    rw [if_neg e12] at hW9
    refine lv_iconst (v := nI 0) hx hb dX3_step_7 (by decide) ?_
    exact w_iret hx hb hr hlocks hw (by have hL : oStep (ct, (md, fd), (n, wide, dn, st, num), (lost, fresh), (fp, sh)) = (1, 0, (ct, (md, fd), (n, wide, dn, st, num), (lost, fresh), (fp, sh))) := (by rw [oStep, ifS_n (a := (ct, (md, fd), (n, wide, dn, st, num), (lost, fresh), (fp, sh))) e12]); rw [hL]; exact ⟨by rw [hW9, u2_s], fun h => absurd (show (1 : Nat) = 0 from h) (by decide), mR_u0 hR hW9⟩) dX3_step_8
