set_option maxHeartbeats 4000000 in
set_option maxRecDepth 100000 in
theorem c_X2_write (l : Launch) (hlt : l.stackTraces = false) (D : va_G) (cI cD : ClassId) (ad : Nat → Nat) (sz : Nat) (V : vT) (ct : Nat → Nat → Int32) (md fd : Bool) (n : Nat) (wide : Bool) (dn : Nat) (st : Bool) (num : Nat) (lost fresh : Int32) (fp : Nat) (sh : Int32) (hR : cR V (ct, (md, fd), (n, wide, dn, st, num), (lost, fresh), (fp, sh))) (B : Nat) (hB : B < 10000) (hWF : WF B (ct, (md, fd), (n, wide, dn, st, num), (lost, fresh), (fp, sh))) (b i v : Int32) : vx_Met l yX2_write wsX2_write ({ frames := 7, cells := 4, slots := 24, locals := 122 }) (gPx D cI cD 47 ad (cF cI cD ad) sz V [.ref (ad 0), .int b, .int i, .int v]) (va_Qi (fun (r : Int32) (V1 : vT) => (oWrite (ct, (md, fd), (n, wide, dn, st, num), (lost, fresh), (fp, sh)) b i v).1 = 0 ∧ (oWrite (ct, (md, fd), (n, wide, dn, st, num), (lost, fresh), (fp, sh)) b i v).2.1 = r ∧ cR V1 (oWrite (ct, (md, fd), (n, wide, dn, st, num), (lost, fresh), (fp, sh)) b i v).2.2) (gB D 47 ad (cF cI cD ad)) (gA 47 ad sz)) (gX D 47 ad (cF cI cD ad) sz (fun E V1 => ((E = "java/lang/IllegalStateException" ∧ (oWrite (ct, (md, fd), (n, wide, dn, st, num), (lost, fresh), (fp, sh)) b i v).1 = 1) ∨ (E = "java/lang/IndexOutOfBoundsException" ∧ (oWrite (ct, (md, fd), (n, wide, dn, st, num), (lost, fresh), (fp, sh)) b i v).1 = 2) ∨ (E = "java/lang/UnsupportedOperationException" ∧ (oWrite (ct, (md, fd), (n, wide, dn, st, num), (lost, fresh), (fp, sh)) b i v).1 = 3)) ∧ cR V1 (oWrite (ct, (md, fd), (n, wide, dn, st, num), (lost, fresh), (fp, sh)) b i v).2.2)) 4 24 (gA 47 ad sz) := by
  refine w_xmet (cc := cX2_write) (maxL := 5) (ret := (some .boolean)) (by decide) rfl (Nat.le_of_ble_eq_true rfl) ?_
  intro p e s m below meth c hx hb hr hts hown hlocks hml hsz hK hw hT9 hZ hout ls hl
  subst hsz
  have hown : s.vm.findClass RX2 = some m.cls := hown
  have hl : lv_has ls 5 [(0, .ref (ad 0)), (1, .int b), (2, .int i), (3, .int v)] := hl
  obtain ⟨hmd, hfd, hlo, hfr, hfp8, hsh, hQ0, hdc⟩ := hR.pt
  have hfpl : fp < 2 ^ 31 := hWF.2.1
  refine lv_aload_n hx hb dX2_write_0 rfl (lv_at hl 0 rfl) ?_
  refine w_xcallv hw (vx_runV (As := []) (rest := []) ⟨hx, hb, hml, hown, hts⟩ (c_X2_checkServing l hlt D cI cD ad _ V md hmd fd hfd) (cwV 0 hts gX2_write_X2_checkServing rfl rfl rfl (by decide +kernel) ⟨Nat.le_of_ble_eq_true rfl, Nat.le_of_ble_eq_true rfl⟩) (w_xpreV hK hT9 hZ hw (by omega) (cF_0 _) rfl _) rfl rfl hl.1 rfl (lv_room (Nat.le_of_ble_eq_true rfl)) dX2_write_1 ⟨Nat.le_of_ble_eq_true rfl, Nat.le_of_ble_eq_true rfl⟩) (fun E9 ce9 q9 V9 H locs hp hw h1 h2 h3 => ?_) (fun V_1 H locs hp hw => ?_)
  · exact w_xout hout hlocks h1 h2 h3 hw (by obtain ⟨e9, e8, e7⟩ := hp; subst e9; subst e8; have hL : oWrite (ct, (md, fd), (n, wide, dn, st, num), (lost, fresh), (fp, sh)) b i v = (1, 0, (ct, (md, fd), (n, wide, dn, st, num), (lost, fresh), (fp, sh))) := (by rw [oWrite, ifS_n (a := (ct, (md, fd), (n, wide, dn, st, num), (lost, fresh), (fp, sh))) e7]); rw [hL]; exact ⟨Or.inl ⟨rfl, rfl⟩, hR⟩) (Nat.le_of_ble_eq_true rfl) (Nat.le_of_ble_eq_true rfl)
  obtain ⟨e9, e1, e2⟩ := hp
  subst e9
  obtain ⟨hnum, hn, hwd, hdn, hst⟩ := hR.sv e1 e2
  obtain ⟨hn3, hn6, hwn, hd32, hsw, hnum1, hnumB, hlo9, hfr9, hlf9, hfp9, hex9⟩ := hWF.sv e1 e2
  have hkw6 := kw_le hn6 hwn
  have hkwn := kw_ge (n := n) (wide := wide)
  refine lv_aload_n hx hb dX2_write_4 rfl (lv_at hl 0 rfl) ?_
  refine lv_iload_n hx hb dX2_write_5 rfl (lv_at hl 1 rfl) ?_
  refine lv_iload_n hx hb dX2_write_6 rfl (lv_at hl 2 rfl) ?_
  refine w_xcallv hw (vx_runV (As := [.int b, .int i]) (rest := []) ⟨hx, hb, hml, hown, hts⟩ (c_X2_checkWordOfBlock l hlt D cI cD ad _ V n hn (by omega) (by omega) b i) (cwV 2 hts gX2_write_X2_checkWordOfBlock rfl rfl rfl (by decide +kernel) ⟨Nat.le_of_ble_eq_true rfl, Nat.le_of_ble_eq_true rfl⟩) (w_xpreV hK hT9 hZ hw (by omega) (cF_0 _) rfl _) rfl rfl hl.1 rfl (lv_room (Nat.le_of_ble_eq_true rfl)) dX2_write_7 ⟨Nat.le_of_ble_eq_true rfl, Nat.le_of_ble_eq_true rfl⟩) (fun E9 ce9 q9 V9 H locs hp hw h1 h2 h3 => ?_) (fun V_2 H locs hp hw => ?_)
  · exact w_xout hout hlocks h1 h2 h3 hw (by obtain ⟨e9, e8, e7⟩ := hp; subst e9; subst e8; have hL : oWrite (ct, (md, fd), (n, wide, dn, st, num), (lost, fresh), (fp, sh)) b i v = (2, 0, (ct, (md, fd), (n, wide, dn, st, num), (lost, fresh), (fp, sh))) := (by rw [oWrite, ifS_y (a := (ct, (md, fd), (n, wide, dn, st, num), (lost, fresh), (fp, sh))) e1 e2]; exact if_pos (e7)); rw [hL]; exact ⟨Or.inr (Or.inl ⟨rfl, rfl⟩), hR⟩) (Nat.le_of_ble_eq_true rfl) (Nat.le_of_ble_eq_true rfl)
  obtain ⟨e9, e3, e4, e5, e6⟩ := hp
  subst e9
  obtain ⟨bb, hbb, e10, -⟩ := pk_mu e3 e4 (by omega)
  subst e10
  obtain ⟨ii, hii, e11⟩ := nI_in2 e5 e6 (by decide)
  subst e11
  refine lv_aload_n hx hb dX2_write_10 rfl (lv_at hl 0 rfl) ?_
  refine lv_iload_n hx hb dX2_write_11 rfl (lv_at hl 1 rfl) ?_
  refine w_calli hw (va_runV (As := [.int (nI bb)]) (rest := []) ⟨hx, hb, hml, hown, hts⟩ (c_X2_placeOf l D cI cD ad _ V n (show V 2 1 = nI n from hn) wide (show V 2 2 = bI wide from hwd) dn (show V 2 3 = nI dn from hdn) st (show V 2 4 = bI st from hst) (by omega) (by omega) bb (by omega)) (cwV 1 hts gX2_write_X2_placeOf rfl rfl rfl (by decide +kernel) ⟨Nat.le_of_ble_eq_true rfl, Nat.le_of_ble_eq_true rfl⟩) (w_preV hK hw (by omega) (cF_0 _) rfl _) rfl rfl hl.1 rfl (lv_room (Nat.le_of_ble_eq_true rfl)) dX2_write_12 ⟨Nat.le_of_ble_eq_true rfl, Nat.le_of_ble_eq_true rfl⟩) (fun r_4 V_3 H locs hp hw => ?_)
  obtain ⟨e9, e8⟩ := hp
  subst e9
  subst e8
  refine lv_istore (lv' := [(4, .int (nI (plc n wide dn st bb))), (0, .ref (ad 0)), (1, .int (nI bb)), (2, .int (nI ii)), (3, .int v)]) hx hb dX2_write_15 hl (by decide) rfl (fun ls hl => ?_)
  have hp2 := plc_lt (n := n) (wide := wide) (dn := dn) (st := st) (b := bb)
  refine lv_iload hx hb dX2_write_17 (lv_at hl 0 rfl) ?_
  refine lv_iconst (v := nI 2) hx hb dX2_write_19 (by decide) ?_
  refine n_icmp_ne (tgt := 25) hx hb dX2_write_20 (by decide) (by omega) (by omega) (fun c_20 => ?_) (fun c_20 => ?_)
  · have hk9 : 2 ≤ (if plc n wide dn st bb = 1 then n + 1 else n) - 1 ∧ (if plc n wide dn st bb = 1 then n + 1 else n) ≤ 6 := plc_k hn3 hn6 hwn
    have hrw : bb / ((if plc n wide dn st bb = 1 then n + 1 else n) - 1) < 40 := plc_row hn3 hbb hk9.1
    refine lv_aload_n hx hb dX2_write_25 rfl (lv_at hl 1 rfl) ?_
    refine lv_iconst (v := nI 1) hx hb dX2_write_26 (by decide) ?_
    refine w_callv hw (va_runV (As := [.int (nI 1)]) (rest := []) ⟨hx, hb, hml, hown, hts⟩ (c_X2_beginWrites l D cI cD ad _ V fp 1 hfpl (by omega) hfp8) (cwV 1 hts gX2_write_X2_beginWrites rfl rfl rfl (by decide +kernel) ⟨Nat.le_of_ble_eq_true rfl, Nat.le_of_ble_eq_true rfl⟩) (w_preV hK hw (by omega) (cF_0 _) rfl _) rfl rfl hl.1 rfl (lv_room (Nat.le_of_ble_eq_true rfl)) dX2_write_27 ⟨Nat.le_of_ble_eq_true rfl, Nat.le_of_ble_eq_true rfl⟩) (fun V_5 H locs hp hw => ?_)
    have hVb := hp
    clear hp
    refine lv_aload_n hx hb dX2_write_30 rfl (lv_at hl 1 rfl) ?_
    refine lv_iload_n hx hb dX2_write_31 rfl (lv_at hl 2 rfl) ?_
    refine lv_aload_n hx hb dX2_write_32 rfl (lv_at hl 1 rfl) ?_
    refine lv_iload hx hb dX2_write_33 (lv_at hl 0 rfl) ?_
    refine w_calli hw (va_runV (As := [.int (nI (plc n wide dn st bb))]) (rest := [.int (nI bb), .ref (ad 0)]) ⟨hx, hb, hml, hown, hts⟩ (c_X2_widthIn l D cI cD ad _ V_5 n (show V_5 2 1 = nI n from by rw [hVb, u2_r _ _ (by decide)]; exact hn) (plc n wide dn st bb) plc_lt) (cwV 1 hts gX2_write_X2_widthIn rfl rfl rfl (by decide +kernel) ⟨Nat.le_of_ble_eq_true rfl, Nat.le_of_ble_eq_true rfl⟩) (w_preV hK hw (by omega) (cF_0 _) rfl _) rfl rfl hl.1 rfl (lv_room (Nat.le_of_ble_eq_true rfl)) dX2_write_35 ⟨Nat.le_of_ble_eq_true rfl, Nat.le_of_ble_eq_true rfl⟩) (fun r_7 V_6 H locs hp hw => ?_)
    obtain ⟨e9, e8⟩ := hp
    subst e9
    subst e8
    refine lv_iload_n hx hb dX2_write_38 rfl (lv_at hl 3 rfl) ?_
    refine lv_iload_n hx hb dX2_write_39 rfl (lv_at hl 4 rfl) ?_
    refine w_callv hw (va_runV (As := [.int (nI bb), .int (nI (if plc n wide dn st bb = 1 then n + 1 else n)), .int (nI ii), .int v]) (rest := []) ⟨hx, hb, hml, hown, hts⟩ (c_X2_issueChange l D cI cD ad _ V_5 bb (if plc n wide dn st bb = 1 then n + 1 else n) (bb / ((if plc n wide dn st bb = 1 then n + 1 else n) - 1)) (bb % ((if plc n wide dn st bb = 1 then n + 1 else n) - 1)) ii v rfl rfl (by omega) (by omega) hrw (by omega) (by omega) (fun d hd => cQd_congr (fun a h1 h2 => by rw [hVb, u2_r _ _ (by omega)]) (hQ0 d hd))) (cwV 4 hts gX2_write_X2_issueChange rfl rfl rfl (by decide +kernel) ⟨Nat.le_of_ble_eq_true rfl, Nat.le_of_ble_eq_true rfl⟩) (w_preV hK hw (by omega) (cF_0 _) rfl _) rfl rfl hl.1 rfl (lv_room (Nat.le_of_ble_eq_true rfl)) dX2_write_40 ⟨Nat.le_of_ble_eq_true rfl, Nat.le_of_ble_eq_true rfl⟩) (fun V_8 H locs hp hw => ?_)
    have hI := hp
    clear hp
    refine lv_aload_n hx hb dX2_write_43 rfl (lv_at hl 1 rfl) ?_
    refine lv_aload_n hx hb dX2_write_44 rfl (lv_at hl 1 rfl) ?_
    refine w_calli hw (va_runV (As := []) (rest := [.ref (ad 0)]) ⟨hx, hb, hml, hown, hts⟩ (c_X2_awaitWrites l D cI cD ad _ V_8 _ hI.2.2 (min fp 1) (by omega) (by rw [hI.1 0 (by decide), hVb, u2_s]) fd (by rw [hI.1 0 (by decide), hVb, u2_n _ _ (Or.inr (by decide))]; exact hfd)) (cwV 0 hts gX2_write_X2_awaitWrites rfl rfl rfl (by decide +kernel) ⟨Nat.le_of_ble_eq_true rfl, Nat.le_of_ble_eq_true rfl⟩) (w_preV hK hw (by omega) (cF_0 _) rfl _) rfl rfl hl.1 rfl (lv_room (Nat.le_of_ble_eq_true rfl)) dX2_write_45 ⟨Nat.le_of_ble_eq_true rfl, Nat.le_of_ble_eq_true rfl⟩) (fun r_10 V_9 H locs hp hw => ?_)
    have hA : AW V_8 (wrQ (cw V_5) (ab (V_5 0 6) (V_5 0 7)) (if plc n wide dn st bb = 1 then n + 1 else n) (bb / ((if plc n wide dn st bb = 1 then n + 1 else n) - 1)) (bb % ((if plc n wide dn st bb = 1 then n + 1 else n) - 1)) ii v) (min fp 1) fd r_10 V_9 := hp
    clear hp
    have e9 := hA.1
    subst e9
    have hC := cR_write hR e1 e2 hVb hI.1 hI.2.1 hA (by omega) (by omega) hrw
    have hL9 : oWrite (ct, (md, fd), (n, wide, dn, st, num), (lost, fresh), (fp, sh)) (nI bb) (nI ii) v = (if fp = 0 then 0 else 3, if fp = 0 then 1 else 0, (eff (ab lost fresh) (decide (¬ fp = 0)) sh (wrQ ct (ab lost fresh) (if plc n wide dn st bb = 1 then n + 1 else n) (bb / ((if plc n wide dn st bb = 1 then n + 1 else n) - 1)) (bb % ((if plc n wide dn st bb = 1 then n + 1 else n) - 1)) ii v) ct, (md, decide (¬ fp = 0)), (n, wide, dn, st, num), (lost, fresh), (0, sh))) := by
      rw [oWrite, ifS_y (a := (ct, (md, fd), (n, wide, dn, st, num), (lost, fresh), (fp, sh))) e1 e2]
      refine (if_neg ?_).trans ?_
      · intro h; rcases h with h | h | h | h; (· exact e3 h); (· exact e4 h); (· exact e5 h); (· exact h e6)
      · rw [nI_clamp (show bb < 2 ^ 31 by omega), nI_clamp (show ii < 2 ^ 31 by omega)]
        exact if_neg c_20
    refine w_xcallv hw (vx_runV (As := [.int (bI (!decide (min fp 1 = 1)))]) (rest := []) ⟨hx, hb, hml, hown, hts⟩ (c_X2_checkPower l hlt D cI cD ad _ V_9 (!decide (min fp 1 = 1))) (cwV 1 hts gX2_write_X2_checkPower rfl rfl rfl (by decide +kernel) ⟨Nat.le_of_ble_eq_true rfl, Nat.le_of_ble_eq_true rfl⟩) (w_xpreV hK hT9 hZ hw (by omega) (cF_0 _) rfl _) rfl rfl hl.1 rfl (lv_room (Nat.le_of_ble_eq_true rfl)) dX2_write_48 ⟨Nat.le_of_ble_eq_true rfl, Nat.le_of_ble_eq_true rfl⟩) (fun E9 ce9 q9 V9 H locs hp hw h1 h2 h3 => ?_) (fun V_11 H locs hp hw => ?_)
    · exact w_xout hout hlocks h1 h2 h3 hw (by obtain ⟨e9, e8, e7⟩ := hp; subst e9; subst e8; have q9 : ¬ fp = 0 := (by intro z; rw [z] at e7; exact absurd e7 (by decide)); rw [hL9, if_neg q9]; exact ⟨Or.inr (Or.inr ⟨rfl, rfl⟩), hC⟩) (Nat.le_of_ble_eq_true rfl) (Nat.le_of_ble_eq_true rfl)
    obtain ⟨e9, e13⟩ := hp
    subst e9
    refine lv_iconst (v := nI 1) hx hb dX2_write_51 (by decide) ?_
    exact vx_ret (W.widen (k := 4) (n := 24) (Nat.le_of_ble_eq_true rfl) (Nat.le_of_ble_eq_true rfl) (w_zret hx hb hr hlocks hw rfl (by have q9 : fp = 0 := (by by_cases z : fp = 0; (· exact z); (· rw [show min fp 1 = 1 by omega] at e13; exact absurd e13 (by decide))); rw [hL9, if_pos q9, if_pos q9]; exact ⟨rfl, rfl, hC⟩) dX2_write_52))
  · refine lv_iconst (v := nI 0) hx hb dX2_write_23 (by decide) ?_
    exact vx_ret (W.widen (k := 4) (n := 24) (Nat.le_of_ble_eq_true rfl) (Nat.le_of_ble_eq_true rfl) (w_zret hx hb hr hlocks hw rfl (by have hL : oWrite (ct, (md, fd), (n, wide, dn, st, num), (lost, fresh), (fp, sh)) (nI bb) (nI ii) v = (0, 0, (ct, (md, fd), (n, wide, dn, st, num), (lost, fresh), (fp, sh))) := (by rw [oWrite, ifS_y (a := (ct, (md, fd), (n, wide, dn, st, num), (lost, fresh), (fp, sh))) e1 e2]; refine (if_neg ?_).trans ?_; (· intro h; rcases h with h | h | h | h; (· exact e3 h); (· exact e4 h); (· exact e5 h); (· exact h e6)); (· rw [nI_clamp (show bb < 2 ^ 31 by omega)]; exact if_pos c_20)); rw [hL]; exact ⟨rfl, rfl, hR⟩) dX2_write_24))
set_option maxHeartbeats 4000000 in
set_option maxRecDepth 100000 in
theorem c_X2_widen (l : Launch) (hlt : l.stackTraces = false) (D : va_G) (cI cD : ClassId) (ad : Nat → Nat) (sz : Nat) (V : vT) (ct : Nat → Nat → Int32) (md fd : Bool) (n : Nat) (wide : Bool) (dn : Nat) (st : Bool) (num : Nat) (lost fresh : Int32) (fp : Nat) (sh : Int32) (hR : cR V (ct, (md, fd), (n, wide, dn, st, num), (lost, fresh), (fp, sh))) (B : Nat) (hB : B < 10000) (hWF : WF B (ct, (md, fd), (n, wide, dn, st, num), (lost, fresh), (fp, sh))) : vx_Met l yX2_widen wsX2_widen ({ frames := 7, cells := 4, slots := 24, locals := 111 }) (gPx D cI cD 47 ad (cF cI cD ad) sz V [.ref (ad 0)]) (va_Qi (fun (r : Int32) (V1 : vT) => (oWiden (ct, (md, fd), (n, wide, dn, st, num), (lost, fresh), (fp, sh))).1 = 0 ∧ (oWiden (ct, (md, fd), (n, wide, dn, st, num), (lost, fresh), (fp, sh))).2.1 = r ∧ cR V1 (oWiden (ct, (md, fd), (n, wide, dn, st, num), (lost, fresh), (fp, sh))).2.2) (gB D 47 ad (cF cI cD ad)) (gA 47 ad sz)) (gX D 47 ad (cF cI cD ad) sz (fun E V1 => ((E = "java/lang/IllegalStateException" ∧ (oWiden (ct, (md, fd), (n, wide, dn, st, num), (lost, fresh), (fp, sh))).1 = 1) ∨ (E = "java/lang/IllegalArgumentException" ∧ (oWiden (ct, (md, fd), (n, wide, dn, st, num), (lost, fresh), (fp, sh))).1 = 2) ∨ (E = "java/lang/UnsupportedOperationException" ∧ (oWiden (ct, (md, fd), (n, wide, dn, st, num), (lost, fresh), (fp, sh))).1 = 3)) ∧ cR V1 (oWiden (ct, (md, fd), (n, wide, dn, st, num), (lost, fresh), (fp, sh))).2.2)) 4 24 (gA 47 ad sz) := by
  refine w_xmet (cc := cX2_widen) (maxL := 1) (ret := (some .int)) (by decide) rfl (Nat.le_of_ble_eq_true rfl) ?_
  intro p e s m below meth c hx hb hr hts hown hlocks hml hsz hK hw hT9 hZ hout ls hl
  subst hsz
  have hown : s.vm.findClass RX2 = some m.cls := hown
  have hi1 : ∀ w ∈ wsX10, w ∈ wsX2_widen := by decide +kernel
  have hi2 : ∀ w ∈ wsX20, w ∈ wsX2_widen := by decide +kernel
  have hl : lv_has ls 1 [(0, .ref (ad 0))] := hl
  obtain ⟨hmd, hfd, hlo, hfr, hfp8, hsh, hQ0, hdc⟩ := hR.pt
  have hfpl : fp < 2 ^ 31 := hWF.2.1
  refine lv_aload_n hx hb dX2_widen_0 rfl (lv_at hl 0 rfl) ?_
  refine w_xcallv hw (vx_runV (As := []) (rest := []) ⟨hx, hb, hml, hown, hts⟩ (c_X2_checkServing l hlt D cI cD ad _ V md hmd fd hfd) (cwV 0 hts gX2_widen_X2_checkServing rfl rfl rfl (by decide +kernel) ⟨Nat.le_of_ble_eq_true rfl, Nat.le_of_ble_eq_true rfl⟩) (w_xpreV hK hT9 hZ hw (by omega) (cF_0 _) rfl _) rfl rfl hl.1 rfl (lv_room (Nat.le_of_ble_eq_true rfl)) dX2_widen_1 ⟨Nat.le_of_ble_eq_true rfl, Nat.le_of_ble_eq_true rfl⟩) (fun E9 ce9 q9 V9 H locs hp hw h1 h2 h3 => ?_) (fun V_1 H locs hp hw => ?_)
  · exact w_xout hout hlocks h1 h2 h3 hw (by obtain ⟨e9, e8, e7⟩ := hp; subst e9; subst e8; have hL : oWiden (ct, (md, fd), (n, wide, dn, st, num), (lost, fresh), (fp, sh)) = (1, 0, (ct, (md, fd), (n, wide, dn, st, num), (lost, fresh), (fp, sh))) := (by rw [oWiden, ifS_n (a := (ct, (md, fd), (n, wide, dn, st, num), (lost, fresh), (fp, sh))) e7]); rw [hL]; exact ⟨Or.inl ⟨rfl, rfl⟩, hR⟩) (Nat.le_of_ble_eq_true rfl) (Nat.le_of_ble_eq_true rfl)
  obtain ⟨e9, e1, e2⟩ := hp
  subst e9
  obtain ⟨hnum, hn, hwd, hdn, hst⟩ := hR.sv e1 e2
  obtain ⟨hn3, hn6, hwn, hd32, hsw, hnum1, hnumB, hlo9, hfr9, hlf9, hfp9, hex9⟩ := hWF.sv e1 e2
  have hkw6 := kw_le hn6 hwn
  have hkwn := kw_ge (n := n) (wide := wide)
  refine lv_aload_n hx hb dX2_widen_4 rfl (lv_at hl 0 rfl) ?_
  refine w_get (ci := 2) (C := RX2) (T := TX2) (M := 10) (v := .ref (ad 2)) hx hb hts hi2 hown hK hw 0 (by omega) _ (cF_0 _) rfl 1 (by decide) (hts (.fieldLink RX2 18 "WideningArray" "now" "LWideningArray$Marks;") (by decide +kernel)) rfl dX2_widen_5 ?_
  refine w_getN (ci := 1) (C := RX1) (T := TX1) (M := 5) (v := .int (bI wide)) hx hb hts hi1 hown hK hw 2 (by omega) _ (cF_2 _) rfl 2 (by decide) (va_Nw.use rfl (hK.2 (.fieldLinkNest "WideningArray" 102 "WideningArray$Marks" "widened" "Z" "WideningArray") (by decide +kernel))) (congrArg (fun z => some (Value.int z)) (show V 2 2 = bI wide from hwd)) dX2_widen_8 ?_
  refine lv_if_ne (tgt := 34) hx hb dX2_widen_11 (by decide) (fun c_11 => ?_) (fun c_11 => ?_)
  · obtain ⟨sa9, hsa9⟩ := hT9.2 (108, "can\'t be made wider now") (by decide +kernel)
    exact w_throw (own := RX2) (cls := "java/lang/IllegalArgumentException") (text := "can\'t be made wider now") (names := ["java/lang/RuntimeException", "java/lang/Exception"]) (sa := sa9) hx hb hlt hown (by decide +kernel) (by decide +kernel) (hts (.classLink RX2 37 "java/lang/IllegalArgumentException") (by decide +kernel)) (hts (.initialized "java/lang/IllegalArgumentException") (by decide +kernel)) hsa9 (vx_hat (L := vx_atS RX2 41 "java/lang/IllegalArgumentException" ["java/lang/RuntimeException", "java/lang/Exception"]) (B := [.castable "java/lang/IllegalArgumentException" "java/lang/IllegalArgumentException", .declares ⟨"java/lang/RuntimeException", "<init>", "(Ljava/lang/String;)V"⟩, .declares ⟨"java/lang/Exception", "<init>", "(Ljava/lang/String;)V"⟩, .declares ⟨"java/lang/Throwable", "<init>", "(Ljava/lang/String;)V"⟩]) (fun w hw => hts w ((by decide +kernel : ∀ w ∈ (vx_atS RX2 41 "java/lang/IllegalArgumentException" ["java/lang/RuntimeException", "java/lang/Exception"]).filter goodWord, w ∈ wsX2_widen) w hw)) (by decide +kernel) (vx_c (va_Nw.use rfl (hT9.1 (.castable "java/lang/IllegalArgumentException" "java/lang/IllegalArgumentException") (by decide +kernel))) (vx_c (va_Nw.use rfl (hT9.1 (.declares ⟨"java/lang/RuntimeException", "<init>", "(Ljava/lang/String;)V"⟩) (by decide +kernel))) (vx_c (va_Nw.use rfl (hT9.1 (.declares ⟨"java/lang/Exception", "<init>", "(Ljava/lang/String;)V"⟩) (by decide +kernel))) (vx_c (va_Nw.use rfl (hT9.1 (.declares ⟨"java/lang/Throwable", "<init>", "(Ljava/lang/String;)V"⟩) (by decide +kernel))) (vx_n)))))) (by decide +kernel) hZ hw (hl.1.trans hml.symm) dX2_widen_34 dX2_widen_37 dX2_widen_38 dX2_widen_40 dX2_widen_43 hout (Nat.le_of_ble_eq_true rfl) (Nat.le_of_ble_eq_true rfl) (Nat.le_of_ble_eq_true rfl) (Nat.le_of_ble_eq_true rfl) hlocks (by have hL : oWiden (ct, (md, fd), (n, wide, dn, st, num), (lost, fresh), (fp, sh)) = (2, 0, (ct, (md, fd), (n, wide, dn, st, num), (lost, fresh), (fp, sh))) := (by rw [oWiden, ifS_y (a := (ct, (md, fd), (n, wide, dn, st, num), (lost, fresh), (fp, sh))) e1 e2]; exact if_pos (by first | exact Or.inl (bI_n0.mp c_11) | exact Or.inr (Or.inl c_23) | (rw [hlo, hfr] at c_31; exact Or.inr (Or.inr c_31)))); rw [hL]; exact ⟨Or.inr (Or.inl ⟨rfl, rfl⟩), hR⟩) (Nat.le_of_ble_eq_true rfl) (Nat.le_of_ble_eq_true rfl)
  · refine lv_aload_n hx hb dX2_widen_14 rfl (lv_at hl 0 rfl) ?_
    refine w_get (ci := 2) (C := RX2) (T := TX2) (M := 10) (v := .ref (ad 2)) hx hb hts hi2 hown hK hw 0 (by omega) _ (cF_0 _) rfl 1 (by decide) (hts (.fieldLink RX2 18 "WideningArray" "now" "LWideningArray$Marks;") (by decide +kernel)) rfl dX2_widen_15 ?_
    refine w_getN (ci := 1) (C := RX1) (T := TX1) (M := 5) (v := .int (nI n)) hx hb hts hi1 hown hK hw 2 (by omega) _ (cF_2 _) rfl 1 (by decide) (va_Nw.use rfl (hK.2 (.fieldLinkNest "WideningArray" 58 "WideningArray$Marks" "width" "I" "WideningArray") (by decide +kernel))) (congrArg (fun z => some (Value.int z)) (show V 2 1 = nI n from hn)) dX2_widen_18 ?_
    refine lv_bipush (v := nI 6) hx hb dX2_widen_21 (by decide) ?_
    refine n_icmp_eq (tgt := 34) hx hb dX2_widen_23 (by decide) (by omega) (by omega) (fun c_23 => ?_) (fun c_23 => ?_)
    · obtain ⟨sa9, hsa9⟩ := hT9.2 (108, "can\'t be made wider now") (by decide +kernel)
      exact w_throw (own := RX2) (cls := "java/lang/IllegalArgumentException") (text := "can\'t be made wider now") (names := ["java/lang/RuntimeException", "java/lang/Exception"]) (sa := sa9) hx hb hlt hown (by decide +kernel) (by decide +kernel) (hts (.classLink RX2 37 "java/lang/IllegalArgumentException") (by decide +kernel)) (hts (.initialized "java/lang/IllegalArgumentException") (by decide +kernel)) hsa9 (vx_hat (L := vx_atS RX2 41 "java/lang/IllegalArgumentException" ["java/lang/RuntimeException", "java/lang/Exception"]) (B := [.castable "java/lang/IllegalArgumentException" "java/lang/IllegalArgumentException", .declares ⟨"java/lang/RuntimeException", "<init>", "(Ljava/lang/String;)V"⟩, .declares ⟨"java/lang/Exception", "<init>", "(Ljava/lang/String;)V"⟩, .declares ⟨"java/lang/Throwable", "<init>", "(Ljava/lang/String;)V"⟩]) (fun w hw => hts w ((by decide +kernel : ∀ w ∈ (vx_atS RX2 41 "java/lang/IllegalArgumentException" ["java/lang/RuntimeException", "java/lang/Exception"]).filter goodWord, w ∈ wsX2_widen) w hw)) (by decide +kernel) (vx_c (va_Nw.use rfl (hT9.1 (.castable "java/lang/IllegalArgumentException" "java/lang/IllegalArgumentException") (by decide +kernel))) (vx_c (va_Nw.use rfl (hT9.1 (.declares ⟨"java/lang/RuntimeException", "<init>", "(Ljava/lang/String;)V"⟩) (by decide +kernel))) (vx_c (va_Nw.use rfl (hT9.1 (.declares ⟨"java/lang/Exception", "<init>", "(Ljava/lang/String;)V"⟩) (by decide +kernel))) (vx_c (va_Nw.use rfl (hT9.1 (.declares ⟨"java/lang/Throwable", "<init>", "(Ljava/lang/String;)V"⟩) (by decide +kernel))) (vx_n)))))) (by decide +kernel) hZ hw (hl.1.trans hml.symm) dX2_widen_34 dX2_widen_37 dX2_widen_38 dX2_widen_40 dX2_widen_43 hout (Nat.le_of_ble_eq_true rfl) (Nat.le_of_ble_eq_true rfl) (Nat.le_of_ble_eq_true rfl) (Nat.le_of_ble_eq_true rfl) hlocks (by have hL : oWiden (ct, (md, fd), (n, wide, dn, st, num), (lost, fresh), (fp, sh)) = (2, 0, (ct, (md, fd), (n, wide, dn, st, num), (lost, fresh), (fp, sh))) := (by rw [oWiden, ifS_y (a := (ct, (md, fd), (n, wide, dn, st, num), (lost, fresh), (fp, sh))) e1 e2]; exact if_pos (by first | exact Or.inl (bI_n0.mp c_11) | exact Or.inr (Or.inl c_23) | (rw [hlo, hfr] at c_31; exact Or.inr (Or.inr c_31)))); rw [hL]; exact ⟨Or.inr (Or.inl ⟨rfl, rfl⟩), hR⟩) (Nat.le_of_ble_eq_true rfl) (Nat.le_of_ble_eq_true rfl)
    · refine lv_aload_n hx hb dX2_widen_26 rfl (lv_at hl 0 rfl) ?_
      refine w_calli hw (va_runV (As := []) (rest := []) ⟨hx, hb, hml, hown, hts⟩ (c_X2_absentDisk l D cI cD ad _ V) (cwV 0 hts gX2_widen_X2_absentDisk rfl rfl rfl (by decide +kernel) ⟨Nat.le_of_ble_eq_true rfl, Nat.le_of_ble_eq_true rfl⟩) (w_preV hK hw (by omega) (cF_0 _) rfl _) rfl rfl hl.1 rfl (lv_room (Nat.le_of_ble_eq_true rfl)) dX2_widen_27 ⟨Nat.le_of_ble_eq_true rfl, Nat.le_of_ble_eq_true rfl⟩) (fun r_3 V_2 H locs hp hw => ?_)
      obtain ⟨e9, e8⟩ := hp
      subst e9
      subst e8
      refine lv_iconst (v := (-1)) hx hb dX2_widen_30 (by decide) ?_
      refine lv_icmp_eq (tgt := 44) hx hb dX2_widen_31 (by decide) (fun c_31 => ?_) (fun c_31 => ?_)
      · have ew : wide = false := bI_0.mp c_11
        have hn5 : n < 6 := by omega
        refine lv_aload_n hx hb dX2_widen_44 rfl (lv_at hl 0 rfl) ?_
        refine lv_iconst (v := nI 1) hx hb dX2_widen_45 (by decide) ?_
        refine w_callv hw (va_runV (As := [.int (nI 1)]) (rest := []) ⟨hx, hb, hml, hown, hts⟩ (c_X2_beginWrites l D cI cD ad _ V fp 1 hfpl (by omega) hfp8) (cwV 1 hts gX2_widen_X2_beginWrites rfl rfl rfl (by decide +kernel) ⟨Nat.le_of_ble_eq_true rfl, Nat.le_of_ble_eq_true rfl⟩) (w_preV hK hw (by omega) (cF_0 _) rfl _) rfl rfl hl.1 rfl (lv_room (Nat.le_of_ble_eq_true rfl)) dX2_widen_46 ⟨Nat.le_of_ble_eq_true rfl, Nat.le_of_ble_eq_true rfl⟩) (fun V_4 H locs hp hw => ?_)
        have hVb := hp
        clear hp
        refine lv_aload_n hx hb dX2_widen_49 rfl (lv_at hl 0 rfl) ?_
        refine w_get (ci := 2) (C := RX2) (T := TX2) (M := 10) (v := .ref (ad 1)) hx hb hts hi2 hown hK hw 0 (by omega) _ (cF_0 _) rfl 0 (by decide) (hts (.fieldLink RX2 11 "WideningArray" "disks" "[LWideningArray$Disk;") (by decide +kernel)) rfl dX2_widen_50 ?_
        refine lv_aload_n hx hb dX2_widen_53 rfl (lv_at hl 0 rfl) ?_
        refine w_get (ci := 2) (C := RX2) (T := TX2) (M := 10) (v := .ref (ad 2)) hx hb hts hi2 hown hK hw 0 (by omega) _ (cF_0 _) rfl 1 (by decide) (hts (.fieldLink RX2 18 "WideningArray" "now" "LWideningArray$Marks;") (by decide +kernel)) rfl dX2_widen_54 ?_
        refine w_getN (ci := 1) (C := RX1) (T := TX1) (M := 5) (v := .int (nI n)) hx hb hts hi1 hown hK hw 2 (by omega) _ (cF_2 _) rfl 1 (by decide) (va_Nw.use rfl (hK.2 (.fieldLinkNest "WideningArray" 58 "WideningArray$Marks" "width" "I" "WideningArray") (by decide +kernel))) (congrArg (fun z => some (Value.int z)) (show V_4 2 1 = nI n from by rw [hVb, u2_r _ _ (by decide)]; exact hn)) dX2_widen_57 ?_
        refine w_aald hx hb hK hw 1 6 (by omega) (cF_1 _) (i := n) (by omega) (by decide) rfl dX2_widen_60 ?_
        refine w_callv hw (va_runV (As := []) (rest := []) ⟨hx, hb, hml, hown, hts⟩ (c_X0_empty l D cI cD ad _ V_4 n (by omega)) (cwV 0 hts gX2_widen_X0_empty rfl rfl rfl (by decide +kernel) ⟨Nat.le_of_ble_eq_true rfl, Nat.le_of_ble_eq_true rfl⟩) (w_preV hK hw (by omega) (cF_d0 n _) rfl _) rfl rfl hl.1 rfl (lv_room (Nat.le_of_ble_eq_true rfl)) dX2_widen_61 ⟨Nat.le_of_ble_eq_true rfl, Nat.le_of_ble_eq_true rfl⟩) (fun V_5 H locs hp hw => ?_)
        have hE := hp
        clear hp
        refine lv_aload_n hx hb dX2_widen_64 rfl (lv_at hl 0 rfl) ?_
        refine w_get (ci := 2) (C := RX2) (T := TX2) (M := 10) (v := .ref (ad 2)) hx hb hts hi2 hown hK hw 0 (by omega) _ (cF_0 _) rfl 1 (by decide) (hts (.fieldLink RX2 18 "WideningArray" "now" "LWideningArray$Marks;") (by decide +kernel)) rfl dX2_widen_65 ?_
        refine lv_iconst (v := nI 1) hx hb dX2_widen_68 (by decide) ?_
        refine w_putN (ci := 1) (C := RX1) (T := TX1) (M := 5) (x := nI 1) (ty := .boolean) hx hb hts hi1 tyX1 tyX1_ok nmX1 hown hK hw 2 (by omega) _ (cF_2 _) rfl 2 (by decide) (va_Nw.use rfl (hK.2 (.fieldLinkNest "WideningArray" 102 "WideningArray$Marks" "widened" "Z" "WideningArray") (by decide +kernel))) rfl (by decide +kernel) rfl rfl (Nat.le_of_ble_eq_true rfl) (cF_2 _) dX2_widen_69 (fun H locs hw => ?_)
        obtain ⟨V_6, hV_6⟩ : ∃ z : vT, z = u2 V_5 2 2 (nI 1) := ⟨_, rfl⟩
        rw [← hV_6] at hw
        refine lv_aload_n hx hb dX2_widen_72 rfl (lv_at hl 0 rfl) ?_
        refine w_get (ci := 2) (C := RX2) (T := TX2) (M := 10) (v := .ref (ad 2)) hx hb hts hi2 hown hK hw 0 (by omega) _ (cF_0 _) rfl 1 (by decide) (hts (.fieldLink RX2 18 "WideningArray" "now" "LWideningArray$Marks;") (by decide +kernel)) rfl dX2_widen_73 ?_
        refine lv_iconst (v := nI 0) hx hb dX2_widen_76 (by decide) ?_
        refine w_putN (ci := 1) (C := RX1) (T := TX1) (M := 5) (x := nI 0) (ty := .int) hx hb hts hi1 tyX1 tyX1_ok nmX1 hown hK hw 2 (by omega) _ (cF_2 _) rfl 3 (by decide) (va_Nw.use rfl (hK.2 (.fieldLinkNest "WideningArray" 110 "WideningArray$Marks" "done" "I" "WideningArray") (by decide +kernel))) rfl (by decide +kernel) rfl rfl (Nat.le_of_ble_eq_true rfl) (cF_2 _) dX2_widen_77 (fun H locs hw => ?_)
        obtain ⟨V_7, hV_7⟩ : ∃ z : vT, z = u2 V_6 2 3 (nI 0) := ⟨_, rfl⟩
        rw [← hV_7] at hw
        refine lv_aload_n hx hb dX2_widen_80 rfl (lv_at hl 0 rfl) ?_
        refine w_get (ci := 2) (C := RX2) (T := TX2) (M := 10) (v := .ref (ad 2)) hx hb hts hi2 hown hK hw 0 (by omega) _ (cF_0 _) rfl 1 (by decide) (hts (.fieldLink RX2 18 "WideningArray" "now" "LWideningArray$Marks;") (by decide +kernel)) rfl dX2_widen_81 ?_
        refine lv_iconst (v := nI 0) hx hb dX2_widen_84 (by decide) ?_
        refine w_putN (ci := 1) (C := RX1) (T := TX1) (M := 5) (x := nI 0) (ty := .boolean) hx hb hts hi1 tyX1 tyX1_ok nmX1 hown hK hw 2 (by omega) _ (cF_2 _) rfl 4 (by decide) (va_Nw.use rfl (hK.2 (.fieldLinkNest "WideningArray" 113 "WideningArray$Marks" "stashed" "Z" "WideningArray") (by decide +kernel))) rfl (by decide +kernel) rfl rfl (Nat.le_of_ble_eq_true rfl) (cF_2 _) dX2_widen_85 (fun H locs hw => ?_)
        obtain ⟨V_8, hV_8⟩ : ∃ z : vT, z = u2 V_7 2 4 (nI 0) := ⟨_, rfl⟩
        rw [← hV_8] at hw
        refine lv_aload_n hx hb dX2_widen_88 rfl (lv_at hl 0 rfl) ?_
        have hc2 : ∀ j, V_5 2 j = V 2 j := fun j => by rw [hE.1 2 (by omega) (by omega) (by omega) (by omega), hVb, u2_r _ _ (by decide)]
        refine w_callv hw (va_runV (As := []) (rest := []) ⟨hx, hb, hml, hown, hts⟩ (c_X2_issueNewMarks l D cI cD ad _ V_8 n (by rw [hV_8, u2_n _ _ (Or.inr (by decide)), hV_7, u2_n _ _ (Or.inr (by decide)), hV_6, u2_n _ _ (Or.inr (by decide)), hc2]; exact hn) true (by rw [hV_8, u2_n _ _ (Or.inr (by decide)), hV_7, u2_n _ _ (Or.inr (by decide)), hV_6, u2_s]; rfl) false (by rw [hV_8, u2_s]; rfl) num (by rw [hV_8, u2_n _ _ (Or.inr (by decide)), hV_7, u2_n _ _ (Or.inr (by decide)), hV_6, u2_n _ _ (Or.inr (by decide)), hc2]; exact hnum) (show n + 1 ≤ 6 by omega) (fun d hd => by by_cases z : d = n; (· rw [z]; exact cQd_nil (by rw [hV_8, u2_r _ _ (by omega), hV_7, u2_r _ _ (by omega), hV_6, u2_r _ _ (by omega)]; exact hE.2.1)); (· exact cQd_congr (fun a h1 h2 => by rw [hV_8, u2_r _ _ (by omega), hV_7, u2_r _ _ (by omega), hV_6, u2_r _ _ (by omega), hE.1 a (by omega) (by omega) (by omega) (by omega), hVb, u2_r _ _ (by omega)]) (hQ0 d hd)))) (cwV 0 hts gX2_widen_X2_issueNewMarks rfl rfl rfl (by decide +kernel) ⟨Nat.le_of_ble_eq_true rfl, Nat.le_of_ble_eq_true rfl⟩) (w_preV hK hw (by omega) (cF_0 _) rfl _) rfl rfl hl.1 rfl (lv_room (Nat.le_of_ble_eq_true rfl)) dX2_widen_89 ⟨Nat.le_of_ble_eq_true rfl, Nat.le_of_ble_eq_true rfl⟩) (fun V_9 H locs hp hw => ?_)
        have hN : NM V_8 num n true V_9 := hp
        clear hp
        refine lv_aload_n hx hb dX2_widen_92 rfl (lv_at hl 0 rfl) ?_
        refine lv_aload_n hx hb dX2_widen_93 rfl (lv_at hl 0 rfl) ?_
        refine w_calli hw (va_runV (As := []) (rest := [.ref (ad 0)]) ⟨hx, hb, hml, hown, hts⟩ (c_X2_awaitWrites l D cI cD ad _ V_9 (mkQ (V_9 2) (kw n true)) hN.2.2.2.2.2.2 (min fp 1) (by omega) (by rw [hN.1, hV_8, u2_r _ _ (by decide), hV_7, u2_r _ _ (by decide), hV_6, u2_r _ _ (by decide), hE.1 0 (by omega) (by omega) (by omega) (by omega), hVb, u2_s]) fd (by rw [hN.1, hV_8, u2_r _ _ (by decide), hV_7, u2_r _ _ (by decide), hV_6, u2_r _ _ (by decide), hE.1 0 (by omega) (by omega) (by omega) (by omega), hVb, u2_n _ _ (Or.inr (by decide))]; exact hfd)) (cwV 0 hts gX2_widen_X2_awaitWrites rfl rfl rfl (by decide +kernel) ⟨Nat.le_of_ble_eq_true rfl, Nat.le_of_ble_eq_true rfl⟩) (w_preV hK hw (by omega) (cF_0 _) rfl _) rfl rfl hl.1 rfl (lv_room (Nat.le_of_ble_eq_true rfl)) dX2_widen_94 ⟨Nat.le_of_ble_eq_true rfl, Nat.le_of_ble_eq_true rfl⟩) (fun r_11 V_10 H locs hp hw => ?_)
        have hA : AW V_9 (mkQ (V_9 2) (kw n true)) (min fp 1) fd r_11 V_10 := hp
        clear hp
        have e9 := hA.1
        subst e9
        have hC := cR_widen hR e1 e2 hVb hn5 hE hV_6 hV_7 hV_8 hN hA
        have hL9 : oWiden (ct, (md, fd), (n, wide, dn, st, num), (lost, fresh), (fp, sh)) = (if fp = 0 then 0 else 3, nI (n + 1), (eff (ab lost fresh) (decide (¬ fp = 0)) sh (mkQ (mkb (num + 1) n true 0 false) (n + 1)) (emp ct n), (md, decide (¬ fp = 0)), (n, true, 0, false, num + 1), (lost, fresh), (0, sh))) := by
          rw [oWiden, ifS_y (a := (ct, (md, fd), (n, wide, dn, st, num), (lost, fresh), (fp, sh))) e1 e2]
          refine if_neg ?_
          intro h; rcases h with h | h | h; (· rw [ew] at h; exact absurd h (by decide)); (· exact c_23 h); (· rw [hlo, hfr] at c_31; exact h c_31)
        refine w_xcallv hw (vx_runV (As := [.int (bI (!decide (min fp 1 = 1)))]) (rest := []) ⟨hx, hb, hml, hown, hts⟩ (c_X2_checkPower l hlt D cI cD ad _ V_10 (!decide (min fp 1 = 1))) (cwV 1 hts gX2_widen_X2_checkPower rfl rfl rfl (by decide +kernel) ⟨Nat.le_of_ble_eq_true rfl, Nat.le_of_ble_eq_true rfl⟩) (w_xpreV hK hT9 hZ hw (by omega) (cF_0 _) rfl _) rfl rfl hl.1 rfl (lv_room (Nat.le_of_ble_eq_true rfl)) dX2_widen_97 ⟨Nat.le_of_ble_eq_true rfl, Nat.le_of_ble_eq_true rfl⟩) (fun E9 ce9 q9 V9 H locs hp hw h1 h2 h3 => ?_) (fun V_12 H locs hp hw => ?_)
        · exact w_xout hout hlocks h1 h2 h3 hw (by obtain ⟨e9, e8, e7⟩ := hp; subst e9; subst e8; have q9 : ¬ fp = 0 := (by intro z; rw [z] at e7; exact absurd e7 (by decide)); rw [hL9, if_neg q9]; exact ⟨Or.inr (Or.inr ⟨rfl, rfl⟩), hC⟩) (Nat.le_of_ble_eq_true rfl) (Nat.le_of_ble_eq_true rfl)
        obtain ⟨e9, e13⟩ := hp
        subst e9
        refine lv_aload_n hx hb dX2_widen_100 rfl (lv_at hl 0 rfl) ?_
        refine w_calli hw (va_runV (As := []) (rest := []) ⟨hx, hb, hml, hown, hts⟩ (c_X2_diskCount l D cI cD ad _ V_10 n (show V_10 2 1 = nI n from by rw [hA.2.2.2.2.1 2 (by decide) (by decide), hN.2.2.2.2.1 1 (by decide), hV_8, u2_n _ _ (Or.inr (by decide)), hV_7, u2_n _ _ (Or.inr (by decide)), hV_6, u2_n _ _ (Or.inr (by decide)), hc2]; exact hn) true (show V_10 2 2 = bI true from by rw [hA.2.2.2.2.1 2 (by decide) (by decide), hN.2.2.2.2.1 2 (by decide), hV_8, u2_n _ _ (Or.inr (by decide)), hV_7, u2_n _ _ (Or.inr (by decide)), hV_6, u2_s]; rfl)) (cwV 0 hts gX2_widen_X2_diskCount rfl rfl rfl (by decide +kernel) ⟨Nat.le_of_ble_eq_true rfl, Nat.le_of_ble_eq_true rfl⟩) (w_preV hK hw (by omega) (cF_0 _) rfl _) rfl rfl hl.1 rfl (lv_room (Nat.le_of_ble_eq_true rfl)) dX2_widen_101 ⟨Nat.le_of_ble_eq_true rfl, Nat.le_of_ble_eq_true rfl⟩) (fun r_14 V_13 H locs hp hw => ?_)
        obtain ⟨e9, e8⟩ := hp
        subst e9
        subst e8
        exact vx_ret (W.widen (k := 4) (n := 24) (Nat.le_of_ble_eq_true rfl) (Nat.le_of_ble_eq_true rfl) (w_iret hx hb hr hlocks hw (by have q9 : fp = 0 := (by by_cases z : fp = 0; (· exact z); (· rw [show min fp 1 = 1 by omega] at e13; exact absurd e13 (by decide))); rw [hL9, if_pos q9]; exact ⟨rfl, rfl, hC⟩) dX2_widen_104))
      · obtain ⟨sa9, hsa9⟩ := hT9.2 (108, "can\'t be made wider now") (by decide +kernel)
        exact w_throw (own := RX2) (cls := "java/lang/IllegalArgumentException") (text := "can\'t be made wider now") (names := ["java/lang/RuntimeException", "java/lang/Exception"]) (sa := sa9) hx hb hlt hown (by decide +kernel) (by decide +kernel) (hts (.classLink RX2 37 "java/lang/IllegalArgumentException") (by decide +kernel)) (hts (.initialized "java/lang/IllegalArgumentException") (by decide +kernel)) hsa9 (vx_hat (L := vx_atS RX2 41 "java/lang/IllegalArgumentException" ["java/lang/RuntimeException", "java/lang/Exception"]) (B := [.castable "java/lang/IllegalArgumentException" "java/lang/IllegalArgumentException", .declares ⟨"java/lang/RuntimeException", "<init>", "(Ljava/lang/String;)V"⟩, .declares ⟨"java/lang/Exception", "<init>", "(Ljava/lang/String;)V"⟩, .declares ⟨"java/lang/Throwable", "<init>", "(Ljava/lang/String;)V"⟩]) (fun w hw => hts w ((by decide +kernel : ∀ w ∈ (vx_atS RX2 41 "java/lang/IllegalArgumentException" ["java/lang/RuntimeException", "java/lang/Exception"]).filter goodWord, w ∈ wsX2_widen) w hw)) (by decide +kernel) (vx_c (va_Nw.use rfl (hT9.1 (.castable "java/lang/IllegalArgumentException" "java/lang/IllegalArgumentException") (by decide +kernel))) (vx_c (va_Nw.use rfl (hT9.1 (.declares ⟨"java/lang/RuntimeException", "<init>", "(Ljava/lang/String;)V"⟩) (by decide +kernel))) (vx_c (va_Nw.use rfl (hT9.1 (.declares ⟨"java/lang/Exception", "<init>", "(Ljava/lang/String;)V"⟩) (by decide +kernel))) (vx_c (va_Nw.use rfl (hT9.1 (.declares ⟨"java/lang/Throwable", "<init>", "(Ljava/lang/String;)V"⟩) (by decide +kernel))) (vx_n)))))) (by decide +kernel) hZ hw (hl.1.trans hml.symm) dX2_widen_34 dX2_widen_37 dX2_widen_38 dX2_widen_40 dX2_widen_43 hout (Nat.le_of_ble_eq_true rfl) (Nat.le_of_ble_eq_true rfl) (Nat.le_of_ble_eq_true rfl) (Nat.le_of_ble_eq_true rfl) hlocks (by have hL : oWiden (ct, (md, fd), (n, wide, dn, st, num), (lost, fresh), (fp, sh)) = (2, 0, (ct, (md, fd), (n, wide, dn, st, num), (lost, fresh), (fp, sh))) := (by rw [oWiden, ifS_y (a := (ct, (md, fd), (n, wide, dn, st, num), (lost, fresh), (fp, sh))) e1 e2]; exact if_pos (by first | exact Or.inl (bI_n0.mp c_11) | exact Or.inr (Or.inl c_23) | (rw [hlo, hfr] at c_31; exact Or.inr (Or.inr c_31)))); rw [hL]; exact ⟨Or.inr (Or.inl ⟨rfl, rfl⟩), hR⟩) (Nat.le_of_ble_eq_true rfl) (Nat.le_of_ble_eq_true rfl)
