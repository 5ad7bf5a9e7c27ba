set_option maxHeartbeats 4000000 in
set_option maxRecDepth 100000 in
theorem c_X2_read (l : Launch) (hlt : l.stackTraces = false) (D : va_G) (cI cD : ClassId) (ad : Nat → Nat) (sz : Nat) (V : vT) (ct : Nat → Nat → Int32) (md fd : Bool) (n : Nat) (wide : Bool) (dn : Nat) (st : Bool) (num : Nat) (lost fresh : Int32) (fp : Nat) (sh : Int32) (hR : cR V (ct, (md, fd), (n, wide, dn, st, num), (lost, fresh), (fp, sh))) (B : Nat) (hB : B < 10000) (hWF : WF B (ct, (md, fd), (n, wide, dn, st, num), (lost, fresh), (fp, sh))) (b i : Int32) : vx_Met l yX2_read wsX2_read ({ frames := 7, cells := 4, slots := 24, locals := 112 }) (gPx D cI cD 47 ad (cF cI cD ad) sz V [.ref (ad 0), .int b, .int i]) (va_Qi (fun (r : Int32) (V1 : vT) => (oRead (ct, (md, fd), (n, wide, dn, st, num), (lost, fresh), (fp, sh)) b i).1 = 0 ∧ (oRead (ct, (md, fd), (n, wide, dn, st, num), (lost, fresh), (fp, sh)) b i).2.1 = r ∧ cR V1 (oRead (ct, (md, fd), (n, wide, dn, st, num), (lost, fresh), (fp, sh)) b i).2.2) (gB D 47 ad (cF cI cD ad)) (gA 47 ad sz)) (gX D 47 ad (cF cI cD ad) sz (fun E V1 => ((E = "java/lang/IllegalStateException" ∧ (oRead (ct, (md, fd), (n, wide, dn, st, num), (lost, fresh), (fp, sh)) b i).1 = 1) ∨ (E = "java/lang/IndexOutOfBoundsException" ∧ (oRead (ct, (md, fd), (n, wide, dn, st, num), (lost, fresh), (fp, sh)) b i).1 = 2)) ∧ cR V1 (oRead (ct, (md, fd), (n, wide, dn, st, num), (lost, fresh), (fp, sh)) b i).2.2)) 4 24 (gA 47 ad sz) := by
  refine w_xmet (cc := cX2_read) (maxL := 3) (ret := (some .int)) (by decide) rfl (Nat.le_of_ble_eq_true rfl) ?_
  intro p e s m below meth c hx hb hr hts hown hlocks hml hsz hK hw hT9 hZ hout ls hl
  subst hsz
  have hown : s.vm.findClass RX2 = some m.cls := hown
  have hl : lv_has ls 3 [(0, .ref (ad 0)), (1, .int b), (2, .int i)] := hl
  obtain ⟨hmd, hfd, hlo, hfr, hfp8, hsh, hQ0, hdc⟩ := hR.pt
  refine lv_aload_n hx hb dX2_read_0 rfl (lv_at hl 0 rfl) ?_
  refine w_xcallv hw (vx_runV (As := []) (rest := []) ⟨hx, hb, hml, hown, hts⟩ (c_X2_checkServing l hlt D cI cD ad _ V md hmd fd hfd) (cwV 0 hts gX2_read_X2_checkServing rfl rfl rfl (by decide +kernel) ⟨Nat.le_of_ble_eq_true rfl, Nat.le_of_ble_eq_true rfl⟩) (w_xpreV hK hT9 hZ hw (by omega) (cF_0 _) rfl _) rfl rfl hl.1 rfl (lv_room (Nat.le_of_ble_eq_true rfl)) dX2_read_1 ⟨Nat.le_of_ble_eq_true rfl, Nat.le_of_ble_eq_true rfl⟩) (fun E9 ce9 q9 V9 H locs hp hw h1 h2 h3 => ?_) (fun V_1 H locs hp hw => ?_)
  · exact w_xout hout hlocks h1 h2 h3 hw (by obtain ⟨e9, e8, e7⟩ := hp; subst e9; subst e8; have hL : oRead (ct, (md, fd), (n, wide, dn, st, num), (lost, fresh), (fp, sh)) b i = (1, 0, (ct, (md, fd), (n, wide, dn, st, num), (lost, fresh), (fp, sh))) := (by rw [oRead, ifS_n (a := (ct, (md, fd), (n, wide, dn, st, num), (lost, fresh), (fp, sh))) e7]); rw [hL]; exact ⟨Or.inl ⟨rfl, rfl⟩, hR⟩) (Nat.le_of_ble_eq_true rfl) (Nat.le_of_ble_eq_true rfl)
  obtain ⟨e9, e1, e2⟩ := hp
  subst e9
  obtain ⟨hnum, hn, hwd, hdn, hst⟩ := hR.sv e1 e2
  obtain ⟨hn3, hn6, hwn, hd32, hsw, hnum1, hnumB, hlo9, hfr9, hlf9, hfp9, hex9⟩ := hWF.sv e1 e2
  have hkw6 := kw_le hn6 hwn
  have hkwn := kw_ge (n := n) (wide := wide)
  refine lv_aload_n hx hb dX2_read_4 rfl (lv_at hl 0 rfl) ?_
  refine lv_iload_n hx hb dX2_read_5 rfl (lv_at hl 1 rfl) ?_
  refine lv_iload_n hx hb dX2_read_6 rfl (lv_at hl 2 rfl) ?_
  refine w_xcallv hw (vx_runV (As := [.int b, .int i]) (rest := []) ⟨hx, hb, hml, hown, hts⟩ (c_X2_checkWordOfBlock l hlt D cI cD ad _ V n hn (by omega) (by omega) b i) (cwV 2 hts gX2_read_X2_checkWordOfBlock rfl rfl rfl (by decide +kernel) ⟨Nat.le_of_ble_eq_true rfl, Nat.le_of_ble_eq_true rfl⟩) (w_xpreV hK hT9 hZ hw (by omega) (cF_0 _) rfl _) rfl rfl hl.1 rfl (lv_room (Nat.le_of_ble_eq_true rfl)) dX2_read_7 ⟨Nat.le_of_ble_eq_true rfl, Nat.le_of_ble_eq_true rfl⟩) (fun E9 ce9 q9 V9 H locs hp hw h1 h2 h3 => ?_) (fun V_2 H locs hp hw => ?_)
  · exact w_xout hout hlocks h1 h2 h3 hw (by obtain ⟨e9, e8, e7⟩ := hp; subst e9; subst e8; have hL : oRead (ct, (md, fd), (n, wide, dn, st, num), (lost, fresh), (fp, sh)) b i = (2, 0, (ct, (md, fd), (n, wide, dn, st, num), (lost, fresh), (fp, sh))) := (by rw [oRead, ifS_y (a := (ct, (md, fd), (n, wide, dn, st, num), (lost, fresh), (fp, sh))) e1 e2]; exact if_pos (e7)); rw [hL]; exact ⟨Or.inr (⟨rfl, rfl⟩), hR⟩) (Nat.le_of_ble_eq_true rfl) (Nat.le_of_ble_eq_true rfl)
  obtain ⟨e9, e3, e4, e5, e6⟩ := hp
  subst e9
  obtain ⟨bb, hbb, e10, -⟩ := pk_mu e3 e4 (by omega)
  subst e10
  obtain ⟨ii, hii, e11⟩ := nI_in2 e5 e6 (by decide)
  subst e11
  refine lv_aload_n hx hb dX2_read_10 rfl (lv_at hl 0 rfl) ?_
  refine lv_iload_n hx hb dX2_read_11 rfl (lv_at hl 1 rfl) ?_
  refine lv_iload_n hx hb dX2_read_12 rfl (lv_at hl 2 rfl) ?_
  refine w_calli hw (va_runV (As := [.int (nI bb), .int (nI ii)]) (rest := []) ⟨hx, hb, hml, hown, hts⟩ (c_X2_wordOfBlock l D cI cD ad _ V n (show V 2 1 = nI n from hn) wide (show V 2 2 = bI wide from hwd) dn (show V 2 3 = nI dn from hdn) st (show V 2 4 = bI st from hst) (by omega) (by omega) (by omega) hwn bb ii (by omega) (by omega)) (cwV 2 hts gX2_read_X2_wordOfBlock rfl rfl rfl (by decide +kernel) ⟨Nat.le_of_ble_eq_true rfl, Nat.le_of_ble_eq_true rfl⟩) (w_preV hK hw (by omega) (cF_0 _) rfl _) rfl rfl hl.1 rfl (lv_room (Nat.le_of_ble_eq_true rfl)) dX2_read_13 ⟨Nat.le_of_ble_eq_true rfl, Nat.le_of_ble_eq_true rfl⟩) (fun r_4 V_3 H locs hp hw => ?_)
  obtain ⟨e9, e8⟩ := hp
  subst e9
  subst e8
  have hL9 : oRead (ct, (md, fd), (n, wide, dn, st, num), (lost, fresh), (fp, sh)) (nI bb) (nI ii) = (0, wob ct (ab lost fresh) n wide dn st bb ii, (ct, (md, fd), (n, wide, dn, st, num), (lost, fresh), (fp, sh))) := by rw [oRead, ifS_y (a := (ct, (md, fd), (n, wide, dn, st, num), (lost, fresh), (fp, sh))) e1 e2]; refine (if_neg ?_).trans (by rw [nI_clamp (by omega), nI_clamp (by omega)]); intro h; rcases h with h | h | h | h; (· exact e3 h); (· exact e4 h); (· exact e5 h); (· exact h e6)
  rw [hlo, hfr]
  exact vx_ret (W.widen (k := 4) (n := 24) (Nat.le_of_ble_eq_true rfl) (Nat.le_of_ble_eq_true rfl) (w_iret hx hb hr hlocks hw (⟨by rw [hL9], by rw [hL9]; exact (wob_congr (wc_V hR) hn3 hn6 hwn hbb hii).symm, by rw [hL9]; exact hR⟩) dX2_read_16))
