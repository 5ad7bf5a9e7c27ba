set_option maxHeartbeats 4000000 in
set_option maxRecDepth 100000 in
theorem c_X3_read (l : Launch) (D : va_G) (cI cD : ClassId) (ad : Nat → Nat) (sz : Nat) (V : vT) (ct : Nat → Nat → Int32) (md fd : Bool) (n : Nat) (wide : Bool) (dn : Nat) (st : Bool) (num : Nat) (lost fresh : Int32) (fp : Nat) (sh : Int32) (hR : mR V (ct, (md, fd), (n, wide, dn, st, num), (lost, fresh), (fp, sh))) (B : Nat) (hB : B < 10000) (hWF : WF B (ct, (md, fd), (n, wide, dn, st, num), (lost, fresh), (fp, sh))) (b i : Int32) : Met l yX3_read wsX3_read ({ frames := 3, cells := 0, slots := 0, locals := 72 }) (gP D cI cD 10 ad (mF cI ad) sz V [.ref (ad 0), .int b, .int i]) (va_Qi (fun (r : Int32) (V1 : vT) => V1 0 0 = nI (oRead (ct, (md, fd), (n, wide, dn, st, num), (lost, fresh), (fp, sh)) b i).1 ∧ ((oRead (ct, (md, fd), (n, wide, dn, st, num), (lost, fresh), (fp, sh)) b i).1 = 0 → (oRead (ct, (md, fd), (n, wide, dn, st, num), (lost, fresh), (fp, sh)) b i).2.1 = r) ∧ mR V1 (oRead (ct, (md, fd), (n, wide, dn, st, num), (lost, fresh), (fp, sh)) b i).2.2) (gB D 10 ad (mF cI ad)) (gA 10 ad sz)) 0 0 (gA 10 ad sz) := by
  refine w_met (cc := cX3_read) (maxL := 3) (ret := (some .int)) (by decide) rfl (Nat.le_of_ble_eq_true rfl) ?_
  intro p e s m below meth c hx hb hr hts hown hlocks hml hsz hK hw ls hl
  subst hsz
  have hown : s.vm.findClass RX3 = some m.cls := hown
  have hl : lv_has ls 3 [(0, .ref (ad 0)), (1, .int b), (2, .int i)] := hl
  obtain ⟨⟨hmd, hlo, hfr, hsh, hz6, hmc⟩, hfd, har, hfa⟩ := hR.pt
  refine lv_aload_n hx hb dX3_read_0 rfl (lv_at hl 0 rfl) ?_
  refine w_calli hw (va_runV (As := []) (rest := []) ⟨hx, hb, hml, hown, hts⟩ (c_X3_works l D cI cD ad _ V md hmd fd hfd) (cwV 0 hts gX3_read_X3_works rfl rfl rfl (by decide +kernel) ⟨Nat.le_of_ble_eq_true rfl, Nat.le_of_ble_eq_true rfl⟩) (w_preV hK hw (by omega) (mF_0 _) rfl _) rfl rfl hl.1 rfl (lv_room (Nat.le_of_ble_eq_true rfl)) dX3_read_1 ⟨Nat.le_of_ble_eq_true rfl, Nat.le_of_ble_eq_true rfl⟩) (fun r_2 V_1 H locs hp hw => ?_)
  obtain ⟨hW9, e8⟩ := hp
  subst e8
  refine lv_if_ne (tgt := 9) hx hb dX3_read_4 (by decide) (fun c_4 => ?_) (fun c_4 => ?_)
  · have e12 := of_decide_eq_true (bI_n0.mp c_4)
    obtain ⟨e1, e2⟩ := id e12
    rw [if_pos e12] at hW9
    have h00 : V_1 0 0 = nI 0 := by rw [hW9, u2_s]
    have hR := mR_u0 hR hW9
    obtain ⟨⟨hmd, hlo, hfr, hsh, hz6, hmc⟩, hfd, har, hfa⟩ := hR.pt
    obtain ⟨hn, hdn, hnum, hwd, hst⟩ := hR.sv e1 e2
    obtain ⟨hn3, hn6, hwn, hd32, hsw, hnum1, hnumB, hlo9, hfr9, hlf9, hfp9, hex9⟩ := hWF.sv e1 e2
    have hkw6 := kw_le hn6 hwn
    have hkwn := kw_ge (n := n) (wide := wide)
    have hlf : V_1 0 8 = -1 ∨ V_1 0 9 = -1 := by rw [hlo, hfr]; exact hlf9
    have h8 : V_1 0 8 = -1 ∨ ∃ d, d < 10 ∧ V_1 0 8 = nI d := by rw [hlo]; exact hlo9.imp id (fun ⟨d, hd, e⟩ => ⟨d, by omega, e⟩)
    have h9 : V_1 0 9 = -1 ∨ ∃ d, d < 10 ∧ V_1 0 9 = nI d := by rw [hfr]; exact hfr9.imp id (fun ⟨d, hd, e⟩ => ⟨d, by omega, e⟩)
    refine lv_aload_n hx hb dX3_read_9 rfl (lv_at hl 0 rfl) ?_
    refine lv_iload_n hx hb dX3_read_10 rfl (lv_at hl 1 rfl) ?_
    refine lv_iload_n hx hb dX3_read_11 rfl (lv_at hl 2 rfl) ?_
    refine w_calli hw (va_runV (As := [.int b, .int i]) (rest := []) ⟨hx, hb, hml, hown, hts⟩ (c_X3_isWord l D cI cD ad _ V_1 n (show V_1 0 3 = nI n from hn) hn3 hn6 b i) (cwV 2 hts gX3_read_X3_isWord rfl rfl rfl (by decide +kernel) ⟨Nat.le_of_ble_eq_true rfl, Nat.le_of_ble_eq_true rfl⟩) (w_preV hK hw (by omega) (mF_0 _) rfl _) rfl rfl hl.1 rfl (lv_room (Nat.le_of_ble_eq_true rfl)) dX3_read_12 ⟨Nat.le_of_ble_eq_true rfl, Nat.le_of_ble_eq_true rfl⟩) (fun r_4 V_3 H locs hp hw => ?_)
    obtain ⟨e9, e8⟩ := hp
    subst e9
    subst e8
    refine lv_if_eq (tgt := 27) hx hb dX3_read_15 (by decide) (fun c_15 => ?_) (fun c_15 => ?_)
    · refine lv_aload_n hx hb dX3_read_27 rfl (lv_at hl 0 rfl) ?_
      refine lv_iconst (v := nI 2) hx hb dX3_read_28 (by decide) ?_
      refine w_calli hw (va_runV (As := [.int (nI 2)]) (rest := []) ⟨hx, hb, hml, hown, hts⟩ (c_X3_fail l D cI cD ad _ V_1 (nI 2)) (cwV 1 hts gX3_read_X3_fail rfl rfl rfl (by decide +kernel) ⟨Nat.le_of_ble_eq_true rfl, Nat.le_of_ble_eq_true rfl⟩) (w_preV hK hw (by omega) (mF_0 _) rfl _) rfl rfl hl.1 rfl (lv_room (Nat.le_of_ble_eq_true rfl)) dX3_read_29 ⟨Nat.le_of_ble_eq_true rfl, Nat.le_of_ble_eq_true rfl⟩) (fun r_6 V_5 H locs hp hw => ?_)
      obtain ⟨e9f, e8⟩ := hp
      subst e8
      exact w_iret hx hb hr hlocks hw (by have hL : oRead (ct, (md, fd), (n, wide, dn, st, num), (lost, fresh), (fp, sh)) b i = (2, 0, (ct, (md, fd), (n, wide, dn, st, num), (lost, fresh), (fp, sh))) := (by rw [oRead, ifS_y (a := (ct, (md, fd), (n, wide, dn, st, num), (lost, fresh), (fp, sh))) e1 e2]; exact if_pos (Decidable.not_not.mp (of_decide_eq_false (bI_0.mp c_15)))); rw [hL]; exact ⟨by rw [e9f, u2_s], fun h => absurd (show (2 : Nat) = 0 from h) (by decide), mR_u0 hR e9f⟩) dX3_read_32
    · have e7 := of_decide_eq_true (bI_n0.mp c_15)
      have e3 : ¬ b < 0 := fun h => e7 (Or.inl h)
      have e4 : ¬ nI (32 * (n - 1)) ≤ b := fun h => e7 (Or.inr (Or.inl h))
      have e5 : ¬ i < 0 := fun h => e7 (Or.inr (Or.inr (Or.inl h)))
      have e6 : i < nI 4 := Decidable.not_not.mp (fun h => e7 (Or.inr (Or.inr (Or.inr h))))
      obtain ⟨bb, hbb, e10, -⟩ := pk_mu e3 e4 (by omega)
      subst e10
      obtain ⟨ii, hii, e11⟩ := nI_in2 e5 e6 (by decide)
      subst e11
      refine lv_aload_n hx hb dX3_read_18 rfl (lv_at hl 0 rfl) ?_
      refine lv_iload_n hx hb dX3_read_19 rfl (lv_at hl 1 rfl) ?_
      refine lv_iload_n hx hb dX3_read_20 rfl (lv_at hl 2 rfl) ?_
      refine w_calli hw (va_runV (As := [.int (nI bb), .int (nI ii)]) (rest := []) ⟨hx, hb, hml, hown, hts⟩ (c_X3_wordAt l D cI cD ad _ V_1 n (show V_1 0 3 = nI n from hn) wide (show V_1 0 6 = bI wide from hwd) dn (show V_1 0 4 = nI dn from hdn) st (show V_1 0 7 = bI st from hst) hn3 hn6 hd32 hwn hsw hlf bb ii (by omega) (by omega)) (cwV 2 hts gX3_read_X3_wordAt rfl rfl rfl (by decide +kernel) ⟨Nat.le_of_ble_eq_true rfl, Nat.le_of_ble_eq_true rfl⟩) (w_preV hK hw (by omega) (mF_0 _) rfl _) rfl rfl hl.1 rfl (lv_room (Nat.le_of_ble_eq_true rfl)) dX3_read_21 ⟨Nat.le_of_ble_eq_true rfl, Nat.le_of_ble_eq_true rfl⟩) (fun r_8 V_7 H locs hp hw => ?_)
      obtain ⟨e9, e8⟩ := hp
      subst e9
      subst e8
      refine lv_goto (tgt := 32) hx hb dX3_read_24 (by decide) ?_
      exact w_iret hx hb hr hlocks hw (by have hL : oRead (ct, (md, fd), (n, wide, dn, st, num), (lost, fresh), (fp, sh)) (nI bb) (nI ii) = (0, wob ct (ab lost fresh) n wide dn st bb ii, (ct, (md, fd), (n, wide, dn, st, num), (lost, fresh), (fp, sh))) := (by rw [oRead, ifS_y (a := (ct, (md, fd), (n, wide, dn, st, num), (lost, fresh), (fp, sh))) e1 e2]; exact (if_neg e7).trans (by rw [nI_clamp (by omega), nI_clamp (by omega)])); rw [hL]; exact ⟨h00, fun _ => by rw [if_pos hbb, hlo, hfr]; exact (wob_congr (wc_M hR.1) hn3 hn6 hwn hbb hii).symm, hR⟩) dX3_read_32
  · have e12 := of_decide_eq_false (bI_0.mp c_4)
    rw [if_neg e12] at hW9
    refine lv_iconst (v := nI 0) hx hb dX3_read_7 (by decide) ?_
    exact w_iret hx hb hr hlocks hw (by have hL : oRead (ct, (md, fd), (n, wide, dn, st, num), (lost, fresh), (fp, sh)) b i = (1, 0, (ct, (md, fd), (n, wide, dn, st, num), (lost, fresh), (fp, sh))) := (by rw [oRead, ifS_n (a := (ct, (md, fd), (n, wide, dn, st, num), (lost, fresh), (fp, sh))) e12]); rw [hL]; exact ⟨by rw [hW9, u2_s], fun h => absurd (show (1 : Nat) = 0 from h) (by decide), mR_u0 hR hW9⟩) dX3_read_8
set_option maxHeartbeats 4000000 in
set_option maxRecDepth 100000 in
theorem c_X3_layout (l : Launch) (D : va_G) (cI cD : ClassId) (ad : Nat → Nat) (sz : Nat) (V : vT) (ct : Nat → Nat → Int32) (md fd : Bool) (n : Nat) (wide : Bool) (dn : Nat) (st : Bool) (num : Nat) (lost fresh : Int32) (fp : Nat) (sh : Int32) (hR : mR V (ct, (md, fd), (n, wide, dn, st, num), (lost, fresh), (fp, sh))) (B : Nat) (hB : B < 10000) (hWF : WF B (ct, (md, fd), (n, wide, dn, st, num), (lost, fresh), (fp, sh))) (b : Int32) : Met l yX3_layout wsX3_layout ({ frames := 2, cells := 0, slots := 0, locals := 43 }) (gP D cI cD 10 ad (mF cI ad) sz V [.ref (ad 0), .int b]) (va_Qi (fun (r : Int32) (V1 : vT) => V1 0 0 = nI (oLayout (ct, (md, fd), (n, wide, dn, st, num), (lost, fresh), (fp, sh)) b).1 ∧ ((oLayout (ct, (md, fd), (n, wide, dn, st, num), (lost, fresh), (fp, sh)) b).1 = 0 → (oLayout (ct, (md, fd), (n, wide, dn, st, num), (lost, fresh), (fp, sh)) b).2.1 = r) ∧ mR V1 (oLayout (ct, (md, fd), (n, wide, dn, st, num), (lost, fresh), (fp, sh)) b).2.2) (gB D 10 ad (mF cI ad)) (gA 10 ad sz)) 0 0 (gA 10 ad sz) := by
  refine w_met (cc := cX3_layout) (maxL := 2) (ret := (some .int)) (by decide) rfl (Nat.le_of_ble_eq_true rfl) ?_
  intro p e s m below meth c hx hb hr hts hown hlocks hml hsz hK hw ls hl
  subst hsz
  have hown : s.vm.findClass RX3 = some m.cls := hown
  have hl : lv_has ls 2 [(0, .ref (ad 0)), (1, .int b)] := hl
  obtain ⟨⟨hmd, hlo, hfr, hsh, hz6, hmc⟩, hfd, har, hfa⟩ := hR.pt
  refine lv_aload_n hx hb dX3_layout_0 rfl (lv_at hl 0 rfl) ?_
  refine w_calli hw (va_runV (As := []) (rest := []) ⟨hx, hb, hml, hown, hts⟩ (c_X3_works l D cI cD ad _ V md hmd fd hfd) (cwV 0 hts gX3_layout_X3_works rfl rfl rfl (by decide +kernel) ⟨Nat.le_of_ble_eq_true rfl, Nat.le_of_ble_eq_true rfl⟩) (w_preV hK hw (by omega) (mF_0 _) rfl _) rfl rfl hl.1 rfl (lv_room (Nat.le_of_ble_eq_true rfl)) dX3_layout_1 ⟨Nat.le_of_ble_eq_true rfl, Nat.le_of_ble_eq_true rfl⟩) (fun r_2 V_1 H locs hp hw => ?_)
  obtain ⟨hW9, e8⟩ := hp
  subst e8
  refine lv_if_ne (tgt := 9) hx hb dX3_layout_4 (by decide) (fun c_4 => ?_) (fun c_4 => ?_)
  · have e12 := of_decide_eq_true (bI_n0.mp c_4)
    obtain ⟨e1, e2⟩ := id e12
    rw [if_pos e12] at hW9
    have h00 : V_1 0 0 = nI 0 := by rw [hW9, u2_s]
    have hR := mR_u0 hR hW9
    obtain ⟨⟨hmd, hlo, hfr, hsh, hz6, hmc⟩, hfd, har, hfa⟩ := hR.pt
    obtain ⟨hn, hdn, hnum, hwd, hst⟩ := hR.sv e1 e2
    obtain ⟨hn3, hn6, hwn, hd32, hsw, hnum1, hnumB, hlo9, hfr9, hlf9, hfp9, hex9⟩ := hWF.sv e1 e2
    have hkw6 := kw_le hn6 hwn
    have hkwn := kw_ge (n := n) (wide := wide)
    have hlf : V_1 0 8 = -1 ∨ V_1 0 9 = -1 := by rw [hlo, hfr]; exact hlf9
    have h8 : V_1 0 8 = -1 ∨ ∃ d, d < 10 ∧ V_1 0 8 = nI d := by rw [hlo]; exact hlo9.imp id (fun ⟨d, hd, e⟩ => ⟨d, by omega, e⟩)
    have h9 : V_1 0 9 = -1 ∨ ∃ d, d < 10 ∧ V_1 0 9 = nI d := by rw [hfr]; exact hfr9.imp id (fun ⟨d, hd, e⟩ => ⟨d, by omega, e⟩)
    refine lv_iload_n hx hb dX3_layout_9 rfl (lv_at hl 1 rfl) ?_
    refine lv_iconst (v := nI 0) hx hb dX3_layout_10 (by decide) ?_
    refine lv_aload_n hx hb dX3_layout_11 rfl (lv_at hl 0 rfl) ?_
    refine w_calli hw (va_runV (As := []) (rest := [.int (nI 0), .int b]) ⟨hx, hb, hml, hown, hts⟩ (c_X3_capacity l D cI cD ad _ V_1 n (show V_1 0 3 = nI n from hn) (by omega)) (cwV 0 hts gX3_layout_X3_capacity rfl rfl rfl (by decide +kernel) ⟨Nat.le_of_ble_eq_true rfl, Nat.le_of_ble_eq_true rfl⟩) (w_preV hK hw (by omega) (mF_0 _) rfl _) rfl rfl hl.1 rfl (lv_room (Nat.le_of_ble_eq_true rfl)) dX3_layout_12 ⟨Nat.le_of_ble_eq_true rfl, Nat.le_of_ble_eq_true rfl⟩) (fun r_4 V_3 H locs hp hw => ?_)
    obtain ⟨e9, e8⟩ := hp
    subst e9
    subst e8
    refine lv_iconst (v := nI 1) hx hb dX3_layout_15 (by decide) ?_
    refine n_sub hx hb dX3_layout_16 (by omega) ?_
    refine w_calli hw (va_runS (As := [.int b, .int (nI 0), .int (nI ((32 * (n - 1)) - 1))]) (rest := []) ⟨hx, hb, hml, hown, hts⟩ (c_X3_within l D cI cD ad _ V_1 b (nI 0) (nI ((32 * (n - 1)) - 1))) (va_cwS 3 hts gX3_layout_X3_within rfl rfl rfl (by decide +kernel) ⟨Nat.le_of_ble_eq_true rfl, Nat.le_of_ble_eq_true rfl⟩) (w_preS hK hw _) rfl rfl hl.1 rfl (lv_room (Nat.le_of_ble_eq_true rfl)) dX3_layout_17 ⟨Nat.le_of_ble_eq_true rfl, Nat.le_of_ble_eq_true rfl⟩) (fun r_6 V_5 H locs hp hw => ?_)
    obtain ⟨e9, e8⟩ := hp
    subst e9
    subst e8
    refine lv_if_ne (tgt := 29) hx hb dX3_layout_20 (by decide) (fun c_20 => ?_) (fun c_20 => ?_)
    · obtain ⟨e3, e4⟩ := wi_y (L := 32 * (n - 1)) (by omega) (by omega) (of_decide_eq_true (bI_n0.mp c_20))
      obtain ⟨bb, hbb, e10⟩ := nI_in2 e3 e4 (by omega)
      subst e10
      refine lv_aload_n hx hb dX3_layout_29 rfl (lv_at hl 0 rfl) ?_
      refine lv_iload_n hx hb dX3_layout_30 rfl (lv_at hl 1 rfl) ?_
      refine w_calli hw (va_runV (As := [.int (nI bb)]) (rest := []) ⟨hx, hb, hml, hown, hts⟩ (c_X3_isInWindow l D cI cD ad _ V_1 n (show V_1 0 3 = nI n from hn) dn (show V_1 0 4 = nI dn from hdn) st (show V_1 0 7 = bI st from hst) (by omega) (by omega) (by omega) wide hsw bb (by omega)) (cwV 1 hts gX3_layout_X3_isInWindow rfl rfl rfl (by decide +kernel) ⟨Nat.le_of_ble_eq_true rfl, Nat.le_of_ble_eq_true rfl⟩) (w_preV hK hw (by omega) (mF_0 _) rfl _) rfl rfl hl.1 rfl (lv_room (Nat.le_of_ble_eq_true rfl)) dX3_layout_31 ⟨Nat.le_of_ble_eq_true rfl, Nat.le_of_ble_eq_true rfl⟩) (fun r_8 V_7 H locs hp hw => ?_)
      obtain ⟨e9, e8⟩ := hp
      subst e9
      subst e8
      refine lv_if_eq (tgt := 41) hx hb dX3_layout_34 (by decide) (fun c_34 => ?_) (fun c_34 => ?_)
      · refine lv_aload_n hx hb dX3_layout_41 rfl (lv_at hl 0 rfl) ?_
        refine lv_iload_n hx hb dX3_layout_42 rfl (lv_at hl 1 rfl) ?_
        refine w_calli hw (va_runV (As := [.int (nI bb)]) (rest := []) ⟨hx, hb, hml, hown, hts⟩ (c_X3_isNew l D cI cD ad _ V_1 n (show V_1 0 3 = nI n from hn) dn (show V_1 0 4 = nI dn from hdn) wide (show V_1 0 6 = bI wide from hwd) (by omega) (by omega) (by omega) st bb (by omega)) (cwV 1 hts gX3_layout_X3_isNew rfl rfl rfl (by decide +kernel) ⟨Nat.le_of_ble_eq_true rfl, Nat.le_of_ble_eq_true rfl⟩) (w_preV hK hw (by omega) (mF_0 _) rfl _) rfl rfl hl.1 rfl (lv_room (Nat.le_of_ble_eq_true rfl)) dX3_layout_43 ⟨Nat.le_of_ble_eq_true rfl, Nat.le_of_ble_eq_true rfl⟩) (fun r_10 V_9 H locs hp hw => ?_)
        obtain ⟨e9, e8⟩ := hp
        subst e9
        subst e8
        refine lv_if_eq (tgt := 53) hx hb dX3_layout_46 (by decide) (fun c_46 => ?_) (fun c_46 => ?_)
        · refine lv_iconst (v := nI 0) hx hb dX3_layout_53 (by decide) ?_
          exact w_iret hx hb hr hlocks hw (by have hL : oLayout (ct, (md, fd), (n, wide, dn, st, num), (lost, fresh), (fp, sh)) (nI bb) = (0, nI (plc n wide dn st bb), (ct, (md, fd), (n, wide, dn, st, num), (lost, fresh), (fp, sh))) := (by rw [oLayout, ifS_y (a := (ct, (md, fd), (n, wide, dn, st, num), (lost, fresh), (fp, sh))) e1 e2]; refine (if_neg (fun h => h.elim e3 (fun z => absurd e4 (Int32.not_lt.mpr z)))).trans (by rw [nI_clamp (by omega)])); have hv : plc n wide dn st bb = 0 := (by have z1 : ¬ plc n wide dn st bb = 2 := of_decide_eq_false (bI_0.mp c_34); have z2 : ¬ plc n wide dn st bb = 1 := of_decide_eq_false (bI_0.mp c_46); have z3 := plc_lt (n := n) (wide := wide) (dn := dn) (st := st) (b := bb); omega); rw [hL]; exact ⟨h00, fun _ => by rw [hv], hR⟩) dX3_layout_54
        · refine lv_iconst (v := nI 1) hx hb dX3_layout_49 (by decide) ?_
          refine lv_goto (tgt := 54) hx hb dX3_layout_50 (by decide) ?_
          exact w_iret hx hb hr hlocks hw (by have hL : oLayout (ct, (md, fd), (n, wide, dn, st, num), (lost, fresh), (fp, sh)) (nI bb) = (0, nI (plc n wide dn st bb), (ct, (md, fd), (n, wide, dn, st, num), (lost, fresh), (fp, sh))) := (by rw [oLayout, ifS_y (a := (ct, (md, fd), (n, wide, dn, st, num), (lost, fresh), (fp, sh))) e1 e2]; refine (if_neg (fun h => h.elim e3 (fun z => absurd e4 (Int32.not_lt.mpr z)))).trans (by rw [nI_clamp (by omega)])); have hv : plc n wide dn st bb = 1 := (of_decide_eq_true (bI_n0.mp c_46)); rw [hL]; exact ⟨h00, fun _ => by rw [hv], hR⟩) dX3_layout_54
      · refine lv_iconst (v := nI 2) hx hb dX3_layout_37 (by decide) ?_
        refine lv_goto (tgt := 54) hx hb dX3_layout_38 (by decide) ?_
        exact w_iret hx hb hr hlocks hw (by have hL : oLayout (ct, (md, fd), (n, wide, dn, st, num), (lost, fresh), (fp, sh)) (nI bb) = (0, nI (plc n wide dn st bb), (ct, (md, fd), (n, wide, dn, st, num), (lost, fresh), (fp, sh))) := (by rw [oLayout, ifS_y (a := (ct, (md, fd), (n, wide, dn, st, num), (lost, fresh), (fp, sh))) e1 e2]; refine (if_neg (fun h => h.elim e3 (fun z => absurd e4 (Int32.not_lt.mpr z)))).trans (by rw [nI_clamp (by omega)])); have hv : plc n wide dn st bb = 2 := (of_decide_eq_true (bI_n0.mp c_34)); rw [hL]; exact ⟨h00, fun _ => by rw [hv], hR⟩) dX3_layout_54
    · refine lv_aload_n hx hb dX3_layout_23 rfl (lv_at hl 0 rfl) ?_
      refine lv_iconst (v := nI 2) hx hb dX3_layout_24 (by decide) ?_
      refine w_calli hw (va_runV (As := [.int (nI 2)]) (rest := []) ⟨hx, hb, hml, hown, hts⟩ (c_X3_fail l D cI cD ad _ V_1 (nI 2)) (cwV 1 hts gX3_layout_X3_fail rfl rfl rfl (by decide +kernel) ⟨Nat.le_of_ble_eq_true rfl, Nat.le_of_ble_eq_true rfl⟩) (w_preV hK hw (by omega) (mF_0 _) rfl _) rfl rfl hl.1 rfl (lv_room (Nat.le_of_ble_eq_true rfl)) dX3_layout_25 ⟨Nat.le_of_ble_eq_true rfl, Nat.le_of_ble_eq_true rfl⟩) (fun r_12 V_11 H locs hp hw => ?_)
      obtain ⟨e9f, e8⟩ := hp
      subst e8
      exact w_iret hx hb hr hlocks hw (by have hL : oLayout (ct, (md, fd), (n, wide, dn, st, num), (lost, fresh), (fp, sh)) b = (2, 0, (ct, (md, fd), (n, wide, dn, st, num), (lost, fresh), (fp, sh))) := (by rw [oLayout, ifS_y (a := (ct, (md, fd), (n, wide, dn, st, num), (lost, fresh), (fp, sh))) e1 e2]; exact if_pos ((wi_n (L := 32 * (n - 1)) (by omega) (by omega) (of_decide_eq_false (bI_0.mp c_20))).imp id Int32.not_lt.mp)); rw [hL]; exact ⟨by rw [e9f, u2_s], fun h => absurd (show (2 : Nat) = 0 from h) (by decide), mR_u0 hR e9f⟩) dX3_layout_28
  · have e12 := of_decide_eq_false (bI_0.mp c_4)
    rw [if_neg e12] at hW9
    refine lv_iconst (v := nI 0) hx hb dX3_layout_7 (by decide) ?_
    exact w_iret hx hb hr hlocks hw (by have hL : oLayout (ct, (md, fd), (n, wide, dn, st, num), (lost, fresh), (fp, sh)) b = (1, 0, (ct, (md, fd), (n, wide, dn, st, num), (lost, fresh), (fp, sh))) := (by rw [oLayout, ifS_n (a := (ct, (md, fd), (n, wide, dn, st, num), (lost, fresh), (fp, sh))) e12]); rw [hL]; exact ⟨by rw [hW9, u2_s], fun h => absurd (show (1 : Nat) = 0 from h) (by decide), mR_u0 hR hW9⟩) dX3_layout_8
set_option maxHeartbeats 4000000 in
set_option maxRecDepth 100000 in
theorem c_X3_cell (l : Launch) (D : va_G) (cI cD : ClassId) (ad : Nat → Nat) (sz : Nat) (V : vT) (ct : Nat → Nat → Int32) (md fd : Bool) (n : Nat) (wide : Bool) (dn : Nat) (st : Bool) (num : Nat) (lost fresh : Int32) (fp : Nat) (sh : Int32) (hR : mR V (ct, (md, fd), (n, wide, dn, st, num), (lost, fresh), (fp, sh))) (B : Nat) (hB : B < 10000) (hWF : WF B (ct, (md, fd), (n, wide, dn, st, num), (lost, fresh), (fp, sh))) (d row i : Int32) : Met l yX3_cell wsX3_cell ({ frames := 1, cells := 0, slots := 0, locals := 22 }) (gP D cI cD 10 ad (mF cI ad) sz V [.ref (ad 0), .int d, .int row, .int i]) (va_Qi (fun (r : Int32) (V1 : vT) => V1 0 0 = nI (oCell (ct, (md, fd), (n, wide, dn, st, num), (lost, fresh), (fp, sh)) d row i).1 ∧ ((oCell (ct, (md, fd), (n, wide, dn, st, num), (lost, fresh), (fp, sh)) d row i).1 = 0 → (oCell (ct, (md, fd), (n, wide, dn, st, num), (lost, fresh), (fp, sh)) d row i).2.1 = r) ∧ mR V1 (oCell (ct, (md, fd), (n, wide, dn, st, num), (lost, fresh), (fp, sh)) d row i).2.2) (gB D 10 ad (mF cI ad)) (gA 10 ad sz)) 0 0 (gA 10 ad sz) := by
  refine w_met (cc := cX3_cell) (maxL := 4) (ret := (some .int)) (by decide) rfl (Nat.le_of_ble_eq_true rfl) ?_
  intro p e s m below meth c hx hb hr hts hown hlocks hml hsz hK hw ls hl
  subst hsz
  have hown : s.vm.findClass RX3 = some m.cls := hown
  have hi3 : ∀ w ∈ wsX30, w ∈ wsX3_cell := by decide +kernel
  have hl : lv_has ls 4 [(0, .ref (ad 0)), (1, .int d), (2, .int row), (3, .int i)] := hl
  obtain ⟨⟨hmd, hlo, hfr, hsh, hz6, hmc⟩, hfd, har, hfa⟩ := hR.pt
  refine lv_aload_n hx hb dX3_cell_0 rfl (lv_at hl 0 rfl) ?_
  refine w_calli hw (va_runV (As := []) (rest := []) ⟨hx, hb, hml, hown, hts⟩ (c_X3_works l D cI cD ad _ V md hmd fd hfd) (cwV 0 hts gX3_cell_X3_works rfl rfl rfl (by decide +kernel) ⟨Nat.le_of_ble_eq_true rfl, Nat.le_of_ble_eq_true rfl⟩) (w_preV hK hw (by omega) (mF_0 _) rfl _) rfl rfl hl.1 rfl (lv_room (Nat.le_of_ble_eq_true rfl)) dX3_cell_1 ⟨Nat.le_of_ble_eq_true rfl, Nat.le_of_ble_eq_true rfl⟩) (fun r_2 V_1 H locs hp hw => ?_)
  obtain ⟨hW9, e8⟩ := hp
  subst e8
  refine lv_if_ne (tgt := 9) hx hb dX3_cell_4 (by decide) (fun c_4 => ?_) (fun c_4 => ?_)
  · have e12 := of_decide_eq_true (bI_n0.mp c_4)
    obtain ⟨e1, e2⟩ := id e12
    rw [if_pos e12] at hW9
    have h00 : V_1 0 0 = nI 0 := by rw [hW9, u2_s]
    have hR := mR_u0 hR hW9
    obtain ⟨⟨hmd, hlo, hfr, hsh, hz6, hmc⟩, hfd, har, hfa⟩ := hR.pt
    obtain ⟨hn, hdn, hnum, hwd, hst⟩ := hR.sv e1 e2
    obtain ⟨hn3, hn6, hwn, hd32, hsw, hnum1, hnumB, hlo9, hfr9, hlf9, hfp9, hex9⟩ := hWF.sv e1 e2
    have hkw6 := kw_le hn6 hwn
    have hkwn := kw_ge (n := n) (wide := wide)
    have hlf : V_1 0 8 = -1 ∨ V_1 0 9 = -1 := by rw [hlo, hfr]; exact hlf9
    have h8 : V_1 0 8 = -1 ∨ ∃ d, d < 10 ∧ V_1 0 8 = nI d := by rw [hlo]; exact hlo9.imp id (fun ⟨d, hd, e⟩ => ⟨d, by omega, e⟩)
    have h9 : V_1 0 9 = -1 ∨ ∃ d, d < 10 ∧ V_1 0 9 = nI d := by rw [hfr]; exact hfr9.imp id (fun ⟨d, hd, e⟩ => ⟨d, by omega, e⟩)
    refine lv_iload_n hx hb dX3_cell_9 rfl (lv_at hl 1 rfl) ?_
    refine lv_iconst (v := nI 0) hx hb dX3_cell_10 (by decide) ?_
    refine lv_aload_n hx hb dX3_cell_11 rfl (lv_at hl 0 rfl) ?_
    refine w_calli hw (va_runV (As := []) (rest := [.int (nI 0), .int d]) ⟨hx, hb, hml, hown, hts⟩ (c_X3_disks l D cI cD ad _ V_1 n (show V_1 0 3 = nI n from hn) wide (show V_1 0 6 = bI wide from hwd)) (cwV 0 hts gX3_cell_X3_disks rfl rfl rfl (by decide +kernel) ⟨Nat.le_of_ble_eq_true rfl, Nat.le_of_ble_eq_true rfl⟩) (w_preV hK hw (by omega) (mF_0 _) rfl _) rfl rfl hl.1 rfl (lv_room (Nat.le_of_ble_eq_true rfl)) dX3_cell_12 ⟨Nat.le_of_ble_eq_true rfl, Nat.le_of_ble_eq_true rfl⟩) (fun r_4 V_3 H locs hp hw => ?_)
    obtain ⟨e9, e8⟩ := hp
    subst e9
    subst e8
    refine lv_iconst (v := nI 1) hx hb dX3_cell_15 (by decide) ?_
    refine n_sub hx hb dX3_cell_16 (by omega) ?_
    refine w_calli hw (va_runS (As := [.int d, .int (nI 0), .int (nI ((kw n wide) - 1))]) (rest := []) ⟨hx, hb, hml, hown, hts⟩ (c_X3_within l D cI cD ad _ V_1 d (nI 0) (nI ((kw n wide) - 1))) (va_cwS 3 hts gX3_cell_X3_within rfl rfl rfl (by decide +kernel) ⟨Nat.le_of_ble_eq_true rfl, Nat.le_of_ble_eq_true rfl⟩) (w_preS hK hw _) rfl rfl hl.1 rfl (lv_room (Nat.le_of_ble_eq_true rfl)) dX3_cell_17 ⟨Nat.le_of_ble_eq_true rfl, Nat.le_of_ble_eq_true rfl⟩) (fun r_6 V_5 H locs hp hw => ?_)
    obtain ⟨e9, e8⟩ := hp
    subst e9
    subst e8
    refine lv_if_eq (tgt := 56) hx hb dX3_cell_20 (by decide) (fun c_20 => ?_) (fun c_20 => ?_)
    · refine lv_aload_n hx hb dX3_cell_56 rfl (lv_at hl 0 rfl) ?_
      refine lv_iconst (v := nI 2) hx hb dX3_cell_57 (by decide) ?_
      refine w_calli hw (va_runV (As := [.int (nI 2)]) (rest := []) ⟨hx, hb, hml, hown, hts⟩ (c_X3_fail l D cI cD ad _ V_1 (nI 2)) (cwV 1 hts gX3_cell_X3_fail rfl rfl rfl (by decide +kernel) ⟨Nat.le_of_ble_eq_true rfl, Nat.le_of_ble_eq_true rfl⟩) (w_preV hK hw (by omega) (mF_0 _) rfl _) rfl rfl hl.1 rfl (lv_room (Nat.le_of_ble_eq_true rfl)) dX3_cell_58 ⟨Nat.le_of_ble_eq_true rfl, Nat.le_of_ble_eq_true rfl⟩) (fun r_8 V_7 H locs hp hw => ?_)
      obtain ⟨e9f, e8⟩ := hp
      subst e8
      exact w_iret hx hb hr hlocks hw (by have hL : oCell (ct, (md, fd), (n, wide, dn, st, num), (lost, fresh), (fp, sh)) d row i = (2, 0, (ct, (md, fd), (n, wide, dn, st, num), (lost, fresh), (fp, sh))) := (by rw [oCell, ifS_y (a := (ct, (md, fd), (n, wide, dn, st, num), (lost, fresh), (fp, sh))) e1 e2]; exact if_pos (by first | exact Or.inl (wi_n (L := kw n wide) (by omega) (by omega) (of_decide_eq_false (bI_0.mp c_20))) | exact Or.inr ((wi_n (L := 40) (by decide) (by decide) (of_decide_eq_false (bI_0.mp c_30))).imp id (fun z => Or.inl (Int32.not_lt.mp z))) | exact Or.inr (Or.inr (Or.inr (wi_n (L := 4) (by decide) (by decide) (of_decide_eq_false (bI_0.mp c_39))))))); rw [hL]; exact ⟨by rw [e9f, u2_s], fun h => absurd (show (2 : Nat) = 0 from h) (by decide), mR_u0 hR e9f⟩) dX3_cell_61
    · refine lv_iload_n hx hb dX3_cell_23 rfl (lv_at hl 2 rfl) ?_
      refine lv_iconst (v := nI 0) hx hb dX3_cell_24 (by decide) ?_
      refine lv_bipush (v := nI 39) hx hb dX3_cell_25 (by decide) ?_
      refine w_calli hw (va_runS (As := [.int row, .int (nI 0), .int (nI 39)]) (rest := []) ⟨hx, hb, hml, hown, hts⟩ (c_X3_within l D cI cD ad _ V_1 row (nI 0) (nI 39)) (va_cwS 3 hts gX3_cell_X3_within rfl rfl rfl (by decide +kernel) ⟨Nat.le_of_ble_eq_true rfl, Nat.le_of_ble_eq_true rfl⟩) (w_preS hK hw _) rfl rfl hl.1 rfl (lv_room (Nat.le_of_ble_eq_true rfl)) dX3_cell_27 ⟨Nat.le_of_ble_eq_true rfl, Nat.le_of_ble_eq_true rfl⟩) (fun r_10 V_9 H locs hp hw => ?_)
      obtain ⟨e9, e8⟩ := hp
      subst e9
      subst e8
      refine lv_if_eq (tgt := 56) hx hb dX3_cell_30 (by decide) (fun c_30 => ?_) (fun c_30 => ?_)
      · refine lv_aload_n hx hb dX3_cell_56 rfl (lv_at hl 0 rfl) ?_
        refine lv_iconst (v := nI 2) hx hb dX3_cell_57 (by decide) ?_
        refine w_calli hw (va_runV (As := [.int (nI 2)]) (rest := []) ⟨hx, hb, hml, hown, hts⟩ (c_X3_fail l D cI cD ad _ V_1 (nI 2)) (cwV 1 hts gX3_cell_X3_fail rfl rfl rfl (by decide +kernel) ⟨Nat.le_of_ble_eq_true rfl, Nat.le_of_ble_eq_true rfl⟩) (w_preV hK hw (by omega) (mF_0 _) rfl _) rfl rfl hl.1 rfl (lv_room (Nat.le_of_ble_eq_true rfl)) dX3_cell_58 ⟨Nat.le_of_ble_eq_true rfl, Nat.le_of_ble_eq_true rfl⟩) (fun r_12 V_11 H locs hp hw => ?_)
        obtain ⟨e9f, e8⟩ := hp
        subst e8
        exact w_iret hx hb hr hlocks hw (by have hL : oCell (ct, (md, fd), (n, wide, dn, st, num), (lost, fresh), (fp, sh)) d row i = (2, 0, (ct, (md, fd), (n, wide, dn, st, num), (lost, fresh), (fp, sh))) := (by rw [oCell, ifS_y (a := (ct, (md, fd), (n, wide, dn, st, num), (lost, fresh), (fp, sh))) e1 e2]; exact if_pos (by first | exact Or.inl (wi_n (L := kw n wide) (by omega) (by omega) (of_decide_eq_false (bI_0.mp c_20))) | exact Or.inr ((wi_n (L := 40) (by decide) (by decide) (of_decide_eq_false (bI_0.mp c_30))).imp id (fun z => Or.inl (Int32.not_lt.mp z))) | exact Or.inr (Or.inr (Or.inr (wi_n (L := 4) (by decide) (by decide) (of_decide_eq_false (bI_0.mp c_39))))))); rw [hL]; exact ⟨by rw [e9f, u2_s], fun h => absurd (show (2 : Nat) = 0 from h) (by decide), mR_u0 hR e9f⟩) dX3_cell_61
      · refine lv_iload_n hx hb dX3_cell_33 rfl (lv_at hl 3 rfl) ?_
        refine lv_iconst (v := nI 0) hx hb dX3_cell_34 (by decide) ?_
        refine lv_iconst (v := nI 3) hx hb dX3_cell_35 (by decide) ?_
        refine w_calli hw (va_runS (As := [.int i, .int (nI 0), .int (nI 3)]) (rest := []) ⟨hx, hb, hml, hown, hts⟩ (c_X3_within l D cI cD ad _ V_1 i (nI 0) (nI 3)) (va_cwS 3 hts gX3_cell_X3_within rfl rfl rfl (by decide +kernel) ⟨Nat.le_of_ble_eq_true rfl, Nat.le_of_ble_eq_true rfl⟩) (w_preS hK hw _) rfl rfl hl.1 rfl (lv_room (Nat.le_of_ble_eq_true rfl)) dX3_cell_36 ⟨Nat.le_of_ble_eq_true rfl, Nat.le_of_ble_eq_true rfl⟩) (fun r_14 V_13 H locs hp hw => ?_)
        obtain ⟨e9, e8⟩ := hp
        subst e9
        subst e8
        refine lv_if_eq (tgt := 56) hx hb dX3_cell_39 (by decide) (fun c_39 => ?_) (fun c_39 => ?_)
        · refine lv_aload_n hx hb dX3_cell_56 rfl (lv_at hl 0 rfl) ?_
          refine lv_iconst (v := nI 2) hx hb dX3_cell_57 (by decide) ?_
          refine w_calli hw (va_runV (As := [.int (nI 2)]) (rest := []) ⟨hx, hb, hml, hown, hts⟩ (c_X3_fail l D cI cD ad _ V_1 (nI 2)) (cwV 1 hts gX3_cell_X3_fail rfl rfl rfl (by decide +kernel) ⟨Nat.le_of_ble_eq_true rfl, Nat.le_of_ble_eq_true rfl⟩) (w_preV hK hw (by omega) (mF_0 _) rfl _) rfl rfl hl.1 rfl (lv_room (Nat.le_of_ble_eq_true rfl)) dX3_cell_58 ⟨Nat.le_of_ble_eq_true rfl, Nat.le_of_ble_eq_true rfl⟩) (fun r_16 V_15 H locs hp hw => ?_)
          obtain ⟨e9f, e8⟩ := hp
          subst e8
          exact w_iret hx hb hr hlocks hw (by have hL : oCell (ct, (md, fd), (n, wide, dn, st, num), (lost, fresh), (fp, sh)) d row i = (2, 0, (ct, (md, fd), (n, wide, dn, st, num), (lost, fresh), (fp, sh))) := (by rw [oCell, ifS_y (a := (ct, (md, fd), (n, wide, dn, st, num), (lost, fresh), (fp, sh))) e1 e2]; exact if_pos (by first | exact Or.inl (wi_n (L := kw n wide) (by omega) (by omega) (of_decide_eq_false (bI_0.mp c_20))) | exact Or.inr ((wi_n (L := 40) (by decide) (by decide) (of_decide_eq_false (bI_0.mp c_30))).imp id (fun z => Or.inl (Int32.not_lt.mp z))) | exact Or.inr (Or.inr (Or.inr (wi_n (L := 4) (by decide) (by decide) (of_decide_eq_false (bI_0.mp c_39))))))); rw [hL]; exact ⟨by rw [e9f, u2_s], fun h => absurd (show (2 : Nat) = 0 from h) (by decide), mR_u0 hR e9f⟩) dX3_cell_61
        · obtain ⟨e3, e4⟩ := wi_y (L := kw n wide) (by omega) (by omega) (of_decide_eq_true (bI_n0.mp c_20))
          obtain ⟨e5, e6⟩ := wi_y (L := 40) (by decide) (by decide) (of_decide_eq_true (bI_n0.mp c_30))
          obtain ⟨e13, e14⟩ := wi_y (L := 4) (by decide) (by decide) (of_decide_eq_true (bI_n0.mp c_39))
          obtain ⟨dd9, hdd9, e10⟩ := nI_in2 e3 e4 (by omega)
          subst e10
          obtain ⟨rr9, hrr9, e11⟩ := nI_in2 e5 e6 (by omega)
          subst e11
          obtain ⟨ii, hii, e15⟩ := nI_in2 e13 e14 (by omega)
          subst e15
          refine lv_aload_n hx hb dX3_cell_42 rfl (lv_at hl 0 rfl) ?_
          refine w_get (ci := 3) (C := RX3) (T := TX3) (M := 24) (v := .ref (ad 1)) hx hb hts hi3 hown hK hw 0 (by omega) _ (mF_0 _) rfl 14 (by decide) (hts (.fieldLink RX3 16 "WideningArrayModel" "words" "[I") (by decide +kernel)) rfl dX3_cell_43 ?_
          refine lv_iload_n hx hb dX3_cell_46 rfl (lv_at hl 1 rfl) ?_
          refine lv_iload_n hx hb dX3_cell_47 rfl (lv_at hl 2 rfl) ?_
          refine lv_iload_n hx hb dX3_cell_48 rfl (lv_at hl 3 rfl) ?_
          refine w_calli hw (va_runS (As := [.int (nI dd9), .int (nI rr9), .int (nI ii)]) (rest := [.ref (ad 1)]) ⟨hx, hb, hml, hown, hts⟩ (c_X3_at l D cI cD ad _ V_1 dd9 rr9 ii) (va_cwS 3 hts gX3_cell_X3_at rfl rfl rfl (by decide +kernel) ⟨Nat.le_of_ble_eq_true rfl, Nat.le_of_ble_eq_true rfl⟩) (w_preS hK hw _) rfl rfl hl.1 rfl (lv_room (Nat.le_of_ble_eq_true rfl)) dX3_cell_49 ⟨Nat.le_of_ble_eq_true rfl, Nat.le_of_ble_eq_true rfl⟩) (fun r_18 V_17 H locs hp hw => ?_)
          obtain ⟨e9, e8⟩ := hp
          subst e9
          subst e8
          refine w_iald hx hb hK hw 1 1120 (by omega) (fun _ => rfl) (i := 160 * dd9 + 4 * rr9 + ii) (by omega) (by decide) dX3_cell_52 ?_
          refine n_is (show V_1 1 (160 * dd9 + 4 * rr9 + ii) = mw V_1 dd9 (rr9 * 4 + ii) from congrArg (V_1 1) (by omega)) ?_
          refine lv_goto (tgt := 61) hx hb dX3_cell_53 (by decide) ?_
          exact w_iret hx hb hr hlocks hw (by have hL : oCell (ct, (md, fd), (n, wide, dn, st, num), (lost, fresh), (fp, sh)) (nI dd9) (nI rr9) (nI ii) = (0, ct dd9 (rr9 * 4 + ii), (ct, (md, fd), (n, wide, dn, st, num), (lost, fresh), (fp, sh))) := (by rw [oCell, ifS_y (a := (ct, (md, fd), (n, wide, dn, st, num), (lost, fresh), (fp, sh))) e1 e2]; refine (if_neg ?_).trans (by rw [nI_clamp (by omega), nI_clamp (by omega), nI_clamp (by omega)]); intro h; rcases h with (h | h) | h | h | h | h; (· exact e3 h); (· exact h e4); (· exact e5 h); (· exact absurd e6 (Int32.not_lt.mpr h)); (· exact e13 h); (· exact h e14)); rw [hL]; exact ⟨h00, fun _ => (wc_M hR.1 dd9 (by omega) (rr9 * 4 + ii) (by omega)).symm, hR⟩) dX3_cell_61
  · have e12 := of_decide_eq_false (bI_0.mp c_4)
    rw [if_neg e12] at hW9
    refine lv_iconst (v := nI 0) hx hb dX3_cell_7 (by decide) ?_
    exact w_iret hx hb hr hlocks hw (by have hL : oCell (ct, (md, fd), (n, wide, dn, st, num), (lost, fresh), (fp, sh)) d row i = (1, 0, (ct, (md, fd), (n, wide, dn, st, num), (lost, fresh), (fp, sh))) := (by rw [oCell, ifS_n (a := (ct, (md, fd), (n, wide, dn, st, num), (lost, fresh), (fp, sh))) e12]); rw [hL]; exact ⟨by rw [hW9, u2_s], fun h => absurd (show (1 : Nat) = 0 from h) (by decide), mR_u0 hR hW9⟩) dX3_cell_8
set_option maxHeartbeats 4000000 in
set_option maxRecDepth 100000 in
theorem c_X3_marks (l : Launch) (D : va_G) (cI cD : ClassId) (ad : Nat → Nat) (sz : Nat) (V : vT) (ct : Nat → Nat → Int32) (md fd : Bool) (n : Nat) (wide : Bool) (dn : Nat) (st : Bool) (num : Nat) (lost fresh : Int32) (fp : Nat) (sh : Int32) (hR : mR V (ct, (md, fd), (n, wide, dn, st, num), (lost, fresh), (fp, sh))) (B : Nat) (hB : B < 10000) (hWF : WF B (ct, (md, fd), (n, wide, dn, st, num), (lost, fresh), (fp, sh))) (d q : Int32) : Met l yX3_marks wsX3_marks ({ frames := 1, cells := 0, slots := 0, locals := 22 }) (gP D cI cD 10 ad (mF cI ad) sz V [.ref (ad 0), .int d, .int q]) (va_Qi (fun (r : Int32) (V1 : vT) => V1 0 0 = nI (oMarks (ct, (md, fd), (n, wide, dn, st, num), (lost, fresh), (fp, sh)) d q).1 ∧ ((oMarks (ct, (md, fd), (n, wide, dn, st, num), (lost, fresh), (fp, sh)) d q).1 = 0 → (oMarks (ct, (md, fd), (n, wide, dn, st, num), (lost, fresh), (fp, sh)) d q).2.1 = r) ∧ mR V1 (oMarks (ct, (md, fd), (n, wide, dn, st, num), (lost, fresh), (fp, sh)) d q).2.2) (gB D 10 ad (mF cI ad)) (gA 10 ad sz)) 0 0 (gA 10 ad sz) := by
  refine w_met (cc := cX3_marks) (maxL := 3) (ret := (some .int)) (by decide) rfl (Nat.le_of_ble_eq_true rfl) ?_
  intro p e s m below meth c hx hb hr hts hown hlocks hml hsz hK hw ls hl
  subst hsz
  have hown : s.vm.findClass RX3 = some m.cls := hown
  have hi3 : ∀ w ∈ wsX30, w ∈ wsX3_marks := by decide +kernel
  have hl : lv_has ls 3 [(0, .ref (ad 0)), (1, .int d), (2, .int q)] := hl
  obtain ⟨⟨hmd, hlo, hfr, hsh, hz6, hmc⟩, hfd, har, hfa⟩ := hR.pt
  refine lv_aload_n hx hb dX3_marks_0 rfl (lv_at hl 0 rfl) ?_
  refine w_calli hw (va_runV (As := []) (rest := []) ⟨hx, hb, hml, hown, hts⟩ (c_X3_works l D cI cD ad _ V md hmd fd hfd) (cwV 0 hts gX3_marks_X3_works rfl rfl rfl (by decide +kernel) ⟨Nat.le_of_ble_eq_true rfl, Nat.le_of_ble_eq_true rfl⟩) (w_preV hK hw (by omega) (mF_0 _) rfl _) rfl rfl hl.1 rfl (lv_room (Nat.le_of_ble_eq_true rfl)) dX3_marks_1 ⟨Nat.le_of_ble_eq_true rfl, Nat.le_of_ble_eq_true rfl⟩) (fun r_2 V_1 H locs hp hw => ?_)
  obtain ⟨hW9, e8⟩ := hp
  subst e8
  refine lv_if_ne (tgt := 9) hx hb dX3_marks_4 (by decide) (fun c_4 => ?_) (fun c_4 => ?_)
  · have e12 := of_decide_eq_true (bI_n0.mp c_4)
    obtain ⟨e1, e2⟩ := id e12
    rw [if_pos e12] at hW9
    have h00 : V_1 0 0 = nI 0 := by rw [hW9, u2_s]
    have hR := mR_u0 hR hW9
    obtain ⟨⟨hmd, hlo, hfr, hsh, hz6, hmc⟩, hfd, har, hfa⟩ := hR.pt
    obtain ⟨hn, hdn, hnum, hwd, hst⟩ := hR.sv e1 e2
    obtain ⟨hn3, hn6, hwn, hd32, hsw, hnum1, hnumB, hlo9, hfr9, hlf9, hfp9, hex9⟩ := hWF.sv e1 e2
    have hkw6 := kw_le hn6 hwn
    have hkwn := kw_ge (n := n) (wide := wide)
    have hlf : V_1 0 8 = -1 ∨ V_1 0 9 = -1 := by rw [hlo, hfr]; exact hlf9
    have h8 : V_1 0 8 = -1 ∨ ∃ d, d < 10 ∧ V_1 0 8 = nI d := by rw [hlo]; exact hlo9.imp id (fun ⟨d, hd, e⟩ => ⟨d, by omega, e⟩)
    have h9 : V_1 0 9 = -1 ∨ ∃ d, d < 10 ∧ V_1 0 9 = nI d := by rw [hfr]; exact hfr9.imp id (fun ⟨d, hd, e⟩ => ⟨d, by omega, e⟩)
    refine lv_iload_n hx hb dX3_marks_9 rfl (lv_at hl 1 rfl) ?_
    refine lv_iconst (v := nI 0) hx hb dX3_marks_10 (by decide) ?_
    refine lv_aload_n hx hb dX3_marks_11 rfl (lv_at hl 0 rfl) ?_
    refine w_calli hw (va_runV (As := []) (rest := [.int (nI 0), .int d]) ⟨hx, hb, hml, hown, hts⟩ (c_X3_disks l D cI cD ad _ V_1 n (show V_1 0 3 = nI n from hn) wide (show V_1 0 6 = bI wide from hwd)) (cwV 0 hts gX3_marks_X3_disks rfl rfl rfl (by decide +kernel) ⟨Nat.le_of_ble_eq_true rfl, Nat.le_of_ble_eq_true rfl⟩) (w_preV hK hw (by omega) (mF_0 _) rfl _) rfl rfl hl.1 rfl (lv_room (Nat.le_of_ble_eq_true rfl)) dX3_marks_12 ⟨Nat.le_of_ble_eq_true rfl, Nat.le_of_ble_eq_true rfl⟩) (fun r_4 V_3 H locs hp hw => ?_)
    obtain ⟨e9, e8⟩ := hp
    subst e9
    subst e8
    refine lv_iconst (v := nI 1) hx hb dX3_marks_15 (by decide) ?_
    refine n_sub hx hb dX3_marks_16 (by omega) ?_
    refine w_calli hw (va_runS (As := [.int d, .int (nI 0), .int (nI ((kw n wide) - 1))]) (rest := []) ⟨hx, hb, hml, hown, hts⟩ (c_X3_within l D cI cD ad _ V_1 d (nI 0) (nI ((kw n wide) - 1))) (va_cwS 3 hts gX3_marks_X3_within rfl rfl rfl (by decide +kernel) ⟨Nat.le_of_ble_eq_true rfl, Nat.le_of_ble_eq_true rfl⟩) (w_preS hK hw _) rfl rfl hl.1 rfl (lv_room (Nat.le_of_ble_eq_true rfl)) dX3_marks_17 ⟨Nat.le_of_ble_eq_true rfl, Nat.le_of_ble_eq_true rfl⟩) (fun r_6 V_5 H locs hp hw => ?_)
    obtain ⟨e9, e8⟩ := hp
    subst e9
    subst e8
    refine lv_if_eq (tgt := 48) hx hb dX3_marks_20 (by decide) (fun c_20 => ?_) (fun c_20 => ?_)
    · refine lv_aload_n hx hb dX3_marks_48 rfl (lv_at hl 0 rfl) ?_
      refine lv_iconst (v := nI 2) hx hb dX3_marks_49 (by decide) ?_
      refine w_calli hw (va_runV (As := [.int (nI 2)]) (rest := []) ⟨hx, hb, hml, hown, hts⟩ (c_X3_fail l D cI cD ad _ V_1 (nI 2)) (cwV 1 hts gX3_marks_X3_fail rfl rfl rfl (by decide +kernel) ⟨Nat.le_of_ble_eq_true rfl, Nat.le_of_ble_eq_true rfl⟩) (w_preV hK hw (by omega) (mF_0 _) rfl _) rfl rfl hl.1 rfl (lv_room (Nat.le_of_ble_eq_true rfl)) dX3_marks_50 ⟨Nat.le_of_ble_eq_true rfl, Nat.le_of_ble_eq_true rfl⟩) (fun r_8 V_7 H locs hp hw => ?_)
      obtain ⟨e9f, e8⟩ := hp
      subst e8
      exact w_iret hx hb hr hlocks hw (by have hL : oMarks (ct, (md, fd), (n, wide, dn, st, num), (lost, fresh), (fp, sh)) d q = (2, 0, (ct, (md, fd), (n, wide, dn, st, num), (lost, fresh), (fp, sh))) := (by rw [oMarks, ifS_y (a := (ct, (md, fd), (n, wide, dn, st, num), (lost, fresh), (fp, sh))) e1 e2]; exact if_pos (by first | exact Or.inl (wi_n (L := kw n wide) (by omega) (by omega) (of_decide_eq_false (bI_0.mp c_20))) | exact Or.inr ((wi_n (L := 2) (by decide) (by decide) (of_decide_eq_false (bI_0.mp c_29))).elim (fun z => ⟨fun h => absurd z (by rw [h]; decide), fun h => absurd z (by rw [h]; decide)⟩) (fun z => ⟨fun h => z (by rw [h]; decide), fun h => z (by rw [h]; decide)⟩)))); rw [hL]; exact ⟨by rw [e9f, u2_s], fun h => absurd (show (2 : Nat) = 0 from h) (by decide), mR_u0 hR e9f⟩) dX3_marks_53
    · refine lv_iload_n hx hb dX3_marks_23 rfl (lv_at hl 2 rfl) ?_
      refine lv_iconst (v := nI 0) hx hb dX3_marks_24 (by decide) ?_
      refine lv_iconst (v := nI 1) hx hb dX3_marks_25 (by decide) ?_
      refine w_calli hw (va_runS (As := [.int q, .int (nI 0), .int (nI 1)]) (rest := []) ⟨hx, hb, hml, hown, hts⟩ (c_X3_within l D cI cD ad _ V_1 q (nI 0) (nI 1)) (va_cwS 3 hts gX3_marks_X3_within rfl rfl rfl (by decide +kernel) ⟨Nat.le_of_ble_eq_true rfl, Nat.le_of_ble_eq_true rfl⟩) (w_preS hK hw _) rfl rfl hl.1 rfl (lv_room (Nat.le_of_ble_eq_true rfl)) dX3_marks_26 ⟨Nat.le_of_ble_eq_true rfl, Nat.le_of_ble_eq_true rfl⟩) (fun r_10 V_9 H locs hp hw => ?_)
      obtain ⟨e9, e8⟩ := hp
      subst e9
      subst e8
      refine lv_if_eq (tgt := 48) hx hb dX3_marks_29 (by decide) (fun c_29 => ?_) (fun c_29 => ?_)
      · refine lv_aload_n hx hb dX3_marks_48 rfl (lv_at hl 0 rfl) ?_
        refine lv_iconst (v := nI 2) hx hb dX3_marks_49 (by decide) ?_
        refine w_calli hw (va_runV (As := [.int (nI 2)]) (rest := []) ⟨hx, hb, hml, hown, hts⟩ (c_X3_fail l D cI cD ad _ V_1 (nI 2)) (cwV 1 hts gX3_marks_X3_fail rfl rfl rfl (by decide +kernel) ⟨Nat.le_of_ble_eq_true rfl, Nat.le_of_ble_eq_true rfl⟩) (w_preV hK hw (by omega) (mF_0 _) rfl _) rfl rfl hl.1 rfl (lv_room (Nat.le_of_ble_eq_true rfl)) dX3_marks_50 ⟨Nat.le_of_ble_eq_true rfl, Nat.le_of_ble_eq_true rfl⟩) (fun r_12 V_11 H locs hp hw => ?_)
        obtain ⟨e9f, e8⟩ := hp
        subst e8
        exact w_iret hx hb hr hlocks hw (by have hL : oMarks (ct, (md, fd), (n, wide, dn, st, num), (lost, fresh), (fp, sh)) d q = (2, 0, (ct, (md, fd), (n, wide, dn, st, num), (lost, fresh), (fp, sh))) := (by rw [oMarks, ifS_y (a := (ct, (md, fd), (n, wide, dn, st, num), (lost, fresh), (fp, sh))) e1 e2]; exact if_pos (by first | exact Or.inl (wi_n (L := kw n wide) (by omega) (by omega) (of_decide_eq_false (bI_0.mp c_20))) | exact Or.inr ((wi_n (L := 2) (by decide) (by decide) (of_decide_eq_false (bI_0.mp c_29))).elim (fun z => ⟨fun h => absurd z (by rw [h]; decide), fun h => absurd z (by rw [h]; decide)⟩) (fun z => ⟨fun h => z (by rw [h]; decide), fun h => z (by rw [h]; decide)⟩)))); rw [hL]; exact ⟨by rw [e9f, u2_s], fun h => absurd (show (2 : Nat) = 0 from h) (by decide), mR_u0 hR e9f⟩) dX3_marks_53
      · obtain ⟨e3, e4⟩ := wi_y (L := kw n wide) (by omega) (by omega) (of_decide_eq_true (bI_n0.mp c_20))
        obtain ⟨e5, e6⟩ := wi_y (L := 2) (by decide) (by decide) (of_decide_eq_true (bI_n0.mp c_29))
        obtain ⟨dd9, hdd9, e10⟩ := nI_in2 e3 e4 (by omega)
        subst e10
        obtain ⟨qq, hqq, e11⟩ := nI_in2 e5 e6 (by omega)
        subst e11
        refine lv_aload_n hx hb dX3_marks_32 rfl (lv_at hl 0 rfl) ?_
        refine w_get (ci := 3) (C := RX3) (T := TX3) (M := 24) (v := .ref (ad 2)) hx hb hts hi3 hown hK hw 0 (by omega) _ (mF_0 _) rfl 15 (by decide) (hts (.fieldLink RX3 20 "WideningArrayModel" "marks" "[I") (by decide +kernel)) rfl dX3_marks_33 ?_
        refine lv_bipush (v := nI 10) hx hb dX3_marks_36 (by decide) ?_
        refine lv_iload_n hx hb dX3_marks_38 rfl (lv_at hl 1 rfl) ?_
        refine n_mul hx hb dX3_marks_39 ?_
        refine lv_iconst (v := nI 5) hx hb dX3_marks_40 (by decide) ?_
        refine lv_iload_n hx hb dX3_marks_41 rfl (lv_at hl 2 rfl) ?_
        refine n_mul hx hb dX3_marks_42 ?_
        refine n_add hx hb dX3_marks_43 ?_
        refine w_iald hx hb hK hw 2 70 (by omega) (fun _ => rfl) (i := (10 * dd9) + (5 * qq)) (by omega) (by decide) dX3_marks_44 ?_
        refine lv_goto (tgt := 53) hx hb dX3_marks_45 (by decide) ?_
        exact w_iret hx hb hr hlocks hw (by have hL : oMarks (ct, (md, fd), (n, wide, dn, st, num), (lost, fresh), (fp, sh)) (nI dd9) (nI qq) = (0, ct dd9 (160 + 5 * qq), (ct, (md, fd), (n, wide, dn, st, num), (lost, fresh), (fp, sh))) := (by rw [oMarks, ifS_y (a := (ct, (md, fd), (n, wide, dn, st, num), (lost, fresh), (fp, sh))) e1 e2]; refine (if_neg ?_).trans (by rw [nI_clamp (by omega), nI_clamp (by omega)]); intro h; rcases h with (h | h) | ⟨h, h9⟩; (· exact e3 h); (· exact h e4); (· rcases (show qq = 0 ∨ qq = 1 by omega) with z | z; (· exact h (by rw [z]; rfl)); (· exact h9 (by rw [z])))); rw [hL]; exact ⟨h00, fun _ => by rw [← hmc dd9 (by omega) (160 + 5 * qq) (by omega)]; unfold mc; rw [if_neg (by omega), Nat.add_sub_cancel_left], hR⟩) dX3_marks_53
  · have e12 := of_decide_eq_false (bI_0.mp c_4)
    rw [if_neg e12] at hW9
    refine lv_iconst (v := nI 0) hx hb dX3_marks_7 (by decide) ?_
    exact w_iret hx hb hr hlocks hw (by have hL : oMarks (ct, (md, fd), (n, wide, dn, st, num), (lost, fresh), (fp, sh)) d q = (1, 0, (ct, (md, fd), (n, wide, dn, st, num), (lost, fresh), (fp, sh))) := (by rw [oMarks, ifS_n (a := (ct, (md, fd), (n, wide, dn, st, num), (lost, fresh), (fp, sh))) e12]); rw [hL]; exact ⟨by rw [hW9, u2_s], fun h => absurd (show (1 : Nat) = 0 from h) (by decide), mR_u0 hR hW9⟩) dX3_marks_8
set_option maxHeartbeats 4000000 in
set_option maxRecDepth 100000 in
theorem c_X3_count (l : Launch) (D : va_G) (cI cD : ClassId) (ad : Nat → Nat) (sz : Nat) (V : vT) (ct : Nat → Nat → Int32) (md fd : Bool) (n : Nat) (wide : Bool) (dn : Nat) (st : Bool) (num : Nat) (lost fresh : Int32) (fp : Nat) (sh : Int32) (hR : mR V (ct, (md, fd), (n, wide, dn, st, num), (lost, fresh), (fp, sh))) (B : Nat) (hB : B < 10000) (hWF : WF B (ct, (md, fd), (n, wide, dn, st, num), (lost, fresh), (fp, sh))) (w9 : Int32) : Met l yX3_count wsX3_count ({ frames := 1, cells := 0, slots := 0, locals := 22 }) (gP D cI cD 10 ad (mF cI ad) sz V [.ref (ad 0), .int w9]) (va_Qi (fun (r : Int32) (V1 : vT) => oCount (ct, (md, fd), (n, wide, dn, st, num), (lost, fresh), (fp, sh)) w9 = r ∧ mR V1 (ct, (md, fd), (n, wide, dn, st, num), (lost, fresh), (fp, sh))) (gB D 10 ad (mF cI ad)) (gA 10 ad sz)) 0 0 (gA 10 ad sz) := by
  refine w_met (cc := cX3_count) (maxL := 2) (ret := (some .int)) (by decide) rfl (Nat.le_of_ble_eq_true rfl) ?_
  intro p e s m below meth c hx hb hr hts hown hlocks hml hsz hK hw ls hl
  subst hsz
  have hown : s.vm.findClass RX3 = some m.cls := hown
  have hi3 : ∀ w ∈ wsX30, w ∈ wsX3_count := by decide +kernel
  have hl : lv_has ls 2 [(0, .ref (ad 0)), (1, .int w9)] := hl
  obtain ⟨⟨hmd, hlo, hfr, hsh, hz6, hmc⟩, hfd, har, hfa⟩ := hR.pt
  refine lv_aload_n hx hb dX3_count_0 rfl (lv_at hl 0 rfl) ?_
  refine lv_iconst (v := nI 0) hx hb dX3_count_1 (by decide) ?_
  refine w_put (ci := 3) (C := RX3) (T := TX3) (M := 24) (x := nI 0) (ty := .int) hx hb hts hi3 tyX3 tyX3_ok nmX3 hown hK hw 0 (by omega) _ (mF_0 _) rfl 0 (by decide) (hts (.fieldLink RX3 44 "WideningArrayModel" "thrown" "I") (by decide +kernel)) rfl (by decide +kernel) rfl rfl (Nat.le_of_ble_eq_true rfl) (mF_0 _) dX3_count_2 (fun H locs hw => ?_)
  obtain ⟨V_1, hV_1⟩ : ∃ z : vT, z = u2 V 0 0 (nI 0) := ⟨_, rfl⟩
  rw [← hV_1] at hw
  refine lv_iload_n hx hb dX3_count_5 rfl (lv_at hl 1 rfl) ?_
  refine lv_iconst (v := nI 0) hx hb dX3_count_6 (by decide) ?_
  refine lv_bipush (v := nI 7) hx hb dX3_count_7 (by decide) ?_
  refine w_calli hw (va_runS (As := [.int w9, .int (nI 0), .int (nI 7)]) (rest := []) ⟨hx, hb, hml, hown, hts⟩ (c_X3_within l D cI cD ad _ V_1 w9 (nI 0) (nI 7)) (va_cwS 3 hts gX3_count_X3_within rfl rfl rfl (by decide +kernel) ⟨Nat.le_of_ble_eq_true rfl, Nat.le_of_ble_eq_true rfl⟩) (w_preS hK hw _) rfl rfl hl.1 rfl (lv_room (Nat.le_of_ble_eq_true rfl)) dX3_count_9 ⟨Nat.le_of_ble_eq_true rfl, Nat.le_of_ble_eq_true rfl⟩) (fun r_3 V_2 H locs hp hw => ?_)
  obtain ⟨e9, e8⟩ := hp
  subst e9
  subst e8
  refine lv_if_ne (tgt := 17) hx hb dX3_count_12 (by decide) (fun c_12 => ?_) (fun c_12 => ?_)
  · obtain ⟨e3, e4⟩ := wi_y (L := 8) (by decide) (by decide) (of_decide_eq_true (bI_n0.mp c_12))
    obtain ⟨jj, hjj, e10⟩ := nI_in2 e3 e4 (by decide)
    subst e10
    refine lv_iload_n hx hb dX3_count_17 rfl (lv_at hl 1 rfl) ?_
    refine lv_bipush (v := nI 7) hx hb dX3_count_18 (by decide) ?_
    refine n_icmp_ne (tgt := 36) hx hb dX3_count_20 (by decide) (by omega) (by omega) (fun c_20 => ?_) (fun c_20 => ?_)
    · refine lv_aload_n hx hb dX3_count_36 rfl (lv_at hl 0 rfl) ?_
      refine w_get (ci := 3) (C := RX3) (T := TX3) (M := 24) (v := .int (bI md)) hx hb hts hi3 hown hK hw 0 (by omega) _ (mF_0 _) rfl 1 (by decide) (hts (.fieldLink RX3 47 "WideningArrayModel" "isThere" "Z") (by decide +kernel)) (congrArg (fun z => some (Value.int z)) (show V_1 0 1 = bI md from by rw [hV_1, u2_n _ _ (Or.inr (by decide))]; exact (hmd))) dX3_count_37 ?_
      refine lv_if_eq (tgt := 50) hx hb dX3_count_40 (by decide) (fun c_40 => ?_) (fun c_40 => ?_)
      · refine lv_iconst (v := (-1)) hx hb dX3_count_50 (by decide) ?_
        exact w_iret hx hb hr hlocks hw (⟨by rw [oCount, if_neg (fun h => c_20 ((nI_eq (by omega) (by decide)).mp h)), if_neg (fun h => by have h : md = true ∧ fd = false := h; first | exact absurd h.1 (by rw [bI_0.mp c_40]; decide) | exact absurd h.2 (by rw [bI_n0.mp c_47]; decide))], mR_u0 hR hV_1⟩) dX3_count_51
      · refine lv_aload_n hx hb dX3_count_43 rfl (lv_at hl 0 rfl) ?_
        refine w_get (ci := 3) (C := RX3) (T := TX3) (M := 24) (v := .int (bI fd)) hx hb hts hi3 hown hK hw 0 (by omega) _ (mF_0 _) rfl 2 (by decide) (hts (.fieldLink RX3 51 "WideningArrayModel" "hasFailed" "Z") (by decide +kernel)) (congrArg (fun z => some (Value.int z)) (show V_1 0 2 = bI fd from by rw [hV_1, u2_n _ _ (Or.inr (by decide))]; exact (hfd))) dX3_count_44 ?_
        refine lv_if_eq (tgt := 52) hx hb dX3_count_47 (by decide) (fun c_47 => ?_) (fun c_47 => ?_)
        · have e1 : md = true := bI_n0.mp c_40
          have e2 : fd = false := bI_0.mp c_47
          have hR1 := mR_u0 hR hV_1
          obtain ⟨hn, hdn, hnum, hwd, hst⟩ := hR1.sv e1 e2
          obtain ⟨hn3, hn6, hwn, hd32, hsw, hnum1, hnumB, hlo9, hfr9, hlf9, hfp9, hex9⟩ := hWF.sv e1 e2
          refine lv_iload_n hx hb dX3_count_52 rfl (lv_at hl 1 rfl) ?_
          refine lv_iconst (v := nI 3) hx hb dX3_count_53 (by decide) ?_
          refine n_icmp_ge (tgt := 85) hx hb dX3_count_54 (by decide) (by omega) (by omega) (fun c_54 => ?_) (fun c_54 => ?_)
          · refine lv_iload_n hx hb dX3_count_85 rfl (lv_at hl 1 rfl) ?_
            refine lv_iconst (v := nI 3) hx hb dX3_count_86 (by decide) ?_
            refine n_icmp_ne (tgt := 105) hx hb dX3_count_87 (by decide) (by omega) (by omega) (fun c_87 => ?_) (fun c_87 => ?_)
            · refine lv_iload_n hx hb dX3_count_105 rfl (lv_at hl 1 rfl) ?_
              refine lv_iconst (v := nI 4) hx hb dX3_count_106 (by decide) ?_
              refine n_icmp_ne (tgt := 125) hx hb dX3_count_107 (by decide) (by omega) (by omega) (fun c_107 => ?_) (fun c_107 => ?_)
              · refine lv_iload_n hx hb dX3_count_125 rfl (lv_at hl 1 rfl) ?_
                refine lv_iconst (v := nI 5) hx hb dX3_count_126 (by decide) ?_
                refine n_icmp_ne (tgt := 137) hx hb dX3_count_127 (by decide) (by omega) (by omega) (fun c_127 => ?_) (fun c_127 => ?_)
                · refine lv_aload_n hx hb dX3_count_137 rfl (lv_at hl 0 rfl) ?_
                  refine w_get (ci := 3) (C := RX3) (T := TX3) (M := 24) (v := .int fresh) hx hb hts hi3 hown hK hw 0 (by omega) _ (mF_0 _) rfl 9 (by decide) (hts (.fieldLink RX3 13 "WideningArrayModel" "fresh" "I") (by decide +kernel)) (congrArg (fun z => some (Value.int z)) (show V_1 0 9 = fresh from by rw [hV_1, u2_n _ _ (Or.inr (by decide))]; exact (hfr))) dX3_count_138 ?_
                  exact w_iret hx hb hr hlocks hw (⟨by have ej : jj = 6 := (by omega); subst ej; rw [oCount, if_neg (by decide), if_pos ⟨e1, e2⟩, if_neg (by decide), if_neg (by decide), if_neg (by decide), if_neg (by decide), if_neg (by decide), if_neg (by decide), if_pos rfl], hR1⟩) dX3_count_141
                · refine lv_aload_n hx hb dX3_count_130 rfl (lv_at hl 0 rfl) ?_
                  refine w_get (ci := 3) (C := RX3) (T := TX3) (M := 24) (v := .int lost) hx hb hts hi3 hown hK hw 0 (by omega) _ (mF_0 _) rfl 8 (by decide) (hts (.fieldLink RX3 7 "WideningArrayModel" "lost" "I") (by decide +kernel)) (congrArg (fun z => some (Value.int z)) (show V_1 0 8 = lost from by rw [hV_1, u2_n _ _ (Or.inr (by decide))]; exact (hlo))) dX3_count_131 ?_
                  refine lv_goto (tgt := 141) hx hb dX3_count_134 (by decide) ?_
                  exact w_iret hx hb hr hlocks hw (⟨by have ej : jj = 5 := (by omega); subst ej; rw [oCount, if_neg (by decide), if_pos ⟨e1, e2⟩, if_neg (by decide), if_neg (by decide), if_neg (by decide), if_neg (by decide), if_neg (by decide), if_pos rfl], hR1⟩) dX3_count_141
              · refine lv_aload_n hx hb dX3_count_110 rfl (lv_at hl 0 rfl) ?_
                refine w_get (ci := 3) (C := RX3) (T := TX3) (M := 24) (v := .int (bI st)) hx hb hts hi3 hown hK hw 0 (by omega) _ (mF_0 _) rfl 7 (by decide) (hts (.fieldLink RX3 67 "WideningArrayModel" "isStashed" "Z") (by decide +kernel)) (congrArg (fun z => some (Value.int z)) (show V_1 0 7 = bI st from hst)) dX3_count_111 ?_
                refine lv_if_eq (tgt := 121) hx hb dX3_count_114 (by decide) (fun c_114 => ?_) (fun c_114 => ?_)
                · refine lv_iconst (v := nI 0) hx hb dX3_count_121 (by decide) ?_
                  refine lv_goto (tgt := 141) hx hb dX3_count_122 (by decide) ?_
                  exact w_iret hx hb hr hlocks hw (⟨by have ej : jj = 4 := (by omega); subst ej; rw [oCount, if_neg (by decide), if_pos ⟨e1, e2⟩, if_neg (by decide), if_neg (by decide), if_neg (by decide), if_neg (by decide), if_pos rfl]; first | (rw [show st = true from bI_n0.mp c_114]; rfl) | (rw [show st = false from bI_0.mp c_114]; rfl), hR1⟩) dX3_count_141
                · refine lv_iconst (v := nI 1) hx hb dX3_count_117 (by decide) ?_
                  refine lv_goto (tgt := 141) hx hb dX3_count_118 (by decide) ?_
                  exact w_iret hx hb hr hlocks hw (⟨by have ej : jj = 4 := (by omega); subst ej; rw [oCount, if_neg (by decide), if_pos ⟨e1, e2⟩, if_neg (by decide), if_neg (by decide), if_neg (by decide), if_neg (by decide), if_pos rfl]; first | (rw [show st = true from bI_n0.mp c_114]; rfl) | (rw [show st = false from bI_0.mp c_114]; rfl), hR1⟩) dX3_count_141
            · refine lv_aload_n hx hb dX3_count_90 rfl (lv_at hl 0 rfl) ?_
              refine w_get (ci := 3) (C := RX3) (T := TX3) (M := 24) (v := .int (bI wide)) hx hb hts hi3 hown hK hw 0 (by omega) _ (mF_0 _) rfl 6 (by decide) (hts (.fieldLink RX3 54 "WideningArrayModel" "isWide" "Z") (by decide +kernel)) (congrArg (fun z => some (Value.int z)) (show V_1 0 6 = bI wide from hwd)) dX3_count_91 ?_
              refine lv_if_eq (tgt := 101) hx hb dX3_count_94 (by decide) (fun c_94 => ?_) (fun c_94 => ?_)
              · refine lv_iconst (v := nI 0) hx hb dX3_count_101 (by decide) ?_
                refine lv_goto (tgt := 141) hx hb dX3_count_102 (by decide) ?_
                exact w_iret hx hb hr hlocks hw (⟨by have ej : jj = 3 := (by omega); subst ej; rw [oCount, if_neg (by decide), if_pos ⟨e1, e2⟩, if_neg (by decide), if_neg (by decide), if_neg (by decide), if_pos rfl]; first | (rw [show wide = true from bI_n0.mp c_94]; rfl) | (rw [show wide = false from bI_0.mp c_94]; rfl), hR1⟩) dX3_count_141
              · refine lv_iconst (v := nI 1) hx hb dX3_count_97 (by decide) ?_
                refine lv_goto (tgt := 141) hx hb dX3_count_98 (by decide) ?_
                exact w_iret hx hb hr hlocks hw (⟨by have ej : jj = 3 := (by omega); subst ej; rw [oCount, if_neg (by decide), if_pos ⟨e1, e2⟩, if_neg (by decide), if_neg (by decide), if_neg (by decide), if_pos rfl]; first | (rw [show wide = true from bI_n0.mp c_94]; rfl) | (rw [show wide = false from bI_0.mp c_94]; rfl), hR1⟩) dX3_count_141
          · refine lv_iload_n hx hb dX3_count_57 rfl (lv_at hl 1 rfl) ?_
            refine lv_if_ne (tgt := 68) hx hb dX3_count_58 (by decide) (fun c_58 => ?_) (fun c_58 => ?_)
            · have z58 : ¬ jj = 0 := fun h => c_58 ((nI_z (by omega)).mpr h)
              refine lv_iload_n hx hb dX3_count_68 rfl (lv_at hl 1 rfl) ?_
              refine lv_iconst (v := nI 1) hx hb dX3_count_69 (by decide) ?_
              refine n_icmp_ne (tgt := 80) hx hb dX3_count_70 (by decide) (by omega) (by omega) (fun c_70 => ?_) (fun c_70 => ?_)
              · refine lv_aload_n hx hb dX3_count_80 rfl (lv_at hl 0 rfl) ?_
                refine w_get (ci := 3) (C := RX3) (T := TX3) (M := 24) (v := .int (nI dn)) hx hb hts hi3 hown hK hw 0 (by omega) _ (mF_0 _) rfl 4 (by decide) (hts (.fieldLink RX3 64 "WideningArrayModel" "done" "I") (by decide +kernel)) (congrArg (fun z => some (Value.int z)) (show V_1 0 4 = nI dn from hdn)) dX3_count_81 ?_
                exact w_iret hx hb hr hlocks hw (⟨by have ej : jj = 2 := (by omega); subst ej; rw [oCount, if_neg (by decide), if_pos ⟨e1, e2⟩, if_neg (by decide), if_neg (by decide), if_pos rfl], hR1⟩) dX3_count_84
              · refine lv_aload_n hx hb dX3_count_73 rfl (lv_at hl 0 rfl) ?_
                refine w_calli hw (va_runV (As := []) (rest := []) ⟨hx, hb, hml, hown, hts⟩ (c_X3_capacity l D cI cD ad _ V_1 n (show V_1 0 3 = nI n from hn) (by omega)) (cwV 0 hts gX3_count_X3_capacity rfl rfl rfl (by decide +kernel) ⟨Nat.le_of_ble_eq_true rfl, Nat.le_of_ble_eq_true rfl⟩) (w_preV hK hw (by omega) (mF_0 _) rfl _) rfl rfl hl.1 rfl (lv_room (Nat.le_of_ble_eq_true rfl)) dX3_count_74 ⟨Nat.le_of_ble_eq_true rfl, Nat.le_of_ble_eq_true rfl⟩) (fun r_5 V_4 H locs hp hw => ?_)
                obtain ⟨e9, e8⟩ := hp
                subst e9
                subst e8
                refine lv_goto (tgt := 84) hx hb dX3_count_77 (by decide) ?_
                exact w_iret hx hb hr hlocks hw (⟨by have ej : jj = 1 := (by omega); subst ej; rw [oCount, if_neg (by decide), if_pos ⟨e1, e2⟩, if_neg (by decide), if_pos rfl], hR1⟩) dX3_count_84
            · have z58 : jj = 0 := (nI_z (by omega)).mp c_58
              refine lv_aload_n hx hb dX3_count_61 rfl (lv_at hl 0 rfl) ?_
              refine w_calli hw (va_runV (As := []) (rest := []) ⟨hx, hb, hml, hown, hts⟩ (c_X3_disks l D cI cD ad _ V_1 n (show V_1 0 3 = nI n from hn) wide (show V_1 0 6 = bI wide from hwd)) (cwV 0 hts gX3_count_X3_disks rfl rfl rfl (by decide +kernel) ⟨Nat.le_of_ble_eq_true rfl, Nat.le_of_ble_eq_true rfl⟩) (w_preV hK hw (by omega) (mF_0 _) rfl _) rfl rfl hl.1 rfl (lv_room (Nat.le_of_ble_eq_true rfl)) dX3_count_62 ⟨Nat.le_of_ble_eq_true rfl, Nat.le_of_ble_eq_true rfl⟩) (fun r_7 V_6 H locs hp hw => ?_)
              obtain ⟨e9, e8⟩ := hp
              subst e9
              subst e8
              refine lv_goto (tgt := 84) hx hb dX3_count_65 (by decide) ?_
              exact w_iret hx hb hr hlocks hw (⟨by have ej : jj = 0 := (by omega); subst ej; rw [oCount, if_neg (by decide), if_pos ⟨e1, e2⟩, if_pos rfl], hR1⟩) dX3_count_84
        · refine lv_iconst (v := (-1)) hx hb dX3_count_50 (by decide) ?_
          exact w_iret hx hb hr hlocks hw (⟨by rw [oCount, if_neg (fun h => c_20 ((nI_eq (by omega) (by decide)).mp h)), if_neg (fun h => by have h : md = true ∧ fd = false := h; first | exact absurd h.1 (by rw [bI_0.mp c_40]; decide) | exact absurd h.2 (by rw [bI_n0.mp c_47]; decide))], mR_u0 hR hV_1⟩) dX3_count_51
    · refine lv_aload_n hx hb dX3_count_23 rfl (lv_at hl 0 rfl) ?_
      refine w_get (ci := 3) (C := RX3) (T := TX3) (M := 24) (v := .int (bI fd)) hx hb hts hi3 hown hK hw 0 (by omega) _ (mF_0 _) rfl 2 (by decide) (hts (.fieldLink RX3 51 "WideningArrayModel" "hasFailed" "Z") (by decide +kernel)) (congrArg (fun z => some (Value.int z)) (show V_1 0 2 = bI fd from by rw [hV_1, u2_n _ _ (Or.inr (by decide))]; exact (hfd))) dX3_count_24 ?_
      refine lv_if_eq (tgt := 34) hx hb dX3_count_27 (by decide) (fun c_27 => ?_) (fun c_27 => ?_)
      · refine lv_iconst (v := nI 0) hx hb dX3_count_34 (by decide) ?_
        exact w_iret hx hb hr hlocks hw (⟨by rw [oCount, if_pos (by rw [c_20])]; rw [show fd = false from bI_0.mp c_27]; rfl, mR_u0 hR hV_1⟩) dX3_count_35
      · refine lv_iconst (v := nI 1) hx hb dX3_count_30 (by decide) ?_
        refine lv_goto (tgt := 35) hx hb dX3_count_31 (by decide) ?_
        exact w_iret hx hb hr hlocks hw (⟨by rw [oCount, if_pos (by rw [c_20])]; rw [show fd = true from bI_n0.mp c_27]; rfl, mR_u0 hR hV_1⟩) dX3_count_35
  · refine lv_iconst (v := (-1)) hx hb dX3_count_15 (by decide) ?_
    exact w_iret hx hb hr hlocks hw (⟨by rw [oCount, if_neg (fun h => of_decide_eq_false (bI_0.mp c_12) (by rw [h]; decide))]; by_cases z : md = true ∧ fd = false; (· rw [if_pos z]; repeat (first | rfl | rw [if_neg (fun h => of_decide_eq_false (bI_0.mp c_12) (by rw [h]; decide))])); (· rw [if_neg z]), mR_u0 hR hV_1⟩) dX3_count_16
set_option maxHeartbeats 4000000 in
set_option maxRecDepth 100000 in
theorem lp_X3_isRight_i {p : Program} {l : Launch} {e : Env} {s : State} {m : MethodId} {args : Array Value} {below : List Frame} {meth : Method} {c : Code} {Q : State → Prop} {D : va_G} {cI cD : ClassId} {ad : Nat → Nat} (hx : p.tables.exec = Jvm.exec) (hb : c.code = cX3_isRight) (hts : ∀ w ∈ wsX3_isRight, w.before args s = true) (hown : s.vm.findClass RX3 = some m.cls) (hml : c.maxLocals = 7) (hK : kK D cI cD s) {V : vT} (k row i : Nat) (hk6 : k ≤ 6) (hrow : row < 40) (hi4 : i < 4) (hk : ∀ (H1 : Heap) (locs1 : List Loc) (ls : Array Slot), wS D 10 ad (mF cI ad) s.heap V H1 locs1 → lv_has ls 7 [(5, .int (xa (fun e => mw V e (row * 4 + i)) k)), (4, .int (nI i)), (3, .int (bI (rgt (mw V) k row i))), (0, .ref (ad 0)), (1, .int (nI k)), (2, .int (nI row))] → W p l e ({ frames := 1, cells := 0, slots := 0, locals := 22 }) s m args below meth c H1 locs1 0 0 Q (F0 m 47 ls [])) : ∀ (n j : Nat) (H : Heap) (locs : List Loc) (ls : Array Slot), j + n = k → wS D 10 ad (mF cI ad) s.heap V H locs → lv_has ls 7 [(6, .int (nI j)), (5, .int (xa (fun e => mw V e (row * 4 + i)) j)), (4, .int (nI i)), (3, .int (bI (rgt (mw V) k row i))), (0, .ref (ad 0)), (1, .int (nI k)), (2, .int (nI row))] → W p l e ({ frames := 1, cells := 0, slots := 0, locals := 22 }) s m args below meth c H locs 0 0 Q (F0 m 17 ls []) := by
  have hi3 : ∀ w ∈ wsX30, w ∈ wsX3_isRight := by decide +kernel
  intro n
  induction n with
  | zero =>
    intro j H locs ls hjn hw hl
    refine lv_iload hx hb dX3_isRight_17 (lv_at hl 0 rfl) ?_
    refine lv_iload_n hx hb dX3_isRight_19 rfl (lv_at hl 5 rfl) ?_
    refine n_icmp_ge (tgt := 47) hx hb dX3_isRight_20 (by decide) (by omega) (by omega) (fun c_20 => ?_) (fun c_20 => ?_)
    · have e1 : j = k := by omega
      subst e1
      exact hk H locs ls hw (lv_sub hl [1, 2, 3, 4, 5, 6] rfl)
    · exfalso
      omega
  | succ n ih =>
    intro j H locs ls hjn hw hl
    refine lv_iload hx hb dX3_isRight_17 (lv_at hl 0 rfl) ?_
    refine lv_iload_n hx hb dX3_isRight_19 rfl (lv_at hl 5 rfl) ?_
    refine n_icmp_ge (tgt := 47) hx hb dX3_isRight_20 (by decide) (by omega) (by omega) (fun c_20 => ?_) (fun c_20 => ?_)
    · exfalso
      omega
    · refine lv_iload hx hb dX3_isRight_23 (lv_at hl 1 rfl) ?_
      refine lv_aload_n hx hb dX3_isRight_25 rfl (lv_at hl 4 rfl) ?_
      refine w_get (ci := 3) (C := RX3) (T := TX3) (M := 24) (v := .ref (ad 1)) hx hb hts hi3 hown hK hw 0 (by omega) _ (mF_0 _) rfl 14 (by decide) (hts (.fieldLink RX3 16 "WideningArrayModel" "words" "[I") (by decide +kernel)) rfl dX3_isRight_26 ?_
      refine lv_iload hx hb dX3_isRight_29 (lv_at hl 0 rfl) ?_
      refine lv_iload_n hx hb dX3_isRight_31 rfl (lv_at hl 6 rfl) ?_
      refine lv_iload hx hb dX3_isRight_32 (lv_at hl 2 rfl) ?_
      refine w_calli hw (va_runS (As := [.int (nI j), .int (nI row), .int (nI i)]) (rest := [.ref (ad 1), .int (xa (fun e => mw V e (row * 4 + i)) j)]) ⟨hx, hb, hml, hown, hts⟩ (c_X3_at l D cI cD ad _ V j row i) (va_cwS 3 hts gX3_isRight_X3_at rfl rfl rfl (by decide +kernel) ⟨Nat.le_of_ble_eq_true rfl, Nat.le_of_ble_eq_true rfl⟩) (w_preS hK hw _) rfl rfl hl.1 rfl (lv_room (Nat.le_of_ble_eq_true rfl)) dX3_isRight_34 ⟨Nat.le_of_ble_eq_true rfl, Nat.le_of_ble_eq_true rfl⟩) (fun r_2 V_1 H locs hp hw => ?_)
      obtain ⟨e9, e8⟩ := hp
      subst e9
      subst e8
      refine w_iald hx hb hK hw 1 1120 (by omega) (fun _ => rfl) (i := 160 * j + 4 * row + i) (by omega) (by decide) dX3_isRight_37 ?_
      refine n_is (show V 1 (160 * j + 4 * row + i) = mw V j (row * 4 + i) from congrArg (V 1) (by omega)) ?_
      refine lv_ixor hx hb dX3_isRight_38 ?_
      refine lv_istore (lv' := [(5, .int ((xa (fun e => mw V e (row * 4 + i)) j) ^^^ (mw V j (row * 4 + i)))), (6, .int (nI j)), (4, .int (nI i)), (3, .int (bI (rgt (mw V) k row i))), (0, .ref (ad 0)), (1, .int (nI k)), (2, .int (nI row))]) hx hb dX3_isRight_39 hl (by decide) rfl (fun ls hl => ?_)
      refine lv_iinc (v := nI (j + 1)) (lv' := [(6, .int (nI (j + 1))), (5, .int ((xa (fun e => mw V e (row * 4 + i)) j) ^^^ (mw V j (row * 4 + i)))), (4, .int (nI i)), (3, .int (bI (rgt (mw V) k row i))), (0, .ref (ad 0)), (1, .int (nI k)), (2, .int (nI row))]) hx hb dX3_isRight_41 hl (k := 1) rfl (nI_1 _) (by decide) rfl (fun ls hl => ?_)
      refine lv_goto (tgt := 17) hx hb dX3_isRight_44 (by decide) ?_
      exact ih (j + 1) _ _ ls (by omega) hw (lv_sub hl [0, 1, 2, 3, 4, 5, 6] rfl)
set_option maxHeartbeats 4000000 in
set_option maxRecDepth 100000 in
theorem lp_X3_isRight {p : Program} {l : Launch} {e : Env} {s : State} {m : MethodId} {args : Array Value} {below : List Frame} {meth : Method} {c : Code} {Q : State → Prop} {D : va_G} {cI cD : ClassId} {ad : Nat → Nat} (hx : p.tables.exec = Jvm.exec) (hb : c.code = cX3_isRight) (hts : ∀ w ∈ wsX3_isRight, w.before args s = true) (hown : s.vm.findClass RX3 = some m.cls) (hml : c.maxLocals = 7) (hK : kK D cI cD s) {V : vT} (k row : Nat) (hk6 : k ≤ 6) (hrow : row < 40) (hk : ∀ (H1 : Heap) (locs1 : List Loc) (ls : Array Slot), wS D 10 ad (mF cI ad) s.heap V H1 locs1 → lv_has ls 7 [(3, .int (bI (rgt (mw V) k row 4)))] → W p l e ({ frames := 1, cells := 0, slots := 0, locals := 22 }) s m args below meth c H1 locs1 0 0 Q (F0 m 68 ls [])) : ∀ (n i : Nat) (H : Heap) (locs : List Loc) (ls : Array Slot), i + n = 4 → wS D 10 ad (mF cI ad) s.heap V H locs → lv_has ls 7 [(4, .int (nI i)), (3, .int (bI (rgt (mw V) k row i))), (0, .ref (ad 0)), (1, .int (nI k)), (2, .int (nI row))] → W p l e ({ frames := 1, cells := 0, slots := 0, locals := 22 }) s m args below meth c H locs 0 0 Q (F0 m 5 ls []) := by
  have hi3 : ∀ w ∈ wsX30, w ∈ wsX3_isRight := by decide +kernel
  intro n
  induction n with
  | zero =>
    intro i H locs ls hjn hw hl
    refine lv_iload hx hb dX3_isRight_5 (lv_at hl 0 rfl) ?_
    refine lv_iconst (v := nI 4) hx hb dX3_isRight_7 (by decide) ?_
    refine n_icmp_ge (tgt := 68) hx hb dX3_isRight_8 (by decide) (by omega) (by omega) (fun c_8 => ?_) (fun c_8 => ?_)
    · have e1 : i = 4 := by omega
      subst e1
      exact hk H locs ls hw (lv_sub hl [1] rfl)
    · exfalso
      omega
  | succ n ih =>
    intro i H locs ls hjn hw hl
    refine lv_iload hx hb dX3_isRight_5 (lv_at hl 0 rfl) ?_
    refine lv_iconst (v := nI 4) hx hb dX3_isRight_7 (by decide) ?_
    refine n_icmp_ge (tgt := 68) hx hb dX3_isRight_8 (by decide) (by omega) (by omega) (fun c_8 => ?_) (fun c_8 => ?_)
    · exfalso
      omega
    · refine lv_iconst (v := nI 0) hx hb dX3_isRight_11 (by decide) ?_
      refine lv_istore (lv' := [(5, .int (nI 0)), (4, .int (nI i)), (3, .int (bI (rgt (mw V) k row i))), (0, .ref (ad 0)), (1, .int (nI k)), (2, .int (nI row))]) hx hb dX3_isRight_12 hl (by decide) rfl (fun ls hl => ?_)
      refine lv_iconst (v := nI 0) hx hb dX3_isRight_14 (by decide) ?_
      refine lv_istore (lv' := [(6, .int (nI 0)), (5, .int (nI 0)), (4, .int (nI i)), (3, .int (bI (rgt (mw V) k row i))), (0, .ref (ad 0)), (1, .int (nI k)), (2, .int (nI row))]) hx hb dX3_isRight_15 hl (by decide) rfl (fun ls hl => ?_)
      refine lp_X3_isRight_i hx hb hts hown hml hK k row i hk6 hrow (by omega) (fun H locs ls hw hl => ?_) k 0 _ _ ls (by omega) hw (lv_sub hl [0, 1, 2, 3, 4, 5, 6] rfl)
      refine lv_iload_n hx hb dX3_isRight_47 rfl (lv_at hl 2 rfl) ?_
      refine lv_if_eq (tgt := 60) hx hb dX3_isRight_48 (by decide) (fun c_48 => ?_) (fun c_48 => ?_)
      · refine lv_iconst (v := nI 0) hx hb dX3_isRight_60 (by decide) ?_
        refine n_is (show nI 0 = bI (rgt (mw V) k row (i + 1)) from by first | (rw [rgt, bI_0.mp c_48]; rfl) | (rw [rgt, decide_eq_false c_53, Bool.and_false]; rfl)) ?_
        refine lv_istore_n (lv' := [(3, .int (bI (rgt (mw V) k row (i + 1)))), (5, .int (xa (fun e => mw V e (row * 4 + i)) k)), (4, .int (nI i)), (0, .ref (ad 0)), (1, .int (nI k)), (2, .int (nI row))]) hx hb dX3_isRight_61 rfl hl (by decide) rfl (fun ls hl => ?_)
        refine lv_iinc (v := nI (i + 1)) (lv' := [(4, .int (nI (i + 1))), (3, .int (bI (rgt (mw V) k row (i + 1)))), (5, .int (xa (fun e => mw V e (row * 4 + i)) k)), (0, .ref (ad 0)), (1, .int (nI k)), (2, .int (nI row))]) hx hb dX3_isRight_62 hl (k := 2) rfl (nI_1 _) (by decide) rfl (fun ls hl => ?_)
        refine lv_goto (tgt := 5) hx hb dX3_isRight_65 (by decide) ?_
        exact ih (i + 1) _ _ ls (by omega) hw (lv_sub hl [0, 1, 3, 4, 5] rfl)
      · refine lv_iload hx hb dX3_isRight_51 (lv_at hl 0 rfl) ?_
        refine lv_if_ne (tgt := 60) hx hb dX3_isRight_53 (by decide) (fun c_53 => ?_) (fun c_53 => ?_)
        · refine lv_iconst (v := nI 0) hx hb dX3_isRight_60 (by decide) ?_
          refine n_is (show nI 0 = bI (rgt (mw V) k row (i + 1)) from by first | (rw [rgt, bI_0.mp c_48]; rfl) | (rw [rgt, decide_eq_false c_53, Bool.and_false]; rfl)) ?_
          refine lv_istore_n (lv' := [(3, .int (bI (rgt (mw V) k row (i + 1)))), (5, .int (xa (fun e => mw V e (row * 4 + i)) k)), (4, .int (nI i)), (0, .ref (ad 0)), (1, .int (nI k)), (2, .int (nI row))]) hx hb dX3_isRight_61 rfl hl (by decide) rfl (fun ls hl => ?_)
          refine lv_iinc (v := nI (i + 1)) (lv' := [(4, .int (nI (i + 1))), (3, .int (bI (rgt (mw V) k row (i + 1)))), (5, .int (xa (fun e => mw V e (row * 4 + i)) k)), (0, .ref (ad 0)), (1, .int (nI k)), (2, .int (nI row))]) hx hb dX3_isRight_62 hl (k := 2) rfl (nI_1 _) (by decide) rfl (fun ls hl => ?_)
          refine lv_goto (tgt := 5) hx hb dX3_isRight_65 (by decide) ?_
          exact ih (i + 1) _ _ ls (by omega) hw (lv_sub hl [0, 1, 3, 4, 5] rfl)
        · refine lv_iconst (v := nI 1) hx hb dX3_isRight_56 (by decide) ?_
          refine lv_goto (tgt := 61) hx hb dX3_isRight_57 (by decide) ?_
          refine n_is (show nI 1 = bI (rgt (mw V) k row (i + 1)) from by rw [rgt, bI_n0.mp c_48, decide_eq_true c_53]; rfl) ?_
          refine lv_istore_n (lv' := [(3, .int (bI (rgt (mw V) k row (i + 1)))), (5, .int (xa (fun e => mw V e (row * 4 + i)) k)), (4, .int (nI i)), (0, .ref (ad 0)), (1, .int (nI k)), (2, .int (nI row))]) hx hb dX3_isRight_61 rfl hl (by decide) rfl (fun ls hl => ?_)
          refine lv_iinc (v := nI (i + 1)) (lv' := [(4, .int (nI (i + 1))), (3, .int (bI (rgt (mw V) k row (i + 1)))), (5, .int (xa (fun e => mw V e (row * 4 + i)) k)), (0, .ref (ad 0)), (1, .int (nI k)), (2, .int (nI row))]) hx hb dX3_isRight_62 hl (k := 2) rfl (nI_1 _) (by decide) rfl (fun ls hl => ?_)
          refine lv_goto (tgt := 5) hx hb dX3_isRight_65 (by decide) ?_
          exact ih (i + 1) _ _ ls (by omega) hw (lv_sub hl [0, 1, 3, 4, 5] rfl)
set_option maxHeartbeats 4000000 in
set_option maxRecDepth 100000 in
theorem c_X3_isRight (l : Launch) (D : va_G) (cI cD : ClassId) (ad : Nat → Nat) (sz : Nat) (V : vT) (k row : Nat) (hk6 : k ≤ 6) (hrow : row < 40) : Met l yX3_isRight wsX3_isRight ({ frames := 1, cells := 0, slots := 0, locals := 22 }) (gP D cI cD 10 ad (mF cI ad) sz V [.ref (ad 0), .int (nI k), .int (nI row)]) (va_Qi (fun (r : Int32) (V1 : vT) => V = V1 ∧ bI (rgt (mw V) k row 4) = r) (gB D 10 ad (mF cI ad)) (gA 10 ad sz)) 0 0 (gA 10 ad sz) := by
  refine w_met (cc := cX3_isRight) (maxL := 7) (ret := (some .boolean)) (by decide) rfl (Nat.le_of_ble_eq_true rfl) ?_
  intro p e s m below meth c hx hb hr hts hown hlocks hml hsz hK hw ls hl
  subst hsz
  have hown : s.vm.findClass RX3 = some m.cls := hown
  have hi3 : ∀ w ∈ wsX30, w ∈ wsX3_isRight := by decide +kernel
  have hl : lv_has ls 7 [(0, .ref (ad 0)), (1, .int (nI k)), (2, .int (nI row))] := hl
  refine lv_iconst (v := nI 1) hx hb dX3_isRight_0 (by decide) ?_
  refine lv_istore_n (lv' := [(3, .int (nI 1)), (0, .ref (ad 0)), (1, .int (nI k)), (2, .int (nI row))]) hx hb dX3_isRight_1 rfl hl (by decide) rfl (fun ls hl => ?_)
  refine lv_iconst (v := nI 0) hx hb dX3_isRight_2 (by decide) ?_
  refine lv_istore (lv' := [(4, .int (nI 0)), (3, .int (nI 1)), (0, .ref (ad 0)), (1, .int (nI k)), (2, .int (nI row))]) hx hb dX3_isRight_3 hl (by decide) rfl (fun ls hl => ?_)
  refine lp_X3_isRight hx hb hts hown hml hK k row hk6 hrow (fun H locs ls hw hl => ?_) 4 0 _ _ ls (by omega) hw (lv_sub hl [0, 1, 2, 3, 4] rfl)
  refine lv_iload_n hx hb dX3_isRight_68 rfl (lv_at hl 0 rfl) ?_
  exact w_zret hx hb hr hlocks hw (bI_nar _) (⟨rfl, rfl⟩) dX3_isRight_69
set_option maxHeartbeats 4000000 in
set_option maxRecDepth 100000 in
theorem c_X3_good (l : Launch) (D : va_G) (cI cD : ClassId) (ad : Nat → Nat) (sz : Nat) (V : vT) (ct : Nat → Nat → Int32) (md fd : Bool) (n : Nat) (wide : Bool) (dn : Nat) (st : Bool) (num : Nat) (lost fresh : Int32) (fp : Nat) (sh : Int32) (hR : mR V (ct, (md, fd), (n, wide, dn, st, num), (lost, fresh), (fp, sh))) (B : Nat) (hB : B < 10000) (hWF : WF B (ct, (md, fd), (n, wide, dn, st, num), (lost, fresh), (fp, sh))) (row : Int32) : Met l yX3_good wsX3_good ({ frames := 2, cells := 0, slots := 0, locals := 48 }) (gP D cI cD 10 ad (mF cI ad) sz V [.ref (ad 0), .int row]) (va_Qi (fun (r : Int32) (V1 : vT) => V1 0 0 = nI (oGood (ct, (md, fd), (n, wide, dn, st, num), (lost, fresh), (fp, sh)) row).1 ∧ ((oGood (ct, (md, fd), (n, wide, dn, st, num), (lost, fresh), (fp, sh)) row).1 = 0 → (oGood (ct, (md, fd), (n, wide, dn, st, num), (lost, fresh), (fp, sh)) row).2.1 = r) ∧ mR V1 (oGood (ct, (md, fd), (n, wide, dn, st, num), (lost, fresh), (fp, sh)) row).2.2) (gB D 10 ad (mF cI ad)) (gA 10 ad sz)) 0 0 (gA 10 ad sz) := by
  refine w_met (cc := cX3_good) (maxL := 2) (ret := (some .boolean)) (by decide) rfl (Nat.le_of_ble_eq_true rfl) ?_
  intro p e s m below meth c hx hb hr hts hown hlocks hml hsz hK hw ls hl
  subst hsz
  have hown : s.vm.findClass RX3 = some m.cls := hown
  have hi3 : ∀ w ∈ wsX30, w ∈ wsX3_good := by decide +kernel
  have hl : lv_has ls 2 [(0, .ref (ad 0)), (1, .int row)] := hl
  obtain ⟨⟨hmd, hlo, hfr, hsh, hz6, hmc⟩, hfd, har, hfa⟩ := hR.pt
  refine lv_aload_n hx hb dX3_good_0 rfl (lv_at hl 0 rfl) ?_
  refine w_calli hw (va_runV (As := []) (rest := []) ⟨hx, hb, hml, hown, hts⟩ (c_X3_works l D cI cD ad _ V md hmd fd hfd) (cwV 0 hts gX3_good_X3_works rfl rfl rfl (by decide +kernel) ⟨Nat.le_of_ble_eq_true rfl, Nat.le_of_ble_eq_true rfl⟩) (w_preV hK hw (by omega) (mF_0 _) rfl _) rfl rfl hl.1 rfl (lv_room (Nat.le_of_ble_eq_true rfl)) dX3_good_1 ⟨Nat.le_of_ble_eq_true rfl, Nat.le_of_ble_eq_true rfl⟩) (fun r_2 V_1 H locs hp hw => ?_)
  obtain ⟨hW9, e8⟩ := hp
  subst e8
  refine lv_if_ne (tgt := 9) hx hb dX3_good_4 (by decide) (fun c_4 => ?_) (fun c_4 => ?_)
  · have e12 := of_decide_eq_true (bI_n0.mp c_4)
    obtain ⟨e1, e2⟩ := id e12
    rw [if_pos e12] at hW9
    have h00 : V_1 0 0 = nI 0 := by rw [hW9, u2_s]
    have hR := mR_u0 hR hW9
    obtain ⟨⟨hmd, hlo, hfr, hsh, hz6, hmc⟩, hfd, har, hfa⟩ := hR.pt
    obtain ⟨hn, hdn, hnum, hwd, hst⟩ := hR.sv e1 e2
    obtain ⟨hn3, hn6, hwn, hd32, hsw, hnum1, hnumB, hlo9, hfr9, hlf9, hfp9, hex9⟩ := hWF.sv e1 e2
    have hkw6 := kw_le hn6 hwn
    have hkwn := kw_ge (n := n) (wide := wide)
    have hlf : V_1 0 8 = -1 ∨ V_1 0 9 = -1 := by rw [hlo, hfr]; exact hlf9
    have h8 : V_1 0 8 = -1 ∨ ∃ d, d < 10 ∧ V_1 0 8 = nI d := by rw [hlo]; exact hlo9.imp id (fun ⟨d, hd, e⟩ => ⟨d, by omega, e⟩)
    have h9 : V_1 0 9 = -1 ∨ ∃ d, d < 10 ∧ V_1 0 9 = nI d := by rw [hfr]; exact hfr9.imp id (fun ⟨d, hd, e⟩ => ⟨d, by omega, e⟩)
    refine lv_iload_n hx hb dX3_good_9 rfl (lv_at hl 1 rfl) ?_
    refine lv_iconst (v := nI 0) hx hb dX3_good_10 (by decide) ?_
    refine lv_bipush (v := nI 31) hx hb dX3_good_11 (by decide) ?_
    refine w_calli hw (va_runS (As := [.int row, .int (nI 0), .int (nI 31)]) (rest := []) ⟨hx, hb, hml, hown, hts⟩ (c_X3_within l D cI cD ad _ V_1 row (nI 0) (nI 31)) (va_cwS 3 hts gX3_good_X3_within rfl rfl rfl (by decide +kernel) ⟨Nat.le_of_ble_eq_true rfl, Nat.le_of_ble_eq_true rfl⟩) (w_preS hK hw _) rfl rfl hl.1 rfl (lv_room (Nat.le_of_ble_eq_true rfl)) dX3_good_13 ⟨Nat.le_of_ble_eq_true rfl, Nat.le_of_ble_eq_true rfl⟩) (fun r_4 V_3 H locs hp hw => ?_)
    obtain ⟨e9, e8⟩ := hp
    subst e9
    subst e8
    refine lv_if_ne (tgt := 33) hx hb dX3_good_16 (by decide) (fun c_16 => ?_) (fun c_16 => ?_)
    · obtain ⟨e3, e4⟩ := wi_y (L := 32) (by decide) (by decide) (of_decide_eq_true (bI_n0.mp c_16))
      obtain ⟨rr9, hrr9, e10⟩ := nI_in2 e3 e4 (by omega)
      subst e10
      have hwl := wor_le (n := n) (wide := wide) (dn := dn) (row := rr9) hn6 hwn
      have hwg := wor_ge (n := n) (wide := wide) (dn := dn) (row := rr9)
      refine lv_aload_n hx hb dX3_good_33 rfl (lv_at hl 0 rfl) ?_
      refine w_calli hw (va_runV (As := []) (rest := []) ⟨hx, hb, hml, hown, hts⟩ (c_X3_hasOut l D cI cD ad _ V_1 h8 h9) (cwV 0 hts gX3_good_X3_hasOut rfl rfl rfl (by decide +kernel) ⟨Nat.le_of_ble_eq_true rfl, Nat.le_of_ble_eq_true rfl⟩) (w_preV hK hw (by omega) (mF_0 _) rfl _) rfl rfl hl.1 rfl (lv_room (Nat.le_of_ble_eq_true rfl)) dX3_good_34 ⟨Nat.le_of_ble_eq_true rfl, Nat.le_of_ble_eq_true rfl⟩) (fun r_6 V_5 H locs hp hw => ?_)
      obtain ⟨e9, e8⟩ := hp
      subst e9
      subst e8
      refine lv_if_ne (tgt := 55) hx hb dX3_good_37 (by decide) (fun c_37 => ?_) (fun c_37 => ?_)
      · refine lv_aload_n hx hb dX3_good_55 rfl (lv_at hl 0 rfl) ?_
        refine lv_iconst (v := nI 3) hx hb dX3_good_56 (by decide) ?_
        refine w_calli hw (va_runV (As := [.int (nI 3)]) (rest := []) ⟨hx, hb, hml, hown, hts⟩ (c_X3_fail l D cI cD ad _ V_1 (nI 3)) (cwV 1 hts gX3_good_X3_fail rfl rfl rfl (by decide +kernel) ⟨Nat.le_of_ble_eq_true rfl, Nat.le_of_ble_eq_true rfl⟩) (w_preV hK hw (by omega) (mF_0 _) rfl _) rfl rfl hl.1 rfl (lv_room (Nat.le_of_ble_eq_true rfl)) dX3_good_57 ⟨Nat.le_of_ble_eq_true rfl, Nat.le_of_ble_eq_true rfl⟩) (fun r_8 V_7 H locs hp hw => ?_)
        obtain ⟨e9f, e8⟩ := hp
        subst e8
        refine lv_if_le (tgt := 67) hx hb dX3_good_60 (by decide) (fun c_60 => ?_) (fun c_60 => ?_)
        · refine lv_iconst (v := nI 0) hx hb dX3_good_67 (by decide) ?_
          exact w_zret hx hb hr hlocks hw rfl (by have hL : oGood (ct, (md, fd), (n, wide, dn, st, num), (lost, fresh), (fp, sh)) (nI rr9) = (3, 0, (ct, (md, fd), (n, wide, dn, st, num), (lost, fresh), (fp, sh))) := (by rw [oGood, ifS_y (a := (ct, (md, fd), (n, wide, dn, st, num), (lost, fresh), (fp, sh))) e1 e2]; refine (if_neg (fun h => h.elim e3 (fun z => z e4))).trans ?_; rw [nI_clamp (by omega)]; exact if_pos (by first | (refine Or.inl ?_; have z := of_decide_eq_true (bI_n0.mp c_37); rw [hlo, hfr] at z; exact z) | (refine Or.inr ?_; rw [lay, show st = true from bI_n0.mp c_44, decide_eq_true c_52]; rfl))); rw [hL]; exact ⟨by rw [e9f, u2_s], fun h => absurd (show (3 : Nat) = 0 from h) (by decide), mR_u0 hR e9f⟩) dX3_good_68
        · exact absurd (by decide) c_60
      · refine lv_aload_n hx hb dX3_good_40 rfl (lv_at hl 0 rfl) ?_
        refine w_get (ci := 3) (C := RX3) (T := TX3) (M := 24) (v := .int (bI st)) hx hb hts hi3 hown hK hw 0 (by omega) _ (mF_0 _) rfl 7 (by decide) (hts (.fieldLink RX3 67 "WideningArrayModel" "isStashed" "Z") (by decide +kernel)) (congrArg (fun z => some (Value.int z)) (show V_1 0 7 = bI st from hst)) dX3_good_41 ?_
        refine lv_if_eq (tgt := 69) hx hb dX3_good_44 (by decide) (fun c_44 => ?_) (fun c_44 => ?_)
        · refine lv_aload_n hx hb dX3_good_69 rfl (lv_at hl 0 rfl) ?_
          refine lv_aload_n hx hb dX3_good_70 rfl (lv_at hl 0 rfl) ?_
          refine lv_iload_n hx hb dX3_good_71 rfl (lv_at hl 1 rfl) ?_
          refine w_calli hw (va_runV (As := [.int (nI rr9)]) (rest := [.ref (ad 0)]) ⟨hx, hb, hml, hown, hts⟩ (c_X3_widthOf l D cI cD ad _ V_1 n (show V_1 0 3 = nI n from hn) wide (show V_1 0 6 = bI wide from hwd) dn (show V_1 0 4 = nI dn from hdn) (by omega) rr9 (by omega)) (cwV 1 hts gX3_good_X3_widthOf rfl rfl rfl (by decide +kernel) ⟨Nat.le_of_ble_eq_true rfl, Nat.le_of_ble_eq_true rfl⟩) (w_preV hK hw (by omega) (mF_0 _) rfl _) rfl rfl hl.1 rfl (lv_room (Nat.le_of_ble_eq_true rfl)) dX3_good_72 ⟨Nat.le_of_ble_eq_true rfl, Nat.le_of_ble_eq_true rfl⟩) (fun r_10 V_9 H locs hp hw => ?_)
          obtain ⟨e9, e8⟩ := hp
          subst e9
          subst e8
          refine lv_iload_n hx hb dX3_good_75 rfl (lv_at hl 1 rfl) ?_
          refine w_calli hw (va_runV (As := [.int (nI (wor n wide dn rr9)), .int (nI rr9)]) (rest := []) ⟨hx, hb, hml, hown, hts⟩ (c_X3_isRight l D cI cD ad _ V_1 (wor n wide dn rr9) rr9 (by omega) (by omega)) (cwV 2 hts gX3_good_X3_isRight rfl rfl rfl (by decide +kernel) ⟨Nat.le_of_ble_eq_true rfl, Nat.le_of_ble_eq_true rfl⟩) (w_preV hK hw (by omega) (mF_0 _) rfl _) rfl rfl hl.1 rfl (lv_room (Nat.le_of_ble_eq_true rfl)) dX3_good_76 ⟨Nat.le_of_ble_eq_true rfl, Nat.le_of_ble_eq_true rfl⟩) (fun r_12 V_11 H locs hp hw => ?_)
          obtain ⟨e9, e8⟩ := hp
          subst e9
          subst e8
          exact w_zret hx hb hr hlocks hw (bI_nar _) (by have hL : oGood (ct, (md, fd), (n, wide, dn, st, num), (lost, fresh), (fp, sh)) (nI rr9) = (0, bI (prt ct (wor n wide dn rr9) rr9), (ct, (md, fd), (n, wide, dn, st, num), (lost, fresh), (fp, sh))) := (by rw [oGood, ifS_y (a := (ct, (md, fd), (n, wide, dn, st, num), (lost, fresh), (fp, sh))) e1 e2]; refine (if_neg (fun h => h.elim e3 (fun z => z e4))).trans ?_; rw [nI_clamp (by omega)]; refine if_neg (fun h => ?_); rcases h with h | h; (· have z := of_decide_eq_false (bI_0.mp c_37); rw [hlo, hfr] at z; exact z h); (· have h : (st && decide (rr9 = dn)) = true := h; first | (rw [show st = false from bI_0.mp c_44, Bool.false_and] at h; exact absurd h (by decide)) | (rw [decide_eq_false c_52, Bool.and_false] at h; exact absurd h (by decide)))); rw [hL]; exact ⟨h00, fun _ => by rw [rgt_prt (by omega), prt_congr (wc_M hR.1) (by omega) (by omega) (by omega)], hR⟩) dX3_good_79
        · refine lv_iload_n hx hb dX3_good_47 rfl (lv_at hl 1 rfl) ?_
          refine lv_aload_n hx hb dX3_good_48 rfl (lv_at hl 0 rfl) ?_
          refine w_get (ci := 3) (C := RX3) (T := TX3) (M := 24) (v := .int (nI dn)) hx hb hts hi3 hown hK hw 0 (by omega) _ (mF_0 _) rfl 4 (by decide) (hts (.fieldLink RX3 64 "WideningArrayModel" "done" "I") (by decide +kernel)) (congrArg (fun z => some (Value.int z)) (show V_1 0 4 = nI dn from hdn)) dX3_good_49 ?_
          refine n_icmp_ne (tgt := 69) hx hb dX3_good_52 (by decide) (by omega) (by omega) (fun c_52 => ?_) (fun c_52 => ?_)
          · refine lv_aload_n hx hb dX3_good_69 rfl (lv_at hl 0 rfl) ?_
            refine lv_aload_n hx hb dX3_good_70 rfl (lv_at hl 0 rfl) ?_
            refine lv_iload_n hx hb dX3_good_71 rfl (lv_at hl 1 rfl) ?_
            refine w_calli hw (va_runV (As := [.int (nI rr9)]) (rest := [.ref (ad 0)]) ⟨hx, hb, hml, hown, hts⟩ (c_X3_widthOf l D cI cD ad _ V_1 n (show V_1 0 3 = nI n from hn) wide (show V_1 0 6 = bI wide from hwd) dn (show V_1 0 4 = nI dn from hdn) (by omega) rr9 (by omega)) (cwV 1 hts gX3_good_X3_widthOf rfl rfl rfl (by decide +kernel) ⟨Nat.le_of_ble_eq_true rfl, Nat.le_of_ble_eq_true rfl⟩) (w_preV hK hw (by omega) (mF_0 _) rfl _) rfl rfl hl.1 rfl (lv_room (Nat.le_of_ble_eq_true rfl)) dX3_good_72 ⟨Nat.le_of_ble_eq_true rfl, Nat.le_of_ble_eq_true rfl⟩) (fun r_14 V_13 H locs hp hw => ?_)
            obtain ⟨e9, e8⟩ := hp
            subst e9
            subst e8
            refine lv_iload_n hx hb dX3_good_75 rfl (lv_at hl 1 rfl) ?_
            refine w_calli hw (va_runV (As := [.int (nI (wor n wide dn rr9)), .int (nI rr9)]) (rest := []) ⟨hx, hb, hml, hown, hts⟩ (c_X3_isRight l D cI cD ad _ V_1 (wor n wide dn rr9) rr9 (by omega) (by omega)) (cwV 2 hts gX3_good_X3_isRight rfl rfl rfl (by decide +kernel) ⟨Nat.le_of_ble_eq_true rfl, Nat.le_of_ble_eq_true rfl⟩) (w_preV hK hw (by omega) (mF_0 _) rfl _) rfl rfl hl.1 rfl (lv_room (Nat.le_of_ble_eq_true rfl)) dX3_good_76 ⟨Nat.le_of_ble_eq_true rfl, Nat.le_of_ble_eq_true rfl⟩) (fun r_16 V_15 H locs hp hw => ?_)
            obtain ⟨e9, e8⟩ := hp
            subst e9
            subst e8
            exact w_zret hx hb hr hlocks hw (bI_nar _) (by have hL : oGood (ct, (md, fd), (n, wide, dn, st, num), (lost, fresh), (fp, sh)) (nI rr9) = (0, bI (prt ct (wor n wide dn rr9) rr9), (ct, (md, fd), (n, wide, dn, st, num), (lost, fresh), (fp, sh))) := (by rw [oGood, ifS_y (a := (ct, (md, fd), (n, wide, dn, st, num), (lost, fresh), (fp, sh))) e1 e2]; refine (if_neg (fun h => h.elim e3 (fun z => z e4))).trans ?_; rw [nI_clamp (by omega)]; refine if_neg (fun h => ?_); rcases h with h | h; (· have z := of_decide_eq_false (bI_0.mp c_37); rw [hlo, hfr] at z; exact z h); (· have h : (st && decide (rr9 = dn)) = true := h; first | (rw [show st = false from bI_0.mp c_44, Bool.false_and] at h; exact absurd h (by decide)) | (rw [decide_eq_false c_52, Bool.and_false] at h; exact absurd h (by decide)))); rw [hL]; exact ⟨h00, fun _ => by rw [rgt_prt (by omega), prt_congr (wc_M hR.1) (by omega) (by omega) (by omega)], hR⟩) dX3_good_79
          · refine lv_aload_n hx hb dX3_good_55 rfl (lv_at hl 0 rfl) ?_
            refine lv_iconst (v := nI 3) hx hb dX3_good_56 (by decide) ?_
            refine w_calli hw (va_runV (As := [.int (nI 3)]) (rest := []) ⟨hx, hb, hml, hown, hts⟩ (c_X3_fail l D cI cD ad _ V_1 (nI 3)) (cwV 1 hts gX3_good_X3_fail rfl rfl rfl (by decide +kernel) ⟨Nat.le_of_ble_eq_true rfl, Nat.le_of_ble_eq_true rfl⟩) (w_preV hK hw (by omega) (mF_0 _) rfl _) rfl rfl hl.1 rfl (lv_room (Nat.le_of_ble_eq_true rfl)) dX3_good_57 ⟨Nat.le_of_ble_eq_true rfl, Nat.le_of_ble_eq_true rfl⟩) (fun r_18 V_17 H locs hp hw => ?_)
            obtain ⟨e9f, e8⟩ := hp
            subst e8
            refine lv_if_le (tgt := 67) hx hb dX3_good_60 (by decide) (fun c_60 => ?_) (fun c_60 => ?_)
            · refine lv_iconst (v := nI 0) hx hb dX3_good_67 (by decide) ?_
              exact w_zret hx hb hr hlocks hw rfl (by have hL : oGood (ct, (md, fd), (n, wide, dn, st, num), (lost, fresh), (fp, sh)) (nI rr9) = (3, 0, (ct, (md, fd), (n, wide, dn, st, num), (lost, fresh), (fp, sh))) := (by rw [oGood, ifS_y (a := (ct, (md, fd), (n, wide, dn, st, num), (lost, fresh), (fp, sh))) e1 e2]; refine (if_neg (fun h => h.elim e3 (fun z => z e4))).trans ?_; rw [nI_clamp (by omega)]; exact if_pos (by first | (refine Or.inl ?_; have z := of_decide_eq_true (bI_n0.mp c_37); rw [hlo, hfr] at z; exact z) | (refine Or.inr ?_; rw [lay, show st = true from bI_n0.mp c_44, decide_eq_true c_52]; rfl))); rw [hL]; exact ⟨by rw [e9f, u2_s], fun h => absurd (show (3 : Nat) = 0 from h) (by decide), mR_u0 hR e9f⟩) dX3_good_68
            · exact absurd (by decide) c_60
    · refine lv_aload_n hx hb dX3_good_19 rfl (lv_at hl 0 rfl) ?_
      refine lv_iconst (v := nI 2) hx hb dX3_good_20 (by decide) ?_
      refine w_calli hw (va_runV (As := [.int (nI 2)]) (rest := []) ⟨hx, hb, hml, hown, hts⟩ (c_X3_fail l D cI cD ad _ V_1 (nI 2)) (cwV 1 hts gX3_good_X3_fail rfl rfl rfl (by decide +kernel) ⟨Nat.le_of_ble_eq_true rfl, Nat.le_of_ble_eq_true rfl⟩) (w_preV hK hw (by omega) (mF_0 _) rfl _) rfl rfl hl.1 rfl (lv_room (Nat.le_of_ble_eq_true rfl)) dX3_good_21 ⟨Nat.le_of_ble_eq_true rfl, Nat.le_of_ble_eq_true rfl⟩) (fun r_20 V_19 H locs hp hw => ?_)
      obtain ⟨e9f, e8⟩ := hp
      subst e8
      refine lv_if_le (tgt := 31) hx hb dX3_good_24 (by decide) (fun c_24 => ?_) (fun c_24 => ?_)
      · refine lv_iconst (v := nI 0) hx hb dX3_good_31 (by decide) ?_
        exact w_zret hx hb hr hlocks hw rfl (by have hL : oGood (ct, (md, fd), (n, wide, dn, st, num), (lost, fresh), (fp, sh)) row = (2, 0, (ct, (md, fd), (n, wide, dn, st, num), (lost, fresh), (fp, sh))) := (by rw [oGood, ifS_y (a := (ct, (md, fd), (n, wide, dn, st, num), (lost, fresh), (fp, sh))) e1 e2]; exact if_pos (wi_n (L := 32) (by decide) (by decide) (of_decide_eq_false (bI_0.mp c_16)))); rw [hL]; exact ⟨by rw [e9f, u2_s], fun h => absurd (show (2 : Nat) = 0 from h) (by decide), mR_u0 hR e9f⟩) dX3_good_32
      · exact absurd (by decide) c_24
  · have e12 := of_decide_eq_false (bI_0.mp c_4)
    rw [if_neg e12] at hW9
    refine lv_iconst (v := nI 0) hx hb dX3_good_7 (by decide) ?_
    exact w_zret hx hb hr hlocks hw rfl (by have hL : oGood (ct, (md, fd), (n, wide, dn, st, num), (lost, fresh), (fp, sh)) row = (1, 0, (ct, (md, fd), (n, wide, dn, st, num), (lost, fresh), (fp, sh))) := (by rw [oGood, ifS_n (a := (ct, (md, fd), (n, wide, dn, st, num), (lost, fresh), (fp, sh))) e12]); rw [hL]; exact ⟨by rw [hW9, u2_s], fun h => absurd (show (1 : Nat) = 0 from h) (by decide), mR_u0 hR hW9⟩) dX3_good_8
set_option maxHeartbeats 4000000 in
set_option maxRecDepth 100000 in
theorem c_X3_replace (l : Launch) (D : va_G) (cI cD : ClassId) (ad : Nat → Nat) (sz : Nat) (V : vT) (ct : Nat → Nat → Int32) (md fd : Bool) (n : Nat) (wide : Bool) (dn : Nat) (st : Bool) (num : Nat) (lost fresh : Int32) (fp : Nat) (sh : Int32) (hR : mR V (ct, (md, fd), (n, wide, dn, st, num), (lost, fresh), (fp, sh))) (B : Nat) (hB : B < 10000) (hWF : WF B (ct, (md, fd), (n, wide, dn, st, num), (lost, fresh), (fp, sh))) : Met l yX3_replace wsX3_replace ({ frames := 1, cells := 0, slots := 0, locals := 21 }) (gP D cI cD 10 ad (mF cI ad) sz V [.ref (ad 0)]) (va_Qi (fun (r : Int32) (V1 : vT) => V1 0 0 = nI (oReplace (ct, (md, fd), (n, wide, dn, st, num), (lost, fresh), (fp, sh))).1 ∧ ((oReplace (ct, (md, fd), (n, wide, dn, st, num), (lost, fresh), (fp, sh))).1 = 0 → (oReplace (ct, (md, fd), (n, wide, dn, st, num), (lost, fresh), (fp, sh))).2.1 = r) ∧ mR V1 (oReplace (ct, (md, fd), (n, wide, dn, st, num), (lost, fresh), (fp, sh))).2.2) (gB D 10 ad (mF cI ad)) (gA 10 ad sz)) 0 0 (gA 10 ad sz) := by
  refine w_met (cc := cX3_replace) (maxL := 1) (ret := (some .int)) (by decide) rfl (Nat.le_of_ble_eq_true rfl) ?_
  intro p e s m below meth c hx hb hr hts hown hlocks hml hsz hK hw ls hl
  subst hsz
  have hown : s.vm.findClass RX3 = some m.cls := hown
  have hi3 : ∀ w ∈ wsX30, w ∈ wsX3_replace := by decide +kernel
  have hl : lv_has ls 1 [(0, .ref (ad 0))] := hl
  obtain ⟨⟨hmd, hlo, hfr, hsh, hz6, hmc⟩, hfd, har, hfa⟩ := hR.pt
  refine lv_aload_n hx hb dX3_replace_0 rfl (lv_at hl 0 rfl) ?_
  refine w_calli hw (va_runV (As := []) (rest := []) ⟨hx, hb, hml, hown, hts⟩ (c_X3_works l D cI cD ad _ V md hmd fd hfd) (cwV 0 hts gX3_replace_X3_works rfl rfl rfl (by decide +kernel) ⟨Nat.le_of_ble_eq_true rfl, Nat.le_of_ble_eq_true rfl⟩) (w_preV hK hw (by omega) (mF_0 _) rfl _) rfl rfl hl.1 rfl (lv_room (Nat.le_of_ble_eq_true rfl)) dX3_replace_1 ⟨Nat.le_of_ble_eq_true rfl, Nat.le_of_ble_eq_true rfl⟩) (fun r_2 V_1 H locs hp hw => ?_)
  obtain ⟨hW9, e8⟩ := hp
  subst e8
  refine lv_if_ne (tgt := 9) hx hb dX3_replace_4 (by decide) (fun c_4 => ?_) (fun c_4 => ?_)
  · have e12 := of_decide_eq_true (bI_n0.mp c_4)
    obtain ⟨e1, e2⟩ := id e12
    rw [if_pos e12] at hW9
    have h00 : V_1 0 0 = nI 0 := by rw [hW9, u2_s]
    have hR := mR_u0 hR hW9
    obtain ⟨⟨hmd, hlo, hfr, hsh, hz6, hmc⟩, hfd, har, hfa⟩ := hR.pt
    obtain ⟨hn, hdn, hnum, hwd, hst⟩ := hR.sv e1 e2
    obtain ⟨hn3, hn6, hwn, hd32, hsw, hnum1, hnumB, hlo9, hfr9, hlf9, hfp9, hex9⟩ := hWF.sv e1 e2
    have hkw6 := kw_le hn6 hwn
    have hkwn := kw_ge (n := n) (wide := wide)
    have hlf : V_1 0 8 = -1 ∨ V_1 0 9 = -1 := by rw [hlo, hfr]; exact hlf9
    have h8 : V_1 0 8 = -1 ∨ ∃ d, d < 10 ∧ V_1 0 8 = nI d := by rw [hlo]; exact hlo9.imp id (fun ⟨d, hd, e⟩ => ⟨d, by omega, e⟩)
    have h9 : V_1 0 9 = -1 ∨ ∃ d, d < 10 ∧ V_1 0 9 = nI d := by rw [hfr]; exact hfr9.imp id (fun ⟨d, hd, e⟩ => ⟨d, by omega, e⟩)
    refine lv_aload_n hx hb dX3_replace_9 rfl (lv_at hl 0 rfl) ?_
    refine w_get (ci := 3) (C := RX3) (T := TX3) (M := 24) (v := .int lost) hx hb hts hi3 hown hK hw 0 (by omega) _ (mF_0 _) rfl 8 (by decide) (hts (.fieldLink RX3 7 "WideningArrayModel" "lost" "I") (by decide +kernel)) (congrArg (fun z => some (Value.int z)) (show V_1 0 8 = lost from hlo)) dX3_replace_10 ?_
    refine lv_if_ge (tgt := 22) hx hb dX3_replace_13 (by decide) (fun c_13 => ?_) (fun c_13 => ?_)
    · have ez : ¬ lost = -1 := fun h => absurd c_13 (by rw [h]; decide)
      refine lv_aload_n hx hb dX3_replace_22 rfl (lv_at hl 0 rfl) ?_
      refine lv_aload_n hx hb dX3_replace_23 rfl (lv_at hl 0 rfl) ?_
      refine w_get (ci := 3) (C := RX3) (T := TX3) (M := 24) (v := .int lost) hx hb hts hi3 hown hK hw 0 (by omega) _ (mF_0 _) rfl 8 (by decide) (hts (.fieldLink RX3 7 "WideningArrayModel" "lost" "I") (by decide +kernel)) (congrArg (fun z => some (Value.int z)) (show V_1 0 8 = lost from hlo)) dX3_replace_24 ?_
      refine w_put (ci := 3) (C := RX3) (T := TX3) (M := 24) (x := lost) (ty := .int) hx hb hts hi3 tyX3 tyX3_ok nmX3 hown hK hw 0 (by omega) _ (mF_0 _) rfl 9 (by decide) (hts (.fieldLink RX3 13 "WideningArrayModel" "fresh" "I") (by decide +kernel)) rfl (by decide +kernel) rfl rfl (Nat.le_of_ble_eq_true rfl) (mF_0 _) dX3_replace_27 (fun H locs hw => ?_)
      obtain ⟨V_3, hV_3⟩ : ∃ z : vT, z = u2 V_1 0 9 lost := ⟨_, rfl⟩
      rw [← hV_3] at hw
      refine lv_aload_n hx hb dX3_replace_30 rfl (lv_at hl 0 rfl) ?_
      refine lv_iconst (v := (-1)) hx hb dX3_replace_31 (by decide) ?_
      refine w_put (ci := 3) (C := RX3) (T := TX3) (M := 24) (x := (-1)) (ty := .int) hx hb hts hi3 tyX3 tyX3_ok nmX3 hown hK hw 0 (by omega) _ (mF_0 _) rfl 8 (by decide) (hts (.fieldLink RX3 7 "WideningArrayModel" "lost" "I") (by decide +kernel)) rfl (by decide +kernel) rfl rfl (Nat.le_of_ble_eq_true rfl) (mF_0 _) dX3_replace_32 (fun H locs hw => ?_)
      obtain ⟨V_4, hV_4⟩ : ∃ z : vT, z = u2 V_3 0 8 (-1) := ⟨_, rfl⟩
      rw [← hV_4] at hw
      refine lv_aload_n hx hb dX3_replace_35 rfl (lv_at hl 0 rfl) ?_
      refine w_get (ci := 3) (C := RX3) (T := TX3) (M := 24) (v := .int lost) hx hb hts hi3 hown hK hw 0 (by omega) _ (mF_0 _) rfl 9 (by decide) (hts (.fieldLink RX3 13 "WideningArrayModel" "fresh" "I") (by decide +kernel)) (congrArg (fun z => some (Value.int z)) (show V_4 0 9 = lost from by rw [hV_4, u2_n _ _ (Or.inr (by decide))]; exact (by rw [hV_3, u2_s]))) dX3_replace_36 ?_
      exact w_iret hx hb hr hlocks hw (by have hL : oReplace (ct, (md, fd), (n, wide, dn, st, num), (lost, fresh), (fp, sh)) = (0, lost, (ct, (md, fd), (n, wide, dn, st, num), (-1, lost), (fp, sh))) := (by rw [oReplace, ifS_y (a := (ct, (md, fd), (n, wide, dn, st, num), (lost, fresh), (fp, sh))) e1 e2]; exact if_neg ez); have hk : ∀ j, j ≠ 8 → j ≠ 9 → V_4 0 j = V_1 0 j := (fun j h1 h2 => by rw [hV_4, u2_n _ _ (Or.inr h1), hV_3, u2_n _ _ (Or.inr h2)]); have hc9 : ∀ a, a ≠ 0 → V_4 a = V_1 a := (fun a ha => by rw [hV_4, u2_r _ _ ha, hV_3, u2_r _ _ ha]); rw [hL]; exact ⟨by rw [hk 0 (by decide) (by decide)]; exact h00, fun _ => rfl, mR.mk ⟨by rw [hk 1 (by decide) (by decide)]; exact hmd, by rw [hV_4, u2_s], by rw [hV_4, u2_n _ _ (Or.inr (by decide)), hV_3, u2_s], by rw [hk 12 (by decide) (by decide)]; exact hsh, by rw [hc9 2 (by decide)]; exact hz6, fun d hd i hi => by rw [mc_congr (hc9 1 (by decide)) (hc9 2 (by decide))]; exact hmc d hd i hi⟩ (by rw [hk 2 (by decide) (by decide)]; exact hfd) (by rw [hk 10 (by decide) (by decide)]; exact har) (by rw [hk 11 (by decide) (by decide)]; exact hfa) (fun _ _ => (hR.sv e1 e2).frame (fun j h1 h2 => hk j (by omega) (by omega)))⟩) dX3_replace_39
    · have ez : lost = -1 := hlo9.elim id (fun ⟨d, hd, e⟩ => absurd (nI_pos' (n := d) (by omega)) (by rw [← e]; exact c_13))
      refine lv_aload_n hx hb dX3_replace_16 rfl (lv_at hl 0 rfl) ?_
      refine lv_iconst (v := nI 2) hx hb dX3_replace_17 (by decide) ?_
      refine w_calli hw (va_runV (As := [.int (nI 2)]) (rest := []) ⟨hx, hb, hml, hown, hts⟩ (c_X3_fail l D cI cD ad _ V_1 (nI 2)) (cwV 1 hts gX3_replace_X3_fail rfl rfl rfl (by decide +kernel) ⟨Nat.le_of_ble_eq_true rfl, Nat.le_of_ble_eq_true rfl⟩) (w_preV hK hw (by omega) (mF_0 _) rfl _) rfl rfl hl.1 rfl (lv_room (Nat.le_of_ble_eq_true rfl)) dX3_replace_18 ⟨Nat.le_of_ble_eq_true rfl, Nat.le_of_ble_eq_true rfl⟩) (fun r_6 V_5 H locs hp hw => ?_)
      obtain ⟨e9f, e8⟩ := hp
      subst e8
      exact w_iret hx hb hr hlocks hw (by have hL : oReplace (ct, (md, fd), (n, wide, dn, st, num), (lost, fresh), (fp, sh)) = (2, 0, (ct, (md, fd), (n, wide, dn, st, num), (lost, fresh), (fp, sh))) := (by rw [oReplace, ifS_y (a := (ct, (md, fd), (n, wide, dn, st, num), (lost, fresh), (fp, sh))) e1 e2]; exact if_pos ez); rw [hL]; exact ⟨by rw [e9f, u2_s], fun h => absurd (show (2 : Nat) = 0 from h) (by decide), mR_u0 hR e9f⟩) dX3_replace_21
  · have e12 := of_decide_eq_false (bI_0.mp c_4)
    rw [if_neg e12] at hW9
    refine lv_iconst (v := nI 0) hx hb dX3_replace_7 (by decide) ?_
    exact w_iret hx hb hr hlocks hw (by have hL : oReplace (ct, (md, fd), (n, wide, dn, st, num), (lost, fresh), (fp, sh)) = (1, 0, (ct, (md, fd), (n, wide, dn, st, num), (lost, fresh), (fp, sh))) := (by rw [oReplace, ifS_n (a := (ct, (md, fd), (n, wide, dn, st, num), (lost, fresh), (fp, sh))) e12]); rw [hL]; exact ⟨by rw [hW9, u2_s], fun h => absurd (show (1 : Nat) = 0 from h) (by decide), mR_u0 hR hW9⟩) dX3_replace_8
set_option maxHeartbeats 4000000 in
set_option maxRecDepth 100000 in
theorem c_X3_crash (l : Launch) (D : va_G) (cI cD : ClassId) (ad : Nat → Nat) (sz : Nat) (V : vT) (ct : Nat → Nat → Int32) (md fd : Bool) (n : Nat) (wide : Bool) (dn : Nat) (st : Bool) (num : Nat) (lost fresh : Int32) (fp : Nat) (sh : Int32) (hR : mR V (ct, (md, fd), (n, wide, dn, st, num), (lost, fresh), (fp, sh))) (B : Nat) (hB : B < 10000) (hWF : WF B (ct, (md, fd), (n, wide, dn, st, num), (lost, fresh), (fp, sh))) (w9 c9 : Int32) : Met l yX3_crash wsX3_crash ({ frames := 1, cells := 0, slots := 0, locals := 21 }) (gP D cI cD 10 ad (mF cI ad) sz V [.ref (ad 0), .int w9, .int c9]) (va_Qv (fun (V1 : vT) => V1 0 0 = nI (oCrash (ct, (md, fd), (n, wide, dn, st, num), (lost, fresh), (fp, sh)) w9 c9).1 ∧ mR V1 (oCrash (ct, (md, fd), (n, wide, dn, st, num), (lost, fresh), (fp, sh)) w9 c9).2.2) (gB D 10 ad (mF cI ad)) (gA 10 ad sz)) 0 0 (gA 10 ad sz) := by
  refine w_met (cc := cX3_crash) (maxL := 3) (ret := none) (by decide) rfl (Nat.le_of_ble_eq_true rfl) ?_
  intro p e s m below meth c hx hb hr hts hown hlocks hml hsz hK hw ls hl
  subst hsz
  have hown : s.vm.findClass RX3 = some m.cls := hown
  have hi3 : ∀ w ∈ wsX30, w ∈ wsX3_crash := by decide +kernel
  have hl : lv_has ls 3 [(0, .ref (ad 0)), (1, .int w9), (2, .int c9)] := hl
  obtain ⟨⟨hmd, hlo, hfr, hsh, hz6, hmc⟩, hfd, har, hfa⟩ := hR.pt
  refine lv_aload_n hx hb dX3_crash_0 rfl (lv_at hl 0 rfl) ?_
  refine w_calli hw (va_runV (As := []) (rest := []) ⟨hx, hb, hml, hown, hts⟩ (c_X3_works l D cI cD ad _ V md hmd fd hfd) (cwV 0 hts gX3_crash_X3_works rfl rfl rfl (by decide +kernel) ⟨Nat.le_of_ble_eq_true rfl, Nat.le_of_ble_eq_true rfl⟩) (w_preV hK hw (by omega) (mF_0 _) rfl _) rfl rfl hl.1 rfl (lv_room (Nat.le_of_ble_eq_true rfl)) dX3_crash_1 ⟨Nat.le_of_ble_eq_true rfl, Nat.le_of_ble_eq_true rfl⟩) (fun r_2 V_1 H locs hp hw => ?_)
  obtain ⟨hW9, e8⟩ := hp
  subst e8
  refine lv_if_ne (tgt := 8) hx hb dX3_crash_4 (by decide) (fun c_4 => ?_) (fun c_4 => ?_)
  · have e12 := of_decide_eq_true (bI_n0.mp c_4)
    obtain ⟨e1, e2⟩ := id e12
    rw [if_pos e12] at hW9
    have h00 : V_1 0 0 = nI 0 := by rw [hW9, u2_s]
    have hR := mR_u0 hR hW9
    obtain ⟨⟨hmd, hlo, hfr, hsh, hz6, hmc⟩, hfd, har, hfa⟩ := hR.pt
    obtain ⟨hn, hdn, hnum, hwd, hst⟩ := hR.sv e1 e2
    obtain ⟨hn3, hn6, hwn, hd32, hsw, hnum1, hnumB, hlo9, hfr9, hlf9, hfp9, hex9⟩ := hWF.sv e1 e2
    have hkw6 := kw_le hn6 hwn
    have hkwn := kw_ge (n := n) (wide := wide)
    have hlf : V_1 0 8 = -1 ∨ V_1 0 9 = -1 := by rw [hlo, hfr]; exact hlf9
    have h8 : V_1 0 8 = -1 ∨ ∃ d, d < 10 ∧ V_1 0 8 = nI d := by rw [hlo]; exact hlo9.imp id (fun ⟨d, hd, e⟩ => ⟨d, by omega, e⟩)
    have h9 : V_1 0 9 = -1 ∨ ∃ d, d < 10 ∧ V_1 0 9 = nI d := by rw [hfr]; exact hfr9.imp id (fun ⟨d, hd, e⟩ => ⟨d, by omega, e⟩)
    refine lv_iload_n hx hb dX3_crash_8 rfl (lv_at hl 1 rfl) ?_
    refine lv_iconst (v := nI 1) hx hb dX3_crash_9 (by decide) ?_
    refine lv_icmp_lt (tgt := 20) hx hb dX3_crash_10 (by decide) (fun c_10 => ?_) (fun c_10 => ?_)
    · refine lv_aload_n hx hb dX3_crash_20 rfl (lv_at hl 0 rfl) ?_
      refine lv_iconst (v := nI 2) hx hb dX3_crash_21 (by decide) ?_
      refine w_put (ci := 3) (C := RX3) (T := TX3) (M := 24) (x := nI 2) (ty := .int) hx hb hts hi3 tyX3 tyX3_ok nmX3 hown hK hw 0 (by omega) _ (mF_0 _) rfl 0 (by decide) (hts (.fieldLink RX3 44 "WideningArrayModel" "thrown" "I") (by decide +kernel)) rfl (by decide +kernel) rfl rfl (Nat.le_of_ble_eq_true rfl) (mF_0 _) dX3_crash_22 (fun H locs hw => ?_)
      obtain ⟨V_3, hV_3⟩ : ∃ z : vT, z = u2 V_1 0 0 (nI 2) := ⟨_, rfl⟩
      rw [← hV_3] at hw
      exact w_vret hx hb hr hlocks hw (by have hL : oCrash (ct, (md, fd), (n, wide, dn, st, num), (lost, fresh), (fp, sh)) w9 c9 = (2, 0, (ct, (md, fd), (n, wide, dn, st, num), (lost, fresh), (fp, sh))) := (by rw [oCrash, ifS_y (a := (ct, (md, fd), (n, wide, dn, st, num), (lost, fresh), (fp, sh))) e1 e2]; exact if_pos (by first | exact Or.inl c_10 | (refine Or.inr ?_; have z := of_decide_eq_true (bI_n0.mp c_17); rw [hlo, hfr] at z; exact z))); rw [hL]; exact ⟨by rw [hV_3, u2_s], mR_u0 hR hV_3⟩) dX3_crash_25
    · refine lv_aload_n hx hb dX3_crash_13 rfl (lv_at hl 0 rfl) ?_
      refine w_calli hw (va_runV (As := []) (rest := []) ⟨hx, hb, hml, hown, hts⟩ (c_X3_hasOut l D cI cD ad _ V_1 h8 h9) (cwV 0 hts gX3_crash_X3_hasOut rfl rfl rfl (by decide +kernel) ⟨Nat.le_of_ble_eq_true rfl, Nat.le_of_ble_eq_true rfl⟩) (w_preV hK hw (by omega) (mF_0 _) rfl _) rfl rfl hl.1 rfl (lv_room (Nat.le_of_ble_eq_true rfl)) dX3_crash_14 ⟨Nat.le_of_ble_eq_true rfl, Nat.le_of_ble_eq_true rfl⟩) (fun r_5 V_4 H locs hp hw => ?_)
      obtain ⟨e9, e8⟩ := hp
      subst e9
      subst e8
      refine lv_if_eq (tgt := 26) hx hb dX3_crash_17 (by decide) (fun c_17 => ?_) (fun c_17 => ?_)
      · obtain ⟨ww, hww, e10⟩ := nI_of (x := w9) (fun q => c_10 (Int32.lt_trans q (by decide)))
        subst e10
        have hw1 : 1 ≤ ww := Nat.not_lt.mp (fun q => c_10 (nI_lt q (by decide)))
        refine lv_aload_n hx hb dX3_crash_26 rfl (lv_at hl 0 rfl) ?_
        refine lv_iconst (v := nI 1) hx hb dX3_crash_27 (by decide) ?_
        refine w_put (ci := 3) (C := RX3) (T := TX3) (M := 24) (x := nI 1) (ty := .boolean) hx hb hts hi3 tyX3 tyX3_ok nmX3 hown hK hw 0 (by omega) _ (mF_0 _) rfl 10 (by decide) (hts (.fieldLink RX3 112 "WideningArrayModel" "isArmed" "Z") (by decide +kernel)) rfl (by decide +kernel) rfl rfl (Nat.le_of_ble_eq_true rfl) (mF_0 _) dX3_crash_28 (fun H locs hw => ?_)
        obtain ⟨V_6, hV_6⟩ : ∃ z : vT, z = u2 V_1 0 10 (nI 1) := ⟨_, rfl⟩
        rw [← hV_6] at hw
        refine lv_aload_n hx hb dX3_crash_31 rfl (lv_at hl 0 rfl) ?_
        refine lv_iload_n hx hb dX3_crash_32 rfl (lv_at hl 1 rfl) ?_
        refine w_put (ci := 3) (C := RX3) (T := TX3) (M := 24) (x := nI ww) (ty := .int) hx hb hts hi3 tyX3 tyX3_ok nmX3 hown hK hw 0 (by omega) _ (mF_0 _) rfl 11 (by decide) (hts (.fieldLink RX3 115 "WideningArrayModel" "failAt" "I") (by decide +kernel)) rfl (by decide +kernel) rfl rfl (Nat.le_of_ble_eq_true rfl) (mF_0 _) dX3_crash_33 (fun H locs hw => ?_)
        obtain ⟨V_7, hV_7⟩ : ∃ z : vT, z = u2 V_6 0 11 (nI ww) := ⟨_, rfl⟩
        rw [← hV_7] at hw
        refine lv_aload_n hx hb dX3_crash_36 rfl (lv_at hl 0 rfl) ?_
        refine lv_iload_n hx hb dX3_crash_37 rfl (lv_at hl 2 rfl) ?_
        refine w_put (ci := 3) (C := RX3) (T := TX3) (M := 24) (x := c9) (ty := .int) hx hb hts hi3 tyX3 tyX3_ok nmX3 hown hK hw 0 (by omega) _ (mF_0 _) rfl 12 (by decide) (hts (.fieldLink RX3 118 "WideningArrayModel" "failHow" "I") (by decide +kernel)) rfl (by decide +kernel) rfl rfl (Nat.le_of_ble_eq_true rfl) (mF_0 _) dX3_crash_38 (fun H locs hw => ?_)
        obtain ⟨V_8, hV_8⟩ : ∃ z : vT, z = u2 V_7 0 12 c9 := ⟨_, rfl⟩
        rw [← hV_8] at hw
        exact w_vret hx hb hr hlocks hw (by have hL : oCrash (ct, (md, fd), (n, wide, dn, st, num), (lost, fresh), (fp, sh)) (nI ww) c9 = (0, 0, (ct, (md, fd), (n, wide, dn, st, num), (lost, fresh), (ww, c9))) := (by rw [oCrash, ifS_y (a := (ct, (md, fd), (n, wide, dn, st, num), (lost, fresh), (fp, sh))) e1 e2]; refine (if_neg (fun h => ?_)).trans (by rw [nI_clamp hww]); rcases h with h | h; (· exact c_10 h); (· have z := of_decide_eq_false (bI_0.mp c_17); rw [hlo, hfr] at z; exact z h)); have hk : ∀ j, j ≠ 10 → j ≠ 11 → j ≠ 12 → V_8 0 j = V_1 0 j := (fun j h1 h2 h3 => by rw [hV_8, u2_n _ _ (Or.inr h3), hV_7, u2_n _ _ (Or.inr h2), hV_6, u2_n _ _ (Or.inr h1)]); have hc9 : ∀ a, a ≠ 0 → V_8 a = V_1 a := (fun a ha => by rw [hV_8, u2_r _ _ ha, hV_7, u2_r _ _ ha, hV_6, u2_r _ _ ha]); rw [hL]; exact ⟨by rw [hk 0 (by decide) (by decide) (by decide)]; exact h00, mR.mk ⟨by rw [hk 1 (by decide) (by decide) (by decide)]; exact hmd, by rw [hk 8 (by decide) (by decide) (by decide)]; exact hlo, by rw [hk 9 (by decide) (by decide) (by decide)]; exact hfr, by rw [hV_8, u2_s], by rw [hc9 2 (by decide)]; exact hz6, fun d hd i hi => by rw [mc_congr (hc9 1 (by decide)) (hc9 2 (by decide))]; exact hmc d hd i hi⟩ (by rw [hk 2 (by decide) (by decide) (by decide)]; exact hfd) (by rw [hV_8, u2_n _ _ (Or.inr (by decide)), hV_7, u2_n _ _ (Or.inr (by decide)), hV_6, u2_s, decide_eq_true (show ¬ ww = 0 by omega)]; rfl) (fun _ => by rw [hV_8, u2_n _ _ (Or.inr (by decide)), hV_7, u2_s]) (fun _ _ => (hR.sv e1 e2).frame (fun j h1 h2 => hk j (by omega) (by omega) (by omega)))⟩) dX3_crash_41
      · refine lv_aload_n hx hb dX3_crash_20 rfl (lv_at hl 0 rfl) ?_
        refine lv_iconst (v := nI 2) hx hb dX3_crash_21 (by decide) ?_
        refine w_put (ci := 3) (C := RX3) (T := TX3) (M := 24) (x := nI 2) (ty := .int) hx hb hts hi3 tyX3 tyX3_ok nmX3 hown hK hw 0 (by omega) _ (mF_0 _) rfl 0 (by decide) (hts (.fieldLink RX3 44 "WideningArrayModel" "thrown" "I") (by decide +kernel)) rfl (by decide +kernel) rfl rfl (Nat.le_of_ble_eq_true rfl) (mF_0 _) dX3_crash_22 (fun H locs hw => ?_)
        obtain ⟨V_9, hV_9⟩ : ∃ z : vT, z = u2 V_1 0 0 (nI 2) := ⟨_, rfl⟩
        rw [← hV_9] at hw
        exact w_vret hx hb hr hlocks hw (by have hL : oCrash (ct, (md, fd), (n, wide, dn, st, num), (lost, fresh), (fp, sh)) w9 c9 = (2, 0, (ct, (md, fd), (n, wide, dn, st, num), (lost, fresh), (fp, sh))) := (by rw [oCrash, ifS_y (a := (ct, (md, fd), (n, wide, dn, st, num), (lost, fresh), (fp, sh))) e1 e2]; exact if_pos (by first | exact Or.inl c_10 | (refine Or.inr ?_; have z := of_decide_eq_true (bI_n0.mp c_17); rw [hlo, hfr] at z; exact z))); rw [hL]; exact ⟨by rw [hV_9, u2_s], mR_u0 hR hV_9⟩) dX3_crash_25
  · have e12 := of_decide_eq_false (bI_0.mp c_4)
    rw [if_neg e12] at hW9
    exact w_vret hx hb hr hlocks hw (by have hL : oCrash (ct, (md, fd), (n, wide, dn, st, num), (lost, fresh), (fp, sh)) w9 c9 = (1, 0, (ct, (md, fd), (n, wide, dn, st, num), (lost, fresh), (fp, sh))) := (by rw [oCrash, ifS_n (a := (ct, (md, fd), (n, wide, dn, st, num), (lost, fresh), (fp, sh))) e12]); rw [hL]; exact ⟨by rw [hW9, u2_s], mR_u0 hR hW9⟩) dX3_crash_7
set_option maxHeartbeats 4000000 in
set_option maxRecDepth 100000 in
theorem lp_X3_empty_w {p : Program} {l : Launch} {e : Env} {s : State} {m : MethodId} {args : Array Value} {below : List Frame} {meth : Method} {c : Code} {Q : State → Prop} {D : va_G} {cI cD : ClassId} {ad : Nat → Nat} (hx : p.tables.exec = Jvm.exec) (hb : c.code = cX3_empty) (hts : ∀ w ∈ wsX3_empty, w.before args s = true) (hown : s.vm.findClass RX3 = some m.cls) (hml : c.maxLocals = 3) (hK : kK D cI cD s) (V0 : vT) (d : Nat) (hd6 : d < 6) (hk : ∀ (V1 : vT) (H1 : Heap) (locs1 : List Loc) (ls : Array Slot), ((∀ a, a ≠ 1 → V1 a = V0 a) ∧ ∀ t, V1 1 t = if 160 * d ≤ t ∧ t < 160 * d + 160 then 0 else V0 1 t) → wS D 10 ad (mF cI ad) s.heap V1 H1 locs1 → lv_has ls 3 [(0, .ref (ad 0)), (1, .int (nI d))] → W p l e ({ frames := 0, cells := 0, slots := 0, locals := 0 }) s m args below meth c H1 locs1 0 0 Q (F0 m 32 ls [])) : ∀ (n j : Nat) (V : vT) (H : Heap) (locs : List Loc) (ls : Array Slot), (j + n = 160) → ((∀ a, a ≠ 1 → V a = V0 a) ∧ ∀ t, V 1 t = if 160 * d ≤ t ∧ t < 160 * d + j then 0 else V0 1 t) → wS D 10 ad (mF cI ad) s.heap V H locs → lv_has ls 3 [(2, .int (nI (160 * d + j))), (0, .ref (ad 0)), (1, .int (nI d))] → W p l e ({ frames := 0, cells := 0, slots := 0, locals := 0 }) s m args below meth c H locs 0 0 Q (F0 m 6 ls []) := by
  have hi3 : ∀ w ∈ wsX30, w ∈ wsX3_empty := by decide +kernel
  intro n
  induction n with
  | zero =>
    intro j V H locs ls hjn hin hw hl
    refine lv_iload_n hx hb dX3_empty_6 rfl (lv_at hl 0 rfl) ?_
    refine lv_sipush (v := nI 160) hx hb dX3_empty_7 (by decide) ?_
    refine lv_iload_n hx hb dX3_empty_10 rfl (lv_at hl 2 rfl) ?_
    refine n_mul hx hb dX3_empty_11 ?_
    refine lv_sipush (v := nI 160) hx hb dX3_empty_12 (by decide) ?_
    refine n_add hx hb dX3_empty_15 ?_
    refine n_icmp_ge (tgt := 32) hx hb dX3_empty_16 (by decide) (by omega) (by omega) (fun c_16 => ?_) (fun c_16 => ?_)
    · have e1 : j = 160 := by omega
      subst e1
      exact hk V H locs ls hin hw (lv_sub hl [1, 2] rfl)
    · exfalso
      omega
  | succ n ih =>
    intro j V H locs ls hjn hin hw hl
    refine lv_iload_n hx hb dX3_empty_6 rfl (lv_at hl 0 rfl) ?_
    refine lv_sipush (v := nI 160) hx hb dX3_empty_7 (by decide) ?_
    refine lv_iload_n hx hb dX3_empty_10 rfl (lv_at hl 2 rfl) ?_
    refine n_mul hx hb dX3_empty_11 ?_
    refine lv_sipush (v := nI 160) hx hb dX3_empty_12 (by decide) ?_
    refine n_add hx hb dX3_empty_15 ?_
    refine n_icmp_ge (tgt := 32) hx hb dX3_empty_16 (by decide) (by omega) (by omega) (fun c_16 => ?_) (fun c_16 => ?_)
    · exfalso
      omega
    · refine lv_aload_n hx hb dX3_empty_19 rfl (lv_at hl 1 rfl) ?_
      refine w_get (ci := 3) (C := RX3) (T := TX3) (M := 24) (v := .ref (ad 1)) hx hb hts hi3 hown hK hw 0 (by omega) _ (mF_0 _) rfl 14 (by decide) (hts (.fieldLink RX3 16 "WideningArrayModel" "words" "[I") (by decide +kernel)) rfl dX3_empty_20 ?_
      refine lv_iload_n hx hb dX3_empty_23 rfl (lv_at hl 0 rfl) ?_
      refine lv_iconst (v := nI 0) hx hb dX3_empty_24 (by decide) ?_
      refine w_iast hx hb hK hw 1 1120 (by omega) (fun _ => rfl) (i := 160 * d + j) (by omega) (by decide) dX3_empty_25 (fun H locs hw => ?_)
      obtain ⟨V_1, hV_1⟩ : ∃ z : vT, z = u2 V 1 (160 * d + j) (nI 0) := ⟨_, rfl⟩
      rw [← hV_1] at hw
      refine lv_iinc (v := nI (160 * d + j + 1)) (lv' := [(2, .int (nI (160 * d + j + 1))), (0, .ref (ad 0)), (1, .int (nI d))]) hx hb dX3_empty_26 hl (k := 0) rfl (nI_1 _) (by decide) rfl (fun ls hl => ?_)
      refine lv_goto (tgt := 6) hx hb dX3_empty_29 (by decide) ?_
      have hin' : (∀ a, a ≠ 1 → V_1 a = V0 a) ∧ ∀ t, V_1 1 t = if 160 * d ≤ t ∧ t < 160 * d + (j + 1) then 0 else V0 1 t := by
        refine ⟨fun a ha => by rw [hV_1, u2_r _ _ ha]; exact hin.1 a ha, fun t => ?_⟩
        by_cases z : t = 160 * d + j
        · rw [z, hV_1, u2_s, if_pos (by omega)]; rfl
        · rw [hV_1, u2_n _ _ (Or.inr z), hin.2 t]
          by_cases z2 : 160 * d ≤ t ∧ t < 160 * d + j
          · rw [if_pos z2, if_pos (by omega)]
          · rw [if_neg z2, if_neg (by omega)]
      exact ih (j + 1) _ _ _ ls (by omega) hin' hw (lv_sub hl [0, 1, 2] rfl)
set_option maxHeartbeats 4000000 in
set_option maxRecDepth 100000 in
theorem lp_X3_empty_m {p : Program} {l : Launch} {e : Env} {s : State} {m : MethodId} {args : Array Value} {below : List Frame} {meth : Method} {c : Code} {Q : State → Prop} {D : va_G} {cI cD : ClassId} {ad : Nat → Nat} (hx : p.tables.exec = Jvm.exec) (hb : c.code = cX3_empty) (hts : ∀ w ∈ wsX3_empty, w.before args s = true) (hown : s.vm.findClass RX3 = some m.cls) (hml : c.maxLocals = 3) (hK : kK D cI cD s) (V0 : vT) (d : Nat) (hd6 : d < 6) (hk : ∀ (V1 : vT) (H1 : Heap) (locs1 : List Loc) (ls : Array Slot), ((∀ a, a ≠ 2 → V1 a = V0 a) ∧ ∀ t, V1 2 t = if 10 * d ≤ t ∧ t < 10 * d + 10 then 0 else V0 2 t) → wS D 10 ad (mF cI ad) s.heap V1 H1 locs1 → lv_has ls 3 [(0, .ref (ad 0)), (1, .int (nI d))] → W p l e ({ frames := 0, cells := 0, slots := 0, locals := 0 }) s m args below meth c H1 locs1 0 0 Q (F0 m 61 ls [])) : ∀ (n j : Nat) (V : vT) (H : Heap) (locs : List Loc) (ls : Array Slot), (j + n = 10) → ((∀ a, a ≠ 2 → V a = V0 a) ∧ ∀ t, V 2 t = if 10 * d ≤ t ∧ t < 10 * d + j then 0 else V0 2 t) → wS D 10 ad (mF cI ad) s.heap V H locs → lv_has ls 3 [(2, .int (nI (10 * d + j))), (0, .ref (ad 0)), (1, .int (nI d))] → W p l e ({ frames := 0, cells := 0, slots := 0, locals := 0 }) s m args below meth c H locs 0 0 Q (F0 m 37 ls []) := by
  have hi3 : ∀ w ∈ wsX30, w ∈ wsX3_empty := by decide +kernel
  intro n
  induction n with
  | zero =>
    intro j V H locs ls hjn hin hw hl
    refine lv_iload_n hx hb dX3_empty_37 rfl (lv_at hl 0 rfl) ?_
    refine lv_bipush (v := nI 10) hx hb dX3_empty_38 (by decide) ?_
    refine lv_iload_n hx hb dX3_empty_40 rfl (lv_at hl 2 rfl) ?_
    refine n_mul hx hb dX3_empty_41 ?_
    refine lv_bipush (v := nI 10) hx hb dX3_empty_42 (by decide) ?_
    refine n_add hx hb dX3_empty_44 ?_
    refine n_icmp_ge (tgt := 61) hx hb dX3_empty_45 (by decide) (by omega) (by omega) (fun c_45 => ?_) (fun c_45 => ?_)
    · have e1 : j = 10 := by omega
      subst e1
      exact hk V H locs ls hin hw (lv_sub hl [1, 2] rfl)
    · exfalso
      omega
  | succ n ih =>
    intro j V H locs ls hjn hin hw hl
    refine lv_iload_n hx hb dX3_empty_37 rfl (lv_at hl 0 rfl) ?_
    refine lv_bipush (v := nI 10) hx hb dX3_empty_38 (by decide) ?_
    refine lv_iload_n hx hb dX3_empty_40 rfl (lv_at hl 2 rfl) ?_
    refine n_mul hx hb dX3_empty_41 ?_
    refine lv_bipush (v := nI 10) hx hb dX3_empty_42 (by decide) ?_
    refine n_add hx hb dX3_empty_44 ?_
    refine n_icmp_ge (tgt := 61) hx hb dX3_empty_45 (by decide) (by omega) (by omega) (fun c_45 => ?_) (fun c_45 => ?_)
    · exfalso
      omega
    · refine lv_aload_n hx hb dX3_empty_48 rfl (lv_at hl 1 rfl) ?_
      refine w_get (ci := 3) (C := RX3) (T := TX3) (M := 24) (v := .ref (ad 2)) hx hb hts hi3 hown hK hw 0 (by omega) _ (mF_0 _) rfl 15 (by decide) (hts (.fieldLink RX3 20 "WideningArrayModel" "marks" "[I") (by decide +kernel)) rfl dX3_empty_49 ?_
      refine lv_iload_n hx hb dX3_empty_52 rfl (lv_at hl 0 rfl) ?_
      refine lv_iconst (v := nI 0) hx hb dX3_empty_53 (by decide) ?_
      refine w_iast hx hb hK hw 2 70 (by omega) (fun _ => rfl) (i := 10 * d + j) (by omega) (by decide) dX3_empty_54 (fun H locs hw => ?_)
      obtain ⟨V_1, hV_1⟩ : ∃ z : vT, z = u2 V 2 (10 * d + j) (nI 0) := ⟨_, rfl⟩
      rw [← hV_1] at hw
      refine lv_iinc (v := nI (10 * d + j + 1)) (lv' := [(2, .int (nI (10 * d + j + 1))), (0, .ref (ad 0)), (1, .int (nI d))]) hx hb dX3_empty_55 hl (k := 0) rfl (nI_1 _) (by decide) rfl (fun ls hl => ?_)
      refine lv_goto (tgt := 37) hx hb dX3_empty_58 (by decide) ?_
      have hin' : (∀ a, a ≠ 2 → V_1 a = V0 a) ∧ ∀ t, V_1 2 t = if 10 * d ≤ t ∧ t < 10 * d + (j + 1) then 0 else V0 2 t := by
        refine ⟨fun a ha => by rw [hV_1, u2_r _ _ ha]; exact hin.1 a ha, fun t => ?_⟩
        by_cases z : t = 10 * d + j
        · rw [z, hV_1, u2_s, if_pos (by omega)]; rfl
        · rw [hV_1, u2_n _ _ (Or.inr z), hin.2 t]
          by_cases z2 : 10 * d ≤ t ∧ t < 10 * d + j
          · rw [if_pos z2, if_pos (by omega)]
          · rw [if_neg z2, if_neg (by omega)]
      exact ih (j + 1) _ _ _ ls (by omega) hin' hw (lv_sub hl [0, 1, 2] rfl)
theorem mc_emp {V V1 V2 : vT} {d : Nat} (h1 : (∀ a, a ≠ 1 → V1 a = V a) ∧ ∀ t, V1 1 t = if 160 * d ≤ t ∧ t < 160 * d + 160 then 0 else V 1 t) (h2 : (∀ a, a ≠ 2 → V2 a = V1 a) ∧ ∀ t, V2 2 t = if 10 * d ≤ t ∧ t < 10 * d + 10 then 0 else V1 2 t) (e i : Nat) (hi : i < 170) : mc V2 e i = emp (mc V) d e i := by
  unfold emp mc
  rw [h2.1 1 (by decide)]
  by_cases q : e = d
  · subst q
    rw [if_pos rfl]
    by_cases q1 : i < 160
    · rw [if_pos q1, h1.2, if_pos (by omega)]
    · rw [if_neg q1, h2.2, if_pos (by omega)]
  · rw [if_neg q]
    by_cases q1 : i < 160
    · rw [if_pos q1, if_pos q1, h1.2, if_neg (by omega)]
    · rw [if_neg q1, if_neg q1, h2.2, if_neg (by omega), h1.1 2 (by decide)]
set_option maxHeartbeats 4000000 in
set_option maxRecDepth 100000 in
theorem c_X3_empty (l : Launch) (D : va_G) (cI cD : ClassId) (ad : Nat → Nat) (sz : Nat) (V : vT) (d : Nat) (hd6 : d < 6) : Met l yX3_empty wsX3_empty ({ frames := 0, cells := 0, slots := 0, locals := 0 }) (gP D cI cD 10 ad (mF cI ad) sz V [.ref (ad 0), .int (nI d)]) (va_Qv (fun (V1 : vT) => (∀ a, a ≠ 1 → a ≠ 2 → V1 a = V a) ∧ (∀ t, 60 ≤ t → V1 2 t = V 2 t) ∧ ∀ e i, i < 170 → mc V1 e i = emp (mc V) d e i) (gB D 10 ad (mF cI ad)) (gA 10 ad sz)) 0 0 (gA 10 ad sz) := by
  refine w_met (cc := cX3_empty) (maxL := 3) (ret := none) (by decide) rfl (Nat.le_of_ble_eq_true rfl) ?_
  intro p e s m below meth c hx hb hr hts hown hlocks hml hsz hK hw ls hl
  subst hsz
  have hown : s.vm.findClass RX3 = some m.cls := hown
  have hi3 : ∀ w ∈ wsX30, w ∈ wsX3_empty := by decide +kernel
  have hl : lv_has ls 3 [(0, .ref (ad 0)), (1, .int (nI d))] := hl
  refine lv_sipush (v := nI 160) hx hb dX3_empty_0 (by decide) ?_
  refine lv_iload_n hx hb dX3_empty_3 rfl (lv_at hl 1 rfl) ?_
  refine n_mul hx hb dX3_empty_4 ?_
  refine lv_istore_n (lv' := [(2, .int (nI (160 * d))), (0, .ref (ad 0)), (1, .int (nI d))]) hx hb dX3_empty_5 rfl hl (by decide) rfl (fun ls hl => ?_)
  refine lp_X3_empty_w hx hb hts hown hml hK V d hd6 (fun V_1 H locs ls hE1 hw hl => ?_) 160 0 V _ _ ls (by omega) ⟨fun _ _ => rfl, fun t => by rw [if_neg (by omega)]⟩ hw (lv_sub hl [0, 1, 2] rfl)
  refine lv_bipush (v := nI 10) hx hb dX3_empty_32 (by decide) ?_
  refine lv_iload_n hx hb dX3_empty_34 rfl (lv_at hl 1 rfl) ?_
  refine n_mul hx hb dX3_empty_35 ?_
  refine lv_istore_n (lv' := [(2, .int (nI (10 * d))), (0, .ref (ad 0)), (1, .int (nI d))]) hx hb dX3_empty_36 rfl hl (by decide) rfl (fun ls hl => ?_)
  refine lp_X3_empty_m hx hb hts hown hml hK V_1 d hd6 (fun V_2 H locs ls hE2 hw hl => ?_) 10 0 V_1 _ _ ls (by omega) ⟨fun _ _ => rfl, fun t => by rw [if_neg (by omega)]⟩ hw (lv_sub hl [0, 1, 2] rfl)
  exact w_vret hx hb hr hlocks hw (⟨fun a q1 q2 => by rw [hE2.1 a q2, hE1.1 a q1], fun t ht => by rw [hE2.2 t, if_neg (by omega), hE1.1 2 (by decide)], fun e i hi => mc_emp hE1 hE2 e i hi⟩) dX3_empty_61
set_option maxHeartbeats 4000000 in
set_option maxRecDepth 100000 in
theorem c_X3_lose (l : Launch) (D : va_G) (cI cD : ClassId) (ad : Nat → Nat) (sz : Nat) (V : vT) (ct : Nat → Nat → Int32) (md fd : Bool) (n : Nat) (wide : Bool) (dn : Nat) (st : Bool) (num : Nat) (lost fresh : Int32) (fp : Nat) (sh : Int32) (hR : mR V (ct, (md, fd), (n, wide, dn, st, num), (lost, fresh), (fp, sh))) (B : Nat) (hB : B < 10000) (hWF : WF B (ct, (md, fd), (n, wide, dn, st, num), (lost, fresh), (fp, sh))) (d : Int32) : Met l yX3_lose wsX3_lose ({ frames := 1, cells := 0, slots := 0, locals := 22 }) (gP D cI cD 10 ad (mF cI ad) sz V [.ref (ad 0), .int d]) (va_Qv (fun (V1 : vT) => V1 0 0 = nI (oLose (ct, (md, fd), (n, wide, dn, st, num), (lost, fresh), (fp, sh)) d).1 ∧ mR V1 (oLose (ct, (md, fd), (n, wide, dn, st, num), (lost, fresh), (fp, sh)) d).2.2) (gB D 10 ad (mF cI ad)) (gA 10 ad sz)) 0 0 (gA 10 ad sz) := by
  refine w_met (cc := cX3_lose) (maxL := 2) (ret := none) (by decide) rfl (Nat.le_of_ble_eq_true rfl) ?_
  intro p e s m below meth c hx hb hr hts hown hlocks hml hsz hK hw ls hl
  subst hsz
  have hown : s.vm.findClass RX3 = some m.cls := hown
  have hi3 : ∀ w ∈ wsX30, w ∈ wsX3_lose := by decide +kernel
  have hl : lv_has ls 2 [(0, .ref (ad 0)), (1, .int d)] := hl
  obtain ⟨⟨hmd, hlo, hfr, hsh, hz6, hmc⟩, hfd, har, hfa⟩ := hR.pt
  refine lv_aload_n hx hb dX3_lose_0 rfl (lv_at hl 0 rfl) ?_
  refine w_calli hw (va_runV (As := []) (rest := []) ⟨hx, hb, hml, hown, hts⟩ (c_X3_works l D cI cD ad _ V md hmd fd hfd) (cwV 0 hts gX3_lose_X3_works rfl rfl rfl (by decide +kernel) ⟨Nat.le_of_ble_eq_true rfl, Nat.le_of_ble_eq_true rfl⟩) (w_preV hK hw (by omega) (mF_0 _) rfl _) rfl rfl hl.1 rfl (lv_room (Nat.le_of_ble_eq_true rfl)) dX3_lose_1 ⟨Nat.le_of_ble_eq_true rfl, Nat.le_of_ble_eq_true rfl⟩) (fun r_2 V_1 H locs hp hw => ?_)
  obtain ⟨hW9, e8⟩ := hp
  subst e8
  refine lv_if_ne (tgt := 8) hx hb dX3_lose_4 (by decide) (fun c_4 => ?_) (fun c_4 => ?_)
  · have e12 := of_decide_eq_true (bI_n0.mp c_4)
    obtain ⟨e1, e2⟩ := id e12
    rw [if_pos e12] at hW9
    have h00 : V_1 0 0 = nI 0 := by rw [hW9, u2_s]
    have hR := mR_u0 hR hW9
    obtain ⟨⟨hmd, hlo, hfr, hsh, hz6, hmc⟩, hfd, har, hfa⟩ := hR.pt
    obtain ⟨hn, hdn, hnum, hwd, hst⟩ := hR.sv e1 e2
    obtain ⟨hn3, hn6, hwn, hd32, hsw, hnum1, hnumB, hlo9, hfr9, hlf9, hfp9, hex9⟩ := hWF.sv e1 e2
    have hkw6 := kw_le hn6 hwn
    have hkwn := kw_ge (n := n) (wide := wide)
    have hlf : V_1 0 8 = -1 ∨ V_1 0 9 = -1 := by rw [hlo, hfr]; exact hlf9
    have h8 : V_1 0 8 = -1 ∨ ∃ d, d < 10 ∧ V_1 0 8 = nI d := by rw [hlo]; exact hlo9.imp id (fun ⟨d, hd, e⟩ => ⟨d, by omega, e⟩)
    have h9 : V_1 0 9 = -1 ∨ ∃ d, d < 10 ∧ V_1 0 9 = nI d := by rw [hfr]; exact hfr9.imp id (fun ⟨d, hd, e⟩ => ⟨d, by omega, e⟩)
    refine lv_iload_n hx hb dX3_lose_8 rfl (lv_at hl 1 rfl) ?_
    refine lv_iconst (v := nI 0) hx hb dX3_lose_9 (by decide) ?_
    refine lv_aload_n hx hb dX3_lose_10 rfl (lv_at hl 0 rfl) ?_
    refine w_calli hw (va_runV (As := []) (rest := [.int (nI 0), .int d]) ⟨hx, hb, hml, hown, hts⟩ (c_X3_disks l D cI cD ad _ V_1 n (show V_1 0 3 = nI n from hn) wide (show V_1 0 6 = bI wide from hwd)) (cwV 0 hts gX3_lose_X3_disks rfl rfl rfl (by decide +kernel) ⟨Nat.le_of_ble_eq_true rfl, Nat.le_of_ble_eq_true rfl⟩) (w_preV hK hw (by omega) (mF_0 _) rfl _) rfl rfl hl.1 rfl (lv_room (Nat.le_of_ble_eq_true rfl)) dX3_lose_11 ⟨Nat.le_of_ble_eq_true rfl, Nat.le_of_ble_eq_true rfl⟩) (fun r_4 V_3 H locs hp hw => ?_)
    obtain ⟨e9, e8⟩ := hp
    subst e9
    subst e8
    refine lv_iconst (v := nI 1) hx hb dX3_lose_14 (by decide) ?_
    refine n_sub hx hb dX3_lose_15 (by omega) ?_
    refine w_calli hw (va_runS (As := [.int d, .int (nI 0), .int (nI ((kw n wide) - 1))]) (rest := []) ⟨hx, hb, hml, hown, hts⟩ (c_X3_within l D cI cD ad _ V_1 d (nI 0) (nI ((kw n wide) - 1))) (va_cwS 3 hts gX3_lose_X3_within rfl rfl rfl (by decide +kernel) ⟨Nat.le_of_ble_eq_true rfl, Nat.le_of_ble_eq_true rfl⟩) (w_preS hK hw _) rfl rfl hl.1 rfl (lv_room (Nat.le_of_ble_eq_true rfl)) dX3_lose_16 ⟨Nat.le_of_ble_eq_true rfl, Nat.le_of_ble_eq_true rfl⟩) (fun r_6 V_5 H locs hp hw => ?_)
    obtain ⟨e9, e8⟩ := hp
    subst e9
    subst e8
    refine lv_if_ne (tgt := 30) hx hb dX3_lose_19 (by decide) (fun c_19 => ?_) (fun c_19 => ?_)
    · obtain ⟨e3, e4⟩ := wi_y (L := kw n wide) (by omega) (by omega) (of_decide_eq_true (bI_n0.mp c_19))
      obtain ⟨dd9, hdd9, e10⟩ := nI_in2 e3 e4 (by omega)
      subst e10
      refine lv_aload_n hx hb dX3_lose_30 rfl (lv_at hl 0 rfl) ?_
      refine w_calli hw (va_runV (As := []) (rest := []) ⟨hx, hb, hml, hown, hts⟩ (c_X3_hasOut l D cI cD ad _ V_1 h8 h9) (cwV 0 hts gX3_lose_X3_hasOut rfl rfl rfl (by decide +kernel) ⟨Nat.le_of_ble_eq_true rfl, Nat.le_of_ble_eq_true rfl⟩) (w_preV hK hw (by omega) (mF_0 _) rfl _) rfl rfl hl.1 rfl (lv_room (Nat.le_of_ble_eq_true rfl)) dX3_lose_31 ⟨Nat.le_of_ble_eq_true rfl, Nat.le_of_ble_eq_true rfl⟩) (fun r_8 V_7 H locs hp hw => ?_)
      obtain ⟨e9, e8⟩ := hp
      subst e9
      subst e8
      refine lv_if_ne (tgt := 44) hx hb dX3_lose_34 (by decide) (fun c_34 => ?_) (fun c_34 => ?_)
      · refine lv_aload_n hx hb dX3_lose_44 rfl (lv_at hl 0 rfl) ?_
        refine lv_iconst (v := nI 3) hx hb dX3_lose_45 (by decide) ?_
        refine w_put (ci := 3) (C := RX3) (T := TX3) (M := 24) (x := nI 3) (ty := .int) hx hb hts hi3 tyX3 tyX3_ok nmX3 hown hK hw 0 (by omega) _ (mF_0 _) rfl 0 (by decide) (hts (.fieldLink RX3 44 "WideningArrayModel" "thrown" "I") (by decide +kernel)) rfl (by decide +kernel) rfl rfl (Nat.le_of_ble_eq_true rfl) (mF_0 _) dX3_lose_46 (fun H locs hw => ?_)
        obtain ⟨V_9, hV_9⟩ : ∃ z : vT, z = u2 V_1 0 0 (nI 3) := ⟨_, rfl⟩
        rw [← hV_9] at hw
        refine lv_goto (tgt := 62) hx hb dX3_lose_49 (by decide) ?_
        exact w_vret hx hb hr hlocks hw (by have hL : oLose (ct, (md, fd), (n, wide, dn, st, num), (lost, fresh), (fp, sh)) (nI dd9) = (3, 0, (ct, (md, fd), (n, wide, dn, st, num), (lost, fresh), (fp, sh))) := (by rw [oLose, ifS_y (a := (ct, (md, fd), (n, wide, dn, st, num), (lost, fresh), (fp, sh))) e1 e2]; refine (if_neg (fun h => h.elim e3 (fun z => z e4))).trans ?_; exact if_pos (by first | (refine Or.inl ?_; have z := of_decide_eq_true (bI_n0.mp c_34); rw [hlo, hfr] at z; exact z) | exact Or.inr (of_decide_eq_true (bI_n0.mp c_41)))); rw [hL]; exact ⟨by rw [hV_9, u2_s], mR_u0 hR hV_9⟩) dX3_lose_62
      · refine lv_aload_n hx hb dX3_lose_37 rfl (lv_at hl 0 rfl) ?_
        refine w_get (ci := 3) (C := RX3) (T := TX3) (M := 24) (v := .int (bI (decide (¬ fp = 0)))) hx hb hts hi3 hown hK hw 0 (by omega) _ (mF_0 _) rfl 10 (by decide) (hts (.fieldLink RX3 112 "WideningArrayModel" "isArmed" "Z") (by decide +kernel)) (congrArg (fun z => some (Value.int z)) (show V_1 0 10 = bI (decide (¬ fp = 0)) from har)) dX3_lose_38 ?_
        refine lv_if_eq (tgt := 52) hx hb dX3_lose_41 (by decide) (fun c_41 => ?_) (fun c_41 => ?_)
        · refine lv_aload_n hx hb dX3_lose_52 rfl (lv_at hl 0 rfl) ?_
          refine lv_iload_n hx hb dX3_lose_53 rfl (lv_at hl 1 rfl) ?_
          refine w_put (ci := 3) (C := RX3) (T := TX3) (M := 24) (x := nI dd9) (ty := .int) hx hb hts hi3 tyX3 tyX3_ok nmX3 hown hK hw 0 (by omega) _ (mF_0 _) rfl 8 (by decide) (hts (.fieldLink RX3 7 "WideningArrayModel" "lost" "I") (by decide +kernel)) rfl (by decide +kernel) rfl rfl (Nat.le_of_ble_eq_true rfl) (mF_0 _) dX3_lose_54 (fun H locs hw => ?_)
          obtain ⟨V_10, hV_10⟩ : ∃ z : vT, z = u2 V_1 0 8 (nI dd9) := ⟨_, rfl⟩
          rw [← hV_10] at hw
          refine lv_aload_n hx hb dX3_lose_57 rfl (lv_at hl 0 rfl) ?_
          refine lv_iload_n hx hb dX3_lose_58 rfl (lv_at hl 1 rfl) ?_
          refine w_callv hw (va_runV (As := [.int (nI dd9)]) (rest := []) ⟨hx, hb, hml, hown, hts⟩ (c_X3_empty l D cI cD ad _ V_10 dd9 (by omega)) (cwV 1 hts gX3_lose_X3_empty rfl rfl rfl (by decide +kernel) ⟨Nat.le_of_ble_eq_true rfl, Nat.le_of_ble_eq_true rfl⟩) (w_preV hK hw (by omega) (mF_0 _) rfl _) rfl rfl hl.1 rfl (lv_room (Nat.le_of_ble_eq_true rfl)) dX3_lose_59 ⟨Nat.le_of_ble_eq_true rfl, Nat.le_of_ble_eq_true rfl⟩) (fun V_11 H locs hp hw => ?_)
          exact w_vret hx hb hr hlocks hw (by have hL : oLose (ct, (md, fd), (n, wide, dn, st, num), (lost, fresh), (fp, sh)) (nI dd9) = (0, 0, (emp ct dd9, (md, fd), (n, wide, dn, st, num), (nI dd9, fresh), (fp, sh))) := (by rw [oLose, ifS_y (a := (ct, (md, fd), (n, wide, dn, st, num), (lost, fresh), (fp, sh))) e1 e2]; refine (if_neg (fun h => h.elim e3 (fun z => z e4))).trans ?_; rw [nI_clamp (by omega)]; refine if_neg (fun h => ?_); rcases h with h | h; (· have z := of_decide_eq_false (bI_0.mp c_34); rw [hlo, hfr] at z; exact z h); (· exact of_decide_eq_false (bI_0.mp c_41) h)); have hk : ∀ j, j ≠ 8 → V_11 0 j = V_1 0 j := (fun j h1 => by rw [hp.1 0 (by decide) (by decide), hV_10, u2_n _ _ (Or.inr h1)]); have hc9 : ∀ a, a ≠ 0 → V_10 a = V_1 a := (fun a ha => by rw [hV_10, u2_r _ _ ha]); rw [hL]; exact ⟨by rw [hk 0 (by decide)]; exact h00, mR.mk ⟨by rw [hk 1 (by decide)]; exact hmd, by rw [hp.1 0 (by decide) (by decide), hV_10, u2_s], by rw [hk 9 (by decide)]; exact hfr, by rw [hk 12 (by decide)]; exact hsh, fun t h1 h2 => by rw [hp.2.1 t h1, hc9 2 (by decide)]; exact hz6 t h1 h2, fun d hd i hi => by rw [hp.2.2 d i hi]; unfold emp; by_cases z : d = dd9; (· rw [if_pos z, if_pos z]); (· rw [if_neg z, if_neg z, mc_congr (hc9 1 (by decide)) (hc9 2 (by decide))]; exact hmc d hd i hi)⟩ (by rw [hk 2 (by decide)]; exact hfd) (by rw [hk 10 (by decide)]; exact har) (by rw [hk 11 (by decide)]; exact hfa) (fun _ _ => (hR.sv e1 e2).frame (fun j h1 h2 => hk j (by omega)))⟩) dX3_lose_62
        · refine lv_aload_n hx hb dX3_lose_44 rfl (lv_at hl 0 rfl) ?_
          refine lv_iconst (v := nI 3) hx hb dX3_lose_45 (by decide) ?_
          refine w_put (ci := 3) (C := RX3) (T := TX3) (M := 24) (x := nI 3) (ty := .int) hx hb hts hi3 tyX3 tyX3_ok nmX3 hown hK hw 0 (by omega) _ (mF_0 _) rfl 0 (by decide) (hts (.fieldLink RX3 44 "WideningArrayModel" "thrown" "I") (by decide +kernel)) rfl (by decide +kernel) rfl rfl (Nat.le_of_ble_eq_true rfl) (mF_0 _) dX3_lose_46 (fun H locs hw => ?_)
          obtain ⟨V_12, hV_12⟩ : ∃ z : vT, z = u2 V_1 0 0 (nI 3) := ⟨_, rfl⟩
          rw [← hV_12] at hw
          refine lv_goto (tgt := 62) hx hb dX3_lose_49 (by decide) ?_
          exact w_vret hx hb hr hlocks hw (by have hL : oLose (ct, (md, fd), (n, wide, dn, st, num), (lost, fresh), (fp, sh)) (nI dd9) = (3, 0, (ct, (md, fd), (n, wide, dn, st, num), (lost, fresh), (fp, sh))) := (by rw [oLose, ifS_y (a := (ct, (md, fd), (n, wide, dn, st, num), (lost, fresh), (fp, sh))) e1 e2]; refine (if_neg (fun h => h.elim e3 (fun z => z e4))).trans ?_; exact if_pos (by first | (refine Or.inl ?_; have z := of_decide_eq_true (bI_n0.mp c_34); rw [hlo, hfr] at z; exact z) | exact Or.inr (of_decide_eq_true (bI_n0.mp c_41)))); rw [hL]; exact ⟨by rw [hV_12, u2_s], mR_u0 hR hV_12⟩) dX3_lose_62
    · refine lv_aload_n hx hb dX3_lose_22 rfl (lv_at hl 0 rfl) ?_
      refine lv_iconst (v := nI 2) hx hb dX3_lose_23 (by decide) ?_
      refine w_put (ci := 3) (C := RX3) (T := TX3) (M := 24) (x := nI 2) (ty := .int) hx hb hts hi3 tyX3 tyX3_ok nmX3 hown hK hw 0 (by omega) _ (mF_0 _) rfl 0 (by decide) (hts (.fieldLink RX3 44 "WideningArrayModel" "thrown" "I") (by decide +kernel)) rfl (by decide +kernel) rfl rfl (Nat.le_of_ble_eq_true rfl) (mF_0 _) dX3_lose_24 (fun H locs hw => ?_)
      obtain ⟨V_13, hV_13⟩ : ∃ z : vT, z = u2 V_1 0 0 (nI 2) := ⟨_, rfl⟩
      rw [← hV_13] at hw
      refine lv_goto (tgt := 62) hx hb dX3_lose_27 (by decide) ?_
      exact w_vret hx hb hr hlocks hw (by have hL : oLose (ct, (md, fd), (n, wide, dn, st, num), (lost, fresh), (fp, sh)) d = (2, 0, (ct, (md, fd), (n, wide, dn, st, num), (lost, fresh), (fp, sh))) := (by rw [oLose, ifS_y (a := (ct, (md, fd), (n, wide, dn, st, num), (lost, fresh), (fp, sh))) e1 e2]; exact if_pos (wi_n (L := kw n wide) (by omega) (by omega) (of_decide_eq_false (bI_0.mp c_19)))); rw [hL]; exact ⟨by rw [hV_13, u2_s], mR_u0 hR hV_13⟩) dX3_lose_62
  · have e12 := of_decide_eq_false (bI_0.mp c_4)
    rw [if_neg e12] at hW9
    exact w_vret hx hb hr hlocks hw (by have hL : oLose (ct, (md, fd), (n, wide, dn, st, num), (lost, fresh), (fp, sh)) d = (1, 0, (ct, (md, fd), (n, wide, dn, st, num), (lost, fresh), (fp, sh))) := (by rw [oLose, ifS_n (a := (ct, (md, fd), (n, wide, dn, st, num), (lost, fresh), (fp, sh))) e12]); rw [hL]; exact ⟨by rw [hW9, u2_s], mR_u0 hR hW9⟩) dX3_lose_7
