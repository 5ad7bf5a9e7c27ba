set_option maxHeartbeats 4000000 in
set_option maxRecDepth 100000 in
theorem lp_X2_format {p : Program} {l : Launch} {e : Env} {s : State} {m : MethodId} {args : Array Value} {below : List Frame} {meth : Method} {c : Code} {Q : State → Prop} {D : va_G} {cI cD : ClassId} {ad : Nat → Nat} (hx : p.tables.exec = Jvm.exec) (hb : c.code = cX2_format) (hts : ∀ w ∈ wsX2_format, w.before args s = true) (hown : s.vm.findClass RX2 = some m.cls) (hml : c.maxLocals = 3) (hK : kK D cI cD s) (V0 : vT) (xx : Nat) (hk : ∀ (V1 : vT) (H1 : Heap) (locs1 : List Loc) (ls : Array Slot), ((∀ a, a < 5 → V1 a = V0 a) ∧ ∀ d, d < 6 → V1 (5 + 7 * d) 3 = nI 0 ∧ ∀ i, i < 170 → dc V1 d i = 0) → wS D 47 ad (cF cI cD ad) s.heap V1 H1 locs1 → lv_has ls 3 [(0, .ref (ad 0)), (1, .int (nI xx))] → W p l e ({ frames := 6, cells := 4, slots := 24, locals := 90 }) s m args below meth c H1 locs1 0 0 Q (F0 m 44 ls [])) : ∀ (n j : Nat) (V : vT) (H : Heap) (locs : List Loc) (ls : Array Slot), (j + n = 6) → ((∀ a, a < 5 → V a = V0 a) ∧ ∀ d, d < j → V (5 + 7 * d) 3 = nI 0 ∧ ∀ i, i < 170 → dc V d i = 0) → wS D 47 ad (cF cI cD ad) s.heap V H locs → lv_has ls 3 [(2, .int (nI j)), (0, .ref (ad 0)), (1, .int (nI xx))] → W p l e ({ frames := 6, cells := 4, slots := 24, locals := 90 }) s m args below meth c H locs 0 0 Q (F0 m 23 ls []) := by
  have hi1 : ∀ w ∈ wsX10, w ∈ wsX2_format := by decide +kernel
  have hi2 : ∀ w ∈ wsX20, w ∈ wsX2_format := by decide +kernel
  intro n
  induction n with
  | zero =>
    intro j V H locs ls hjn hin hw hl
    refine lv_iload_n hx hb dX2_format_23 rfl (lv_at hl 0 rfl) ?_
    refine lv_bipush (v := nI 6) hx hb dX2_format_24 (by decide) ?_
    refine n_icmp_ge (tgt := 44) hx hb dX2_format_26 (by decide) (by omega) (by omega) (fun c_26 => ?_) (fun c_26 => ?_)
    · have e1 : j = 6 := by omega
      subst e1
      exact hk V H locs ls hin hw (lv_sub hl [1, 2] rfl)
    · exfalso
      omega
  | succ n ih =>
    intro j V H locs ls hjn hin hw hl
    refine lv_iload_n hx hb dX2_format_23 rfl (lv_at hl 0 rfl) ?_
    refine lv_bipush (v := nI 6) hx hb dX2_format_24 (by decide) ?_
    refine n_icmp_ge (tgt := 44) hx hb dX2_format_26 (by decide) (by omega) (by omega) (fun c_26 => ?_) (fun c_26 => ?_)
    · exfalso
      omega
    · refine lv_aload_n hx hb dX2_format_29 rfl (lv_at hl 1 rfl) ?_
      refine w_get (ci := 2) (C := RX2) (T := TX2) (M := 10) (v := .ref (ad 1)) hx hb hts hi2 hown hK hw 0 (by omega) _ (cF_0 _) rfl 0 (by decide) (hts (.fieldLink RX2 11 "WideningArray" "disks" "[LWideningArray$Disk;") (by decide +kernel)) rfl dX2_format_30 ?_
      refine lv_iload_n hx hb dX2_format_33 rfl (lv_at hl 0 rfl) ?_
      refine w_aald hx hb hK hw 1 6 (by omega) (cF_1 _) (i := j) (by omega) (by decide) rfl dX2_format_34 ?_
      refine w_callv hw (va_runV (As := []) (rest := []) ⟨hx, hb, hml, hown, hts⟩ (c_X0_empty l D cI cD ad _ V j (by omega)) (cwV 0 hts gX2_format_X0_empty rfl rfl rfl (by decide +kernel) ⟨Nat.le_of_ble_eq_true rfl, Nat.le_of_ble_eq_true rfl⟩) (w_preV hK hw (by omega) (cF_d0 j _) rfl _) rfl rfl hl.1 rfl (lv_room (Nat.le_of_ble_eq_true rfl)) dX2_format_35 ⟨Nat.le_of_ble_eq_true rfl, Nat.le_of_ble_eq_true rfl⟩) (fun V_1 H locs hp hw => ?_)
      refine lv_iinc (v := nI (j + 1)) (lv' := [(2, .int (nI (j + 1))), (0, .ref (ad 0)), (1, .int (nI xx))]) hx hb dX2_format_38 hl (k := 0) rfl (nI_1 _) (by decide) rfl (fun ls hl => ?_)
      refine lv_goto (tgt := 23) hx hb dX2_format_41 (by decide) ?_
      have hin' : (∀ a, a < 5 → V_1 a = V0 a) ∧ ∀ d, d < j + 1 → V_1 (5 + 7 * d) 3 = nI 0 ∧ ∀ i, i < 170 → dc V_1 d i = 0 := by
        refine ⟨fun a ha => (hp.1 a (by omega) (by omega) (by omega) (by omega)).trans (hin.1 a ha), fun d hd => ?_⟩
        by_cases q : d = j
        · rw [q]; exact hp.2
        · have h9 := hin.2 d (by omega)
          refine ⟨by rw [hp.1 _ (by omega) (by omega) (by omega) (by omega)]; exact h9.1, fun i hi => ?_⟩
          rw [dc_frame (hp.1 _ (by omega) (by omega) (by omega) (by omega)) (hp.1 _ (by omega) (by omega) (by omega) (by omega)) (hp.1 _ (by omega) (by omega) (by omega) (by omega))]
          exact h9.2 i hi
      exact ih (j + 1) _ _ _ ls (by omega) hin' hw (lv_sub hl [0, 1, 2] rfl)
set_option maxHeartbeats 4000000 in
set_option maxRecDepth 100000 in
theorem c_X2_format (l : Launch) (hlt : l.stackTraces = false) (D : va_G) (cI cD : ClassId) (ad : Nat → Nat) (sz : Nat) (V : vT) (ct : Nat → Nat → Int32) (md fd : Bool) (n : Nat) (wide : Bool) (dn : Nat) (st : Bool) (num : Nat) (lost fresh : Int32) (fp : Nat) (sh : Int32) (hR : cR V (ct, (md, fd), (n, wide, dn, st, num), (lost, fresh), (fp, sh))) (B : Nat) (hB : B < 10000) (hWF : WF B (ct, (md, fd), (n, wide, dn, st, num), (lost, fresh), (fp, sh))) (x : Int32) : vx_Met l yX2_format wsX2_format ({ frames := 6, cells := 4, slots := 24, locals := 90 }) (gPx D cI cD 47 ad (cF cI cD ad) sz V [.ref (ad 0), .int x]) (va_Qi (fun (r : Int32) (V1 : vT) => (oFormat (ct, (md, fd), (n, wide, dn, st, num), (lost, fresh), (fp, sh)) x).1 = 0 ∧ (oFormat (ct, (md, fd), (n, wide, dn, st, num), (lost, fresh), (fp, sh)) x).2.1 = r ∧ cR V1 (oFormat (ct, (md, fd), (n, wide, dn, st, num), (lost, fresh), (fp, sh)) x).2.2) (gB D 47 ad (cF cI cD ad)) (gA 47 ad sz)) (gX D 47 ad (cF cI cD ad) sz (fun E V1 => (E = "java/lang/IllegalArgumentException" ∧ (oFormat (ct, (md, fd), (n, wide, dn, st, num), (lost, fresh), (fp, sh)) x).1 = 1) ∧ cR V1 (oFormat (ct, (md, fd), (n, wide, dn, st, num), (lost, fresh), (fp, sh)) x).2.2)) 4 24 (gA 47 ad sz) := by
  refine w_xmet (cc := cX2_format) (maxL := 3) (ret := (some .int)) (by decide) rfl (Nat.le_of_ble_eq_true rfl) ?_
  intro p e s m below meth c hx hb hr hts hown hlocks hml hsz hK hw hT9 hZ hout ls hl
  subst hsz
  have hown : s.vm.findClass RX2 = some m.cls := hown
  have hi1 : ∀ w ∈ wsX10, w ∈ wsX2_format := by decide +kernel
  have hi2 : ∀ w ∈ wsX20, w ∈ wsX2_format := by decide +kernel
  have hl : lv_has ls 3 [(0, .ref (ad 0)), (1, .int x)] := hl
  obtain ⟨hmd, hfd, hlo, hfr, hfp8, hsh, hQ0, hdc⟩ := hR.pt
  refine lv_iload_n hx hb dX2_format_0 rfl (lv_at hl 1 rfl) ?_
  refine lv_iconst (v := nI 3) hx hb dX2_format_1 (by decide) ?_
  refine lv_icmp_lt (tgt := 11) hx hb dX2_format_2 (by decide) (fun c_2 => ?_) (fun c_2 => ?_)
  · obtain ⟨sa9, hsa9⟩ := hT9.2 (39, "an array has 3 to 6 disks") (by decide +kernel)
    exact w_throw (own := RX2) (cls := "java/lang/IllegalArgumentException") (text := "an array has 3 to 6 disks") (names := ["java/lang/RuntimeException", "java/lang/Exception"]) (sa := sa9) hx hb hlt hown (by decide +kernel) (by decide +kernel) (hts (.classLink RX2 37 "java/lang/IllegalArgumentException") (by decide +kernel)) (hts (.initialized "java/lang/IllegalArgumentException") (by decide +kernel)) hsa9 (vx_hat (L := vx_atS RX2 41 "java/lang/IllegalArgumentException" ["java/lang/RuntimeException", "java/lang/Exception"]) (B := [.castable "java/lang/IllegalArgumentException" "java/lang/IllegalArgumentException", .declares ⟨"java/lang/RuntimeException", "<init>", "(Ljava/lang/String;)V"⟩, .declares ⟨"java/lang/Exception", "<init>", "(Ljava/lang/String;)V"⟩, .declares ⟨"java/lang/Throwable", "<init>", "(Ljava/lang/String;)V"⟩]) (fun w hw => hts w ((by decide +kernel : ∀ w ∈ (vx_atS RX2 41 "java/lang/IllegalArgumentException" ["java/lang/RuntimeException", "java/lang/Exception"]).filter goodWord, w ∈ wsX2_format) w hw)) (by decide +kernel) (vx_c (va_Nw.use rfl (hT9.1 (.castable "java/lang/IllegalArgumentException" "java/lang/IllegalArgumentException") (by decide +kernel))) (vx_c (va_Nw.use rfl (hT9.1 (.declares ⟨"java/lang/RuntimeException", "<init>", "(Ljava/lang/String;)V"⟩) (by decide +kernel))) (vx_c (va_Nw.use rfl (hT9.1 (.declares ⟨"java/lang/Exception", "<init>", "(Ljava/lang/String;)V"⟩) (by decide +kernel))) (vx_c (va_Nw.use rfl (hT9.1 (.declares ⟨"java/lang/Throwable", "<init>", "(Ljava/lang/String;)V"⟩) (by decide +kernel))) (vx_n)))))) (by decide +kernel) hZ hw (hl.1.trans hml.symm) dX2_format_11 dX2_format_14 dX2_format_15 dX2_format_17 dX2_format_20 hout (Nat.le_of_ble_eq_true rfl) (Nat.le_of_ble_eq_true rfl) (Nat.le_of_ble_eq_true rfl) (Nat.le_of_ble_eq_true rfl) hlocks (by have hL : oFormat (ct, (md, fd), (n, wide, dn, st, num), (lost, fresh), (fp, sh)) x = (1, 0, (ct, (md, fd), (n, wide, dn, st, num), (lost, fresh), (fp, sh))) := (by rw [oFormat]; exact if_pos (by first | exact Or.inl c_2 | exact Or.inr c_8)); rw [hL]; exact ⟨⟨rfl, rfl⟩, hR⟩) (Nat.le_of_ble_eq_true rfl) (Nat.le_of_ble_eq_true rfl)
  · refine lv_iload_n hx hb dX2_format_5 rfl (lv_at hl 1 rfl) ?_
    refine lv_bipush (v := nI 6) hx hb dX2_format_6 (by decide) ?_
    refine lv_icmp_le (tgt := 21) hx hb dX2_format_8 (by decide) (fun c_8 => ?_) (fun c_8 => ?_)
    · obtain ⟨xx, hxx, e12⟩ := nI_of (x := x) (fun q => c_2 (Int32.lt_trans q (by decide)))
      subst e12
      have hx3 : 3 ≤ xx := Nat.not_lt.mp (fun q => c_2 (nI_lt q (by decide)))
      have hx6 : xx ≤ 6 := (nI_leI hxx (by decide)).mp c_8
      refine lv_iconst (v := nI 0) hx hb dX2_format_21 (by decide) ?_
      refine lv_istore_n (lv' := [(2, .int (nI 0)), (0, .ref (ad 0)), (1, .int (nI xx))]) hx hb dX2_format_22 rfl hl (by decide) rfl (fun ls hl => ?_)
      refine lp_X2_format hx hb hts hown hml hK V xx (fun V_L H locs ls hin hw hl => ?_) 6 0 V _ _ ls (by omega) ⟨fun _ _ => rfl, fun d hd => absurd hd (by omega)⟩ hw (lv_sub hl [0, 1, 2] rfl)
      refine lv_aload_n hx hb dX2_format_44 rfl (lv_at hl 0 rfl) ?_
      refine lv_iconst (v := nI 1) hx hb dX2_format_45 (by decide) ?_
      refine w_put (ci := 2) (C := RX2) (T := TX2) (M := 10) (x := nI 1) (ty := .boolean) hx hb hts hi2 tyX2 tyX2_ok nmX2 hown hK hw 0 (by omega) _ (cF_0 _) rfl 4 (by decide) (hts (.fieldLink RX2 47 "WideningArray" "made" "Z") (by decide +kernel)) rfl (by decide +kernel) rfl rfl (Nat.le_of_ble_eq_true rfl) (cF_0 _) dX2_format_46 (fun H locs hw => ?_)
      obtain ⟨V_1, hV_1⟩ : ∃ z : vT, z = u2 V_L 0 4 (nI 1) := ⟨_, rfl⟩
      rw [← hV_1] at hw
      refine lv_aload_n hx hb dX2_format_49 rfl (lv_at hl 0 rfl) ?_
      refine lv_iconst (v := nI 0) hx hb dX2_format_50 (by decide) ?_
      refine w_put (ci := 2) (C := RX2) (T := TX2) (M := 10) (x := nI 0) (ty := .boolean) hx hb hts hi2 tyX2 tyX2_ok nmX2 hown hK hw 0 (by omega) _ (cF_0 _) rfl 5 (by decide) (hts (.fieldLink RX2 51 "WideningArray" "failed" "Z") (by decide +kernel)) rfl (by decide +kernel) rfl rfl (Nat.le_of_ble_eq_true rfl) (cF_0 _) dX2_format_51 (fun H locs hw => ?_)
      obtain ⟨V_2, hV_2⟩ : ∃ z : vT, z = u2 V_1 0 5 (nI 0) := ⟨_, rfl⟩
      rw [← hV_2] at hw
      refine lv_aload_n hx hb dX2_format_54 rfl (lv_at hl 0 rfl) ?_
      refine lv_iconst (v := (-1)) hx hb dX2_format_55 (by decide) ?_
      refine w_put (ci := 2) (C := RX2) (T := TX2) (M := 10) (x := (-1)) (ty := .int) hx hb hts hi2 tyX2 tyX2_ok nmX2 hown hK hw 0 (by omega) _ (cF_0 _) rfl 6 (by decide) (hts (.fieldLink RX2 29 "WideningArray" "lost" "I") (by decide +kernel)) rfl (by decide +kernel) rfl rfl (Nat.le_of_ble_eq_true rfl) (cF_0 _) dX2_format_56 (fun H locs hw => ?_)
      obtain ⟨V_3, hV_3⟩ : ∃ z : vT, z = u2 V_2 0 6 (-1) := ⟨_, rfl⟩
      rw [← hV_3] at hw
      refine lv_aload_n hx hb dX2_format_59 rfl (lv_at hl 0 rfl) ?_
      refine lv_iconst (v := (-1)) hx hb dX2_format_60 (by decide) ?_
      refine w_put (ci := 2) (C := RX2) (T := TX2) (M := 10) (x := (-1)) (ty := .int) hx hb hts hi2 tyX2 tyX2_ok nmX2 hown hK hw 0 (by omega) _ (cF_0 _) rfl 7 (by decide) (hts (.fieldLink RX2 33 "WideningArray" "replaced" "I") (by decide +kernel)) rfl (by decide +kernel) rfl rfl (Nat.le_of_ble_eq_true rfl) (cF_0 _) dX2_format_61 (fun H locs hw => ?_)
      obtain ⟨V_4, hV_4⟩ : ∃ z : vT, z = u2 V_3 0 7 (-1) := ⟨_, rfl⟩
      rw [← hV_4] at hw
      refine lv_aload_n hx hb dX2_format_64 rfl (lv_at hl 0 rfl) ?_
      refine lv_iconst (v := nI 0) hx hb dX2_format_65 (by decide) ?_
      refine w_put (ci := 2) (C := RX2) (T := TX2) (M := 10) (x := nI 0) (ty := .int) hx hb hts hi2 tyX2 tyX2_ok nmX2 hown hK hw 0 (by omega) _ (cF_0 _) rfl 8 (by decide) (hts (.fieldLink RX2 54 "WideningArray" "failPoint" "I") (by decide +kernel)) rfl (by decide +kernel) rfl rfl (Nat.le_of_ble_eq_true rfl) (cF_0 _) dX2_format_66 (fun H locs hw => ?_)
      obtain ⟨V_5, hV_5⟩ : ∃ z : vT, z = u2 V_4 0 8 (nI 0) := ⟨_, rfl⟩
      rw [← hV_5] at hw
      refine lv_aload_n hx hb dX2_format_69 rfl (lv_at hl 0 rfl) ?_
      refine w_get (ci := 2) (C := RX2) (T := TX2) (M := 10) (v := .ref (ad 2)) hx hb hts hi2 hown hK hw 0 (by omega) _ (cF_0 _) rfl 1 (by decide) (hts (.fieldLink RX2 18 "WideningArray" "now" "LWideningArray$Marks;") (by decide +kernel)) rfl dX2_format_70 ?_
      have h50 : ∀ a, a ≠ 0 → V_5 a = V_L a := fun a ha => by rw [hV_5, u2_r _ _ ha, hV_4, u2_r _ _ ha, hV_3, u2_r _ _ ha, hV_2, u2_r _ _ ha, hV_1, u2_r _ _ ha]
      have g4 : V_5 0 4 = bI true := by rw [hV_5, u2_n _ _ (Or.inr (by decide)), hV_4, u2_n _ _ (Or.inr (by decide)), hV_3, u2_n _ _ (Or.inr (by decide)), hV_2, u2_n _ _ (Or.inr (by decide)), hV_1, u2_s]; rfl
      have g5 : V_5 0 5 = bI false := by rw [hV_5, u2_n _ _ (Or.inr (by decide)), hV_4, u2_n _ _ (Or.inr (by decide)), hV_3, u2_n _ _ (Or.inr (by decide)), hV_2, u2_s]; rfl
      have g6 : V_5 0 6 = -1 := by rw [hV_5, u2_n _ _ (Or.inr (by decide)), hV_4, u2_n _ _ (Or.inr (by decide)), hV_3, u2_s]
      have g7 : V_5 0 7 = -1 := by rw [hV_5, u2_n _ _ (Or.inr (by decide)), hV_4, u2_s]
      have g8 : V_5 0 8 = nI 0 := by rw [hV_5, u2_s]
      have g9 : V_5 0 9 = V_L 0 9 := by rw [hV_5, u2_n _ _ (Or.inr (by decide)), hV_4, u2_n _ _ (Or.inr (by decide)), hV_3, u2_n _ _ (Or.inr (by decide)), hV_2, u2_n _ _ (Or.inr (by decide)), hV_1, u2_n _ _ (Or.inr (by decide))]
      refine w_callv hw (va_runV (As := []) (rest := []) ⟨hx, hb, hml, hown, hts⟩ (c_X1_empty l D cI cD ad _ V_5 2 (by omega) cF_2) (cwV 0 hts gX2_format_X1_empty rfl rfl rfl (by decide +kernel) ⟨Nat.le_of_ble_eq_true rfl, Nat.le_of_ble_eq_true rfl⟩) (w_preV hK hw (by omega) (cF_2 _) rfl _) rfl rfl hl.1 rfl (lv_room (Nat.le_of_ble_eq_true rfl)) dX2_format_73 ⟨Nat.le_of_ble_eq_true rfl, Nat.le_of_ble_eq_true rfl⟩) (fun V_6 H locs hp hw => ?_)
      have hE := hp
      clear hp
      refine lv_aload_n hx hb dX2_format_76 rfl (lv_at hl 0 rfl) ?_
      refine w_get (ci := 2) (C := RX2) (T := TX2) (M := 10) (v := .ref (ad 2)) hx hb hts hi2 hown hK hw 0 (by omega) _ (cF_0 _) rfl 1 (by decide) (hts (.fieldLink RX2 18 "WideningArray" "now" "LWideningArray$Marks;") (by decide +kernel)) rfl dX2_format_77 ?_
      refine lv_iload_n hx hb dX2_format_80 rfl (lv_at hl 1 rfl) ?_
      refine w_putN (ci := 1) (C := RX1) (T := TX1) (M := 5) (x := nI xx) (ty := .int) hx hb hts hi1 tyX1 tyX1_ok nmX1 hown hK hw 2 (by omega) _ (cF_2 _) rfl 1 (by decide) (va_Nw.use rfl (hK.2 (.fieldLinkNest "WideningArray" 58 "WideningArray$Marks" "width" "I" "WideningArray") (by decide +kernel))) rfl (by decide +kernel) rfl rfl (Nat.le_of_ble_eq_true rfl) (cF_2 _) dX2_format_81 (fun H locs hw => ?_)
      obtain ⟨V_7, hV_7⟩ : ∃ z : vT, z = u2 V_6 2 1 (nI xx) := ⟨_, rfl⟩
      rw [← hV_7] at hw
      refine lv_aload_n hx hb dX2_format_84 rfl (lv_at hl 0 rfl) ?_
      refine w_callv hw (va_runV (As := []) (rest := []) ⟨hx, hb, hml, hown, hts⟩ (c_X2_issueNewMarks l D cI cD ad _ V_7 xx (by rw [hV_7, u2_s]) false (by rw [hV_7, u2_n _ _ (Or.inr (by decide)), hE.2 2 (by decide)]; rfl) false (by rw [hV_7, u2_n _ _ (Or.inr (by decide)), hE.2 4 (by decide)]; rfl) 0 (by rw [hV_7, u2_n _ _ (Or.inr (by decide)), hE.2 0 (by decide)]; rfl) (show xx ≤ 6 by omega) (fun d hd => cQd_nil (by rw [hV_7, u2_r _ _ (by omega), hE.1 _ (by omega), h50 _ (by omega)]; exact (hin.2 d hd).1))) (cwV 0 hts gX2_format_X2_issueNewMarks rfl rfl rfl (by decide +kernel) ⟨Nat.le_of_ble_eq_true rfl, Nat.le_of_ble_eq_true rfl⟩) (w_preV hK hw (by omega) (cF_0 _) rfl _) rfl rfl hl.1 rfl (lv_room (Nat.le_of_ble_eq_true rfl)) dX2_format_85 ⟨Nat.le_of_ble_eq_true rfl, Nat.le_of_ble_eq_true rfl⟩) (fun V_8 H locs hp hw => ?_)
      have hN : NM V_7 0 xx false V_8 := hp
      clear hp
      refine lv_aload_n hx hb dX2_format_88 rfl (lv_at hl 0 rfl) ?_
      refine w_calli hw (va_runV (As := []) (rest := []) ⟨hx, hb, hml, hown, hts⟩ (c_X2_awaitWrites l D cI cD ad _ V_8 (mkQ (V_8 2) (kw xx false)) hN.2.2.2.2.2.2 0 (by decide) (by rw [hN.1, hV_7, u2_r _ _ (by decide), hE.1 0 (by decide)]; exact g8) false (by rw [hN.1, hV_7, u2_r _ _ (by decide), hE.1 0 (by decide)]; exact g5)) (cwV 0 hts gX2_format_X2_awaitWrites rfl rfl rfl (by decide +kernel) ⟨Nat.le_of_ble_eq_true rfl, Nat.le_of_ble_eq_true rfl⟩) (w_preV hK hw (by omega) (cF_0 _) rfl _) rfl rfl hl.1 rfl (lv_room (Nat.le_of_ble_eq_true rfl)) dX2_format_89 ⟨Nat.le_of_ble_eq_true rfl, Nat.le_of_ble_eq_true rfl⟩) (fun r_10 V_9 H locs hp hw => ?_)
      have hA : AW V_8 (mkQ (V_8 2) (kw xx false)) 0 false r_10 V_9 := hp
      clear hp
      have hC := cR_format hsh hx6 hin h50 g4 g5 g6 g7 g8 g9 hE hV_7 hN hA
      refine lv_pop hx hb dX2_format_92 rfl ?_
      refine lv_aload_n hx hb dX2_format_93 rfl (lv_at hl 0 rfl) ?_
      refine w_calli hw (va_runV (As := []) (rest := []) ⟨hx, hb, hml, hown, hts⟩ (c_X2_capacity l D cI cD ad _ V_9 xx (show V_9 2 1 = nI xx from by rw [hA.2.2.2.2.1 2 (by decide) (by decide), hN.2.2.2.2.1 1 (by decide), hV_7, u2_s]) (by omega)) (cwV 0 hts gX2_format_X2_capacity rfl rfl rfl (by decide +kernel) ⟨Nat.le_of_ble_eq_true rfl, Nat.le_of_ble_eq_true rfl⟩) (w_preV hK hw (by omega) (cF_0 _) rfl _) rfl rfl hl.1 rfl (lv_room (Nat.le_of_ble_eq_true rfl)) dX2_format_94 ⟨Nat.le_of_ble_eq_true rfl, Nat.le_of_ble_eq_true rfl⟩) (fun r_12 V_11 H locs hp hw => ?_)
      obtain ⟨e9, e8⟩ := hp
      subst e9
      subst e8
      exact vx_ret (W.widen (k := 4) (n := 24) (Nat.le_of_ble_eq_true rfl) (Nat.le_of_ble_eq_true rfl) (w_iret hx hb hr hlocks hw (by have hL : oFormat (ct, (md, fd), (n, wide, dn, st, num), (lost, fresh), (fp, sh)) (nI xx) = (0, nI (32 * (xx - 1)), (eff (ab (-1) (-1)) false sh (mkQ (mkb 1 xx false 0 false) xx) (fun _ _ => 0), (true, false), (xx, false, 0, false, 1), (-1, -1), (0, sh))) := (by rw [oFormat]; refine (if_neg ?_).trans (by rw [nI_clamp (by omega)]); intro h; rcases h with h | h; (· exact c_2 h); (· exact h c_8)); rw [hL]; exact ⟨rfl, rfl, hC⟩) dX2_format_97))
    · obtain ⟨sa9, hsa9⟩ := hT9.2 (39, "an array has 3 to 6 disks") (by decide +kernel)
      exact w_throw (own := RX2) (cls := "java/lang/IllegalArgumentException") (text := "an array has 3 to 6 disks") (names := ["java/lang/RuntimeException", "java/lang/Exception"]) (sa := sa9) hx hb hlt hown (by decide +kernel) (by decide +kernel) (hts (.classLink RX2 37 "java/lang/IllegalArgumentException") (by decide +kernel)) (hts (.initialized "java/lang/IllegalArgumentException") (by decide +kernel)) hsa9 (vx_hat (L := vx_atS RX2 41 "java/lang/IllegalArgumentException" ["java/lang/RuntimeException", "java/lang/Exception"]) (B := [.castable "java/lang/IllegalArgumentException" "java/lang/IllegalArgumentException", .declares ⟨"java/lang/RuntimeException", "<init>", "(Ljava/lang/String;)V"⟩, .declares ⟨"java/lang/Exception", "<init>", "(Ljava/lang/String;)V"⟩, .declares ⟨"java/lang/Throwable", "<init>", "(Ljava/lang/String;)V"⟩]) (fun w hw => hts w ((by decide +kernel : ∀ w ∈ (vx_atS RX2 41 "java/lang/IllegalArgumentException" ["java/lang/RuntimeException", "java/lang/Exception"]).filter goodWord, w ∈ wsX2_format) w hw)) (by decide +kernel) (vx_c (va_Nw.use rfl (hT9.1 (.castable "java/lang/IllegalArgumentException" "java/lang/IllegalArgumentException") (by decide +kernel))) (vx_c (va_Nw.use rfl (hT9.1 (.declares ⟨"java/lang/RuntimeException", "<init>", "(Ljava/lang/String;)V"⟩) (by decide +kernel))) (vx_c (va_Nw.use rfl (hT9.1 (.declares ⟨"java/lang/Exception", "<init>", "(Ljava/lang/String;)V"⟩) (by decide +kernel))) (vx_c (va_Nw.use rfl (hT9.1 (.declares ⟨"java/lang/Throwable", "<init>", "(Ljava/lang/String;)V"⟩) (by decide +kernel))) (vx_n)))))) (by decide +kernel) hZ hw (hl.1.trans hml.symm) dX2_format_11 dX2_format_14 dX2_format_15 dX2_format_17 dX2_format_20 hout (Nat.le_of_ble_eq_true rfl) (Nat.le_of_ble_eq_true rfl) (Nat.le_of_ble_eq_true rfl) (Nat.le_of_ble_eq_true rfl) hlocks (by have hL : oFormat (ct, (md, fd), (n, wide, dn, st, num), (lost, fresh), (fp, sh)) x = (1, 0, (ct, (md, fd), (n, wide, dn, st, num), (lost, fresh), (fp, sh))) := (by rw [oFormat]; exact if_pos (by first | exact Or.inl c_2 | exact Or.inr c_8)); rw [hL]; exact ⟨⟨rfl, rfl⟩, hR⟩) (Nat.le_of_ble_eq_true rfl) (Nat.le_of_ble_eq_true rfl)
