set_option maxHeartbeats 4000000 in
set_option maxRecDepth 100000 in
theorem lp_X2_fetchWindow_i {p : Program} {l : Launch} {e : Env} {s : State} {m : MethodId} {args : Array Value} {below : List Frame} {meth : Method} {c : Code} {Q : State → Prop} {D : va_G} {cI cD : ClassId} {ad : Nat → Nat} (hx : p.tables.exec = Jvm.exec) (hb : c.code = cX2_fetchWindow) (hts : ∀ w ∈ wsX2_fetchWindow, w.before args s = true) (hown : s.vm.findClass RX2 = some m.cls) (hml : c.maxLocals = 4) (hK : kK D cI cD s) (V0 : vT) (n : Nat) (hn : V0 2 1 = nI n) (wide : Bool) (hwd : V0 2 2 = bI wide) (dn : Nat) (hdn : V0 2 3 = nI dn) (st : Bool) (hst : V0 2 4 = bI st) (hn3 : 3 ≤ n) (hn6 : n ≤ 6) (hd32 : dn < 32) (hwn : wide = true → n < 6) (j : Nat) (hj : j < n) (hk : ∀ (V1 : vT) (H1 : Heap) (locs1 : List Loc) (ls : Array Slot), ((∀ a, a ≠ 3 → V1 a = V0 a) ∧ ∀ j1 i1, j1 < j + 1 → i1 < 4 → V1 3 (j1 * 4 + i1) = winw (cw V0) (ab (V0 0 6) (V0 0 7)) n wide dn st j1 i1) → wS D 47 ad (cF cI cD ad) s.heap V1 H1 locs1 → lv_has ls 4 [(1, .int (nI j)), (0, .ref (ad 0))] → W p l e ({ frames := 4, cells := 0, slots := 0, locals := 97 }) s m args below meth c H1 locs1 0 0 Q (F0 m 61 ls [])) : ∀ (n9 i : Nat) (V : vT) (H : Heap) (locs : List Loc) (ls : Array Slot), (i + n9 = 4) → ((∀ a, a ≠ 3 → V a = V0 a) ∧ ∀ j1 i1, (j1 < j ∨ (j1 = j ∧ i1 < i)) → i1 < 4 → V 3 (j1 * 4 + i1) = winw (cw V0) (ab (V0 0 6) (V0 0 7)) n wide dn st j1 i1) → wS D 47 ad (cF cI cD ad) s.heap V H locs → lv_has ls 4 [(3, .int (nI i)), (2, .int (nI (dn * n + j))), (1, .int (nI j)), (0, .ref (ad 0))] → W p l e ({ frames := 4, cells := 0, slots := 0, locals := 97 }) s m args below meth c H locs 0 0 Q (F0 m 22 ls []) := by
  have hi1 : ∀ w ∈ wsX10, w ∈ wsX2_fetchWindow := by decide +kernel
  have hi2 : ∀ w ∈ wsX20, w ∈ wsX2_fetchWindow := by decide +kernel
  have hbn : dn * n ≤ 192 := Nat.le_trans (Nat.mul_le_mul (show dn ≤ 32 by omega) hn6) (by decide)
  intro n9
  induction n9 with
  | zero =>
    intro i V H locs ls hjn hin hw hl
    refine lv_iload_n hx hb dX2_fetchWindow_22 rfl (lv_at hl 0 rfl) ?_
    refine lv_iconst (v := nI 4) hx hb dX2_fetchWindow_23 (by decide) ?_
    refine n_icmp_ge (tgt := 61) hx hb dX2_fetchWindow_24 (by decide) (by omega) (by omega) (fun c_24 => ?_) (fun c_24 => ?_)
    · have e1 : i = 4 := by omega
      subst e1
      exact hk V H locs ls ⟨hin.1, fun j1 i1 h1 h2 => hin.2 j1 i1 (by omega) h2⟩ hw (lv_sub hl [2, 3] rfl)
    · exfalso
      omega
  | succ n9 ih =>
    intro i V H locs ls hjn hin hw hl
    refine lv_iload_n hx hb dX2_fetchWindow_22 rfl (lv_at hl 0 rfl) ?_
    refine lv_iconst (v := nI 4) hx hb dX2_fetchWindow_23 (by decide) ?_
    refine n_icmp_ge (tgt := 61) hx hb dX2_fetchWindow_24 (by decide) (by omega) (by omega) (fun c_24 => ?_) (fun c_24 => ?_)
    · exfalso
      omega
    · refine lv_aload_n hx hb dX2_fetchWindow_27 rfl (lv_at hl 3 rfl) ?_
      refine w_get (ci := 2) (C := RX2) (T := TX2) (M := 10) (v := .ref (ad 3)) hx hb hts hi2 hown hK hw 0 (by omega) _ (cF_0 _) rfl 2 (by decide) (hts (.fieldLink RX2 22 "WideningArray" "data" "[I") (by decide +kernel)) rfl dX2_fetchWindow_28 ?_
      refine lv_iload_n hx hb dX2_fetchWindow_31 rfl (lv_at hl 2 rfl) ?_
      refine lv_iconst (v := nI 4) hx hb dX2_fetchWindow_32 (by decide) ?_
      refine n_mul hx hb dX2_fetchWindow_33 ?_
      refine lv_iload_n hx hb dX2_fetchWindow_34 rfl (lv_at hl 0 rfl) ?_
      refine n_add hx hb dX2_fetchWindow_35 ?_
      refine lv_iload_n hx hb dX2_fetchWindow_36 rfl (lv_at hl 1 rfl) ?_
      refine lv_aload_n hx hb dX2_fetchWindow_37 rfl (lv_at hl 3 rfl) ?_
      refine w_calli hw (va_runV (As := []) (rest := [.int (nI (dn * n + j)), .int (nI ((j * 4) + i)), .ref (ad 3)]) ⟨hx, hb, hml, hown, hts⟩ (c_X2_capacity l D cI cD ad _ V n (show V 2 1 = nI n from by rw [hin.1 2 (by decide)]; exact hn) (by omega)) (cwV 0 hts gX2_fetchWindow_X2_capacity rfl rfl rfl (by decide +kernel) ⟨Nat.le_of_ble_eq_true rfl, Nat.le_of_ble_eq_true rfl⟩) (w_preV hK hw (by omega) (cF_0 _) rfl _) rfl rfl hl.1 rfl (lv_room (Nat.le_of_ble_eq_true rfl)) dX2_fetchWindow_38 ⟨Nat.le_of_ble_eq_true rfl, Nat.le_of_ble_eq_true rfl⟩) (fun r_2 V_1 H locs hp hw => ?_)
      obtain ⟨e9, e8⟩ := hp
      subst e9
      subst e8
      refine n_icmp_ge (tgt := 53) hx hb dX2_fetchWindow_41 (by decide) (by omega) (by omega) (fun c_41 => ?_) (fun c_41 => ?_)
      · refine lv_iconst (v := nI 0) hx hb dX2_fetchWindow_53 (by decide) ?_
        refine w_iast hx hb hK hw 3 24 (by omega) (cF_3) (i := (j * 4) + i) (by omega) (by decide) dX2_fetchWindow_54 (fun H locs hw => ?_)
        obtain ⟨V_3, hV_3⟩ : ∃ z : vT, z = u2 V 3 ((j * 4) + i) (nI 0) := ⟨_, rfl⟩
        rw [← hV_3] at hw
        refine lv_iinc (v := nI (i + 1)) (lv' := [(3, .int (nI (i + 1))), (2, .int (nI (dn * n + j))), (1, .int (nI j)), (0, .ref (ad 0))]) hx hb dX2_fetchWindow_55 hl (k := 0) rfl (nI_1 _) (by decide) rfl (fun ls hl => ?_)
        refine lv_goto (tgt := 22) hx hb dX2_fetchWindow_58 (by decide) ?_
        have hcw : cw V = cw V0 := by funext d9 j9; show V (6 + 7 * d9) j9 = V0 (6 + 7 * d9) j9; rw [hin.1 _ (by omega)]
        have hin' : (∀ a, a ≠ 3 → V_3 a = V0 a) ∧ ∀ j1 i1, (j1 < j ∨ (j1 = j ∧ i1 < i + 1)) → i1 < 4 → V_3 3 (j1 * 4 + i1) = winw (cw V0) (ab (V0 0 6) (V0 0 7)) n wide dn st j1 i1 := by
          try rw [hcw, hin.1 0 (by decide)] at hV_3
          refine ⟨fun a ha => by rw [hV_3, u2_r _ _ ha]; exact hin.1 a ha, fun j1 i1 h1 h2 => ?_⟩
          by_cases e2 : j1 = j ∧ i1 = i
          · rw [e2.1, e2.2, hV_3, u2_s, winw]
            first | rw [if_pos c_41] | (rw [if_neg (by omega)]; rfl)
          · rw [hV_3, u2_n _ _ (Or.inr (by omega))]
            exact hin.2 j1 i1 (by omega) h2
        exact ih (i + 1) _ _ _ ls (by omega) hin' hw (lv_sub hl [0, 1, 2, 3] rfl)
      · refine lv_aload_n hx hb dX2_fetchWindow_44 rfl (lv_at hl 3 rfl) ?_
        refine lv_iload_n hx hb dX2_fetchWindow_45 rfl (lv_at hl 1 rfl) ?_
        refine lv_iload_n hx hb dX2_fetchWindow_46 rfl (lv_at hl 0 rfl) ?_
        refine w_calli hw (va_runV (As := [.int (nI (dn * n + j)), .int (nI i)]) (rest := [.int (nI ((j * 4) + i)), .ref (ad 3)]) ⟨hx, hb, hml, hown, hts⟩ (c_X2_wordOfBlock l D cI cD ad _ V n (show V 2 1 = nI n from by rw [hin.1 2 (by decide)]; exact hn) wide (show V 2 2 = bI wide from by rw [hin.1 2 (by decide)]; exact hwd) dn (show V 2 3 = nI dn from by rw [hin.1 2 (by decide)]; exact hdn) st (show V 2 4 = bI st from by rw [hin.1 2 (by decide)]; exact hst) (by omega) (by omega) (by omega) hwn (dn * n + j) i (by omega) (by omega)) (cwV 2 hts gX2_fetchWindow_X2_wordOfBlock rfl rfl rfl (by decide +kernel) ⟨Nat.le_of_ble_eq_true rfl, Nat.le_of_ble_eq_true rfl⟩) (w_preV hK hw (by omega) (cF_0 _) rfl _) rfl rfl hl.1 rfl (lv_room (Nat.le_of_ble_eq_true rfl)) dX2_fetchWindow_47 ⟨Nat.le_of_ble_eq_true rfl, Nat.le_of_ble_eq_true rfl⟩) (fun r_5 V_4 H locs hp hw => ?_)
        obtain ⟨e9, e8⟩ := hp
        subst e9
        subst e8
        refine lv_goto (tgt := 54) hx hb dX2_fetchWindow_50 (by decide) ?_
        refine w_iast hx hb hK hw 3 24 (by omega) (cF_3) (i := (j * 4) + i) (by omega) (by decide) dX2_fetchWindow_54 (fun H locs hw => ?_)
        obtain ⟨V_6, hV_6⟩ : ∃ z : vT, z = u2 V 3 ((j * 4) + i) (wob (cw V) (ab (V 0 6) (V 0 7)) n wide dn st (dn * n + j) i) := ⟨_, rfl⟩
        rw [← hV_6] at hw
        refine lv_iinc (v := nI (i + 1)) (lv' := [(3, .int (nI (i + 1))), (2, .int (nI (dn * n + j))), (1, .int (nI j)), (0, .ref (ad 0))]) hx hb dX2_fetchWindow_55 hl (k := 0) rfl (nI_1 _) (by decide) rfl (fun ls hl => ?_)
        refine lv_goto (tgt := 22) hx hb dX2_fetchWindow_58 (by decide) ?_
        have hcw : cw V = cw V0 := by funext d9 j9; show V (6 + 7 * d9) j9 = V0 (6 + 7 * d9) j9; rw [hin.1 _ (by omega)]
        have hin' : (∀ a, a ≠ 3 → V_6 a = V0 a) ∧ ∀ j1 i1, (j1 < j ∨ (j1 = j ∧ i1 < i + 1)) → i1 < 4 → V_6 3 (j1 * 4 + i1) = winw (cw V0) (ab (V0 0 6) (V0 0 7)) n wide dn st j1 i1 := by
          try rw [hcw, hin.1 0 (by decide)] at hV_6
          refine ⟨fun a ha => by rw [hV_6, u2_r _ _ ha]; exact hin.1 a ha, fun j1 i1 h1 h2 => ?_⟩
          by_cases e2 : j1 = j ∧ i1 = i
          · rw [e2.1, e2.2, hV_6, u2_s, winw]
            first | rw [if_pos c_41] | (rw [if_neg (by omega)]; rfl)
          · rw [hV_6, u2_n _ _ (Or.inr (by omega))]
            exact hin.2 j1 i1 (by omega) h2
        exact ih (i + 1) _ _ _ ls (by omega) hin' hw (lv_sub hl [0, 1, 2, 3] rfl)
set_option maxHeartbeats 4000000 in
set_option maxRecDepth 100000 in
theorem lp_X2_fetchWindow {p : Program} {l : Launch} {e : Env} {s : State} {m : MethodId} {args : Array Value} {below : List Frame} {meth : Method} {c : Code} {Q : State → Prop} {D : va_G} {cI cD : ClassId} {ad : Nat → Nat} (hx : p.tables.exec = Jvm.exec) (hb : c.code = cX2_fetchWindow) (hts : ∀ w ∈ wsX2_fetchWindow, w.before args s = true) (hown : s.vm.findClass RX2 = some m.cls) (hml : c.maxLocals = 4) (hK : kK D cI cD s) (V0 : vT) (n : Nat) (hn : V0 2 1 = nI n) (wide : Bool) (hwd : V0 2 2 = bI wide) (dn : Nat) (hdn : V0 2 3 = nI dn) (st : Bool) (hst : V0 2 4 = bI st) (hn3 : 3 ≤ n) (hn6 : n ≤ 6) (hd32 : dn < 32) (hwn : wide = true → n < 6) (hk : ∀ (V1 : vT) (H1 : Heap) (locs1 : List Loc) (ls : Array Slot), ((∀ a, a ≠ 3 → V1 a = V0 a) ∧ ∀ j1 i1, j1 < n → i1 < 4 → V1 3 (j1 * 4 + i1) = winw (cw V0) (ab (V0 0 6) (V0 0 7)) n wide dn st j1 i1) → wS D 47 ad (cF cI cD ad) s.heap V1 H1 locs1 → lv_has ls 4 [(0, .ref (ad 0))] → W p l e ({ frames := 4, cells := 0, slots := 0, locals := 97 }) s m args below meth c H1 locs1 0 0 Q (F0 m 67 ls [])) : ∀ (n9 j : Nat) (V : vT) (H : Heap) (locs : List Loc) (ls : Array Slot), (j + n9 = n) → ((∀ a, a ≠ 3 → V a = V0 a) ∧ ∀ j1 i1, j1 < j → i1 < 4 → V 3 (j1 * 4 + i1) = winw (cw V0) (ab (V0 0 6) (V0 0 7)) n wide dn st j1 i1) → wS D 47 ad (cF cI cD ad) s.heap V H locs → lv_has ls 4 [(1, .int (nI j)), (0, .ref (ad 0))] → W p l e ({ frames := 4, cells := 0, slots := 0, locals := 97 }) s m args below meth c H locs 0 0 Q (F0 m 2 ls []) := by
  have hi1 : ∀ w ∈ wsX10, w ∈ wsX2_fetchWindow := by decide +kernel
  have hi2 : ∀ w ∈ wsX20, w ∈ wsX2_fetchWindow := by decide +kernel
  intro n9
  induction n9 with
  | zero =>
    intro j V H locs ls hjn hin hw hl
    refine lv_iload_n hx hb dX2_fetchWindow_2 rfl (lv_at hl 0 rfl) ?_
    refine lv_aload_n hx hb dX2_fetchWindow_3 rfl (lv_at hl 1 rfl) ?_
    refine w_get (ci := 2) (C := RX2) (T := TX2) (M := 10) (v := .ref (ad 2)) hx hb hts hi2 hown hK hw 0 (by omega) _ (cF_0 _) rfl 1 (by decide) (hts (.fieldLink RX2 18 "WideningArray" "now" "LWideningArray$Marks;") (by decide +kernel)) rfl dX2_fetchWindow_4 ?_
    refine w_getN (ci := 1) (C := RX1) (T := TX1) (M := 5) (v := .int (nI n)) hx hb hts hi1 hown hK hw 2 (by omega) _ (cF_2 _) rfl 1 (by decide) (va_Nw.use rfl (hK.2 (.fieldLinkNest "WideningArray" 58 "WideningArray$Marks" "width" "I" "WideningArray") (by decide +kernel))) (congrArg (fun z => some (Value.int z)) (show V 2 1 = nI n from by rw [hin.1 2 (by decide)]; exact hn)) dX2_fetchWindow_7 ?_
    refine n_icmp_ge (tgt := 67) hx hb dX2_fetchWindow_10 (by decide) (by omega) (by omega) (fun c_10 => ?_) (fun c_10 => ?_)
    · exact hk V H locs ls ⟨hin.1, fun j1 i1 h1 h2 => hin.2 j1 i1 (by omega) h2⟩ hw (lv_sub hl [1] rfl)
    · exfalso
      omega
  | succ n9 ih =>
    intro j V H locs ls hjn hin hw hl
    refine lv_iload_n hx hb dX2_fetchWindow_2 rfl (lv_at hl 0 rfl) ?_
    refine lv_aload_n hx hb dX2_fetchWindow_3 rfl (lv_at hl 1 rfl) ?_
    refine w_get (ci := 2) (C := RX2) (T := TX2) (M := 10) (v := .ref (ad 2)) hx hb hts hi2 hown hK hw 0 (by omega) _ (cF_0 _) rfl 1 (by decide) (hts (.fieldLink RX2 18 "WideningArray" "now" "LWideningArray$Marks;") (by decide +kernel)) rfl dX2_fetchWindow_4 ?_
    refine w_getN (ci := 1) (C := RX1) (T := TX1) (M := 5) (v := .int (nI n)) hx hb hts hi1 hown hK hw 2 (by omega) _ (cF_2 _) rfl 1 (by decide) (va_Nw.use rfl (hK.2 (.fieldLinkNest "WideningArray" 58 "WideningArray$Marks" "width" "I" "WideningArray") (by decide +kernel))) (congrArg (fun z => some (Value.int z)) (show V 2 1 = nI n from by rw [hin.1 2 (by decide)]; exact hn)) dX2_fetchWindow_7 ?_
    refine n_icmp_ge (tgt := 67) hx hb dX2_fetchWindow_10 (by decide) (by omega) (by omega) (fun c_10 => ?_) (fun c_10 => ?_)
    · exfalso
      omega
    · refine lv_aload_n hx hb dX2_fetchWindow_13 rfl (lv_at hl 1 rfl) ?_
      refine w_calli hw (va_runV (As := []) (rest := []) ⟨hx, hb, hml, hown, hts⟩ (c_X2_firstOfWindow l D cI cD ad _ V n (show V 2 1 = nI n from by rw [hin.1 2 (by decide)]; exact hn) dn (show V 2 3 = nI dn from by rw [hin.1 2 (by decide)]; exact hdn)) (cwV 0 hts gX2_fetchWindow_X2_firstOfWindow rfl rfl rfl (by decide +kernel) ⟨Nat.le_of_ble_eq_true rfl, Nat.le_of_ble_eq_true rfl⟩) (w_preV hK hw (by omega) (cF_0 _) rfl _) rfl rfl hl.1 rfl (lv_room (Nat.le_of_ble_eq_true rfl)) dX2_fetchWindow_14 ⟨Nat.le_of_ble_eq_true rfl, Nat.le_of_ble_eq_true rfl⟩) (fun r_2 V_1 H locs hp hw => ?_)
      obtain ⟨e9, e8⟩ := hp
      subst e9
      subst e8
      refine lv_iload_n hx hb dX2_fetchWindow_17 rfl (lv_at hl 0 rfl) ?_
      refine n_add hx hb dX2_fetchWindow_18 ?_
      refine lv_istore_n (lv' := [(2, .int (nI ((dn * n) + j))), (1, .int (nI j)), (0, .ref (ad 0))]) hx hb dX2_fetchWindow_19 rfl hl (by decide) rfl (fun ls hl => ?_)
      refine lv_iconst (v := nI 0) hx hb dX2_fetchWindow_20 (by decide) ?_
      refine lv_istore_n (lv' := [(3, .int (nI 0)), (2, .int (nI ((dn * n) + j))), (1, .int (nI j)), (0, .ref (ad 0))]) hx hb dX2_fetchWindow_21 rfl hl (by decide) rfl (fun ls hl => ?_)
      refine lp_X2_fetchWindow_i hx hb hts hown hml hK V0 n hn wide hwd dn hdn st hst hn3 hn6 hd32 hwn j (by omega) (fun V_L H locs ls hin hw hl => ?_) 4 0 V _ _ ls (by omega) ⟨hin.1, fun j1 i1 h1 h2 => hin.2 j1 i1 (by omega) h2⟩ hw (lv_sub hl [0, 1, 2, 3] rfl)
      refine lv_iinc (v := nI (j + 1)) (lv' := [(1, .int (nI (j + 1))), (0, .ref (ad 0))]) hx hb dX2_fetchWindow_61 hl (k := 0) rfl (nI_1 _) (by decide) rfl (fun ls hl => ?_)
      refine lv_goto (tgt := 2) hx hb dX2_fetchWindow_64 (by decide) ?_
      exact ih (j + 1) _ _ _ ls (by omega) hin hw (lv_sub hl [0, 1] rfl)
set_option maxHeartbeats 4000000 in
set_option maxRecDepth 100000 in
theorem c_X2_fetchWindow (l : Launch) (D : va_G) (cI cD : ClassId) (ad : Nat → Nat) (sz : Nat) (V : vT) (n : Nat) (hn : V 2 1 = nI n) (wide : Bool) (hwd : V 2 2 = bI wide) (dn : Nat) (hdn : V 2 3 = nI dn) (st : Bool) (hst : V 2 4 = bI st) (hn3 : 3 ≤ n) (hn6 : n ≤ 6) (hd32 : dn < 32) (hwn : wide = true → n < 6) : Met l yX2_fetchWindow wsX2_fetchWindow ({ frames := 4, cells := 0, slots := 0, locals := 97 }) (gP D cI cD 47 ad (cF cI cD ad) sz V [.ref (ad 0)]) (va_Qv (fun (V1 : vT) => (∀ a, a ≠ 3 → V1 a = V a) ∧ ∀ j1 i1, j1 < n → i1 < 4 → V1 3 (j1 * 4 + i1) = winw (cw V) (ab (V 0 6) (V 0 7)) n wide dn st j1 i1) (gB D 47 ad (cF cI cD ad)) (gA 47 ad sz)) 0 0 (gA 47 ad sz) := by
  refine w_met (cc := cX2_fetchWindow) (maxL := 4) (ret := none) (by decide) rfl (Nat.le_of_ble_eq_true rfl) ?_
  intro p e s m below meth c hx hb hr hts hown hlocks hml hsz hK hw ls hl
  subst hsz
  have hown : s.vm.findClass RX2 = some m.cls := hown
  have hi1 : ∀ w ∈ wsX10, w ∈ wsX2_fetchWindow := by decide +kernel
  have hi2 : ∀ w ∈ wsX20, w ∈ wsX2_fetchWindow := by decide +kernel
  have hl : lv_has ls 4 [(0, .ref (ad 0))] := hl
  refine lv_iconst (v := nI 0) hx hb dX2_fetchWindow_0 (by decide) ?_
  refine lv_istore_n (lv' := [(1, .int (nI 0)), (0, .ref (ad 0))]) hx hb dX2_fetchWindow_1 rfl hl (by decide) rfl (fun ls hl => ?_)
  refine lp_X2_fetchWindow hx hb hts hown hml hK V n hn wide hwd dn hdn st hst hn3 hn6 hd32 hwn (fun V_L H locs ls hin hw hl => ?_) n 0 V _ _ ls (by omega) ⟨fun _ _ => rfl, fun j1 i1 h1 h2 => absurd h1 (by omega)⟩ hw (lv_sub hl [0, 1] rfl)
  exact w_vret hx hb hr hlocks hw (hin) dX2_fetchWindow_67
set_option maxHeartbeats 4000000 in
set_option maxRecDepth 100000 in
theorem lp_X2_stashWindow {p : Program} {l : Launch} {e : Env} {s : State} {m : MethodId} {args : Array Value} {below : List Frame} {meth : Method} {c : Code} {Q : State → Prop} {D : va_G} {cI cD : ClassId} {ad : Nat → Nat} (hx : p.tables.exec = Jvm.exec) (hb : c.code = cX2_stashWindow) (hts : ∀ w ∈ wsX2_stashWindow, w.before args s = true) (hown : s.vm.findClass RX2 = some m.cls) (hml : c.maxLocals = 2) (hK : kK D cI cD s) (V0 : vT) (n : Nat) (hn : V0 2 1 = nI n) (hn3 : 3 ≤ n) (hn5 : n < 6) (hk : ∀ (V1 : vT) (H1 : Heap) (locs1 : List Loc) (ls : Array Slot), ((∀ a, a < 5 → V1 a = V0 a) ∧ sameD V0 V1 ∧ cQ V1 (stQ (V0 3) n n)) → wS D 47 ad (cF cI cD ad) s.heap V1 H1 locs1 → lv_has ls 2 [(0, .ref (ad 0))] → W p l e ({ frames := 4, cells := 0, slots := 0, locals := 87 }) s m args below meth c H1 locs1 0 0 Q (F0 m 65 ls [])) : ∀ (n9 j : Nat) (V : vT) (H : Heap) (locs : List Loc) (ls : Array Slot), (j + n9 = n) → ((∀ a, a < 5 → V a = V0 a) ∧ sameD V0 V ∧ cQ V (stQ (V0 3) n j)) → wS D 47 ad (cF cI cD ad) s.heap V H locs → lv_has ls 2 [(1, .int (nI j)), (0, .ref (ad 0))] → W p l e ({ frames := 4, cells := 0, slots := 0, locals := 87 }) s m args below meth c H locs 0 0 Q (F0 m 2 ls []) := by
  have hi1 : ∀ w ∈ wsX10, w ∈ wsX2_stashWindow := by decide +kernel
  have hi2 : ∀ w ∈ wsX20, w ∈ wsX2_stashWindow := by decide +kernel
  intro n9
  induction n9 with
  | zero =>
    intro j V H locs ls hjn hin hw hl
    refine lv_iload_n hx hb dX2_stashWindow_2 rfl (lv_at hl 0 rfl) ?_
    refine lv_aload_n hx hb dX2_stashWindow_3 rfl (lv_at hl 1 rfl) ?_
    refine w_get (ci := 2) (C := RX2) (T := TX2) (M := 10) (v := .ref (ad 2)) hx hb hts hi2 hown hK hw 0 (by omega) _ (cF_0 _) rfl 1 (by decide) (hts (.fieldLink RX2 18 "WideningArray" "now" "LWideningArray$Marks;") (by decide +kernel)) rfl dX2_stashWindow_4 ?_
    refine w_getN (ci := 1) (C := RX1) (T := TX1) (M := 5) (v := .int (nI n)) hx hb hts hi1 hown hK hw 2 (by omega) _ (cF_2 _) rfl 1 (by decide) (va_Nw.use rfl (hK.2 (.fieldLinkNest "WideningArray" 58 "WideningArray$Marks" "width" "I" "WideningArray") (by decide +kernel))) (congrArg (fun z => some (Value.int z)) (show V 2 1 = nI n from by rw [hin.1 2 (by decide)]; exact hn)) dX2_stashWindow_7 ?_
    refine n_icmp_ge (tgt := 65) hx hb dX2_stashWindow_10 (by decide) (by omega) (by omega) (fun c_10 => ?_) (fun c_10 => ?_)
    · have e1 : j = n := by omega
      rw [e1] at hin
      exact hk V H locs ls hin hw (lv_sub hl [1] rfl)
    · exfalso
      omega
  | succ n9 ih =>
    intro j V H locs ls hjn hin hw hl
    refine lv_iload_n hx hb dX2_stashWindow_2 rfl (lv_at hl 0 rfl) ?_
    refine lv_aload_n hx hb dX2_stashWindow_3 rfl (lv_at hl 1 rfl) ?_
    refine w_get (ci := 2) (C := RX2) (T := TX2) (M := 10) (v := .ref (ad 2)) hx hb hts hi2 hown hK hw 0 (by omega) _ (cF_0 _) rfl 1 (by decide) (hts (.fieldLink RX2 18 "WideningArray" "now" "LWideningArray$Marks;") (by decide +kernel)) rfl dX2_stashWindow_4 ?_
    refine w_getN (ci := 1) (C := RX1) (T := TX1) (M := 5) (v := .int (nI n)) hx hb hts hi1 hown hK hw 2 (by omega) _ (cF_2 _) rfl 1 (by decide) (va_Nw.use rfl (hK.2 (.fieldLinkNest "WideningArray" 58 "WideningArray$Marks" "width" "I" "WideningArray") (by decide +kernel))) (congrArg (fun z => some (Value.int z)) (show V 2 1 = nI n from by rw [hin.1 2 (by decide)]; exact hn)) dX2_stashWindow_7 ?_
    refine n_icmp_ge (tgt := 65) hx hb dX2_stashWindow_10 (by decide) (by omega) (by omega) (fun c_10 => ?_) (fun c_10 => ?_)
    · exfalso
      omega
    · refine lv_aload_n hx hb dX2_stashWindow_13 rfl (lv_at hl 1 rfl) ?_
      refine w_get (ci := 2) (C := RX2) (T := TX2) (M := 10) (v := .ref (ad 1)) hx hb hts hi2 hown hK hw 0 (by omega) _ (cF_0 _) rfl 0 (by decide) (hts (.fieldLink RX2 11 "WideningArray" "disks" "[LWideningArray$Disk;") (by decide +kernel)) rfl dX2_stashWindow_14 ?_
      refine lv_aload_n hx hb dX2_stashWindow_17 rfl (lv_at hl 1 rfl) ?_
      refine w_get (ci := 2) (C := RX2) (T := TX2) (M := 10) (v := .ref (ad 2)) hx hb hts hi2 hown hK hw 0 (by omega) _ (cF_0 _) rfl 1 (by decide) (hts (.fieldLink RX2 18 "WideningArray" "now" "LWideningArray$Marks;") (by decide +kernel)) rfl dX2_stashWindow_18 ?_
      refine w_getN (ci := 1) (C := RX1) (T := TX1) (M := 5) (v := .int (nI n)) hx hb hts hi1 hown hK hw 2 (by omega) _ (cF_2 _) rfl 1 (by decide) (va_Nw.use rfl (hK.2 (.fieldLinkNest "WideningArray" 58 "WideningArray$Marks" "width" "I" "WideningArray") (by decide +kernel))) (congrArg (fun z => some (Value.int z)) (show V 2 1 = nI n from by rw [hin.1 2 (by decide)]; exact hn)) dX2_stashWindow_21 ?_
      refine w_aald hx hb hK hw 1 6 (by omega) (cF_1 _) (i := n) (by omega) (by decide) rfl dX2_stashWindow_24 ?_
      refine lv_bipush (v := nI 32) hx hb dX2_stashWindow_25 (by decide) ?_
      refine lv_iload_n hx hb dX2_stashWindow_27 rfl (lv_at hl 0 rfl) ?_
      refine n_add hx hb dX2_stashWindow_28 ?_
      refine lv_aload_n hx hb dX2_stashWindow_29 rfl (lv_at hl 1 rfl) ?_
      refine w_get (ci := 2) (C := RX2) (T := TX2) (M := 10) (v := .ref (ad 3)) hx hb hts hi2 hown hK hw 0 (by omega) _ (cF_0 _) rfl 2 (by decide) (hts (.fieldLink RX2 22 "WideningArray" "data" "[I") (by decide +kernel)) rfl dX2_stashWindow_30 ?_
      refine lv_iload_n hx hb dX2_stashWindow_33 rfl (lv_at hl 0 rfl) ?_
      refine lv_iconst (v := nI 4) hx hb dX2_stashWindow_34 (by decide) ?_
      refine n_mul hx hb dX2_stashWindow_35 ?_
      have hQ9 := hin.2.2
      refine w_callv hw (va_runV (As := [.int (nI (32 + j)), .ref (ad 3), .int (nI (j * 4))]) (rest := []) ⟨hx, hb, hml, hown, hts⟩ (c_X0_issueBlock l D cI cD ad _ V n (by omega) (32 + j) (by omega) 3 24 (by omega) cF_3 (by omega) (j * 4) (by omega) (by omega) (stQ (V0 3) n j n).length (hQ9 n (by omega)).1 (Nat.lt_of_le_of_lt (stQ_len (by omega) j _) (by omega))) (cwV 3 hts gX2_stashWindow_X0_issueBlock rfl rfl rfl (by decide +kernel) ⟨Nat.le_of_ble_eq_true rfl, Nat.le_of_ble_eq_true rfl⟩) (w_preV hK hw (by omega) (cF_d0 n _) rfl _) rfl rfl hl.1 rfl (lv_room (Nat.le_of_ble_eq_true rfl)) dX2_stashWindow_36 ⟨Nat.le_of_ble_eq_true rfl, Nat.le_of_ble_eq_true rfl⟩) (fun V_1 H locs hp hw => ?_)
      have hQ1 : cQ V_1 (qAdd (stQ (V0 3) n j) n (some (32 + j), fun i => V0 3 (j * 4 + i))) := cQ_block hQ9 (by omega) (Nat.lt_of_le_of_lt (stQ_len (by omega) j _) (by omega)) (by omega) hp (fun i hi => by rw [hin.1 3 (by decide)])
      have hs1 := hp.1
      clear hp hQ9
      refine lv_aload_n hx hb dX2_stashWindow_39 rfl (lv_at hl 1 rfl) ?_
      refine w_get (ci := 2) (C := RX2) (T := TX2) (M := 10) (v := .ref (ad 1)) hx hb hts hi2 hown hK hw 0 (by omega) _ (cF_0 _) rfl 0 (by decide) (hts (.fieldLink RX2 11 "WideningArray" "disks" "[LWideningArray$Disk;") (by decide +kernel)) rfl dX2_stashWindow_40 ?_
      refine lv_iconst (v := nI 0) hx hb dX2_stashWindow_43 (by decide) ?_
      refine w_aald hx hb hK hw 1 6 (by omega) (cF_1 _) (i := 0) (by omega) (by decide) rfl dX2_stashWindow_44 ?_
      refine lv_bipush (v := nI 32) hx hb dX2_stashWindow_45 (by decide) ?_
      refine lv_iload_n hx hb dX2_stashWindow_47 rfl (lv_at hl 0 rfl) ?_
      refine n_add hx hb dX2_stashWindow_48 ?_
      refine lv_aload_n hx hb dX2_stashWindow_49 rfl (lv_at hl 1 rfl) ?_
      refine w_get (ci := 2) (C := RX2) (T := TX2) (M := 10) (v := .ref (ad 3)) hx hb hts hi2 hown hK hw 0 (by omega) _ (cF_0 _) rfl 2 (by decide) (hts (.fieldLink RX2 22 "WideningArray" "data" "[I") (by decide +kernel)) rfl dX2_stashWindow_50 ?_
      refine lv_iload_n hx hb dX2_stashWindow_53 rfl (lv_at hl 0 rfl) ?_
      refine lv_iconst (v := nI 4) hx hb dX2_stashWindow_54 (by decide) ?_
      refine n_mul hx hb dX2_stashWindow_55 ?_
      have hQ9 := hQ1
      refine w_callv hw (va_runV (As := [.int (nI (32 + j)), .ref (ad 3), .int (nI (j * 4))]) (rest := []) ⟨hx, hb, hml, hown, hts⟩ (c_X0_issueBlock l D cI cD ad _ V_1 0 (by omega) (32 + j) (by omega) 3 24 (by omega) cF_3 (by omega) (j * 4) (by omega) (by omega) (qAdd (stQ (V0 3) n j) n (some (32 + j), fun i => V0 3 (j * 4 + i)) 0).length (hQ9 0 (by omega)).1 (Nat.lt_of_le_of_lt (qAdd_len (stQ_len (by omega) j _)) (by omega))) (cwV 3 hts gX2_stashWindow_X0_issueBlock rfl rfl rfl (by decide +kernel) ⟨Nat.le_of_ble_eq_true rfl, Nat.le_of_ble_eq_true rfl⟩) (w_preV hK hw (by omega) (cF_d0 0 _) rfl _) rfl rfl hl.1 rfl (lv_room (Nat.le_of_ble_eq_true rfl)) dX2_stashWindow_56 ⟨Nat.le_of_ble_eq_true rfl, Nat.le_of_ble_eq_true rfl⟩) (fun V_2 H locs hp hw => ?_)
      have hQ2 : cQ V_2 (stQ (V0 3) n (j + 1)) := cQ_block hQ9 (by omega) (Nat.lt_of_le_of_lt (qAdd_len (stQ_len (by omega) j _)) (by omega)) (by omega) hp (fun i hi => by rw [hs1 3 (by omega) (by omega) (by omega), hin.1 3 (by decide)])
      have hs2 := hp.1
      clear hp hQ9
      refine lv_iinc (v := nI (j + 1)) (lv' := [(1, .int (nI (j + 1))), (0, .ref (ad 0))]) hx hb dX2_stashWindow_59 hl (k := 0) rfl (nI_1 _) (by decide) rfl (fun ls hl => ?_)
      refine lv_goto (tgt := 2) hx hb dX2_stashWindow_62 (by decide) ?_
      exact ih (j + 1) _ _ _ ls (by omega) ⟨fun a ha => ((hs2 a (by omega) (by omega) (by omega)).trans (hs1 a (by omega) (by omega) (by omega))).trans (hin.1 a ha), sameD.trans hin.2.1 (sameD.trans (sameD_block hs1) (sameD_block hs2)), hQ2⟩ hw (lv_sub hl [0, 1] rfl)
set_option maxHeartbeats 4000000 in
set_option maxRecDepth 100000 in
theorem c_X2_stashWindow (l : Launch) (D : va_G) (cI cD : ClassId) (ad : Nat → Nat) (sz : Nat) (V : vT) (n : Nat) (hn : V 2 1 = nI n) (wide : Bool) (hwd : V 2 2 = bI wide) (num : Nat) (hnum : V 2 0 = nI num) (hkw : kw n wide ≤ 6) (hn3 : 3 ≤ n) (hn5 : n < 6) (fp : Nat) (hfp : fp < 2 ^ 31) (hf : V 0 8 = nI fp) (fd : Bool) (hfd : V 0 5 = bI fd) (hQ : cQ V (fun _ => [])) : Met l yX2_stashWindow wsX2_stashWindow ({ frames := 4, cells := 0, slots := 0, locals := 87 }) (gP D cI cD 47 ad (cF cI cD ad) sz V [.ref (ad 0)]) (va_Qi (fun (r : Int32) (V1 : vT) => ∃ Va Vb, (∀ a, a < 5 → Va a = V a) ∧ sameD V Va ∧ AW Va (stQ (V 3) n n) fp fd (bI (!decide (fp = 1))) Vb ∧ ((fp = 1 ∧ V1 = Vb ∧ r = bI false) ∨ (fp ≠ 1 ∧ ∃ Vc, NM (u2 Vb 2 4 (nI 1)) num n wide Vc ∧ AW Vc (mkQ (Vc 2) (kw n wide)) (fp - 1) fd r V1))) (gB D 47 ad (cF cI cD ad)) (gA 47 ad sz)) 0 0 (gA 47 ad sz) := by
  refine w_met (cc := cX2_stashWindow) (maxL := 2) (ret := (some .boolean)) (by decide) rfl (Nat.le_of_ble_eq_true rfl) ?_
  intro p e s m below meth c hx hb hr hts hown hlocks hml hsz hK hw ls hl
  subst hsz
  have hown : s.vm.findClass RX2 = some m.cls := hown
  have hi1 : ∀ w ∈ wsX10, w ∈ wsX2_stashWindow := by decide +kernel
  have hi2 : ∀ w ∈ wsX20, w ∈ wsX2_stashWindow := by decide +kernel
  have hl : lv_has ls 2 [(0, .ref (ad 0))] := hl
  refine lv_iconst (v := nI 0) hx hb dX2_stashWindow_0 (by decide) ?_
  refine lv_istore_n (lv' := [(1, .int (nI 0)), (0, .ref (ad 0))]) hx hb dX2_stashWindow_1 rfl hl (by decide) rfl (fun ls hl => ?_)
  refine lp_X2_stashWindow hx hb hts hown hml hK V n hn hn3 hn5 (fun Va H locs ls hin hw hl => ?_) n 0 V _ _ ls (by omega) ⟨fun _ _ => rfl, sameD.rf, hQ⟩ hw (lv_sub hl [0, 1] rfl)
  refine lv_aload_n hx hb dX2_stashWindow_65 rfl (lv_at hl 0 rfl) ?_
  refine w_calli hw (va_runV (As := []) (rest := []) ⟨hx, hb, hml, hown, hts⟩ (c_X2_awaitWrites l D cI cD ad _ Va (stQ (V 3) n n) hin.2.2 fp hfp (by rw [hin.1 0 (by decide)]; exact hf) fd (by rw [hin.1 0 (by decide)]; exact hfd)) (cwV 0 hts gX2_stashWindow_X2_awaitWrites rfl rfl rfl (by decide +kernel) ⟨Nat.le_of_ble_eq_true rfl, Nat.le_of_ble_eq_true rfl⟩) (w_preV hK hw (by omega) (cF_0 _) rfl _) rfl rfl hl.1 rfl (lv_room (Nat.le_of_ble_eq_true rfl)) dX2_stashWindow_66 ⟨Nat.le_of_ble_eq_true rfl, Nat.le_of_ble_eq_true rfl⟩) (fun r_2 V_1 H locs hp hw => ?_)
  have hA : AW Va (stQ (V 3) n n) fp fd r_2 V_1 := hp
  clear hp
  have e9 := hA.1
  subst e9
  have h2b : V_1 2 = V 2 := (hA.2.2.2.2.1 2 (by decide) (by decide)).trans (hin.1 2 (by decide))
  refine lv_if_ne (tgt := 74) hx hb dX2_stashWindow_69 (by decide) (fun c_69 => ?_) (fun c_69 => ?_)
  · have e1 : fp ≠ 1 := by have := bI_n0.mp c_69; simpa using this
    refine lv_aload_n hx hb dX2_stashWindow_74 rfl (lv_at hl 0 rfl) ?_
    refine w_get (ci := 2) (C := RX2) (T := TX2) (M := 10) (v := .ref (ad 2)) hx hb hts hi2 hown hK hw 0 (by omega) _ (cF_0 _) rfl 1 (by decide) (hts (.fieldLink RX2 18 "WideningArray" "now" "LWideningArray$Marks;") (by decide +kernel)) rfl dX2_stashWindow_75 ?_
    refine lv_iconst (v := nI 1) hx hb dX2_stashWindow_78 (by decide) ?_
    refine w_putN (ci := 1) (C := RX1) (T := TX1) (M := 5) (x := nI 1) (ty := .boolean) hx hb hts hi1 tyX1 tyX1_ok nmX1 hown hK hw 2 (by omega) _ (cF_2 _) rfl 4 (by decide) (va_Nw.use rfl (hK.2 (.fieldLinkNest "WideningArray" 113 "WideningArray$Marks" "stashed" "Z" "WideningArray") (by decide +kernel))) rfl (by decide +kernel) rfl rfl (Nat.le_of_ble_eq_true rfl) (cF_2 _) dX2_stashWindow_79 (fun H locs hw => ?_)
    obtain ⟨V_3, hV_3⟩ : ∃ z : vT, z = u2 V_1 2 4 (nI 1) := ⟨_, rfl⟩
    rw [← hV_3] at hw
    refine lv_aload_n hx hb dX2_stashWindow_82 rfl (lv_at hl 0 rfl) ?_
    rw [hV_3] at hw
    refine w_callv hw (va_runV (As := []) (rest := []) ⟨hx, hb, hml, hown, hts⟩ (c_X2_issueNewMarks l D cI cD ad _ (u2 V_1 2 4 (nI 1)) n (by rw [u2_n _ _ (Or.inr (by decide)), h2b]; exact hn) wide (by rw [u2_n _ _ (Or.inr (by decide)), h2b]; exact hwd) true (by rw [u2_s]; rfl) num (by rw [u2_n _ _ (Or.inr (by decide)), h2b]; exact hnum) hkw (fun d hd => cQd_congr (fun a h1 h2 => u2_r _ _ (by omega)) (AW.nil hA d hd))) (cwV 0 hts gX2_stashWindow_X2_issueNewMarks rfl rfl rfl (by decide +kernel) ⟨Nat.le_of_ble_eq_true rfl, Nat.le_of_ble_eq_true rfl⟩) (w_preV hK hw (by omega) (cF_0 _) rfl _) rfl rfl hl.1 rfl (lv_room (Nat.le_of_ble_eq_true rfl)) dX2_stashWindow_83 ⟨Nat.le_of_ble_eq_true rfl, Nat.le_of_ble_eq_true rfl⟩) (fun V_4 H locs hp hw => ?_)
    have hN : NM (u2 V_1 2 4 (nI 1)) num n wide V_4 := hp
    clear hp
    refine lv_aload_n hx hb dX2_stashWindow_86 rfl (lv_at hl 0 rfl) ?_
    refine w_calli hw (va_runV (As := []) (rest := []) ⟨hx, hb, hml, hown, hts⟩ (c_X2_awaitWrites l D cI cD ad _ V_4 (fun d => if d < kw n wide then [(none, V_4 2)] else []) hN.2.2.2.2.2.2 (fp - 1) (by omega) (by rw [hN.1, u2_r _ _ (by decide)]; exact hA.2.1) fd (by rw [hN.1, u2_r _ _ (by decide), hA.2.2.1, decide_eq_false e1, Bool.or_false])) (cwV 0 hts gX2_stashWindow_X2_awaitWrites rfl rfl rfl (by decide +kernel) ⟨Nat.le_of_ble_eq_true rfl, Nat.le_of_ble_eq_true rfl⟩) (w_preV hK hw (by omega) (cF_0 _) rfl _) rfl rfl hl.1 rfl (lv_room (Nat.le_of_ble_eq_true rfl)) dX2_stashWindow_87 ⟨Nat.le_of_ble_eq_true rfl, Nat.le_of_ble_eq_true rfl⟩) (fun r_6 V_5 H locs hp hw => ?_)
    have hB : AW V_4 (fun d => if d < kw n wide then [(none, V_4 2)] else []) (fp - 1) fd r_6 V_5 := hp
    clear hp
    have e9 := hB.1
    subst e9
    exact w_zret hx hb hr hlocks hw (bI_nar _) (⟨Va, _, hin.1, hin.2.1, hA, Or.inr ⟨e1, _, hN, hB⟩⟩) dX2_stashWindow_90
  · have e1 : fp = 1 := by have := bI_0.mp c_69; simpa using this
    refine lv_iconst (v := nI 0) hx hb dX2_stashWindow_72 (by decide) ?_
    exact w_zret hx hb hr hlocks hw rfl (⟨Va, _, hin.1, hin.2.1, hA, Or.inl ⟨e1, rfl, rfl⟩⟩) dX2_stashWindow_73
