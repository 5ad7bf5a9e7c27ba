set_option maxHeartbeats 4000000 in
set_option maxRecDepth 100000 in
theorem lp_X3_lay_p {p : Program} {l : Launch} {e : Env} {s : State} {m : MethodId} {args : Array Value} {below : List Frame} {meth : Method} {c : Code} {Q : State → Prop} {D : va_G} {cI cD : ClassId} {ad : Nat → Nat} (hx : p.tables.exec = Jvm.exec) (hb : c.code = cX3_lay) (hts : ∀ w ∈ wsX3_lay, w.before args s = true) (hown : s.vm.findClass RX3 = some m.cls) (hml : c.maxLocals = 3) (hK : kK D cI cD s) (V0 : vT) (hk : ∀ (V1 : vT) (H1 : Heap) (locs1 : List Loc) (ls : Array Slot), ((∀ a, a ≠ 9 → V1 a = V0 a) ∧ ∀ t, t < 4 → V1 9 t = 0) → wS D 10 ad (mF cI ad) s.heap V1 H1 locs1 → lv_has ls 3 [(0, .ref (ad 0))] → W p l e ({ frames := 3, cells := 0, slots := 0, locals := 72 }) s m args below meth c H1 locs1 0 0 Q (F0 m 20 ls [])) : ∀ (n9 i : Nat) (V : vT) (H : Heap) (locs : List Loc) (ls : Array Slot), (i + n9 = 4) → ((∀ a, a ≠ 9 → V a = V0 a) ∧ ∀ t, t < i → V 9 t = 0) → wS D 10 ad (mF cI ad) s.heap V H locs → lv_has ls 3 [(1, .int (nI i)), (0, .ref (ad 0))] → W p l e ({ frames := 3, cells := 0, slots := 0, locals := 72 }) s m args below meth c H locs 0 0 Q (F0 m 2 ls []) := by
  have hi3 : ∀ w ∈ wsX30, w ∈ wsX3_lay := by decide +kernel
  intro n9
  induction n9 with
  | zero =>
    intro i V H locs ls hjn hin hw hl
    refine lv_iload_n hx hb dX3_lay_2 rfl (lv_at hl 0 rfl) ?_
    refine lv_iconst (v := nI 4) hx hb dX3_lay_3 (by decide) ?_
    refine n_icmp_ge (tgt := 20) hx hb dX3_lay_4 (by decide) (by omega) (by omega) (fun c_4 => ?_) (fun c_4 => ?_)
    · have e1 : i = 4 := by omega
      subst e1
      exact hk V H locs ls hin hw (lv_sub hl [1] rfl)
    · exfalso
      omega
  | succ n9 ih =>
    intro i V H locs ls hjn hin hw hl
    refine lv_iload_n hx hb dX3_lay_2 rfl (lv_at hl 0 rfl) ?_
    refine lv_iconst (v := nI 4) hx hb dX3_lay_3 (by decide) ?_
    refine n_icmp_ge (tgt := 20) hx hb dX3_lay_4 (by decide) (by omega) (by omega) (fun c_4 => ?_) (fun c_4 => ?_)
    · exfalso
      omega
    · refine lv_aload_n hx hb dX3_lay_7 rfl (lv_at hl 1 rfl) ?_
      refine w_get (ci := 3) (C := RX3) (T := TX3) (M := 24) (v := .ref (ad 9)) hx hb hts hi3 hown hK hw 0 (by omega) _ (mF_0 _) rfl 23 (by decide) (hts (.fieldLink RX3 41 "WideningArrayModel" "parity" "[I") (by decide +kernel)) rfl dX3_lay_8 ?_
      refine lv_iload_n hx hb dX3_lay_11 rfl (lv_at hl 0 rfl) ?_
      refine lv_iconst (v := nI 0) hx hb dX3_lay_12 (by decide) ?_
      refine w_iast hx hb hK hw 9 4 (by omega) (fun _ => rfl) (i := i) (by omega) (by decide) dX3_lay_13 (fun H locs hw => ?_)
      obtain ⟨V_1, hV_1⟩ : ∃ z : vT, z = u2 V 9 i (nI 0) := ⟨_, rfl⟩
      rw [← hV_1] at hw
      refine lv_iinc (v := nI (i + 1)) (lv' := [(1, .int (nI (i + 1))), (0, .ref (ad 0))]) hx hb dX3_lay_14 hl (k := 0) rfl (nI_1 _) (by decide) rfl (fun ls hl => ?_)
      refine lv_goto (tgt := 2) hx hb dX3_lay_17 (by decide) ?_
      exact ih (i + 1) _ _ _ ls (by omega) ⟨fun a ha => by rw [hV_1, u2_r _ _ ha]; exact hin.1 a ha, fun t ht => by by_cases z : t = i; (· rw [z, hV_1, u2_s]; rfl); (· rw [hV_1, u2_n _ _ (Or.inr z)]; exact hin.2 t (by omega))⟩ hw (lv_sub hl [0, 1] rfl)
set_option maxHeartbeats 4000000 in
set_option maxRecDepth 100000 in
theorem lp_X3_lay_i {p : Program} {l : Launch} {e : Env} {s : State} {m : MethodId} {args : Array Value} {below : List Frame} {meth : Method} {c : Code} {Q : State → Prop} {D : va_G} {cI cD : ClassId} {ad : Nat → Nat} (hx : p.tables.exec = Jvm.exec) (hb : c.code = cX3_lay) (hts : ∀ w ∈ wsX3_lay, w.before args s = true) (hown : s.vm.findClass RX3 = some m.cls) (hml : c.maxLocals = 3) (hK : kK D cI cD s) (V0 : vT) (n : Nat) (hn : V0 0 3 = nI n) (dn : Nat) (hdn : V0 0 4 = nI dn) (wide : Bool) (hwd : V0 0 6 = bI wide) (st : Bool) (hst : V0 0 7 = bI st) (hn3 : 3 ≤ n) (hn6 : n ≤ 6) (hd32 : dn < 32) (hwn : wide = true → n < 6) (hsw : st = true → wide = true) (hlf : V0 0 8 = -1 ∨ V0 0 9 = -1) (j : Nat) (hj : j < n) (hk : ∀ (V1 : vT) (H1 : Heap) (locs1 : List Loc) (ls : Array Slot), ((∀ a, a ≠ 8 → a ≠ 9 → V1 a = V0 a) ∧ (∀ t, t < 4 → V1 8 t = winw (mw V0) (ab (V0 0 8) (V0 0 9)) n wide dn st j t ∧ V1 9 t = V0 9 t ^^^ winw (mw V0) (ab (V0 0 8) (V0 0 9)) n wide dn st j t) ∧ ∀ t, 4 ≤ t → V1 9 t = V0 9 t) → wS D 10 ad (mF cI ad) s.heap V1 H1 locs1 → lv_has ls 3 [(1, .int (nI j)), (0, .ref (ad 0))] → W p l e ({ frames := 3, cells := 0, slots := 0, locals := 72 }) s m args below meth c H1 locs1 0 0 Q (F0 m 84 ls [])) : ∀ (n9 i : Nat) (V : vT) (H : Heap) (locs : List Loc) (ls : Array Slot), (i + n9 = 4) → ((∀ a, a ≠ 8 → a ≠ 9 → V a = V0 a) ∧ (∀ t, t < i → V 8 t = winw (mw V0) (ab (V0 0 8) (V0 0 9)) n wide dn st j t ∧ V 9 t = V0 9 t ^^^ winw (mw V0) (ab (V0 0 8) (V0 0 9)) n wide dn st j t) ∧ ∀ t, i ≤ t → V 9 t = V0 9 t) → wS D 10 ad (mF cI ad) s.heap V H locs → lv_has ls 3 [(2, .int (nI i)), (1, .int (nI j)), (0, .ref (ad 0))] → W p l e ({ frames := 3, cells := 0, slots := 0, locals := 72 }) s m args below meth c H locs 0 0 Q (F0 m 32 ls []) := by
  have hi3 : ∀ w ∈ wsX30, w ∈ wsX3_lay := by decide +kernel
  have hbn : dn * n ≤ 192 := Nat.le_trans (Nat.mul_le_mul (show dn ≤ 32 by omega) hn6) (by decide)
  intro n9
  induction n9 with
  | zero =>
    intro i V H locs ls hjn hin hw hl
    refine lv_iload_n hx hb dX3_lay_32 rfl (lv_at hl 0 rfl) ?_
    refine lv_iconst (v := nI 4) hx hb dX3_lay_33 (by decide) ?_
    refine n_icmp_ge (tgt := 84) hx hb dX3_lay_34 (by decide) (by omega) (by omega) (fun c_34 => ?_) (fun c_34 => ?_)
    · have e1 : i = 4 := by omega
      subst e1
      exact hk V H locs ls hin hw (lv_sub hl [1, 2] rfl)
    · exfalso
      omega
  | succ n9 ih =>
    intro i V H locs ls hjn hin hw hl
    refine lv_iload_n hx hb dX3_lay_32 rfl (lv_at hl 0 rfl) ?_
    refine lv_iconst (v := nI 4) hx hb dX3_lay_33 (by decide) ?_
    refine n_icmp_ge (tgt := 84) hx hb dX3_lay_34 (by decide) (by omega) (by omega) (fun c_34 => ?_) (fun c_34 => ?_)
    · exfalso
      omega
    · refine lv_aload_n hx hb dX3_lay_37 rfl (lv_at hl 2 rfl) ?_
      refine w_get (ci := 3) (C := RX3) (T := TX3) (M := 24) (v := .ref (ad 8)) hx hb hts hi3 hown hK hw 0 (by omega) _ (mF_0 _) rfl 22 (by decide) (hts (.fieldLink RX3 38 "WideningArrayModel" "block" "[I") (by decide +kernel)) rfl dX3_lay_38 ?_
      refine lv_iload_n hx hb dX3_lay_41 rfl (lv_at hl 0 rfl) ?_
      refine lv_aload_n hx hb dX3_lay_42 rfl (lv_at hl 2 rfl) ?_
      refine lv_aload_n hx hb dX3_lay_43 rfl (lv_at hl 2 rfl) ?_
      refine w_get (ci := 3) (C := RX3) (T := TX3) (M := 24) (v := .int (nI dn)) hx hb hts hi3 hown hK hw 0 (by omega) _ (mF_0 _) rfl 4 (by decide) (hts (.fieldLink RX3 64 "WideningArrayModel" "done" "I") (by decide +kernel)) (congrArg (fun z => some (Value.int z)) (show V 0 4 = nI dn from by rw [hin.1 0 (by decide) (by decide)]; exact hdn)) dX3_lay_44 ?_
      refine lv_aload_n hx hb dX3_lay_47 rfl (lv_at hl 2 rfl) ?_
      refine w_get (ci := 3) (C := RX3) (T := TX3) (M := 24) (v := .int (nI n)) hx hb hts hi3 hown hK hw 0 (by omega) _ (mF_0 _) rfl 3 (by decide) (hts (.fieldLink RX3 57 "WideningArrayModel" "n" "I") (by decide +kernel)) (congrArg (fun z => some (Value.int z)) (show V 0 3 = nI n from by rw [hin.1 0 (by decide) (by decide)]; exact hn)) dX3_lay_48 ?_
      refine n_mul hx hb dX3_lay_51 ?_
      refine lv_iload_n hx hb dX3_lay_52 rfl (lv_at hl 1 rfl) ?_
      refine n_add hx hb dX3_lay_53 ?_
      refine lv_iload_n hx hb dX3_lay_54 rfl (lv_at hl 0 rfl) ?_
      refine w_calli hw (va_runV (As := [.int (nI ((dn * n) + j)), .int (nI i)]) (rest := [.int (nI i), .ref (ad 8)]) ⟨hx, hb, hml, hown, hts⟩ (c_X3_wordAt l D cI cD ad _ V n (show V 0 3 = nI n from by rw [hin.1 0 (by decide) (by decide)]; exact hn) wide (show V 0 6 = bI wide from by rw [hin.1 0 (by decide) (by decide)]; exact hwd) dn (show V 0 4 = nI dn from by rw [hin.1 0 (by decide) (by decide)]; exact hdn) st (show V 0 7 = bI st from by rw [hin.1 0 (by decide) (by decide)]; exact hst) hn3 hn6 hd32 hwn hsw (by rw [hin.1 0 (by decide) (by decide)]; exact hlf) ((dn * n) + j) i (by omega) (by omega)) (cwV 2 hts gX3_lay_X3_wordAt rfl rfl rfl (by decide +kernel) ⟨Nat.le_of_ble_eq_true rfl, Nat.le_of_ble_eq_true rfl⟩) (w_preV hK hw (by omega) (mF_0 _) rfl _) rfl rfl hl.1 rfl (lv_room (Nat.le_of_ble_eq_true rfl)) dX3_lay_55 ⟨Nat.le_of_ble_eq_true rfl, Nat.le_of_ble_eq_true rfl⟩) (fun r_2 V_1 H locs hp hw => ?_)
      obtain ⟨e9, e8⟩ := hp
      subst e9
      subst e8
      refine n_is (show (if (dn * n) + j < 32 * (n - 1) then wob (mw V) (ab (V 0 8) (V 0 9)) n wide dn st ((dn * n) + j) i else 0) = winw (mw V0) (ab (V0 0 8) (V0 0 9)) n wide dn st j i from wa_m (hin.1 1 (by decide) (by decide)) (hin.1 0 (by decide) (by decide))) ?_
      refine w_iast hx hb hK hw 8 4 (by omega) (fun _ => rfl) (i := i) (by omega) (by decide) dX3_lay_58 (fun H locs hw => ?_)
      obtain ⟨V_3, hV_3⟩ : ∃ z : vT, z = u2 V 8 i (winw (mw V0) (ab (V0 0 8) (V0 0 9)) n wide dn st j i) := ⟨_, rfl⟩
      rw [← hV_3] at hw
      refine lv_aload_n hx hb dX3_lay_59 rfl (lv_at hl 2 rfl) ?_
      refine w_get (ci := 3) (C := RX3) (T := TX3) (M := 24) (v := .ref (ad 9)) hx hb hts hi3 hown hK hw 0 (by omega) _ (mF_0 _) rfl 23 (by decide) (hts (.fieldLink RX3 41 "WideningArrayModel" "parity" "[I") (by decide +kernel)) rfl dX3_lay_60 ?_
      refine lv_iload_n hx hb dX3_lay_63 rfl (lv_at hl 0 rfl) ?_
      refine lv_aload_n hx hb dX3_lay_64 rfl (lv_at hl 2 rfl) ?_
      refine w_get (ci := 3) (C := RX3) (T := TX3) (M := 24) (v := .ref (ad 9)) hx hb hts hi3 hown hK hw 0 (by omega) _ (mF_0 _) rfl 23 (by decide) (hts (.fieldLink RX3 41 "WideningArrayModel" "parity" "[I") (by decide +kernel)) rfl dX3_lay_65 ?_
      refine lv_iload_n hx hb dX3_lay_68 rfl (lv_at hl 0 rfl) ?_
      refine w_iald hx hb hK hw 9 4 (by omega) (fun _ => rfl) (i := i) (by omega) (by decide) dX3_lay_69 ?_
      refine n_is (show V_3 9 i = V0 9 i from by rw [hV_3, u2_r _ _ (by decide)]; exact hin.2.2 i (Nat.le_refl _)) ?_
      refine lv_aload_n hx hb dX3_lay_70 rfl (lv_at hl 2 rfl) ?_
      refine w_get (ci := 3) (C := RX3) (T := TX3) (M := 24) (v := .ref (ad 8)) hx hb hts hi3 hown hK hw 0 (by omega) _ (mF_0 _) rfl 22 (by decide) (hts (.fieldLink RX3 38 "WideningArrayModel" "block" "[I") (by decide +kernel)) rfl dX3_lay_71 ?_
      refine lv_iload_n hx hb dX3_lay_74 rfl (lv_at hl 0 rfl) ?_
      refine w_iald hx hb hK hw 8 4 (by omega) (fun _ => rfl) (i := i) (by omega) (by decide) dX3_lay_75 ?_
      refine n_is (show V_3 8 i = winw (mw V0) (ab (V0 0 8) (V0 0 9)) n wide dn st j i from by rw [hV_3, u2_s]) ?_
      refine lv_ixor hx hb dX3_lay_76 ?_
      refine w_iast hx hb hK hw 9 4 (by omega) (fun _ => rfl) (i := i) (by omega) (by decide) dX3_lay_77 (fun H locs hw => ?_)
      obtain ⟨V_4, hV_4⟩ : ∃ z : vT, z = u2 V_3 9 i ((V0 9 i) ^^^ (winw (mw V0) (ab (V0 0 8) (V0 0 9)) n wide dn st j i)) := ⟨_, rfl⟩
      rw [← hV_4] at hw
      refine lv_iinc (v := nI (i + 1)) (lv' := [(2, .int (nI (i + 1))), (1, .int (nI j)), (0, .ref (ad 0))]) hx hb dX3_lay_78 hl (k := 0) rfl (nI_1 _) (by decide) rfl (fun ls hl => ?_)
      refine lv_goto (tgt := 32) hx hb dX3_lay_81 (by decide) ?_
      have hin' : (∀ a, a ≠ 8 → a ≠ 9 → V_4 a = V0 a) ∧ (∀ t, t < i + 1 → V_4 8 t = winw (mw V0) (ab (V0 0 8) (V0 0 9)) n wide dn st j t ∧ V_4 9 t = V0 9 t ^^^ winw (mw V0) (ab (V0 0 8) (V0 0 9)) n wide dn st j t) ∧ ∀ t, i + 1 ≤ t → V_4 9 t = V0 9 t := by
        refine ⟨fun a q8 q9 => by rw [hV_4, u2_r _ _ q9, hV_3, u2_r _ _ q8]; exact hin.1 a q8 q9, fun t ht => ?_, fun t ht => by rw [hV_4, u2_n _ _ (Or.inr (by omega)), hV_3, u2_r _ _ (by decide)]; exact hin.2.2 t (by omega)⟩
        by_cases z : t = i
        · rw [z]; exact ⟨by rw [hV_4, u2_r _ _ (by decide), hV_3, u2_s], by rw [hV_4, u2_s]⟩
        · have h9 := hin.2.1 t (by omega)
          exact ⟨by rw [hV_4, u2_r _ _ (by decide), hV_3, u2_n _ _ (Or.inr z)]; exact h9.1, by rw [hV_4, u2_n _ _ (Or.inr z), hV_3, u2_r _ _ (by decide)]; exact h9.2⟩
      exact ih (i + 1) _ _ _ ls (by omega) hin' hw (lv_sub hl [0, 1, 2] rfl)
set_option maxHeartbeats 4000000 in
set_option maxRecDepth 100000 in
theorem lp_X3_lay {p : Program} {l : Launch} {e : Env} {s : State} {m : MethodId} {args : Array Value} {below : List Frame} {meth : Method} {c : Code} {Q : State → Prop} {D : va_G} {cI cD : ClassId} {ad : Nat → Nat} (hx : p.tables.exec = Jvm.exec) (hb : c.code = cX3_lay) (hts : ∀ w ∈ wsX3_lay, w.before args s = true) (hown : s.vm.findClass RX3 = some m.cls) (hml : c.maxLocals = 3) (hK : kK D cI cD s) (V0 : vT) (n : Nat) (hn : V0 0 3 = nI n) (dn : Nat) (hdn : V0 0 4 = nI dn) (wide : Bool) (hwd : V0 0 6 = bI wide) (st : Bool) (hst : V0 0 7 = bI st) (hn3 : 3 ≤ n) (hn6 : n ≤ 6) (hd32 : dn < 32) (hwn : wide = true → n < 6) (hsw : st = true → wide = true) (hlf : V0 0 8 = -1 ∨ V0 0 9 = -1) (DD : Nat → Int32) (hD : ∀ j i, j < n → i < 4 → winw (mw V0) (ab (V0 0 8) (V0 0 9)) n wide dn st j i = DD (j * 4 + i)) (hn5 : n < 6) (hk : ∀ (V1 : vT) (H1 : Heap) (locs1 : List Loc) (ls : Array Slot), ((∀ a, a = 1 ∨ a = 2 → V1 a = V0 a) ∧ (∀ t, t ≠ 16 → V1 0 t = V0 0 t) ∧ (∀ t, t < 4 → V1 9 t = xa (fun e => DD (e * 4 + t)) n) ∧ ∃ L : List (Nat × Wr), gQ V1 L ∧ L.length = n ∧ ∀ d, QEq (qOf L d) (lyQ DD (n + 1) dn n d)) → wS D 10 ad (mF cI ad) s.heap V1 H1 locs1 → lv_has ls 3 [(0, .ref (ad 0))] → W p l e ({ frames := 3, cells := 0, slots := 0, locals := 72 }) s m args below meth c H1 locs1 0 0 Q (F0 m 112 ls [])) : ∀ (n9 j : Nat) (V : vT) (H : Heap) (locs : List Loc) (ls : Array Slot), (j + n9 = n) → ((∀ a, a = 1 ∨ a = 2 → V a = V0 a) ∧ (∀ t, t ≠ 16 → V 0 t = V0 0 t) ∧ (∀ t, t < 4 → V 9 t = xa (fun e => DD (e * 4 + t)) j) ∧ ∃ L : List (Nat × Wr), gQ V L ∧ L.length = j ∧ ∀ d, QEq (qOf L d) (lyQ DD (n + 1) dn j d)) → wS D 10 ad (mF cI ad) s.heap V H locs → lv_has ls 3 [(1, .int (nI j)), (0, .ref (ad 0))] → W p l e ({ frames := 3, cells := 0, slots := 0, locals := 72 }) s m args below meth c H locs 0 0 Q (F0 m 22 ls []) := by
  have hi3 : ∀ w ∈ wsX30, w ∈ wsX3_lay := by decide +kernel
  have hbn : dn * n ≤ 192 := Nat.le_trans (Nat.mul_le_mul (show dn ≤ 32 by omega) hn6) (by decide)
  intro n9
  induction n9 with
  | zero =>
    intro j V H locs ls hjn hin hw hl
    refine lv_iload_n hx hb dX3_lay_22 rfl (lv_at hl 0 rfl) ?_
    refine lv_aload_n hx hb dX3_lay_23 rfl (lv_at hl 1 rfl) ?_
    refine w_get (ci := 3) (C := RX3) (T := TX3) (M := 24) (v := .int (nI n)) hx hb hts hi3 hown hK hw 0 (by omega) _ (mF_0 _) rfl 3 (by decide) (hts (.fieldLink RX3 57 "WideningArrayModel" "n" "I") (by decide +kernel)) (congrArg (fun z => some (Value.int z)) (show V 0 3 = nI n from by rw [hin.2.1 3 (by decide)]; exact hn)) dX3_lay_24 ?_
    refine n_icmp_ge (tgt := 112) hx hb dX3_lay_27 (by decide) (by omega) (by omega) (fun c_27 => ?_) (fun c_27 => ?_)
    · have e1 : j = n := by omega
      subst e1
      exact hk V H locs ls hin hw (lv_sub hl [1] rfl)
    · exfalso
      omega
  | succ n9 ih =>
    intro j V H locs ls hjn hin hw hl
    refine lv_iload_n hx hb dX3_lay_22 rfl (lv_at hl 0 rfl) ?_
    refine lv_aload_n hx hb dX3_lay_23 rfl (lv_at hl 1 rfl) ?_
    refine w_get (ci := 3) (C := RX3) (T := TX3) (M := 24) (v := .int (nI n)) hx hb hts hi3 hown hK hw 0 (by omega) _ (mF_0 _) rfl 3 (by decide) (hts (.fieldLink RX3 57 "WideningArrayModel" "n" "I") (by decide +kernel)) (congrArg (fun z => some (Value.int z)) (show V 0 3 = nI n from by rw [hin.2.1 3 (by decide)]; exact hn)) dX3_lay_24 ?_
    refine n_icmp_ge (tgt := 112) hx hb dX3_lay_27 (by decide) (by omega) (by omega) (fun c_27 => ?_) (fun c_27 => ?_)
    · exfalso
      omega
    · refine lv_iconst (v := nI 0) hx hb dX3_lay_30 (by decide) ?_
      refine lv_istore_n (lv' := [(2, .int (nI 0)), (1, .int (nI j)), (0, .ref (ad 0))]) hx hb dX3_lay_31 rfl hl (by decide) rfl (fun ls hl => ?_)
      obtain ⟨hc9, hs9, hx9, L, hQ, hLl, hQE⟩ := hin
      refine lp_X3_lay_i hx hb hts hown hml hK V n (by rw [hs9 3 (by decide)]; exact hn) dn (by rw [hs9 4 (by decide)]; exact hdn) wide (by rw [hs9 6 (by decide)]; exact hwd) st (by rw [hs9 7 (by decide)]; exact hst) hn3 hn6 hd32 hwn hsw (by rw [hs9 8 (by decide), hs9 9 (by decide)]; exact hlf) j (by omega) (fun V_I H locs ls hI hw hl => ?_) 4 0 V _ _ ls (by omega) ⟨fun _ _ _ => rfl, fun t ht => absurd ht (by omega), fun _ _ => rfl⟩ hw (lv_sub hl [0, 1, 2] rfl)
      have hQ := gQ_congr (V1 := V_I) (by rw [hI.1 0 (by decide) (by decide)]) (hI.1 3 (by decide) (by decide)) (hI.1 4 (by decide) (by decide)) (hI.1 5 (by decide) (by decide)) hQ
      have hmw : mw V = mw V0 := by funext d j; show V 1 _ = V0 1 _; rw [hc9 1 (by decide)]
      have hb8 : ∀ i, i < 4 → V_I 8 i = DD (j * 4 + i) := fun i hi => by rw [(hI.2.1 i hi).1, hmw, hs9 8 (by decide), hs9 9 (by decide)]; exact hD j i (by omega) hi
      have hb9 : ∀ t, t < 4 → V_I 9 t = xa (fun e => DD (e * 4 + t)) (j + 1) := fun t ht => by rw [(hI.2.1 t ht).2, hx9 t ht, hmw, hs9 8 (by decide), hs9 9 (by decide), hD j t (by omega) ht]; rfl
      have hdd := dd_lt (k := n + 1) (row := dn) (j := j) (by omega)
      refine lv_aload_n hx hb dX3_lay_84 rfl (lv_at hl 1 rfl) ?_
      refine lv_aload_n hx hb dX3_lay_85 rfl (lv_at hl 1 rfl) ?_
      refine w_get (ci := 3) (C := RX3) (T := TX3) (M := 24) (v := .int (nI n)) hx hb hts hi3 hown hK hw 0 (by omega) _ (mF_0 _) rfl 3 (by decide) (hts (.fieldLink RX3 57 "WideningArrayModel" "n" "I") (by decide +kernel)) (congrArg (fun z => some (Value.int z)) (show V_I 0 3 = nI n from by rw [hI.1 0 (by decide) (by decide), hs9 3 (by decide)]; exact hn)) dX3_lay_86 ?_
      refine lv_iconst (v := nI 1) hx hb dX3_lay_89 (by decide) ?_
      refine n_add hx hb dX3_lay_90 ?_
      refine lv_aload_n hx hb dX3_lay_91 rfl (lv_at hl 1 rfl) ?_
      refine w_get (ci := 3) (C := RX3) (T := TX3) (M := 24) (v := .int (nI dn)) hx hb hts hi3 hown hK hw 0 (by omega) _ (mF_0 _) rfl 4 (by decide) (hts (.fieldLink RX3 64 "WideningArrayModel" "done" "I") (by decide +kernel)) (congrArg (fun z => some (Value.int z)) (show V_I 0 4 = nI dn from by rw [hI.1 0 (by decide) (by decide), hs9 4 (by decide)]; exact hdn)) dX3_lay_92 ?_
      refine lv_iload_n hx hb dX3_lay_95 rfl (lv_at hl 0 rfl) ?_
      refine w_calli hw (va_runS (As := [.int (nI (n + 1)), .int (nI dn), .int (nI j)]) (rest := [.ref (ad 0)]) ⟨hx, hb, hml, hown, hts⟩ (c_X3_dataDisk l D cI cD ad _ V_I (n + 1) dn j (by omega) (by omega) (by omega) (by omega)) (va_cwS 3 hts gX3_lay_X3_dataDisk rfl rfl rfl (by decide +kernel) ⟨Nat.le_of_ble_eq_true rfl, Nat.le_of_ble_eq_true rfl⟩) (w_preS hK hw _) rfl rfl hl.1 rfl (lv_room (Nat.le_of_ble_eq_true rfl)) dX3_lay_96 ⟨Nat.le_of_ble_eq_true rfl, Nat.le_of_ble_eq_true rfl⟩) (fun r_2 V_1 H locs hp hw => ?_)
      obtain ⟨e9, e8⟩ := hp
      subst e9
      subst e8
      refine lv_aload_n hx hb dX3_lay_99 rfl (lv_at hl 1 rfl) ?_
      refine w_get (ci := 3) (C := RX3) (T := TX3) (M := 24) (v := .int (nI dn)) hx hb hts hi3 hown hK hw 0 (by omega) _ (mF_0 _) rfl 4 (by decide) (hts (.fieldLink RX3 64 "WideningArrayModel" "done" "I") (by decide +kernel)) (congrArg (fun z => some (Value.int z)) (show V_I 0 4 = nI dn from by rw [hI.1 0 (by decide) (by decide), hs9 4 (by decide)]; exact hdn)) dX3_lay_100 ?_
      refine w_callv hw (va_runV (As := [.int (nI (dd (n + 1) dn j)), .int (nI dn)]) (rest := []) ⟨hx, hb, hml, hown, hts⟩ (c_X3_issueBlock l D cI cD ad _ V_I _ hQ (by omega) (dd (n + 1) dn j) dn (by omega) (by omega)) (cwV 2 hts gX3_lay_X3_issueBlock rfl rfl rfl (by decide +kernel) ⟨Nat.le_of_ble_eq_true rfl, Nat.le_of_ble_eq_true rfl⟩) (w_preV hK hw (by omega) (mF_0 _) rfl _) rfl rfl hl.1 rfl (lv_room (Nat.le_of_ble_eq_true rfl)) dX3_lay_103 ⟨Nat.le_of_ble_eq_true rfl, Nat.le_of_ble_eq_true rfl⟩) (fun V_3 H locs hp hw => ?_)
      obtain ⟨hQ, hJ0, hK09⟩ := hp
      refine lv_iinc (v := nI (j + 1)) (lv' := [(1, .int (nI (j + 1))), (0, .ref (ad 0))]) hx hb dX3_lay_106 hl (k := 0) rfl (nI_1 _) (by decide) rfl (fun ls hl => ?_)
      refine lv_goto (tgt := 22) hx hb dX3_lay_109 (by decide) ?_
      have hin' : (∀ a, a = 1 ∨ a = 2 → V_3 a = V0 a) ∧ (∀ t, t ≠ 16 → V_3 0 t = V0 0 t) ∧ (∀ t, t < 4 → V_3 9 t = xa (fun e => DD (e * 4 + t)) (j + 1)) ∧ ∃ L : List (Nat × Wr), gQ V_3 L ∧ L.length = j + 1 ∧ ∀ d, QEq (qOf L d) (lyQ DD (n + 1) dn (j + 1) d) := by
        refine ⟨fun a ha => ?_, fun t ht => ?_, fun t ht => ?_, _, hQ, by simp; omega, fun d => lyQ_snoc hQE hb8 d⟩
        · rw [hJ0 a (by omega) (by omega) (by omega) (by omega), hI.1 a (by omega) (by omega)]
          exact hc9 a ha
        · rw [hK09 t ht, hI.1 0 (by decide) (by decide)]
          exact hs9 t ht
        · rw [hJ0 9 (by decide) (by decide) (by decide) (by decide)]
          exact hb9 t ht
      exact ih (j + 1) _ _ _ ls (by omega) hin' hw (lv_sub hl [0, 1] rfl)
set_option maxHeartbeats 4000000 in
set_option maxRecDepth 100000 in
theorem lp_X3_lay_c {p : Program} {l : Launch} {e : Env} {s : State} {m : MethodId} {args : Array Value} {below : List Frame} {meth : Method} {c : Code} {Q : State → Prop} {D : va_G} {cI cD : ClassId} {ad : Nat → Nat} (hx : p.tables.exec = Jvm.exec) (hb : c.code = cX3_lay) (hts : ∀ w ∈ wsX3_lay, w.before args s = true) (hown : s.vm.findClass RX3 = some m.cls) (hml : c.maxLocals = 3) (hK : kK D cI cD s) (V0 : vT) (hk : ∀ (V1 : vT) (H1 : Heap) (locs1 : List Loc) (ls : Array Slot), ((∀ a, a ≠ 8 → V1 a = V0 a) ∧ ∀ t, t < 4 → V1 8 t = V0 9 t) → wS D 10 ad (mF cI ad) s.heap V1 H1 locs1 → lv_has ls 3 [(0, .ref (ad 0))] → W p l e ({ frames := 3, cells := 0, slots := 0, locals := 72 }) s m args below meth c H1 locs1 0 0 Q (F0 m 137 ls [])) : ∀ (n9 i : Nat) (V : vT) (H : Heap) (locs : List Loc) (ls : Array Slot), (i + n9 = 4) → ((∀ a, a ≠ 8 → V a = V0 a) ∧ ∀ t, t < i → V 8 t = V0 9 t) → wS D 10 ad (mF cI ad) s.heap V H locs → lv_has ls 3 [(1, .int (nI i)), (0, .ref (ad 0))] → W p l e ({ frames := 3, cells := 0, slots := 0, locals := 72 }) s m args below meth c H locs 0 0 Q (F0 m 114 ls []) := by
  have hi3 : ∀ w ∈ wsX30, w ∈ wsX3_lay := by decide +kernel
  intro n9
  induction n9 with
  | zero =>
    intro i V H locs ls hjn hin hw hl
    refine lv_iload_n hx hb dX3_lay_114 rfl (lv_at hl 0 rfl) ?_
    refine lv_iconst (v := nI 4) hx hb dX3_lay_115 (by decide) ?_
    refine n_icmp_ge (tgt := 137) hx hb dX3_lay_116 (by decide) (by omega) (by omega) (fun c_116 => ?_) (fun c_116 => ?_)
    · have e1 : i = 4 := by omega
      subst e1
      exact hk V H locs ls hin hw (lv_sub hl [1] rfl)
    · exfalso
      omega
  | succ n9 ih =>
    intro i V H locs ls hjn hin hw hl
    refine lv_iload_n hx hb dX3_lay_114 rfl (lv_at hl 0 rfl) ?_
    refine lv_iconst (v := nI 4) hx hb dX3_lay_115 (by decide) ?_
    refine n_icmp_ge (tgt := 137) hx hb dX3_lay_116 (by decide) (by omega) (by omega) (fun c_116 => ?_) (fun c_116 => ?_)
    · exfalso
      omega
    · refine lv_aload_n hx hb dX3_lay_119 rfl (lv_at hl 1 rfl) ?_
      refine w_get (ci := 3) (C := RX3) (T := TX3) (M := 24) (v := .ref (ad 8)) hx hb hts hi3 hown hK hw 0 (by omega) _ (mF_0 _) rfl 22 (by decide) (hts (.fieldLink RX3 38 "WideningArrayModel" "block" "[I") (by decide +kernel)) rfl dX3_lay_120 ?_
      refine lv_iload_n hx hb dX3_lay_123 rfl (lv_at hl 0 rfl) ?_
      refine lv_aload_n hx hb dX3_lay_124 rfl (lv_at hl 1 rfl) ?_
      refine w_get (ci := 3) (C := RX3) (T := TX3) (M := 24) (v := .ref (ad 9)) hx hb hts hi3 hown hK hw 0 (by omega) _ (mF_0 _) rfl 23 (by decide) (hts (.fieldLink RX3 41 "WideningArrayModel" "parity" "[I") (by decide +kernel)) rfl dX3_lay_125 ?_
      refine lv_iload_n hx hb dX3_lay_128 rfl (lv_at hl 0 rfl) ?_
      refine w_iald hx hb hK hw 9 4 (by omega) (fun _ => rfl) (i := i) (by omega) (by decide) dX3_lay_129 ?_
      refine w_iast hx hb hK hw 8 4 (by omega) (fun _ => rfl) (i := i) (by omega) (by decide) dX3_lay_130 (fun H locs hw => ?_)
      obtain ⟨V_1, hV_1⟩ : ∃ z : vT, z = u2 V 8 i (V 9 i) := ⟨_, rfl⟩
      rw [← hV_1] at hw
      refine lv_iinc (v := nI (i + 1)) (lv' := [(1, .int (nI (i + 1))), (0, .ref (ad 0))]) hx hb dX3_lay_131 hl (k := 0) rfl (nI_1 _) (by decide) rfl (fun ls hl => ?_)
      refine lv_goto (tgt := 114) hx hb dX3_lay_134 (by decide) ?_
      exact ih (i + 1) _ _ _ ls (by omega) ⟨fun a ha => by rw [hV_1, u2_r _ _ ha]; exact hin.1 a ha, fun t ht => by by_cases z : t = i; (· rw [z, hV_1, u2_s, hin.1 9 (by decide)]); (· rw [hV_1, u2_n _ _ (Or.inr z)]; exact hin.2 t (by omega))⟩ hw (lv_sub hl [0, 1] rfl)
set_option maxHeartbeats 4000000 in
set_option maxRecDepth 100000 in
theorem c_X3_lay (l : Launch) (D : va_G) (cI cD : ClassId) (ad : Nat → Nat) (sz : Nat) (V : vT) (ct : Nat → Nat → Int32) (md fd : Bool) (n dn num : Nat) (lost fresh : Int32) (fp : Nat) (sh : Int32) (hR : mR V (ct, (md, fd), (n, true, dn, true, num), (lost, fresh), (fp, sh))) (e1 : md = true) (e2 : fd = false) (hn3 : 3 ≤ n) (hn5 : n < 6) (hd32 : dn < 32) (hlf9 : lost = -1 ∨ fresh = -1) (hfpl : fp < 2 ^ 31) (hnum2 : num < 20000) (hQ : gQ V []) (h00 : V 0 0 = nI 0) (pp : Nat) (hpp : pp ≤ 2) (hp13 : V 0 13 = nI pp) (hfpp : fp = 0 ∨ pp < fp) : Met l yX3_lay wsX3_lay ({ frames := 3, cells := 0, slots := 0, locals := 72 }) (gP D cI cD 10 ad (mF cI ad) sz V [.ref (ad 0)]) (va_Qi (fun (r : Int32) (V1 : vT) => V1 0 0 = nI 0 ∧ bI (decide ((layR (ct, (md, fd), (n, true, dn, true, num), (lost, fresh), (fp, sh)) ct (stD (ct, (md, fd), (n, true, dn, true, num), (lost, fresh), (fp, sh))) (min fp (pp + 2) - pp) num).1 = 0)) = r ∧ mR V1 (layR (ct, (md, fd), (n, true, dn, true, num), (lost, fresh), (fp, sh)) ct (stD (ct, (md, fd), (n, true, dn, true, num), (lost, fresh), (fp, sh))) (min fp (pp + 2) - pp) num).2.2) (gB D 10 ad (mF cI ad)) (gA 10 ad sz)) 0 0 (gA 10 ad sz) := by
  refine w_met (cc := cX3_lay) (maxL := 3) (ret := (some .boolean)) (by decide) rfl (Nat.le_of_ble_eq_true rfl) ?_
  intro p e s m below meth c hx hb hr hts hown hlocks hml hsz hK hw ls hl
  subst hsz
  have hown : s.vm.findClass RX3 = some m.cls := hown
  have hi3 : ∀ w ∈ wsX30, w ∈ wsX3_lay := by decide +kernel
  have hl : lv_has ls 3 [(0, .ref (ad 0))] := hl
  obtain ⟨⟨hmd, hlo, hfr, hsh, hz6, hmc⟩, hfd, har, hfa⟩ := hR.pt
  obtain ⟨hn, hdn, hnum, hwd, hst⟩ := hR.sv e1 e2
  have hlf : V 0 8 = -1 ∨ V 0 9 = -1 := by rw [hlo, hfr]; exact hlf9
  have hn6 : n ≤ 6 := by omega
  refine lv_iconst (v := nI 0) hx hb dX3_lay_0 (by decide) ?_
  refine lv_istore_n (lv' := [(1, .int (nI 0)), (0, .ref (ad 0))]) hx hb dX3_lay_1 rfl hl (by decide) rfl (fun ls hl => ?_)
  refine lp_X3_lay_p hx hb hts hown hml hK V (fun V_P H locs ls hP hw hl => ?_) 4 0 V _ _ ls (by omega) ⟨fun _ _ => rfl, fun t ht => absurd ht (by omega)⟩ hw (lv_sub hl [0, 1] rfl)
  have hsl9 : ∀ j, j ≤ 12 → V_P 0 j = V 0 j := fun j hj => by rw [hP.1 0 (by decide)]
  have h00 : V_P 0 0 = nI 0 := (hsl9 0 (by decide)).trans h00
  have hR : mR V_P (ct, (md, fd), (n, true, dn, true, num), (lost, fresh), (fp, sh)) := hR.frame (hP.1 1 (by decide)) (hP.1 2 (by decide)) hsl9
  obtain ⟨⟨hmd, hlo, hfr, hsh, hz6, hmc⟩, hfd, har, hfa⟩ := hR.pt
  obtain ⟨hn, hdn, hnum, hwd, hst⟩ := hR.sv e1 e2
  have hlf : V_P 0 8 = -1 ∨ V_P 0 9 = -1 := by rw [hlo, hfr]; exact hlf9
  have hp13 := (congrFun (hP.1 0 (by decide)) 13).trans hp13
  have hQ := gQ_congr (V1 := V_P) (by rw [hP.1 0 (by decide)]) (hP.1 3 (by decide)) (hP.1 4 (by decide)) (hP.1 5 (by decide)) hQ
  refine lv_iconst (v := nI 0) hx hb dX3_lay_20 (by decide) ?_
  refine lv_istore_n (lv' := [(1, .int (nI 0)), (0, .ref (ad 0))]) hx hb dX3_lay_21 rfl hl (by decide) rfl (fun ls hl => ?_)
  refine lp_X3_lay hx hb hts hown hml hK V_P n hn dn hdn true hwd true hst hn3 hn6 hd32 (fun _ => hn5) (fun h => h) hlf (stD (ct, (md, fd), (n, true, dn, true, num), (lost, fresh), (fp, sh))) (fun j i hj hi => by rw [hlo, hfr, winw_congr (wc_M hR.1) hn3 hn6 (fun _ => hn5) hi]; exact (d3_at hi).symm) hn5 (fun V_L H locs ls hL hw hl => ?_) n 0 V_P _ _ ls (by omega) ⟨fun _ _ => rfl, fun _ _ => rfl, fun t ht => hP.2 t ht, [], hQ, rfl, fun d => trivial⟩ hw (lv_sub hl [0, 1] rfl)
  obtain ⟨hc9, hs9, hx9, L, hQ, hLl, hQE⟩ := hL
  have hsl9 : ∀ j, j ≤ 12 → V_L 0 j = V_P 0 j := fun j hj => hs9 j (by omega)
  have h00 : V_L 0 0 = nI 0 := (hsl9 0 (by decide)).trans h00
  have hR : mR V_L (ct, (md, fd), (n, true, dn, true, num), (lost, fresh), (fp, sh)) := hR.frame (hc9 1 (by decide)) (hc9 2 (by decide)) hsl9
  obtain ⟨⟨hmd, hlo, hfr, hsh, hz6, hmc⟩, hfd, har, hfa⟩ := hR.pt
  obtain ⟨hn, hdn, hnum, hwd, hst⟩ := hR.sv e1 e2
  have hlf : V_L 0 8 = -1 ∨ V_L 0 9 = -1 := by rw [hlo, hfr]; exact hlf9
  have hp13 := (hs9 13 (by decide)).trans hp13
  refine lv_iconst (v := nI 0) hx hb dX3_lay_112 (by decide) ?_
  refine lv_istore_n (lv' := [(1, .int (nI 0)), (0, .ref (ad 0))]) hx hb dX3_lay_113 rfl hl (by decide) rfl (fun ls hl => ?_)
  refine lp_X3_lay_c hx hb hts hown hml hK V_L (fun V_C H locs ls hC hw hl => ?_) 4 0 V_L _ _ ls (by omega) ⟨fun _ _ => rfl, fun t ht => absurd ht (by omega)⟩ hw (lv_sub hl [0, 1] rfl)
  have hsl9 : ∀ j, j ≤ 12 → V_C 0 j = V_L 0 j := fun j hj => by rw [hC.1 0 (by decide)]
  have h00 : V_C 0 0 = nI 0 := (hsl9 0 (by decide)).trans h00
  have hR : mR V_C (ct, (md, fd), (n, true, dn, true, num), (lost, fresh), (fp, sh)) := hR.frame (hC.1 1 (by decide)) (hC.1 2 (by decide)) hsl9
  obtain ⟨⟨hmd, hlo, hfr, hsh, hz6, hmc⟩, hfd, har, hfa⟩ := hR.pt
  obtain ⟨hn, hdn, hnum, hwd, hst⟩ := hR.sv e1 e2
  have hlf : V_C 0 8 = -1 ∨ V_C 0 9 = -1 := by rw [hlo, hfr]; exact hlf9
  have hp13 := (congrFun (hC.1 0 (by decide)) 13).trans hp13
  have hQ := gQ_congr (V1 := V_C) (by rw [hC.1 0 (by decide)]) (hC.1 3 (by decide)) (hC.1 4 (by decide)) (hC.1 5 (by decide)) hQ
  have hpd := pd_lt (k := n + 1) (row := dn) (by omega)
  refine lv_aload_n hx hb dX3_lay_137 rfl (lv_at hl 0 rfl) ?_
  refine lv_aload_n hx hb dX3_lay_138 rfl (lv_at hl 0 rfl) ?_
  refine w_get (ci := 3) (C := RX3) (T := TX3) (M := 24) (v := .int (nI n)) hx hb hts hi3 hown hK hw 0 (by omega) _ (mF_0 _) rfl 3 (by decide) (hts (.fieldLink RX3 57 "WideningArrayModel" "n" "I") (by decide +kernel)) (congrArg (fun z => some (Value.int z)) (show V_C 0 3 = nI n from hn)) dX3_lay_139 ?_
  refine lv_iconst (v := nI 1) hx hb dX3_lay_142 (by decide) ?_
  refine n_add hx hb dX3_lay_143 ?_
  refine lv_aload_n hx hb dX3_lay_144 rfl (lv_at hl 0 rfl) ?_
  refine w_get (ci := 3) (C := RX3) (T := TX3) (M := 24) (v := .int (nI dn)) hx hb hts hi3 hown hK hw 0 (by omega) _ (mF_0 _) rfl 4 (by decide) (hts (.fieldLink RX3 64 "WideningArrayModel" "done" "I") (by decide +kernel)) (congrArg (fun z => some (Value.int z)) (show V_C 0 4 = nI dn from hdn)) dX3_lay_145 ?_
  refine w_calli hw (va_runS (As := [.int (nI (n + 1)), .int (nI dn)]) (rest := [.ref (ad 0)]) ⟨hx, hb, hml, hown, hts⟩ (c_X3_parityDisk l D cI cD ad _ V_C (n + 1) dn (by omega) (by omega) (by omega)) (va_cwS 2 hts gX3_lay_X3_parityDisk rfl rfl rfl (by decide +kernel) ⟨Nat.le_of_ble_eq_true rfl, Nat.le_of_ble_eq_true rfl⟩) (w_preS hK hw _) rfl rfl hl.1 rfl (lv_room (Nat.le_of_ble_eq_true rfl)) dX3_lay_148 ⟨Nat.le_of_ble_eq_true rfl, Nat.le_of_ble_eq_true rfl⟩) (fun r_2 V_1 H locs hp hw => ?_)
  obtain ⟨e9, e8⟩ := hp
  subst e9
  subst e8
  refine lv_aload_n hx hb dX3_lay_151 rfl (lv_at hl 0 rfl) ?_
  refine w_get (ci := 3) (C := RX3) (T := TX3) (M := 24) (v := .int (nI dn)) hx hb hts hi3 hown hK hw 0 (by omega) _ (mF_0 _) rfl 4 (by decide) (hts (.fieldLink RX3 64 "WideningArrayModel" "done" "I") (by decide +kernel)) (congrArg (fun z => some (Value.int z)) (show V_C 0 4 = nI dn from hdn)) dX3_lay_152 ?_
  refine w_callv hw (va_runV (As := [.int (nI (pd (n + 1) dn)), .int (nI dn)]) (rest := []) ⟨hx, hb, hml, hown, hts⟩ (c_X3_issueBlock l D cI cD ad _ V_C _ hQ (by omega) (pd (n + 1) dn) dn (by omega) (by omega)) (cwV 2 hts gX3_lay_X3_issueBlock rfl rfl rfl (by decide +kernel) ⟨Nat.le_of_ble_eq_true rfl, Nat.le_of_ble_eq_true rfl⟩) (w_preV hK hw (by omega) (mF_0 _) rfl _) rfl rfl hl.1 rfl (lv_room (Nat.le_of_ble_eq_true rfl)) dX3_lay_155 ⟨Nat.le_of_ble_eq_true rfl, Nat.le_of_ble_eq_true rfl⟩) (fun V_3 H locs hp hw => ?_)
  have hQE := lyQQ_snoc hQE (b1 := V_C 8) (fun i hi => by rw [hC.2 i hi]; exact hx9 i hi)
  obtain ⟨hQ, hI1, hI2⟩ := hp
  have hsl9 : ∀ j, j ≤ 12 → V_3 0 j = V_C 0 j := fun j hj => hI2 j (by omega)
  have h00 : V_3 0 0 = nI 0 := (hsl9 0 (by decide)).trans h00
  have hR : mR V_3 (ct, (md, fd), (n, true, dn, true, num), (lost, fresh), (fp, sh)) := hR.frame (hI1 1 (by decide) (by decide) (by decide) (by decide)) (hI1 2 (by decide) (by decide) (by decide) (by decide)) hsl9
  obtain ⟨⟨hmd, hlo, hfr, hsh, hz6, hmc⟩, hfd, har, hfa⟩ := hR.pt
  obtain ⟨hn, hdn, hnum, hwd, hst⟩ := hR.sv e1 e2
  have hlf : V_3 0 8 = -1 ∨ V_3 0 9 = -1 := by rw [hlo, hfr]; exact hlf9
  have hp13 := (hI2 13 (by decide)).trans hp13
  refine lv_aload_n hx hb dX3_lay_158 rfl (lv_at hl 0 rfl) ?_
  refine lv_iconst (v := nI 0) hx hb dX3_lay_159 (by decide) ?_
  refine n_is (show nI 0 = bI false from rfl) ?_
  refine w_calli hw (va_runV (As := [.int (bI false)]) (rest := []) ⟨hx, hb, hml, hown, hts⟩ (c_X3_holds l D cI cD ad _ V_3 _ hQ (decide (¬ fp = 0)) har _ rfl sh hsh pp hp13 (by rw [hfd, e2]) hlf false) (cwV 1 hts gX3_lay_X3_holds rfl rfl rfl (by decide +kernel) ⟨Nat.le_of_ble_eq_true rfl, Nat.le_of_ble_eq_true rfl⟩) (w_preV hK hw (by omega) (mF_0 _) rfl _) rfl rfl hl.1 rfl (lv_room (Nat.le_of_ble_eq_true rfl)) dX3_lay_160 ⟨Nat.le_of_ble_eq_true rfl, Nat.le_of_ble_eq_true rfl⟩) (fun r_5 V_4 H locs hp hw => ?_)
  rw [hfl_f hfa hfpl (by omega)] at hp
  have hH := hp
  clear hp
  have e8 := hH.1
  subst e8
  refine lv_if_ne (tgt := 168) hx hb dX3_lay_163 (by decide) (fun c_163 => ?_) (fun c_163 => ?_)
  · have z1 : ¬ fp = pp + 1 := by have := bI_n0.mp c_163; simpa using this
    obtain ⟨hR, hQ⟩ := mR_go hH hR e1 e2 (decide_eq_false z1) hQE
    have h00 : V_4 0 0 = nI 0 := (hH.2.2.2.2.2.1 0 (by decide) (by decide) (by decide) (by decide)).trans h00
    have hp13 := hH.2.2.2.1
    obtain ⟨⟨hmd, hlo, hfr, hsh, hz6, hmc⟩, hfd, har, hfa⟩ := hR.pt
    obtain ⟨hn, hdn, hnum, hwd, hst⟩ := hR.sv e1 e2
    have hlf : V_4 0 8 = -1 ∨ V_4 0 9 = -1 := by rw [hlo, hfr]; exact hlf9
    have zf : ¬ (min fp (pp + 2) - pp = 1) := by omega
    have d1 : decide (fp = pp + 1) = decide (min fp (pp + 2) - pp = 1) := by rw [decide_eq_false z1, decide_eq_false zf]
    have d2 : decide (¬ fp = 0) = decide (min fp (pp + 2) - pp - 1 = 1) := decide_eq_decide.mpr (by omega)
    refine lv_aload_n hx hb dX3_lay_168 rfl (lv_at hl 0 rfl) ?_
    refine w_get (ci := 3) (C := RX3) (T := TX3) (M := 24) (v := .int (nI dn)) hx hb hts hi3 hown hK hw 0 (by omega) _ (mF_0 _) rfl 4 (by decide) (hts (.fieldLink RX3 64 "WideningArrayModel" "done" "I") (by decide +kernel)) (congrArg (fun z => some (Value.int z)) (show V_4 0 4 = nI dn from hdn)) dX3_lay_169 ?_
    refine lv_iconst (v := nI 1) hx hb dX3_lay_172 (by decide) ?_
    refine n_add hx hb dX3_lay_173 ?_
    refine lv_bipush (v := nI 32) hx hb dX3_lay_174 (by decide) ?_
    refine n_icmp_ne (tgt := 183) hx hb dX3_lay_176 (by decide) (by omega) (by omega) (fun c_176 => ?_) (fun c_176 => ?_)
    · have x1 : nx1 n dn = n := if_neg c_176
      have xw : nxw true dn = true := if_neg c_176
      have xd : nxd dn = dn + 1 := if_neg c_176
      refine lv_iconst (v := nI 0) hx hb dX3_lay_183 (by decide) ?_
      refine lv_istore_n (lv' := [(1, .int (nI 0)), (0, .ref (ad 0))]) hx hb dX3_lay_184 rfl hl (by decide) rfl (fun ls hl => ?_)
      refine lv_aload_n hx hb dX3_lay_185 rfl (lv_at hl 1 rfl) ?_
      refine lv_iload_n hx hb dX3_lay_186 rfl (lv_at hl 0 rfl) ?_
      refine lv_if_eq (tgt := 199) hx hb dX3_lay_187 (by decide) (fun c_187 => ?_) (fun c_187 => ?_)
      · refine lv_aload_n hx hb dX3_lay_199 rfl (lv_at hl 1 rfl) ?_
        refine w_get (ci := 3) (C := RX3) (T := TX3) (M := 24) (v := .int (nI n)) hx hb hts hi3 hown hK hw 0 (by omega) _ (mF_0 _) rfl 3 (by decide) (hts (.fieldLink RX3 57 "WideningArrayModel" "n" "I") (by decide +kernel)) (congrArg (fun z => some (Value.int z)) (show V_4 0 3 = nI n from hn)) dX3_lay_200 ?_
        refine lv_iload_n hx hb dX3_lay_203 rfl (lv_at hl 0 rfl) ?_
        refine lv_if_ne (tgt := 211) hx hb dX3_lay_204 (by decide) (fun c_204 => ?_) (fun c_204 => ?_)
        · first | exact absurd c_204 (by decide) | exact absurd (by decide) c_204
        · refine lv_iconst (v := nI 1) hx hb dX3_lay_207 (by decide) ?_
          refine lv_goto (tgt := 212) hx hb dX3_lay_208 (by decide) ?_
          refine n_is (show nI 1 = bI true from rfl) ?_
          refine lv_iload_n hx hb dX3_lay_212 rfl (lv_at hl 0 rfl) ?_
          refine lv_if_eq (tgt := 220) hx hb dX3_lay_213 (by decide) (fun c_213 => ?_) (fun c_213 => ?_)
          · refine lv_aload_n hx hb dX3_lay_220 rfl (lv_at hl 1 rfl) ?_
            refine w_get (ci := 3) (C := RX3) (T := TX3) (M := 24) (v := .int (nI dn)) hx hb hts hi3 hown hK hw 0 (by omega) _ (mF_0 _) rfl 4 (by decide) (hts (.fieldLink RX3 64 "WideningArrayModel" "done" "I") (by decide +kernel)) (congrArg (fun z => some (Value.int z)) (show V_4 0 4 = nI dn from hdn)) dX3_lay_221 ?_
            refine lv_iconst (v := nI 1) hx hb dX3_lay_224 (by decide) ?_
            refine n_add hx hb dX3_lay_225 ?_
            refine lv_iconst (v := nI 0) hx hb dX3_lay_226 (by decide) ?_
            refine n_is (show nI 0 = bI false from rfl) ?_
            refine lv_aload_n hx hb dX3_lay_227 rfl (lv_at hl 1 rfl) ?_
            refine w_get (ci := 3) (C := RX3) (T := TX3) (M := 24) (v := .int (nI n)) hx hb hts hi3 hown hK hw 0 (by omega) _ (mF_0 _) rfl 3 (by decide) (hts (.fieldLink RX3 57 "WideningArrayModel" "n" "I") (by decide +kernel)) (congrArg (fun z => some (Value.int z)) (show V_4 0 3 = nI n from hn)) dX3_lay_228 ?_
            refine lv_iconst (v := nI 1) hx hb dX3_lay_231 (by decide) ?_
            refine n_add hx hb dX3_lay_232 ?_
            refine w_callv hw (va_runV (As := [.int (nI n), .int (bI true), .int (nI (dn + 1)), .int (bI false), .int (nI (n + 1))]) (rest := []) ⟨hx, hb, hml, hown, hts⟩ (c_X3_issueMarks l D cI cD ad _ V_4 _ hQ num (show V_4 0 5 = nI num from hnum) (by omega) n true (dn + 1) false (n + 1) (by omega) (by simp; omega)) (cwV 5 hts gX3_lay_X3_issueMarks rfl rfl rfl (by decide +kernel) ⟨Nat.le_of_ble_eq_true rfl, Nat.le_of_ble_eq_true rfl⟩) (w_preV hK hw (by omega) (mF_0 _) rfl _) rfl rfl hl.1 rfl (lv_room (Nat.le_of_ble_eq_true rfl)) dX3_lay_233 ⟨Nat.le_of_ble_eq_true rfl, Nat.le_of_ble_eq_true rfl⟩) (fun V_6 H locs hp hw => ?_)
            obtain ⟨hQ, hI1, hI2⟩ := hp
            have hsl9 : ∀ j, j ≤ 12 → V_6 0 j = V_4 0 j := fun j hj => hI2 j (by omega)
            have h00 : V_6 0 0 = nI 0 := (hsl9 0 (by decide)).trans h00
            have hR : mR V_6 (eff (ab lost fresh) (decide (fp = pp + 1)) sh (lyQQ (stD (ct, (md, fd), (n, true, dn, true, num), (lost, fresh), (fp, sh))) n dn) ct, (md, fd), (n, true, dn, true, num), (lost, fresh), (fp, sh)) := hR.frame (hI1 1 (by decide) (by decide) (by decide) (by decide)) (hI1 2 (by decide) (by decide) (by decide) (by decide)) hsl9
            obtain ⟨⟨hmd, hlo, hfr, hsh, hz6, hmc⟩, hfd, har, hfa⟩ := hR.pt
            obtain ⟨hn, hdn, hnum, hwd, hst⟩ := hR.sv e1 e2
            have hlf : V_6 0 8 = -1 ∨ V_6 0 9 = -1 := by rw [hlo, hfr]; exact hlf9
            have hp13 := (hI2 13 (by decide)).trans hp13
            refine lv_aload_n hx hb dX3_lay_236 rfl (lv_at hl 1 rfl) ?_
            refine lv_iconst (v := nI 1) hx hb dX3_lay_237 (by decide) ?_
            refine n_is (show nI 1 = bI true from rfl) ?_
            refine w_calli hw (va_runV (As := [.int (bI true)]) (rest := []) ⟨hx, hb, hml, hown, hts⟩ (c_X3_holds l D cI cD ad _ V_6 _ hQ (decide (¬ fp = 0)) har _ rfl sh hsh (pp + 1) hp13 (by rw [hfd, e2]) hlf true) (cwV 1 hts gX3_lay_X3_holds rfl rfl rfl (by decide +kernel) ⟨Nat.le_of_ble_eq_true rfl, Nat.le_of_ble_eq_true rfl⟩) (w_preV hK hw (by omega) (mF_0 _) rfl _) rfl rfl hl.1 rfl (lv_room (Nat.le_of_ble_eq_true rfl)) dX3_lay_238 ⟨Nat.le_of_ble_eq_true rfl, Nat.le_of_ble_eq_true rfl⟩) (fun r_8 V_7 H locs hp hw => ?_)
            rw [hfl_t] at hp
            have hG := hp
            clear hp
            have e8 := hG.1
            subst e8
            have hQE2 : ∀ d, QEq (qOf ([] ++ mkL (mkb (num + 1) (n) true (dn + 1) false) (n + 1)) d) (mkQ (mkb (num + 1) (nx1 n dn) (nxw true dn) (nxd dn) false) (kw (nx1 n dn) (nxw true dn)) d) := fun d => by rw [x1, xw, xd, List.nil_append, qOf_mkL]; exact QEq.rf _
            have h00 : V_7 0 0 = nI 0 := (hG.2.2.2.2.2.1 0 (by decide) (by decide) (by decide) (by decide)).trans h00
            refine lv_if_ne (tgt := 246) hx hb dX3_lay_241 (by decide) (fun c_241 => ?_) (fun c_241 => ?_)
            · have z2 : fp = 0 := by have := bI_n0.mp c_241; simpa using this
              have zg : ¬ (min fp (pp + 2) - pp - 1 = 1) := by omega
              have hmB := hG.mB hR.1 hQE2
              obtain ⟨k3, k4, k5, k6, k7⟩ := hG.mN (hR.sv e1 e2)
              refine lv_aload_n hx hb dX3_lay_246 rfl (lv_at hl 1 rfl) ?_
              refine lv_dup hx hb dX3_lay_247 rfl ?_
              refine w_get (ci := 3) (C := RX3) (T := TX3) (M := 24) (v := .int (nI num)) hx hb hts hi3 hown hK hw 0 (by omega) _ (mF_0 _) rfl 5 (by decide) (hts (.fieldLink RX3 106 "WideningArrayModel" "number" "I") (by decide +kernel)) (congrArg (fun z => some (Value.int z)) (show V_7 0 5 = nI num from k5)) dX3_lay_248 ?_
              refine lv_iconst (v := nI 1) hx hb dX3_lay_251 (by decide) ?_
              refine n_add hx hb dX3_lay_252 ?_
              refine w_put (ci := 3) (C := RX3) (T := TX3) (M := 24) (x := nI (num + 1)) (ty := .int) hx hb hts hi3 tyX3 tyX3_ok nmX3 hown hK hw 0 (by omega) _ (mF_0 _) rfl 5 (by decide) (hts (.fieldLink RX3 106 "WideningArrayModel" "number" "I") (by decide +kernel)) rfl (by decide +kernel) rfl rfl (Nat.le_of_ble_eq_true rfl) (mF_0 _) dX3_lay_253 (fun H locs hw => ?_)
              obtain ⟨V_9, hV_9⟩ : ∃ z : vT, z = u2 V_7 0 5 (nI (num + 1)) := ⟨_, rfl⟩
              rw [← hV_9] at hw
              refine lv_aload_n hx hb dX3_lay_256 rfl (lv_at hl 1 rfl) ?_
              refine lv_iconst (v := nI 0) hx hb dX3_lay_257 (by decide) ?_
              refine w_put (ci := 3) (C := RX3) (T := TX3) (M := 24) (x := nI 0) (ty := .boolean) hx hb hts hi3 tyX3 tyX3_ok nmX3 hown hK hw 0 (by omega) _ (mF_0 _) rfl 7 (by decide) (hts (.fieldLink RX3 67 "WideningArrayModel" "isStashed" "Z") (by decide +kernel)) rfl (by decide +kernel) rfl rfl (Nat.le_of_ble_eq_true rfl) (mF_0 _) dX3_lay_258 (fun H locs hw => ?_)
              obtain ⟨V_10, hV_10⟩ : ∃ z : vT, z = u2 V_9 0 7 (nI 0) := ⟨_, rfl⟩
              rw [← hV_10] at hw
              refine lv_aload_n hx hb dX3_lay_261 rfl (lv_at hl 1 rfl) ?_
              refine lv_iload_n hx hb dX3_lay_262 rfl (lv_at hl 0 rfl) ?_
              refine lv_if_eq (tgt := 270) hx hb dX3_lay_263 (by decide) (fun c_263 => ?_) (fun c_263 => ?_)
              · refine lv_aload_n hx hb dX3_lay_270 rfl (lv_at hl 1 rfl) ?_
                refine w_get (ci := 3) (C := RX3) (T := TX3) (M := 24) (v := .int (nI dn)) hx hb hts hi3 hown hK hw 0 (by omega) _ (mF_0 _) rfl 4 (by decide) (hts (.fieldLink RX3 64 "WideningArrayModel" "done" "I") (by decide +kernel)) (congrArg (fun z => some (Value.int z)) (show V_10 0 4 = nI dn from by rw [hV_10, u2_n _ _ (Or.inr (by decide))]; exact (by rw [hV_9, u2_n _ _ (Or.inr (by decide))]; exact (k4)))) dX3_lay_271 ?_
                refine lv_iconst (v := nI 1) hx hb dX3_lay_274 (by decide) ?_
                refine n_add hx hb dX3_lay_275 ?_
                refine w_put (ci := 3) (C := RX3) (T := TX3) (M := 24) (x := nI (dn + 1)) (ty := .int) hx hb hts hi3 tyX3 tyX3_ok nmX3 hown hK hw 0 (by omega) _ (mF_0 _) rfl 4 (by decide) (hts (.fieldLink RX3 64 "WideningArrayModel" "done" "I") (by decide +kernel)) rfl (by decide +kernel) rfl rfl (Nat.le_of_ble_eq_true rfl) (mF_0 _) dX3_lay_276 (fun H locs hw => ?_)
                obtain ⟨V_11, hV_11⟩ : ∃ z : vT, z = u2 V_10 0 4 (nI (dn + 1)) := ⟨_, rfl⟩
                rw [← hV_11] at hw
                refine lv_iload_n hx hb dX3_lay_279 rfl (lv_at hl 0 rfl) ?_
                refine lv_if_eq (tgt := 298) hx hb dX3_lay_280 (by decide) (fun c_280 => ?_) (fun c_280 => ?_)
                · refine lv_iconst (v := nI 1) hx hb dX3_lay_298 (by decide) ?_
                  exact w_zret hx hb hr hlocks hw rfl (by have hk : ∀ j, j ≠ 4 → j ≠ 5 → j ≠ 7 → j ≠ 3 → j ≠ 6 → V_11 0 j = V_7 0 j := (fun j q4 q5 q7 q3 q6 => by rw [hV_11, u2_n _ _ (Or.inr q4), hV_10, u2_n _ _ (Or.inr q7), hV_9, u2_n _ _ (Or.inr q5)]); have hc : ∀ a, a ≠ 0 → V_11 a = V_7 a := (fun a ha => by rw [hV_11, u2_r _ _ ha, hV_10, u2_r _ _ ha, hV_9, u2_r _ _ ha]); rw [layR, if_neg zf, if_neg zg, ← d1, ← d2]; refine ⟨(hk 0 (by decide) (by decide) (by decide) (by decide) (by decide)).trans h00, rfl, ?_⟩; have e9 : ((md, false) : Bool × Bool) = (md, decide (¬ fp = 0)) := (by rw [z2]; rfl); show mR _ (_, (md, false), _, (lost, fresh), (0, sh)); rw [e9]; exact mR_end (V := V_11) (hmB.frame (hc 1 (by decide)) (hc 2 (by decide)) (fun j hj => hk j (by omega) (by omega) (by omega) (by omega) (by omega))) ((hk 2 (by decide) (by decide) (by decide) (by decide) (by decide)).trans hG.2.2.1) ((hk 10 (by decide) (by decide) (by decide) (by decide) (by decide)).trans hG.2.1) id (fun _ => ⟨by rw [x1]; rw [hV_11, u2_n _ _ (Or.inr (by decide)), hV_10, u2_n _ _ (Or.inr (by decide)), hV_9, u2_n _ _ (Or.inr (by decide))]; exact k3, by rw [xd]; rw [hV_11, u2_s], by rw [hV_11, u2_n _ _ (Or.inr (by decide)), hV_10, u2_n _ _ (Or.inr (by decide)), hV_9, u2_s], by rw [xw]; rw [hV_11, u2_n _ _ (Or.inr (by decide)), hV_10, u2_n _ _ (Or.inr (by decide)), hV_9, u2_n _ _ (Or.inr (by decide))]; exact k6, by rw [hV_11, u2_n _ _ (Or.inr (by decide)), hV_10, u2_s]; rfl⟩)) dX3_lay_299
                · first | exact absurd c_280 (by decide) | exact absurd (by decide) c_280
              · first | exact absurd c_263 (by decide) | exact absurd (by decide) c_263
            · have z2 : ¬ fp = 0 := by have := bI_0.mp c_241; simpa using this
              have zg : min fp (pp + 2) - pp - 1 = 1 := by omega
              refine lv_iconst (v := nI 0) hx hb dX3_lay_244 (by decide) ?_
              exact w_zret hx hb hr hlocks hw rfl (by rw [layR, if_neg zf, if_pos zg]; exact ⟨h00, rfl, by rw [← d1, ← d2]; exact mR_fl hG hR.1 (decide_eq_true z2) hQE2⟩) dX3_lay_245
          · first | exact absurd c_213 (by decide) | exact absurd (by decide) c_213
      · first | exact absurd c_187 (by decide) | exact absurd (by decide) c_187
    · have x1 : nx1 n dn = n + 1 := if_pos c_176
      have xw : nxw true dn = false := if_pos c_176
      have xd : nxd dn = 0 := if_pos c_176
      refine lv_iconst (v := nI 1) hx hb dX3_lay_179 (by decide) ?_
      refine lv_goto (tgt := 184) hx hb dX3_lay_180 (by decide) ?_
      refine lv_istore_n (lv' := [(1, .int (nI 1)), (0, .ref (ad 0))]) hx hb dX3_lay_184 rfl hl (by decide) rfl (fun ls hl => ?_)
      refine lv_aload_n hx hb dX3_lay_185 rfl (lv_at hl 1 rfl) ?_
      refine lv_iload_n hx hb dX3_lay_186 rfl (lv_at hl 0 rfl) ?_
      refine lv_if_eq (tgt := 199) hx hb dX3_lay_187 (by decide) (fun c_187 => ?_) (fun c_187 => ?_)
      · first | exact absurd c_187 (by decide) | exact absurd (by decide) c_187
      · refine lv_aload_n hx hb dX3_lay_190 rfl (lv_at hl 1 rfl) ?_
        refine w_get (ci := 3) (C := RX3) (T := TX3) (M := 24) (v := .int (nI n)) hx hb hts hi3 hown hK hw 0 (by omega) _ (mF_0 _) rfl 3 (by decide) (hts (.fieldLink RX3 57 "WideningArrayModel" "n" "I") (by decide +kernel)) (congrArg (fun z => some (Value.int z)) (show V_4 0 3 = nI n from hn)) dX3_lay_191 ?_
        refine lv_iconst (v := nI 1) hx hb dX3_lay_194 (by decide) ?_
        refine n_add hx hb dX3_lay_195 ?_
        refine lv_goto (tgt := 203) hx hb dX3_lay_196 (by decide) ?_
        refine lv_iload_n hx hb dX3_lay_203 rfl (lv_at hl 0 rfl) ?_
        refine lv_if_ne (tgt := 211) hx hb dX3_lay_204 (by decide) (fun c_204 => ?_) (fun c_204 => ?_)
        · refine lv_iconst (v := nI 0) hx hb dX3_lay_211 (by decide) ?_
          refine n_is (show nI 0 = bI false from rfl) ?_
          refine lv_iload_n hx hb dX3_lay_212 rfl (lv_at hl 0 rfl) ?_
          refine lv_if_eq (tgt := 220) hx hb dX3_lay_213 (by decide) (fun c_213 => ?_) (fun c_213 => ?_)
          · first | exact absurd c_213 (by decide) | exact absurd (by decide) c_213
          · refine lv_iconst (v := nI 0) hx hb dX3_lay_216 (by decide) ?_
            refine lv_goto (tgt := 226) hx hb dX3_lay_217 (by decide) ?_
            refine lv_iconst (v := nI 0) hx hb dX3_lay_226 (by decide) ?_
            refine n_is (show nI 0 = bI false from rfl) ?_
            refine lv_aload_n hx hb dX3_lay_227 rfl (lv_at hl 1 rfl) ?_
            refine w_get (ci := 3) (C := RX3) (T := TX3) (M := 24) (v := .int (nI n)) hx hb hts hi3 hown hK hw 0 (by omega) _ (mF_0 _) rfl 3 (by decide) (hts (.fieldLink RX3 57 "WideningArrayModel" "n" "I") (by decide +kernel)) (congrArg (fun z => some (Value.int z)) (show V_4 0 3 = nI n from hn)) dX3_lay_228 ?_
            refine lv_iconst (v := nI 1) hx hb dX3_lay_231 (by decide) ?_
            refine n_add hx hb dX3_lay_232 ?_
            refine w_callv hw (va_runV (As := [.int (nI (n + 1)), .int (bI false), .int (nI 0), .int (bI false), .int (nI (n + 1))]) (rest := []) ⟨hx, hb, hml, hown, hts⟩ (c_X3_issueMarks l D cI cD ad _ V_4 _ hQ num (show V_4 0 5 = nI num from hnum) (by omega) (n + 1) false 0 false (n + 1) (by omega) (by simp; omega)) (cwV 5 hts gX3_lay_X3_issueMarks rfl rfl rfl (by decide +kernel) ⟨Nat.le_of_ble_eq_true rfl, Nat.le_of_ble_eq_true rfl⟩) (w_preV hK hw (by omega) (mF_0 _) rfl _) rfl rfl hl.1 rfl (lv_room (Nat.le_of_ble_eq_true rfl)) dX3_lay_233 ⟨Nat.le_of_ble_eq_true rfl, Nat.le_of_ble_eq_true rfl⟩) (fun V_12 H locs hp hw => ?_)
            obtain ⟨hQ, hI1, hI2⟩ := hp
            have hsl9 : ∀ j, j ≤ 12 → V_12 0 j = V_4 0 j := fun j hj => hI2 j (by omega)
            have h00 : V_12 0 0 = nI 0 := (hsl9 0 (by decide)).trans h00
            have hR : mR V_12 (eff (ab lost fresh) (decide (fp = pp + 1)) sh (lyQQ (stD (ct, (md, fd), (n, true, dn, true, num), (lost, fresh), (fp, sh))) n dn) ct, (md, fd), (n, true, dn, true, num), (lost, fresh), (fp, sh)) := hR.frame (hI1 1 (by decide) (by decide) (by decide) (by decide)) (hI1 2 (by decide) (by decide) (by decide) (by decide)) hsl9
            obtain ⟨⟨hmd, hlo, hfr, hsh, hz6, hmc⟩, hfd, har, hfa⟩ := hR.pt
            obtain ⟨hn, hdn, hnum, hwd, hst⟩ := hR.sv e1 e2
            have hlf : V_12 0 8 = -1 ∨ V_12 0 9 = -1 := by rw [hlo, hfr]; exact hlf9
            have hp13 := (hI2 13 (by decide)).trans hp13
            refine lv_aload_n hx hb dX3_lay_236 rfl (lv_at hl 1 rfl) ?_
            refine lv_iconst (v := nI 1) hx hb dX3_lay_237 (by decide) ?_
            refine n_is (show nI 1 = bI true from rfl) ?_
            refine w_calli hw (va_runV (As := [.int (bI true)]) (rest := []) ⟨hx, hb, hml, hown, hts⟩ (c_X3_holds l D cI cD ad _ V_12 _ hQ (decide (¬ fp = 0)) har _ rfl sh hsh (pp + 1) hp13 (by rw [hfd, e2]) hlf true) (cwV 1 hts gX3_lay_X3_holds rfl rfl rfl (by decide +kernel) ⟨Nat.le_of_ble_eq_true rfl, Nat.le_of_ble_eq_true rfl⟩) (w_preV hK hw (by omega) (mF_0 _) rfl _) rfl rfl hl.1 rfl (lv_room (Nat.le_of_ble_eq_true rfl)) dX3_lay_238 ⟨Nat.le_of_ble_eq_true rfl, Nat.le_of_ble_eq_true rfl⟩) (fun r_14 V_13 H locs hp hw => ?_)
            rw [hfl_t] at hp
            have hG := hp
            clear hp
            have e8 := hG.1
            subst e8
            have hQE2 : ∀ d, QEq (qOf ([] ++ mkL (mkb (num + 1) (n + 1) false (0) false) (n + 1)) d) (mkQ (mkb (num + 1) (nx1 n dn) (nxw true dn) (nxd dn) false) (kw (nx1 n dn) (nxw true dn)) d) := fun d => by rw [x1, xw, xd, List.nil_append, qOf_mkL]; exact QEq.rf _
            have h00 : V_13 0 0 = nI 0 := (hG.2.2.2.2.2.1 0 (by decide) (by decide) (by decide) (by decide)).trans h00
            refine lv_if_ne (tgt := 246) hx hb dX3_lay_241 (by decide) (fun c_241 => ?_) (fun c_241 => ?_)
            · have z2 : fp = 0 := by have := bI_n0.mp c_241; simpa using this
              have zg : ¬ (min fp (pp + 2) - pp - 1 = 1) := by omega
              have hmB := hG.mB hR.1 hQE2
              obtain ⟨k3, k4, k5, k6, k7⟩ := hG.mN (hR.sv e1 e2)
              refine lv_aload_n hx hb dX3_lay_246 rfl (lv_at hl 1 rfl) ?_
              refine lv_dup hx hb dX3_lay_247 rfl ?_
              refine w_get (ci := 3) (C := RX3) (T := TX3) (M := 24) (v := .int (nI num)) hx hb hts hi3 hown hK hw 0 (by omega) _ (mF_0 _) rfl 5 (by decide) (hts (.fieldLink RX3 106 "WideningArrayModel" "number" "I") (by decide +kernel)) (congrArg (fun z => some (Value.int z)) (show V_13 0 5 = nI num from k5)) dX3_lay_248 ?_
              refine lv_iconst (v := nI 1) hx hb dX3_lay_251 (by decide) ?_
              refine n_add hx hb dX3_lay_252 ?_
              refine w_put (ci := 3) (C := RX3) (T := TX3) (M := 24) (x := nI (num + 1)) (ty := .int) hx hb hts hi3 tyX3 tyX3_ok nmX3 hown hK hw 0 (by omega) _ (mF_0 _) rfl 5 (by decide) (hts (.fieldLink RX3 106 "WideningArrayModel" "number" "I") (by decide +kernel)) rfl (by decide +kernel) rfl rfl (Nat.le_of_ble_eq_true rfl) (mF_0 _) dX3_lay_253 (fun H locs hw => ?_)
              obtain ⟨V_15, hV_15⟩ : ∃ z : vT, z = u2 V_13 0 5 (nI (num + 1)) := ⟨_, rfl⟩
              rw [← hV_15] at hw
              refine lv_aload_n hx hb dX3_lay_256 rfl (lv_at hl 1 rfl) ?_
              refine lv_iconst (v := nI 0) hx hb dX3_lay_257 (by decide) ?_
              refine w_put (ci := 3) (C := RX3) (T := TX3) (M := 24) (x := nI 0) (ty := .boolean) hx hb hts hi3 tyX3 tyX3_ok nmX3 hown hK hw 0 (by omega) _ (mF_0 _) rfl 7 (by decide) (hts (.fieldLink RX3 67 "WideningArrayModel" "isStashed" "Z") (by decide +kernel)) rfl (by decide +kernel) rfl rfl (Nat.le_of_ble_eq_true rfl) (mF_0 _) dX3_lay_258 (fun H locs hw => ?_)
              obtain ⟨V_16, hV_16⟩ : ∃ z : vT, z = u2 V_15 0 7 (nI 0) := ⟨_, rfl⟩
              rw [← hV_16] at hw
              refine lv_aload_n hx hb dX3_lay_261 rfl (lv_at hl 1 rfl) ?_
              refine lv_iload_n hx hb dX3_lay_262 rfl (lv_at hl 0 rfl) ?_
              refine lv_if_eq (tgt := 270) hx hb dX3_lay_263 (by decide) (fun c_263 => ?_) (fun c_263 => ?_)
              · first | exact absurd c_263 (by decide) | exact absurd (by decide) c_263
              · refine lv_iconst (v := nI 0) hx hb dX3_lay_266 (by decide) ?_
                refine lv_goto (tgt := 276) hx hb dX3_lay_267 (by decide) ?_
                refine w_put (ci := 3) (C := RX3) (T := TX3) (M := 24) (x := nI 0) (ty := .int) hx hb hts hi3 tyX3 tyX3_ok nmX3 hown hK hw 0 (by omega) _ (mF_0 _) rfl 4 (by decide) (hts (.fieldLink RX3 64 "WideningArrayModel" "done" "I") (by decide +kernel)) rfl (by decide +kernel) rfl rfl (Nat.le_of_ble_eq_true rfl) (mF_0 _) dX3_lay_276 (fun H locs hw => ?_)
                obtain ⟨V_17, hV_17⟩ : ∃ z : vT, z = u2 V_16 0 4 (nI 0) := ⟨_, rfl⟩
                rw [← hV_17] at hw
                refine lv_iload_n hx hb dX3_lay_279 rfl (lv_at hl 0 rfl) ?_
                refine lv_if_eq (tgt := 298) hx hb dX3_lay_280 (by decide) (fun c_280 => ?_) (fun c_280 => ?_)
                · first | exact absurd c_280 (by decide) | exact absurd (by decide) c_280
                · refine lv_aload_n hx hb dX3_lay_283 rfl (lv_at hl 1 rfl) ?_
                  refine lv_dup hx hb dX3_lay_284 rfl ?_
                  refine w_get (ci := 3) (C := RX3) (T := TX3) (M := 24) (v := .int (nI n)) hx hb hts hi3 hown hK hw 0 (by omega) _ (mF_0 _) rfl 3 (by decide) (hts (.fieldLink RX3 57 "WideningArrayModel" "n" "I") (by decide +kernel)) (congrArg (fun z => some (Value.int z)) (show V_17 0 3 = nI n from by rw [hV_17, u2_n _ _ (Or.inr (by decide))]; exact (by rw [hV_16, u2_n _ _ (Or.inr (by decide))]; exact (by rw [hV_15, u2_n _ _ (Or.inr (by decide))]; exact (k3))))) dX3_lay_285 ?_
                  refine lv_iconst (v := nI 1) hx hb dX3_lay_288 (by decide) ?_
                  refine n_add hx hb dX3_lay_289 ?_
                  refine w_put (ci := 3) (C := RX3) (T := TX3) (M := 24) (x := nI (n + 1)) (ty := .int) hx hb hts hi3 tyX3 tyX3_ok nmX3 hown hK hw 0 (by omega) _ (mF_0 _) rfl 3 (by decide) (hts (.fieldLink RX3 57 "WideningArrayModel" "n" "I") (by decide +kernel)) rfl (by decide +kernel) rfl rfl (Nat.le_of_ble_eq_true rfl) (mF_0 _) dX3_lay_290 (fun H locs hw => ?_)
                  obtain ⟨V_18, hV_18⟩ : ∃ z : vT, z = u2 V_17 0 3 (nI (n + 1)) := ⟨_, rfl⟩
                  rw [← hV_18] at hw
                  refine lv_aload_n hx hb dX3_lay_293 rfl (lv_at hl 1 rfl) ?_
                  refine lv_iconst (v := nI 0) hx hb dX3_lay_294 (by decide) ?_
                  refine w_put (ci := 3) (C := RX3) (T := TX3) (M := 24) (x := nI 0) (ty := .boolean) hx hb hts hi3 tyX3 tyX3_ok nmX3 hown hK hw 0 (by omega) _ (mF_0 _) rfl 6 (by decide) (hts (.fieldLink RX3 54 "WideningArrayModel" "isWide" "Z") (by decide +kernel)) rfl (by decide +kernel) rfl rfl (Nat.le_of_ble_eq_true rfl) (mF_0 _) dX3_lay_295 (fun H locs hw => ?_)
                  obtain ⟨V_19, hV_19⟩ : ∃ z : vT, z = u2 V_18 0 6 (nI 0) := ⟨_, rfl⟩
                  rw [← hV_19] at hw
                  refine lv_iconst (v := nI 1) hx hb dX3_lay_298 (by decide) ?_
                  exact w_zret hx hb hr hlocks hw rfl (by have hk : ∀ j, j ≠ 4 → j ≠ 5 → j ≠ 7 → j ≠ 3 → j ≠ 6 → V_19 0 j = V_13 0 j := (fun j q4 q5 q7 q3 q6 => by rw [hV_19, u2_n _ _ (Or.inr q6), hV_18, u2_n _ _ (Or.inr q3), hV_17, u2_n _ _ (Or.inr q4), hV_16, u2_n _ _ (Or.inr q7), hV_15, u2_n _ _ (Or.inr q5)]); have hc : ∀ a, a ≠ 0 → V_19 a = V_13 a := (fun a ha => by rw [hV_19, u2_r _ _ ha, hV_18, u2_r _ _ ha, hV_17, u2_r _ _ ha, hV_16, u2_r _ _ ha, hV_15, u2_r _ _ ha]); rw [layR, if_neg zf, if_neg zg, ← d1, ← d2]; refine ⟨(hk 0 (by decide) (by decide) (by decide) (by decide) (by decide)).trans h00, rfl, ?_⟩; have e9 : ((md, false) : Bool × Bool) = (md, decide (¬ fp = 0)) := (by rw [z2]; rfl); show mR _ (_, (md, false), _, (lost, fresh), (0, sh)); rw [e9]; exact mR_end (V := V_19) (hmB.frame (hc 1 (by decide)) (hc 2 (by decide)) (fun j hj => hk j (by omega) (by omega) (by omega) (by omega) (by omega))) ((hk 2 (by decide) (by decide) (by decide) (by decide) (by decide)).trans hG.2.2.1) ((hk 10 (by decide) (by decide) (by decide) (by decide) (by decide)).trans hG.2.1) id (fun _ => ⟨by rw [x1]; rw [hV_19, u2_n _ _ (Or.inr (by decide)), hV_18, u2_s], by rw [xd]; rw [hV_19, u2_n _ _ (Or.inr (by decide)), hV_18, u2_n _ _ (Or.inr (by decide)), hV_17, u2_s], by rw [hV_19, u2_n _ _ (Or.inr (by decide)), hV_18, u2_n _ _ (Or.inr (by decide)), hV_17, u2_n _ _ (Or.inr (by decide)), hV_16, u2_n _ _ (Or.inr (by decide)), hV_15, u2_s], by rw [xw]; rw [hV_19, u2_s]; rfl, by rw [hV_19, u2_n _ _ (Or.inr (by decide)), hV_18, u2_n _ _ (Or.inr (by decide)), hV_17, u2_n _ _ (Or.inr (by decide)), hV_16, u2_s]; rfl⟩)) dX3_lay_299
            · have z2 : ¬ fp = 0 := by have := bI_0.mp c_241; simpa using this
              have zg : min fp (pp + 2) - pp - 1 = 1 := by omega
              refine lv_iconst (v := nI 0) hx hb dX3_lay_244 (by decide) ?_
              exact w_zret hx hb hr hlocks hw rfl (by rw [layR, if_neg zf, if_pos zg]; exact ⟨h00, rfl, by rw [← d1, ← d2]; exact mR_fl hG hR.1 (decide_eq_true z2) hQE2⟩) dX3_lay_245
        · first | exact absurd c_204 (by decide) | exact absurd (by decide) c_204
  · have z1 : fp = pp + 1 := by have := bI_0.mp c_163; simpa using this
    have zf : min fp (pp + 2) - pp = 1 := by omega
    have d1 : decide (fp = pp + 1) = decide (min fp (pp + 2) - pp = 1) := by rw [decide_eq_true z1, decide_eq_true zf]
    refine lv_iconst (v := nI 0) hx hb dX3_lay_166 (by decide) ?_
    exact w_zret hx hb hr hlocks hw rfl (by rw [layR, if_pos zf]; exact ⟨(hH.2.2.2.2.2.1 0 (by decide) (by decide) (by decide) (by decide)).trans h00, rfl, by rw [← d1]; exact mR_fl hH hR.1 (decide_eq_true z1) hQE⟩) dX3_lay_167
