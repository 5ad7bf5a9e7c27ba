set_option maxHeartbeats 4000000 in
set_option maxRecDepth 100000 in
theorem lp_X3_rebuild_b {p : Program} {l : Launch} {e : Env} {s : State} {m : MethodId} {args : Array Value} {below : List Frame} {meth : Method} {c : Code} {Q : State → Prop} {D : va_G} {cI cD : ClassId} {ad : Nat → Nat} (hx : p.tables.exec = Jvm.exec) (hb : c.code = cX3_rebuild) (hts : ∀ w ∈ wsX3_rebuild, w.before args s = true) (hown : s.vm.findClass RX3 = some m.cls) (hml : c.maxLocals = 5) (hK : kK D cI cD s) (V0 : vT) (k row d : Nat) (hk6 : k ≤ 6) (hrow : row < 40) (hd6 : d < 6) (hlf : V0 0 8 = -1 ∨ V0 0 9 = -1) (hk : ∀ (V1 : vT) (H1 : Heap) (locs1 : List Loc) (ls : Array Slot), ((∀ a, a ≠ 8 → V1 a = V0 a) ∧ ∀ t, t < 4 → V1 8 t = told (mw V0) (ab (V0 0 8) (V0 0 9)) k row d t) → wS D 10 ad (mF cI ad) s.heap V1 H1 locs1 → lv_has ls 5 [(3, .int (nI k)), (2, .int (nI row)), (1, .int (nI d)), (0, .ref (ad 0))] → W p l e ({ frames := 2, cells := 0, slots := 0, locals := 48 }) s m args below meth c H1 locs1 0 0 Q (F0 m 96 ls [])) : ∀ (n9 i : Nat) (V : vT) (H : Heap) (locs : List Loc) (ls : Array Slot), (i + n9 = 4) → ((∀ a, a ≠ 8 → V a = V0 a) ∧ ∀ t, t < i → V 8 t = told (mw V0) (ab (V0 0 8) (V0 0 9)) k row d t) → wS D 10 ad (mF cI ad) s.heap V H locs → lv_has ls 5 [(4, .int (nI i)), (3, .int (nI k)), (2, .int (nI row)), (1, .int (nI d)), (0, .ref (ad 0))] → W p l e ({ frames := 2, cells := 0, slots := 0, locals := 48 }) s m args below meth c H locs 0 0 Q (F0 m 68 ls []) := by
  have hi3 : ∀ w ∈ wsX30, w ∈ wsX3_rebuild := by decide +kernel
  intro n9
  induction n9 with
  | zero =>
    intro i V H locs ls hjn hin hw hl
    refine lv_iload hx hb dX3_rebuild_68 (lv_at hl 0 rfl) ?_
    refine lv_iconst (v := nI 4) hx hb dX3_rebuild_70 (by decide) ?_
    refine n_icmp_ge (tgt := 96) hx hb dX3_rebuild_71 (by decide) (by omega) (by omega) (fun c_71 => ?_) (fun c_71 => ?_)
    · have e1 : i = 4 := by omega
      subst e1
      exact hk V H locs ls hin hw (lv_sub hl [1, 2, 3, 4] rfl)
    · exfalso
      omega
  | succ n9 ih =>
    intro i V H locs ls hjn hin hw hl
    refine lv_iload hx hb dX3_rebuild_68 (lv_at hl 0 rfl) ?_
    refine lv_iconst (v := nI 4) hx hb dX3_rebuild_70 (by decide) ?_
    refine n_icmp_ge (tgt := 96) hx hb dX3_rebuild_71 (by decide) (by omega) (by omega) (fun c_71 => ?_) (fun c_71 => ?_)
    · exfalso
      omega
    · refine lv_aload_n hx hb dX3_rebuild_74 rfl (lv_at hl 4 rfl) ?_
      refine w_get (ci := 3) (C := RX3) (T := TX3) (M := 24) (v := .ref (ad 8)) hx hb hts hi3 hown hK hw 0 (by omega) _ (mF_0 _) rfl 22 (by decide) (hts (.fieldLink RX3 38 "WideningArrayModel" "block" "[I") (by decide +kernel)) rfl dX3_rebuild_75 ?_
      refine lv_iload hx hb dX3_rebuild_78 (lv_at hl 0 rfl) ?_
      refine lv_aload_n hx hb dX3_rebuild_80 rfl (lv_at hl 4 rfl) ?_
      refine lv_iload_n hx hb dX3_rebuild_81 rfl (lv_at hl 1 rfl) ?_
      refine lv_iload_n hx hb dX3_rebuild_82 rfl (lv_at hl 3 rfl) ?_
      refine lv_iload_n hx hb dX3_rebuild_83 rfl (lv_at hl 2 rfl) ?_
      refine lv_iload hx hb dX3_rebuild_84 (lv_at hl 0 rfl) ?_
      refine w_calli hw (va_runV (As := [.int (nI k), .int (nI d), .int (nI row), .int (nI i)]) (rest := [.int (nI i), .ref (ad 8)]) ⟨hx, hb, hml, hown, hts⟩ (c_X3_wordOf l D cI cD ad _ V k d row i (by omega) (by omega) (by omega) (by omega) (by rw [hin.1 0 (by decide)]; exact hlf)) (cwV 4 hts gX3_rebuild_X3_wordOf rfl rfl rfl (by decide +kernel) ⟨Nat.le_of_ble_eq_true rfl, Nat.le_of_ble_eq_true rfl⟩) (w_preV hK hw (by omega) (mF_0 _) rfl _) rfl rfl hl.1 rfl (lv_room (Nat.le_of_ble_eq_true rfl)) dX3_rebuild_86 ⟨Nat.le_of_ble_eq_true rfl, Nat.le_of_ble_eq_true rfl⟩) (fun r_2 V_1 H locs hp hw => ?_)
      obtain ⟨e9, e8⟩ := hp
      subst e9
      subst e8
      refine n_is (show told (mw V) (ab (V 0 8) (V 0 9)) k row d i = told (mw V0) (ab (V0 0 8) (V0 0 9)) k row d i from told_m (hin.1 1 (by decide)) (hin.1 0 (by decide))) ?_
      refine w_iast hx hb hK hw 8 4 (by omega) (fun _ => rfl) (i := i) (by omega) (by decide) dX3_rebuild_89 (fun H locs hw => ?_)
      obtain ⟨V_3, hV_3⟩ : ∃ z : vT, z = u2 V 8 i (told (mw V0) (ab (V0 0 8) (V0 0 9)) k row d i) := ⟨_, rfl⟩
      rw [← hV_3] at hw
      refine lv_iinc (v := nI (i + 1)) (lv' := [(4, .int (nI (i + 1))), (3, .int (nI k)), (2, .int (nI row)), (1, .int (nI d)), (0, .ref (ad 0))]) hx hb dX3_rebuild_90 hl (k := 0) rfl (nI_1 _) (by decide) rfl (fun ls hl => ?_)
      refine lv_goto (tgt := 68) hx hb dX3_rebuild_93 (by decide) ?_
      exact ih (i + 1) _ _ _ ls (by omega) ⟨fun a ha => by rw [hV_3, u2_r _ _ ha]; exact hin.1 a ha, fun t ht => by by_cases z : t = i; (· rw [z, hV_3, u2_s]); (· rw [hV_3, u2_n _ _ (Or.inr z)]; exact hin.2 t (by omega))⟩ hw (lv_sub hl [0, 1, 2, 3, 4] rfl)
set_option maxHeartbeats 4000000 in
set_option maxRecDepth 100000 in
theorem lp_X3_rebuild_w {p : Program} {l : Launch} {e : Env} {s : State} {m : MethodId} {args : Array Value} {below : List Frame} {meth : Method} {c : Code} {Q : State → Prop} {D : va_G} {cI cD : ClassId} {ad : Nat → Nat} (hx : p.tables.exec = Jvm.exec) (hb : c.code = cX3_rebuild) (hts : ∀ w ∈ wsX3_rebuild, w.before args s = true) (hown : s.vm.findClass RX3 = some m.cls) (hml : c.maxLocals = 5) (hK : kK D cI cD s) (V0 : vT) (k row d : Nat) (hk6 : k ≤ 6) (hrow : row < 40) (hd6 : d < 6) (hk : ∀ (V1 : vT) (H1 : Heap) (locs1 : List Loc) (ls : Array Slot), ((∀ a, a ≠ 1 → V1 a = V0 a) ∧ ∀ t, V1 1 t = if 160 * d + 4 * row ≤ t ∧ t < 160 * d + 4 * row + 4 then V0 8 (t - (160 * d + 4 * row)) else V0 1 t) → wS D 10 ad (mF cI ad) s.heap V1 H1 locs1 → lv_has ls 5 [(3, .int (nI k)), (2, .int (nI row)), (1, .int (nI d)), (0, .ref (ad 0))] → W p l e ({ frames := 2, cells := 0, slots := 0, locals := 48 }) s m args below meth c H1 locs1 0 0 Q (F0 m 130 ls [])) : ∀ (n9 i : Nat) (V : vT) (H : Heap) (locs : List Loc) (ls : Array Slot), (i + n9 = 4) → ((∀ a, a ≠ 1 → V a = V0 a) ∧ ∀ t, V 1 t = if 160 * d + 4 * row ≤ t ∧ t < 160 * d + 4 * row + i then V0 8 (t - (160 * d + 4 * row)) else V0 1 t) → wS D 10 ad (mF cI ad) s.heap V H locs → lv_has ls 5 [(4, .int (nI i)), (3, .int (nI k)), (2, .int (nI row)), (1, .int (nI d)), (0, .ref (ad 0))] → W p l e ({ frames := 2, cells := 0, slots := 0, locals := 48 }) s m args below meth c H locs 0 0 Q (F0 m 99 ls []) := by
  have hi3 : ∀ w ∈ wsX30, w ∈ wsX3_rebuild := by decide +kernel
  intro n9
  induction n9 with
  | zero =>
    intro i V H locs ls hjn hin hw hl
    refine lv_iload hx hb dX3_rebuild_99 (lv_at hl 0 rfl) ?_
    refine lv_iconst (v := nI 4) hx hb dX3_rebuild_101 (by decide) ?_
    refine n_icmp_ge (tgt := 130) hx hb dX3_rebuild_102 (by decide) (by omega) (by omega) (fun c_102 => ?_) (fun c_102 => ?_)
    · have e1 : i = 4 := by omega
      subst e1
      exact hk V H locs ls hin hw (lv_sub hl [1, 2, 3, 4] rfl)
    · exfalso
      omega
  | succ n9 ih =>
    intro i V H locs ls hjn hin hw hl
    refine lv_iload hx hb dX3_rebuild_99 (lv_at hl 0 rfl) ?_
    refine lv_iconst (v := nI 4) hx hb dX3_rebuild_101 (by decide) ?_
    refine n_icmp_ge (tgt := 130) hx hb dX3_rebuild_102 (by decide) (by omega) (by omega) (fun c_102 => ?_) (fun c_102 => ?_)
    · exfalso
      omega
    · refine lv_aload_n hx hb dX3_rebuild_105 rfl (lv_at hl 4 rfl) ?_
      refine w_get (ci := 3) (C := RX3) (T := TX3) (M := 24) (v := .ref (ad 1)) hx hb hts hi3 hown hK hw 0 (by omega) _ (mF_0 _) rfl 14 (by decide) (hts (.fieldLink RX3 16 "WideningArrayModel" "words" "[I") (by decide +kernel)) rfl dX3_rebuild_106 ?_
      refine lv_iload_n hx hb dX3_rebuild_109 rfl (lv_at hl 3 rfl) ?_
      refine lv_iload_n hx hb dX3_rebuild_110 rfl (lv_at hl 2 rfl) ?_
      refine lv_iload hx hb dX3_rebuild_111 (lv_at hl 0 rfl) ?_
      refine w_calli hw (va_runS (As := [.int (nI d), .int (nI row), .int (nI i)]) (rest := [.ref (ad 1)]) ⟨hx, hb, hml, hown, hts⟩ (c_X3_at l D cI cD ad _ V d row i) (va_cwS 3 hts gX3_rebuild_X3_at rfl rfl rfl (by decide +kernel) ⟨Nat.le_of_ble_eq_true rfl, Nat.le_of_ble_eq_true rfl⟩) (w_preS hK hw _) rfl rfl hl.1 rfl (lv_room (Nat.le_of_ble_eq_true rfl)) dX3_rebuild_113 ⟨Nat.le_of_ble_eq_true rfl, Nat.le_of_ble_eq_true rfl⟩) (fun r_2 V_1 H locs hp hw => ?_)
      obtain ⟨e9, e8⟩ := hp
      subst e9
      subst e8
      refine lv_aload_n hx hb dX3_rebuild_116 rfl (lv_at hl 4 rfl) ?_
      refine w_get (ci := 3) (C := RX3) (T := TX3) (M := 24) (v := .ref (ad 8)) hx hb hts hi3 hown hK hw 0 (by omega) _ (mF_0 _) rfl 22 (by decide) (hts (.fieldLink RX3 38 "WideningArrayModel" "block" "[I") (by decide +kernel)) rfl dX3_rebuild_117 ?_
      refine lv_iload hx hb dX3_rebuild_120 (lv_at hl 0 rfl) ?_
      refine w_iald hx hb hK hw 8 4 (by omega) (fun _ => rfl) (i := i) (by omega) (by decide) dX3_rebuild_122 ?_
      refine w_iast hx hb hK hw 1 1120 (by omega) (fun _ => rfl) (i := 160 * d + 4 * row + i) (by omega) (by decide) dX3_rebuild_123 (fun H locs hw => ?_)
      obtain ⟨V_3, hV_3⟩ : ∃ z : vT, z = u2 V 1 (160 * d + 4 * row + i) (V 8 i) := ⟨_, rfl⟩
      rw [← hV_3] at hw
      refine lv_iinc (v := nI (i + 1)) (lv' := [(4, .int (nI (i + 1))), (3, .int (nI k)), (2, .int (nI row)), (1, .int (nI d)), (0, .ref (ad 0))]) hx hb dX3_rebuild_124 hl (k := 0) rfl (nI_1 _) (by decide) rfl (fun ls hl => ?_)
      refine lv_goto (tgt := 99) hx hb dX3_rebuild_127 (by decide) ?_
      have hin' : (∀ a, a ≠ 1 → V_3 a = V0 a) ∧ ∀ t, V_3 1 t = if 160 * d + 4 * row ≤ t ∧ t < 160 * d + 4 * row + (i + 1) then V0 8 (t - (160 * d + 4 * row)) else V0 1 t := by
        refine ⟨fun a ha => by rw [hV_3, u2_r _ _ ha]; exact hin.1 a ha, fun t => ?_⟩
        by_cases z : t = 160 * d + 4 * row + i
        · rw [z, hV_3, u2_s, if_pos (by omega), hin.1 8 (by decide), Nat.add_sub_cancel_left]
        · rw [hV_3, u2_n _ _ (Or.inr z), hin.2 t]
          by_cases z2 : 160 * d + 4 * row ≤ t ∧ t < 160 * d + 4 * row + i
          · rw [if_pos z2, if_pos (by omega)]
          · rw [if_neg z2, if_neg (by omega)]
      exact ih (i + 1) _ _ _ ls (by omega) hin' hw (lv_sub hl [0, 1, 2, 3, 4] rfl)
set_option maxHeartbeats 4000000 in
set_option maxRecDepth 100000 in
theorem lp_X3_rebuild {p : Program} {l : Launch} {e : Env} {s : State} {m : MethodId} {args : Array Value} {below : List Frame} {meth : Method} {c : Code} {Q : State → Prop} {D : va_G} {cI cD : ClassId} {ad : Nat → Nat} (hx : p.tables.exec = Jvm.exec) (hb : c.code = cX3_rebuild) (hts : ∀ w ∈ wsX3_rebuild, w.before args s = true) (hown : s.vm.findClass RX3 = some m.cls) (hml : c.maxLocals = 5) (hK : kK D cI cD s) (V0 : vT) (n : Nat) (hn : V0 0 3 = nI n) (dn : Nat) (hdn : V0 0 4 = nI dn) (wide : Bool) (hwd : V0 0 6 = bI wide) (st : Bool) (hst : V0 0 7 = bI st) (hn3 : 3 ≤ n) (hn6 : n ≤ 6) (hd32 : dn < 32) (hwn : wide = true → n < 6) (hlf : V0 0 8 = -1 ∨ V0 0 9 = -1) (d : Nat) (hd6 : d < 6) (hout : nI d = ab (V0 0 8) (V0 0 9)) (hk : ∀ (V1 : vT) (H1 : Heap) (locs1 : List Loc) (ls : Array Slot), ((∀ a, a ≠ 1 → a ≠ 8 → V1 a = V0 a) ∧ ∀ t, V1 1 t = if 160 * d ≤ t ∧ t < 160 * d + 160 then rbw (mw V0) n wide dn st d 32 (t - 160 * d) else V0 1 t) → wS D 10 ad (mF cI ad) s.heap V1 H1 locs1 → lv_has ls 5 [(1, .int (nI d)), (0, .ref (ad 0))] → W p l e ({ frames := 2, cells := 0, slots := 0, locals := 48 }) s m args below meth c H1 locs1 0 0 Q (F0 m 136 ls [])) : ∀ (n9 j : Nat) (V : vT) (H : Heap) (locs : List Loc) (ls : Array Slot), (j + n9 = 32) → ((∀ a, a ≠ 1 → a ≠ 8 → V a = V0 a) ∧ ∀ t, V 1 t = if 160 * d ≤ t ∧ t < 160 * d + 160 then rbw (mw V0) n wide dn st d j (t - 160 * d) else V0 1 t) → wS D 10 ad (mF cI ad) s.heap V H locs → lv_has ls 5 [(2, .int (nI j)), (1, .int (nI d)), (0, .ref (ad 0))] → W p l e ({ frames := 2, cells := 0, slots := 0, locals := 48 }) s m args below meth c H locs 0 0 Q (F0 m 33 ls []) := by
  have hi3 : ∀ w ∈ wsX30, w ∈ wsX3_rebuild := by decide +kernel
  intro n9
  induction n9 with
  | zero =>
    intro j V H locs ls hjn hin hw hl
    refine lv_iload_n hx hb dX3_rebuild_33 rfl (lv_at hl 0 rfl) ?_
    refine lv_bipush (v := nI 32) hx hb dX3_rebuild_34 (by decide) ?_
    refine n_icmp_ge (tgt := 136) hx hb dX3_rebuild_36 (by decide) (by omega) (by omega) (fun c_36 => ?_) (fun c_36 => ?_)
    · have e1 : j = 32 := by omega
      subst e1
      exact hk V H locs ls hin hw (lv_sub hl [1, 2] rfl)
    · exfalso
      omega
  | succ n9 ih =>
    intro j V H locs ls hjn hin hw hl
    refine lv_iload_n hx hb dX3_rebuild_33 rfl (lv_at hl 0 rfl) ?_
    refine lv_bipush (v := nI 32) hx hb dX3_rebuild_34 (by decide) ?_
    refine n_icmp_ge (tgt := 136) hx hb dX3_rebuild_36 (by decide) (by omega) (by omega) (fun c_36 => ?_) (fun c_36 => ?_)
    · exfalso
      omega
    · have hwl := wor_le (n := n) (wide := wide) (dn := dn) (row := j) hn6 hwn
      have hwg := wor_ge (n := n) (wide := wide) (dn := dn) (row := j)
      refine lv_aload_n hx hb dX3_rebuild_39 rfl (lv_at hl 2 rfl) ?_
      refine lv_iload_n hx hb dX3_rebuild_40 rfl (lv_at hl 0 rfl) ?_
      refine w_calli hw (va_runV (As := [.int (nI j)]) (rest := []) ⟨hx, hb, hml, hown, hts⟩ (c_X3_widthOf l D cI cD ad _ V n (show V 0 3 = nI n from by rw [hin.1 0 (by decide) (by decide)]; exact hn) wide (show V 0 6 = bI wide from by rw [hin.1 0 (by decide) (by decide)]; exact hwd) dn (show V 0 4 = nI dn from by rw [hin.1 0 (by decide) (by decide)]; exact hdn) (by omega) j (by omega)) (cwV 1 hts gX3_rebuild_X3_widthOf rfl rfl rfl (by decide +kernel) ⟨Nat.le_of_ble_eq_true rfl, Nat.le_of_ble_eq_true rfl⟩) (w_preV hK hw (by omega) (mF_0 _) rfl _) rfl rfl hl.1 rfl (lv_room (Nat.le_of_ble_eq_true rfl)) dX3_rebuild_41 ⟨Nat.le_of_ble_eq_true rfl, Nat.le_of_ble_eq_true rfl⟩) (fun r_2 V_1 H locs hp hw => ?_)
      obtain ⟨e9, e8⟩ := hp
      subst e9
      subst e8
      refine lv_istore_n (lv' := [(3, .int (nI (wor n wide dn j))), (2, .int (nI j)), (1, .int (nI d)), (0, .ref (ad 0))]) hx hb dX3_rebuild_44 rfl hl (by decide) rfl (fun ls hl => ?_)
      refine lv_iload_n hx hb dX3_rebuild_45 rfl (lv_at hl 2 rfl) ?_
      refine lv_iload_n hx hb dX3_rebuild_46 rfl (lv_at hl 0 rfl) ?_
      refine n_icmp_ge (tgt := 130) hx hb dX3_rebuild_47 (by decide) (by omega) (by omega) (fun c_47 => ?_) (fun c_47 => ?_)
      · refine lv_iinc (v := nI (j + 1)) (lv' := [(2, .int (nI (j + 1))), (3, .int (nI (wor n wide dn j))), (1, .int (nI d)), (0, .ref (ad 0))]) hx hb dX3_rebuild_130 hl (k := 1) rfl (nI_1 _) (by decide) rfl (fun ls hl => ?_)
        refine lv_goto (tgt := 33) hx hb dX3_rebuild_133 (by decide) ?_
        have hin' : (∀ a, a ≠ 1 → a ≠ 8 → V a = V0 a) ∧ ∀ t, V 1 t = if 160 * d ≤ t ∧ t < 160 * d + 160 then rbw (mw V0) n wide dn st d (j + 1) (t - 160 * d) else V0 1 t := by
          refine ⟨hin.1, fun t => ?_⟩
          rw [hin.2 t]
          by_cases z2 : 160 * d ≤ t ∧ t < 160 * d + 160
          · rw [if_pos z2, if_pos z2, rbw, rbw]
            by_cases q : (t - 160 * d) / 4 = j
            · rw [if_neg (fun h => by omega), if_neg (fun h => by first | (have h1 := h.2.1; rw [q] at h1; omega) | (have h1 := h.2.2; rw [q, lay, show st = true from bI_n0.mp c_54, decide_eq_true c_62] at h1; exact absurd h1 (by decide)))]
            · by_cases z3 : t - 160 * d < 4 * j
              · simp only [z3, show t - 160 * d < 4 * (j + 1) by omega]
              · simp only [z3, show ¬ t - 160 * d < 4 * (j + 1) by omega]
          · rw [if_neg z2, if_neg z2]
        exact ih (j + 1) _ _ _ ls (by omega) hin' hw (lv_sub hl [0, 2, 3] rfl)
      · refine lv_aload_n hx hb dX3_rebuild_50 rfl (lv_at hl 3 rfl) ?_
        refine w_get (ci := 3) (C := RX3) (T := TX3) (M := 24) (v := .int (bI st)) hx hb hts hi3 hown hK hw 0 (by omega) _ (mF_0 _) rfl 7 (by decide) (hts (.fieldLink RX3 67 "WideningArrayModel" "isStashed" "Z") (by decide +kernel)) (congrArg (fun z => some (Value.int z)) (show V 0 7 = bI st from by rw [hin.1 0 (by decide) (by decide)]; exact hst)) dX3_rebuild_51 ?_
        refine lv_if_eq (tgt := 65) hx hb dX3_rebuild_54 (by decide) (fun c_54 => ?_) (fun c_54 => ?_)
        · refine lv_iconst (v := nI 0) hx hb dX3_rebuild_65 (by decide) ?_
          refine lv_istore (lv' := [(4, .int (nI 0)), (3, .int (nI (wor n wide dn j))), (2, .int (nI j)), (1, .int (nI d)), (0, .ref (ad 0))]) hx hb dX3_rebuild_66 hl (by decide) rfl (fun ls hl => ?_)
          refine lp_X3_rebuild_b hx hb hts hown hml hK V (wor n wide dn j) j d (by omega) (by omega) hd6 (by rw [hin.1 0 (by decide) (by decide)]; exact hlf) (fun V_B H locs ls hB hw hl => ?_) 4 0 V _ _ ls (by omega) ⟨fun _ _ => rfl, fun t ht => absurd ht (by omega)⟩ hw (lv_sub hl [0, 1, 2, 3, 4] rfl)
          refine lv_iconst (v := nI 0) hx hb dX3_rebuild_96 (by decide) ?_
          refine lv_istore (lv' := [(4, .int (nI 0)), (3, .int (nI (wor n wide dn j))), (2, .int (nI j)), (1, .int (nI d)), (0, .ref (ad 0))]) hx hb dX3_rebuild_97 hl (by decide) rfl (fun ls hl => ?_)
          refine lp_X3_rebuild_w hx hb hts hown hml hK V_B (wor n wide dn j) j d (by omega) (by omega) hd6 (fun V_W H locs ls hW hw hl => ?_) 4 0 V_B _ _ ls (by omega) ⟨fun _ _ => rfl, fun t => by rw [if_neg (by omega)]⟩ hw (lv_sub hl [0, 1, 2, 3, 4] rfl)
          refine lv_iinc (v := nI (j + 1)) (lv' := [(2, .int (nI (j + 1))), (3, .int (nI (wor n wide dn j))), (1, .int (nI d)), (0, .ref (ad 0))]) hx hb dX3_rebuild_130 hl (k := 1) rfl (nI_1 _) (by decide) rfl (fun ls hl => ?_)
          refine lv_goto (tgt := 33) hx hb dX3_rebuild_133 (by decide) ?_
          have hl0 : lay st dn j = false := by first | (rw [lay, show st = false from bI_0.mp c_54]; rfl) | (rw [lay, decide_eq_false c_62, Bool.and_false])
          have hin' : (∀ a, a ≠ 1 → a ≠ 8 → V_W a = V0 a) ∧ ∀ t, V_W 1 t = if 160 * d ≤ t ∧ t < 160 * d + 160 then rbw (mw V0) n wide dn st d (j + 1) (t - 160 * d) else V0 1 t := by
            refine ⟨fun a q1 q8 => by rw [hW.1 a q1, hB.1 a q8]; exact hin.1 a q1 q8, fun t => ?_⟩
            rw [hW.2 t, hB.1 1 (by decide), hin.2 t]
            by_cases z : 160 * d + 4 * j ≤ t ∧ t < 160 * d + 4 * j + 4
            · rw [if_pos z, if_pos (by omega), rbw, show (t - 160 * d) / 4 = j by omega, if_pos ⟨by omega, c_47, hl0⟩, hB.2 _ (by omega), told, hin.1 0 (by decide) (by decide), if_pos hout]
              refine xr_congr (fun e he hne => ?_)
              show V 1 (160 * e + (j * 4 + (t - (160 * d + 4 * j)))) = V0 1 (160 * e + (t - 160 * d))
              rw [hin.2, if_neg (by omega)]
              congr 1
              omega
            · rw [if_neg z]
              by_cases z2 : 160 * d ≤ t ∧ t < 160 * d + 160
              · rw [if_pos z2, if_pos z2, rbw, rbw]
                by_cases z3 : t - 160 * d < 4 * j
                · simp only [z3, show t - 160 * d < 4 * (j + 1) by omega]
                · simp only [z3, show ¬ t - 160 * d < 4 * (j + 1) by omega]
              · rw [if_neg z2, if_neg z2]
          exact ih (j + 1) _ _ _ ls (by omega) hin' hw (lv_sub hl [0, 2, 3] rfl)
        · refine lv_iload_n hx hb dX3_rebuild_57 rfl (lv_at hl 1 rfl) ?_
          refine lv_aload_n hx hb dX3_rebuild_58 rfl (lv_at hl 3 rfl) ?_
          refine w_get (ci := 3) (C := RX3) (T := TX3) (M := 24) (v := .int (nI dn)) hx hb hts hi3 hown hK hw 0 (by omega) _ (mF_0 _) rfl 4 (by decide) (hts (.fieldLink RX3 64 "WideningArrayModel" "done" "I") (by decide +kernel)) (congrArg (fun z => some (Value.int z)) (show V 0 4 = nI dn from by rw [hin.1 0 (by decide) (by decide)]; exact hdn)) dX3_rebuild_59 ?_
          refine n_icmp_eq (tgt := 130) hx hb dX3_rebuild_62 (by decide) (by omega) (by omega) (fun c_62 => ?_) (fun c_62 => ?_)
          · refine lv_iinc (v := nI (j + 1)) (lv' := [(2, .int (nI (j + 1))), (3, .int (nI (wor n wide dn j))), (1, .int (nI d)), (0, .ref (ad 0))]) hx hb dX3_rebuild_130 hl (k := 1) rfl (nI_1 _) (by decide) rfl (fun ls hl => ?_)
            refine lv_goto (tgt := 33) hx hb dX3_rebuild_133 (by decide) ?_
            have hin' : (∀ a, a ≠ 1 → a ≠ 8 → V a = V0 a) ∧ ∀ t, V 1 t = if 160 * d ≤ t ∧ t < 160 * d + 160 then rbw (mw V0) n wide dn st d (j + 1) (t - 160 * d) else V0 1 t := by
              refine ⟨hin.1, fun t => ?_⟩
              rw [hin.2 t]
              by_cases z2 : 160 * d ≤ t ∧ t < 160 * d + 160
              · rw [if_pos z2, if_pos z2, rbw, rbw]
                by_cases q : (t - 160 * d) / 4 = j
                · rw [if_neg (fun h => by omega), if_neg (fun h => by first | (have h1 := h.2.1; rw [q] at h1; omega) | (have h1 := h.2.2; rw [q, lay, show st = true from bI_n0.mp c_54, decide_eq_true c_62] at h1; exact absurd h1 (by decide)))]
                · by_cases z3 : t - 160 * d < 4 * j
                  · simp only [z3, show t - 160 * d < 4 * (j + 1) by omega]
                  · simp only [z3, show ¬ t - 160 * d < 4 * (j + 1) by omega]
              · rw [if_neg z2, if_neg z2]
            exact ih (j + 1) _ _ _ ls (by omega) hin' hw (lv_sub hl [0, 2, 3] rfl)
          · refine lv_iconst (v := nI 0) hx hb dX3_rebuild_65 (by decide) ?_
            refine lv_istore (lv' := [(4, .int (nI 0)), (3, .int (nI (wor n wide dn j))), (2, .int (nI j)), (1, .int (nI d)), (0, .ref (ad 0))]) hx hb dX3_rebuild_66 hl (by decide) rfl (fun ls hl => ?_)
            refine lp_X3_rebuild_b hx hb hts hown hml hK V (wor n wide dn j) j d (by omega) (by omega) hd6 (by rw [hin.1 0 (by decide) (by decide)]; exact hlf) (fun V_B H locs ls hB hw hl => ?_) 4 0 V _ _ ls (by omega) ⟨fun _ _ => rfl, fun t ht => absurd ht (by omega)⟩ hw (lv_sub hl [0, 1, 2, 3, 4] rfl)
            refine lv_iconst (v := nI 0) hx hb dX3_rebuild_96 (by decide) ?_
            refine lv_istore (lv' := [(4, .int (nI 0)), (3, .int (nI (wor n wide dn j))), (2, .int (nI j)), (1, .int (nI d)), (0, .ref (ad 0))]) hx hb dX3_rebuild_97 hl (by decide) rfl (fun ls hl => ?_)
            refine lp_X3_rebuild_w hx hb hts hown hml hK V_B (wor n wide dn j) j d (by omega) (by omega) hd6 (fun V_W H locs ls hW hw hl => ?_) 4 0 V_B _ _ ls (by omega) ⟨fun _ _ => rfl, fun t => by rw [if_neg (by omega)]⟩ hw (lv_sub hl [0, 1, 2, 3, 4] rfl)
            refine lv_iinc (v := nI (j + 1)) (lv' := [(2, .int (nI (j + 1))), (3, .int (nI (wor n wide dn j))), (1, .int (nI d)), (0, .ref (ad 0))]) hx hb dX3_rebuild_130 hl (k := 1) rfl (nI_1 _) (by decide) rfl (fun ls hl => ?_)
            refine lv_goto (tgt := 33) hx hb dX3_rebuild_133 (by decide) ?_
            have hl0 : lay st dn j = false := by first | (rw [lay, show st = false from bI_0.mp c_54]; rfl) | (rw [lay, decide_eq_false c_62, Bool.and_false])
            have hin' : (∀ a, a ≠ 1 → a ≠ 8 → V_W a = V0 a) ∧ ∀ t, V_W 1 t = if 160 * d ≤ t ∧ t < 160 * d + 160 then rbw (mw V0) n wide dn st d (j + 1) (t - 160 * d) else V0 1 t := by
              refine ⟨fun a q1 q8 => by rw [hW.1 a q1, hB.1 a q8]; exact hin.1 a q1 q8, fun t => ?_⟩
              rw [hW.2 t, hB.1 1 (by decide), hin.2 t]
              by_cases z : 160 * d + 4 * j ≤ t ∧ t < 160 * d + 4 * j + 4
              · rw [if_pos z, if_pos (by omega), rbw, show (t - 160 * d) / 4 = j by omega, if_pos ⟨by omega, c_47, hl0⟩, hB.2 _ (by omega), told, hin.1 0 (by decide) (by decide), if_pos hout]
                refine xr_congr (fun e he hne => ?_)
                show V 1 (160 * e + (j * 4 + (t - (160 * d + 4 * j)))) = V0 1 (160 * e + (t - 160 * d))
                rw [hin.2, if_neg (by omega)]
                congr 1
                omega
              · rw [if_neg z]
                by_cases z2 : 160 * d ≤ t ∧ t < 160 * d + 160
                · rw [if_pos z2, if_pos z2, rbw, rbw]
                  by_cases z3 : t - 160 * d < 4 * j
                  · simp only [z3, show t - 160 * d < 4 * (j + 1) by omega]
                  · simp only [z3, show ¬ t - 160 * d < 4 * (j + 1) by omega]
                · rw [if_neg z2, if_neg z2]
            exact ih (j + 1) _ _ _ ls (by omega) hin' hw (lv_sub hl [0, 2, 3] rfl)
set_option maxHeartbeats 4000000 in
set_option maxRecDepth 100000 in
theorem lp_X3_rebuild_s {p : Program} {l : Launch} {e : Env} {s : State} {m : MethodId} {args : Array Value} {below : List Frame} {meth : Method} {c : Code} {Q : State → Prop} {D : va_G} {cI cD : ClassId} {ad : Nat → Nat} (hx : p.tables.exec = Jvm.exec) (hb : c.code = cX3_rebuild) (hts : ∀ w ∈ wsX3_rebuild, w.before args s = true) (hown : s.vm.findClass RX3 = some m.cls) (hml : c.maxLocals = 5) (hK : kK D cI cD s) (V0 : vT) (n : Nat) (hn : V0 0 3 = nI n) (hst : V0 0 7 = bI true) (hn3 : 3 ≤ n) (hn5 : n < 6) (d : Nat) (hd6 : d < 6) (hd0n : d = 0 ∨ d = n) (j : Nat) (hj : j < n) (hk : ∀ (V1 : vT) (H1 : Heap) (locs1 : List Loc) (ls : Array Slot), ((∀ a, a ≠ 1 → V1 a = V0 a) ∧ ∀ t, V1 1 t = if 160 * d + 128 ≤ t ∧ t < 160 * d + 128 + 4 * (j + 1) then V0 1 (160 * sdn d n + (t - 160 * d)) else V0 1 t) → wS D 10 ad (mF cI ad) s.heap V1 H1 locs1 → lv_has ls 5 [(2, .int (nI j)), (1, .int (nI d)), (0, .ref (ad 0))] → W p l e ({ frames := 2, cells := 0, slots := 0, locals := 48 }) s m args below meth c H1 locs1 0 0 Q (F0 m 217 ls [])) : ∀ (n9 i : Nat) (V : vT) (H : Heap) (locs : List Loc) (ls : Array Slot), (i + n9 = 4) → ((∀ a, a ≠ 1 → V a = V0 a) ∧ ∀ t, V 1 t = if 160 * d + 128 ≤ t ∧ t < 160 * d + 128 + (4 * j + i) then V0 1 (160 * sdn d n + (t - 160 * d)) else V0 1 t) → wS D 10 ad (mF cI ad) s.heap V H locs → lv_has ls 5 [(3, .int (nI i)), (2, .int (nI j)), (1, .int (nI d)), (0, .ref (ad 0))] → W p l e ({ frames := 2, cells := 0, slots := 0, locals := 48 }) s m args below meth c H locs 0 0 Q (F0 m 167 ls []) := by
  have hi3 : ∀ w ∈ wsX30, w ∈ wsX3_rebuild := by decide +kernel
  intro n9
  induction n9 with
  | zero =>
    intro i V H locs ls hjn hin hw hl
    refine lv_iload_n hx hb dX3_rebuild_167 rfl (lv_at hl 0 rfl) ?_
    refine lv_iconst (v := nI 4) hx hb dX3_rebuild_168 (by decide) ?_
    refine n_icmp_ge (tgt := 217) hx hb dX3_rebuild_169 (by decide) (by omega) (by omega) (fun c_169 => ?_) (fun c_169 => ?_)
    · have e1 : i = 4 := by omega
      subst e1
      exact hk V H locs ls ⟨hin.1, fun t => by rw [hin.2 t, show 160 * d + 128 + (4 * j + 4) = 160 * d + 128 + 4 * (j + 1) by omega]⟩ hw (lv_sub hl [1, 2, 3] rfl)
    · exfalso
      omega
  | succ n9 ih =>
    intro i V H locs ls hjn hin hw hl
    refine lv_iload_n hx hb dX3_rebuild_167 rfl (lv_at hl 0 rfl) ?_
    refine lv_iconst (v := nI 4) hx hb dX3_rebuild_168 (by decide) ?_
    refine n_icmp_ge (tgt := 217) hx hb dX3_rebuild_169 (by decide) (by omega) (by omega) (fun c_169 => ?_) (fun c_169 => ?_)
    · exfalso
      omega
    · refine lv_aload_n hx hb dX3_rebuild_172 rfl (lv_at hl 3 rfl) ?_
      refine w_get (ci := 3) (C := RX3) (T := TX3) (M := 24) (v := .ref (ad 1)) hx hb hts hi3 hown hK hw 0 (by omega) _ (mF_0 _) rfl 14 (by decide) (hts (.fieldLink RX3 16 "WideningArrayModel" "words" "[I") (by decide +kernel)) rfl dX3_rebuild_173 ?_
      refine lv_iload_n hx hb dX3_rebuild_176 rfl (lv_at hl 2 rfl) ?_
      refine lv_bipush (v := nI 32) hx hb dX3_rebuild_177 (by decide) ?_
      refine lv_iload_n hx hb dX3_rebuild_179 rfl (lv_at hl 1 rfl) ?_
      refine n_add hx hb dX3_rebuild_180 ?_
      refine lv_iload_n hx hb dX3_rebuild_181 rfl (lv_at hl 0 rfl) ?_
      refine w_calli hw (va_runS (As := [.int (nI d), .int (nI (32 + j)), .int (nI i)]) (rest := [.ref (ad 1)]) ⟨hx, hb, hml, hown, hts⟩ (c_X3_at l D cI cD ad _ V d (32 + j) i) (va_cwS 3 hts gX3_rebuild_X3_at rfl rfl rfl (by decide +kernel) ⟨Nat.le_of_ble_eq_true rfl, Nat.le_of_ble_eq_true rfl⟩) (w_preS hK hw _) rfl rfl hl.1 rfl (lv_room (Nat.le_of_ble_eq_true rfl)) dX3_rebuild_182 ⟨Nat.le_of_ble_eq_true rfl, Nat.le_of_ble_eq_true rfl⟩) (fun r_2 V_1 H locs hp hw => ?_)
      obtain ⟨e9, e8⟩ := hp
      subst e9
      subst e8
      refine lv_aload_n hx hb dX3_rebuild_185 rfl (lv_at hl 3 rfl) ?_
      refine w_get (ci := 3) (C := RX3) (T := TX3) (M := 24) (v := .ref (ad 1)) hx hb hts hi3 hown hK hw 0 (by omega) _ (mF_0 _) rfl 14 (by decide) (hts (.fieldLink RX3 16 "WideningArrayModel" "words" "[I") (by decide +kernel)) rfl dX3_rebuild_186 ?_
      refine lv_iload_n hx hb dX3_rebuild_189 rfl (lv_at hl 2 rfl) ?_
      refine lv_if_ne (tgt := 200) hx hb dX3_rebuild_190 (by decide) (fun c_190 => ?_) (fun c_190 => ?_)
      · have zd : d ≠ 0 := fun h => c_190 (by rw [h]; rfl)
        have zs : sdn d n = 0 := if_pos (by omega)
        refine lv_iconst (v := nI 0) hx hb dX3_rebuild_200 (by decide) ?_
        refine lv_bipush (v := nI 32) hx hb dX3_rebuild_201 (by decide) ?_
        refine lv_iload_n hx hb dX3_rebuild_203 rfl (lv_at hl 1 rfl) ?_
        refine n_add hx hb dX3_rebuild_204 ?_
        refine lv_iload_n hx hb dX3_rebuild_205 rfl (lv_at hl 0 rfl) ?_
        refine w_calli hw (va_runS (As := [.int (nI 0), .int (nI (32 + j)), .int (nI i)]) (rest := [.ref (ad 1), .int (nI (160 * d + 4 * (32 + j) + i)), .ref (ad 1)]) ⟨hx, hb, hml, hown, hts⟩ (c_X3_at l D cI cD ad _ V 0 (32 + j) i) (va_cwS 3 hts gX3_rebuild_X3_at rfl rfl rfl (by decide +kernel) ⟨Nat.le_of_ble_eq_true rfl, Nat.le_of_ble_eq_true rfl⟩) (w_preS hK hw _) rfl rfl hl.1 rfl (lv_room (Nat.le_of_ble_eq_true rfl)) dX3_rebuild_206 ⟨Nat.le_of_ble_eq_true rfl, Nat.le_of_ble_eq_true rfl⟩) (fun r_4 V_3 H locs hp hw => ?_)
        obtain ⟨e9, e8⟩ := hp
        subst e9
        subst e8
        refine w_iald hx hb hK hw 1 1120 (by omega) (fun _ => rfl) (i := 160 * 0 + 4 * (32 + j) + i) (by omega) (by decide) dX3_rebuild_209 ?_
        refine n_is (show V 1 (160 * 0 + 4 * (32 + j) + i) = V0 1 (160 * 0 + (128 + 4 * j + i)) from by rw [hin.2, if_neg (by omega)]; exact congrArg (V0 1) (by omega)) ?_
        refine w_iast hx hb hK hw 1 1120 (by omega) (fun _ => rfl) (i := 160 * d + 4 * (32 + j) + i) (by omega) (by decide) dX3_rebuild_210 (fun H locs hw => ?_)
        obtain ⟨V_5, hV_5⟩ : ∃ z : vT, z = u2 V 1 (160 * d + 4 * (32 + j) + i) (V0 1 (160 * 0 + (128 + 4 * j + i))) := ⟨_, rfl⟩
        rw [← hV_5] at hw
        refine lv_iinc (v := nI (i + 1)) (lv' := [(3, .int (nI (i + 1))), (2, .int (nI j)), (1, .int (nI d)), (0, .ref (ad 0))]) hx hb dX3_rebuild_211 hl (k := 0) rfl (nI_1 _) (by decide) rfl (fun ls hl => ?_)
        refine lv_goto (tgt := 167) hx hb dX3_rebuild_214 (by decide) ?_
        have hin' : (∀ a, a ≠ 1 → V_5 a = V0 a) ∧ ∀ t, V_5 1 t = if 160 * d + 128 ≤ t ∧ t < 160 * d + 128 + (4 * j + (i + 1)) then V0 1 (160 * sdn d n + (t - 160 * d)) else V0 1 t := by
          refine ⟨fun a ha => by rw [hV_5, u2_r _ _ ha]; exact hin.1 a ha, fun t => ?_⟩
          by_cases z : t = 160 * d + 4 * (32 + j) + i
          · rw [z, hV_5, u2_s, if_pos (by omega), zs]
            exact congrArg (V0 1) (by omega)
          · rw [hV_5, u2_n _ _ (Or.inr z), hin.2 t]
            by_cases z2 : 160 * d + 128 ≤ t ∧ t < 160 * d + 128 + (4 * j + i)
            · rw [if_pos z2, if_pos (by omega)]
            · rw [if_neg z2, if_neg (by omega)]
        exact ih (i + 1) _ _ _ ls (by omega) hin' hw (lv_sub hl [0, 1, 2, 3] rfl)
      · have zd : d = 0 := (nI_z (by omega)).mp c_190
        have zs : sdn d n = n := if_neg (by omega)
        refine lv_aload_n hx hb dX3_rebuild_193 rfl (lv_at hl 3 rfl) ?_
        refine w_get (ci := 3) (C := RX3) (T := TX3) (M := 24) (v := .int (nI n)) hx hb hts hi3 hown hK hw 0 (by omega) _ (mF_0 _) rfl 3 (by decide) (hts (.fieldLink RX3 57 "WideningArrayModel" "n" "I") (by decide +kernel)) (congrArg (fun z => some (Value.int z)) (show V 0 3 = nI n from by rw [hin.1 0 (by decide)]; exact hn)) dX3_rebuild_194 ?_
        refine lv_goto (tgt := 201) hx hb dX3_rebuild_197 (by decide) ?_
        refine lv_bipush (v := nI 32) hx hb dX3_rebuild_201 (by decide) ?_
        refine lv_iload_n hx hb dX3_rebuild_203 rfl (lv_at hl 1 rfl) ?_
        refine n_add hx hb dX3_rebuild_204 ?_
        refine lv_iload_n hx hb dX3_rebuild_205 rfl (lv_at hl 0 rfl) ?_
        refine w_calli hw (va_runS (As := [.int (nI n), .int (nI (32 + j)), .int (nI i)]) (rest := [.ref (ad 1), .int (nI (160 * d + 4 * (32 + j) + i)), .ref (ad 1)]) ⟨hx, hb, hml, hown, hts⟩ (c_X3_at l D cI cD ad _ V n (32 + j) i) (va_cwS 3 hts gX3_rebuild_X3_at rfl rfl rfl (by decide +kernel) ⟨Nat.le_of_ble_eq_true rfl, Nat.le_of_ble_eq_true rfl⟩) (w_preS hK hw _) rfl rfl hl.1 rfl (lv_room (Nat.le_of_ble_eq_true rfl)) dX3_rebuild_206 ⟨Nat.le_of_ble_eq_true rfl, Nat.le_of_ble_eq_true rfl⟩) (fun r_7 V_6 H locs hp hw => ?_)
        obtain ⟨e9, e8⟩ := hp
        subst e9
        subst e8
        refine w_iald hx hb hK hw 1 1120 (by omega) (fun _ => rfl) (i := 160 * n + 4 * (32 + j) + i) (by omega) (by decide) dX3_rebuild_209 ?_
        refine n_is (show V 1 (160 * n + 4 * (32 + j) + i) = V0 1 (160 * n + (128 + 4 * j + i)) from by rw [hin.2, if_neg (by omega)]; exact congrArg (V0 1) (by omega)) ?_
        refine w_iast hx hb hK hw 1 1120 (by omega) (fun _ => rfl) (i := 160 * d + 4 * (32 + j) + i) (by omega) (by decide) dX3_rebuild_210 (fun H locs hw => ?_)
        obtain ⟨V_8, hV_8⟩ : ∃ z : vT, z = u2 V 1 (160 * d + 4 * (32 + j) + i) (V0 1 (160 * n + (128 + 4 * j + i))) := ⟨_, rfl⟩
        rw [← hV_8] at hw
        refine lv_iinc (v := nI (i + 1)) (lv' := [(3, .int (nI (i + 1))), (2, .int (nI j)), (1, .int (nI d)), (0, .ref (ad 0))]) hx hb dX3_rebuild_211 hl (k := 0) rfl (nI_1 _) (by decide) rfl (fun ls hl => ?_)
        refine lv_goto (tgt := 167) hx hb dX3_rebuild_214 (by decide) ?_
        have hin' : (∀ a, a ≠ 1 → V_8 a = V0 a) ∧ ∀ t, V_8 1 t = if 160 * d + 128 ≤ t ∧ t < 160 * d + 128 + (4 * j + (i + 1)) then V0 1 (160 * sdn d n + (t - 160 * d)) else V0 1 t := by
          refine ⟨fun a ha => by rw [hV_8, u2_r _ _ ha]; exact hin.1 a ha, fun t => ?_⟩
          by_cases z : t = 160 * d + 4 * (32 + j) + i
          · rw [z, hV_8, u2_s, if_pos (by omega), zs]
            exact congrArg (V0 1) (by omega)
          · rw [hV_8, u2_n _ _ (Or.inr z), hin.2 t]
            by_cases z2 : 160 * d + 128 ≤ t ∧ t < 160 * d + 128 + (4 * j + i)
            · rw [if_pos z2, if_pos (by omega)]
            · rw [if_neg z2, if_neg (by omega)]
        exact ih (i + 1) _ _ _ ls (by omega) hin' hw (lv_sub hl [0, 1, 2, 3] rfl)
set_option maxHeartbeats 4000000 in
set_option maxRecDepth 100000 in
theorem lp_X3_rebuild_t {p : Program} {l : Launch} {e : Env} {s : State} {m : MethodId} {args : Array Value} {below : List Frame} {meth : Method} {c : Code} {Q : State → Prop} {D : va_G} {cI cD : ClassId} {ad : Nat → Nat} (hx : p.tables.exec = Jvm.exec) (hb : c.code = cX3_rebuild) (hts : ∀ w ∈ wsX3_rebuild, w.before args s = true) (hown : s.vm.findClass RX3 = some m.cls) (hml : c.maxLocals = 5) (hK : kK D cI cD s) (V0 : vT) (n : Nat) (hn : V0 0 3 = nI n) (hst : V0 0 7 = bI true) (hn3 : 3 ≤ n) (hn5 : n < 6) (d : Nat) (hd6 : d < 6) (hd0n : d = 0 ∨ d = n) (hk : ∀ (V1 : vT) (H1 : Heap) (locs1 : List Loc) (ls : Array Slot), ((∀ a, a ≠ 1 → V1 a = V0 a) ∧ ∀ t, V1 1 t = if 160 * d + 128 ≤ t ∧ t < 160 * d + 128 + 4 * n then V0 1 (160 * sdn d n + (t - 160 * d)) else V0 1 t) → wS D 10 ad (mF cI ad) s.heap V1 H1 locs1 → lv_has ls 5 [(1, .int (nI d)), (0, .ref (ad 0))] → W p l e ({ frames := 2, cells := 0, slots := 0, locals := 48 }) s m args below meth c H1 locs1 0 0 Q (F0 m 223 ls [])) : ∀ (n9 j : Nat) (V : vT) (H : Heap) (locs : List Loc) (ls : Array Slot), (j + n9 = n) → ((∀ a, a ≠ 1 → V a = V0 a) ∧ ∀ t, V 1 t = if 160 * d + 128 ≤ t ∧ t < 160 * d + 128 + 4 * j then V0 1 (160 * sdn d n + (t - 160 * d)) else V0 1 t) → wS D 10 ad (mF cI ad) s.heap V H locs → lv_has ls 5 [(2, .int (nI j)), (1, .int (nI d)), (0, .ref (ad 0))] → W p l e ({ frames := 2, cells := 0, slots := 0, locals := 48 }) s m args below meth c H locs 0 0 Q (F0 m 138 ls []) := by
  have hi3 : ∀ w ∈ wsX30, w ∈ wsX3_rebuild := by decide +kernel
  intro n9
  induction n9 with
  | zero =>
    intro j V H locs ls hjn hin hw hl
    refine lv_iload_n hx hb dX3_rebuild_138 rfl (lv_at hl 0 rfl) ?_
    refine lv_aload_n hx hb dX3_rebuild_139 rfl (lv_at hl 2 rfl) ?_
    refine w_get (ci := 3) (C := RX3) (T := TX3) (M := 24) (v := .int (nI n)) hx hb hts hi3 hown hK hw 0 (by omega) _ (mF_0 _) rfl 3 (by decide) (hts (.fieldLink RX3 57 "WideningArrayModel" "n" "I") (by decide +kernel)) (congrArg (fun z => some (Value.int z)) (show V 0 3 = nI n from by rw [hin.1 0 (by decide)]; exact hn)) dX3_rebuild_140 ?_
    refine n_icmp_ge (tgt := 223) hx hb dX3_rebuild_143 (by decide) (by omega) (by omega) (fun c_143 => ?_) (fun c_143 => ?_)
    · have e1 : j = n := by omega
      subst e1
      exact hk V H locs ls hin hw (lv_sub hl [1, 2] rfl)
    · exfalso
      omega
  | succ n9 ih =>
    intro j V H locs ls hjn hin hw hl
    refine lv_iload_n hx hb dX3_rebuild_138 rfl (lv_at hl 0 rfl) ?_
    refine lv_aload_n hx hb dX3_rebuild_139 rfl (lv_at hl 2 rfl) ?_
    refine w_get (ci := 3) (C := RX3) (T := TX3) (M := 24) (v := .int (nI n)) hx hb hts hi3 hown hK hw 0 (by omega) _ (mF_0 _) rfl 3 (by decide) (hts (.fieldLink RX3 57 "WideningArrayModel" "n" "I") (by decide +kernel)) (congrArg (fun z => some (Value.int z)) (show V 0 3 = nI n from by rw [hin.1 0 (by decide)]; exact hn)) dX3_rebuild_140 ?_
    refine n_icmp_ge (tgt := 223) hx hb dX3_rebuild_143 (by decide) (by omega) (by omega) (fun c_143 => ?_) (fun c_143 => ?_)
    · exfalso
      omega
    · refine lv_aload_n hx hb dX3_rebuild_146 rfl (lv_at hl 2 rfl) ?_
      refine w_get (ci := 3) (C := RX3) (T := TX3) (M := 24) (v := .int (bI true)) hx hb hts hi3 hown hK hw 0 (by omega) _ (mF_0 _) rfl 7 (by decide) (hts (.fieldLink RX3 67 "WideningArrayModel" "isStashed" "Z") (by decide +kernel)) (congrArg (fun z => some (Value.int z)) (show V 0 7 = bI true from by rw [hin.1 0 (by decide)]; exact hst)) dX3_rebuild_147 ?_
      refine lv_if_eq (tgt := 223) hx hb dX3_rebuild_150 (by decide) (fun c_150 => ?_) (fun c_150 => ?_)
      · exact absurd c_150 (by decide)
      · refine lv_iload_n hx hb dX3_rebuild_153 rfl (lv_at hl 1 rfl) ?_
        refine lv_if_eq (tgt := 165) hx hb dX3_rebuild_154 (by decide) (fun c_154 => ?_) (fun c_154 => ?_)
        · refine lv_iconst (v := nI 0) hx hb dX3_rebuild_165 (by decide) ?_
          refine lv_istore_n (lv' := [(3, .int (nI 0)), (2, .int (nI j)), (1, .int (nI d)), (0, .ref (ad 0))]) hx hb dX3_rebuild_166 rfl hl (by decide) rfl (fun ls hl => ?_)
          refine lp_X3_rebuild_s hx hb hts hown hml hK V0 n hn hst hn3 hn5 d hd6 hd0n j (by omega) (fun V_S H locs ls hS hw hl => ?_) 4 0 V _ _ ls (by omega) hin hw (lv_sub hl [0, 1, 2, 3] rfl)
          refine lv_iinc (v := nI (j + 1)) (lv' := [(2, .int (nI (j + 1))), (1, .int (nI d)), (0, .ref (ad 0))]) hx hb dX3_rebuild_217 hl (k := 0) rfl (nI_1 _) (by decide) rfl (fun ls hl => ?_)
          refine lv_goto (tgt := 138) hx hb dX3_rebuild_220 (by decide) ?_
          exact ih (j + 1) _ _ _ ls (by omega) hS hw (lv_sub hl [0, 1, 2] rfl)
        · refine lv_iload_n hx hb dX3_rebuild_157 rfl (lv_at hl 1 rfl) ?_
          refine lv_aload_n hx hb dX3_rebuild_158 rfl (lv_at hl 2 rfl) ?_
          refine w_get (ci := 3) (C := RX3) (T := TX3) (M := 24) (v := .int (nI n)) hx hb hts hi3 hown hK hw 0 (by omega) _ (mF_0 _) rfl 3 (by decide) (hts (.fieldLink RX3 57 "WideningArrayModel" "n" "I") (by decide +kernel)) (congrArg (fun z => some (Value.int z)) (show V 0 3 = nI n from by rw [hin.1 0 (by decide)]; exact hn)) dX3_rebuild_159 ?_
          refine n_icmp_ne (tgt := 223) hx hb dX3_rebuild_162 (by decide) (by omega) (by omega) (fun c_162 => ?_) (fun c_162 => ?_)
          · exact absurd (hd0n.resolve_left (fun h => c_154 (by rw [h]; rfl))) c_162
          · refine lv_iconst (v := nI 0) hx hb dX3_rebuild_165 (by decide) ?_
            refine lv_istore_n (lv' := [(3, .int (nI 0)), (2, .int (nI j)), (1, .int (nI d)), (0, .ref (ad 0))]) hx hb dX3_rebuild_166 rfl hl (by decide) rfl (fun ls hl => ?_)
            refine lp_X3_rebuild_s hx hb hts hown hml hK V0 n hn hst hn3 hn5 d hd6 hd0n j (by omega) (fun V_S H locs ls hS hw hl => ?_) 4 0 V _ _ ls (by omega) hin hw (lv_sub hl [0, 1, 2, 3] rfl)
            refine lv_iinc (v := nI (j + 1)) (lv' := [(2, .int (nI (j + 1))), (1, .int (nI d)), (0, .ref (ad 0))]) hx hb dX3_rebuild_217 hl (k := 0) rfl (nI_1 _) (by decide) rfl (fun ls hl => ?_)
            refine lv_goto (tgt := 138) hx hb dX3_rebuild_220 (by decide) ?_
            exact ih (j + 1) _ _ _ ls (by omega) hS hw (lv_sub hl [0, 1, 2] rfl)
set_option maxHeartbeats 4000000 in
set_option maxRecDepth 100000 in
theorem c_X3_rebuild (l : Launch) (D : va_G) (cI cD : ClassId) (ad : Nat → Nat) (sz : Nat) (V : vT) (ct : Nat → Nat → Int32) (md fd : Bool) (n : Nat) (wide : Bool) (dn : Nat) (st : Bool) (num : Nat) (lost fresh : Int32) (fp : Nat) (sh : Int32) (hR : mR V (ct, (md, fd), (n, wide, dn, st, num), (lost, fresh), (fp, sh))) (B : Nat) (hB : B < 10000) (hWF : WF B (ct, (md, fd), (n, wide, dn, st, num), (lost, fresh), (fp, sh))) : Met l yX3_rebuild wsX3_rebuild ({ frames := 2, cells := 0, slots := 0, locals := 48 }) (gP D cI cD 10 ad (mF cI ad) sz V [.ref (ad 0)]) (va_Qi (fun (r : Int32) (V1 : vT) => V1 0 0 = nI (oRebuild (ct, (md, fd), (n, wide, dn, st, num), (lost, fresh), (fp, sh))).1 ∧ ((oRebuild (ct, (md, fd), (n, wide, dn, st, num), (lost, fresh), (fp, sh))).1 = 0 → (oRebuild (ct, (md, fd), (n, wide, dn, st, num), (lost, fresh), (fp, sh))).2.1 = r) ∧ mR V1 (oRebuild (ct, (md, fd), (n, wide, dn, st, num), (lost, fresh), (fp, sh))).2.2) (gB D 10 ad (mF cI ad)) (gA 10 ad sz)) 0 0 (gA 10 ad sz) := by
  refine w_met (cc := cX3_rebuild) (maxL := 5) (ret := (some .int)) (by decide) rfl (Nat.le_of_ble_eq_true rfl) ?_
  intro p e s m below meth c hx hb hr hts hown hlocks hml hsz hK hw ls hl
  subst hsz
  have hown : s.vm.findClass RX3 = some m.cls := hown
  have hi3 : ∀ w ∈ wsX30, w ∈ wsX3_rebuild := by decide +kernel
  have hl : lv_has ls 5 [(0, .ref (ad 0))] := hl
  obtain ⟨⟨hmd, hlo, hfr, hsh, hz6, hmc⟩, hfd, har, hfa⟩ := hR.pt
  refine lv_aload_n hx hb dX3_rebuild_0 rfl (lv_at hl 0 rfl) ?_
  refine w_calli hw (va_runV (As := []) (rest := []) ⟨hx, hb, hml, hown, hts⟩ (c_X3_works l D cI cD ad _ V md hmd fd hfd) (cwV 0 hts gX3_rebuild_X3_works rfl rfl rfl (by decide +kernel) ⟨Nat.le_of_ble_eq_true rfl, Nat.le_of_ble_eq_true rfl⟩) (w_preV hK hw (by omega) (mF_0 _) rfl _) rfl rfl hl.1 rfl (lv_room (Nat.le_of_ble_eq_true rfl)) dX3_rebuild_1 ⟨Nat.le_of_ble_eq_true rfl, Nat.le_of_ble_eq_true rfl⟩) (fun r_2 V_1 H locs hp hw => ?_)
  obtain ⟨hW9, e8⟩ := hp
  subst e8
  refine lv_if_ne (tgt := 9) hx hb dX3_rebuild_4 (by decide) (fun c_4 => ?_) (fun c_4 => ?_)
  · have e12 := of_decide_eq_true (bI_n0.mp c_4)
    obtain ⟨e1, e2⟩ := id e12
    rw [if_pos e12] at hW9
    have h00 : V_1 0 0 = nI 0 := by rw [hW9, u2_s]
    have hR := mR_u0 hR hW9
    obtain ⟨⟨hmd, hlo, hfr, hsh, hz6, hmc⟩, hfd, har, hfa⟩ := hR.pt
    obtain ⟨hn, hdn, hnum, hwd, hst⟩ := hR.sv e1 e2
    obtain ⟨hn3, hn6, hwn, hd32, hsw, hnum1, hnumB, hlo9, hfr9, hlf9, hfp9, hex9⟩ := hWF.sv e1 e2
    have hkw6 := kw_le hn6 hwn
    have hkwn := kw_ge (n := n) (wide := wide)
    have hlf : V_1 0 8 = -1 ∨ V_1 0 9 = -1 := by rw [hlo, hfr]; exact hlf9
    have h8 : V_1 0 8 = -1 ∨ ∃ d, d < 10 ∧ V_1 0 8 = nI d := by rw [hlo]; exact hlo9.imp id (fun ⟨d, hd, e⟩ => ⟨d, by omega, e⟩)
    have h9 : V_1 0 9 = -1 ∨ ∃ d, d < 10 ∧ V_1 0 9 = nI d := by rw [hfr]; exact hfr9.imp id (fun ⟨d, hd, e⟩ => ⟨d, by omega, e⟩)
    refine lv_aload_n hx hb dX3_rebuild_9 rfl (lv_at hl 0 rfl) ?_
    refine w_get (ci := 3) (C := RX3) (T := TX3) (M := 24) (v := .int fresh) hx hb hts hi3 hown hK hw 0 (by omega) _ (mF_0 _) rfl 9 (by decide) (hts (.fieldLink RX3 13 "WideningArrayModel" "fresh" "I") (by decide +kernel)) (congrArg (fun z => some (Value.int z)) (show V_1 0 9 = fresh from hfr)) dX3_rebuild_10 ?_
    refine lv_if_ge (tgt := 22) hx hb dX3_rebuild_13 (by decide) (fun c_13 => ?_) (fun c_13 => ?_)
    · have ez : ¬ fresh = -1 := fun h => absurd c_13 (by rw [h]; decide)
      have hlo1 : lost = -1 := hlf9.resolve_right ez
      obtain ⟨dd9, hdd9, e13⟩ := hfr9.resolve_left ez
      subst e13
      refine lv_aload_n hx hb dX3_rebuild_22 rfl (lv_at hl 0 rfl) ?_
      refine w_get (ci := 3) (C := RX3) (T := TX3) (M := 24) (v := .int (nI dd9)) hx hb hts hi3 hown hK hw 0 (by omega) _ (mF_0 _) rfl 9 (by decide) (hts (.fieldLink RX3 13 "WideningArrayModel" "fresh" "I") (by decide +kernel)) (congrArg (fun z => some (Value.int z)) (show V_1 0 9 = nI dd9 from hfr)) dX3_rebuild_23 ?_
      refine lv_istore_n (lv' := [(1, .int (nI dd9)), (0, .ref (ad 0))]) hx hb dX3_rebuild_26 rfl hl (by decide) rfl (fun ls hl => ?_)
      refine lv_aload_n hx hb dX3_rebuild_27 rfl (lv_at hl 1 rfl) ?_
      refine w_callv hw (va_runV (As := []) (rest := []) ⟨hx, hb, hml, hown, hts⟩ (c_X3_begin l D cI cD ad _ V_1) (cwV 0 hts gX3_rebuild_X3_begin rfl rfl rfl (by decide +kernel) ⟨Nat.le_of_ble_eq_true rfl, Nat.le_of_ble_eq_true rfl⟩) (w_preV hK hw (by omega) (mF_0 _) rfl _) rfl rfl hl.1 rfl (lv_room (Nat.le_of_ble_eq_true rfl)) dX3_rebuild_28 ⟨Nat.le_of_ble_eq_true rfl, Nat.le_of_ble_eq_true rfl⟩) (fun V_3 H locs hp hw => ?_)
      have hB9 := hp
      clear hp
      have hsl9 : ∀ j, j ≤ 12 → V_3 0 j = V_1 0 j := fun j hj => hB9.2.1 j (by omega) (by omega)
      have h00 : V_3 0 0 = nI 0 := (hsl9 0 (by decide)).trans h00
      have hR : mR V_3 (ct, (md, fd), (n, wide, dn, st, num), (lost, nI dd9), (fp, sh)) := hR.frame (hB9.1 1 (by decide)) (hB9.1 2 (by decide)) hsl9
      obtain ⟨⟨hmd, hlo, hfr, hsh, hz6, hmc⟩, hfd, har, hfa⟩ := hR.pt
      obtain ⟨hn, hdn, hnum, hwd, hst⟩ := hR.sv e1 e2
      have hlf : V_3 0 8 = -1 ∨ V_3 0 9 = -1 := by rw [hlo, hfr]; exact hlf9
      have hp13 := hB9.2.2.1
      have hQ := gQ_nil hB9.2.2.2
      refine lv_iconst (v := nI 0) hx hb dX3_rebuild_31 (by decide) ?_
      refine lv_istore_n (lv' := [(2, .int (nI 0)), (1, .int (nI dd9)), (0, .ref (ad 0))]) hx hb dX3_rebuild_32 rfl hl (by decide) rfl (fun ls hl => ?_)
      have hout : nI dd9 = ab (V_3 0 8) (V_3 0 9) := by rw [hlo, hfr, ab, if_pos hlo1]
      refine lp_X3_rebuild hx hb hts hown hml hK V_3 n hn dn hdn wide hwd st hst hn3 hn6 hd32 hwn hlf dd9 (by omega) hout (fun V_R H locs ls h1 hw hl => ?_) 32 0 V_3 _ _ ls (by omega) ⟨fun _ _ _ => rfl, fun t => by by_cases z : 160 * dd9 ≤ t ∧ t < 160 * dd9 + 160; (· rw [if_pos z, rbw, if_neg (by omega)]; exact congrArg (V_3 1) (by omega)); (· rw [if_neg z])⟩ hw (lv_sub hl [0, 1, 2] rfl)
      refine lv_iconst (v := nI 0) hx hb dX3_rebuild_136 (by decide) ?_
      refine lv_istore_n (lv' := [(2, .int (nI 0)), (1, .int (nI dd9)), (0, .ref (ad 0))]) hx hb dX3_rebuild_137 rfl hl (by decide) rfl (fun ls hl => ?_)
      by_cases hcd : st = true ∧ (dd9 = 0 ∨ dd9 = n)
      · have hn5 := hwn (hsw hcd.1)
        refine lp_X3_rebuild_t hx hb hts hown hml hK V_R n (show V_R 0 3 = nI n from by rw [h1.1 0 (by decide) (by decide)]; exact hn) (by rw [show V_R 0 7 = bI st from by rw [h1.1 0 (by decide) (by decide)]; exact hst, hcd.1]) hn3 hn5 dd9 (by omega) hcd.2 (fun V_S H locs ls h2 hw hl => ?_) n 0 V_R _ _ ls (by omega) ⟨fun _ _ => rfl, fun t => by rw [if_neg (by omega)]⟩ hw (lv_sub hl [0, 1, 2] rfl)
        have h2 : (∀ a, a ≠ 1 → V_S a = V_R a) ∧ ∀ t, V_S 1 t = if (st = true ∧ (dd9 = 0 ∨ dd9 = n)) ∧ 160 * dd9 + 128 ≤ t ∧ t < 160 * dd9 + 128 + 4 * n then V_R 1 (160 * sdn dd9 n + (t - 160 * dd9)) else V_R 1 t := ⟨h2.1, fun t => by rw [h2.2 t]; by_cases z : 160 * dd9 + 128 ≤ t ∧ t < 160 * dd9 + 128 + 4 * n; (· rw [if_pos z, if_pos ⟨hcd, z⟩]); (· rw [if_neg z, if_neg (fun h => z h.2)])⟩
        refine lv_aload_n hx hb dX3_rebuild_223 rfl (lv_at hl 1 rfl) ?_
        refine w_get (ci := 3) (C := RX3) (T := TX3) (M := 24) (v := .int (nI num)) hx hb hts hi3 hown hK hw 0 (by omega) _ (mF_0 _) rfl 5 (by decide) (hts (.fieldLink RX3 106 "WideningArrayModel" "number" "I") (by decide +kernel)) (congrArg (fun z => some (Value.int z)) (show V_S 0 5 = nI num from by rw [h2.1 0 (by decide)]; exact (by rw [h1.1 0 (by decide) (by decide)]; exact hnum))) dX3_rebuild_224 ?_
        refine lv_iconst (v := nI 2) hx hb dX3_rebuild_227 (by decide) ?_
        refine n_rem hx hb dX3_rebuild_228 (by omega) (by omega) (by omega) ?_
        refine lv_istore_n (lv' := [(2, .int (nI (num % 2))), (1, .int (nI dd9)), (0, .ref (ad 0))]) hx hb dX3_rebuild_229 rfl hl (by decide) rfl (fun ls hl => ?_)
        refine lv_aload_n hx hb dX3_rebuild_230 rfl (lv_at hl 2 rfl) ?_
        refine w_get (ci := 3) (C := RX3) (T := TX3) (M := 24) (v := .ref (ad 2)) hx hb hts hi3 hown hK hw 0 (by omega) _ (mF_0 _) rfl 15 (by decide) (hts (.fieldLink RX3 20 "WideningArrayModel" "marks" "[I") (by decide +kernel)) rfl dX3_rebuild_231 ?_
        refine lv_bipush (v := nI 10) hx hb dX3_rebuild_234 (by decide) ?_
        refine lv_iload_n hx hb dX3_rebuild_236 rfl (lv_at hl 1 rfl) ?_
        refine n_mul hx hb dX3_rebuild_237 ?_
        refine lv_iconst (v := nI 5) hx hb dX3_rebuild_238 (by decide) ?_
        refine lv_iload_n hx hb dX3_rebuild_239 rfl (lv_at hl 0 rfl) ?_
        refine n_mul hx hb dX3_rebuild_240 ?_
        refine n_add hx hb dX3_rebuild_241 ?_
        refine lv_aload_n hx hb dX3_rebuild_242 rfl (lv_at hl 2 rfl) ?_
        refine w_get (ci := 3) (C := RX3) (T := TX3) (M := 24) (v := .int (nI num)) hx hb hts hi3 hown hK hw 0 (by omega) _ (mF_0 _) rfl 5 (by decide) (hts (.fieldLink RX3 106 "WideningArrayModel" "number" "I") (by decide +kernel)) (congrArg (fun z => some (Value.int z)) (show V_S 0 5 = nI num from by rw [h2.1 0 (by decide)]; exact (by rw [h1.1 0 (by decide) (by decide)]; exact hnum))) dX3_rebuild_243 ?_
        refine w_iast hx hb hK hw 2 70 (by omega) (fun _ => rfl) (i := (10 * dd9) + (5 * (num % 2))) (by omega) (by decide) dX3_rebuild_246 (fun H locs hw => ?_)
        obtain ⟨V_4, hV_4⟩ : ∃ z : vT, z = u2 V_S 2 ((10 * dd9) + (5 * (num % 2))) (nI num) := ⟨_, rfl⟩
        rw [← hV_4] at hw
        refine lv_aload_n hx hb dX3_rebuild_247 rfl (lv_at hl 2 rfl) ?_
        refine w_get (ci := 3) (C := RX3) (T := TX3) (M := 24) (v := .ref (ad 2)) hx hb hts hi3 hown hK hw 0 (by omega) _ (mF_0 _) rfl 15 (by decide) (hts (.fieldLink RX3 20 "WideningArrayModel" "marks" "[I") (by decide +kernel)) rfl dX3_rebuild_248 ?_
        refine lv_bipush (v := nI 10) hx hb dX3_rebuild_251 (by decide) ?_
        refine lv_iload_n hx hb dX3_rebuild_253 rfl (lv_at hl 1 rfl) ?_
        refine n_mul hx hb dX3_rebuild_254 ?_
        refine lv_iconst (v := nI 5) hx hb dX3_rebuild_255 (by decide) ?_
        refine lv_iload_n hx hb dX3_rebuild_256 rfl (lv_at hl 0 rfl) ?_
        refine n_mul hx hb dX3_rebuild_257 ?_
        refine n_add hx hb dX3_rebuild_258 ?_
        refine lv_iconst (v := nI 1) hx hb dX3_rebuild_259 (by decide) ?_
        refine n_add hx hb dX3_rebuild_260 ?_
        refine lv_aload_n hx hb dX3_rebuild_261 rfl (lv_at hl 2 rfl) ?_
        refine w_get (ci := 3) (C := RX3) (T := TX3) (M := 24) (v := .int (nI n)) hx hb hts hi3 hown hK hw 0 (by omega) _ (mF_0 _) rfl 3 (by decide) (hts (.fieldLink RX3 57 "WideningArrayModel" "n" "I") (by decide +kernel)) (congrArg (fun z => some (Value.int z)) (show V_4 0 3 = nI n from by rw [hV_4, u2_r _ _ (by decide)]; exact (by rw [h2.1 0 (by decide)]; exact (by rw [h1.1 0 (by decide) (by decide)]; exact hn)))) dX3_rebuild_262 ?_
        refine w_iast hx hb hK hw 2 70 (by omega) (fun _ => rfl) (i := ((10 * dd9) + (5 * (num % 2))) + 1) (by omega) (by decide) dX3_rebuild_265 (fun H locs hw => ?_)
        obtain ⟨V_5, hV_5⟩ : ∃ z : vT, z = u2 V_4 2 (((10 * dd9) + (5 * (num % 2))) + 1) (nI n) := ⟨_, rfl⟩
        rw [← hV_5] at hw
        refine lv_aload_n hx hb dX3_rebuild_266 rfl (lv_at hl 2 rfl) ?_
        refine w_get (ci := 3) (C := RX3) (T := TX3) (M := 24) (v := .ref (ad 2)) hx hb hts hi3 hown hK hw 0 (by omega) _ (mF_0 _) rfl 15 (by decide) (hts (.fieldLink RX3 20 "WideningArrayModel" "marks" "[I") (by decide +kernel)) rfl dX3_rebuild_267 ?_
        refine lv_bipush (v := nI 10) hx hb dX3_rebuild_270 (by decide) ?_
        refine lv_iload_n hx hb dX3_rebuild_272 rfl (lv_at hl 1 rfl) ?_
        refine n_mul hx hb dX3_rebuild_273 ?_
        refine lv_iconst (v := nI 5) hx hb dX3_rebuild_274 (by decide) ?_
        refine lv_iload_n hx hb dX3_rebuild_275 rfl (lv_at hl 0 rfl) ?_
        refine n_mul hx hb dX3_rebuild_276 ?_
        refine n_add hx hb dX3_rebuild_277 ?_
        refine lv_iconst (v := nI 2) hx hb dX3_rebuild_278 (by decide) ?_
        refine n_add hx hb dX3_rebuild_279 ?_
        refine lv_aload_n hx hb dX3_rebuild_280 rfl (lv_at hl 2 rfl) ?_
        refine w_get (ci := 3) (C := RX3) (T := TX3) (M := 24) (v := .int (bI wide)) hx hb hts hi3 hown hK hw 0 (by omega) _ (mF_0 _) rfl 6 (by decide) (hts (.fieldLink RX3 54 "WideningArrayModel" "isWide" "Z") (by decide +kernel)) (congrArg (fun z => some (Value.int z)) (show V_5 0 6 = bI wide from by rw [hV_5, u2_r _ _ (by decide)]; exact (by rw [hV_4, u2_r _ _ (by decide)]; exact (by rw [h2.1 0 (by decide)]; exact (by rw [h1.1 0 (by decide) (by decide)]; exact hwd))))) dX3_rebuild_281 ?_
        refine lv_if_eq (tgt := 291) hx hb dX3_rebuild_284 (by decide) (fun c_284 => ?_) (fun c_284 => ?_)
        · refine lv_iconst (v := nI 0) hx hb dX3_rebuild_291 (by decide) ?_
          refine n_is (show nI 0 = bI wide from by rw [bI_0.mp c_284]; rfl) ?_
          refine w_iast hx hb hK hw 2 70 (by omega) (fun _ => rfl) (i := ((10 * dd9) + (5 * (num % 2))) + 2) (by omega) (by decide) dX3_rebuild_292 (fun H locs hw => ?_)
          obtain ⟨V_6, hV_6⟩ : ∃ z : vT, z = u2 V_5 2 (((10 * dd9) + (5 * (num % 2))) + 2) (bI wide) := ⟨_, rfl⟩
          rw [← hV_6] at hw
          refine lv_aload_n hx hb dX3_rebuild_293 rfl (lv_at hl 2 rfl) ?_
          refine w_get (ci := 3) (C := RX3) (T := TX3) (M := 24) (v := .ref (ad 2)) hx hb hts hi3 hown hK hw 0 (by omega) _ (mF_0 _) rfl 15 (by decide) (hts (.fieldLink RX3 20 "WideningArrayModel" "marks" "[I") (by decide +kernel)) rfl dX3_rebuild_294 ?_
          refine lv_bipush (v := nI 10) hx hb dX3_rebuild_297 (by decide) ?_
          refine lv_iload_n hx hb dX3_rebuild_299 rfl (lv_at hl 1 rfl) ?_
          refine n_mul hx hb dX3_rebuild_300 ?_
          refine lv_iconst (v := nI 5) hx hb dX3_rebuild_301 (by decide) ?_
          refine lv_iload_n hx hb dX3_rebuild_302 rfl (lv_at hl 0 rfl) ?_
          refine n_mul hx hb dX3_rebuild_303 ?_
          refine n_add hx hb dX3_rebuild_304 ?_
          refine lv_iconst (v := nI 3) hx hb dX3_rebuild_305 (by decide) ?_
          refine n_add hx hb dX3_rebuild_306 ?_
          refine lv_aload_n hx hb dX3_rebuild_307 rfl (lv_at hl 2 rfl) ?_
          refine w_get (ci := 3) (C := RX3) (T := TX3) (M := 24) (v := .int (nI dn)) hx hb hts hi3 hown hK hw 0 (by omega) _ (mF_0 _) rfl 4 (by decide) (hts (.fieldLink RX3 64 "WideningArrayModel" "done" "I") (by decide +kernel)) (congrArg (fun z => some (Value.int z)) (show V_6 0 4 = nI dn from by rw [hV_6, u2_r _ _ (by decide)]; exact (by rw [hV_5, u2_r _ _ (by decide)]; exact (by rw [hV_4, u2_r _ _ (by decide)]; exact (by rw [h2.1 0 (by decide)]; exact (by rw [h1.1 0 (by decide) (by decide)]; exact hdn)))))) dX3_rebuild_308 ?_
          refine w_iast hx hb hK hw 2 70 (by omega) (fun _ => rfl) (i := ((10 * dd9) + (5 * (num % 2))) + 3) (by omega) (by decide) dX3_rebuild_311 (fun H locs hw => ?_)
          obtain ⟨V_7, hV_7⟩ : ∃ z : vT, z = u2 V_6 2 (((10 * dd9) + (5 * (num % 2))) + 3) (nI dn) := ⟨_, rfl⟩
          rw [← hV_7] at hw
          refine lv_aload_n hx hb dX3_rebuild_312 rfl (lv_at hl 2 rfl) ?_
          refine w_get (ci := 3) (C := RX3) (T := TX3) (M := 24) (v := .ref (ad 2)) hx hb hts hi3 hown hK hw 0 (by omega) _ (mF_0 _) rfl 15 (by decide) (hts (.fieldLink RX3 20 "WideningArrayModel" "marks" "[I") (by decide +kernel)) rfl dX3_rebuild_313 ?_
          refine lv_bipush (v := nI 10) hx hb dX3_rebuild_316 (by decide) ?_
          refine lv_iload_n hx hb dX3_rebuild_318 rfl (lv_at hl 1 rfl) ?_
          refine n_mul hx hb dX3_rebuild_319 ?_
          refine lv_iconst (v := nI 5) hx hb dX3_rebuild_320 (by decide) ?_
          refine lv_iload_n hx hb dX3_rebuild_321 rfl (lv_at hl 0 rfl) ?_
          refine n_mul hx hb dX3_rebuild_322 ?_
          refine n_add hx hb dX3_rebuild_323 ?_
          refine lv_iconst (v := nI 4) hx hb dX3_rebuild_324 (by decide) ?_
          refine n_add hx hb dX3_rebuild_325 ?_
          refine lv_aload_n hx hb dX3_rebuild_326 rfl (lv_at hl 2 rfl) ?_
          refine w_get (ci := 3) (C := RX3) (T := TX3) (M := 24) (v := .int (bI st)) hx hb hts hi3 hown hK hw 0 (by omega) _ (mF_0 _) rfl 7 (by decide) (hts (.fieldLink RX3 67 "WideningArrayModel" "isStashed" "Z") (by decide +kernel)) (congrArg (fun z => some (Value.int z)) (show V_7 0 7 = bI st from by rw [hV_7, u2_r _ _ (by decide)]; exact (by rw [hV_6, u2_r _ _ (by decide)]; exact (by rw [hV_5, u2_r _ _ (by decide)]; exact (by rw [hV_4, u2_r _ _ (by decide)]; exact (by rw [h2.1 0 (by decide)]; exact (by rw [h1.1 0 (by decide) (by decide)]; exact hst))))))) dX3_rebuild_327 ?_
          refine lv_if_eq (tgt := 337) hx hb dX3_rebuild_330 (by decide) (fun c_330 => ?_) (fun c_330 => ?_)
          · refine lv_iconst (v := nI 0) hx hb dX3_rebuild_337 (by decide) ?_
            refine n_is (show nI 0 = bI st from by rw [bI_0.mp c_330]; rfl) ?_
            refine w_iast hx hb hK hw 2 70 (by omega) (fun _ => rfl) (i := ((10 * dd9) + (5 * (num % 2))) + 4) (by omega) (by decide) dX3_rebuild_338 (fun H locs hw => ?_)
            obtain ⟨V_8, hV_8⟩ : ∃ z : vT, z = u2 V_7 2 (((10 * dd9) + (5 * (num % 2))) + 4) (bI st) := ⟨_, rfl⟩
            rw [← hV_8] at hw
            refine lv_aload_n hx hb dX3_rebuild_339 rfl (lv_at hl 2 rfl) ?_
            refine lv_iconst (v := (-1)) hx hb dX3_rebuild_340 (by decide) ?_
            refine w_put (ci := 3) (C := RX3) (T := TX3) (M := 24) (x := (-1)) (ty := .int) hx hb hts hi3 tyX3 tyX3_ok nmX3 hown hK hw 0 (by omega) _ (mF_0 _) rfl 9 (by decide) (hts (.fieldLink RX3 13 "WideningArrayModel" "fresh" "I") (by decide +kernel)) rfl (by decide +kernel) rfl rfl (Nat.le_of_ble_eq_true rfl) (mF_0 _) dX3_rebuild_341 (fun H locs hw => ?_)
            obtain ⟨V_9, hV_9⟩ : ∃ z : vT, z = u2 V_8 0 9 (-1) := ⟨_, rfl⟩
            rw [← hV_9] at hw
            refine lv_iload_n hx hb dX3_rebuild_344 rfl (lv_at hl 1 rfl) ?_
            exact w_iret hx hb hr hlocks hw (by have hL : oRebuild (ct, (md, fd), (n, wide, dn, st, num), (lost, nI dd9), (fp, sh)) = (0, nI dd9, (rbc ct n wide dn st num dd9, (md, fd), (n, wide, dn, st, num), (lost, -1), (fp, sh))) := (by rw [oRebuild, ifS_y (a := (ct, (md, fd), (n, wide, dn, st, num), (lost, nI dd9), (fp, sh))) e1 e2]; refine (if_neg ez).trans (by rw [nI_clamp (by omega)])); have h3 := u5_marks (b := mkb num n wide dn st) hV_4 hV_5 hV_6 hV_7 hV_8 rfl rfl rfl rfl rfl; rw [hL]; exact ⟨by rw [hV_9, u2_n _ _ (Or.inr (by decide)), h3.1 0 (by decide), h2.1 0 (by decide), h1.1 0 (by decide) (by decide)]; exact h00, fun _ => rfl, mR_rebuild hR e1 e2 (by omega) hn3 hn6 hwn hsw (by omega) h1 h2 h3 hV_9⟩) dX3_rebuild_345
          · refine lv_iconst (v := nI 1) hx hb dX3_rebuild_333 (by decide) ?_
            refine lv_goto (tgt := 338) hx hb dX3_rebuild_334 (by decide) ?_
            refine n_is (show nI 1 = bI st from by rw [bI_n0.mp c_330]; rfl) ?_
            refine w_iast hx hb hK hw 2 70 (by omega) (fun _ => rfl) (i := ((10 * dd9) + (5 * (num % 2))) + 4) (by omega) (by decide) dX3_rebuild_338 (fun H locs hw => ?_)
            obtain ⟨V_10, hV_10⟩ : ∃ z : vT, z = u2 V_7 2 (((10 * dd9) + (5 * (num % 2))) + 4) (bI st) := ⟨_, rfl⟩
            rw [← hV_10] at hw
            refine lv_aload_n hx hb dX3_rebuild_339 rfl (lv_at hl 2 rfl) ?_
            refine lv_iconst (v := (-1)) hx hb dX3_rebuild_340 (by decide) ?_
            refine w_put (ci := 3) (C := RX3) (T := TX3) (M := 24) (x := (-1)) (ty := .int) hx hb hts hi3 tyX3 tyX3_ok nmX3 hown hK hw 0 (by omega) _ (mF_0 _) rfl 9 (by decide) (hts (.fieldLink RX3 13 "WideningArrayModel" "fresh" "I") (by decide +kernel)) rfl (by decide +kernel) rfl rfl (Nat.le_of_ble_eq_true rfl) (mF_0 _) dX3_rebuild_341 (fun H locs hw => ?_)
            obtain ⟨V_11, hV_11⟩ : ∃ z : vT, z = u2 V_10 0 9 (-1) := ⟨_, rfl⟩
            rw [← hV_11] at hw
            refine lv_iload_n hx hb dX3_rebuild_344 rfl (lv_at hl 1 rfl) ?_
            exact w_iret hx hb hr hlocks hw (by have hL : oRebuild (ct, (md, fd), (n, wide, dn, st, num), (lost, nI dd9), (fp, sh)) = (0, nI dd9, (rbc ct n wide dn st num dd9, (md, fd), (n, wide, dn, st, num), (lost, -1), (fp, sh))) := (by rw [oRebuild, ifS_y (a := (ct, (md, fd), (n, wide, dn, st, num), (lost, nI dd9), (fp, sh))) e1 e2]; refine (if_neg ez).trans (by rw [nI_clamp (by omega)])); have h3 := u5_marks (b := mkb num n wide dn st) hV_4 hV_5 hV_6 hV_7 hV_10 rfl rfl rfl rfl rfl; rw [hL]; exact ⟨by rw [hV_11, u2_n _ _ (Or.inr (by decide)), h3.1 0 (by decide), h2.1 0 (by decide), h1.1 0 (by decide) (by decide)]; exact h00, fun _ => rfl, mR_rebuild hR e1 e2 (by omega) hn3 hn6 hwn hsw (by omega) h1 h2 h3 hV_11⟩) dX3_rebuild_345
        · refine lv_iconst (v := nI 1) hx hb dX3_rebuild_287 (by decide) ?_
          refine lv_goto (tgt := 292) hx hb dX3_rebuild_288 (by decide) ?_
          refine n_is (show nI 1 = bI wide from by rw [bI_n0.mp c_284]; rfl) ?_
          refine w_iast hx hb hK hw 2 70 (by omega) (fun _ => rfl) (i := ((10 * dd9) + (5 * (num % 2))) + 2) (by omega) (by decide) dX3_rebuild_292 (fun H locs hw => ?_)
          obtain ⟨V_12, hV_12⟩ : ∃ z : vT, z = u2 V_5 2 (((10 * dd9) + (5 * (num % 2))) + 2) (bI wide) := ⟨_, rfl⟩
          rw [← hV_12] at hw
          refine lv_aload_n hx hb dX3_rebuild_293 rfl (lv_at hl 2 rfl) ?_
          refine w_get (ci := 3) (C := RX3) (T := TX3) (M := 24) (v := .ref (ad 2)) hx hb hts hi3 hown hK hw 0 (by omega) _ (mF_0 _) rfl 15 (by decide) (hts (.fieldLink RX3 20 "WideningArrayModel" "marks" "[I") (by decide +kernel)) rfl dX3_rebuild_294 ?_
          refine lv_bipush (v := nI 10) hx hb dX3_rebuild_297 (by decide) ?_
          refine lv_iload_n hx hb dX3_rebuild_299 rfl (lv_at hl 1 rfl) ?_
          refine n_mul hx hb dX3_rebuild_300 ?_
          refine lv_iconst (v := nI 5) hx hb dX3_rebuild_301 (by decide) ?_
          refine lv_iload_n hx hb dX3_rebuild_302 rfl (lv_at hl 0 rfl) ?_
          refine n_mul hx hb dX3_rebuild_303 ?_
          refine n_add hx hb dX3_rebuild_304 ?_
          refine lv_iconst (v := nI 3) hx hb dX3_rebuild_305 (by decide) ?_
          refine n_add hx hb dX3_rebuild_306 ?_
          refine lv_aload_n hx hb dX3_rebuild_307 rfl (lv_at hl 2 rfl) ?_
          refine w_get (ci := 3) (C := RX3) (T := TX3) (M := 24) (v := .int (nI dn)) hx hb hts hi3 hown hK hw 0 (by omega) _ (mF_0 _) rfl 4 (by decide) (hts (.fieldLink RX3 64 "WideningArrayModel" "done" "I") (by decide +kernel)) (congrArg (fun z => some (Value.int z)) (show V_12 0 4 = nI dn from by rw [hV_12, u2_r _ _ (by decide)]; exact (by rw [hV_5, u2_r _ _ (by decide)]; exact (by rw [hV_4, u2_r _ _ (by decide)]; exact (by rw [h2.1 0 (by decide)]; exact (by rw [h1.1 0 (by decide) (by decide)]; exact hdn)))))) dX3_rebuild_308 ?_
          refine w_iast hx hb hK hw 2 70 (by omega) (fun _ => rfl) (i := ((10 * dd9) + (5 * (num % 2))) + 3) (by omega) (by decide) dX3_rebuild_311 (fun H locs hw => ?_)
          obtain ⟨V_13, hV_13⟩ : ∃ z : vT, z = u2 V_12 2 (((10 * dd9) + (5 * (num % 2))) + 3) (nI dn) := ⟨_, rfl⟩
          rw [← hV_13] at hw
          refine lv_aload_n hx hb dX3_rebuild_312 rfl (lv_at hl 2 rfl) ?_
          refine w_get (ci := 3) (C := RX3) (T := TX3) (M := 24) (v := .ref (ad 2)) hx hb hts hi3 hown hK hw 0 (by omega) _ (mF_0 _) rfl 15 (by decide) (hts (.fieldLink RX3 20 "WideningArrayModel" "marks" "[I") (by decide +kernel)) rfl dX3_rebuild_313 ?_
          refine lv_bipush (v := nI 10) hx hb dX3_rebuild_316 (by decide) ?_
          refine lv_iload_n hx hb dX3_rebuild_318 rfl (lv_at hl 1 rfl) ?_
          refine n_mul hx hb dX3_rebuild_319 ?_
          refine lv_iconst (v := nI 5) hx hb dX3_rebuild_320 (by decide) ?_
          refine lv_iload_n hx hb dX3_rebuild_321 rfl (lv_at hl 0 rfl) ?_
          refine n_mul hx hb dX3_rebuild_322 ?_
          refine n_add hx hb dX3_rebuild_323 ?_
          refine lv_iconst (v := nI 4) hx hb dX3_rebuild_324 (by decide) ?_
          refine n_add hx hb dX3_rebuild_325 ?_
          refine lv_aload_n hx hb dX3_rebuild_326 rfl (lv_at hl 2 rfl) ?_
          refine w_get (ci := 3) (C := RX3) (T := TX3) (M := 24) (v := .int (bI st)) hx hb hts hi3 hown hK hw 0 (by omega) _ (mF_0 _) rfl 7 (by decide) (hts (.fieldLink RX3 67 "WideningArrayModel" "isStashed" "Z") (by decide +kernel)) (congrArg (fun z => some (Value.int z)) (show V_13 0 7 = bI st from by rw [hV_13, u2_r _ _ (by decide)]; exact (by rw [hV_12, u2_r _ _ (by decide)]; exact (by rw [hV_5, u2_r _ _ (by decide)]; exact (by rw [hV_4, u2_r _ _ (by decide)]; exact (by rw [h2.1 0 (by decide)]; exact (by rw [h1.1 0 (by decide) (by decide)]; exact hst))))))) dX3_rebuild_327 ?_
          refine lv_if_eq (tgt := 337) hx hb dX3_rebuild_330 (by decide) (fun c_330 => ?_) (fun c_330 => ?_)
          · refine lv_iconst (v := nI 0) hx hb dX3_rebuild_337 (by decide) ?_
            refine n_is (show nI 0 = bI st from by rw [bI_0.mp c_330]; rfl) ?_
            refine w_iast hx hb hK hw 2 70 (by omega) (fun _ => rfl) (i := ((10 * dd9) + (5 * (num % 2))) + 4) (by omega) (by decide) dX3_rebuild_338 (fun H locs hw => ?_)
            obtain ⟨V_14, hV_14⟩ : ∃ z : vT, z = u2 V_13 2 (((10 * dd9) + (5 * (num % 2))) + 4) (bI st) := ⟨_, rfl⟩
            rw [← hV_14] at hw
            refine lv_aload_n hx hb dX3_rebuild_339 rfl (lv_at hl 2 rfl) ?_
            refine lv_iconst (v := (-1)) hx hb dX3_rebuild_340 (by decide) ?_
            refine w_put (ci := 3) (C := RX3) (T := TX3) (M := 24) (x := (-1)) (ty := .int) hx hb hts hi3 tyX3 tyX3_ok nmX3 hown hK hw 0 (by omega) _ (mF_0 _) rfl 9 (by decide) (hts (.fieldLink RX3 13 "WideningArrayModel" "fresh" "I") (by decide +kernel)) rfl (by decide +kernel) rfl rfl (Nat.le_of_ble_eq_true rfl) (mF_0 _) dX3_rebuild_341 (fun H locs hw => ?_)
            obtain ⟨V_15, hV_15⟩ : ∃ z : vT, z = u2 V_14 0 9 (-1) := ⟨_, rfl⟩
            rw [← hV_15] at hw
            refine lv_iload_n hx hb dX3_rebuild_344 rfl (lv_at hl 1 rfl) ?_
            exact w_iret hx hb hr hlocks hw (by have hL : oRebuild (ct, (md, fd), (n, wide, dn, st, num), (lost, nI dd9), (fp, sh)) = (0, nI dd9, (rbc ct n wide dn st num dd9, (md, fd), (n, wide, dn, st, num), (lost, -1), (fp, sh))) := (by rw [oRebuild, ifS_y (a := (ct, (md, fd), (n, wide, dn, st, num), (lost, nI dd9), (fp, sh))) e1 e2]; refine (if_neg ez).trans (by rw [nI_clamp (by omega)])); have h3 := u5_marks (b := mkb num n wide dn st) hV_4 hV_5 hV_12 hV_13 hV_14 rfl rfl rfl rfl rfl; rw [hL]; exact ⟨by rw [hV_15, u2_n _ _ (Or.inr (by decide)), h3.1 0 (by decide), h2.1 0 (by decide), h1.1 0 (by decide) (by decide)]; exact h00, fun _ => rfl, mR_rebuild hR e1 e2 (by omega) hn3 hn6 hwn hsw (by omega) h1 h2 h3 hV_15⟩) dX3_rebuild_345
          · refine lv_iconst (v := nI 1) hx hb dX3_rebuild_333 (by decide) ?_
            refine lv_goto (tgt := 338) hx hb dX3_rebuild_334 (by decide) ?_
            refine n_is (show nI 1 = bI st from by rw [bI_n0.mp c_330]; rfl) ?_
            refine w_iast hx hb hK hw 2 70 (by omega) (fun _ => rfl) (i := ((10 * dd9) + (5 * (num % 2))) + 4) (by omega) (by decide) dX3_rebuild_338 (fun H locs hw => ?_)
            obtain ⟨V_16, hV_16⟩ : ∃ z : vT, z = u2 V_13 2 (((10 * dd9) + (5 * (num % 2))) + 4) (bI st) := ⟨_, rfl⟩
            rw [← hV_16] at hw
            refine lv_aload_n hx hb dX3_rebuild_339 rfl (lv_at hl 2 rfl) ?_
            refine lv_iconst (v := (-1)) hx hb dX3_rebuild_340 (by decide) ?_
            refine w_put (ci := 3) (C := RX3) (T := TX3) (M := 24) (x := (-1)) (ty := .int) hx hb hts hi3 tyX3 tyX3_ok nmX3 hown hK hw 0 (by omega) _ (mF_0 _) rfl 9 (by decide) (hts (.fieldLink RX3 13 "WideningArrayModel" "fresh" "I") (by decide +kernel)) rfl (by decide +kernel) rfl rfl (Nat.le_of_ble_eq_true rfl) (mF_0 _) dX3_rebuild_341 (fun H locs hw => ?_)
            obtain ⟨V_17, hV_17⟩ : ∃ z : vT, z = u2 V_16 0 9 (-1) := ⟨_, rfl⟩
            rw [← hV_17] at hw
            refine lv_iload_n hx hb dX3_rebuild_344 rfl (lv_at hl 1 rfl) ?_
            exact w_iret hx hb hr hlocks hw (by have hL : oRebuild (ct, (md, fd), (n, wide, dn, st, num), (lost, nI dd9), (fp, sh)) = (0, nI dd9, (rbc ct n wide dn st num dd9, (md, fd), (n, wide, dn, st, num), (lost, -1), (fp, sh))) := (by rw [oRebuild, ifS_y (a := (ct, (md, fd), (n, wide, dn, st, num), (lost, nI dd9), (fp, sh))) e1 e2]; refine (if_neg ez).trans (by rw [nI_clamp (by omega)])); have h3 := u5_marks (b := mkb num n wide dn st) hV_4 hV_5 hV_12 hV_13 hV_16 rfl rfl rfl rfl rfl; rw [hL]; exact ⟨by rw [hV_17, u2_n _ _ (Or.inr (by decide)), h3.1 0 (by decide), h2.1 0 (by decide), h1.1 0 (by decide) (by decide)]; exact h00, fun _ => rfl, mR_rebuild hR e1 e2 (by omega) hn3 hn6 hwn hsw (by omega) h1 h2 h3 hV_17⟩) dX3_rebuild_345
      · obtain ⟨V_S, hVS⟩ : ∃ z : vT, z = V_R := ⟨_, rfl⟩
        have h2 : (∀ a, a ≠ 1 → V_S a = V_R a) ∧ ∀ t, V_S 1 t = if (st = true ∧ (dd9 = 0 ∨ dd9 = n)) ∧ 160 * dd9 + 128 ≤ t ∧ t < 160 * dd9 + 128 + 4 * n then V_R 1 (160 * sdn dd9 n + (t - 160 * dd9)) else V_R 1 t := ⟨fun a _ => by rw [hVS], fun t => by rw [if_neg (fun h => hcd h.1), hVS]⟩
        rw [← hVS] at hw
        refine lv_iload_n hx hb dX3_rebuild_138 rfl (lv_at hl 0 rfl) ?_
        refine lv_aload_n hx hb dX3_rebuild_139 rfl (lv_at hl 2 rfl) ?_
        refine w_get (ci := 3) (C := RX3) (T := TX3) (M := 24) (v := .int (nI n)) hx hb hts hi3 hown hK hw 0 (by omega) _ (mF_0 _) rfl 3 (by decide) (hts (.fieldLink RX3 57 "WideningArrayModel" "n" "I") (by decide +kernel)) (congrArg (fun z => some (Value.int z)) (show V_S 0 3 = nI n from by rw [hVS]; exact (by rw [h1.1 0 (by decide) (by decide)]; exact hn))) dX3_rebuild_140 ?_
        refine n_icmp_ge (tgt := 223) hx hb dX3_rebuild_143 (by decide) (by omega) (by omega) (fun c_143 => ?_) (fun c_143 => ?_)
        · exfalso
          omega
        · refine lv_aload_n hx hb dX3_rebuild_146 rfl (lv_at hl 2 rfl) ?_
          refine w_get (ci := 3) (C := RX3) (T := TX3) (M := 24) (v := .int (bI st)) hx hb hts hi3 hown hK hw 0 (by omega) _ (mF_0 _) rfl 7 (by decide) (hts (.fieldLink RX3 67 "WideningArrayModel" "isStashed" "Z") (by decide +kernel)) (congrArg (fun z => some (Value.int z)) (show V_S 0 7 = bI st from by rw [hVS]; exact (by rw [h1.1 0 (by decide) (by decide)]; exact hst))) dX3_rebuild_147 ?_
          refine lv_if_eq (tgt := 223) hx hb dX3_rebuild_150 (by decide) (fun c_150 => ?_) (fun c_150 => ?_)
          · refine lv_aload_n hx hb dX3_rebuild_223 rfl (lv_at hl 2 rfl) ?_
            refine w_get (ci := 3) (C := RX3) (T := TX3) (M := 24) (v := .int (nI num)) hx hb hts hi3 hown hK hw 0 (by omega) _ (mF_0 _) rfl 5 (by decide) (hts (.fieldLink RX3 106 "WideningArrayModel" "number" "I") (by decide +kernel)) (congrArg (fun z => some (Value.int z)) (show V_S 0 5 = nI num from by rw [hVS]; exact (by rw [h1.1 0 (by decide) (by decide)]; exact hnum))) dX3_rebuild_224 ?_
            refine lv_iconst (v := nI 2) hx hb dX3_rebuild_227 (by decide) ?_
            refine n_rem hx hb dX3_rebuild_228 (by omega) (by omega) (by omega) ?_
            refine lv_istore_n (lv' := [(2, .int (nI (num % 2))), (1, .int (nI dd9)), (0, .ref (ad 0))]) hx hb dX3_rebuild_229 rfl hl (by decide) rfl (fun ls hl => ?_)
            refine lv_aload_n hx hb dX3_rebuild_230 rfl (lv_at hl 2 rfl) ?_
            refine w_get (ci := 3) (C := RX3) (T := TX3) (M := 24) (v := .ref (ad 2)) hx hb hts hi3 hown hK hw 0 (by omega) _ (mF_0 _) rfl 15 (by decide) (hts (.fieldLink RX3 20 "WideningArrayModel" "marks" "[I") (by decide +kernel)) rfl dX3_rebuild_231 ?_
            refine lv_bipush (v := nI 10) hx hb dX3_rebuild_234 (by decide) ?_
            refine lv_iload_n hx hb dX3_rebuild_236 rfl (lv_at hl 1 rfl) ?_
            refine n_mul hx hb dX3_rebuild_237 ?_
            refine lv_iconst (v := nI 5) hx hb dX3_rebuild_238 (by decide) ?_
            refine lv_iload_n hx hb dX3_rebuild_239 rfl (lv_at hl 0 rfl) ?_
            refine n_mul hx hb dX3_rebuild_240 ?_
            refine n_add hx hb dX3_rebuild_241 ?_
            refine lv_aload_n hx hb dX3_rebuild_242 rfl (lv_at hl 2 rfl) ?_
            refine w_get (ci := 3) (C := RX3) (T := TX3) (M := 24) (v := .int (nI num)) hx hb hts hi3 hown hK hw 0 (by omega) _ (mF_0 _) rfl 5 (by decide) (hts (.fieldLink RX3 106 "WideningArrayModel" "number" "I") (by decide +kernel)) (congrArg (fun z => some (Value.int z)) (show V_S 0 5 = nI num from by rw [hVS]; exact (by rw [h1.1 0 (by decide) (by decide)]; exact hnum))) dX3_rebuild_243 ?_
            refine w_iast hx hb hK hw 2 70 (by omega) (fun _ => rfl) (i := (10 * dd9) + (5 * (num % 2))) (by omega) (by decide) dX3_rebuild_246 (fun H locs hw => ?_)
            obtain ⟨V_18, hV_18⟩ : ∃ z : vT, z = u2 V_S 2 ((10 * dd9) + (5 * (num % 2))) (nI num) := ⟨_, rfl⟩
            rw [← hV_18] at hw
            refine lv_aload_n hx hb dX3_rebuild_247 rfl (lv_at hl 2 rfl) ?_
            refine w_get (ci := 3) (C := RX3) (T := TX3) (M := 24) (v := .ref (ad 2)) hx hb hts hi3 hown hK hw 0 (by omega) _ (mF_0 _) rfl 15 (by decide) (hts (.fieldLink RX3 20 "WideningArrayModel" "marks" "[I") (by decide +kernel)) rfl dX3_rebuild_248 ?_
            refine lv_bipush (v := nI 10) hx hb dX3_rebuild_251 (by decide) ?_
            refine lv_iload_n hx hb dX3_rebuild_253 rfl (lv_at hl 1 rfl) ?_
            refine n_mul hx hb dX3_rebuild_254 ?_
            refine lv_iconst (v := nI 5) hx hb dX3_rebuild_255 (by decide) ?_
            refine lv_iload_n hx hb dX3_rebuild_256 rfl (lv_at hl 0 rfl) ?_
            refine n_mul hx hb dX3_rebuild_257 ?_
            refine n_add hx hb dX3_rebuild_258 ?_
            refine lv_iconst (v := nI 1) hx hb dX3_rebuild_259 (by decide) ?_
            refine n_add hx hb dX3_rebuild_260 ?_
            refine lv_aload_n hx hb dX3_rebuild_261 rfl (lv_at hl 2 rfl) ?_
            refine w_get (ci := 3) (C := RX3) (T := TX3) (M := 24) (v := .int (nI n)) hx hb hts hi3 hown hK hw 0 (by omega) _ (mF_0 _) rfl 3 (by decide) (hts (.fieldLink RX3 57 "WideningArrayModel" "n" "I") (by decide +kernel)) (congrArg (fun z => some (Value.int z)) (show V_18 0 3 = nI n from by rw [hV_18, u2_r _ _ (by decide)]; exact (by rw [hVS]; exact (by rw [h1.1 0 (by decide) (by decide)]; exact hn)))) dX3_rebuild_262 ?_
            refine w_iast hx hb hK hw 2 70 (by omega) (fun _ => rfl) (i := ((10 * dd9) + (5 * (num % 2))) + 1) (by omega) (by decide) dX3_rebuild_265 (fun H locs hw => ?_)
            obtain ⟨V_19, hV_19⟩ : ∃ z : vT, z = u2 V_18 2 (((10 * dd9) + (5 * (num % 2))) + 1) (nI n) := ⟨_, rfl⟩
            rw [← hV_19] at hw
            refine lv_aload_n hx hb dX3_rebuild_266 rfl (lv_at hl 2 rfl) ?_
            refine w_get (ci := 3) (C := RX3) (T := TX3) (M := 24) (v := .ref (ad 2)) hx hb hts hi3 hown hK hw 0 (by omega) _ (mF_0 _) rfl 15 (by decide) (hts (.fieldLink RX3 20 "WideningArrayModel" "marks" "[I") (by decide +kernel)) rfl dX3_rebuild_267 ?_
            refine lv_bipush (v := nI 10) hx hb dX3_rebuild_270 (by decide) ?_
            refine lv_iload_n hx hb dX3_rebuild_272 rfl (lv_at hl 1 rfl) ?_
            refine n_mul hx hb dX3_rebuild_273 ?_
            refine lv_iconst (v := nI 5) hx hb dX3_rebuild_274 (by decide) ?_
            refine lv_iload_n hx hb dX3_rebuild_275 rfl (lv_at hl 0 rfl) ?_
            refine n_mul hx hb dX3_rebuild_276 ?_
            refine n_add hx hb dX3_rebuild_277 ?_
            refine lv_iconst (v := nI 2) hx hb dX3_rebuild_278 (by decide) ?_
            refine n_add hx hb dX3_rebuild_279 ?_
            refine lv_aload_n hx hb dX3_rebuild_280 rfl (lv_at hl 2 rfl) ?_
            refine w_get (ci := 3) (C := RX3) (T := TX3) (M := 24) (v := .int (bI wide)) hx hb hts hi3 hown hK hw 0 (by omega) _ (mF_0 _) rfl 6 (by decide) (hts (.fieldLink RX3 54 "WideningArrayModel" "isWide" "Z") (by decide +kernel)) (congrArg (fun z => some (Value.int z)) (show V_19 0 6 = bI wide from by rw [hV_19, u2_r _ _ (by decide)]; exact (by rw [hV_18, u2_r _ _ (by decide)]; exact (by rw [hVS]; exact (by rw [h1.1 0 (by decide) (by decide)]; exact hwd))))) dX3_rebuild_281 ?_
            refine lv_if_eq (tgt := 291) hx hb dX3_rebuild_284 (by decide) (fun c_284 => ?_) (fun c_284 => ?_)
            · refine lv_iconst (v := nI 0) hx hb dX3_rebuild_291 (by decide) ?_
              refine n_is (show nI 0 = bI wide from by rw [bI_0.mp c_284]; rfl) ?_
              refine w_iast hx hb hK hw 2 70 (by omega) (fun _ => rfl) (i := ((10 * dd9) + (5 * (num % 2))) + 2) (by omega) (by decide) dX3_rebuild_292 (fun H locs hw => ?_)
              obtain ⟨V_20, hV_20⟩ : ∃ z : vT, z = u2 V_19 2 (((10 * dd9) + (5 * (num % 2))) + 2) (bI wide) := ⟨_, rfl⟩
              rw [← hV_20] at hw
              refine lv_aload_n hx hb dX3_rebuild_293 rfl (lv_at hl 2 rfl) ?_
              refine w_get (ci := 3) (C := RX3) (T := TX3) (M := 24) (v := .ref (ad 2)) hx hb hts hi3 hown hK hw 0 (by omega) _ (mF_0 _) rfl 15 (by decide) (hts (.fieldLink RX3 20 "WideningArrayModel" "marks" "[I") (by decide +kernel)) rfl dX3_rebuild_294 ?_
              refine lv_bipush (v := nI 10) hx hb dX3_rebuild_297 (by decide) ?_
              refine lv_iload_n hx hb dX3_rebuild_299 rfl (lv_at hl 1 rfl) ?_
              refine n_mul hx hb dX3_rebuild_300 ?_
              refine lv_iconst (v := nI 5) hx hb dX3_rebuild_301 (by decide) ?_
              refine lv_iload_n hx hb dX3_rebuild_302 rfl (lv_at hl 0 rfl) ?_
              refine n_mul hx hb dX3_rebuild_303 ?_
              refine n_add hx hb dX3_rebuild_304 ?_
              refine lv_iconst (v := nI 3) hx hb dX3_rebuild_305 (by decide) ?_
              refine n_add hx hb dX3_rebuild_306 ?_
              refine lv_aload_n hx hb dX3_rebuild_307 rfl (lv_at hl 2 rfl) ?_
              refine w_get (ci := 3) (C := RX3) (T := TX3) (M := 24) (v := .int (nI dn)) hx hb hts hi3 hown hK hw 0 (by omega) _ (mF_0 _) rfl 4 (by decide) (hts (.fieldLink RX3 64 "WideningArrayModel" "done" "I") (by decide +kernel)) (congrArg (fun z => some (Value.int z)) (show V_20 0 4 = nI dn from by rw [hV_20, u2_r _ _ (by decide)]; exact (by rw [hV_19, u2_r _ _ (by decide)]; exact (by rw [hV_18, u2_r _ _ (by decide)]; exact (by rw [hVS]; exact (by rw [h1.1 0 (by decide) (by decide)]; exact hdn)))))) dX3_rebuild_308 ?_
              refine w_iast hx hb hK hw 2 70 (by omega) (fun _ => rfl) (i := ((10 * dd9) + (5 * (num % 2))) + 3) (by omega) (by decide) dX3_rebuild_311 (fun H locs hw => ?_)
              obtain ⟨V_21, hV_21⟩ : ∃ z : vT, z = u2 V_20 2 (((10 * dd9) + (5 * (num % 2))) + 3) (nI dn) := ⟨_, rfl⟩
              rw [← hV_21] at hw
              refine lv_aload_n hx hb dX3_rebuild_312 rfl (lv_at hl 2 rfl) ?_
              refine w_get (ci := 3) (C := RX3) (T := TX3) (M := 24) (v := .ref (ad 2)) hx hb hts hi3 hown hK hw 0 (by omega) _ (mF_0 _) rfl 15 (by decide) (hts (.fieldLink RX3 20 "WideningArrayModel" "marks" "[I") (by decide +kernel)) rfl dX3_rebuild_313 ?_
              refine lv_bipush (v := nI 10) hx hb dX3_rebuild_316 (by decide) ?_
              refine lv_iload_n hx hb dX3_rebuild_318 rfl (lv_at hl 1 rfl) ?_
              refine n_mul hx hb dX3_rebuild_319 ?_
              refine lv_iconst (v := nI 5) hx hb dX3_rebuild_320 (by decide) ?_
              refine lv_iload_n hx hb dX3_rebuild_321 rfl (lv_at hl 0 rfl) ?_
              refine n_mul hx hb dX3_rebuild_322 ?_
              refine n_add hx hb dX3_rebuild_323 ?_
              refine lv_iconst (v := nI 4) hx hb dX3_rebuild_324 (by decide) ?_
              refine n_add hx hb dX3_rebuild_325 ?_
              refine lv_aload_n hx hb dX3_rebuild_326 rfl (lv_at hl 2 rfl) ?_
              refine w_get (ci := 3) (C := RX3) (T := TX3) (M := 24) (v := .int (bI st)) hx hb hts hi3 hown hK hw 0 (by omega) _ (mF_0 _) rfl 7 (by decide) (hts (.fieldLink RX3 67 "WideningArrayModel" "isStashed" "Z") (by decide +kernel)) (congrArg (fun z => some (Value.int z)) (show V_21 0 7 = bI st from by rw [hV_21, u2_r _ _ (by decide)]; exact (by rw [hV_20, u2_r _ _ (by decide)]; exact (by rw [hV_19, u2_r _ _ (by decide)]; exact (by rw [hV_18, u2_r _ _ (by decide)]; exact (by rw [hVS]; exact (by rw [h1.1 0 (by decide) (by decide)]; exact hst))))))) dX3_rebuild_327 ?_
              refine lv_if_eq (tgt := 337) hx hb dX3_rebuild_330 (by decide) (fun c_330 => ?_) (fun c_330 => ?_)
              · refine lv_iconst (v := nI 0) hx hb dX3_rebuild_337 (by decide) ?_
                refine n_is (show nI 0 = bI st from by rw [bI_0.mp c_330]; rfl) ?_
                refine w_iast hx hb hK hw 2 70 (by omega) (fun _ => rfl) (i := ((10 * dd9) + (5 * (num % 2))) + 4) (by omega) (by decide) dX3_rebuild_338 (fun H locs hw => ?_)
                obtain ⟨V_22, hV_22⟩ : ∃ z : vT, z = u2 V_21 2 (((10 * dd9) + (5 * (num % 2))) + 4) (bI st) := ⟨_, rfl⟩
                rw [← hV_22] at hw
                refine lv_aload_n hx hb dX3_rebuild_339 rfl (lv_at hl 2 rfl) ?_
                refine lv_iconst (v := (-1)) hx hb dX3_rebuild_340 (by decide) ?_
                refine w_put (ci := 3) (C := RX3) (T := TX3) (M := 24) (x := (-1)) (ty := .int) hx hb hts hi3 tyX3 tyX3_ok nmX3 hown hK hw 0 (by omega) _ (mF_0 _) rfl 9 (by decide) (hts (.fieldLink RX3 13 "WideningArrayModel" "fresh" "I") (by decide +kernel)) rfl (by decide +kernel) rfl rfl (Nat.le_of_ble_eq_true rfl) (mF_0 _) dX3_rebuild_341 (fun H locs hw => ?_)
                obtain ⟨V_23, hV_23⟩ : ∃ z : vT, z = u2 V_22 0 9 (-1) := ⟨_, rfl⟩
                rw [← hV_23] at hw
                refine lv_iload_n hx hb dX3_rebuild_344 rfl (lv_at hl 1 rfl) ?_
                exact w_iret hx hb hr hlocks hw (by have hL : oRebuild (ct, (md, fd), (n, wide, dn, st, num), (lost, nI dd9), (fp, sh)) = (0, nI dd9, (rbc ct n wide dn st num dd9, (md, fd), (n, wide, dn, st, num), (lost, -1), (fp, sh))) := (by rw [oRebuild, ifS_y (a := (ct, (md, fd), (n, wide, dn, st, num), (lost, nI dd9), (fp, sh))) e1 e2]; refine (if_neg ez).trans (by rw [nI_clamp (by omega)])); have h3 := u5_marks (b := mkb num n wide dn st) hV_18 hV_19 hV_20 hV_21 hV_22 rfl rfl rfl rfl rfl; rw [hL]; exact ⟨by rw [hV_23, u2_n _ _ (Or.inr (by decide)), h3.1 0 (by decide), h2.1 0 (by decide), h1.1 0 (by decide) (by decide)]; exact h00, fun _ => rfl, mR_rebuild hR e1 e2 (by omega) hn3 hn6 hwn hsw (by omega) h1 h2 h3 hV_23⟩) dX3_rebuild_345
              · refine lv_iconst (v := nI 1) hx hb dX3_rebuild_333 (by decide) ?_
                refine lv_goto (tgt := 338) hx hb dX3_rebuild_334 (by decide) ?_
                refine n_is (show nI 1 = bI st from by rw [bI_n0.mp c_330]; rfl) ?_
                refine w_iast hx hb hK hw 2 70 (by omega) (fun _ => rfl) (i := ((10 * dd9) + (5 * (num % 2))) + 4) (by omega) (by decide) dX3_rebuild_338 (fun H locs hw => ?_)
                obtain ⟨V_24, hV_24⟩ : ∃ z : vT, z = u2 V_21 2 (((10 * dd9) + (5 * (num % 2))) + 4) (bI st) := ⟨_, rfl⟩
                rw [← hV_24] at hw
                refine lv_aload_n hx hb dX3_rebuild_339 rfl (lv_at hl 2 rfl) ?_
                refine lv_iconst (v := (-1)) hx hb dX3_rebuild_340 (by decide) ?_
                refine w_put (ci := 3) (C := RX3) (T := TX3) (M := 24) (x := (-1)) (ty := .int) hx hb hts hi3 tyX3 tyX3_ok nmX3 hown hK hw 0 (by omega) _ (mF_0 _) rfl 9 (by decide) (hts (.fieldLink RX3 13 "WideningArrayModel" "fresh" "I") (by decide +kernel)) rfl (by decide +kernel) rfl rfl (Nat.le_of_ble_eq_true rfl) (mF_0 _) dX3_rebuild_341 (fun H locs hw => ?_)
                obtain ⟨V_25, hV_25⟩ : ∃ z : vT, z = u2 V_24 0 9 (-1) := ⟨_, rfl⟩
                rw [← hV_25] at hw
                refine lv_iload_n hx hb dX3_rebuild_344 rfl (lv_at hl 1 rfl) ?_
                exact w_iret hx hb hr hlocks hw (by have hL : oRebuild (ct, (md, fd), (n, wide, dn, st, num), (lost, nI dd9), (fp, sh)) = (0, nI dd9, (rbc ct n wide dn st num dd9, (md, fd), (n, wide, dn, st, num), (lost, -1), (fp, sh))) := (by rw [oRebuild, ifS_y (a := (ct, (md, fd), (n, wide, dn, st, num), (lost, nI dd9), (fp, sh))) e1 e2]; refine (if_neg ez).trans (by rw [nI_clamp (by omega)])); have h3 := u5_marks (b := mkb num n wide dn st) hV_18 hV_19 hV_20 hV_21 hV_24 rfl rfl rfl rfl rfl; rw [hL]; exact ⟨by rw [hV_25, u2_n _ _ (Or.inr (by decide)), h3.1 0 (by decide), h2.1 0 (by decide), h1.1 0 (by decide) (by decide)]; exact h00, fun _ => rfl, mR_rebuild hR e1 e2 (by omega) hn3 hn6 hwn hsw (by omega) h1 h2 h3 hV_25⟩) dX3_rebuild_345
            · refine lv_iconst (v := nI 1) hx hb dX3_rebuild_287 (by decide) ?_
              refine lv_goto (tgt := 292) hx hb dX3_rebuild_288 (by decide) ?_
              refine n_is (show nI 1 = bI wide from by rw [bI_n0.mp c_284]; rfl) ?_
              refine w_iast hx hb hK hw 2 70 (by omega) (fun _ => rfl) (i := ((10 * dd9) + (5 * (num % 2))) + 2) (by omega) (by decide) dX3_rebuild_292 (fun H locs hw => ?_)
              obtain ⟨V_26, hV_26⟩ : ∃ z : vT, z = u2 V_19 2 (((10 * dd9) + (5 * (num % 2))) + 2) (bI wide) := ⟨_, rfl⟩
              rw [← hV_26] at hw
              refine lv_aload_n hx hb dX3_rebuild_293 rfl (lv_at hl 2 rfl) ?_
              refine w_get (ci := 3) (C := RX3) (T := TX3) (M := 24) (v := .ref (ad 2)) hx hb hts hi3 hown hK hw 0 (by omega) _ (mF_0 _) rfl 15 (by decide) (hts (.fieldLink RX3 20 "WideningArrayModel" "marks" "[I") (by decide +kernel)) rfl dX3_rebuild_294 ?_
              refine lv_bipush (v := nI 10) hx hb dX3_rebuild_297 (by decide) ?_
              refine lv_iload_n hx hb dX3_rebuild_299 rfl (lv_at hl 1 rfl) ?_
              refine n_mul hx hb dX3_rebuild_300 ?_
              refine lv_iconst (v := nI 5) hx hb dX3_rebuild_301 (by decide) ?_
              refine lv_iload_n hx hb dX3_rebuild_302 rfl (lv_at hl 0 rfl) ?_
              refine n_mul hx hb dX3_rebuild_303 ?_
              refine n_add hx hb dX3_rebuild_304 ?_
              refine lv_iconst (v := nI 3) hx hb dX3_rebuild_305 (by decide) ?_
              refine n_add hx hb dX3_rebuild_306 ?_
              refine lv_aload_n hx hb dX3_rebuild_307 rfl (lv_at hl 2 rfl) ?_
              refine w_get (ci := 3) (C := RX3) (T := TX3) (M := 24) (v := .int (nI dn)) hx hb hts hi3 hown hK hw 0 (by omega) _ (mF_0 _) rfl 4 (by decide) (hts (.fieldLink RX3 64 "WideningArrayModel" "done" "I") (by decide +kernel)) (congrArg (fun z => some (Value.int z)) (show V_26 0 4 = nI dn from by rw [hV_26, u2_r _ _ (by decide)]; exact (by rw [hV_19, u2_r _ _ (by decide)]; exact (by rw [hV_18, u2_r _ _ (by decide)]; exact (by rw [hVS]; exact (by rw [h1.1 0 (by decide) (by decide)]; exact hdn)))))) dX3_rebuild_308 ?_
              refine w_iast hx hb hK hw 2 70 (by omega) (fun _ => rfl) (i := ((10 * dd9) + (5 * (num % 2))) + 3) (by omega) (by decide) dX3_rebuild_311 (fun H locs hw => ?_)
              obtain ⟨V_27, hV_27⟩ : ∃ z : vT, z = u2 V_26 2 (((10 * dd9) + (5 * (num % 2))) + 3) (nI dn) := ⟨_, rfl⟩
              rw [← hV_27] at hw
              refine lv_aload_n hx hb dX3_rebuild_312 rfl (lv_at hl 2 rfl) ?_
              refine w_get (ci := 3) (C := RX3) (T := TX3) (M := 24) (v := .ref (ad 2)) hx hb hts hi3 hown hK hw 0 (by omega) _ (mF_0 _) rfl 15 (by decide) (hts (.fieldLink RX3 20 "WideningArrayModel" "marks" "[I") (by decide +kernel)) rfl dX3_rebuild_313 ?_
              refine lv_bipush (v := nI 10) hx hb dX3_rebuild_316 (by decide) ?_
              refine lv_iload_n hx hb dX3_rebuild_318 rfl (lv_at hl 1 rfl) ?_
              refine n_mul hx hb dX3_rebuild_319 ?_
              refine lv_iconst (v := nI 5) hx hb dX3_rebuild_320 (by decide) ?_
              refine lv_iload_n hx hb dX3_rebuild_321 rfl (lv_at hl 0 rfl) ?_
              refine n_mul hx hb dX3_rebuild_322 ?_
              refine n_add hx hb dX3_rebuild_323 ?_
              refine lv_iconst (v := nI 4) hx hb dX3_rebuild_324 (by decide) ?_
              refine n_add hx hb dX3_rebuild_325 ?_
              refine lv_aload_n hx hb dX3_rebuild_326 rfl (lv_at hl 2 rfl) ?_
              refine w_get (ci := 3) (C := RX3) (T := TX3) (M := 24) (v := .int (bI st)) hx hb hts hi3 hown hK hw 0 (by omega) _ (mF_0 _) rfl 7 (by decide) (hts (.fieldLink RX3 67 "WideningArrayModel" "isStashed" "Z") (by decide +kernel)) (congrArg (fun z => some (Value.int z)) (show V_27 0 7 = bI st from by rw [hV_27, u2_r _ _ (by decide)]; exact (by rw [hV_26, u2_r _ _ (by decide)]; exact (by rw [hV_19, u2_r _ _ (by decide)]; exact (by rw [hV_18, u2_r _ _ (by decide)]; exact (by rw [hVS]; exact (by rw [h1.1 0 (by decide) (by decide)]; exact hst))))))) dX3_rebuild_327 ?_
              refine lv_if_eq (tgt := 337) hx hb dX3_rebuild_330 (by decide) (fun c_330 => ?_) (fun c_330 => ?_)
              · refine lv_iconst (v := nI 0) hx hb dX3_rebuild_337 (by decide) ?_
                refine n_is (show nI 0 = bI st from by rw [bI_0.mp c_330]; rfl) ?_
                refine w_iast hx hb hK hw 2 70 (by omega) (fun _ => rfl) (i := ((10 * dd9) + (5 * (num % 2))) + 4) (by omega) (by decide) dX3_rebuild_338 (fun H locs hw => ?_)
                obtain ⟨V_28, hV_28⟩ : ∃ z : vT, z = u2 V_27 2 (((10 * dd9) + (5 * (num % 2))) + 4) (bI st) := ⟨_, rfl⟩
                rw [← hV_28] at hw
                refine lv_aload_n hx hb dX3_rebuild_339 rfl (lv_at hl 2 rfl) ?_
                refine lv_iconst (v := (-1)) hx hb dX3_rebuild_340 (by decide) ?_
                refine w_put (ci := 3) (C := RX3) (T := TX3) (M := 24) (x := (-1)) (ty := .int) hx hb hts hi3 tyX3 tyX3_ok nmX3 hown hK hw 0 (by omega) _ (mF_0 _) rfl 9 (by decide) (hts (.fieldLink RX3 13 "WideningArrayModel" "fresh" "I") (by decide +kernel)) rfl (by decide +kernel) rfl rfl (Nat.le_of_ble_eq_true rfl) (mF_0 _) dX3_rebuild_341 (fun H locs hw => ?_)
                obtain ⟨V_29, hV_29⟩ : ∃ z : vT, z = u2 V_28 0 9 (-1) := ⟨_, rfl⟩
                rw [← hV_29] at hw
                refine lv_iload_n hx hb dX3_rebuild_344 rfl (lv_at hl 1 rfl) ?_
                exact w_iret hx hb hr hlocks hw (by have hL : oRebuild (ct, (md, fd), (n, wide, dn, st, num), (lost, nI dd9), (fp, sh)) = (0, nI dd9, (rbc ct n wide dn st num dd9, (md, fd), (n, wide, dn, st, num), (lost, -1), (fp, sh))) := (by rw [oRebuild, ifS_y (a := (ct, (md, fd), (n, wide, dn, st, num), (lost, nI dd9), (fp, sh))) e1 e2]; refine (if_neg ez).trans (by rw [nI_clamp (by omega)])); have h3 := u5_marks (b := mkb num n wide dn st) hV_18 hV_19 hV_26 hV_27 hV_28 rfl rfl rfl rfl rfl; rw [hL]; exact ⟨by rw [hV_29, u2_n _ _ (Or.inr (by decide)), h3.1 0 (by decide), h2.1 0 (by decide), h1.1 0 (by decide) (by decide)]; exact h00, fun _ => rfl, mR_rebuild hR e1 e2 (by omega) hn3 hn6 hwn hsw (by omega) h1 h2 h3 hV_29⟩) dX3_rebuild_345
              · refine lv_iconst (v := nI 1) hx hb dX3_rebuild_333 (by decide) ?_
                refine lv_goto (tgt := 338) hx hb dX3_rebuild_334 (by decide) ?_
                refine n_is (show nI 1 = bI st from by rw [bI_n0.mp c_330]; rfl) ?_
                refine w_iast hx hb hK hw 2 70 (by omega) (fun _ => rfl) (i := ((10 * dd9) + (5 * (num % 2))) + 4) (by omega) (by decide) dX3_rebuild_338 (fun H locs hw => ?_)
                obtain ⟨V_30, hV_30⟩ : ∃ z : vT, z = u2 V_27 2 (((10 * dd9) + (5 * (num % 2))) + 4) (bI st) := ⟨_, rfl⟩
                rw [← hV_30] at hw
                refine lv_aload_n hx hb dX3_rebuild_339 rfl (lv_at hl 2 rfl) ?_
                refine lv_iconst (v := (-1)) hx hb dX3_rebuild_340 (by decide) ?_
                refine w_put (ci := 3) (C := RX3) (T := TX3) (M := 24) (x := (-1)) (ty := .int) hx hb hts hi3 tyX3 tyX3_ok nmX3 hown hK hw 0 (by omega) _ (mF_0 _) rfl 9 (by decide) (hts (.fieldLink RX3 13 "WideningArrayModel" "fresh" "I") (by decide +kernel)) rfl (by decide +kernel) rfl rfl (Nat.le_of_ble_eq_true rfl) (mF_0 _) dX3_rebuild_341 (fun H locs hw => ?_)
                obtain ⟨V_31, hV_31⟩ : ∃ z : vT, z = u2 V_30 0 9 (-1) := ⟨_, rfl⟩
                rw [← hV_31] at hw
                refine lv_iload_n hx hb dX3_rebuild_344 rfl (lv_at hl 1 rfl) ?_
                exact w_iret hx hb hr hlocks hw (by have hL : oRebuild (ct, (md, fd), (n, wide, dn, st, num), (lost, nI dd9), (fp, sh)) = (0, nI dd9, (rbc ct n wide dn st num dd9, (md, fd), (n, wide, dn, st, num), (lost, -1), (fp, sh))) := (by rw [oRebuild, ifS_y (a := (ct, (md, fd), (n, wide, dn, st, num), (lost, nI dd9), (fp, sh))) e1 e2]; refine (if_neg ez).trans (by rw [nI_clamp (by omega)])); have h3 := u5_marks (b := mkb num n wide dn st) hV_18 hV_19 hV_26 hV_27 hV_30 rfl rfl rfl rfl rfl; rw [hL]; exact ⟨by rw [hV_31, u2_n _ _ (Or.inr (by decide)), h3.1 0 (by decide), h2.1 0 (by decide), h1.1 0 (by decide) (by decide)]; exact h00, fun _ => rfl, mR_rebuild hR e1 e2 (by omega) hn3 hn6 hwn hsw (by omega) h1 h2 h3 hV_31⟩) dX3_rebuild_345
          · refine lv_iload_n hx hb dX3_rebuild_153 rfl (lv_at hl 1 rfl) ?_
            refine lv_if_eq (tgt := 165) hx hb dX3_rebuild_154 (by decide) (fun c_154 => ?_) (fun c_154 => ?_)
            · exact absurd (show st = true ∧ (dd9 = 0 ∨ dd9 = n) from ⟨bI_n0.mp c_150, by first | exact Or.inl ((nI_z (by omega)).mp c_154) | exact Or.inr c_162⟩) hcd
            · refine lv_iload_n hx hb dX3_rebuild_157 rfl (lv_at hl 1 rfl) ?_
              refine lv_aload_n hx hb dX3_rebuild_158 rfl (lv_at hl 2 rfl) ?_
              refine w_get (ci := 3) (C := RX3) (T := TX3) (M := 24) (v := .int (nI n)) hx hb hts hi3 hown hK hw 0 (by omega) _ (mF_0 _) rfl 3 (by decide) (hts (.fieldLink RX3 57 "WideningArrayModel" "n" "I") (by decide +kernel)) (congrArg (fun z => some (Value.int z)) (show V_S 0 3 = nI n from by rw [hVS]; exact (by rw [h1.1 0 (by decide) (by decide)]; exact hn))) dX3_rebuild_159 ?_
              refine n_icmp_ne (tgt := 223) hx hb dX3_rebuild_162 (by decide) (by omega) (by omega) (fun c_162 => ?_) (fun c_162 => ?_)
              · refine lv_aload_n hx hb dX3_rebuild_223 rfl (lv_at hl 2 rfl) ?_
                refine w_get (ci := 3) (C := RX3) (T := TX3) (M := 24) (v := .int (nI num)) hx hb hts hi3 hown hK hw 0 (by omega) _ (mF_0 _) rfl 5 (by decide) (hts (.fieldLink RX3 106 "WideningArrayModel" "number" "I") (by decide +kernel)) (congrArg (fun z => some (Value.int z)) (show V_S 0 5 = nI num from by rw [hVS]; exact (by rw [h1.1 0 (by decide) (by decide)]; exact hnum))) dX3_rebuild_224 ?_
                refine lv_iconst (v := nI 2) hx hb dX3_rebuild_227 (by decide) ?_
                refine n_rem hx hb dX3_rebuild_228 (by omega) (by omega) (by omega) ?_
                refine lv_istore_n (lv' := [(2, .int (nI (num % 2))), (1, .int (nI dd9)), (0, .ref (ad 0))]) hx hb dX3_rebuild_229 rfl hl (by decide) rfl (fun ls hl => ?_)
                refine lv_aload_n hx hb dX3_rebuild_230 rfl (lv_at hl 2 rfl) ?_
                refine w_get (ci := 3) (C := RX3) (T := TX3) (M := 24) (v := .ref (ad 2)) hx hb hts hi3 hown hK hw 0 (by omega) _ (mF_0 _) rfl 15 (by decide) (hts (.fieldLink RX3 20 "WideningArrayModel" "marks" "[I") (by decide +kernel)) rfl dX3_rebuild_231 ?_
                refine lv_bipush (v := nI 10) hx hb dX3_rebuild_234 (by decide) ?_
                refine lv_iload_n hx hb dX3_rebuild_236 rfl (lv_at hl 1 rfl) ?_
                refine n_mul hx hb dX3_rebuild_237 ?_
                refine lv_iconst (v := nI 5) hx hb dX3_rebuild_238 (by decide) ?_
                refine lv_iload_n hx hb dX3_rebuild_239 rfl (lv_at hl 0 rfl) ?_
                refine n_mul hx hb dX3_rebuild_240 ?_
                refine n_add hx hb dX3_rebuild_241 ?_
                refine lv_aload_n hx hb dX3_rebuild_242 rfl (lv_at hl 2 rfl) ?_
                refine w_get (ci := 3) (C := RX3) (T := TX3) (M := 24) (v := .int (nI num)) hx hb hts hi3 hown hK hw 0 (by omega) _ (mF_0 _) rfl 5 (by decide) (hts (.fieldLink RX3 106 "WideningArrayModel" "number" "I") (by decide +kernel)) (congrArg (fun z => some (Value.int z)) (show V_S 0 5 = nI num from by rw [hVS]; exact (by rw [h1.1 0 (by decide) (by decide)]; exact hnum))) dX3_rebuild_243 ?_
                refine w_iast hx hb hK hw 2 70 (by omega) (fun _ => rfl) (i := (10 * dd9) + (5 * (num % 2))) (by omega) (by decide) dX3_rebuild_246 (fun H locs hw => ?_)
                obtain ⟨V_32, hV_32⟩ : ∃ z : vT, z = u2 V_S 2 ((10 * dd9) + (5 * (num % 2))) (nI num) := ⟨_, rfl⟩
                rw [← hV_32] at hw
                refine lv_aload_n hx hb dX3_rebuild_247 rfl (lv_at hl 2 rfl) ?_
                refine w_get (ci := 3) (C := RX3) (T := TX3) (M := 24) (v := .ref (ad 2)) hx hb hts hi3 hown hK hw 0 (by omega) _ (mF_0 _) rfl 15 (by decide) (hts (.fieldLink RX3 20 "WideningArrayModel" "marks" "[I") (by decide +kernel)) rfl dX3_rebuild_248 ?_
                refine lv_bipush (v := nI 10) hx hb dX3_rebuild_251 (by decide) ?_
                refine lv_iload_n hx hb dX3_rebuild_253 rfl (lv_at hl 1 rfl) ?_
                refine n_mul hx hb dX3_rebuild_254 ?_
                refine lv_iconst (v := nI 5) hx hb dX3_rebuild_255 (by decide) ?_
                refine lv_iload_n hx hb dX3_rebuild_256 rfl (lv_at hl 0 rfl) ?_
                refine n_mul hx hb dX3_rebuild_257 ?_
                refine n_add hx hb dX3_rebuild_258 ?_
                refine lv_iconst (v := nI 1) hx hb dX3_rebuild_259 (by decide) ?_
                refine n_add hx hb dX3_rebuild_260 ?_
                refine lv_aload_n hx hb dX3_rebuild_261 rfl (lv_at hl 2 rfl) ?_
                refine w_get (ci := 3) (C := RX3) (T := TX3) (M := 24) (v := .int (nI n)) hx hb hts hi3 hown hK hw 0 (by omega) _ (mF_0 _) rfl 3 (by decide) (hts (.fieldLink RX3 57 "WideningArrayModel" "n" "I") (by decide +kernel)) (congrArg (fun z => some (Value.int z)) (show V_32 0 3 = nI n from by rw [hV_32, u2_r _ _ (by decide)]; exact (by rw [hVS]; exact (by rw [h1.1 0 (by decide) (by decide)]; exact hn)))) dX3_rebuild_262 ?_
                refine w_iast hx hb hK hw 2 70 (by omega) (fun _ => rfl) (i := ((10 * dd9) + (5 * (num % 2))) + 1) (by omega) (by decide) dX3_rebuild_265 (fun H locs hw => ?_)
                obtain ⟨V_33, hV_33⟩ : ∃ z : vT, z = u2 V_32 2 (((10 * dd9) + (5 * (num % 2))) + 1) (nI n) := ⟨_, rfl⟩
                rw [← hV_33] at hw
                refine lv_aload_n hx hb dX3_rebuild_266 rfl (lv_at hl 2 rfl) ?_
                refine w_get (ci := 3) (C := RX3) (T := TX3) (M := 24) (v := .ref (ad 2)) hx hb hts hi3 hown hK hw 0 (by omega) _ (mF_0 _) rfl 15 (by decide) (hts (.fieldLink RX3 20 "WideningArrayModel" "marks" "[I") (by decide +kernel)) rfl dX3_rebuild_267 ?_
                refine lv_bipush (v := nI 10) hx hb dX3_rebuild_270 (by decide) ?_
                refine lv_iload_n hx hb dX3_rebuild_272 rfl (lv_at hl 1 rfl) ?_
                refine n_mul hx hb dX3_rebuild_273 ?_
                refine lv_iconst (v := nI 5) hx hb dX3_rebuild_274 (by decide) ?_
                refine lv_iload_n hx hb dX3_rebuild_275 rfl (lv_at hl 0 rfl) ?_
                refine n_mul hx hb dX3_rebuild_276 ?_
                refine n_add hx hb dX3_rebuild_277 ?_
                refine lv_iconst (v := nI 2) hx hb dX3_rebuild_278 (by decide) ?_
                refine n_add hx hb dX3_rebuild_279 ?_
                refine lv_aload_n hx hb dX3_rebuild_280 rfl (lv_at hl 2 rfl) ?_
                refine w_get (ci := 3) (C := RX3) (T := TX3) (M := 24) (v := .int (bI wide)) hx hb hts hi3 hown hK hw 0 (by omega) _ (mF_0 _) rfl 6 (by decide) (hts (.fieldLink RX3 54 "WideningArrayModel" "isWide" "Z") (by decide +kernel)) (congrArg (fun z => some (Value.int z)) (show V_33 0 6 = bI wide from by rw [hV_33, u2_r _ _ (by decide)]; exact (by rw [hV_32, u2_r _ _ (by decide)]; exact (by rw [hVS]; exact (by rw [h1.1 0 (by decide) (by decide)]; exact hwd))))) dX3_rebuild_281 ?_
                refine lv_if_eq (tgt := 291) hx hb dX3_rebuild_284 (by decide) (fun c_284 => ?_) (fun c_284 => ?_)
                · refine lv_iconst (v := nI 0) hx hb dX3_rebuild_291 (by decide) ?_
                  refine n_is (show nI 0 = bI wide from by rw [bI_0.mp c_284]; rfl) ?_
                  refine w_iast hx hb hK hw 2 70 (by omega) (fun _ => rfl) (i := ((10 * dd9) + (5 * (num % 2))) + 2) (by omega) (by decide) dX3_rebuild_292 (fun H locs hw => ?_)
                  obtain ⟨V_34, hV_34⟩ : ∃ z : vT, z = u2 V_33 2 (((10 * dd9) + (5 * (num % 2))) + 2) (bI wide) := ⟨_, rfl⟩
                  rw [← hV_34] at hw
                  refine lv_aload_n hx hb dX3_rebuild_293 rfl (lv_at hl 2 rfl) ?_
                  refine w_get (ci := 3) (C := RX3) (T := TX3) (M := 24) (v := .ref (ad 2)) hx hb hts hi3 hown hK hw 0 (by omega) _ (mF_0 _) rfl 15 (by decide) (hts (.fieldLink RX3 20 "WideningArrayModel" "marks" "[I") (by decide +kernel)) rfl dX3_rebuild_294 ?_
                  refine lv_bipush (v := nI 10) hx hb dX3_rebuild_297 (by decide) ?_
                  refine lv_iload_n hx hb dX3_rebuild_299 rfl (lv_at hl 1 rfl) ?_
                  refine n_mul hx hb dX3_rebuild_300 ?_
                  refine lv_iconst (v := nI 5) hx hb dX3_rebuild_301 (by decide) ?_
                  refine lv_iload_n hx hb dX3_rebuild_302 rfl (lv_at hl 0 rfl) ?_
                  refine n_mul hx hb dX3_rebuild_303 ?_
                  refine n_add hx hb dX3_rebuild_304 ?_
                  refine lv_iconst (v := nI 3) hx hb dX3_rebuild_305 (by decide) ?_
                  refine n_add hx hb dX3_rebuild_306 ?_
                  refine lv_aload_n hx hb dX3_rebuild_307 rfl (lv_at hl 2 rfl) ?_
                  refine w_get (ci := 3) (C := RX3) (T := TX3) (M := 24) (v := .int (nI dn)) hx hb hts hi3 hown hK hw 0 (by omega) _ (mF_0 _) rfl 4 (by decide) (hts (.fieldLink RX3 64 "WideningArrayModel" "done" "I") (by decide +kernel)) (congrArg (fun z => some (Value.int z)) (show V_34 0 4 = nI dn from by rw [hV_34, u2_r _ _ (by decide)]; exact (by rw [hV_33, u2_r _ _ (by decide)]; exact (by rw [hV_32, u2_r _ _ (by decide)]; exact (by rw [hVS]; exact (by rw [h1.1 0 (by decide) (by decide)]; exact hdn)))))) dX3_rebuild_308 ?_
                  refine w_iast hx hb hK hw 2 70 (by omega) (fun _ => rfl) (i := ((10 * dd9) + (5 * (num % 2))) + 3) (by omega) (by decide) dX3_rebuild_311 (fun H locs hw => ?_)
                  obtain ⟨V_35, hV_35⟩ : ∃ z : vT, z = u2 V_34 2 (((10 * dd9) + (5 * (num % 2))) + 3) (nI dn) := ⟨_, rfl⟩
                  rw [← hV_35] at hw
                  refine lv_aload_n hx hb dX3_rebuild_312 rfl (lv_at hl 2 rfl) ?_
                  refine w_get (ci := 3) (C := RX3) (T := TX3) (M := 24) (v := .ref (ad 2)) hx hb hts hi3 hown hK hw 0 (by omega) _ (mF_0 _) rfl 15 (by decide) (hts (.fieldLink RX3 20 "WideningArrayModel" "marks" "[I") (by decide +kernel)) rfl dX3_rebuild_313 ?_
                  refine lv_bipush (v := nI 10) hx hb dX3_rebuild_316 (by decide) ?_
                  refine lv_iload_n hx hb dX3_rebuild_318 rfl (lv_at hl 1 rfl) ?_
                  refine n_mul hx hb dX3_rebuild_319 ?_
                  refine lv_iconst (v := nI 5) hx hb dX3_rebuild_320 (by decide) ?_
                  refine lv_iload_n hx hb dX3_rebuild_321 rfl (lv_at hl 0 rfl) ?_
                  refine n_mul hx hb dX3_rebuild_322 ?_
                  refine n_add hx hb dX3_rebuild_323 ?_
                  refine lv_iconst (v := nI 4) hx hb dX3_rebuild_324 (by decide) ?_
                  refine n_add hx hb dX3_rebuild_325 ?_
                  refine lv_aload_n hx hb dX3_rebuild_326 rfl (lv_at hl 2 rfl) ?_
                  refine w_get (ci := 3) (C := RX3) (T := TX3) (M := 24) (v := .int (bI st)) hx hb hts hi3 hown hK hw 0 (by omega) _ (mF_0 _) rfl 7 (by decide) (hts (.fieldLink RX3 67 "WideningArrayModel" "isStashed" "Z") (by decide +kernel)) (congrArg (fun z => some (Value.int z)) (show V_35 0 7 = bI st from by rw [hV_35, u2_r _ _ (by decide)]; exact (by rw [hV_34, u2_r _ _ (by decide)]; exact (by rw [hV_33, u2_r _ _ (by decide)]; exact (by rw [hV_32, u2_r _ _ (by decide)]; exact (by rw [hVS]; exact (by rw [h1.1 0 (by decide) (by decide)]; exact hst))))))) dX3_rebuild_327 ?_
                  refine lv_if_eq (tgt := 337) hx hb dX3_rebuild_330 (by decide) (fun c_330 => ?_) (fun c_330 => ?_)
                  · refine lv_iconst (v := nI 0) hx hb dX3_rebuild_337 (by decide) ?_
                    refine n_is (show nI 0 = bI st from by rw [bI_0.mp c_330]; rfl) ?_
                    refine w_iast hx hb hK hw 2 70 (by omega) (fun _ => rfl) (i := ((10 * dd9) + (5 * (num % 2))) + 4) (by omega) (by decide) dX3_rebuild_338 (fun H locs hw => ?_)
                    obtain ⟨V_36, hV_36⟩ : ∃ z : vT, z = u2 V_35 2 (((10 * dd9) + (5 * (num % 2))) + 4) (bI st) := ⟨_, rfl⟩
                    rw [← hV_36] at hw
                    refine lv_aload_n hx hb dX3_rebuild_339 rfl (lv_at hl 2 rfl) ?_
                    refine lv_iconst (v := (-1)) hx hb dX3_rebuild_340 (by decide) ?_
                    refine w_put (ci := 3) (C := RX3) (T := TX3) (M := 24) (x := (-1)) (ty := .int) hx hb hts hi3 tyX3 tyX3_ok nmX3 hown hK hw 0 (by omega) _ (mF_0 _) rfl 9 (by decide) (hts (.fieldLink RX3 13 "WideningArrayModel" "fresh" "I") (by decide +kernel)) rfl (by decide +kernel) rfl rfl (Nat.le_of_ble_eq_true rfl) (mF_0 _) dX3_rebuild_341 (fun H locs hw => ?_)
                    obtain ⟨V_37, hV_37⟩ : ∃ z : vT, z = u2 V_36 0 9 (-1) := ⟨_, rfl⟩
                    rw [← hV_37] at hw
                    refine lv_iload_n hx hb dX3_rebuild_344 rfl (lv_at hl 1 rfl) ?_
                    exact w_iret hx hb hr hlocks hw (by have hL : oRebuild (ct, (md, fd), (n, wide, dn, st, num), (lost, nI dd9), (fp, sh)) = (0, nI dd9, (rbc ct n wide dn st num dd9, (md, fd), (n, wide, dn, st, num), (lost, -1), (fp, sh))) := (by rw [oRebuild, ifS_y (a := (ct, (md, fd), (n, wide, dn, st, num), (lost, nI dd9), (fp, sh))) e1 e2]; refine (if_neg ez).trans (by rw [nI_clamp (by omega)])); have h3 := u5_marks (b := mkb num n wide dn st) hV_32 hV_33 hV_34 hV_35 hV_36 rfl rfl rfl rfl rfl; rw [hL]; exact ⟨by rw [hV_37, u2_n _ _ (Or.inr (by decide)), h3.1 0 (by decide), h2.1 0 (by decide), h1.1 0 (by decide) (by decide)]; exact h00, fun _ => rfl, mR_rebuild hR e1 e2 (by omega) hn3 hn6 hwn hsw (by omega) h1 h2 h3 hV_37⟩) dX3_rebuild_345
                  · refine lv_iconst (v := nI 1) hx hb dX3_rebuild_333 (by decide) ?_
                    refine lv_goto (tgt := 338) hx hb dX3_rebuild_334 (by decide) ?_
                    refine n_is (show nI 1 = bI st from by rw [bI_n0.mp c_330]; rfl) ?_
                    refine w_iast hx hb hK hw 2 70 (by omega) (fun _ => rfl) (i := ((10 * dd9) + (5 * (num % 2))) + 4) (by omega) (by decide) dX3_rebuild_338 (fun H locs hw => ?_)
                    obtain ⟨V_38, hV_38⟩ : ∃ z : vT, z = u2 V_35 2 (((10 * dd9) + (5 * (num % 2))) + 4) (bI st) := ⟨_, rfl⟩
                    rw [← hV_38] at hw
                    refine lv_aload_n hx hb dX3_rebuild_339 rfl (lv_at hl 2 rfl) ?_
                    refine lv_iconst (v := (-1)) hx hb dX3_rebuild_340 (by decide) ?_
                    refine w_put (ci := 3) (C := RX3) (T := TX3) (M := 24) (x := (-1)) (ty := .int) hx hb hts hi3 tyX3 tyX3_ok nmX3 hown hK hw 0 (by omega) _ (mF_0 _) rfl 9 (by decide) (hts (.fieldLink RX3 13 "WideningArrayModel" "fresh" "I") (by decide +kernel)) rfl (by decide +kernel) rfl rfl (Nat.le_of_ble_eq_true rfl) (mF_0 _) dX3_rebuild_341 (fun H locs hw => ?_)
                    obtain ⟨V_39, hV_39⟩ : ∃ z : vT, z = u2 V_38 0 9 (-1) := ⟨_, rfl⟩
                    rw [← hV_39] at hw
                    refine lv_iload_n hx hb dX3_rebuild_344 rfl (lv_at hl 1 rfl) ?_
                    exact w_iret hx hb hr hlocks hw (by have hL : oRebuild (ct, (md, fd), (n, wide, dn, st, num), (lost, nI dd9), (fp, sh)) = (0, nI dd9, (rbc ct n wide dn st num dd9, (md, fd), (n, wide, dn, st, num), (lost, -1), (fp, sh))) := (by rw [oRebuild, ifS_y (a := (ct, (md, fd), (n, wide, dn, st, num), (lost, nI dd9), (fp, sh))) e1 e2]; refine (if_neg ez).trans (by rw [nI_clamp (by omega)])); have h3 := u5_marks (b := mkb num n wide dn st) hV_32 hV_33 hV_34 hV_35 hV_38 rfl rfl rfl rfl rfl; rw [hL]; exact ⟨by rw [hV_39, u2_n _ _ (Or.inr (by decide)), h3.1 0 (by decide), h2.1 0 (by decide), h1.1 0 (by decide) (by decide)]; exact h00, fun _ => rfl, mR_rebuild hR e1 e2 (by omega) hn3 hn6 hwn hsw (by omega) h1 h2 h3 hV_39⟩) dX3_rebuild_345
                · refine lv_iconst (v := nI 1) hx hb dX3_rebuild_287 (by decide) ?_
                  refine lv_goto (tgt := 292) hx hb dX3_rebuild_288 (by decide) ?_
                  refine n_is (show nI 1 = bI wide from by rw [bI_n0.mp c_284]; rfl) ?_
                  refine w_iast hx hb hK hw 2 70 (by omega) (fun _ => rfl) (i := ((10 * dd9) + (5 * (num % 2))) + 2) (by omega) (by decide) dX3_rebuild_292 (fun H locs hw => ?_)
                  obtain ⟨V_40, hV_40⟩ : ∃ z : vT, z = u2 V_33 2 (((10 * dd9) + (5 * (num % 2))) + 2) (bI wide) := ⟨_, rfl⟩
                  rw [← hV_40] at hw
                  refine lv_aload_n hx hb dX3_rebuild_293 rfl (lv_at hl 2 rfl) ?_
                  refine w_get (ci := 3) (C := RX3) (T := TX3) (M := 24) (v := .ref (ad 2)) hx hb hts hi3 hown hK hw 0 (by omega) _ (mF_0 _) rfl 15 (by decide) (hts (.fieldLink RX3 20 "WideningArrayModel" "marks" "[I") (by decide +kernel)) rfl dX3_rebuild_294 ?_
                  refine lv_bipush (v := nI 10) hx hb dX3_rebuild_297 (by decide) ?_
                  refine lv_iload_n hx hb dX3_rebuild_299 rfl (lv_at hl 1 rfl) ?_
                  refine n_mul hx hb dX3_rebuild_300 ?_
                  refine lv_iconst (v := nI 5) hx hb dX3_rebuild_301 (by decide) ?_
                  refine lv_iload_n hx hb dX3_rebuild_302 rfl (lv_at hl 0 rfl) ?_
                  refine n_mul hx hb dX3_rebuild_303 ?_
                  refine n_add hx hb dX3_rebuild_304 ?_
                  refine lv_iconst (v := nI 3) hx hb dX3_rebuild_305 (by decide) ?_
                  refine n_add hx hb dX3_rebuild_306 ?_
                  refine lv_aload_n hx hb dX3_rebuild_307 rfl (lv_at hl 2 rfl) ?_
                  refine w_get (ci := 3) (C := RX3) (T := TX3) (M := 24) (v := .int (nI dn)) hx hb hts hi3 hown hK hw 0 (by omega) _ (mF_0 _) rfl 4 (by decide) (hts (.fieldLink RX3 64 "WideningArrayModel" "done" "I") (by decide +kernel)) (congrArg (fun z => some (Value.int z)) (show V_40 0 4 = nI dn from by rw [hV_40, u2_r _ _ (by decide)]; exact (by rw [hV_33, u2_r _ _ (by decide)]; exact (by rw [hV_32, u2_r _ _ (by decide)]; exact (by rw [hVS]; exact (by rw [h1.1 0 (by decide) (by decide)]; exact hdn)))))) dX3_rebuild_308 ?_
                  refine w_iast hx hb hK hw 2 70 (by omega) (fun _ => rfl) (i := ((10 * dd9) + (5 * (num % 2))) + 3) (by omega) (by decide) dX3_rebuild_311 (fun H locs hw => ?_)
                  obtain ⟨V_41, hV_41⟩ : ∃ z : vT, z = u2 V_40 2 (((10 * dd9) + (5 * (num % 2))) + 3) (nI dn) := ⟨_, rfl⟩
                  rw [← hV_41] at hw
                  refine lv_aload_n hx hb dX3_rebuild_312 rfl (lv_at hl 2 rfl) ?_
                  refine w_get (ci := 3) (C := RX3) (T := TX3) (M := 24) (v := .ref (ad 2)) hx hb hts hi3 hown hK hw 0 (by omega) _ (mF_0 _) rfl 15 (by decide) (hts (.fieldLink RX3 20 "WideningArrayModel" "marks" "[I") (by decide +kernel)) rfl dX3_rebuild_313 ?_
                  refine lv_bipush (v := nI 10) hx hb dX3_rebuild_316 (by decide) ?_
                  refine lv_iload_n hx hb dX3_rebuild_318 rfl (lv_at hl 1 rfl) ?_
                  refine n_mul hx hb dX3_rebuild_319 ?_
                  refine lv_iconst (v := nI 5) hx hb dX3_rebuild_320 (by decide) ?_
                  refine lv_iload_n hx hb dX3_rebuild_321 rfl (lv_at hl 0 rfl) ?_
                  refine n_mul hx hb dX3_rebuild_322 ?_
                  refine n_add hx hb dX3_rebuild_323 ?_
                  refine lv_iconst (v := nI 4) hx hb dX3_rebuild_324 (by decide) ?_
                  refine n_add hx hb dX3_rebuild_325 ?_
                  refine lv_aload_n hx hb dX3_rebuild_326 rfl (lv_at hl 2 rfl) ?_
                  refine w_get (ci := 3) (C := RX3) (T := TX3) (M := 24) (v := .int (bI st)) hx hb hts hi3 hown hK hw 0 (by omega) _ (mF_0 _) rfl 7 (by decide) (hts (.fieldLink RX3 67 "WideningArrayModel" "isStashed" "Z") (by decide +kernel)) (congrArg (fun z => some (Value.int z)) (show V_41 0 7 = bI st from by rw [hV_41, u2_r _ _ (by decide)]; exact (by rw [hV_40, u2_r _ _ (by decide)]; exact (by rw [hV_33, u2_r _ _ (by decide)]; exact (by rw [hV_32, u2_r _ _ (by decide)]; exact (by rw [hVS]; exact (by rw [h1.1 0 (by decide) (by decide)]; exact hst))))))) dX3_rebuild_327 ?_
                  refine lv_if_eq (tgt := 337) hx hb dX3_rebuild_330 (by decide) (fun c_330 => ?_) (fun c_330 => ?_)
                  · refine lv_iconst (v := nI 0) hx hb dX3_rebuild_337 (by decide) ?_
                    refine n_is (show nI 0 = bI st from by rw [bI_0.mp c_330]; rfl) ?_
                    refine w_iast hx hb hK hw 2 70 (by omega) (fun _ => rfl) (i := ((10 * dd9) + (5 * (num % 2))) + 4) (by omega) (by decide) dX3_rebuild_338 (fun H locs hw => ?_)
                    obtain ⟨V_42, hV_42⟩ : ∃ z : vT, z = u2 V_41 2 (((10 * dd9) + (5 * (num % 2))) + 4) (bI st) := ⟨_, rfl⟩
                    rw [← hV_42] at hw
                    refine lv_aload_n hx hb dX3_rebuild_339 rfl (lv_at hl 2 rfl) ?_
                    refine lv_iconst (v := (-1)) hx hb dX3_rebuild_340 (by decide) ?_
                    refine w_put (ci := 3) (C := RX3) (T := TX3) (M := 24) (x := (-1)) (ty := .int) hx hb hts hi3 tyX3 tyX3_ok nmX3 hown hK hw 0 (by omega) _ (mF_0 _) rfl 9 (by decide) (hts (.fieldLink RX3 13 "WideningArrayModel" "fresh" "I") (by decide +kernel)) rfl (by decide +kernel) rfl rfl (Nat.le_of_ble_eq_true rfl) (mF_0 _) dX3_rebuild_341 (fun H locs hw => ?_)
                    obtain ⟨V_43, hV_43⟩ : ∃ z : vT, z = u2 V_42 0 9 (-1) := ⟨_, rfl⟩
                    rw [← hV_43] at hw
                    refine lv_iload_n hx hb dX3_rebuild_344 rfl (lv_at hl 1 rfl) ?_
                    exact w_iret hx hb hr hlocks hw (by have hL : oRebuild (ct, (md, fd), (n, wide, dn, st, num), (lost, nI dd9), (fp, sh)) = (0, nI dd9, (rbc ct n wide dn st num dd9, (md, fd), (n, wide, dn, st, num), (lost, -1), (fp, sh))) := (by rw [oRebuild, ifS_y (a := (ct, (md, fd), (n, wide, dn, st, num), (lost, nI dd9), (fp, sh))) e1 e2]; refine (if_neg ez).trans (by rw [nI_clamp (by omega)])); have h3 := u5_marks (b := mkb num n wide dn st) hV_32 hV_33 hV_40 hV_41 hV_42 rfl rfl rfl rfl rfl; rw [hL]; exact ⟨by rw [hV_43, u2_n _ _ (Or.inr (by decide)), h3.1 0 (by decide), h2.1 0 (by decide), h1.1 0 (by decide) (by decide)]; exact h00, fun _ => rfl, mR_rebuild hR e1 e2 (by omega) hn3 hn6 hwn hsw (by omega) h1 h2 h3 hV_43⟩) dX3_rebuild_345
                  · refine lv_iconst (v := nI 1) hx hb dX3_rebuild_333 (by decide) ?_
                    refine lv_goto (tgt := 338) hx hb dX3_rebuild_334 (by decide) ?_
                    refine n_is (show nI 1 = bI st from by rw [bI_n0.mp c_330]; rfl) ?_
                    refine w_iast hx hb hK hw 2 70 (by omega) (fun _ => rfl) (i := ((10 * dd9) + (5 * (num % 2))) + 4) (by omega) (by decide) dX3_rebuild_338 (fun H locs hw => ?_)
                    obtain ⟨V_44, hV_44⟩ : ∃ z : vT, z = u2 V_41 2 (((10 * dd9) + (5 * (num % 2))) + 4) (bI st) := ⟨_, rfl⟩
                    rw [← hV_44] at hw
                    refine lv_aload_n hx hb dX3_rebuild_339 rfl (lv_at hl 2 rfl) ?_
                    refine lv_iconst (v := (-1)) hx hb dX3_rebuild_340 (by decide) ?_
                    refine w_put (ci := 3) (C := RX3) (T := TX3) (M := 24) (x := (-1)) (ty := .int) hx hb hts hi3 tyX3 tyX3_ok nmX3 hown hK hw 0 (by omega) _ (mF_0 _) rfl 9 (by decide) (hts (.fieldLink RX3 13 "WideningArrayModel" "fresh" "I") (by decide +kernel)) rfl (by decide +kernel) rfl rfl (Nat.le_of_ble_eq_true rfl) (mF_0 _) dX3_rebuild_341 (fun H locs hw => ?_)
                    obtain ⟨V_45, hV_45⟩ : ∃ z : vT, z = u2 V_44 0 9 (-1) := ⟨_, rfl⟩
                    rw [← hV_45] at hw
                    refine lv_iload_n hx hb dX3_rebuild_344 rfl (lv_at hl 1 rfl) ?_
                    exact w_iret hx hb hr hlocks hw (by have hL : oRebuild (ct, (md, fd), (n, wide, dn, st, num), (lost, nI dd9), (fp, sh)) = (0, nI dd9, (rbc ct n wide dn st num dd9, (md, fd), (n, wide, dn, st, num), (lost, -1), (fp, sh))) := (by rw [oRebuild, ifS_y (a := (ct, (md, fd), (n, wide, dn, st, num), (lost, nI dd9), (fp, sh))) e1 e2]; refine (if_neg ez).trans (by rw [nI_clamp (by omega)])); have h3 := u5_marks (b := mkb num n wide dn st) hV_32 hV_33 hV_40 hV_41 hV_44 rfl rfl rfl rfl rfl; rw [hL]; exact ⟨by rw [hV_45, u2_n _ _ (Or.inr (by decide)), h3.1 0 (by decide), h2.1 0 (by decide), h1.1 0 (by decide) (by decide)]; exact h00, fun _ => rfl, mR_rebuild hR e1 e2 (by omega) hn3 hn6 hwn hsw (by omega) h1 h2 h3 hV_45⟩) dX3_rebuild_345
              · exact absurd (show st = true ∧ (dd9 = 0 ∨ dd9 = n) from ⟨bI_n0.mp c_150, by first | exact Or.inl ((nI_z (by omega)).mp c_154) | exact Or.inr c_162⟩) hcd
    · have ez : fresh = -1 := hfr9.elim id (fun ⟨d, hd, e⟩ => absurd (nI_pos' (n := d) (by omega)) (by rw [← e]; exact c_13))
      refine lv_aload_n hx hb dX3_rebuild_16 rfl (lv_at hl 0 rfl) ?_
      refine lv_iconst (v := nI 2) hx hb dX3_rebuild_17 (by decide) ?_
      refine w_calli hw (va_runV (As := [.int (nI 2)]) (rest := []) ⟨hx, hb, hml, hown, hts⟩ (c_X3_fail l D cI cD ad _ V_1 (nI 2)) (cwV 1 hts gX3_rebuild_X3_fail rfl rfl rfl (by decide +kernel) ⟨Nat.le_of_ble_eq_true rfl, Nat.le_of_ble_eq_true rfl⟩) (w_preV hK hw (by omega) (mF_0 _) rfl _) rfl rfl hl.1 rfl (lv_room (Nat.le_of_ble_eq_true rfl)) dX3_rebuild_18 ⟨Nat.le_of_ble_eq_true rfl, Nat.le_of_ble_eq_true rfl⟩) (fun r_47 V_46 H locs hp hw => ?_)
      obtain ⟨e9f, e8⟩ := hp
      subst e8
      exact w_iret hx hb hr hlocks hw (by have hL : oRebuild (ct, (md, fd), (n, wide, dn, st, num), (lost, fresh), (fp, sh)) = (2, 0, (ct, (md, fd), (n, wide, dn, st, num), (lost, fresh), (fp, sh))) := (by rw [oRebuild, ifS_y (a := (ct, (md, fd), (n, wide, dn, st, num), (lost, fresh), (fp, sh))) e1 e2]; exact if_pos ez); rw [hL]; exact ⟨by rw [e9f, u2_s], fun h => absurd (show (2 : Nat) = 0 from h) (by decide), mR_u0 hR e9f⟩) dX3_rebuild_21
  · have e12 := of_decide_eq_false (bI_0.mp c_4)
    rw [if_neg e12] at hW9
    refine lv_iconst (v := nI 0) hx hb dX3_rebuild_7 (by decide) ?_
    exact w_iret hx hb hr hlocks hw (by have hL : oRebuild (ct, (md, fd), (n, wide, dn, st, num), (lost, fresh), (fp, sh)) = (1, 0, (ct, (md, fd), (n, wide, dn, st, num), (lost, fresh), (fp, sh))) := (by rw [oRebuild, ifS_n (a := (ct, (md, fd), (n, wide, dn, st, num), (lost, fresh), (fp, sh))) e12]); rw [hL]; exact ⟨by rw [hW9, u2_s], fun h => absurd (show (1 : Nat) = 0 from h) (by decide), mR_u0 hR hW9⟩) dX3_rebuild_8
