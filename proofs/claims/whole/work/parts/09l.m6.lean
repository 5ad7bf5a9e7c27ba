set_option maxHeartbeats 4000000 in
set_option maxRecDepth 100000 in
theorem lp_X3_widen_w {p : Program} {l : Launch} {e : Env} {s : State} {m : MethodId} {args : Array Value} {below : List Frame} {meth : Method} {c : Code} {Q : State → Prop} {D : va_G} {cI cD : ClassId} {ad : Nat → Nat} (hx : p.tables.exec = Jvm.exec) (hb : c.code = cX3_widen) (hts : ∀ w ∈ wsX3_widen, w.before args s = true) (hown : s.vm.findClass RX3 = some m.cls) (hml : c.maxLocals = 2) (hK : kK D cI cD s) (V0 : vT) (n : Nat) (hn : V0 0 3 = nI n) (hd6 : n < 6) (hk : ∀ (V1 : vT) (H1 : Heap) (locs1 : List Loc) (ls : Array Slot), ((∀ a, a ≠ 1 → V1 a = V0 a) ∧ ∀ t, V1 1 t = if 160 * n ≤ t ∧ t < 160 * n + 160 then 0 else V0 1 t) → wS D 10 ad (mF cI ad) s.heap V1 H1 locs1 → lv_has ls 2 [(0, .ref (ad 0))] → W p l e ({ frames := 3, cells := 0, slots := 0, locals := 69 }) s m args below meth c H1 locs1 0 0 Q (F0 m 80 ls [])) : ∀ (n9 j : Nat) (V : vT) (H : Heap) (locs : List Loc) (ls : Array Slot), (j + n9 = 160) → ((∀ a, a ≠ 1 → V a = V0 a) ∧ ∀ t, V 1 t = if 160 * n ≤ t ∧ t < 160 * n + j then 0 else V0 1 t) → wS D 10 ad (mF cI ad) s.heap V H locs → lv_has ls 2 [(1, .int (nI (160 * n + j))), (0, .ref (ad 0))] → W p l e ({ frames := 3, cells := 0, slots := 0, locals := 69 }) s m args below meth c H locs 0 0 Q (F0 m 51 ls []) := by
  have hi3 : ∀ w ∈ wsX30, w ∈ wsX3_widen := by decide +kernel
  intro n9
  induction n9 with
  | zero =>
    intro j V H locs ls hjn hin hw hl
    refine lv_iload_n hx hb dX3_widen_51 rfl (lv_at hl 0 rfl) ?_
    refine lv_sipush (v := nI 160) hx hb dX3_widen_52 (by decide) ?_
    refine lv_aload_n hx hb dX3_widen_55 rfl (lv_at hl 1 rfl) ?_
    refine w_get (ci := 3) (C := RX3) (T := TX3) (M := 24) (v := .int (nI n)) hx hb hts hi3 hown hK hw 0 (by omega) _ (mF_0 _) rfl 3 (by decide) (hts (.fieldLink RX3 57 "WideningArrayModel" "n" "I") (by decide +kernel)) (congrArg (fun z => some (Value.int z)) (show V 0 3 = nI n from by rw [hin.1 0 (by decide)]; exact hn)) dX3_widen_56 ?_
    refine n_mul hx hb dX3_widen_59 ?_
    refine lv_sipush (v := nI 160) hx hb dX3_widen_60 (by decide) ?_
    refine n_add hx hb dX3_widen_63 ?_
    refine n_icmp_ge (tgt := 80) hx hb dX3_widen_64 (by decide) (by omega) (by omega) (fun c_64 => ?_) (fun c_64 => ?_)
    · have e1 : j = 160 := by omega
      subst e1
      exact hk V H locs ls hin hw (lv_sub hl [1] rfl)
    · exfalso
      omega
  | succ n9 ih =>
    intro j V H locs ls hjn hin hw hl
    refine lv_iload_n hx hb dX3_widen_51 rfl (lv_at hl 0 rfl) ?_
    refine lv_sipush (v := nI 160) hx hb dX3_widen_52 (by decide) ?_
    refine lv_aload_n hx hb dX3_widen_55 rfl (lv_at hl 1 rfl) ?_
    refine w_get (ci := 3) (C := RX3) (T := TX3) (M := 24) (v := .int (nI n)) hx hb hts hi3 hown hK hw 0 (by omega) _ (mF_0 _) rfl 3 (by decide) (hts (.fieldLink RX3 57 "WideningArrayModel" "n" "I") (by decide +kernel)) (congrArg (fun z => some (Value.int z)) (show V 0 3 = nI n from by rw [hin.1 0 (by decide)]; exact hn)) dX3_widen_56 ?_
    refine n_mul hx hb dX3_widen_59 ?_
    refine lv_sipush (v := nI 160) hx hb dX3_widen_60 (by decide) ?_
    refine n_add hx hb dX3_widen_63 ?_
    refine n_icmp_ge (tgt := 80) hx hb dX3_widen_64 (by decide) (by omega) (by omega) (fun c_64 => ?_) (fun c_64 => ?_)
    · exfalso
      omega
    · refine lv_aload_n hx hb dX3_widen_67 rfl (lv_at hl 1 rfl) ?_
      refine w_get (ci := 3) (C := RX3) (T := TX3) (M := 24) (v := .ref (ad 1)) hx hb hts hi3 hown hK hw 0 (by omega) _ (mF_0 _) rfl 14 (by decide) (hts (.fieldLink RX3 16 "WideningArrayModel" "words" "[I") (by decide +kernel)) rfl dX3_widen_68 ?_
      refine lv_iload_n hx hb dX3_widen_71 rfl (lv_at hl 0 rfl) ?_
      refine lv_iconst (v := nI 0) hx hb dX3_widen_72 (by decide) ?_
      refine w_iast hx hb hK hw 1 1120 (by omega) (fun _ => rfl) (i := 160 * n + j) (by omega) (by decide) dX3_widen_73 (fun H locs hw => ?_)
      obtain ⟨V_1, hV_1⟩ : ∃ z : vT, z = u2 V 1 (160 * n + j) (nI 0) := ⟨_, rfl⟩
      rw [← hV_1] at hw
      refine lv_iinc (v := nI (160 * n + j + 1)) (lv' := [(1, .int (nI (160 * n + j + 1))), (0, .ref (ad 0))]) hx hb dX3_widen_74 hl (k := 0) rfl (nI_1 _) (by decide) rfl (fun ls hl => ?_)
      refine lv_goto (tgt := 51) hx hb dX3_widen_77 (by decide) ?_
      have hin' : (∀ a, a ≠ 1 → V_1 a = V0 a) ∧ ∀ t, V_1 1 t = if 160 * n ≤ t ∧ t < 160 * n + (j + 1) then 0 else V0 1 t := by
        refine ⟨fun a ha => by rw [hV_1, u2_r _ _ ha]; exact hin.1 a ha, fun t => ?_⟩
        by_cases z : t = 160 * n + j
        · rw [z, hV_1, u2_s, if_pos (by omega)]; rfl
        · rw [hV_1, u2_n _ _ (Or.inr z), hin.2 t]
          by_cases z2 : 160 * n ≤ t ∧ t < 160 * n + j
          · rw [if_pos z2, if_pos (by omega)]
          · rw [if_neg z2, if_neg (by omega)]
      exact ih (j + 1) _ _ _ ls (by omega) hin' hw (lv_sub hl [0, 1] rfl)
set_option maxHeartbeats 4000000 in
set_option maxRecDepth 100000 in
theorem lp_X3_widen_m {p : Program} {l : Launch} {e : Env} {s : State} {m : MethodId} {args : Array Value} {below : List Frame} {meth : Method} {c : Code} {Q : State → Prop} {D : va_G} {cI cD : ClassId} {ad : Nat → Nat} (hx : p.tables.exec = Jvm.exec) (hb : c.code = cX3_widen) (hts : ∀ w ∈ wsX3_widen, w.before args s = true) (hown : s.vm.findClass RX3 = some m.cls) (hml : c.maxLocals = 2) (hK : kK D cI cD s) (V0 : vT) (n : Nat) (hn : V0 0 3 = nI n) (hd6 : n < 6) (hk : ∀ (V1 : vT) (H1 : Heap) (locs1 : List Loc) (ls : Array Slot), ((∀ a, a ≠ 2 → V1 a = V0 a) ∧ ∀ t, V1 2 t = if 10 * n ≤ t ∧ t < 10 * n + 10 then 0 else V0 2 t) → wS D 10 ad (mF cI ad) s.heap V1 H1 locs1 → lv_has ls 2 [(0, .ref (ad 0))] → W p l e ({ frames := 3, cells := 0, slots := 0, locals := 69 }) s m args below meth c H1 locs1 0 0 Q (F0 m 115 ls [])) : ∀ (n9 j : Nat) (V : vT) (H : Heap) (locs : List Loc) (ls : Array Slot), (j + n9 = 10) → ((∀ a, a ≠ 2 → V a = V0 a) ∧ ∀ t, V 2 t = if 10 * n ≤ t ∧ t < 10 * n + j then 0 else V0 2 t) → wS D 10 ad (mF cI ad) s.heap V H locs → lv_has ls 2 [(1, .int (nI (10 * n + j))), (0, .ref (ad 0))] → W p l e ({ frames := 3, cells := 0, slots := 0, locals := 69 }) s m args below meth c H locs 0 0 Q (F0 m 88 ls []) := by
  have hi3 : ∀ w ∈ wsX30, w ∈ wsX3_widen := by decide +kernel
  intro n9
  induction n9 with
  | zero =>
    intro j V H locs ls hjn hin hw hl
    refine lv_iload_n hx hb dX3_widen_88 rfl (lv_at hl 0 rfl) ?_
    refine lv_bipush (v := nI 10) hx hb dX3_widen_89 (by decide) ?_
    refine lv_aload_n hx hb dX3_widen_91 rfl (lv_at hl 1 rfl) ?_
    refine w_get (ci := 3) (C := RX3) (T := TX3) (M := 24) (v := .int (nI n)) hx hb hts hi3 hown hK hw 0 (by omega) _ (mF_0 _) rfl 3 (by decide) (hts (.fieldLink RX3 57 "WideningArrayModel" "n" "I") (by decide +kernel)) (congrArg (fun z => some (Value.int z)) (show V 0 3 = nI n from by rw [hin.1 0 (by decide)]; exact hn)) dX3_widen_92 ?_
    refine n_mul hx hb dX3_widen_95 ?_
    refine lv_bipush (v := nI 10) hx hb dX3_widen_96 (by decide) ?_
    refine n_add hx hb dX3_widen_98 ?_
    refine n_icmp_ge (tgt := 115) hx hb dX3_widen_99 (by decide) (by omega) (by omega) (fun c_99 => ?_) (fun c_99 => ?_)
    · have e1 : j = 10 := by omega
      subst e1
      exact hk V H locs ls hin hw (lv_sub hl [1] rfl)
    · exfalso
      omega
  | succ n9 ih =>
    intro j V H locs ls hjn hin hw hl
    refine lv_iload_n hx hb dX3_widen_88 rfl (lv_at hl 0 rfl) ?_
    refine lv_bipush (v := nI 10) hx hb dX3_widen_89 (by decide) ?_
    refine lv_aload_n hx hb dX3_widen_91 rfl (lv_at hl 1 rfl) ?_
    refine w_get (ci := 3) (C := RX3) (T := TX3) (M := 24) (v := .int (nI n)) hx hb hts hi3 hown hK hw 0 (by omega) _ (mF_0 _) rfl 3 (by decide) (hts (.fieldLink RX3 57 "WideningArrayModel" "n" "I") (by decide +kernel)) (congrArg (fun z => some (Value.int z)) (show V 0 3 = nI n from by rw [hin.1 0 (by decide)]; exact hn)) dX3_widen_92 ?_
    refine n_mul hx hb dX3_widen_95 ?_
    refine lv_bipush (v := nI 10) hx hb dX3_widen_96 (by decide) ?_
    refine n_add hx hb dX3_widen_98 ?_
    refine n_icmp_ge (tgt := 115) hx hb dX3_widen_99 (by decide) (by omega) (by omega) (fun c_99 => ?_) (fun c_99 => ?_)
    · exfalso
      omega
    · refine lv_aload_n hx hb dX3_widen_102 rfl (lv_at hl 1 rfl) ?_
      refine w_get (ci := 3) (C := RX3) (T := TX3) (M := 24) (v := .ref (ad 2)) hx hb hts hi3 hown hK hw 0 (by omega) _ (mF_0 _) rfl 15 (by decide) (hts (.fieldLink RX3 20 "WideningArrayModel" "marks" "[I") (by decide +kernel)) rfl dX3_widen_103 ?_
      refine lv_iload_n hx hb dX3_widen_106 rfl (lv_at hl 0 rfl) ?_
      refine lv_iconst (v := nI 0) hx hb dX3_widen_107 (by decide) ?_
      refine w_iast hx hb hK hw 2 70 (by omega) (fun _ => rfl) (i := 10 * n + j) (by omega) (by decide) dX3_widen_108 (fun H locs hw => ?_)
      obtain ⟨V_1, hV_1⟩ : ∃ z : vT, z = u2 V 2 (10 * n + j) (nI 0) := ⟨_, rfl⟩
      rw [← hV_1] at hw
      refine lv_iinc (v := nI (10 * n + j + 1)) (lv' := [(1, .int (nI (10 * n + j + 1))), (0, .ref (ad 0))]) hx hb dX3_widen_109 hl (k := 0) rfl (nI_1 _) (by decide) rfl (fun ls hl => ?_)
      refine lv_goto (tgt := 88) hx hb dX3_widen_112 (by decide) ?_
      have hin' : (∀ a, a ≠ 2 → V_1 a = V0 a) ∧ ∀ t, V_1 2 t = if 10 * n ≤ t ∧ t < 10 * n + (j + 1) then 0 else V0 2 t := by
        refine ⟨fun a ha => by rw [hV_1, u2_r _ _ ha]; exact hin.1 a ha, fun t => ?_⟩
        by_cases z : t = 10 * n + j
        · rw [z, hV_1, u2_s, if_pos (by omega)]; rfl
        · rw [hV_1, u2_n _ _ (Or.inr z), hin.2 t]
          by_cases z2 : 10 * n ≤ t ∧ t < 10 * n + j
          · rw [if_pos z2, if_pos (by omega)]
          · rw [if_neg z2, if_neg (by omega)]
      exact ih (j + 1) _ _ _ ls (by omega) hin' hw (lv_sub hl [0, 1] rfl)
set_option maxHeartbeats 4000000 in
set_option maxRecDepth 100000 in
theorem c_X3_widen (l : Launch) (D : va_G) (cI cD : ClassId) (ad : Nat → Nat) (sz : Nat) (V : vT) (ct : Nat → Nat → Int32) (md fd : Bool) (n : Nat) (wide : Bool) (dn : Nat) (st : Bool) (num : Nat) (lost fresh : Int32) (fp : Nat) (sh : Int32) (hR : mR V (ct, (md, fd), (n, wide, dn, st, num), (lost, fresh), (fp, sh))) (B : Nat) (hB : B < 10000) (hWF : WF B (ct, (md, fd), (n, wide, dn, st, num), (lost, fresh), (fp, sh))) : Met l yX3_widen wsX3_widen ({ frames := 3, cells := 0, slots := 0, locals := 69 }) (gP D cI cD 10 ad (mF cI ad) sz V [.ref (ad 0)]) (va_Qi (fun (r : Int32) (V1 : vT) => V1 0 0 = nI (oWiden (ct, (md, fd), (n, wide, dn, st, num), (lost, fresh), (fp, sh))).1 ∧ ((oWiden (ct, (md, fd), (n, wide, dn, st, num), (lost, fresh), (fp, sh))).1 = 0 → (oWiden (ct, (md, fd), (n, wide, dn, st, num), (lost, fresh), (fp, sh))).2.1 = r) ∧ mR V1 (oWiden (ct, (md, fd), (n, wide, dn, st, num), (lost, fresh), (fp, sh))).2.2) (gB D 10 ad (mF cI ad)) (gA 10 ad sz)) 0 0 (gA 10 ad sz) := by
  refine w_met (cc := cX3_widen) (maxL := 2) (ret := (some .int)) (by decide) rfl (Nat.le_of_ble_eq_true rfl) ?_
  intro p e s m below meth c hx hb hr hts hown hlocks hml hsz hK hw ls hl
  subst hsz
  have hown : s.vm.findClass RX3 = some m.cls := hown
  have hi3 : ∀ w ∈ wsX30, w ∈ wsX3_widen := by decide +kernel
  have hl : lv_has ls 2 [(0, .ref (ad 0))] := hl
  obtain ⟨⟨hmd, hlo, hfr, hsh, hz6, hmc⟩, hfd, har, hfa⟩ := hR.pt
  refine lv_aload_n hx hb dX3_widen_0 rfl (lv_at hl 0 rfl) ?_
  refine w_calli hw (va_runV (As := []) (rest := []) ⟨hx, hb, hml, hown, hts⟩ (c_X3_works l D cI cD ad _ V md hmd fd hfd) (cwV 0 hts gX3_widen_X3_works rfl rfl rfl (by decide +kernel) ⟨Nat.le_of_ble_eq_true rfl, Nat.le_of_ble_eq_true rfl⟩) (w_preV hK hw (by omega) (mF_0 _) rfl _) rfl rfl hl.1 rfl (lv_room (Nat.le_of_ble_eq_true rfl)) dX3_widen_1 ⟨Nat.le_of_ble_eq_true rfl, Nat.le_of_ble_eq_true rfl⟩) (fun r_2 V_1 H locs hp hw => ?_)
  obtain ⟨hW9, e8⟩ := hp
  subst e8
  refine lv_if_ne (tgt := 9) hx hb dX3_widen_4 (by decide) (fun c_4 => ?_) (fun c_4 => ?_)
  · have e12 := of_decide_eq_true (bI_n0.mp c_4)
    obtain ⟨e1, e2⟩ := id e12
    rw [if_pos e12] at hW9
    have h00 : V_1 0 0 = nI 0 := by rw [hW9, u2_s]
    have hR := mR_u0 hR hW9
    obtain ⟨⟨hmd, hlo, hfr, hsh, hz6, hmc⟩, hfd, har, hfa⟩ := hR.pt
    obtain ⟨hn, hdn, hnum, hwd, hst⟩ := hR.sv e1 e2
    obtain ⟨hn3, hn6, hwn, hd32, hsw, hnum1, hnumB, hlo9, hfr9, hlf9, hfp9, hex9⟩ := hWF.sv e1 e2
    have hkw6 := kw_le hn6 hwn
    have hkwn := kw_ge (n := n) (wide := wide)
    have hlf : V_1 0 8 = -1 ∨ V_1 0 9 = -1 := by rw [hlo, hfr]; exact hlf9
    have h8 : V_1 0 8 = -1 ∨ ∃ d, d < 10 ∧ V_1 0 8 = nI d := by rw [hlo]; exact hlo9.imp id (fun ⟨d, hd, e⟩ => ⟨d, by omega, e⟩)
    have h9 : V_1 0 9 = -1 ∨ ∃ d, d < 10 ∧ V_1 0 9 = nI d := by rw [hfr]; exact hfr9.imp id (fun ⟨d, hd, e⟩ => ⟨d, by omega, e⟩)
    refine lv_aload_n hx hb dX3_widen_9 rfl (lv_at hl 0 rfl) ?_
    refine w_get (ci := 3) (C := RX3) (T := TX3) (M := 24) (v := .int (bI wide)) hx hb hts hi3 hown hK hw 0 (by omega) _ (mF_0 _) rfl 6 (by decide) (hts (.fieldLink RX3 54 "WideningArrayModel" "isWide" "Z") (by decide +kernel)) (congrArg (fun z => some (Value.int z)) (show V_1 0 6 = bI wide from hwd)) dX3_widen_10 ?_
    refine lv_if_ne (tgt := 32) hx hb dX3_widen_13 (by decide) (fun c_13 => ?_) (fun c_13 => ?_)
    · refine lv_aload_n hx hb dX3_widen_32 rfl (lv_at hl 0 rfl) ?_
      refine lv_iconst (v := nI 2) hx hb dX3_widen_33 (by decide) ?_
      refine w_calli hw (va_runV (As := [.int (nI 2)]) (rest := []) ⟨hx, hb, hml, hown, hts⟩ (c_X3_fail l D cI cD ad _ V_1 (nI 2)) (cwV 1 hts gX3_widen_X3_fail rfl rfl rfl (by decide +kernel) ⟨Nat.le_of_ble_eq_true rfl, Nat.le_of_ble_eq_true rfl⟩) (w_preV hK hw (by omega) (mF_0 _) rfl _) rfl rfl hl.1 rfl (lv_room (Nat.le_of_ble_eq_true rfl)) dX3_widen_34 ⟨Nat.le_of_ble_eq_true rfl, Nat.le_of_ble_eq_true rfl⟩) (fun r_4 V_3 H locs hp hw => ?_)
      obtain ⟨e9f, e8⟩ := hp
      subst e8
      exact w_iret hx hb hr hlocks hw (by have hL : oWiden (ct, (md, fd), (n, wide, dn, st, num), (lost, fresh), (fp, sh)) = (2, 0, (ct, (md, fd), (n, wide, dn, st, num), (lost, fresh), (fp, sh))) := (by rw [oWiden, ifS_y (a := (ct, (md, fd), (n, wide, dn, st, num), (lost, fresh), (fp, sh))) e1 e2]; exact if_pos (by first | exact Or.inl (bI_n0.mp c_13) | exact Or.inr (Or.inl c_22) | (refine Or.inr (Or.inr ?_); have z := of_decide_eq_true (bI_n0.mp c_29); rw [hlo, hfr] at z; exact z))); rw [hL]; exact ⟨by rw [e9f, u2_s], fun h => absurd (show (2 : Nat) = 0 from h) (by decide), mR_u0 hR e9f⟩) dX3_widen_37
    · refine lv_aload_n hx hb dX3_widen_16 rfl (lv_at hl 0 rfl) ?_
      refine w_get (ci := 3) (C := RX3) (T := TX3) (M := 24) (v := .int (nI n)) hx hb hts hi3 hown hK hw 0 (by omega) _ (mF_0 _) rfl 3 (by decide) (hts (.fieldLink RX3 57 "WideningArrayModel" "n" "I") (by decide +kernel)) (congrArg (fun z => some (Value.int z)) (show V_1 0 3 = nI n from hn)) dX3_widen_17 ?_
      refine lv_bipush (v := nI 6) hx hb dX3_widen_20 (by decide) ?_
      refine n_icmp_eq (tgt := 32) hx hb dX3_widen_22 (by decide) (by omega) (by omega) (fun c_22 => ?_) (fun c_22 => ?_)
      · refine lv_aload_n hx hb dX3_widen_32 rfl (lv_at hl 0 rfl) ?_
        refine lv_iconst (v := nI 2) hx hb dX3_widen_33 (by decide) ?_
        refine w_calli hw (va_runV (As := [.int (nI 2)]) (rest := []) ⟨hx, hb, hml, hown, hts⟩ (c_X3_fail l D cI cD ad _ V_1 (nI 2)) (cwV 1 hts gX3_widen_X3_fail rfl rfl rfl (by decide +kernel) ⟨Nat.le_of_ble_eq_true rfl, Nat.le_of_ble_eq_true rfl⟩) (w_preV hK hw (by omega) (mF_0 _) rfl _) rfl rfl hl.1 rfl (lv_room (Nat.le_of_ble_eq_true rfl)) dX3_widen_34 ⟨Nat.le_of_ble_eq_true rfl, Nat.le_of_ble_eq_true rfl⟩) (fun r_6 V_5 H locs hp hw => ?_)
        obtain ⟨e9f, e8⟩ := hp
        subst e8
        exact w_iret hx hb hr hlocks hw (by have hL : oWiden (ct, (md, fd), (n, wide, dn, st, num), (lost, fresh), (fp, sh)) = (2, 0, (ct, (md, fd), (n, wide, dn, st, num), (lost, fresh), (fp, sh))) := (by rw [oWiden, ifS_y (a := (ct, (md, fd), (n, wide, dn, st, num), (lost, fresh), (fp, sh))) e1 e2]; exact if_pos (by first | exact Or.inl (bI_n0.mp c_13) | exact Or.inr (Or.inl c_22) | (refine Or.inr (Or.inr ?_); have z := of_decide_eq_true (bI_n0.mp c_29); rw [hlo, hfr] at z; exact z))); rw [hL]; exact ⟨by rw [e9f, u2_s], fun h => absurd (show (2 : Nat) = 0 from h) (by decide), mR_u0 hR e9f⟩) dX3_widen_37
      · refine lv_aload_n hx hb dX3_widen_25 rfl (lv_at hl 0 rfl) ?_
        refine w_calli hw (va_runV (As := []) (rest := []) ⟨hx, hb, hml, hown, hts⟩ (c_X3_hasOut l D cI cD ad _ V_1 h8 h9) (cwV 0 hts gX3_widen_X3_hasOut rfl rfl rfl (by decide +kernel) ⟨Nat.le_of_ble_eq_true rfl, Nat.le_of_ble_eq_true rfl⟩) (w_preV hK hw (by omega) (mF_0 _) rfl _) rfl rfl hl.1 rfl (lv_room (Nat.le_of_ble_eq_true rfl)) dX3_widen_26 ⟨Nat.le_of_ble_eq_true rfl, Nat.le_of_ble_eq_true rfl⟩) (fun r_8 V_7 H locs hp hw => ?_)
        obtain ⟨e9, e8⟩ := hp
        subst e9
        subst e8
        refine lv_if_eq (tgt := 38) hx hb dX3_widen_29 (by decide) (fun c_29 => ?_) (fun c_29 => ?_)
        · have hlo9x := hlo
          have hfr9x := hfr
          have ew : wide = false := bI_0.mp c_13
          have hn5 : n < 6 := by omega
          have es : st = false := by cases st; (· rfl); (· exact absurd (hsw rfl) (by rw [ew]; decide))
          refine lv_aload_n hx hb dX3_widen_38 rfl (lv_at hl 0 rfl) ?_
          refine w_callv hw (va_runV (As := []) (rest := []) ⟨hx, hb, hml, hown, hts⟩ (c_X3_begin l D cI cD ad _ V_1) (cwV 0 hts gX3_widen_X3_begin rfl rfl rfl (by decide +kernel) ⟨Nat.le_of_ble_eq_true rfl, Nat.le_of_ble_eq_true rfl⟩) (w_preV hK hw (by omega) (mF_0 _) rfl _) rfl rfl hl.1 rfl (lv_room (Nat.le_of_ble_eq_true rfl)) dX3_widen_39 ⟨Nat.le_of_ble_eq_true rfl, Nat.le_of_ble_eq_true rfl⟩) (fun V_9 H locs hp hw => ?_)
          have hB9 := hp
          clear hp
          have hsl9 : ∀ j, j ≤ 12 → V_9 0 j = V_1 0 j := fun j hj => hB9.2.1 j (by omega) (by omega)
          have h00 : V_9 0 0 = nI 0 := (hsl9 0 (by decide)).trans h00
          have hR : mR V_9 (ct, (md, fd), (n, wide, dn, st, num), (lost, fresh), (fp, sh)) := hR.frame (hB9.1 1 (by decide)) (hB9.1 2 (by decide)) hsl9
          obtain ⟨⟨hmd, hlo, hfr, hsh, hz6, hmc⟩, hfd, har, hfa⟩ := hR.pt
          obtain ⟨hn, hdn, hnum, hwd, hst⟩ := hR.sv e1 e2
          have hlf : V_9 0 8 = -1 ∨ V_9 0 9 = -1 := by rw [hlo, hfr]; exact hlf9
          have hp13 := hB9.2.2.1
          have hQ := gQ_nil hB9.2.2.2
          refine lv_sipush (v := nI 160) hx hb dX3_widen_42 (by decide) ?_
          refine lv_aload_n hx hb dX3_widen_45 rfl (lv_at hl 0 rfl) ?_
          refine w_get (ci := 3) (C := RX3) (T := TX3) (M := 24) (v := .int (nI n)) hx hb hts hi3 hown hK hw 0 (by omega) _ (mF_0 _) rfl 3 (by decide) (hts (.fieldLink RX3 57 "WideningArrayModel" "n" "I") (by decide +kernel)) (congrArg (fun z => some (Value.int z)) (show V_9 0 3 = nI n from hn)) dX3_widen_46 ?_
          refine n_mul hx hb dX3_widen_49 ?_
          refine lv_istore_n (lv' := [(1, .int (nI (160 * n))), (0, .ref (ad 0))]) hx hb dX3_widen_50 rfl hl (by decide) rfl (fun ls hl => ?_)
          refine lp_X3_widen_w hx hb hts hown hml hK V_9 n (show V_9 0 3 = nI n from hn) hn5 (fun V_1 H locs ls hE1 hw hl => ?_) 160 0 V_9 _ _ ls (by omega) ⟨fun _ _ => rfl, fun t => by rw [if_neg (by omega)]⟩ hw (lv_sub hl [0, 1] rfl)
          refine lv_bipush (v := nI 10) hx hb dX3_widen_80 (by decide) ?_
          refine lv_aload_n hx hb dX3_widen_82 rfl (lv_at hl 0 rfl) ?_
          refine w_get (ci := 3) (C := RX3) (T := TX3) (M := 24) (v := .int (nI n)) hx hb hts hi3 hown hK hw 0 (by omega) _ (mF_0 _) rfl 3 (by decide) (hts (.fieldLink RX3 57 "WideningArrayModel" "n" "I") (by decide +kernel)) (congrArg (fun z => some (Value.int z)) (show V_1 0 3 = nI n from by rw [hE1.1 0 (by decide)]; exact (hn))) dX3_widen_83 ?_
          refine n_mul hx hb dX3_widen_86 ?_
          refine lv_istore_n (lv' := [(1, .int (nI (10 * n))), (0, .ref (ad 0))]) hx hb dX3_widen_87 rfl hl (by decide) rfl (fun ls hl => ?_)
          refine lp_X3_widen_m hx hb hts hown hml hK V_1 n (show V_1 0 3 = nI n from by rw [hE1.1 0 (by decide)]; exact (hn)) hn5 (fun V_2 H locs ls hE2 hw hl => ?_) 10 0 V_1 _ _ ls (by omega) ⟨fun _ _ => rfl, fun t => by rw [if_neg (by omega)]⟩ hw (lv_sub hl [0, 1] rfl)
          have hz0 : V_2 0 = V_9 0 := by rw [hE2.1 0 (by decide), hE1.1 0 (by decide)]
          have hQ := gQ_congr (V1 := V_2) (by rw [hz0]) (by rw [hE2.1 3 (by decide), hE1.1 3 (by decide)]) (by rw [hE2.1 4 (by decide), hE1.1 4 (by decide)]) (by rw [hE2.1 5 (by decide), hE1.1 5 (by decide)]) hQ
          have hp13 := (congrFun hz0 13).trans hp13
          have h00 := (congrFun hz0 0).trans h00
          have hR := mR_emp hn5 hR hE1 hE2
          obtain ⟨⟨hmd, hlo, hfr, hsh, hz6, hmc⟩, hfd, har, hfa⟩ := hR.pt
          obtain ⟨hn, hdn, hnum, hwd, hst⟩ := hR.sv e1 e2
          have hlf : V_2 0 8 = -1 ∨ V_2 0 9 = -1 := by rw [hlo, hfr]; exact hlf9
          refine lv_aload_n hx hb dX3_widen_115 rfl (lv_at hl 0 rfl) ?_
          refine lv_aload_n hx hb dX3_widen_116 rfl (lv_at hl 0 rfl) ?_
          refine w_get (ci := 3) (C := RX3) (T := TX3) (M := 24) (v := .int (nI n)) hx hb hts hi3 hown hK hw 0 (by omega) _ (mF_0 _) rfl 3 (by decide) (hts (.fieldLink RX3 57 "WideningArrayModel" "n" "I") (by decide +kernel)) (congrArg (fun z => some (Value.int z)) (show V_2 0 3 = nI n from hn)) dX3_widen_117 ?_
          refine lv_iconst (v := nI 1) hx hb dX3_widen_120 (by decide) ?_
          refine n_is (show nI 1 = bI true from rfl) ?_
          refine lv_iconst (v := nI 0) hx hb dX3_widen_121 (by decide) ?_
          refine lv_iconst (v := nI 0) hx hb dX3_widen_122 (by decide) ?_
          refine n_is (show nI 0 = bI false from rfl) ?_
          refine lv_aload_n hx hb dX3_widen_123 rfl (lv_at hl 0 rfl) ?_
          refine w_get (ci := 3) (C := RX3) (T := TX3) (M := 24) (v := .int (nI n)) hx hb hts hi3 hown hK hw 0 (by omega) _ (mF_0 _) rfl 3 (by decide) (hts (.fieldLink RX3 57 "WideningArrayModel" "n" "I") (by decide +kernel)) (congrArg (fun z => some (Value.int z)) (show V_2 0 3 = nI n from hn)) dX3_widen_124 ?_
          refine lv_iconst (v := nI 1) hx hb dX3_widen_127 (by decide) ?_
          refine n_add hx hb dX3_widen_128 ?_
          refine w_callv hw (va_runV (As := [.int (nI n), .int (bI true), .int (nI 0), .int (bI false), .int (nI (n + 1))]) (rest := []) ⟨hx, hb, hml, hown, hts⟩ (c_X3_issueMarks l D cI cD ad _ V_2 _ hQ num (show V_2 0 5 = nI num from hnum) (by omega) n true 0 false (n + 1) (by omega) (by simp; omega)) (cwV 5 hts gX3_widen_X3_issueMarks rfl rfl rfl (by decide +kernel) ⟨Nat.le_of_ble_eq_true rfl, Nat.le_of_ble_eq_true rfl⟩) (w_preV hK hw (by omega) (mF_0 _) rfl _) rfl rfl hl.1 rfl (lv_room (Nat.le_of_ble_eq_true rfl)) dX3_widen_129 ⟨Nat.le_of_ble_eq_true rfl, Nat.le_of_ble_eq_true rfl⟩) (fun V_10 H locs hp hw => ?_)
          obtain ⟨hQ, hI1, hI2⟩ := hp
          have hsl9 : ∀ j, j ≤ 12 → V_10 0 j = V_2 0 j := fun j hj => hI2 j (by omega)
          have h00 : V_10 0 0 = nI 0 := (hsl9 0 (by decide)).trans h00
          have hR : mR V_10 (emp ct n, (md, fd), (n, wide, dn, st, num), (lost, fresh), (fp, sh)) := hR.frame (hI1 1 (by decide) (by decide) (by decide) (by decide)) (hI1 2 (by decide) (by decide) (by decide) (by decide)) hsl9
          obtain ⟨⟨hmd, hlo, hfr, hsh, hz6, hmc⟩, hfd, har, hfa⟩ := hR.pt
          obtain ⟨hn, hdn, hnum, hwd, hst⟩ := hR.sv e1 e2
          have hlf : V_10 0 8 = -1 ∨ V_10 0 9 = -1 := by rw [hlo, hfr]; exact hlf9
          have hp13 := (hI2 13 (by decide)).trans hp13
          refine lv_aload_n hx hb dX3_widen_132 rfl (lv_at hl 0 rfl) ?_
          refine lv_iconst (v := nI 1) hx hb dX3_widen_133 (by decide) ?_
          refine n_is (show nI 1 = bI true from rfl) ?_
          refine w_calli hw (va_runV (As := [.int (bI true)]) (rest := []) ⟨hx, hb, hml, hown, hts⟩ (c_X3_holds l D cI cD ad _ V_10 _ hQ (decide (¬ fp = 0)) har _ rfl sh hsh 0 hp13 (by rw [hfd, e2]) hlf true) (cwV 1 hts gX3_widen_X3_holds rfl rfl rfl (by decide +kernel) ⟨Nat.le_of_ble_eq_true rfl, Nat.le_of_ble_eq_true rfl⟩) (w_preV hK hw (by omega) (mF_0 _) rfl _) rfl rfl hl.1 rfl (lv_room (Nat.le_of_ble_eq_true rfl)) dX3_widen_134 ⟨Nat.le_of_ble_eq_true rfl, Nat.le_of_ble_eq_true rfl⟩) (fun r_12 V_11 H locs hp hw => ?_)
          rw [hfl_t] at hp
          have hH := hp
          clear hp
          have e8 := hH.1
          subst e8
          have hmB := hH.mB hR.1 (Q' := mkQ (mkb (num + 1) n true 0 false) (n + 1)) (fun d => by rw [List.nil_append, qOf_mkL]; exact QEq.rf _)
          have h00 : V_11 0 0 = nI 0 := (hH.2.2.2.2.2.1 0 (by decide) (by decide) (by decide) (by decide)).trans h00
          have hN9 := hH.mN (hR.sv e1 e2)
          have hL9 : oWiden (ct, (md, fd), (n, wide, dn, st, num), (lost, fresh), (fp, sh)) = (if fp = 0 then 0 else 3, nI (n + 1), (eff (ab lost fresh) (decide (¬ fp = 0)) sh (mkQ (mkb (num + 1) n true 0 false) (n + 1)) (emp ct n), (md, decide (¬ fp = 0)), (n, true, 0, false, num + 1), (lost, fresh), (0, sh))) := by
            rw [oWiden, ifS_y (a := (ct, (md, fd), (n, wide, dn, st, num), (lost, fresh), (fp, sh))) e1 e2]
            refine if_neg ?_
            intro h; rcases h with h | h | h; (· rw [ew] at h; exact absurd h (by decide)); (· exact c_22 h); (· exact (of_decide_eq_false (bI_0.mp c_29)) (by rw [← hlo9x, ← hfr9x] at h; exact h))
          refine lv_if_ne (tgt := 146) hx hb dX3_widen_137 (by decide) (fun c_137 => ?_) (fun c_137 => ?_)
          · obtain ⟨k3, k4, k5, k6, k7⟩ := hN9
            refine lv_aload_n hx hb dX3_widen_146 rfl (lv_at hl 0 rfl) ?_
            refine lv_dup hx hb dX3_widen_147 rfl ?_
            refine w_get (ci := 3) (C := RX3) (T := TX3) (M := 24) (v := .int (nI num)) hx hb hts hi3 hown hK hw 0 (by omega) _ (mF_0 _) rfl 5 (by decide) (hts (.fieldLink RX3 106 "WideningArrayModel" "number" "I") (by decide +kernel)) (congrArg (fun z => some (Value.int z)) (show V_11 0 5 = nI num from k5)) dX3_widen_148 ?_
            refine lv_iconst (v := nI 1) hx hb dX3_widen_151 (by decide) ?_
            refine n_add hx hb dX3_widen_152 ?_
            refine w_put (ci := 3) (C := RX3) (T := TX3) (M := 24) (x := nI (num + 1)) (ty := .int) hx hb hts hi3 tyX3 tyX3_ok nmX3 hown hK hw 0 (by omega) _ (mF_0 _) rfl 5 (by decide) (hts (.fieldLink RX3 106 "WideningArrayModel" "number" "I") (by decide +kernel)) rfl (by decide +kernel) rfl rfl (Nat.le_of_ble_eq_true rfl) (mF_0 _) dX3_widen_153 (fun H locs hw => ?_)
            obtain ⟨V_13, hV_13⟩ : ∃ z : vT, z = u2 V_11 0 5 (nI (num + 1)) := ⟨_, rfl⟩
            rw [← hV_13] at hw
            refine lv_aload_n hx hb dX3_widen_156 rfl (lv_at hl 0 rfl) ?_
            refine lv_iconst (v := nI 1) hx hb dX3_widen_157 (by decide) ?_
            refine w_put (ci := 3) (C := RX3) (T := TX3) (M := 24) (x := nI 1) (ty := .boolean) hx hb hts hi3 tyX3 tyX3_ok nmX3 hown hK hw 0 (by omega) _ (mF_0 _) rfl 6 (by decide) (hts (.fieldLink RX3 54 "WideningArrayModel" "isWide" "Z") (by decide +kernel)) rfl (by decide +kernel) rfl rfl (Nat.le_of_ble_eq_true rfl) (mF_0 _) dX3_widen_158 (fun H locs hw => ?_)
            obtain ⟨V_14, hV_14⟩ : ∃ z : vT, z = u2 V_13 0 6 (nI 1) := ⟨_, rfl⟩
            rw [← hV_14] at hw
            refine lv_aload_n hx hb dX3_widen_161 rfl (lv_at hl 0 rfl) ?_
            refine lv_iconst (v := nI 0) hx hb dX3_widen_162 (by decide) ?_
            refine w_put (ci := 3) (C := RX3) (T := TX3) (M := 24) (x := nI 0) (ty := .int) hx hb hts hi3 tyX3 tyX3_ok nmX3 hown hK hw 0 (by omega) _ (mF_0 _) rfl 4 (by decide) (hts (.fieldLink RX3 64 "WideningArrayModel" "done" "I") (by decide +kernel)) rfl (by decide +kernel) rfl rfl (Nat.le_of_ble_eq_true rfl) (mF_0 _) dX3_widen_163 (fun H locs hw => ?_)
            obtain ⟨V_15, hV_15⟩ : ∃ z : vT, z = u2 V_14 0 4 (nI 0) := ⟨_, rfl⟩
            rw [← hV_15] at hw
            refine lv_aload_n hx hb dX3_widen_166 rfl (lv_at hl 0 rfl) ?_
            refine w_get (ci := 3) (C := RX3) (T := TX3) (M := 24) (v := .int (nI n)) hx hb hts hi3 hown hK hw 0 (by omega) _ (mF_0 _) rfl 3 (by decide) (hts (.fieldLink RX3 57 "WideningArrayModel" "n" "I") (by decide +kernel)) (congrArg (fun z => some (Value.int z)) (show V_15 0 3 = nI n from by rw [hV_15, u2_n _ _ (Or.inr (by decide))]; exact (by rw [hV_14, u2_n _ _ (Or.inr (by decide))]; exact (by rw [hV_13, u2_n _ _ (Or.inr (by decide))]; exact (k3))))) dX3_widen_167 ?_
            refine lv_iconst (v := nI 1) hx hb dX3_widen_170 (by decide) ?_
            refine n_add hx hb dX3_widen_171 ?_
            exact w_iret hx hb hr hlocks hw (by have q9 : fp = 0 := (by have := bI_n0.mp c_137; simpa using this); have hk : ∀ j, j ≠ 5 → j ≠ 6 → j ≠ 4 → V_15 0 j = V_11 0 j := (fun j h1 h2 h3 => by rw [hV_15, u2_n _ _ (Or.inr h3), hV_14, u2_n _ _ (Or.inr h2), hV_13, u2_n _ _ (Or.inr h1)]); have hc9 : ∀ a, a ≠ 0 → V_15 a = V_11 a := (fun a ha => by rw [hV_15, u2_r _ _ ha, hV_14, u2_r _ _ ha, hV_13, u2_r _ _ ha]); have hC := mR_end (V := V_15) (nn := n) (ww := true) (ddn := 0) (ss := false) (nnum := num + 1) (hmB.frame (hc9 1 (by decide)) (hc9 2 (by decide)) (fun j hj => hk j (by omega) (by omega) (by omega))) ((hk 2 (by decide) (by decide) (by decide)).trans hH.2.2.1) ((hk 10 (by decide) (by decide) (by decide)).trans hH.2.1) id (fun _ => ⟨(hk 3 (by decide) (by decide) (by decide)).trans k3, by rw [hV_15, u2_s], by rw [hV_15, u2_n _ _ (Or.inr (by decide)), hV_14, u2_n _ _ (Or.inr (by decide)), hV_13, u2_s], by rw [hV_15, u2_n _ _ (Or.inr (by decide)), hV_14, u2_s]; rfl, by rw [hk 7 (by decide) (by decide) (by decide), k7, es]⟩); rw [hL9, if_pos q9]; exact ⟨(hk 0 (by decide) (by decide) (by decide)).trans h00, fun _ => rfl, hC⟩) dX3_widen_172
          · refine lv_aload_n hx hb dX3_widen_140 rfl (lv_at hl 0 rfl) ?_
            refine lv_iconst (v := nI 3) hx hb dX3_widen_141 (by decide) ?_
            refine w_calli hw (va_runV (As := [.int (nI 3)]) (rest := []) ⟨hx, hb, hml, hown, hts⟩ (c_X3_fail l D cI cD ad _ V_11 (nI 3)) (cwV 1 hts gX3_widen_X3_fail rfl rfl rfl (by decide +kernel) ⟨Nat.le_of_ble_eq_true rfl, Nat.le_of_ble_eq_true rfl⟩) (w_preV hK hw (by omega) (mF_0 _) rfl _) rfl rfl hl.1 rfl (lv_room (Nat.le_of_ble_eq_true rfl)) dX3_widen_142 ⟨Nat.le_of_ble_eq_true rfl, Nat.le_of_ble_eq_true rfl⟩) (fun r_17 V_16 H locs hp hw => ?_)
            obtain ⟨e9f, e8⟩ := hp
            subst e8
            exact w_iret hx hb hr hlocks hw (by have q9 : ¬ fp = 0 := (by have := bI_0.mp c_137; simpa using this); have hC := mR_end (nn := n) (ww := true) (ddn := 0) (ss := false) (nnum := num + 1) hmB hH.2.2.1 hH.2.1 id (fun h => absurd (of_decide_eq_false h) (fun z => z q9)); rw [hL9, if_neg q9]; exact ⟨by rw [e9f, u2_s], fun h => absurd (show (3 : Nat) = 0 from h) (by decide), mR_u0 hC e9f⟩) dX3_widen_145
        · refine lv_aload_n hx hb dX3_widen_32 rfl (lv_at hl 0 rfl) ?_
          refine lv_iconst (v := nI 2) hx hb dX3_widen_33 (by decide) ?_
          refine w_calli hw (va_runV (As := [.int (nI 2)]) (rest := []) ⟨hx, hb, hml, hown, hts⟩ (c_X3_fail l D cI cD ad _ V_1 (nI 2)) (cwV 1 hts gX3_widen_X3_fail rfl rfl rfl (by decide +kernel) ⟨Nat.le_of_ble_eq_true rfl, Nat.le_of_ble_eq_true rfl⟩) (w_preV hK hw (by omega) (mF_0 _) rfl _) rfl rfl hl.1 rfl (lv_room (Nat.le_of_ble_eq_true rfl)) dX3_widen_34 ⟨Nat.le_of_ble_eq_true rfl, Nat.le_of_ble_eq_true rfl⟩) (fun r_19 V_18 H locs hp hw => ?_)
          obtain ⟨e9f, e8⟩ := hp
          subst e8
          exact w_iret hx hb hr hlocks hw (by have hL : oWiden (ct, (md, fd), (n, wide, dn, st, num), (lost, fresh), (fp, sh)) = (2, 0, (ct, (md, fd), (n, wide, dn, st, num), (lost, fresh), (fp, sh))) := (by rw [oWiden, ifS_y (a := (ct, (md, fd), (n, wide, dn, st, num), (lost, fresh), (fp, sh))) e1 e2]; exact if_pos (by first | exact Or.inl (bI_n0.mp c_13) | exact Or.inr (Or.inl c_22) | (refine Or.inr (Or.inr ?_); have z := of_decide_eq_true (bI_n0.mp c_29); rw [hlo, hfr] at z; exact z))); rw [hL]; exact ⟨by rw [e9f, u2_s], fun h => absurd (show (2 : Nat) = 0 from h) (by decide), mR_u0 hR e9f⟩) dX3_widen_37
  · have e12 := of_decide_eq_false (bI_0.mp c_4)
    rw [if_neg e12] at hW9
    refine lv_iconst (v := nI 0) hx hb dX3_widen_7 (by decide) ?_
    exact w_iret hx hb hr hlocks hw (by have hL : oWiden (ct, (md, fd), (n, wide, dn, st, num), (lost, fresh), (fp, sh)) = (1, 0, (ct, (md, fd), (n, wide, dn, st, num), (lost, fresh), (fp, sh))) := (by rw [oWiden, ifS_n (a := (ct, (md, fd), (n, wide, dn, st, num), (lost, fresh), (fp, sh))) e12]); rw [hL]; exact ⟨by rw [hW9, u2_s], fun h => absurd (show (1 : Nat) = 0 from h) (by decide), mR_u0 hR hW9⟩) dX3_widen_8
set_option maxHeartbeats 4000000 in
set_option maxRecDepth 100000 in
theorem lp_X3_format_w {p : Program} {l : Launch} {e : Env} {s : State} {m : MethodId} {args : Array Value} {below : List Frame} {meth : Method} {c : Code} {Q : State → Prop} {D : va_G} {cI cD : ClassId} {ad : Nat → Nat} (hx : p.tables.exec = Jvm.exec) (hb : c.code = cX3_format) (hts : ∀ w ∈ wsX3_format, w.before args s = true) (hown : s.vm.findClass RX3 = some m.cls) (hml : c.maxLocals = 3) (hK : kK D cI cD s) (V0 : vT) (hk : ∀ (V1 : vT) (H1 : Heap) (locs1 : List Loc) (ls : Array Slot), ((∀ a, a ≠ 1 → V1 a = V0 a) ∧ ∀ t, t < 1120 → V1 1 t = 0) → wS D 10 ad (mF cI ad) s.heap V1 H1 locs1 → lv_has ls 3 [(0, .ref (ad 0))] → W p l e ({ frames := 3, cells := 0, slots := 0, locals := 69 }) s m args below meth c H1 locs1 0 0 Q (F0 m 88 ls [])) : ∀ (n j : Nat) (V : vT) (H : Heap) (locs : List Loc) (ls : Array Slot), (j + n = 1120) → ((∀ a, a ≠ 1 → V a = V0 a) ∧ ∀ t, t < j → V 1 t = 0) → wS D 10 ad (mF cI ad) s.heap V H locs → lv_has ls 3 [(2, .int (nI j)), (0, .ref (ad 0))] → W p l e ({ frames := 3, cells := 0, slots := 0, locals := 69 }) s m args below meth c H locs 0 0 Q (F0 m 68 ls []) := by
  have hi3 : ∀ w ∈ wsX30, w ∈ wsX3_format := by decide +kernel
  intro n
  induction n with
  | zero =>
    intro j V H locs ls hjn hin hw hl
    refine lv_iload_n hx hb dX3_format_68 rfl (lv_at hl 0 rfl) ?_
    refine lv_sipush (v := nI 1120) hx hb dX3_format_69 (by decide) ?_
    refine n_icmp_ge (tgt := 88) hx hb dX3_format_72 (by decide) (by omega) (by omega) (fun c_72 => ?_) (fun c_72 => ?_)
    · have e1 : j = 1120 := by omega
      subst e1
      exact hk V H locs ls hin hw (lv_sub hl [1] rfl)
    · exfalso
      omega
  | succ n ih =>
    intro j V H locs ls hjn hin hw hl
    refine lv_iload_n hx hb dX3_format_68 rfl (lv_at hl 0 rfl) ?_
    refine lv_sipush (v := nI 1120) hx hb dX3_format_69 (by decide) ?_
    refine n_icmp_ge (tgt := 88) hx hb dX3_format_72 (by decide) (by omega) (by omega) (fun c_72 => ?_) (fun c_72 => ?_)
    · exfalso
      omega
    · refine lv_aload_n hx hb dX3_format_75 rfl (lv_at hl 1 rfl) ?_
      refine w_get (ci := 3) (C := RX3) (T := TX3) (M := 24) (v := .ref (ad 1)) hx hb hts hi3 hown hK hw 0 (by omega) _ (mF_0 _) rfl 14 (by decide) (hts (.fieldLink RX3 16 "WideningArrayModel" "words" "[I") (by decide +kernel)) rfl dX3_format_76 ?_
      refine lv_iload_n hx hb dX3_format_79 rfl (lv_at hl 0 rfl) ?_
      refine lv_iconst (v := nI 0) hx hb dX3_format_80 (by decide) ?_
      refine w_iast hx hb hK hw 1 1120 (by omega) (fun _ => rfl) (i := j) (by omega) (by decide) dX3_format_81 (fun H locs hw => ?_)
      obtain ⟨V_1, hV_1⟩ : ∃ z : vT, z = u2 V 1 j (nI 0) := ⟨_, rfl⟩
      rw [← hV_1] at hw
      refine lv_iinc (v := nI (j + 1)) (lv' := [(2, .int (nI (j + 1))), (0, .ref (ad 0))]) hx hb dX3_format_82 hl (k := 0) rfl (nI_1 _) (by decide) rfl (fun ls hl => ?_)
      refine lv_goto (tgt := 68) hx hb dX3_format_85 (by decide) ?_
      exact ih (j + 1) _ _ _ ls (by omega) ⟨fun a ha => by rw [hV_1, u2_r _ _ ha]; exact hin.1 a ha, fun t ht => by by_cases z : t = j; (· rw [z, hV_1, u2_s]; rfl); (· rw [hV_1, u2_n _ _ (Or.inr z)]; exact hin.2 t (by omega))⟩ hw (lv_sub hl [0, 1] rfl)
set_option maxHeartbeats 4000000 in
set_option maxRecDepth 100000 in
theorem lp_X3_format_m {p : Program} {l : Launch} {e : Env} {s : State} {m : MethodId} {args : Array Value} {below : List Frame} {meth : Method} {c : Code} {Q : State → Prop} {D : va_G} {cI cD : ClassId} {ad : Nat → Nat} (hx : p.tables.exec = Jvm.exec) (hb : c.code = cX3_format) (hts : ∀ w ∈ wsX3_format, w.before args s = true) (hown : s.vm.findClass RX3 = some m.cls) (hml : c.maxLocals = 3) (hK : kK D cI cD s) (V0 : vT) (hk : ∀ (V1 : vT) (H1 : Heap) (locs1 : List Loc) (ls : Array Slot), ((∀ a, a ≠ 2 → V1 a = V0 a) ∧ ∀ t, t < 70 → V1 2 t = 0) → wS D 10 ad (mF cI ad) s.heap V1 H1 locs1 → lv_has ls 3 [(0, .ref (ad 0))] → W p l e ({ frames := 3, cells := 0, slots := 0, locals := 69 }) s m args below meth c H1 locs1 0 0 Q (F0 m 109 ls [])) : ∀ (n j : Nat) (V : vT) (H : Heap) (locs : List Loc) (ls : Array Slot), (j + n = 70) → ((∀ a, a ≠ 2 → V a = V0 a) ∧ ∀ t, t < j → V 2 t = 0) → wS D 10 ad (mF cI ad) s.heap V H locs → lv_has ls 3 [(2, .int (nI j)), (0, .ref (ad 0))] → W p l e ({ frames := 3, cells := 0, slots := 0, locals := 69 }) s m args below meth c H locs 0 0 Q (F0 m 90 ls []) := by
  have hi3 : ∀ w ∈ wsX30, w ∈ wsX3_format := by decide +kernel
  intro n
  induction n with
  | zero =>
    intro j V H locs ls hjn hin hw hl
    refine lv_iload_n hx hb dX3_format_90 rfl (lv_at hl 0 rfl) ?_
    refine lv_bipush (v := nI 70) hx hb dX3_format_91 (by decide) ?_
    refine n_icmp_ge (tgt := 109) hx hb dX3_format_93 (by decide) (by omega) (by omega) (fun c_93 => ?_) (fun c_93 => ?_)
    · have e1 : j = 70 := by omega
      subst e1
      exact hk V H locs ls hin hw (lv_sub hl [1] rfl)
    · exfalso
      omega
  | succ n ih =>
    intro j V H locs ls hjn hin hw hl
    refine lv_iload_n hx hb dX3_format_90 rfl (lv_at hl 0 rfl) ?_
    refine lv_bipush (v := nI 70) hx hb dX3_format_91 (by decide) ?_
    refine n_icmp_ge (tgt := 109) hx hb dX3_format_93 (by decide) (by omega) (by omega) (fun c_93 => ?_) (fun c_93 => ?_)
    · exfalso
      omega
    · refine lv_aload_n hx hb dX3_format_96 rfl (lv_at hl 1 rfl) ?_
      refine w_get (ci := 3) (C := RX3) (T := TX3) (M := 24) (v := .ref (ad 2)) hx hb hts hi3 hown hK hw 0 (by omega) _ (mF_0 _) rfl 15 (by decide) (hts (.fieldLink RX3 20 "WideningArrayModel" "marks" "[I") (by decide +kernel)) rfl dX3_format_97 ?_
      refine lv_iload_n hx hb dX3_format_100 rfl (lv_at hl 0 rfl) ?_
      refine lv_iconst (v := nI 0) hx hb dX3_format_101 (by decide) ?_
      refine w_iast hx hb hK hw 2 70 (by omega) (fun _ => rfl) (i := j) (by omega) (by decide) dX3_format_102 (fun H locs hw => ?_)
      obtain ⟨V_1, hV_1⟩ : ∃ z : vT, z = u2 V 2 j (nI 0) := ⟨_, rfl⟩
      rw [← hV_1] at hw
      refine lv_iinc (v := nI (j + 1)) (lv' := [(2, .int (nI (j + 1))), (0, .ref (ad 0))]) hx hb dX3_format_103 hl (k := 0) rfl (nI_1 _) (by decide) rfl (fun ls hl => ?_)
      refine lv_goto (tgt := 90) hx hb dX3_format_106 (by decide) ?_
      exact ih (j + 1) _ _ _ ls (by omega) ⟨fun a ha => by rw [hV_1, u2_r _ _ ha]; exact hin.1 a ha, fun t ht => by by_cases z : t = j; (· rw [z, hV_1, u2_s]; rfl); (· rw [hV_1, u2_n _ _ (Or.inr z)]; exact hin.2 t (by omega))⟩ hw (lv_sub hl [0, 1] rfl)
set_option maxHeartbeats 4000000 in
set_option maxRecDepth 100000 in
theorem c_X3_format (l : Launch) (D : va_G) (cI cD : ClassId) (ad : Nat → Nat) (sz : Nat) (V : vT) (ct : Nat → Nat → Int32) (md fd : Bool) (n : Nat) (wide : Bool) (dn : Nat) (st : Bool) (num : Nat) (lost fresh : Int32) (fp : Nat) (sh : Int32) (hR : mR V (ct, (md, fd), (n, wide, dn, st, num), (lost, fresh), (fp, sh))) (B : Nat) (hB : B < 10000) (hWF : WF B (ct, (md, fd), (n, wide, dn, st, num), (lost, fresh), (fp, sh))) (x : Int32) : Met l yX3_format wsX3_format ({ frames := 3, cells := 0, slots := 0, locals := 69 }) (gP D cI cD 10 ad (mF cI ad) sz V [.ref (ad 0), .int x]) (va_Qi (fun (r : Int32) (V1 : vT) => V1 0 0 = nI (oFormat (ct, (md, fd), (n, wide, dn, st, num), (lost, fresh), (fp, sh)) x).1 ∧ ((oFormat (ct, (md, fd), (n, wide, dn, st, num), (lost, fresh), (fp, sh)) x).1 = 0 → (oFormat (ct, (md, fd), (n, wide, dn, st, num), (lost, fresh), (fp, sh)) x).2.1 = r) ∧ mR V1 (oFormat (ct, (md, fd), (n, wide, dn, st, num), (lost, fresh), (fp, sh)) x).2.2) (gB D 10 ad (mF cI ad)) (gA 10 ad sz)) 0 0 (gA 10 ad sz) := by
  refine w_met (cc := cX3_format) (maxL := 3) (ret := (some .int)) (by decide) rfl (Nat.le_of_ble_eq_true rfl) ?_
  intro p e s m below meth c hx hb hr hts hown hlocks hml hsz hK hw ls hl
  subst hsz
  have hown : s.vm.findClass RX3 = some m.cls := hown
  have hi3 : ∀ w ∈ wsX30, w ∈ wsX3_format := by decide +kernel
  have hl : lv_has ls 3 [(0, .ref (ad 0)), (1, .int x)] := hl
  obtain ⟨⟨hmd, hlo, hfr, hsh, hz6, hmc⟩, hfd, har, hfa⟩ := hR.pt
  refine lv_aload_n hx hb dX3_format_0 rfl (lv_at hl 0 rfl) ?_
  refine lv_iconst (v := nI 0) hx hb dX3_format_1 (by decide) ?_
  refine w_put (ci := 3) (C := RX3) (T := TX3) (M := 24) (x := nI 0) (ty := .int) hx hb hts hi3 tyX3 tyX3_ok nmX3 hown hK hw 0 (by omega) _ (mF_0 _) rfl 0 (by decide) (hts (.fieldLink RX3 44 "WideningArrayModel" "thrown" "I") (by decide +kernel)) rfl (by decide +kernel) rfl rfl (Nat.le_of_ble_eq_true rfl) (mF_0 _) dX3_format_2 (fun H locs hw => ?_)
  obtain ⟨V_1, hV_1⟩ : ∃ z : vT, z = u2 V 0 0 (nI 0) := ⟨_, rfl⟩
  rw [← hV_1] at hw
  refine lv_iload_n hx hb dX3_format_5 rfl (lv_at hl 1 rfl) ?_
  refine lv_iconst (v := nI 3) hx hb dX3_format_6 (by decide) ?_
  refine lv_bipush (v := nI 6) hx hb dX3_format_7 (by decide) ?_
  refine w_calli hw (va_runS (As := [.int x, .int (nI 3), .int (nI 6)]) (rest := []) ⟨hx, hb, hml, hown, hts⟩ (c_X3_within l D cI cD ad _ V_1 x (nI 3) (nI 6)) (va_cwS 3 hts gX3_format_X3_within rfl rfl rfl (by decide +kernel) ⟨Nat.le_of_ble_eq_true rfl, Nat.le_of_ble_eq_true rfl⟩) (w_preS hK hw _) rfl rfl hl.1 rfl (lv_room (Nat.le_of_ble_eq_true rfl)) dX3_format_9 ⟨Nat.le_of_ble_eq_true rfl, Nat.le_of_ble_eq_true rfl⟩) (fun r_3 V_2 H locs hp hw => ?_)
  obtain ⟨e9, e8⟩ := hp
  subst e9
  subst e8
  refine lv_if_ne (tgt := 21) hx hb dX3_format_12 (by decide) (fun c_12 => ?_) (fun c_12 => ?_)
  · have e7 := of_decide_eq_true (bI_n0.mp c_12)
    obtain ⟨xx, hxx, e12⟩ := nI_of (x := x) (fun q => absurd (Int32.lt_trans q (show (0 : Int32) < nI 3 by decide)) (Int32.not_lt.mpr e7.1))
    subst e12
    have hx3 : 3 ≤ xx := (nI_leI (by decide) hxx).mp e7.1
    have hx6 : xx ≤ 6 := (nI_leI hxx (by decide)).mp e7.2
    refine lv_aload_n hx hb dX3_format_21 rfl (lv_at hl 0 rfl) ?_
    refine lv_iconst (v := nI 1) hx hb dX3_format_22 (by decide) ?_
    refine w_put (ci := 3) (C := RX3) (T := TX3) (M := 24) (x := nI 1) (ty := .boolean) hx hb hts hi3 tyX3 tyX3_ok nmX3 hown hK hw 0 (by omega) _ (mF_0 _) rfl 1 (by decide) (hts (.fieldLink RX3 47 "WideningArrayModel" "isThere" "Z") (by decide +kernel)) rfl (by decide +kernel) rfl rfl (Nat.le_of_ble_eq_true rfl) (mF_0 _) dX3_format_23 (fun H locs hw => ?_)
    obtain ⟨V_4, hV_4⟩ : ∃ z : vT, z = u2 V_1 0 1 (nI 1) := ⟨_, rfl⟩
    rw [← hV_4] at hw
    refine lv_aload_n hx hb dX3_format_26 rfl (lv_at hl 0 rfl) ?_
    refine lv_iconst (v := nI 0) hx hb dX3_format_27 (by decide) ?_
    refine w_put (ci := 3) (C := RX3) (T := TX3) (M := 24) (x := nI 0) (ty := .boolean) hx hb hts hi3 tyX3 tyX3_ok nmX3 hown hK hw 0 (by omega) _ (mF_0 _) rfl 2 (by decide) (hts (.fieldLink RX3 51 "WideningArrayModel" "hasFailed" "Z") (by decide +kernel)) rfl (by decide +kernel) rfl rfl (Nat.le_of_ble_eq_true rfl) (mF_0 _) dX3_format_28 (fun H locs hw => ?_)
    obtain ⟨V_5, hV_5⟩ : ∃ z : vT, z = u2 V_4 0 2 (nI 0) := ⟨_, rfl⟩
    rw [← hV_5] at hw
    refine lv_aload_n hx hb dX3_format_31 rfl (lv_at hl 0 rfl) ?_
    refine lv_iconst (v := nI 0) hx hb dX3_format_32 (by decide) ?_
    refine w_put (ci := 3) (C := RX3) (T := TX3) (M := 24) (x := nI 0) (ty := .boolean) hx hb hts hi3 tyX3 tyX3_ok nmX3 hown hK hw 0 (by omega) _ (mF_0 _) rfl 10 (by decide) (hts (.fieldLink RX3 112 "WideningArrayModel" "isArmed" "Z") (by decide +kernel)) rfl (by decide +kernel) rfl rfl (Nat.le_of_ble_eq_true rfl) (mF_0 _) dX3_format_33 (fun H locs hw => ?_)
    obtain ⟨V_6, hV_6⟩ : ∃ z : vT, z = u2 V_5 0 10 (nI 0) := ⟨_, rfl⟩
    rw [← hV_6] at hw
    refine lv_aload_n hx hb dX3_format_36 rfl (lv_at hl 0 rfl) ?_
    refine lv_iconst (v := (-1)) hx hb dX3_format_37 (by decide) ?_
    refine w_put (ci := 3) (C := RX3) (T := TX3) (M := 24) (x := (-1)) (ty := .int) hx hb hts hi3 tyX3 tyX3_ok nmX3 hown hK hw 0 (by omega) _ (mF_0 _) rfl 8 (by decide) (hts (.fieldLink RX3 7 "WideningArrayModel" "lost" "I") (by decide +kernel)) rfl (by decide +kernel) rfl rfl (Nat.le_of_ble_eq_true rfl) (mF_0 _) dX3_format_38 (fun H locs hw => ?_)
    obtain ⟨V_7, hV_7⟩ : ∃ z : vT, z = u2 V_6 0 8 (-1) := ⟨_, rfl⟩
    rw [← hV_7] at hw
    refine lv_aload_n hx hb dX3_format_41 rfl (lv_at hl 0 rfl) ?_
    refine lv_iconst (v := (-1)) hx hb dX3_format_42 (by decide) ?_
    refine w_put (ci := 3) (C := RX3) (T := TX3) (M := 24) (x := (-1)) (ty := .int) hx hb hts hi3 tyX3 tyX3_ok nmX3 hown hK hw 0 (by omega) _ (mF_0 _) rfl 9 (by decide) (hts (.fieldLink RX3 13 "WideningArrayModel" "fresh" "I") (by decide +kernel)) rfl (by decide +kernel) rfl rfl (Nat.le_of_ble_eq_true rfl) (mF_0 _) dX3_format_43 (fun H locs hw => ?_)
    obtain ⟨V_8, hV_8⟩ : ∃ z : vT, z = u2 V_7 0 9 (-1) := ⟨_, rfl⟩
    rw [← hV_8] at hw
    refine lv_aload_n hx hb dX3_format_46 rfl (lv_at hl 0 rfl) ?_
    refine lv_iload_n hx hb dX3_format_47 rfl (lv_at hl 1 rfl) ?_
    refine w_put (ci := 3) (C := RX3) (T := TX3) (M := 24) (x := nI xx) (ty := .int) hx hb hts hi3 tyX3 tyX3_ok nmX3 hown hK hw 0 (by omega) _ (mF_0 _) rfl 3 (by decide) (hts (.fieldLink RX3 57 "WideningArrayModel" "n" "I") (by decide +kernel)) rfl (by decide +kernel) rfl rfl (Nat.le_of_ble_eq_true rfl) (mF_0 _) dX3_format_48 (fun H locs hw => ?_)
    obtain ⟨V_9, hV_9⟩ : ∃ z : vT, z = u2 V_8 0 3 (nI xx) := ⟨_, rfl⟩
    rw [← hV_9] at hw
    refine lv_aload_n hx hb dX3_format_51 rfl (lv_at hl 0 rfl) ?_
    refine lv_iconst (v := nI 0) hx hb dX3_format_52 (by decide) ?_
    refine w_put (ci := 3) (C := RX3) (T := TX3) (M := 24) (x := nI 0) (ty := .boolean) hx hb hts hi3 tyX3 tyX3_ok nmX3 hown hK hw 0 (by omega) _ (mF_0 _) rfl 6 (by decide) (hts (.fieldLink RX3 54 "WideningArrayModel" "isWide" "Z") (by decide +kernel)) rfl (by decide +kernel) rfl rfl (Nat.le_of_ble_eq_true rfl) (mF_0 _) dX3_format_53 (fun H locs hw => ?_)
    obtain ⟨V_10, hV_10⟩ : ∃ z : vT, z = u2 V_9 0 6 (nI 0) := ⟨_, rfl⟩
    rw [← hV_10] at hw
    refine lv_aload_n hx hb dX3_format_56 rfl (lv_at hl 0 rfl) ?_
    refine lv_iconst (v := nI 0) hx hb dX3_format_57 (by decide) ?_
    refine w_put (ci := 3) (C := RX3) (T := TX3) (M := 24) (x := nI 0) (ty := .boolean) hx hb hts hi3 tyX3 tyX3_ok nmX3 hown hK hw 0 (by omega) _ (mF_0 _) rfl 7 (by decide) (hts (.fieldLink RX3 67 "WideningArrayModel" "isStashed" "Z") (by decide +kernel)) rfl (by decide +kernel) rfl rfl (Nat.le_of_ble_eq_true rfl) (mF_0 _) dX3_format_58 (fun H locs hw => ?_)
    obtain ⟨V_11, hV_11⟩ : ∃ z : vT, z = u2 V_10 0 7 (nI 0) := ⟨_, rfl⟩
    rw [← hV_11] at hw
    refine lv_aload_n hx hb dX3_format_61 rfl (lv_at hl 0 rfl) ?_
    refine lv_iconst (v := nI 0) hx hb dX3_format_62 (by decide) ?_
    refine w_put (ci := 3) (C := RX3) (T := TX3) (M := 24) (x := nI 0) (ty := .int) hx hb hts hi3 tyX3 tyX3_ok nmX3 hown hK hw 0 (by omega) _ (mF_0 _) rfl 4 (by decide) (hts (.fieldLink RX3 64 "WideningArrayModel" "done" "I") (by decide +kernel)) rfl (by decide +kernel) rfl rfl (Nat.le_of_ble_eq_true rfl) (mF_0 _) dX3_format_63 (fun H locs hw => ?_)
    obtain ⟨V_12, hV_12⟩ : ∃ z : vT, z = u2 V_11 0 4 (nI 0) := ⟨_, rfl⟩
    rw [← hV_12] at hw
    refine lv_iconst (v := nI 0) hx hb dX3_format_66 (by decide) ?_
    refine lv_istore_n (lv' := [(2, .int (nI 0)), (0, .ref (ad 0)), (1, .int (nI xx))]) hx hb dX3_format_67 rfl hl (by decide) rfl (fun ls hl => ?_)
    have g0 : V_12 0 0 = nI 0 := (show V_12 0 0 = nI 0 from by rw [hV_12, u2_n _ _ (Or.inr (by decide))]; exact (by rw [hV_11, u2_n _ _ (Or.inr (by decide))]; exact (by rw [hV_10, u2_n _ _ (Or.inr (by decide))]; exact (by rw [hV_9, u2_n _ _ (Or.inr (by decide))]; exact (by rw [hV_8, u2_n _ _ (Or.inr (by decide))]; exact (by rw [hV_7, u2_n _ _ (Or.inr (by decide))]; exact (by rw [hV_6, u2_n _ _ (Or.inr (by decide))]; exact (by rw [hV_5, u2_n _ _ (Or.inr (by decide))]; exact (by rw [hV_4, u2_n _ _ (Or.inr (by decide))]; exact (by rw [hV_1, u2_s])))))))))).trans rfl
    have g1 : V_12 0 1 = bI true := (show V_12 0 1 = nI 1 from by rw [hV_12, u2_n _ _ (Or.inr (by decide))]; exact (by rw [hV_11, u2_n _ _ (Or.inr (by decide))]; exact (by rw [hV_10, u2_n _ _ (Or.inr (by decide))]; exact (by rw [hV_9, u2_n _ _ (Or.inr (by decide))]; exact (by rw [hV_8, u2_n _ _ (Or.inr (by decide))]; exact (by rw [hV_7, u2_n _ _ (Or.inr (by decide))]; exact (by rw [hV_6, u2_n _ _ (Or.inr (by decide))]; exact (by rw [hV_5, u2_n _ _ (Or.inr (by decide))]; exact (by rw [hV_4, u2_s]))))))))).trans rfl
    have g2 : V_12 0 2 = bI false := (show V_12 0 2 = nI 0 from by rw [hV_12, u2_n _ _ (Or.inr (by decide))]; exact (by rw [hV_11, u2_n _ _ (Or.inr (by decide))]; exact (by rw [hV_10, u2_n _ _ (Or.inr (by decide))]; exact (by rw [hV_9, u2_n _ _ (Or.inr (by decide))]; exact (by rw [hV_8, u2_n _ _ (Or.inr (by decide))]; exact (by rw [hV_7, u2_n _ _ (Or.inr (by decide))]; exact (by rw [hV_6, u2_n _ _ (Or.inr (by decide))]; exact (by rw [hV_5, u2_s])))))))).trans rfl
    have g3 : V_12 0 3 = nI xx := (show V_12 0 3 = nI xx from by rw [hV_12, u2_n _ _ (Or.inr (by decide))]; exact (by rw [hV_11, u2_n _ _ (Or.inr (by decide))]; exact (by rw [hV_10, u2_n _ _ (Or.inr (by decide))]; exact (by rw [hV_9, u2_s])))).trans rfl
    have g4 : V_12 0 4 = nI 0 := (show V_12 0 4 = nI 0 from by rw [hV_12, u2_s]).trans rfl
    have g6 : V_12 0 6 = bI false := (show V_12 0 6 = nI 0 from by rw [hV_12, u2_n _ _ (Or.inr (by decide))]; exact (by rw [hV_11, u2_n _ _ (Or.inr (by decide))]; exact (by rw [hV_10, u2_s]))).trans rfl
    have g7 : V_12 0 7 = bI false := (show V_12 0 7 = nI 0 from by rw [hV_12, u2_n _ _ (Or.inr (by decide))]; exact (by rw [hV_11, u2_s])).trans rfl
    have g8 : V_12 0 8 = -1 := (show V_12 0 8 = (-1) from by rw [hV_12, u2_n _ _ (Or.inr (by decide))]; exact (by rw [hV_11, u2_n _ _ (Or.inr (by decide))]; exact (by rw [hV_10, u2_n _ _ (Or.inr (by decide))]; exact (by rw [hV_9, u2_n _ _ (Or.inr (by decide))]; exact (by rw [hV_8, u2_n _ _ (Or.inr (by decide))]; exact (by rw [hV_7, u2_s])))))).trans rfl
    have g9 : V_12 0 9 = -1 := (show V_12 0 9 = (-1) from by rw [hV_12, u2_n _ _ (Or.inr (by decide))]; exact (by rw [hV_11, u2_n _ _ (Or.inr (by decide))]; exact (by rw [hV_10, u2_n _ _ (Or.inr (by decide))]; exact (by rw [hV_9, u2_n _ _ (Or.inr (by decide))]; exact (by rw [hV_8, u2_s]))))).trans rfl
    have g10 : V_12 0 10 = bI false := (show V_12 0 10 = nI 0 from by rw [hV_12, u2_n _ _ (Or.inr (by decide))]; exact (by rw [hV_11, u2_n _ _ (Or.inr (by decide))]; exact (by rw [hV_10, u2_n _ _ (Or.inr (by decide))]; exact (by rw [hV_9, u2_n _ _ (Or.inr (by decide))]; exact (by rw [hV_8, u2_n _ _ (Or.inr (by decide))]; exact (by rw [hV_7, u2_n _ _ (Or.inr (by decide))]; exact (by rw [hV_6, u2_s]))))))).trans rfl
    have g12 : V_12 0 12 = sh := (show V_12 0 12 = sh from by rw [hV_12, u2_n _ _ (Or.inr (by decide))]; exact (by rw [hV_11, u2_n _ _ (Or.inr (by decide))]; exact (by rw [hV_10, u2_n _ _ (Or.inr (by decide))]; exact (by rw [hV_9, u2_n _ _ (Or.inr (by decide))]; exact (by rw [hV_8, u2_n _ _ (Or.inr (by decide))]; exact (by rw [hV_7, u2_n _ _ (Or.inr (by decide))]; exact (by rw [hV_6, u2_n _ _ (Or.inr (by decide))]; exact (by rw [hV_5, u2_n _ _ (Or.inr (by decide))]; exact (by rw [hV_4, u2_n _ _ (Or.inr (by decide))]; exact (by rw [hV_1, u2_n _ _ (Or.inr (by decide))]; exact (hsh))))))))))).trans rfl
    refine lp_X3_format_w hx hb hts hown hml hK V_12 (fun V_Z1 H locs ls hZ1 hw hl => ?_) 1120 0 V_12 _ _ ls (by omega) ⟨fun _ _ => rfl, fun t ht => absurd ht (by omega)⟩ hw (lv_sub hl [0, 1] rfl)
    refine lv_iconst (v := nI 0) hx hb dX3_format_88 (by decide) ?_
    refine lv_istore_n (lv' := [(2, .int (nI 0)), (0, .ref (ad 0))]) hx hb dX3_format_89 rfl hl (by decide) rfl (fun ls hl => ?_)
    refine lp_X3_format_m hx hb hts hown hml hK V_Z1 (fun V_Z2 H locs ls hZ2 hw hl => ?_) 70 0 V_Z1 _ _ ls (by omega) ⟨fun _ _ => rfl, fun t ht => absurd ht (by omega)⟩ hw (lv_sub hl [0, 1] rfl)
    have hz0 : V_Z2 0 = V_12 0 := by rw [hZ2.1 0 (by decide), hZ1.1 0 (by decide)]
    have hz1 : ∀ t, t < 1120 → V_Z2 1 t = 0 := fun t ht => by rw [hZ2.1 1 (by decide)]; exact hZ1.2 t ht
    refine lv_aload_n hx hb dX3_format_109 rfl (lv_at hl 0 rfl) ?_
    refine w_callv hw (va_runV (As := []) (rest := []) ⟨hx, hb, hml, hown, hts⟩ (c_X3_begin l D cI cD ad _ V_Z2) (cwV 0 hts gX3_format_X3_begin rfl rfl rfl (by decide +kernel) ⟨Nat.le_of_ble_eq_true rfl, Nat.le_of_ble_eq_true rfl⟩) (w_preV hK hw (by omega) (mF_0 _) rfl _) rfl rfl hl.1 rfl (lv_room (Nat.le_of_ble_eq_true rfl)) dX3_format_110 ⟨Nat.le_of_ble_eq_true rfl, Nat.le_of_ble_eq_true rfl⟩) (fun V_13 H locs hp hw => ?_)
    have hB9 := hp
    clear hp
    refine lv_aload_n hx hb dX3_format_113 rfl (lv_at hl 0 rfl) ?_
    refine lv_iconst (v := nI 0) hx hb dX3_format_114 (by decide) ?_
    refine w_put (ci := 3) (C := RX3) (T := TX3) (M := 24) (x := nI 0) (ty := .int) hx hb hts hi3 tyX3 tyX3_ok nmX3 hown hK hw 0 (by omega) _ (mF_0 _) rfl 5 (by decide) (hts (.fieldLink RX3 106 "WideningArrayModel" "number" "I") (by decide +kernel)) rfl (by decide +kernel) rfl rfl (Nat.le_of_ble_eq_true rfl) (mF_0 _) dX3_format_115 (fun H locs hw => ?_)
    obtain ⟨V_14, hV_14⟩ : ∃ z : vT, z = u2 V_13 0 5 (nI 0) := ⟨_, rfl⟩
    rw [← hV_14] at hw
    have hk5 : ∀ j, j ≠ 5 → j ≠ 13 → j ≠ 16 → V_14 0 j = V_12 0 j := fun j h5 h13 h16 => by rw [hV_14, u2_n _ _ (Or.inr h5), hB9.2.1 j h13 h16, hz0]
    have hc5 : ∀ a, a ≠ 0 → V_14 a = V_Z2 a := fun a ha => by rw [hV_14, u2_r _ _ ha, hB9.1 a ha]
    have hR : mR V_14 ((fun _ _ => 0), (true, false), (xx, false, 0, false, 0), (-1, -1), (0, sh)) := mR_fmt ((hk5 1 (by decide) (by decide) (by decide)).trans g1) ((hk5 2 (by decide) (by decide) (by decide)).trans g2) ((hk5 3 (by decide) (by decide) (by decide)).trans g3) ((hk5 4 (by decide) (by decide) (by decide)).trans g4) (by rw [hV_14, u2_s]) ((hk5 6 (by decide) (by decide) (by decide)).trans g6) ((hk5 7 (by decide) (by decide) (by decide)).trans g7) ((hk5 8 (by decide) (by decide) (by decide)).trans g8) ((hk5 9 (by decide) (by decide) (by decide)).trans g9) ((hk5 10 (by decide) (by decide) (by decide)).trans g10) ((hk5 12 (by decide) (by decide) (by decide)).trans g12) (by rw [hc5 1 (by decide)]; exact hz1) (by rw [hc5 2 (by decide)]; exact hZ2.2)
    have h00 : V_14 0 0 = nI 0 := ((hk5 0 (by decide) (by decide) (by decide)).trans g0)
    have hp13 : V_14 0 13 = nI 0 := by rw [hV_14, u2_n _ _ (Or.inr (by decide))]; exact hB9.2.2.1
    have hQ : gQ V_14 [] := gQ_nil (by rw [hV_14, u2_n _ _ (Or.inr (by decide))]; exact hB9.2.2.2)
    obtain ⟨hn, hdn, hnum, hwd, hst⟩ := hR.sv rfl rfl
    refine lv_aload_n hx hb dX3_format_118 rfl (lv_at hl 0 rfl) ?_
    refine lv_aload_n hx hb dX3_format_119 rfl (lv_at hl 0 rfl) ?_
    refine w_get (ci := 3) (C := RX3) (T := TX3) (M := 24) (v := .int (nI xx)) hx hb hts hi3 hown hK hw 0 (by omega) _ (mF_0 _) rfl 3 (by decide) (hts (.fieldLink RX3 57 "WideningArrayModel" "n" "I") (by decide +kernel)) (congrArg (fun z => some (Value.int z)) (show V_14 0 3 = nI xx from hn)) dX3_format_120 ?_
    refine lv_iconst (v := nI 0) hx hb dX3_format_123 (by decide) ?_
    refine n_is (show nI 0 = bI false from rfl) ?_
    refine lv_iconst (v := nI 0) hx hb dX3_format_124 (by decide) ?_
    refine lv_iconst (v := nI 0) hx hb dX3_format_125 (by decide) ?_
    refine n_is (show nI 0 = bI false from rfl) ?_
    refine lv_aload_n hx hb dX3_format_126 rfl (lv_at hl 0 rfl) ?_
    refine w_get (ci := 3) (C := RX3) (T := TX3) (M := 24) (v := .int (nI xx)) hx hb hts hi3 hown hK hw 0 (by omega) _ (mF_0 _) rfl 3 (by decide) (hts (.fieldLink RX3 57 "WideningArrayModel" "n" "I") (by decide +kernel)) (congrArg (fun z => some (Value.int z)) (show V_14 0 3 = nI xx from hn)) dX3_format_127 ?_
    refine w_callv hw (va_runV (As := [.int (nI xx), .int (bI false), .int (nI 0), .int (bI false), .int (nI xx)]) (rest := []) ⟨hx, hb, hml, hown, hts⟩ (c_X3_issueMarks l D cI cD ad _ V_14 _ hQ 0 (show V_14 0 5 = nI 0 from hnum) (by omega) xx false 0 false xx (by omega) (by simp; omega)) (cwV 5 hts gX3_format_X3_issueMarks rfl rfl rfl (by decide +kernel) ⟨Nat.le_of_ble_eq_true rfl, Nat.le_of_ble_eq_true rfl⟩) (w_preV hK hw (by omega) (mF_0 _) rfl _) rfl rfl hl.1 rfl (lv_room (Nat.le_of_ble_eq_true rfl)) dX3_format_130 ⟨Nat.le_of_ble_eq_true rfl, Nat.le_of_ble_eq_true rfl⟩) (fun V_15 H locs hp hw => ?_)
    obtain ⟨hQ, hI1, hI2⟩ := hp
    have hsl9 : ∀ j, j ≤ 12 → V_15 0 j = V_14 0 j := fun j hj => hI2 j (by omega)
    have h00 : V_15 0 0 = nI 0 := (hsl9 0 (by decide)).trans h00
    have hR : mR V_15 ((fun _ _ => 0), (true, false), (xx, false, 0, false, 0), (-1, -1), (0, sh)) := hR.frame (hI1 1 (by decide) (by decide) (by decide) (by decide)) (hI1 2 (by decide) (by decide) (by decide) (by decide)) hsl9
    obtain ⟨⟨hmd, hlo, hfr, hsh, hz6, hmc⟩, hfd, har, hfa⟩ := hR.pt
    obtain ⟨hn, hdn, hnum, hwd, hst⟩ := hR.sv rfl rfl
    have hlf : V_15 0 8 = -1 ∨ V_15 0 9 = -1 := by rw [hlo, hfr]; exact Or.inl rfl
    have hp13 := (hI2 13 (by decide)).trans hp13
    refine lv_aload_n hx hb dX3_format_133 rfl (lv_at hl 0 rfl) ?_
    refine lv_iconst (v := nI 0) hx hb dX3_format_134 (by decide) ?_
    refine n_is (show nI 0 = bI false from rfl) ?_
    refine w_calli hw (va_runV (As := [.int (bI false)]) (rest := []) ⟨hx, hb, hml, hown, hts⟩ (c_X3_holds l D cI cD ad _ V_15 _ hQ (decide (¬ 0 = 0)) har _ rfl sh hsh 0 hp13 (hfd) hlf false) (cwV 1 hts gX3_format_X3_holds rfl rfl rfl (by decide +kernel) ⟨Nat.le_of_ble_eq_true rfl, Nat.le_of_ble_eq_true rfl⟩) (w_preV hK hw (by omega) (mF_0 _) rfl _) rfl rfl hl.1 rfl (lv_room (Nat.le_of_ble_eq_true rfl)) dX3_format_135 ⟨Nat.le_of_ble_eq_true rfl, Nat.le_of_ble_eq_true rfl⟩) (fun r_17 V_16 H locs hp hw => ?_)
    rw [hfl_f hfa (by decide) (by omega)] at hp
    have hH := hp
    clear hp
    have e8 := hH.1
    subst e8
    rw [show decide (0 = 0 + 1) = false from rfl] at hH
    have hmB := hH.mB hR.1 (Q' := mkQ (mkb 1 xx false 0 false) xx) (fun d => by rw [List.nil_append, qOf_mkL]; exact QEq.rf _)
    have h00 : V_16 0 0 = nI 0 := (hH.2.2.2.2.2.1 0 (by decide) (by decide) (by decide) (by decide)).trans h00
    obtain ⟨k3, k4, k5, k6, k7⟩ := hH.mN (hR.sv rfl rfl)
    refine lv_pop hx hb dX3_format_138 rfl ?_
    refine lv_aload_n hx hb dX3_format_139 rfl (lv_at hl 0 rfl) ?_
    refine lv_iconst (v := nI 1) hx hb dX3_format_140 (by decide) ?_
    refine w_put (ci := 3) (C := RX3) (T := TX3) (M := 24) (x := nI 1) (ty := .int) hx hb hts hi3 tyX3 tyX3_ok nmX3 hown hK hw 0 (by omega) _ (mF_0 _) rfl 5 (by decide) (hts (.fieldLink RX3 106 "WideningArrayModel" "number" "I") (by decide +kernel)) rfl (by decide +kernel) rfl rfl (Nat.le_of_ble_eq_true rfl) (mF_0 _) dX3_format_141 (fun H locs hw => ?_)
    obtain ⟨V_18, hV_18⟩ : ∃ z : vT, z = u2 V_16 0 5 (nI 1) := ⟨_, rfl⟩
    rw [← hV_18] at hw
    refine lv_aload_n hx hb dX3_format_144 rfl (lv_at hl 0 rfl) ?_
    refine w_calli hw (va_runV (As := []) (rest := []) ⟨hx, hb, hml, hown, hts⟩ (c_X3_capacity l D cI cD ad _ V_18 xx (show V_18 0 3 = nI xx from by rw [hV_18, u2_n _ _ (Or.inr (by decide))]; exact (k3)) (by omega)) (cwV 0 hts gX3_format_X3_capacity rfl rfl rfl (by decide +kernel) ⟨Nat.le_of_ble_eq_true rfl, Nat.le_of_ble_eq_true rfl⟩) (w_preV hK hw (by omega) (mF_0 _) rfl _) rfl rfl hl.1 rfl (lv_room (Nat.le_of_ble_eq_true rfl)) dX3_format_145 ⟨Nat.le_of_ble_eq_true rfl, Nat.le_of_ble_eq_true rfl⟩) (fun r_20 V_19 H locs hp hw => ?_)
    obtain ⟨e9, e8⟩ := hp
    subst e9
    subst e8
    exact w_iret hx hb hr hlocks hw (by have hL : oFormat (ct, (md, fd), (n, wide, dn, st, num), (lost, fresh), (fp, sh)) (nI xx) = (0, nI (32 * (xx - 1)), (eff (ab (-1) (-1)) false sh (mkQ (mkb 1 xx false 0 false) xx) (fun _ _ => 0), (true, false), (xx, false, 0, false, 1), (-1, -1), (0, sh))) := (by rw [oFormat]; refine (if_neg ?_).trans (by rw [nI_clamp (by omega)]); intro h; rcases h with h | h; (· exact absurd h (Int32.not_lt.mpr e7.1)); (· exact h e7.2)); have hk : ∀ j, j ≠ 5 → V_18 0 j = V_16 0 j := (fun j hj => by rw [hV_18, u2_n _ _ (Or.inr hj)]); rw [hL]; exact ⟨(hk 0 (by decide)).trans h00, fun _ => rfl, mR_end (V := V_18) (ar := false) (hmB.frame (by rw [hV_18, u2_r _ _ (by decide)]) (by rw [hV_18, u2_r _ _ (by decide)]) (fun j hj => hk j (by omega))) ((hk 2 (by decide)).trans hH.2.2.1) ((hk 10 (by decide)).trans hH.2.1) (fun h => absurd h (by decide)) (fun _ => ⟨(hk 3 (by decide)).trans k3, (hk 4 (by decide)).trans k4, by rw [hV_18, u2_s], (hk 6 (by decide)).trans k6, (hk 7 (by decide)).trans k7⟩)⟩) dX3_format_148
  · refine lv_aload_n hx hb dX3_format_15 rfl (lv_at hl 0 rfl) ?_
    refine lv_iconst (v := nI 1) hx hb dX3_format_16 (by decide) ?_
    refine w_calli hw (va_runV (As := [.int (nI 1)]) (rest := []) ⟨hx, hb, hml, hown, hts⟩ (c_X3_fail l D cI cD ad _ V_1 (nI 1)) (cwV 1 hts gX3_format_X3_fail rfl rfl rfl (by decide +kernel) ⟨Nat.le_of_ble_eq_true rfl, Nat.le_of_ble_eq_true rfl⟩) (w_preV hK hw (by omega) (mF_0 _) rfl _) rfl rfl hl.1 rfl (lv_room (Nat.le_of_ble_eq_true rfl)) dX3_format_17 ⟨Nat.le_of_ble_eq_true rfl, Nat.le_of_ble_eq_true rfl⟩) (fun r_22 V_21 H locs hp hw => ?_)
    obtain ⟨e9f, e8⟩ := hp
    subst e8
    exact w_iret hx hb hr hlocks hw (by have hL : oFormat (ct, (md, fd), (n, wide, dn, st, num), (lost, fresh), (fp, sh)) x = (1, 0, (ct, (md, fd), (n, wide, dn, st, num), (lost, fresh), (fp, sh))) := (by rw [oFormat]; refine if_pos ?_; by_cases z : x < nI 3; (· exact Or.inl z); (· exact Or.inr (fun z2 => of_decide_eq_false (bI_0.mp c_12) ⟨Int32.not_lt.mp z, z2⟩))); rw [hL]; exact ⟨by rw [e9f, u2_s], fun h => absurd (show (1 : Nat) = 0 from h) (by decide), mR_u0 (mR_u0 hR hV_1) e9f⟩) dX3_format_20
