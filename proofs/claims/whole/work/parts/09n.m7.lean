set_option maxHeartbeats 4000000 in
set_option maxRecDepth 100000 in
theorem lp_X3_stash_i {p : Program} {l : Launch} {e : Env} {s : State} {m : MethodId} {args : Array Value} {below : List Frame} {meth : Method} {c : Code} {Q : State → Prop} {D : va_G} {cI cD : ClassId} {ad : Nat → Nat} (hx : p.tables.exec = Jvm.exec) (hb : c.code = cX3_stash) (hts : ∀ w ∈ wsX3_stash, w.before args s = true) (hown : s.vm.findClass RX3 = some m.cls) (hml : c.maxLocals = 3) (hK : kK D cI cD s) (V0 : vT) (n : Nat) (hn : V0 0 3 = nI n) (dn : Nat) (hdn : V0 0 4 = nI dn) (wide : Bool) (hwd : V0 0 6 = bI wide) (st : Bool) (hst : V0 0 7 = bI st) (hn3 : 3 ≤ n) (hn6 : n ≤ 6) (hd32 : dn < 32) (hwn : wide = true → n < 6) (hsw : st = true → wide = true) (hlf : V0 0 8 = -1 ∨ V0 0 9 = -1) (j : Nat) (hj : j < n) (hk : ∀ (V1 : vT) (H1 : Heap) (locs1 : List Loc) (ls : Array Slot), ((∀ a, a ≠ 8 → V1 a = V0 a) ∧ ∀ t, t < 4 → V1 8 t = winw (mw V0) (ab (V0 0 8) (V0 0 9)) n wide dn st j t) → wS D 10 ad (mF cI ad) s.heap V1 H1 locs1 → lv_has ls 3 [(1, .int (nI j)), (0, .ref (ad 0))] → W p l e ({ frames := 3, cells := 0, slots := 0, locals := 72 }) s m args below meth c H1 locs1 0 0 Q (F0 m 45 ls [])) : ∀ (n9 i : Nat) (V : vT) (H : Heap) (locs : List Loc) (ls : Array Slot), (i + n9 = 4) → ((∀ a, a ≠ 8 → V a = V0 a) ∧ ∀ t, t < i → V 8 t = winw (mw V0) (ab (V0 0 8) (V0 0 9)) n wide dn st j t) → wS D 10 ad (mF cI ad) s.heap V H locs → lv_has ls 3 [(2, .int (nI i)), (1, .int (nI j)), (0, .ref (ad 0))] → W p l e ({ frames := 3, cells := 0, slots := 0, locals := 72 }) s m args below meth c H locs 0 0 Q (F0 m 12 ls []) := by
  have hi3 : ∀ w ∈ wsX30, w ∈ wsX3_stash := by decide +kernel
  have hbn : dn * n ≤ 192 := Nat.le_trans (Nat.mul_le_mul (show dn ≤ 32 by omega) hn6) (by decide)
  intro n9
  induction n9 with
  | zero =>
    intro i V H locs ls hjn hin hw hl
    refine lv_iload_n hx hb dX3_stash_12 rfl (lv_at hl 0 rfl) ?_
    refine lv_iconst (v := nI 4) hx hb dX3_stash_13 (by decide) ?_
    refine n_icmp_ge (tgt := 45) hx hb dX3_stash_14 (by decide) (by omega) (by omega) (fun c_14 => ?_) (fun c_14 => ?_)
    · have e1 : i = 4 := by omega
      subst e1
      exact hk V H locs ls hin hw (lv_sub hl [1, 2] rfl)
    · exfalso
      omega
  | succ n9 ih =>
    intro i V H locs ls hjn hin hw hl
    refine lv_iload_n hx hb dX3_stash_12 rfl (lv_at hl 0 rfl) ?_
    refine lv_iconst (v := nI 4) hx hb dX3_stash_13 (by decide) ?_
    refine n_icmp_ge (tgt := 45) hx hb dX3_stash_14 (by decide) (by omega) (by omega) (fun c_14 => ?_) (fun c_14 => ?_)
    · exfalso
      omega
    · refine lv_aload_n hx hb dX3_stash_17 rfl (lv_at hl 2 rfl) ?_
      refine w_get (ci := 3) (C := RX3) (T := TX3) (M := 24) (v := .ref (ad 8)) hx hb hts hi3 hown hK hw 0 (by omega) _ (mF_0 _) rfl 22 (by decide) (hts (.fieldLink RX3 38 "WideningArrayModel" "block" "[I") (by decide +kernel)) rfl dX3_stash_18 ?_
      refine lv_iload_n hx hb dX3_stash_21 rfl (lv_at hl 0 rfl) ?_
      refine lv_aload_n hx hb dX3_stash_22 rfl (lv_at hl 2 rfl) ?_
      refine lv_aload_n hx hb dX3_stash_23 rfl (lv_at hl 2 rfl) ?_
      refine w_get (ci := 3) (C := RX3) (T := TX3) (M := 24) (v := .int (nI dn)) hx hb hts hi3 hown hK hw 0 (by omega) _ (mF_0 _) rfl 4 (by decide) (hts (.fieldLink RX3 64 "WideningArrayModel" "done" "I") (by decide +kernel)) (congrArg (fun z => some (Value.int z)) (show V 0 4 = nI dn from by rw [hin.1 0 (by decide)]; exact hdn)) dX3_stash_24 ?_
      refine lv_aload_n hx hb dX3_stash_27 rfl (lv_at hl 2 rfl) ?_
      refine w_get (ci := 3) (C := RX3) (T := TX3) (M := 24) (v := .int (nI n)) hx hb hts hi3 hown hK hw 0 (by omega) _ (mF_0 _) rfl 3 (by decide) (hts (.fieldLink RX3 57 "WideningArrayModel" "n" "I") (by decide +kernel)) (congrArg (fun z => some (Value.int z)) (show V 0 3 = nI n from by rw [hin.1 0 (by decide)]; exact hn)) dX3_stash_28 ?_
      refine n_mul hx hb dX3_stash_31 ?_
      refine lv_iload_n hx hb dX3_stash_32 rfl (lv_at hl 1 rfl) ?_
      refine n_add hx hb dX3_stash_33 ?_
      refine lv_iload_n hx hb dX3_stash_34 rfl (lv_at hl 0 rfl) ?_
      refine w_calli hw (va_runV (As := [.int (nI ((dn * n) + j)), .int (nI i)]) (rest := [.int (nI i), .ref (ad 8)]) ⟨hx, hb, hml, hown, hts⟩ (c_X3_wordAt l D cI cD ad _ V n (show V 0 3 = nI n from by rw [hin.1 0 (by decide)]; exact hn) wide (show V 0 6 = bI wide from by rw [hin.1 0 (by decide)]; exact hwd) dn (show V 0 4 = nI dn from by rw [hin.1 0 (by decide)]; exact hdn) st (show V 0 7 = bI st from by rw [hin.1 0 (by decide)]; exact hst) hn3 hn6 hd32 hwn hsw (by rw [hin.1 0 (by decide)]; exact hlf) ((dn * n) + j) i (by omega) (by omega)) (cwV 2 hts gX3_stash_X3_wordAt rfl rfl rfl (by decide +kernel) ⟨Nat.le_of_ble_eq_true rfl, Nat.le_of_ble_eq_true rfl⟩) (w_preV hK hw (by omega) (mF_0 _) rfl _) rfl rfl hl.1 rfl (lv_room (Nat.le_of_ble_eq_true rfl)) dX3_stash_35 ⟨Nat.le_of_ble_eq_true rfl, Nat.le_of_ble_eq_true rfl⟩) (fun r_2 V_1 H locs hp hw => ?_)
      obtain ⟨e9, e8⟩ := hp
      subst e9
      subst e8
      refine n_is (show (if (dn * n) + j < 32 * (n - 1) then wob (mw V) (ab (V 0 8) (V 0 9)) n wide dn st ((dn * n) + j) i else 0) = winw (mw V0) (ab (V0 0 8) (V0 0 9)) n wide dn st j i from wa_m (hin.1 1 (by decide)) (hin.1 0 (by decide))) ?_
      refine w_iast hx hb hK hw 8 4 (by omega) (fun _ => rfl) (i := i) (by omega) (by decide) dX3_stash_38 (fun H locs hw => ?_)
      obtain ⟨V_3, hV_3⟩ : ∃ z : vT, z = u2 V 8 i (winw (mw V0) (ab (V0 0 8) (V0 0 9)) n wide dn st j i) := ⟨_, rfl⟩
      rw [← hV_3] at hw
      refine lv_iinc (v := nI (i + 1)) (lv' := [(2, .int (nI (i + 1))), (1, .int (nI j)), (0, .ref (ad 0))]) hx hb dX3_stash_39 hl (k := 0) rfl (nI_1 _) (by decide) rfl (fun ls hl => ?_)
      refine lv_goto (tgt := 12) hx hb dX3_stash_42 (by decide) ?_
      exact ih (i + 1) _ _ _ ls (by omega) ⟨fun a ha => by rw [hV_3, u2_r _ _ ha]; exact hin.1 a ha, fun t ht => by by_cases z : t = i; (· rw [z, hV_3, u2_s]); (· rw [hV_3, u2_n _ _ (Or.inr z)]; exact hin.2 t (by omega))⟩ hw (lv_sub hl [0, 1, 2] rfl)
set_option maxHeartbeats 4000000 in
set_option maxRecDepth 100000 in
theorem lp_X3_stash {p : Program} {l : Launch} {e : Env} {s : State} {m : MethodId} {args : Array Value} {below : List Frame} {meth : Method} {c : Code} {Q : State → Prop} {D : va_G} {cI cD : ClassId} {ad : Nat → Nat} (hx : p.tables.exec = Jvm.exec) (hb : c.code = cX3_stash) (hts : ∀ w ∈ wsX3_stash, w.before args s = true) (hown : s.vm.findClass RX3 = some m.cls) (hml : c.maxLocals = 3) (hK : kK D cI cD s) (V0 : vT) (n : Nat) (hn : V0 0 3 = nI n) (dn : Nat) (hdn : V0 0 4 = nI dn) (wide : Bool) (hwd : V0 0 6 = bI wide) (st : Bool) (hst : V0 0 7 = bI st) (hn3 : 3 ≤ n) (hn6 : n ≤ 6) (hd32 : dn < 32) (hwn : wide = true → n < 6) (hsw : st = true → wide = true) (hlf : V0 0 8 = -1 ∨ V0 0 9 = -1) (DD : Nat → Int32) (hD : ∀ j i, j < n → i < 4 → winw (mw V0) (ab (V0 0 8) (V0 0 9)) n wide dn st j i = DD (j * 4 + i)) (hn5 : n < 6) (hk : ∀ (V1 : vT) (H1 : Heap) (locs1 : List Loc) (ls : Array Slot), ((∀ a, a = 1 ∨ a = 2 → V1 a = V0 a) ∧ (∀ t, t ≠ 16 → V1 0 t = V0 0 t) ∧ ∃ L : List (Nat × Wr), gQ V1 L ∧ L.length = 2 * n ∧ ∀ d, QEq (qOf L d) (stQ DD n n d)) → wS D 10 ad (mF cI ad) s.heap V1 H1 locs1 → lv_has ls 3 [(0, .ref (ad 0))] → W p l e ({ frames := 3, cells := 0, slots := 0, locals := 72 }) s m args below meth c H1 locs1 0 0 Q (F0 m 72 ls [])) : ∀ (n9 j : Nat) (V : vT) (H : Heap) (locs : List Loc) (ls : Array Slot), (j + n9 = n) → ((∀ a, a = 1 ∨ a = 2 → V a = V0 a) ∧ (∀ t, t ≠ 16 → V 0 t = V0 0 t) ∧ ∃ L : List (Nat × Wr), gQ V L ∧ L.length = 2 * j ∧ ∀ d, QEq (qOf L d) (stQ DD n j d)) → wS D 10 ad (mF cI ad) s.heap V H locs → lv_has ls 3 [(1, .int (nI j)), (0, .ref (ad 0))] → W p l e ({ frames := 3, cells := 0, slots := 0, locals := 72 }) s m args below meth c H locs 0 0 Q (F0 m 2 ls []) := by
  have hi3 : ∀ w ∈ wsX30, w ∈ wsX3_stash := by decide +kernel
  have hbn : dn * n ≤ 192 := Nat.le_trans (Nat.mul_le_mul (show dn ≤ 32 by omega) hn6) (by decide)
  intro n9
  induction n9 with
  | zero =>
    intro j V H locs ls hjn hin hw hl
    refine lv_iload_n hx hb dX3_stash_2 rfl (lv_at hl 0 rfl) ?_
    refine lv_aload_n hx hb dX3_stash_3 rfl (lv_at hl 1 rfl) ?_
    refine w_get (ci := 3) (C := RX3) (T := TX3) (M := 24) (v := .int (nI n)) hx hb hts hi3 hown hK hw 0 (by omega) _ (mF_0 _) rfl 3 (by decide) (hts (.fieldLink RX3 57 "WideningArrayModel" "n" "I") (by decide +kernel)) (congrArg (fun z => some (Value.int z)) (show V 0 3 = nI n from by rw [hin.2.1 3 (by decide)]; exact hn)) dX3_stash_4 ?_
    refine n_icmp_ge (tgt := 72) hx hb dX3_stash_7 (by decide) (by omega) (by omega) (fun c_7 => ?_) (fun c_7 => ?_)
    · have e1 : j = n := by omega
      subst e1
      exact hk V H locs ls hin hw (lv_sub hl [1] rfl)
    · exfalso
      omega
  | succ n9 ih =>
    intro j V H locs ls hjn hin hw hl
    refine lv_iload_n hx hb dX3_stash_2 rfl (lv_at hl 0 rfl) ?_
    refine lv_aload_n hx hb dX3_stash_3 rfl (lv_at hl 1 rfl) ?_
    refine w_get (ci := 3) (C := RX3) (T := TX3) (M := 24) (v := .int (nI n)) hx hb hts hi3 hown hK hw 0 (by omega) _ (mF_0 _) rfl 3 (by decide) (hts (.fieldLink RX3 57 "WideningArrayModel" "n" "I") (by decide +kernel)) (congrArg (fun z => some (Value.int z)) (show V 0 3 = nI n from by rw [hin.2.1 3 (by decide)]; exact hn)) dX3_stash_4 ?_
    refine n_icmp_ge (tgt := 72) hx hb dX3_stash_7 (by decide) (by omega) (by omega) (fun c_7 => ?_) (fun c_7 => ?_)
    · exfalso
      omega
    · refine lv_iconst (v := nI 0) hx hb dX3_stash_10 (by decide) ?_
      refine lv_istore_n (lv' := [(2, .int (nI 0)), (1, .int (nI j)), (0, .ref (ad 0))]) hx hb dX3_stash_11 rfl hl (by decide) rfl (fun ls hl => ?_)
      obtain ⟨hc9, hs9, L, hQ, hLl, hQE⟩ := hin
      refine lp_X3_stash_i hx hb hts hown hml hK V n (by rw [hs9 3 (by decide)]; exact hn) dn (by rw [hs9 4 (by decide)]; exact hdn) wide (by rw [hs9 6 (by decide)]; exact hwd) st (by rw [hs9 7 (by decide)]; exact hst) hn3 hn6 hd32 hwn hsw (by rw [hs9 8 (by decide), hs9 9 (by decide)]; exact hlf) j (by omega) (fun V_I H locs ls hI hw hl => ?_) 4 0 V _ _ ls (by omega) ⟨fun _ _ => rfl, fun t ht => absurd ht (by omega)⟩ hw (lv_sub hl [0, 1, 2] rfl)
      have hQ := gQ_congr (V1 := V_I) (by rw [hI.1 0 (by decide)]) (hI.1 3 (by decide)) (hI.1 4 (by decide)) (hI.1 5 (by decide)) hQ
      have hmw : mw V = mw V0 := by funext d j; show V 1 _ = V0 1 _; rw [hc9 1 (by decide)]
      have hb8 : ∀ i, i < 4 → V_I 8 i = DD (j * 4 + i) := fun i hi => by rw [hI.2 i hi, hmw, hs9 8 (by decide), hs9 9 (by decide)]; exact hD j i (by omega) hi
      refine lv_aload_n hx hb dX3_stash_45 rfl (lv_at hl 1 rfl) ?_
      refine lv_aload_n hx hb dX3_stash_46 rfl (lv_at hl 1 rfl) ?_
      refine w_get (ci := 3) (C := RX3) (T := TX3) (M := 24) (v := .int (nI n)) hx hb hts hi3 hown hK hw 0 (by omega) _ (mF_0 _) rfl 3 (by decide) (hts (.fieldLink RX3 57 "WideningArrayModel" "n" "I") (by decide +kernel)) (congrArg (fun z => some (Value.int z)) (show V_I 0 3 = nI n from by rw [hI.1 0 (by decide), hs9 3 (by decide)]; exact hn)) dX3_stash_47 ?_
      refine lv_bipush (v := nI 32) hx hb dX3_stash_50 (by decide) ?_
      refine lv_iload_n hx hb dX3_stash_52 rfl (lv_at hl 0 rfl) ?_
      refine n_add hx hb dX3_stash_53 ?_
      refine w_callv hw (va_runV (As := [.int (nI n), .int (nI (32 + j))]) (rest := []) ⟨hx, hb, hml, hown, hts⟩ (c_X3_issueBlock l D cI cD ad _ V_I _ hQ (by first | omega | (simp; omega)) n (32 + j) (by omega) (by omega)) (cwV 2 hts gX3_stash_X3_issueBlock rfl rfl rfl (by decide +kernel) ⟨Nat.le_of_ble_eq_true rfl, Nat.le_of_ble_eq_true rfl⟩) (w_preV hK hw (by omega) (mF_0 _) rfl _) rfl rfl hl.1 rfl (lv_room (Nat.le_of_ble_eq_true rfl)) dX3_stash_54 ⟨Nat.le_of_ble_eq_true rfl, Nat.le_of_ble_eq_true rfl⟩) (fun V_1 H locs hp hw => ?_)
      obtain ⟨hQ, hJ0, hK09⟩ := hp
      refine lv_aload_n hx hb dX3_stash_57 rfl (lv_at hl 1 rfl) ?_
      refine lv_iconst (v := nI 0) hx hb dX3_stash_58 (by decide) ?_
      refine lv_bipush (v := nI 32) hx hb dX3_stash_59 (by decide) ?_
      refine lv_iload_n hx hb dX3_stash_61 rfl (lv_at hl 0 rfl) ?_
      refine n_add hx hb dX3_stash_62 ?_
      refine w_callv hw (va_runV (As := [.int (nI 0), .int (nI (32 + j))]) (rest := []) ⟨hx, hb, hml, hown, hts⟩ (c_X3_issueBlock l D cI cD ad _ V_1 _ hQ (by first | omega | (simp; omega)) 0 (32 + j) (by omega) (by omega)) (cwV 2 hts gX3_stash_X3_issueBlock rfl rfl rfl (by decide +kernel) ⟨Nat.le_of_ble_eq_true rfl, Nat.le_of_ble_eq_true rfl⟩) (w_preV hK hw (by omega) (mF_0 _) rfl _) rfl rfl hl.1 rfl (lv_room (Nat.le_of_ble_eq_true rfl)) dX3_stash_63 ⟨Nat.le_of_ble_eq_true rfl, Nat.le_of_ble_eq_true rfl⟩) (fun V_2 H locs hp hw => ?_)
      obtain ⟨hQ, hJ1, hK19⟩ := hp
      refine lv_iinc (v := nI (j + 1)) (lv' := [(1, .int (nI (j + 1))), (0, .ref (ad 0))]) hx hb dX3_stash_66 hl (k := 0) rfl (nI_1 _) (by decide) rfl (fun ls hl => ?_)
      refine lv_goto (tgt := 2) hx hb dX3_stash_69 (by decide) ?_
      have hin' : (∀ a, a = 1 ∨ a = 2 → V_2 a = V0 a) ∧ (∀ t, t ≠ 16 → V_2 0 t = V0 0 t) ∧ ∃ L : List (Nat × Wr), gQ V_2 L ∧ L.length = 2 * (j + 1) ∧ ∀ d, QEq (qOf L d) (stQ DD n (j + 1) d) := by
        refine ⟨fun a ha => ?_, fun t ht => ?_, _, hQ, by simp; omega, fun d => stQ_snoc hQE hb8 (fun i hi => ?_) d⟩
        · rw [hJ1 a (by omega) (by omega) (by omega) (by omega), hJ0 a (by omega) (by omega) (by omega) (by omega), hI.1 a (by omega)]
          exact hc9 a ha
        · rw [hK19 t ht, hK09 t ht, hI.1 0 (by decide)]
          exact hs9 t ht
        · rw [hJ0 8 (by decide) (by decide) (by decide) (by decide)]
          exact hb8 i hi
      exact ih (j + 1) _ _ _ ls (by omega) hin' hw (lv_sub hl [0, 1] rfl)
set_option maxHeartbeats 4000000 in
set_option maxRecDepth 100000 in
theorem c_X3_stash (l : Launch) (D : va_G) (cI cD : ClassId) (ad : Nat → Nat) (sz : Nat) (V : vT) (ct : Nat → Nat → Int32) (md fd : Bool) (n dn num : Nat) (lost fresh : Int32) (fp : Nat) (sh : Int32) (hR : mR V (ct, (md, fd), (n, true, dn, false, num), (lost, fresh), (fp, sh))) (e1 : md = true) (e2 : fd = false) (hn3 : 3 ≤ n) (hn5 : n < 6) (hd32 : dn < 32) (hlf9 : lost = -1 ∨ fresh = -1) (hfpl : fp < 2 ^ 31) (hnum2 : num < 20000) (hQ : gQ V []) (h00 : V 0 0 = nI 0) (hp13 : V 0 13 = nI 0) : Met l yX3_stash wsX3_stash ({ frames := 3, cells := 0, slots := 0, locals := 72 }) (gP D cI cD 10 ad (mF cI ad) sz V [.ref (ad 0)]) (va_Qi (fun (r : Int32) (V1 : vT) => V1 0 0 = nI 0 ∧ ((fp = 1 ∧ bI false = r ∧ ∀ nn ww ddn ss nnum, mR V1 (eff (ab lost fresh) (decide (fp = 0 + 1)) sh (stQ (stD (ct, (md, fd), (n, true, dn, false, num), (lost, fresh), (fp, sh))) n n) ct, (md, true), (nn, ww, ddn, ss, nnum), (lost, fresh), (0, sh))) ∨ (fp = 2 ∧ bI false = r ∧ ∀ nn ww ddn ss nnum, mR V1 (eff (ab lost fresh) (decide (fp = 1 + 1)) sh (mkQ (mkb (num + 1) n true dn true) (n + 1)) (eff (ab lost fresh) (decide (fp = 0 + 1)) sh (stQ (stD (ct, (md, fd), (n, true, dn, false, num), (lost, fresh), (fp, sh))) n n) ct), (md, true), (nn, ww, ddn, ss, nnum), (lost, fresh), (0, sh))) ∨ (fp ≠ 1 ∧ fp ≠ 2 ∧ bI true = r ∧ mR V1 (eff (ab lost fresh) (decide (fp = 1 + 1)) sh (mkQ (mkb (num + 1) n true dn true) (n + 1)) (eff (ab lost fresh) (decide (fp = 0 + 1)) sh (stQ (stD (ct, (md, fd), (n, true, dn, false, num), (lost, fresh), (fp, sh))) n n) ct), (md, fd), (n, true, dn, true, num + 1), (lost, fresh), (fp, sh)) ∧ V1 0 13 = nI 2 ∧ gQ V1 []))) (gB D 10 ad (mF cI ad)) (gA 10 ad sz)) 0 0 (gA 10 ad sz) := by
  refine w_met (cc := cX3_stash) (maxL := 3) (ret := (some .boolean)) (by decide) rfl (Nat.le_of_ble_eq_true rfl) ?_
  intro p e s m below meth c hx hb hr hts hown hlocks hml hsz hK hw ls hl
  subst hsz
  have hown : s.vm.findClass RX3 = some m.cls := hown
  have hi3 : ∀ w ∈ wsX30, w ∈ wsX3_stash := by decide +kernel
  have hl : lv_has ls 3 [(0, .ref (ad 0))] := hl
  obtain ⟨⟨hmd, hlo, hfr, hsh, hz6, hmc⟩, hfd, har, hfa⟩ := hR.pt
  obtain ⟨hn, hdn, hnum, hwd, hst⟩ := hR.sv e1 e2
  have hlf : V 0 8 = -1 ∨ V 0 9 = -1 := by rw [hlo, hfr]; exact hlf9
  have hn6 : n ≤ 6 := by omega
  refine lv_iconst (v := nI 0) hx hb dX3_stash_0 (by decide) ?_
  refine lv_istore_n (lv' := [(1, .int (nI 0)), (0, .ref (ad 0))]) hx hb dX3_stash_1 rfl hl (by decide) rfl (fun ls hl => ?_)
  refine lp_X3_stash hx hb hts hown hml hK V n hn dn hdn true hwd false hst hn3 hn6 hd32 (fun _ => hn5) (fun h => absurd h (by decide)) hlf (stD (ct, (md, fd), (n, true, dn, false, num), (lost, fresh), (fp, sh))) (fun j i hj hi => by rw [hlo, hfr, winw_congr (wc_M hR.1) hn3 hn6 (fun _ => hn5) hi]; exact (d3_at hi).symm) hn5 (fun V_L H locs ls hL hw hl => ?_) n 0 V _ _ ls (by omega) ⟨fun _ _ => rfl, fun _ _ => rfl, [], hQ, rfl, fun d => trivial⟩ hw (lv_sub hl [0, 1] rfl)
  obtain ⟨hc9, hs9, L, hQ, hLl, hQE⟩ := hL
  have hsl9 : ∀ j, j ≤ 12 → V_L 0 j = V 0 j := fun j hj => hs9 j (by omega)
  have h00 : V_L 0 0 = nI 0 := (hsl9 0 (by decide)).trans h00
  have hR : mR V_L (ct, (md, fd), (n, true, dn, false, num), (lost, fresh), (fp, sh)) := hR.frame (hc9 1 (by decide)) (hc9 2 (by decide)) hsl9
  obtain ⟨⟨hmd, hlo, hfr, hsh, hz6, hmc⟩, hfd, har, hfa⟩ := hR.pt
  obtain ⟨hn, hdn, hnum, hwd, hst⟩ := hR.sv e1 e2
  have hlf : V_L 0 8 = -1 ∨ V_L 0 9 = -1 := by rw [hlo, hfr]; exact hlf9
  have hp13 := (hs9 13 (by decide)).trans hp13
  refine lv_aload_n hx hb dX3_stash_72 rfl (lv_at hl 0 rfl) ?_
  refine lv_iconst (v := nI 0) hx hb dX3_stash_73 (by decide) ?_
  refine n_is (show nI 0 = bI false from rfl) ?_
  refine w_calli hw (va_runV (As := [.int (bI false)]) (rest := []) ⟨hx, hb, hml, hown, hts⟩ (c_X3_holds l D cI cD ad _ V_L _ hQ (decide (¬ fp = 0)) har _ rfl sh hsh 0 hp13 (by rw [hfd, e2]) hlf false) (cwV 1 hts gX3_stash_X3_holds rfl rfl rfl (by decide +kernel) ⟨Nat.le_of_ble_eq_true rfl, Nat.le_of_ble_eq_true rfl⟩) (w_preV hK hw (by omega) (mF_0 _) rfl _) rfl rfl hl.1 rfl (lv_room (Nat.le_of_ble_eq_true rfl)) dX3_stash_74 ⟨Nat.le_of_ble_eq_true rfl, Nat.le_of_ble_eq_true rfl⟩) (fun r_2 V_1 H locs hp hw => ?_)
  rw [hfl_f hfa hfpl (by omega)] at hp
  have hH := hp
  clear hp
  have e8 := hH.1
  subst e8
  refine lv_if_ne (tgt := 82) hx hb dX3_stash_77 (by decide) (fun c_77 => ?_) (fun c_77 => ?_)
  · have z1 : ¬ fp = 0 + 1 := by have := bI_n0.mp c_77; simpa using this
    obtain ⟨hR, hQ⟩ := mR_go hH hR e1 e2 (decide_eq_false z1) hQE
    have h00 : V_1 0 0 = nI 0 := (hH.2.2.2.2.2.1 0 (by decide) (by decide) (by decide) (by decide)).trans h00
    have hp13 := hH.2.2.2.1
    obtain ⟨⟨hmd, hlo, hfr, hsh, hz6, hmc⟩, hfd, har, hfa⟩ := hR.pt
    obtain ⟨hn, hdn, hnum, hwd, hst⟩ := hR.sv e1 e2
    have hlf : V_1 0 8 = -1 ∨ V_1 0 9 = -1 := by rw [hlo, hfr]; exact hlf9
    refine lv_aload_n hx hb dX3_stash_82 rfl (lv_at hl 0 rfl) ?_
    refine lv_aload_n hx hb dX3_stash_83 rfl (lv_at hl 0 rfl) ?_
    refine w_get (ci := 3) (C := RX3) (T := TX3) (M := 24) (v := .int (nI n)) hx hb hts hi3 hown hK hw 0 (by omega) _ (mF_0 _) rfl 3 (by decide) (hts (.fieldLink RX3 57 "WideningArrayModel" "n" "I") (by decide +kernel)) (congrArg (fun z => some (Value.int z)) (show V_1 0 3 = nI n from hn)) dX3_stash_84 ?_
    refine lv_iconst (v := nI 1) hx hb dX3_stash_87 (by decide) ?_
    refine n_is (show nI 1 = bI true from rfl) ?_
    refine lv_aload_n hx hb dX3_stash_88 rfl (lv_at hl 0 rfl) ?_
    refine w_get (ci := 3) (C := RX3) (T := TX3) (M := 24) (v := .int (nI dn)) hx hb hts hi3 hown hK hw 0 (by omega) _ (mF_0 _) rfl 4 (by decide) (hts (.fieldLink RX3 64 "WideningArrayModel" "done" "I") (by decide +kernel)) (congrArg (fun z => some (Value.int z)) (show V_1 0 4 = nI dn from hdn)) dX3_stash_89 ?_
    refine lv_iconst (v := nI 1) hx hb dX3_stash_92 (by decide) ?_
    refine n_is (show nI 1 = bI true from rfl) ?_
    refine lv_aload_n hx hb dX3_stash_93 rfl (lv_at hl 0 rfl) ?_
    refine w_get (ci := 3) (C := RX3) (T := TX3) (M := 24) (v := .int (nI n)) hx hb hts hi3 hown hK hw 0 (by omega) _ (mF_0 _) rfl 3 (by decide) (hts (.fieldLink RX3 57 "WideningArrayModel" "n" "I") (by decide +kernel)) (congrArg (fun z => some (Value.int z)) (show V_1 0 3 = nI n from hn)) dX3_stash_94 ?_
    refine lv_iconst (v := nI 1) hx hb dX3_stash_97 (by decide) ?_
    refine n_add hx hb dX3_stash_98 ?_
    refine w_callv hw (va_runV (As := [.int (nI n), .int (bI true), .int (nI dn), .int (bI true), .int (nI (n + 1))]) (rest := []) ⟨hx, hb, hml, hown, hts⟩ (c_X3_issueMarks l D cI cD ad _ V_1 _ hQ num (show V_1 0 5 = nI num from hnum) (by omega) n true dn true (n + 1) (by omega) (by simp; omega)) (cwV 5 hts gX3_stash_X3_issueMarks rfl rfl rfl (by decide +kernel) ⟨Nat.le_of_ble_eq_true rfl, Nat.le_of_ble_eq_true rfl⟩) (w_preV hK hw (by omega) (mF_0 _) rfl _) rfl rfl hl.1 rfl (lv_room (Nat.le_of_ble_eq_true rfl)) dX3_stash_99 ⟨Nat.le_of_ble_eq_true rfl, Nat.le_of_ble_eq_true rfl⟩) (fun V_3 H locs hp hw => ?_)
    obtain ⟨hQ, hI1, hI2⟩ := hp
    have hsl9 : ∀ j, j ≤ 12 → V_3 0 j = V_1 0 j := fun j hj => hI2 j (by omega)
    have h00 : V_3 0 0 = nI 0 := (hsl9 0 (by decide)).trans h00
    have hR : mR V_3 (eff (ab lost fresh) (decide (fp = 0 + 1)) sh (stQ (stD (ct, (md, fd), (n, true, dn, false, num), (lost, fresh), (fp, sh))) n n) ct, (md, fd), (n, true, dn, false, num), (lost, fresh), (fp, sh)) := hR.frame (hI1 1 (by decide) (by decide) (by decide) (by decide)) (hI1 2 (by decide) (by decide) (by decide) (by decide)) hsl9
    obtain ⟨⟨hmd, hlo, hfr, hsh, hz6, hmc⟩, hfd, har, hfa⟩ := hR.pt
    obtain ⟨hn, hdn, hnum, hwd, hst⟩ := hR.sv e1 e2
    have hlf : V_3 0 8 = -1 ∨ V_3 0 9 = -1 := by rw [hlo, hfr]; exact hlf9
    have hp13 := (hI2 13 (by decide)).trans hp13
    refine lv_aload_n hx hb dX3_stash_102 rfl (lv_at hl 0 rfl) ?_
    refine lv_iconst (v := nI 0) hx hb dX3_stash_103 (by decide) ?_
    refine n_is (show nI 0 = bI false from rfl) ?_
    refine w_calli hw (va_runV (As := [.int (bI false)]) (rest := []) ⟨hx, hb, hml, hown, hts⟩ (c_X3_holds l D cI cD ad _ V_3 _ hQ (decide (¬ fp = 0)) har _ rfl sh hsh 1 hp13 (by rw [hfd, e2]) hlf false) (cwV 1 hts gX3_stash_X3_holds rfl rfl rfl (by decide +kernel) ⟨Nat.le_of_ble_eq_true rfl, Nat.le_of_ble_eq_true rfl⟩) (w_preV hK hw (by omega) (mF_0 _) rfl _) rfl rfl hl.1 rfl (lv_room (Nat.le_of_ble_eq_true rfl)) dX3_stash_104 ⟨Nat.le_of_ble_eq_true rfl, Nat.le_of_ble_eq_true rfl⟩) (fun r_5 V_4 H locs hp hw => ?_)
    rw [hfl_f hfa hfpl (by omega)] at hp
    have hG := hp
    clear hp
    have e8 := hG.1
    subst e8
    refine lv_if_ne (tgt := 112) hx hb dX3_stash_107 (by decide) (fun c_107 => ?_) (fun c_107 => ?_)
    · have z2 : ¬ fp = 1 + 1 := by have := bI_n0.mp c_107; simpa using this
      have hQE2 : ∀ d, QEq (qOf ([] ++ mkL (mkb (num + 1) n true dn true) (n + 1)) d) (mkQ (mkb (num + 1) n true dn true) (n + 1) d) := fun d => by rw [List.nil_append, qOf_mkL]; exact QEq.rf _
      obtain ⟨hR, hQ⟩ := mR_go hG hR e1 e2 (decide_eq_false z2) hQE2
      have h00 : V_4 0 0 = nI 0 := (hG.2.2.2.2.2.1 0 (by decide) (by decide) (by decide) (by decide)).trans h00
      have hp13 := hG.2.2.2.1
      obtain ⟨hn, hdn, hnum, hwd, hst⟩ := hR.sv e1 e2
      refine lv_aload_n hx hb dX3_stash_112 rfl (lv_at hl 0 rfl) ?_
      refine lv_dup hx hb dX3_stash_113 rfl ?_
      refine w_get (ci := 3) (C := RX3) (T := TX3) (M := 24) (v := .int (nI num)) hx hb hts hi3 hown hK hw 0 (by omega) _ (mF_0 _) rfl 5 (by decide) (hts (.fieldLink RX3 106 "WideningArrayModel" "number" "I") (by decide +kernel)) (congrArg (fun z => some (Value.int z)) (show V_4 0 5 = nI num from hnum)) dX3_stash_114 ?_
      refine lv_iconst (v := nI 1) hx hb dX3_stash_117 (by decide) ?_
      refine n_add hx hb dX3_stash_118 ?_
      refine w_put (ci := 3) (C := RX3) (T := TX3) (M := 24) (x := nI (num + 1)) (ty := .int) hx hb hts hi3 tyX3 tyX3_ok nmX3 hown hK hw 0 (by omega) _ (mF_0 _) rfl 5 (by decide) (hts (.fieldLink RX3 106 "WideningArrayModel" "number" "I") (by decide +kernel)) rfl (by decide +kernel) rfl rfl (Nat.le_of_ble_eq_true rfl) (mF_0 _) dX3_stash_119 (fun H locs hw => ?_)
      obtain ⟨V_6, hV_6⟩ : ∃ z : vT, z = u2 V_4 0 5 (nI (num + 1)) := ⟨_, rfl⟩
      rw [← hV_6] at hw
      refine lv_aload_n hx hb dX3_stash_122 rfl (lv_at hl 0 rfl) ?_
      refine lv_iconst (v := nI 1) hx hb dX3_stash_123 (by decide) ?_
      refine w_put (ci := 3) (C := RX3) (T := TX3) (M := 24) (x := nI 1) (ty := .boolean) hx hb hts hi3 tyX3 tyX3_ok nmX3 hown hK hw 0 (by omega) _ (mF_0 _) rfl 7 (by decide) (hts (.fieldLink RX3 67 "WideningArrayModel" "isStashed" "Z") (by decide +kernel)) rfl (by decide +kernel) rfl rfl (Nat.le_of_ble_eq_true rfl) (mF_0 _) dX3_stash_124 (fun H locs hw => ?_)
      obtain ⟨V_7, hV_7⟩ : ∃ z : vT, z = u2 V_6 0 7 (nI 1) := ⟨_, rfl⟩
      rw [← hV_7] at hw
      refine lv_iconst (v := nI 1) hx hb dX3_stash_127 (by decide) ?_
      exact w_zret hx hb hr hlocks hw rfl (by have hk : ∀ j, j ≠ 5 → j ≠ 7 → V_7 0 j = V_4 0 j := (fun j h1 h2 => by rw [hV_7, u2_n _ _ (Or.inr h2), hV_6, u2_n _ _ (Or.inr h1)]); have hc : ∀ a, a ≠ 0 → V_7 a = V_4 a := (fun a ha => by rw [hV_7, u2_r _ _ ha, hV_6, u2_r _ _ ha]); obtain ⟨q1, q2, q3, q4⟩ := hR.pt; exact ⟨(hk 0 (by decide) (by decide)).trans h00, Or.inr (Or.inr ⟨z1, z2, rfl, mR.mk (q1.frame (hc 1 (by decide)) (hc 2 (by decide)) (fun j hj => hk j (by omega) (by omega))) ((hk 2 (by decide) (by decide)).trans q2) ((hk 10 (by decide) (by decide)).trans q3) (fun h => (hk 11 (by decide) (by decide)).trans (q4 h)) (fun _ _ => ⟨(hk 3 (by decide) (by decide)).trans hn, (hk 4 (by decide) (by decide)).trans hdn, by rw [hV_7, u2_n _ _ (Or.inr (by decide)), hV_6, u2_s], (hk 6 (by decide) (by decide)).trans hwd, by rw [hV_7, u2_s]; rfl⟩), (hk 13 (by decide) (by decide)).trans hp13, gQ_congr (hk 16 (by decide) (by decide)) (hc 3 (by decide)) (hc 4 (by decide)) (hc 5 (by decide)) hQ⟩)⟩) dX3_stash_128
    · have z2 : fp = 1 + 1 := by have := bI_0.mp c_107; simpa using this
      refine lv_iconst (v := nI 0) hx hb dX3_stash_110 (by decide) ?_
      exact w_zret hx hb hr hlocks hw rfl (⟨(hG.2.2.2.2.2.1 0 (by decide) (by decide) (by decide) (by decide)).trans h00, Or.inr (Or.inl ⟨z2, rfl, fun nn ww ddn ss nnum => mR_fl hG hR.1 (decide_eq_true z2) (fun d => by rw [List.nil_append, qOf_mkL]; exact QEq.rf _)⟩)⟩) dX3_stash_111
  · have z1 : fp = 0 + 1 := by have := bI_0.mp c_77; simpa using this
    refine lv_iconst (v := nI 0) hx hb dX3_stash_80 (by decide) ?_
    exact w_zret hx hb hr hlocks hw rfl (⟨(hH.2.2.2.2.2.1 0 (by decide) (by decide) (by decide) (by decide)).trans h00, Or.inl ⟨z1, rfl, fun nn ww ddn ss nnum => mR_fl hH hR.1 (decide_eq_true z1) hQE⟩⟩) dX3_stash_81
