set_option maxHeartbeats 4000000 in
set_option maxRecDepth 100000 in
theorem lp_X2_rebuildDataRows {p : Program} {l : Launch} {e : Env} {s : State} {m : MethodId} {args : Array Value} {below : List Frame} {meth : Method} {c : Code} {Q : State → Prop} {D : va_G} {cI cD : ClassId} {ad : Nat → Nat} (hx : p.tables.exec = Jvm.exec) (hb : c.code = cX2_rebuildDataRows) (hts : ∀ w ∈ wsX2_rebuildDataRows, w.before args s = true) (hown : s.vm.findClass RX2 = some m.cls) (hml : c.maxLocals = 4) (hK : kK D cI cD s) (V0 : vT) (n : Nat) (hn : V0 2 1 = nI n) (wide : Bool) (hwd : V0 2 2 = bI wide) (dn : Nat) (hdn : V0 2 3 = nI dn) (st : Bool) (hst : V0 2 4 = bI st) (hn3 : 3 ≤ n) (hn6 : n ≤ 6) (hd32 : dn < 32) (hwn : wide = true → n < 6) (d : Nat) (hd6 : d < 6) (hk : ∀ (V1 : vT) (H1 : Heap) (locs1 : List Loc) (ls : Array Slot), ((∀ a, a ≠ 6 + 7 * d → V1 a = V0 a) ∧ ∀ i, V1 (6 + 7 * d) i = rbw (cw V0) n wide dn st d 32 i) → wS D 47 ad (cF cI cD ad) s.heap V1 H1 locs1 → lv_has ls 4 [(0, .ref (ad 0))] → W p l e ({ frames := 3, cells := 0, slots := 0, locals := 72 }) s m args below meth c H1 locs1 0 0 Q (F0 m 40 ls [])) : ∀ (n9 j : Nat) (V : vT) (H : Heap) (locs : List Loc) (ls : Array Slot), (j + n9 = 32) → ((∀ a, a ≠ 6 + 7 * d → V a = V0 a) ∧ ∀ i, V (6 + 7 * d) i = rbw (cw V0) n wide dn st d j i) → wS D 47 ad (cF cI cD ad) s.heap V H locs → lv_has ls 4 [(2, .int (nI j)), (0, .ref (ad 0)), (1, .int (nI d))] → W p l e ({ frames := 3, cells := 0, slots := 0, locals := 72 }) s m args below meth c H locs 0 0 Q (F0 m 2 ls []) := by
  intro n9
  induction n9 with
  | zero =>
    intro j V H locs ls hjn hin hw hl
    refine lv_iload_n hx hb dX2_rebuildDataRows_2 rfl (lv_at hl 0 rfl) ?_
    refine lv_bipush (v := nI 32) hx hb dX2_rebuildDataRows_3 (by decide) ?_
    refine n_icmp_ge (tgt := 40) hx hb dX2_rebuildDataRows_5 (by decide) (by omega) (by omega) (fun c_5 => ?_) (fun c_5 => ?_)
    · have e1 : j = 32 := by omega
      rw [e1] at hin
      exact hk V H locs ls hin hw (lv_sub hl [1] rfl)
    · exfalso
      omega
  | succ n9 ih =>
    intro j V H locs ls hjn hin hw hl
    refine lv_iload_n hx hb dX2_rebuildDataRows_2 rfl (lv_at hl 0 rfl) ?_
    refine lv_bipush (v := nI 32) hx hb dX2_rebuildDataRows_3 (by decide) ?_
    refine n_icmp_ge (tgt := 40) hx hb dX2_rebuildDataRows_5 (by decide) (by omega) (by omega) (fun c_5 => ?_) (fun c_5 => ?_)
    · exfalso
      omega
    · have hwl := wor_le (n := n) (wide := wide) (dn := dn) (row := j) hn6 hwn
      have hwg := wor_ge (n := n) (wide := wide) (dn := dn) (row := j)
      refine lv_aload_n hx hb dX2_rebuildDataRows_8 rfl (lv_at hl 1 rfl) ?_
      refine lv_iload_n hx hb dX2_rebuildDataRows_9 rfl (lv_at hl 0 rfl) ?_
      refine w_calli hw (va_runV (As := [.int (nI j)]) (rest := []) ⟨hx, hb, hml, hown, hts⟩ (c_X2_widthOfRow l D cI cD ad _ V n (show V 2 1 = nI n from by rw [hin.1 2 (by omega)]; exact hn) wide (show V 2 2 = bI wide from by rw [hin.1 2 (by omega)]; exact hwd) dn (show V 2 3 = nI dn from by rw [hin.1 2 (by omega)]; exact hdn) (by omega) j (by omega)) (cwV 1 hts gX2_rebuildDataRows_X2_widthOfRow rfl rfl rfl (by decide +kernel) ⟨Nat.le_of_ble_eq_true rfl, Nat.le_of_ble_eq_true rfl⟩) (w_preV hK hw (by omega) (cF_0 _) rfl _) rfl rfl hl.1 rfl (lv_room (Nat.le_of_ble_eq_true rfl)) dX2_rebuildDataRows_10 ⟨Nat.le_of_ble_eq_true rfl, Nat.le_of_ble_eq_true rfl⟩) (fun r_2 V_1 H locs hp hw => ?_)
      obtain ⟨e9, e8⟩ := hp
      subst e9
      subst e8
      refine lv_istore_n (lv' := [(3, .int (nI (wor n wide dn j))), (2, .int (nI j)), (0, .ref (ad 0)), (1, .int (nI d))]) hx hb dX2_rebuildDataRows_13 rfl hl (by decide) rfl (fun ls hl => ?_)
      refine lv_iload_n hx hb dX2_rebuildDataRows_14 rfl (lv_at hl 3 rfl) ?_
      refine lv_iload_n hx hb dX2_rebuildDataRows_15 rfl (lv_at hl 0 rfl) ?_
      refine n_icmp_ge (tgt := 34) hx hb dX2_rebuildDataRows_16 (by decide) (by omega) (by omega) (fun c_16 => ?_) (fun c_16 => ?_)
      · refine lv_iinc (v := nI (j + 1)) (lv' := [(2, .int (nI (j + 1))), (3, .int (nI (wor n wide dn j))), (0, .ref (ad 0)), (1, .int (nI d))]) hx hb dX2_rebuildDataRows_34 hl (k := 1) rfl (nI_1 _) (by decide) rfl (fun ls hl => ?_)
        refine lv_goto (tgt := 2) hx hb dX2_rebuildDataRows_37 (by decide) ?_
        have hin' : (∀ a, a ≠ 6 + 7 * d → V a = V0 a) ∧ ∀ i, V (6 + 7 * d) i = rbw (cw V0) n wide dn st d (j + 1) i := by
          refine ⟨hin.1, fun i => ?_⟩
          rw [hin.2 i, rbw, rbw]
          by_cases q : i / 4 = j
          · rw [if_neg (fun h => by omega), if_neg (fun h => by first | (have h1 := h.2.1; rw [q] at h1; omega) | (have h1 := h.2.2; rw [q, bI_n0.mp c_24] at h1; exact absurd h1 (by decide)))]
          · by_cases q2 : i < 4 * j
            · simp only [q2, show i < 4 * (j + 1) by omega]
            · simp only [q2, show ¬ i < 4 * (j + 1) by omega]
        exact ih (j + 1) _ _ _ ls (by omega) hin' hw (lv_sub hl [0, 2, 3] rfl)
      · refine lv_aload_n hx hb dX2_rebuildDataRows_19 rfl (lv_at hl 2 rfl) ?_
        refine lv_iload_n hx hb dX2_rebuildDataRows_20 rfl (lv_at hl 1 rfl) ?_
        refine w_calli hw (va_runV (As := [.int (nI j)]) (rest := []) ⟨hx, hb, hml, hown, hts⟩ (c_X2_isBeingLaid l D cI cD ad _ V dn (show V 2 3 = nI dn from by rw [hin.1 2 (by omega)]; exact hdn) st (show V 2 4 = bI st from by rw [hin.1 2 (by omega)]; exact hst) (by omega) j (by omega)) (cwV 1 hts gX2_rebuildDataRows_X2_isBeingLaid rfl rfl rfl (by decide +kernel) ⟨Nat.le_of_ble_eq_true rfl, Nat.le_of_ble_eq_true rfl⟩) (w_preV hK hw (by omega) (cF_0 _) rfl _) rfl rfl hl.1 rfl (lv_room (Nat.le_of_ble_eq_true rfl)) dX2_rebuildDataRows_21 ⟨Nat.le_of_ble_eq_true rfl, Nat.le_of_ble_eq_true rfl⟩) (fun r_4 V_3 H locs hp hw => ?_)
        obtain ⟨e9, e8⟩ := hp
        subst e9
        subst e8
        refine lv_if_ne (tgt := 34) hx hb dX2_rebuildDataRows_24 (by decide) (fun c_24 => ?_) (fun c_24 => ?_)
        · refine lv_iinc (v := nI (j + 1)) (lv' := [(2, .int (nI (j + 1))), (3, .int (nI (wor n wide dn j))), (0, .ref (ad 0)), (1, .int (nI d))]) hx hb dX2_rebuildDataRows_34 hl (k := 1) rfl (nI_1 _) (by decide) rfl (fun ls hl => ?_)
          refine lv_goto (tgt := 2) hx hb dX2_rebuildDataRows_37 (by decide) ?_
          have hin' : (∀ a, a ≠ 6 + 7 * d → V a = V0 a) ∧ ∀ i, V (6 + 7 * d) i = rbw (cw V0) n wide dn st d (j + 1) i := by
            refine ⟨hin.1, fun i => ?_⟩
            rw [hin.2 i, rbw, rbw]
            by_cases q : i / 4 = j
            · rw [if_neg (fun h => by omega), if_neg (fun h => by first | (have h1 := h.2.1; rw [q] at h1; omega) | (have h1 := h.2.2; rw [q, bI_n0.mp c_24] at h1; exact absurd h1 (by decide)))]
            · by_cases q2 : i < 4 * j
              · simp only [q2, show i < 4 * (j + 1) by omega]
              · simp only [q2, show ¬ i < 4 * (j + 1) by omega]
          exact ih (j + 1) _ _ _ ls (by omega) hin' hw (lv_sub hl [0, 2, 3] rfl)
        · refine lv_aload_n hx hb dX2_rebuildDataRows_27 rfl (lv_at hl 2 rfl) ?_
          refine lv_iload_n hx hb dX2_rebuildDataRows_28 rfl (lv_at hl 0 rfl) ?_
          refine lv_iload_n hx hb dX2_rebuildDataRows_29 rfl (lv_at hl 1 rfl) ?_
          refine lv_iload_n hx hb dX2_rebuildDataRows_30 rfl (lv_at hl 3 rfl) ?_
          refine w_callv hw (va_runV (As := [.int (nI (wor n wide dn j)), .int (nI j), .int (nI d)]) (rest := []) ⟨hx, hb, hml, hown, hts⟩ (c_X2_setByTheRest l D cI cD ad _ V (wor n wide dn j) j d (by omega) (by omega) (by omega)) (cwV 3 hts gX2_rebuildDataRows_X2_setByTheRest rfl rfl rfl (by decide +kernel) ⟨Nat.le_of_ble_eq_true rfl, Nat.le_of_ble_eq_true rfl⟩) (w_preV hK hw (by omega) (cF_0 _) rfl _) rfl rfl hl.1 rfl (lv_room (Nat.le_of_ble_eq_true rfl)) dX2_rebuildDataRows_31 ⟨Nat.le_of_ble_eq_true rfl, Nat.le_of_ble_eq_true rfl⟩) (fun V_5 H locs hp hw => ?_)
          refine lv_iinc (v := nI (j + 1)) (lv' := [(2, .int (nI (j + 1))), (3, .int (nI (wor n wide dn j))), (0, .ref (ad 0)), (1, .int (nI d))]) hx hb dX2_rebuildDataRows_34 hl (k := 1) rfl (nI_1 _) (by decide) rfl (fun ls hl => ?_)
          refine lv_goto (tgt := 2) hx hb dX2_rebuildDataRows_37 (by decide) ?_
          have hin' : (∀ a, a ≠ 6 + 7 * d → V_5 a = V0 a) ∧ ∀ i, V_5 (6 + 7 * d) i = rbw (cw V0) n wide dn st d (j + 1) i := by
            refine ⟨fun a ha => (hp.1 a ha).trans (hin.1 a ha), fun i => ?_⟩
            rw [hp.2 i]
            by_cases q : i / 4 = j
            · rw [if_pos (row_div.mpr q), rbw, if_pos ⟨by omega, by rw [q]; exact c_16, by rw [q]; exact bI_0.mp c_24⟩, q]
              exact xr_congr (fun e he hne => by rw [hin.1 _ (by omega)])
            · rw [if_neg (fun h => q (row_div.mp h)), hin.2 i, rbw, rbw]
              by_cases q2 : i < 4 * j
              · simp only [q2, show i < 4 * (j + 1) by omega]
              · simp only [q2, show ¬ i < 4 * (j + 1) by omega]
          exact ih (j + 1) _ _ _ ls (by omega) hin' hw (lv_sub hl [0, 2, 3] rfl)
set_option maxHeartbeats 4000000 in
set_option maxRecDepth 100000 in
theorem c_X2_rebuildDataRows (l : Launch) (D : va_G) (cI cD : ClassId) (ad : Nat → Nat) (sz : Nat) (V : vT) (n : Nat) (hn : V 2 1 = nI n) (wide : Bool) (hwd : V 2 2 = bI wide) (dn : Nat) (hdn : V 2 3 = nI dn) (st : Bool) (hst : V 2 4 = bI st) (hn3 : 3 ≤ n) (hn6 : n ≤ 6) (hd32 : dn < 32) (hwn : wide = true → n < 6) (d : Nat) (hd6 : d < 6) : Met l yX2_rebuildDataRows wsX2_rebuildDataRows ({ frames := 3, cells := 0, slots := 0, locals := 72 }) (gP D cI cD 47 ad (cF cI cD ad) sz V [.ref (ad 0), .int (nI d)]) (va_Qv (fun (V1 : vT) => (∀ a, a ≠ 6 + 7 * d → V1 a = V a) ∧ ∀ i, V1 (6 + 7 * d) i = rbw (cw V) n wide dn st d 32 i) (gB D 47 ad (cF cI cD ad)) (gA 47 ad sz)) 0 0 (gA 47 ad sz) := by
  refine w_met (cc := cX2_rebuildDataRows) (maxL := 4) (ret := none) (by decide) rfl (Nat.le_of_ble_eq_true rfl) ?_
  intro p e s m below meth c hx hb hr hts hown hlocks hml hsz hK hw ls hl
  subst hsz
  have hown : s.vm.findClass RX2 = some m.cls := hown
  have hl : lv_has ls 4 [(0, .ref (ad 0)), (1, .int (nI d))] := hl
  refine lv_iconst (v := nI 0) hx hb dX2_rebuildDataRows_0 (by decide) ?_
  refine lv_istore_n (lv' := [(2, .int (nI 0)), (0, .ref (ad 0)), (1, .int (nI d))]) hx hb dX2_rebuildDataRows_1 rfl hl (by decide) rfl (fun ls hl => ?_)
  refine lp_X2_rebuildDataRows hx hb hts hown hml hK V n hn wide hwd dn hdn st hst hn3 hn6 hd32 hwn d hd6 (fun V_L H locs ls hin hw hl => ?_) 32 0 V _ _ ls (by omega) ⟨fun _ _ => rfl, fun i => by rw [rbw, if_neg (by omega)]⟩ hw (lv_sub hl [0, 1, 2] rfl)
  exact w_vret hx hb hr hlocks hw (hin) dX2_rebuildDataRows_40
set_option maxHeartbeats 4000000 in
set_option maxRecDepth 100000 in
theorem lp_X2_mendParity {p : Program} {l : Launch} {e : Env} {s : State} {m : MethodId} {args : Array Value} {below : List Frame} {meth : Method} {c : Code} {Q : State → Prop} {D : va_G} {cI cD : ClassId} {ad : Nat → Nat} (hx : p.tables.exec = Jvm.exec) (hb : c.code = cX2_mendParity) (hts : ∀ w ∈ wsX2_mendParity, w.before args s = true) (hown : s.vm.findClass RX2 = some m.cls) (hml : c.maxLocals = 3) (hK : kK D cI cD s) (V0 : vT) (n : Nat) (hn : V0 2 1 = nI n) (wide : Bool) (hwd : V0 2 2 = bI wide) (dn : Nat) (hdn : V0 2 3 = nI dn) (st : Bool) (hst : V0 2 4 = bI st) (hn3 : 3 ≤ n) (hn6 : n ≤ 6) (hd32 : dn < 32) (hwn : wide = true → n < 6) (hk : ∀ (V1 : vT) (H1 : Heap) (locs1 : List Loc) (ls : Array Slot), ((∀ a, (∀ d, d < 6 → a ≠ 6 + 7 * d) → V1 a = V0 a) ∧ ∀ d, d < 6 → ∀ i, V1 (6 + 7 * d) i = mnd (cw V0) n wide dn st 32 d i) → wS D 47 ad (cF cI cD ad) s.heap V1 H1 locs1 → lv_has ls 3 [(0, .ref (ad 0))] → W p l e ({ frames := 3, cells := 0, slots := 0, locals := 72 }) s m args below meth c H1 locs1 0 0 Q (F0 m 39 ls [])) : ∀ (n9 j : Nat) (V : vT) (H : Heap) (locs : List Loc) (ls : Array Slot), (j + n9 = 32) → ((∀ a, (∀ d, d < 6 → a ≠ 6 + 7 * d) → V a = V0 a) ∧ ∀ d, d < 6 → ∀ i, V (6 + 7 * d) i = mnd (cw V0) n wide dn st j d i) → wS D 47 ad (cF cI cD ad) s.heap V H locs → lv_has ls 3 [(1, .int (nI j)), (0, .ref (ad 0))] → W p l e ({ frames := 3, cells := 0, slots := 0, locals := 72 }) s m args below meth c H locs 0 0 Q (F0 m 2 ls []) := by
  intro n9
  induction n9 with
  | zero =>
    intro j V H locs ls hjn hin hw hl
    refine lv_iload_n hx hb dX2_mendParity_2 rfl (lv_at hl 0 rfl) ?_
    refine lv_bipush (v := nI 32) hx hb dX2_mendParity_3 (by decide) ?_
    refine n_icmp_ge (tgt := 39) hx hb dX2_mendParity_5 (by decide) (by omega) (by omega) (fun c_5 => ?_) (fun c_5 => ?_)
    · have e1 : j = 32 := by omega
      rw [e1] at hin
      exact hk V H locs ls hin hw (lv_sub hl [1] rfl)
    · exfalso
      omega
  | succ n9 ih =>
    intro j V H locs ls hjn hin hw hl
    refine lv_iload_n hx hb dX2_mendParity_2 rfl (lv_at hl 0 rfl) ?_
    refine lv_bipush (v := nI 32) hx hb dX2_mendParity_3 (by decide) ?_
    refine n_icmp_ge (tgt := 39) hx hb dX2_mendParity_5 (by decide) (by omega) (by omega) (fun c_5 => ?_) (fun c_5 => ?_)
    · exfalso
      omega
    · have hwl := wor_le (n := n) (wide := wide) (dn := dn) (row := j) hn6 hwn
      have hwg := wor_ge (n := n) (wide := wide) (dn := dn) (row := j)
      have hpd := pd_lt (k := wor n wide dn j) (row := j) (by omega)
      refine lv_aload_n hx hb dX2_mendParity_8 rfl (lv_at hl 1 rfl) ?_
      refine lv_iload_n hx hb dX2_mendParity_9 rfl (lv_at hl 0 rfl) ?_
      refine w_calli hw (va_runV (As := [.int (nI j)]) (rest := []) ⟨hx, hb, hml, hown, hts⟩ (c_X2_widthOfRow l D cI cD ad _ V n (show V 2 1 = nI n from by rw [hin.1 2 (fun d9 h9 => by omega)]; exact hn) wide (show V 2 2 = bI wide from by rw [hin.1 2 (fun d9 h9 => by omega)]; exact hwd) dn (show V 2 3 = nI dn from by rw [hin.1 2 (fun d9 h9 => by omega)]; exact hdn) (by omega) j (by omega)) (cwV 1 hts gX2_mendParity_X2_widthOfRow rfl rfl rfl (by decide +kernel) ⟨Nat.le_of_ble_eq_true rfl, Nat.le_of_ble_eq_true rfl⟩) (w_preV hK hw (by omega) (cF_0 _) rfl _) rfl rfl hl.1 rfl (lv_room (Nat.le_of_ble_eq_true rfl)) dX2_mendParity_10 ⟨Nat.le_of_ble_eq_true rfl, Nat.le_of_ble_eq_true rfl⟩) (fun r_2 V_1 H locs hp hw => ?_)
      obtain ⟨e9, e8⟩ := hp
      subst e9
      subst e8
      refine lv_istore_n (lv' := [(2, .int (nI (wor n wide dn j))), (1, .int (nI j)), (0, .ref (ad 0))]) hx hb dX2_mendParity_13 rfl hl (by decide) rfl (fun ls hl => ?_)
      refine lv_aload_n hx hb dX2_mendParity_14 rfl (lv_at hl 2 rfl) ?_
      refine lv_iload_n hx hb dX2_mendParity_15 rfl (lv_at hl 1 rfl) ?_
      refine w_calli hw (va_runV (As := [.int (nI j)]) (rest := []) ⟨hx, hb, hml, hown, hts⟩ (c_X2_isBeingLaid l D cI cD ad _ V dn (show V 2 3 = nI dn from by rw [hin.1 2 (fun d9 h9 => by omega)]; exact hdn) st (show V 2 4 = bI st from by rw [hin.1 2 (fun d9 h9 => by omega)]; exact hst) (by omega) j (by omega)) (cwV 1 hts gX2_mendParity_X2_isBeingLaid rfl rfl rfl (by decide +kernel) ⟨Nat.le_of_ble_eq_true rfl, Nat.le_of_ble_eq_true rfl⟩) (w_preV hK hw (by omega) (cF_0 _) rfl _) rfl rfl hl.1 rfl (lv_room (Nat.le_of_ble_eq_true rfl)) dX2_mendParity_16 ⟨Nat.le_of_ble_eq_true rfl, Nat.le_of_ble_eq_true rfl⟩) (fun r_4 V_3 H locs hp hw => ?_)
      obtain ⟨e9, e8⟩ := hp
      subst e9
      subst e8
      refine lv_if_ne (tgt := 33) hx hb dX2_mendParity_19 (by decide) (fun c_19 => ?_) (fun c_19 => ?_)
      · refine lv_iinc (v := nI (j + 1)) (lv' := [(1, .int (nI (j + 1))), (2, .int (nI (wor n wide dn j))), (0, .ref (ad 0))]) hx hb dX2_mendParity_33 hl (k := 1) rfl (nI_1 _) (by decide) rfl (fun ls hl => ?_)
        refine lv_goto (tgt := 2) hx hb dX2_mendParity_36 (by decide) ?_
        have hin' : (∀ a, (∀ d, d < 6 → a ≠ 6 + 7 * d) → V a = V0 a) ∧ ∀ d, d < 6 → ∀ i, V (6 + 7 * d) i = mnd (cw V0) n wide dn st (j + 1) d i := by
          refine ⟨hin.1, fun d hd i => ?_⟩
          rw [hin.2 d hd i, mnd, mnd]
          by_cases q : i / 4 = j
          · rw [if_neg (fun h => by omega), if_neg (fun h => by have h1 := h.2.1; rw [q, bI_n0.mp c_19] at h1; exact absurd h1 (by decide))]
          · by_cases q2 : i < 4 * j
            · simp only [q2, show i < 4 * (j + 1) by omega]
            · simp only [q2, show ¬ i < 4 * (j + 1) by omega]
        exact ih (j + 1) _ _ _ ls (by omega) hin' hw (lv_sub hl [0, 2] rfl)
      · refine lv_aload_n hx hb dX2_mendParity_22 rfl (lv_at hl 2 rfl) ?_
        refine lv_iload_n hx hb dX2_mendParity_23 rfl (lv_at hl 0 rfl) ?_
        refine lv_iload_n hx hb dX2_mendParity_24 rfl (lv_at hl 1 rfl) ?_
        refine lv_iload_n hx hb dX2_mendParity_25 rfl (lv_at hl 0 rfl) ?_
        refine lv_iload_n hx hb dX2_mendParity_26 rfl (lv_at hl 1 rfl) ?_
        refine w_calli hw (va_runS (As := [.int (nI (wor n wide dn j)), .int (nI j)]) (rest := [.int (nI j), .int (nI (wor n wide dn j)), .ref (ad 0)]) ⟨hx, hb, hml, hown, hts⟩ (c_X2_parityDisk l D cI cD ad _ V (wor n wide dn j) j (by omega) (by omega) (by omega)) (va_cwS 2 hts gX2_mendParity_X2_parityDisk rfl rfl rfl (by decide +kernel) ⟨Nat.le_of_ble_eq_true rfl, Nat.le_of_ble_eq_true rfl⟩) (w_preS hK hw _) rfl rfl hl.1 rfl (lv_room (Nat.le_of_ble_eq_true rfl)) dX2_mendParity_27 ⟨Nat.le_of_ble_eq_true rfl, Nat.le_of_ble_eq_true rfl⟩) (fun r_6 V_5 H locs hp hw => ?_)
        obtain ⟨e9, e8⟩ := hp
        subst e9
        subst e8
        refine w_callv hw (va_runV (As := [.int (nI (wor n wide dn j)), .int (nI j), .int (nI (pd (wor n wide dn j) j))]) (rest := []) ⟨hx, hb, hml, hown, hts⟩ (c_X2_setByTheRest l D cI cD ad _ V (wor n wide dn j) j (pd (wor n wide dn j) j) (by omega) (by omega) (by omega)) (cwV 3 hts gX2_mendParity_X2_setByTheRest rfl rfl rfl (by decide +kernel) ⟨Nat.le_of_ble_eq_true rfl, Nat.le_of_ble_eq_true rfl⟩) (w_preV hK hw (by omega) (cF_0 _) rfl _) rfl rfl hl.1 rfl (lv_room (Nat.le_of_ble_eq_true rfl)) dX2_mendParity_30 ⟨Nat.le_of_ble_eq_true rfl, Nat.le_of_ble_eq_true rfl⟩) (fun V_7 H locs hp hw => ?_)
        refine lv_iinc (v := nI (j + 1)) (lv' := [(1, .int (nI (j + 1))), (2, .int (nI (wor n wide dn j))), (0, .ref (ad 0))]) hx hb dX2_mendParity_33 hl (k := 1) rfl (nI_1 _) (by decide) rfl (fun ls hl => ?_)
        refine lv_goto (tgt := 2) hx hb dX2_mendParity_36 (by decide) ?_
        have hin' : (∀ a, (∀ d, d < 6 → a ≠ 6 + 7 * d) → V_7 a = V0 a) ∧ ∀ d, d < 6 → ∀ i, V_7 (6 + 7 * d) i = mnd (cw V0) n wide dn st (j + 1) d i := by
          refine ⟨fun a ha => (hp.1 a (ha _ (by omega))).trans (hin.1 a ha), fun d hd i => ?_⟩
          by_cases q : i / 4 = j
          · by_cases q3 : d = pd (wor n wide dn j) j
            · rw [q3, hp.2 i, if_pos (row_div.mpr q), mnd, if_pos ⟨by omega, by rw [q]; exact bI_0.mp c_19, by rw [q]⟩, q]
              exact xr_congr (fun e he hne => by rw [hin.2 e (by omega) i, mnd, if_neg (fun h => by omega)])
            · rw [hp.1 _ (by omega), hin.2 d hd i, mnd, mnd, if_neg (fun h => by omega), if_neg (fun h => q3 (by rw [← q]; exact h.2.2))]
          · have e4 : V_7 (6 + 7 * d) i = V (6 + 7 * d) i := by
              by_cases q3 : d = pd (wor n wide dn j) j
              · rw [q3, hp.2 i, if_neg (fun h => q (row_div.mp h))]
              · rw [hp.1 _ (by omega)]
            rw [e4, hin.2 d hd i, mnd, mnd]
            by_cases q2 : i < 4 * j
            · simp only [q2, show i < 4 * (j + 1) by omega]
            · simp only [q2, show ¬ i < 4 * (j + 1) by omega]
        exact ih (j + 1) _ _ _ ls (by omega) hin' hw (lv_sub hl [0, 2] rfl)
set_option maxHeartbeats 4000000 in
set_option maxRecDepth 100000 in
theorem c_X2_mendParity (l : Launch) (D : va_G) (cI cD : ClassId) (ad : Nat → Nat) (sz : Nat) (V : vT) (n : Nat) (hn : V 2 1 = nI n) (wide : Bool) (hwd : V 2 2 = bI wide) (dn : Nat) (hdn : V 2 3 = nI dn) (st : Bool) (hst : V 2 4 = bI st) (hn3 : 3 ≤ n) (hn6 : n ≤ 6) (hd32 : dn < 32) (hwn : wide = true → n < 6) : Met l yX2_mendParity wsX2_mendParity ({ frames := 3, cells := 0, slots := 0, locals := 72 }) (gP D cI cD 47 ad (cF cI cD ad) sz V [.ref (ad 0)]) (va_Qv (fun (V1 : vT) => (∀ a, (∀ d, d < 6 → a ≠ 6 + 7 * d) → V1 a = V a) ∧ ∀ d, d < 6 → ∀ i, V1 (6 + 7 * d) i = mnd (cw V) n wide dn st 32 d i) (gB D 47 ad (cF cI cD ad)) (gA 47 ad sz)) 0 0 (gA 47 ad sz) := by
  refine w_met (cc := cX2_mendParity) (maxL := 3) (ret := none) (by decide) rfl (Nat.le_of_ble_eq_true rfl) ?_
  intro p e s m below meth c hx hb hr hts hown hlocks hml hsz hK hw ls hl
  subst hsz
  have hown : s.vm.findClass RX2 = some m.cls := hown
  have hl : lv_has ls 3 [(0, .ref (ad 0))] := hl
  refine lv_iconst (v := nI 0) hx hb dX2_mendParity_0 (by decide) ?_
  refine lv_istore_n (lv' := [(1, .int (nI 0)), (0, .ref (ad 0))]) hx hb dX2_mendParity_1 rfl hl (by decide) rfl (fun ls hl => ?_)
  refine lp_X2_mendParity hx hb hts hown hml hK V n hn wide hwd dn hdn st hst hn3 hn6 hd32 hwn (fun V_L H locs ls hin hw hl => ?_) 32 0 V _ _ ls (by omega) ⟨fun _ _ => rfl, fun d hd i => by rw [mnd, if_neg (by omega)]⟩ hw (lv_sub hl [0, 1] rfl)
  exact w_vret hx hb hr hlocks hw (hin) dX2_mendParity_39
