set_option maxHeartbeats 4000000 in
set_option maxRecDepth 100000 in
theorem lp_X2_rebuildStash_i {p : Program} {l : Launch} {e : Env} {s : State} {m : MethodId} {args : Array Value} {below : List Frame} {meth : Method} {c : Code} {Q : State → Prop} {D : va_G} {cI cD : ClassId} {ad : Nat → Nat} (hx : p.tables.exec = Jvm.exec) (hb : c.code = cX2_rebuildStash) (hts : ∀ w ∈ wsX2_rebuildStash, w.before args s = true) (hown : s.vm.findClass RX2 = some m.cls) (hml : c.maxLocals = 4) (hK : kK D cI cD s) (V0 : vT) (n : Nat) (hn : V0 2 1 = nI n) (hn3 : 3 ≤ n) (hn5 : n < 6) (d : Nat) (hd6 : d < 6) (hsd : sd (ab (V0 0 6) (V0 0 7)) n ≠ d) (j : Nat) (hj : j < n) (hk : ∀ (V1 : vT) (H1 : Heap) (locs1 : List Loc) (ls : Array Slot), ((∀ a, a ≠ 6 + 7 * d → V1 a = V0 a) ∧ ∀ i, V1 (6 + 7 * d) i = if 128 ≤ i ∧ i < 128 + ((j + 1) * 4) then V0 (6 + 7 * sd (ab (V0 0 6) (V0 0 7)) n) i else V0 (6 + 7 * d) i) → wS D 47 ad (cF cI cD ad) s.heap V1 H1 locs1 → lv_has ls 4 [(2, .int (nI j)), (0, .ref (ad 0)), (1, .int (nI d))] → W p l e ({ frames := 2, cells := 0, slots := 0, locals := 45 }) s m args below meth c H1 locs1 0 0 Q (F0 m 72 ls [])) : ∀ (n9 i : Nat) (V : vT) (H : Heap) (locs : List Loc) (ls : Array Slot), (i + n9 = 4) → ((∀ a, a ≠ 6 + 7 * d → V a = V0 a) ∧ ∀ i9, V (6 + 7 * d) i9 = if 128 ≤ i9 ∧ i9 < 128 + (j * 4 + i) then V0 (6 + 7 * sd (ab (V0 0 6) (V0 0 7)) n) i9 else V0 (6 + 7 * d) i9) → wS D 47 ad (cF cI cD ad) s.heap V H locs → lv_has ls 4 [(3, .int (nI i)), (2, .int (nI j)), (0, .ref (ad 0)), (1, .int (nI d))] → W p l e ({ frames := 2, cells := 0, slots := 0, locals := 45 }) s m args below meth c H locs 0 0 Q (F0 m 41 ls []) := by
  have hi1 : ∀ w ∈ wsX10, w ∈ wsX2_rebuildStash := by decide +kernel
  have hi2 : ∀ w ∈ wsX20, w ∈ wsX2_rebuildStash := by decide +kernel
  intro n9
  induction n9 with
  | zero =>
    intro i V H locs ls hjn hin hw hl
    refine lv_iload_n hx hb dX2_rebuildStash_41 rfl (lv_at hl 0 rfl) ?_
    refine lv_iconst (v := nI 4) hx hb dX2_rebuildStash_42 (by decide) ?_
    refine n_icmp_ge (tgt := 72) hx hb dX2_rebuildStash_43 (by decide) (by omega) (by omega) (fun c_43 => ?_) (fun c_43 => ?_)
    · have e1 : i = 4 := by omega
      subst e1
      exact hk V H locs ls ⟨hin.1, fun i9 => by rw [hin.2 i9, show j * 4 + 4 = (j + 1) * 4 by omega]⟩ hw (lv_sub hl [1, 2, 3] rfl)
    · exfalso
      omega
  | succ n9 ih =>
    intro i V H locs ls hjn hin hw hl
    refine lv_iload_n hx hb dX2_rebuildStash_41 rfl (lv_at hl 0 rfl) ?_
    refine lv_iconst (v := nI 4) hx hb dX2_rebuildStash_42 (by decide) ?_
    refine n_icmp_ge (tgt := 72) hx hb dX2_rebuildStash_43 (by decide) (by omega) (by omega) (fun c_43 => ?_) (fun c_43 => ?_)
    · exfalso
      omega
    · refine lv_aload_n hx hb dX2_rebuildStash_46 rfl (lv_at hl 2 rfl) ?_
      refine w_get (ci := 2) (C := RX2) (T := TX2) (M := 10) (v := .ref (ad 1)) hx hb hts hi2 hown hK hw 0 (by omega) _ (cF_0 _) rfl 0 (by decide) (hts (.fieldLink RX2 11 "WideningArray" "disks" "[LWideningArray$Disk;") (by decide +kernel)) rfl dX2_rebuildStash_47 ?_
      refine lv_iload_n hx hb dX2_rebuildStash_50 rfl (lv_at hl 3 rfl) ?_
      refine w_aald hx hb hK hw 1 6 (by omega) (cF_1 _) (i := d) (by omega) (by decide) rfl dX2_rebuildStash_51 ?_
      refine lv_bipush (v := nI 32) hx hb dX2_rebuildStash_52 (by decide) ?_
      refine lv_iload_n hx hb dX2_rebuildStash_54 rfl (lv_at hl 1 rfl) ?_
      refine n_add hx hb dX2_rebuildStash_55 ?_
      refine lv_iload_n hx hb dX2_rebuildStash_56 rfl (lv_at hl 0 rfl) ?_
      refine lv_aload_n hx hb dX2_rebuildStash_57 rfl (lv_at hl 2 rfl) ?_
      refine lv_iload_n hx hb dX2_rebuildStash_58 rfl (lv_at hl 1 rfl) ?_
      refine lv_iload_n hx hb dX2_rebuildStash_59 rfl (lv_at hl 0 rfl) ?_
      refine w_calli hw (va_runV (As := [.int (nI j), .int (nI i)]) (rest := [.int (nI i), .int (nI (32 + j)), .ref (ad (5 + 7 * d))]) ⟨hx, hb, hml, hown, hts⟩ (c_X2_wordOfStash l D cI cD ad _ V n (show V 2 1 = nI n from by rw [hin.1 2 (by omega)]; exact hn) (by omega) j i (by omega) (by omega)) (cwV 2 hts gX2_rebuildStash_X2_wordOfStash rfl rfl rfl (by decide +kernel) ⟨Nat.le_of_ble_eq_true rfl, Nat.le_of_ble_eq_true rfl⟩) (w_preV hK hw (by omega) (cF_0 _) rfl _) rfl rfl hl.1 rfl (lv_room (Nat.le_of_ble_eq_true rfl)) dX2_rebuildStash_60 ⟨Nat.le_of_ble_eq_true rfl, Nat.le_of_ble_eq_true rfl⟩) (fun r_2 V_1 H locs hp hw => ?_)
      obtain ⟨e9, e8⟩ := hp
      subst e9
      subst e8
      refine w_callv hw (va_runV (As := [.int (nI (32 + j)), .int (nI i), .int (V (6 + 7 * sd (ab (V 0 6) (V 0 7)) n) ((32 + j) * 4 + i))]) (rest := []) ⟨hx, hb, hml, hown, hts⟩ (c_X0_setWord l D cI cD ad _ V d (by omega) (32 + j) i (V (6 + 7 * sd (ab (V 0 6) (V 0 7)) n) ((32 + j) * 4 + i)) (by omega) (by omega)) (cwV 3 hts gX2_rebuildStash_X0_setWord rfl rfl rfl (by decide +kernel) ⟨Nat.le_of_ble_eq_true rfl, Nat.le_of_ble_eq_true rfl⟩) (w_preV hK hw (by omega) (cF_d0 d _) rfl _) rfl rfl hl.1 rfl (lv_room (Nat.le_of_ble_eq_true rfl)) dX2_rebuildStash_63 ⟨Nat.le_of_ble_eq_true rfl, Nat.le_of_ble_eq_true rfl⟩) (fun V_3 H locs hp hw => ?_)
      refine lv_iinc (v := nI (i + 1)) (lv' := [(3, .int (nI (i + 1))), (2, .int (nI j)), (0, .ref (ad 0)), (1, .int (nI d))]) hx hb dX2_rebuildStash_66 hl (k := 0) rfl (nI_1 _) (by decide) rfl (fun ls hl => ?_)
      refine lv_goto (tgt := 41) hx hb dX2_rebuildStash_69 (by decide) ?_
      have hin' : (∀ a, a ≠ 6 + 7 * d → V_3 a = V0 a) ∧ ∀ i9, V_3 (6 + 7 * d) i9 = if 128 ≤ i9 ∧ i9 < 128 + (j * 4 + (i + 1)) then V0 (6 + 7 * sd (ab (V0 0 6) (V0 0 7)) n) i9 else V0 (6 + 7 * d) i9 := by
        rw [hin.1 0 (by omega), hin.1 (6 + 7 * sd (ab (V0 0 6) (V0 0 7)) n) (by omega)] at hp
        refine ⟨fun a ha => by rw [hp, u2_r _ _ ha]; exact hin.1 a ha, fun i9 => ?_⟩
        by_cases q : i9 = (32 + j) * 4 + i
        · rw [q, hp, u2_s, if_pos (by omega)]
        · rw [hp, u2_n _ _ (Or.inr q), hin.2 i9]
          by_cases q2 : 128 ≤ i9 ∧ i9 < 128 + (j * 4 + i)
          · rw [if_pos q2, if_pos (by omega)]
          · rw [if_neg q2, if_neg (by omega)]
      exact ih (i + 1) _ _ _ ls (by omega) hin' hw (lv_sub hl [0, 1, 2, 3] rfl)
set_option maxHeartbeats 4000000 in
set_option maxRecDepth 100000 in
theorem lp_X2_rebuildStash {p : Program} {l : Launch} {e : Env} {s : State} {m : MethodId} {args : Array Value} {below : List Frame} {meth : Method} {c : Code} {Q : State → Prop} {D : va_G} {cI cD : ClassId} {ad : Nat → Nat} (hx : p.tables.exec = Jvm.exec) (hb : c.code = cX2_rebuildStash) (hts : ∀ w ∈ wsX2_rebuildStash, w.before args s = true) (hown : s.vm.findClass RX2 = some m.cls) (hml : c.maxLocals = 4) (hK : kK D cI cD s) (V0 : vT) (n : Nat) (hn : V0 2 1 = nI n) (hn3 : 3 ≤ n) (hn5 : n < 6) (d : Nat) (hd6 : d < 6) (hsd : sd (ab (V0 0 6) (V0 0 7)) n ≠ d) (hk : ∀ (V1 : vT) (H1 : Heap) (locs1 : List Loc) (ls : Array Slot), ((∀ a, a ≠ 6 + 7 * d → V1 a = V0 a) ∧ ∀ i, V1 (6 + 7 * d) i = if 128 ≤ i ∧ i < 128 + (n * 4) then V0 (6 + 7 * sd (ab (V0 0 6) (V0 0 7)) n) i else V0 (6 + 7 * d) i) → wS D 47 ad (cF cI cD ad) s.heap V1 H1 locs1 → lv_has ls 4 [(0, .ref (ad 0))] → W p l e ({ frames := 2, cells := 0, slots := 0, locals := 45 }) s m args below meth c H1 locs1 0 0 Q (F0 m 78 ls [])) : ∀ (n9 j : Nat) (V : vT) (H : Heap) (locs : List Loc) (ls : Array Slot), (j + n9 = n) → ((∀ a, a ≠ 6 + 7 * d → V a = V0 a) ∧ ∀ i, V (6 + 7 * d) i = if 128 ≤ i ∧ i < 128 + (j * 4) then V0 (6 + 7 * sd (ab (V0 0 6) (V0 0 7)) n) i else V0 (6 + 7 * d) i) → wS D 47 ad (cF cI cD ad) s.heap V H locs → lv_has ls 4 [(2, .int (nI j)), (0, .ref (ad 0)), (1, .int (nI d))] → W p l e ({ frames := 2, cells := 0, slots := 0, locals := 45 }) s m args below meth c H locs 0 0 Q (F0 m 28 ls []) := by
  have hi1 : ∀ w ∈ wsX10, w ∈ wsX2_rebuildStash := by decide +kernel
  have hi2 : ∀ w ∈ wsX20, w ∈ wsX2_rebuildStash := by decide +kernel
  intro n9
  induction n9 with
  | zero =>
    intro j V H locs ls hjn hin hw hl
    refine lv_iload_n hx hb dX2_rebuildStash_28 rfl (lv_at hl 0 rfl) ?_
    refine lv_aload_n hx hb dX2_rebuildStash_29 rfl (lv_at hl 1 rfl) ?_
    refine w_get (ci := 2) (C := RX2) (T := TX2) (M := 10) (v := .ref (ad 2)) hx hb hts hi2 hown hK hw 0 (by omega) _ (cF_0 _) rfl 1 (by decide) (hts (.fieldLink RX2 18 "WideningArray" "now" "LWideningArray$Marks;") (by decide +kernel)) rfl dX2_rebuildStash_30 ?_
    refine w_getN (ci := 1) (C := RX1) (T := TX1) (M := 5) (v := .int (nI n)) hx hb hts hi1 hown hK hw 2 (by omega) _ (cF_2 _) rfl 1 (by decide) (va_Nw.use rfl (hK.2 (.fieldLinkNest "WideningArray" 58 "WideningArray$Marks" "width" "I" "WideningArray") (by decide +kernel))) (congrArg (fun z => some (Value.int z)) (show V 2 1 = nI n from by rw [hin.1 2 (by omega)]; exact hn)) dX2_rebuildStash_33 ?_
    refine n_icmp_ge (tgt := 78) hx hb dX2_rebuildStash_36 (by decide) (by omega) (by omega) (fun c_36 => ?_) (fun c_36 => ?_)
    · have e1 : j = n := by omega
      rw [e1] at hin
      exact hk V H locs ls hin hw (lv_sub hl [1] rfl)
    · exfalso
      omega
  | succ n9 ih =>
    intro j V H locs ls hjn hin hw hl
    refine lv_iload_n hx hb dX2_rebuildStash_28 rfl (lv_at hl 0 rfl) ?_
    refine lv_aload_n hx hb dX2_rebuildStash_29 rfl (lv_at hl 1 rfl) ?_
    refine w_get (ci := 2) (C := RX2) (T := TX2) (M := 10) (v := .ref (ad 2)) hx hb hts hi2 hown hK hw 0 (by omega) _ (cF_0 _) rfl 1 (by decide) (hts (.fieldLink RX2 18 "WideningArray" "now" "LWideningArray$Marks;") (by decide +kernel)) rfl dX2_rebuildStash_30 ?_
    refine w_getN (ci := 1) (C := RX1) (T := TX1) (M := 5) (v := .int (nI n)) hx hb hts hi1 hown hK hw 2 (by omega) _ (cF_2 _) rfl 1 (by decide) (va_Nw.use rfl (hK.2 (.fieldLinkNest "WideningArray" 58 "WideningArray$Marks" "width" "I" "WideningArray") (by decide +kernel))) (congrArg (fun z => some (Value.int z)) (show V 2 1 = nI n from by rw [hin.1 2 (by omega)]; exact hn)) dX2_rebuildStash_33 ?_
    refine n_icmp_ge (tgt := 78) hx hb dX2_rebuildStash_36 (by decide) (by omega) (by omega) (fun c_36 => ?_) (fun c_36 => ?_)
    · exfalso
      omega
    · refine lv_iconst (v := nI 0) hx hb dX2_rebuildStash_39 (by decide) ?_
      refine lv_istore_n (lv' := [(3, .int (nI 0)), (2, .int (nI j)), (0, .ref (ad 0)), (1, .int (nI d))]) hx hb dX2_rebuildStash_40 rfl hl (by decide) rfl (fun ls hl => ?_)
      refine lp_X2_rebuildStash_i hx hb hts hown hml hK V0 n hn hn3 hn5 d hd6 hsd j (by omega) (fun V_L H locs ls hin hw hl => ?_) 4 0 V _ _ ls (by omega) hin hw (lv_sub hl [0, 1, 2, 3] rfl)
      refine lv_iinc (v := nI (j + 1)) (lv' := [(2, .int (nI (j + 1))), (0, .ref (ad 0)), (1, .int (nI d))]) hx hb dX2_rebuildStash_72 hl (k := 0) rfl (nI_1 _) (by decide) rfl (fun ls hl => ?_)
      refine lv_goto (tgt := 28) hx hb dX2_rebuildStash_75 (by decide) ?_
      exact ih (j + 1) _ _ _ ls (by omega) hin hw (lv_sub hl [0, 1, 2] rfl)
set_option maxHeartbeats 4000000 in
set_option maxRecDepth 100000 in
theorem c_X2_rebuildStash (l : Launch) (D : va_G) (cI cD : ClassId) (ad : Nat → Nat) (sz : Nat) (V : vT) (n : Nat) (hn : V 2 1 = nI n) (st : Bool) (hst : V 2 4 = bI st) (hn3 : 3 ≤ n) (hn6 : n ≤ 6) (hn5 : st = true → n < 6) (d : Nat) (hd6 : d < 6) (hsd : d = 0 ∨ d = n → sd (ab (V 0 6) (V 0 7)) n ≠ d) : Met l yX2_rebuildStash wsX2_rebuildStash ({ frames := 2, cells := 0, slots := 0, locals := 45 }) (gP D cI cD 47 ad (cF cI cD ad) sz V [.ref (ad 0), .int (nI d)]) (va_Qv (fun (V1 : vT) => (∀ a, a ≠ 6 + 7 * d → V1 a = V a) ∧ ∀ i, V1 (6 + 7 * d) i = if st = true ∧ (d = 0 ∨ d = n) ∧ 128 ≤ i ∧ i < 128 + n * 4 then V (6 + 7 * sd (ab (V 0 6) (V 0 7)) n) i else V (6 + 7 * d) i) (gB D 47 ad (cF cI cD ad)) (gA 47 ad sz)) 0 0 (gA 47 ad sz) := by
  refine w_met (cc := cX2_rebuildStash) (maxL := 4) (ret := none) (by decide) rfl (Nat.le_of_ble_eq_true rfl) ?_
  intro p e s m below meth c hx hb hr hts hown hlocks hml hsz hK hw ls hl
  subst hsz
  have hown : s.vm.findClass RX2 = some m.cls := hown
  have hi1 : ∀ w ∈ wsX10, w ∈ wsX2_rebuildStash := by decide +kernel
  have hi2 : ∀ w ∈ wsX20, w ∈ wsX2_rebuildStash := by decide +kernel
  have hl : lv_has ls 4 [(0, .ref (ad 0)), (1, .int (nI d))] := hl
  refine lv_aload_n hx hb dX2_rebuildStash_0 rfl (lv_at hl 0 rfl) ?_
  refine w_get (ci := 2) (C := RX2) (T := TX2) (M := 10) (v := .ref (ad 2)) hx hb hts hi2 hown hK hw 0 (by omega) _ (cF_0 _) rfl 1 (by decide) (hts (.fieldLink RX2 18 "WideningArray" "now" "LWideningArray$Marks;") (by decide +kernel)) rfl dX2_rebuildStash_1 ?_
  refine w_getN (ci := 1) (C := RX1) (T := TX1) (M := 5) (v := .int (bI st)) hx hb hts hi1 hown hK hw 2 (by omega) _ (cF_2 _) rfl 4 (by decide) (va_Nw.use rfl (hK.2 (.fieldLinkNest "WideningArray" 113 "WideningArray$Marks" "stashed" "Z" "WideningArray") (by decide +kernel))) (congrArg (fun z => some (Value.int z)) (show V 2 4 = bI st from hst)) dX2_rebuildStash_4 ?_
  refine lv_if_eq (tgt := 25) hx hb dX2_rebuildStash_7 (by decide) (fun c_7 => ?_) (fun c_7 => ?_)
  · have e1 := bI_0.mp c_7
    exact w_vret hx hb hr hlocks hw (⟨fun _ _ => rfl, fun i => by rw [if_neg]; intro h; first | (rw [e1] at h; exact absurd h.1 (by decide)) | (rcases h.2.1 with h1 | h1; (· exact c_11 (by rw [h1]; rfl)); (· exact c_22 h1))⟩) dX2_rebuildStash_25
  · have e1 := bI_n0.mp c_7
    refine lv_iload_n hx hb dX2_rebuildStash_10 rfl (lv_at hl 1 rfl) ?_
    refine lv_if_eq (tgt := 26) hx hb dX2_rebuildStash_11 (by decide) (fun c_11 => ?_) (fun c_11 => ?_)
    · refine lv_iconst (v := nI 0) hx hb dX2_rebuildStash_26 (by decide) ?_
      refine lv_istore_n (lv' := [(2, .int (nI 0)), (0, .ref (ad 0)), (1, .int (nI d))]) hx hb dX2_rebuildStash_27 rfl hl (by decide) rfl (fun ls hl => ?_)
      have hd0n : st = true ∧ (d = 0 ∨ d = n) := by first | exact ⟨e1, Or.inl ((nI_eq (by omega) (by decide)).mp c_11)⟩ | exact ⟨e1, Or.inr c_22⟩
      refine lp_X2_rebuildStash hx hb hts hown hml hK V n hn hn3 (hn5 hd0n.1) d hd6 (hsd hd0n.2) (fun V_L H locs ls hin hw hl => ?_) n 0 V _ _ ls (by omega) ⟨fun _ _ => rfl, fun i => by rw [if_neg (by omega)]⟩ hw (lv_sub hl [0, 1, 2] rfl)
      exact w_vret hx hb hr hlocks hw (⟨hin.1, fun i => by rw [hin.2 i]; by_cases q : 128 ≤ i ∧ i < 128 + n * 4; (· rw [if_pos q, if_pos ⟨hd0n.1, hd0n.2, q⟩]); (· rw [if_neg q, if_neg (fun h => q h.2.2)])⟩) dX2_rebuildStash_78
    · refine lv_iload_n hx hb dX2_rebuildStash_14 rfl (lv_at hl 1 rfl) ?_
      refine lv_aload_n hx hb dX2_rebuildStash_15 rfl (lv_at hl 0 rfl) ?_
      refine w_get (ci := 2) (C := RX2) (T := TX2) (M := 10) (v := .ref (ad 2)) hx hb hts hi2 hown hK hw 0 (by omega) _ (cF_0 _) rfl 1 (by decide) (hts (.fieldLink RX2 18 "WideningArray" "now" "LWideningArray$Marks;") (by decide +kernel)) rfl dX2_rebuildStash_16 ?_
      refine w_getN (ci := 1) (C := RX1) (T := TX1) (M := 5) (v := .int (nI n)) hx hb hts hi1 hown hK hw 2 (by omega) _ (cF_2 _) rfl 1 (by decide) (va_Nw.use rfl (hK.2 (.fieldLinkNest "WideningArray" 58 "WideningArray$Marks" "width" "I" "WideningArray") (by decide +kernel))) (congrArg (fun z => some (Value.int z)) (show V 2 1 = nI n from hn)) dX2_rebuildStash_19 ?_
      refine n_icmp_eq (tgt := 26) hx hb dX2_rebuildStash_22 (by decide) (by omega) (by omega) (fun c_22 => ?_) (fun c_22 => ?_)
      · refine lv_iconst (v := nI 0) hx hb dX2_rebuildStash_26 (by decide) ?_
        refine lv_istore_n (lv' := [(2, .int (nI 0)), (0, .ref (ad 0)), (1, .int (nI d))]) hx hb dX2_rebuildStash_27 rfl hl (by decide) rfl (fun ls hl => ?_)
        have hd0n : st = true ∧ (d = 0 ∨ d = n) := by first | exact ⟨e1, Or.inl ((nI_eq (by omega) (by decide)).mp c_11)⟩ | exact ⟨e1, Or.inr c_22⟩
        refine lp_X2_rebuildStash hx hb hts hown hml hK V n hn hn3 (hn5 hd0n.1) d hd6 (hsd hd0n.2) (fun V_L H locs ls hin hw hl => ?_) n 0 V _ _ ls (by omega) ⟨fun _ _ => rfl, fun i => by rw [if_neg (by omega)]⟩ hw (lv_sub hl [0, 1, 2] rfl)
        exact w_vret hx hb hr hlocks hw (⟨hin.1, fun i => by rw [hin.2 i]; by_cases q : 128 ≤ i ∧ i < 128 + n * 4; (· rw [if_pos q, if_pos ⟨hd0n.1, hd0n.2, q⟩]); (· rw [if_neg q, if_neg (fun h => q h.2.2)])⟩) dX2_rebuildStash_78
      · exact w_vret hx hb hr hlocks hw (⟨fun _ _ => rfl, fun i => by rw [if_neg]; intro h; first | (rw [e1] at h; exact absurd h.1 (by decide)) | (rcases h.2.1 with h1 | h1; (· exact c_11 (by rw [h1]; rfl)); (· exact c_22 h1))⟩) dX2_rebuildStash_25
set_option maxHeartbeats 4000000 in
set_option maxRecDepth 100000 in
theorem lp_X2_highestMarks_q {p : Program} {l : Launch} {e : Env} {s : State} {m : MethodId} {args : Array Value} {below : List Frame} {meth : Method} {c : Code} {Q : State → Prop} {D : va_G} {cI cD : ClassId} {ad : Nat → Nat} (hx : p.tables.exec = Jvm.exec) (hb : c.code = cX2_highestMarks) (hts : ∀ w ∈ wsX2_highestMarks, w.before args s = true) (hown : s.vm.findClass RX2 = some m.cls) (hml : c.maxLocals = 5) (hK : kK D cI cD s) {V : vT} (j : Nat) (hj : j < 6) (hk : ∀ (H1 : Heap) (locs1 : List Loc) (ls : Array Slot), wS D 47 ad (cF cI cD ad) s.heap V H1 locs1 → lv_has ls 5 [(1, .ref (ad (mcl (bst (fun q => V (mcl q) 0) (2 * j + 2))))), (2, .int (nI j)), (0, .ref (ad 0))] → W p l e ({ frames := 1, cells := 0, slots := 0, locals := 21 }) s m args below meth c H1 locs1 0 0 Q (F0 m 59 ls [])) : ∀ (n q : Nat) (H : Heap) (locs : List Loc) (ls : Array Slot), q + n = 2 → wS D 47 ad (cF cI cD ad) s.heap V H locs → lv_has ls 5 [(3, .int (nI q)), (1, .ref (ad (mcl (bst (fun q => V (mcl q) 0) (2 * j + q))))), (2, .int (nI j)), (0, .ref (ad 0))] → W p l e ({ frames := 1, cells := 0, slots := 0, locals := 21 }) s m args below meth c H locs 0 0 Q (F0 m 21 ls []) := by
  have hi1 : ∀ w ∈ wsX10, w ∈ wsX2_highestMarks := by decide +kernel
  have hi2 : ∀ w ∈ wsX20, w ∈ wsX2_highestMarks := by decide +kernel
  intro n
  induction n with
  | zero =>
    intro q H locs ls hjn hw hl
    have hml9 : mcl (bst (fun q => V (mcl q) 0) (2 * j + q)) < 47 := mcl_lt (by rcases Nat.eq_zero_or_pos (2 * j + q) with h | h; (· rw [h]; show 0 < 12; decide); (· have := bst_lt (fun q => V (mcl q) 0) h; omega))
    have hml8 : q < 2 → mcl (2 * j + q) < 47 := fun h => mcl_lt (by omega)
    refine lv_iload_n hx hb dX2_highestMarks_21 rfl (lv_at hl 0 rfl) ?_
    refine lv_iconst (v := nI 2) hx hb dX2_highestMarks_22 (by decide) ?_
    refine n_icmp_ge (tgt := 59) hx hb dX2_highestMarks_23 (by decide) (by omega) (by omega) (fun c_23 => ?_) (fun c_23 => ?_)
    · have e1 : q = 2 := by omega
      subst e1
      exact hk H locs ls hw (lv_sub hl [1, 2, 3] rfl)
    · exfalso
      omega
  | succ n ih =>
    intro q H locs ls hjn hw hl
    have hml9 : mcl (bst (fun q => V (mcl q) 0) (2 * j + q)) < 47 := mcl_lt (by rcases Nat.eq_zero_or_pos (2 * j + q) with h | h; (· rw [h]; show 0 < 12; decide); (· have := bst_lt (fun q => V (mcl q) 0) h; omega))
    have hml8 : q < 2 → mcl (2 * j + q) < 47 := fun h => mcl_lt (by omega)
    refine lv_iload_n hx hb dX2_highestMarks_21 rfl (lv_at hl 0 rfl) ?_
    refine lv_iconst (v := nI 2) hx hb dX2_highestMarks_22 (by decide) ?_
    refine n_icmp_ge (tgt := 59) hx hb dX2_highestMarks_23 (by decide) (by omega) (by omega) (fun c_23 => ?_) (fun c_23 => ?_)
    · exfalso
      omega
    · refine lv_aload_n hx hb dX2_highestMarks_26 rfl (lv_at hl 3 rfl) ?_
      refine w_get (ci := 2) (C := RX2) (T := TX2) (M := 10) (v := .ref (ad 1)) hx hb hts hi2 hown hK hw 0 (by omega) _ (cF_0 _) rfl 0 (by decide) (hts (.fieldLink RX2 11 "WideningArray" "disks" "[LWideningArray$Disk;") (by decide +kernel)) rfl dX2_highestMarks_27 ?_
      refine lv_iload_n hx hb dX2_highestMarks_30 rfl (lv_at hl 2 rfl) ?_
      refine w_aald hx hb hK hw 1 6 (by omega) (cF_1 _) (i := j) (by omega) (by decide) rfl dX2_highestMarks_31 ?_
      refine lv_iload_n hx hb dX2_highestMarks_32 rfl (lv_at hl 0 rfl) ?_
      refine w_callr hw (va_runV (As := [.int (nI q)]) (rest := []) ⟨hx, hb, hml, hown, hts⟩ (c_X0_marksIn l D cI cD ad _ V j (by omega) (nI q)) (cwV 1 hts gX2_highestMarks_X0_marksIn rfl rfl rfl (by decide +kernel) ⟨Nat.le_of_ble_eq_true rfl, Nat.le_of_ble_eq_true rfl⟩) (w_preV hK hw (by omega) (cF_d0 j _) rfl _) rfl rfl hl.1 rfl (lv_room (Nat.le_of_ble_eq_true rfl)) dX2_highestMarks_33 ⟨Nat.le_of_ble_eq_true rfl, Nat.le_of_ble_eq_true rfl⟩) (fun k_2 V_1 H locs hp hw => ?_)
      obtain ⟨e9, e8⟩ := hp
      dsimp only at e9 e8
      subst e9
      have hk_2 : k_2 < 47 := by rw [← e8]; split <;> omega
      have hFk_2 : ∀ f, cF cI cD ad k_2 f = cM f := by intro f; rw [← e8]; split <;> first | exact cF_d3 j f | exact cF_d2 j f
      have e7 : k_2 = mcl (2 * j + q) := by rw [← e8]; exact mcl_in (by omega)
      subst e7
      refine lv_astore (lv' := [(4, .ref (ad (mcl (2 * j + q)))), (3, .int (nI q)), (1, .ref (ad (mcl (bst (fun q => V (mcl q) 0) (2 * j + q))))), (2, .int (nI j)), (0, .ref (ad 0))]) hx hb dX2_highestMarks_36 hl (by decide) rfl (fun ls hl => ?_)
      refine lv_aload hx hb dX2_highestMarks_38 (lv_at hl 0 rfl) ?_
      refine w_getN (ci := 1) (C := RX1) (T := TX1) (M := 5) (v := .int (V (mcl (2 * j + q)) 0)) hx hb hts hi1 hown hK hw (mcl (2 * j + q)) (by omega) _ (mcl_F _ _) rfl 0 (by decide) (va_Nw.use rfl (hK.2 (.fieldLinkNest "WideningArray" 197 "WideningArray$Marks" "number" "I" "WideningArray") (by decide +kernel))) rfl dX2_highestMarks_40 ?_
      refine lv_aload_n hx hb dX2_highestMarks_43 rfl (lv_at hl 2 rfl) ?_
      refine w_getN (ci := 1) (C := RX1) (T := TX1) (M := 5) (v := .int (V (mcl (bst (fun q => V (mcl q) 0) (2 * j + q))) 0)) hx hb hts hi1 hown hK hw (mcl (bst (fun q => V (mcl q) 0) (2 * j + q))) (by omega) _ (mcl_F _ _) rfl 0 (by decide) (va_Nw.use rfl (hK.2 (.fieldLinkNest "WideningArray" 197 "WideningArray$Marks" "number" "I" "WideningArray") (by decide +kernel))) rfl dX2_highestMarks_44 ?_
      refine lv_icmp_le (tgt := 53) hx hb dX2_highestMarks_47 (by decide) (fun c_47 => ?_) (fun c_47 => ?_)
      · have e2 : bst (fun q => V (mcl q) 0) (2 * j + (q + 1)) = bst (fun q => V (mcl q) 0) (2 * j + q) := bst_no (f := (fun q => V (mcl q) 0)) (q := 2 * j + q) (Int32.not_lt.mpr c_47)
        refine lv_iinc (v := nI (q + 1)) (lv' := [(3, .int (nI (q + 1))), (4, .ref (ad (mcl (2 * j + q)))), (1, .ref (ad (mcl (bst (fun q => V (mcl q) 0) (2 * j + q))))), (2, .int (nI j)), (0, .ref (ad 0))]) hx hb dX2_highestMarks_53 hl (k := 1) rfl (nI_1 _) (by decide) rfl (fun ls hl => ?_)
        refine lv_goto (tgt := 21) hx hb dX2_highestMarks_56 (by decide) ?_
        rw [← e2] at hl
        exact ih (q + 1) _ _ ls (by omega) hw (lv_sub hl [0, 2, 3, 4] rfl)
      · have e2 : bst (fun q => V (mcl q) 0) (2 * j + (q + 1)) = 2 * j + q := bst_yes (f := (fun q => V (mcl q) 0)) (q := 2 * j + q) (Int32.not_le.mp c_47)
        refine lv_aload hx hb dX2_highestMarks_50 (lv_at hl 0 rfl) ?_
        refine lv_astore_n (lv' := [(1, .ref (ad (mcl (2 * j + q)))), (4, .ref (ad (mcl (2 * j + q)))), (3, .int (nI q)), (2, .int (nI j)), (0, .ref (ad 0))]) hx hb dX2_highestMarks_52 rfl hl (by decide) rfl (fun ls hl => ?_)
        refine lv_iinc (v := nI (q + 1)) (lv' := [(3, .int (nI (q + 1))), (1, .ref (ad (mcl (2 * j + q)))), (4, .ref (ad (mcl (2 * j + q)))), (2, .int (nI j)), (0, .ref (ad 0))]) hx hb dX2_highestMarks_53 hl (k := 2) rfl (nI_1 _) (by decide) rfl (fun ls hl => ?_)
        refine lv_goto (tgt := 21) hx hb dX2_highestMarks_56 (by decide) ?_
        rw [← e2] at hl
        exact ih (q + 1) _ _ ls (by omega) hw (lv_sub hl [0, 1, 3, 4] rfl)
set_option maxHeartbeats 4000000 in
set_option maxRecDepth 100000 in
theorem lp_X2_highestMarks {p : Program} {l : Launch} {e : Env} {s : State} {m : MethodId} {args : Array Value} {below : List Frame} {meth : Method} {c : Code} {Q : State → Prop} {D : va_G} {cI cD : ClassId} {ad : Nat → Nat} (hx : p.tables.exec = Jvm.exec) (hb : c.code = cX2_highestMarks) (hts : ∀ w ∈ wsX2_highestMarks, w.before args s = true) (hown : s.vm.findClass RX2 = some m.cls) (hml : c.maxLocals = 5) (hK : kK D cI cD s) {V : vT}  (hk : ∀ (H1 : Heap) (locs1 : List Loc) (ls : Array Slot), wS D 47 ad (cF cI cD ad) s.heap V H1 locs1 → lv_has ls 5 [(1, .ref (ad (mcl (bst (fun q => V (mcl q) 0) 12))))] → W p l e ({ frames := 1, cells := 0, slots := 0, locals := 21 }) s m args below meth c H1 locs1 0 0 Q (F0 m 65 ls [])) : ∀ (n j : Nat) (H : Heap) (locs : List Loc) (ls : Array Slot), j + n = 6 → wS D 47 ad (cF cI cD ad) s.heap V H locs → lv_has ls 5 [(2, .int (nI j)), (1, .ref (ad (mcl (bst (fun q => V (mcl q) 0) (2 * j))))), (0, .ref (ad 0))] → W p l e ({ frames := 1, cells := 0, slots := 0, locals := 21 }) s m args below meth c H locs 0 0 Q (F0 m 13 ls []) := by
  have hi1 : ∀ w ∈ wsX10, w ∈ wsX2_highestMarks := by decide +kernel
  have hi2 : ∀ w ∈ wsX20, w ∈ wsX2_highestMarks := by decide +kernel
  intro n
  induction n with
  | zero =>
    intro j H locs ls hjn hw hl
    refine lv_iload_n hx hb dX2_highestMarks_13 rfl (lv_at hl 0 rfl) ?_
    refine lv_bipush (v := nI 6) hx hb dX2_highestMarks_14 (by decide) ?_
    refine n_icmp_ge (tgt := 65) hx hb dX2_highestMarks_16 (by decide) (by omega) (by omega) (fun c_16 => ?_) (fun c_16 => ?_)
    · have e1 : j = 6 := by omega
      subst e1
      exact hk H locs ls hw (lv_sub hl [1] rfl)
    · exfalso
      omega
  | succ n ih =>
    intro j H locs ls hjn hw hl
    refine lv_iload_n hx hb dX2_highestMarks_13 rfl (lv_at hl 0 rfl) ?_
    refine lv_bipush (v := nI 6) hx hb dX2_highestMarks_14 (by decide) ?_
    refine n_icmp_ge (tgt := 65) hx hb dX2_highestMarks_16 (by decide) (by omega) (by omega) (fun c_16 => ?_) (fun c_16 => ?_)
    · exfalso
      omega
    · refine lv_iconst (v := nI 0) hx hb dX2_highestMarks_19 (by decide) ?_
      refine lv_istore_n (lv' := [(3, .int (nI 0)), (2, .int (nI j)), (1, .ref (ad (mcl (bst (fun q => V (mcl q) 0) (2 * j))))), (0, .ref (ad 0))]) hx hb dX2_highestMarks_20 rfl hl (by decide) rfl (fun ls hl => ?_)
      refine lp_X2_highestMarks_q hx hb hts hown hml hK j (by omega) (fun H locs ls hw hl => ?_) 2 0 _ _ ls (by omega) hw (lv_sub hl [0, 2, 1, 3] rfl)
      refine lv_iinc (v := nI (j + 1)) (lv' := [(2, .int (nI (j + 1))), (1, .ref (ad (mcl (bst (fun q => V (mcl q) 0) (2 * j + 2))))), (0, .ref (ad 0))]) hx hb dX2_highestMarks_59 hl (k := 1) rfl (nI_1 _) (by decide) rfl (fun ls hl => ?_)
      refine lv_goto (tgt := 13) hx hb dX2_highestMarks_62 (by decide) ?_
      exact ih (j + 1) _ _ ls (by omega) hw (lv_sub hl [0, 1, 2] rfl)
set_option maxHeartbeats 4000000 in
set_option maxRecDepth 100000 in
theorem c_X2_highestMarks (l : Launch) (D : va_G) (cI cD : ClassId) (ad : Nat → Nat) (sz : Nat) (V : vT)  : Met l yX2_highestMarks wsX2_highestMarks ({ frames := 1, cells := 0, slots := 0, locals := 21 }) (gP D cI cD 47 ad (cF cI cD ad) sz V [.ref (ad 0)]) (va_Qr (fun (u : Nat × vT) => V = u.2 ∧ mcl (bst (fun q => V (mcl q) 0) 12) = u.1) (gBr D 47 ad (cF cI cD ad)) (gA 47 ad sz)) 0 0 (gA 47 ad sz) := by
  refine w_met (cc := cX2_highestMarks) (maxL := 5) (ret := (some (.object "WideningArray$Marks"))) (by decide) rfl (Nat.le_of_ble_eq_true rfl) ?_
  intro p e s m below meth c hx hb hr hts hown hlocks hml hsz hK hw ls hl
  subst hsz
  have hown : s.vm.findClass RX2 = some m.cls := hown
  have hi1 : ∀ w ∈ wsX10, w ∈ wsX2_highestMarks := by decide +kernel
  have hi2 : ∀ w ∈ wsX20, w ∈ wsX2_highestMarks := by decide +kernel
  have hl : lv_has ls 5 [(0, .ref (ad 0))] := hl
  refine lv_aload_n hx hb dX2_highestMarks_0 rfl (lv_at hl 0 rfl) ?_
  refine w_get (ci := 2) (C := RX2) (T := TX2) (M := 10) (v := .ref (ad 1)) hx hb hts hi2 hown hK hw 0 (by omega) _ (cF_0 _) rfl 0 (by decide) (hts (.fieldLink RX2 11 "WideningArray" "disks" "[LWideningArray$Disk;") (by decide +kernel)) rfl dX2_highestMarks_1 ?_
  refine lv_iconst (v := nI 0) hx hb dX2_highestMarks_4 (by decide) ?_
  refine w_aald hx hb hK hw 1 6 (by omega) (cF_1 _) (i := 0) (by omega) (by decide) rfl dX2_highestMarks_5 ?_
  refine lv_iconst (v := nI 0) hx hb dX2_highestMarks_6 (by decide) ?_
  refine w_callr hw (va_runV (As := [.int (nI 0)]) (rest := []) ⟨hx, hb, hml, hown, hts⟩ (c_X0_marksIn l D cI cD ad _ V 0 (by omega) (nI 0)) (cwV 1 hts gX2_highestMarks_X0_marksIn rfl rfl rfl (by decide +kernel) ⟨Nat.le_of_ble_eq_true rfl, Nat.le_of_ble_eq_true rfl⟩) (w_preV hK hw (by omega) (cF_d0 0 _) rfl _) rfl rfl hl.1 rfl (lv_room (Nat.le_of_ble_eq_true rfl)) dX2_highestMarks_7 ⟨Nat.le_of_ble_eq_true rfl, Nat.le_of_ble_eq_true rfl⟩) (fun k_2 V_1 H locs hp hw => ?_)
  obtain ⟨e9, e8⟩ := hp
  dsimp only at e9 e8
  subst e9
  have hk_2 : k_2 < 47 := by rw [← e8]; split <;> omega
  have hFk_2 : ∀ f, cF cI cD ad k_2 f = cM f := by intro f; rw [← e8]; split <;> first | exact cF_d3 0 f | exact cF_d2 0 f
  have e7 : k_2 = mcl (bst (fun q => V (mcl q) 0) 0) := by rw [← e8, if_neg (by decide)]; simp only [bst, mcl]
  subst e7
  refine lv_astore_n (lv' := [(1, .ref (ad (mcl (bst (fun q => V (mcl q) 0) 0)))), (0, .ref (ad 0))]) hx hb dX2_highestMarks_10 rfl hl (by decide) rfl (fun ls hl => ?_)
  refine lv_iconst (v := nI 0) hx hb dX2_highestMarks_11 (by decide) ?_
  refine lv_istore_n (lv' := [(2, .int (nI 0)), (1, .ref (ad (mcl (bst (fun q => V (mcl q) 0) 0)))), (0, .ref (ad 0))]) hx hb dX2_highestMarks_12 rfl hl (by decide) rfl (fun ls hl => ?_)
  refine lp_X2_highestMarks hx hb hts hown hml hK (fun H locs ls hw hl => ?_) 6 0 _ _ ls (by omega) hw (lv_sub hl [0, 1, 2] rfl)
  refine lv_aload_n hx hb dX2_highestMarks_65 rfl (lv_at hl 0 rfl) ?_
  exact w_aret hx hb hr hlocks hw (⟨rfl, rfl⟩) dX2_highestMarks_66
