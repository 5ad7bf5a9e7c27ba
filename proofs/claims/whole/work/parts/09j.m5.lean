set_option maxHeartbeats 4000000 in
set_option maxRecDepth 100000 in
theorem lp_X3_write_j {p : Program} {l : Launch} {e : Env} {s : State} {m : MethodId} {args : Array Value} {below : List Frame} {meth : Method} {c : Code} {Q : State → Prop} {D : va_G} {cI cD : ClassId} {ad : Nat → Nat} (hx : p.tables.exec = Jvm.exec) (hb : c.code = cX3_write) (hts : ∀ w ∈ wsX3_write, w.before args s = true) (hown : s.vm.findClass RX3 = some m.cls) (hml : c.maxLocals = 10) (hK : kK D cI cD s) (V0 : vT) (k row own wi : Nat) (v : Int32) (TT : Nat → Nat → Int32) (hTT : ∀ j i, told (mw V0) (ab (V0 0 8) (V0 0 9)) k row (dd k row j) i = TT j i) (hk3 : 3 ≤ k) (hk6 : k ≤ 6) (hrow : row < 40) (how9 : own < k - 1) (hwi : wi < 4) (hlf : V0 0 8 = -1 ∨ V0 0 9 = -1) (i : Nat) (hi4 : i < 4) (hk : ∀ (V1 : vT) (H1 : Heap) (locs1 : List Loc) (ls : Array Slot), ((∀ a, a ≠ 8 → a ≠ 9 → V1 a = V0 a) ∧ (∀ t, t ≠ i → V1 8 t = V0 8 t ∧ V1 9 t = V0 9 t) ∧ V1 9 i = xa (fun e => chg TT own wi v e i) (k - 1) ∧ (own < k - 1 → V1 8 i = chg TT own wi v own i)) → wS D 10 ad (mF cI ad) s.heap V1 H1 locs1 → lv_has ls 10 [(7, .int (nI i)), (4, .int (nI k)), (5, .int (nI row)), (6, .int (nI own)), (0, .ref (ad 0)), (2, .int (nI wi)), (3, .int v)] → W p l e ({ frames := 3, cells := 0, slots := 0, locals := 69 }) s m args below meth c H1 locs1 0 0 Q (F0 m 205 ls [])) : ∀ (n j : Nat) (V : vT) (H : Heap) (locs : List Loc) (ls : Array Slot), (j + n = k - 1) → ((∀ a, a ≠ 8 → a ≠ 9 → V a = V0 a) ∧ (∀ t, t ≠ i → V 8 t = V0 8 t ∧ V 9 t = V0 9 t) ∧ V 9 i = xa (fun e => chg TT own wi v e i) j ∧ (own < j → V 8 i = chg TT own wi v own i)) → wS D 10 ad (mF cI ad) s.heap V H locs → lv_has ls 10 [(8, .int (nI j)), (7, .int (nI i)), (4, .int (nI k)), (5, .int (nI row)), (6, .int (nI own)), (0, .ref (ad 0)), (2, .int (nI wi)), (3, .int v)] → W p l e ({ frames := 3, cells := 0, slots := 0, locals := 69 }) s m args below meth c H locs 0 0 Q (F0 m 105 ls []) := by
  have hi3 : ∀ w ∈ wsX30, w ∈ wsX3_write := by decide +kernel
  intro n
  induction n with
  | zero =>
    intro j V H locs ls hjn hin hw hl
    refine lv_iload hx hb dX3_write_105 (lv_at hl 0 rfl) ?_
    refine lv_iload hx hb dX3_write_107 (lv_at hl 2 rfl) ?_
    refine lv_iconst (v := nI 1) hx hb dX3_write_109 (by decide) ?_
    refine n_sub hx hb dX3_write_110 (by omega) ?_
    refine n_icmp_ge (tgt := 205) hx hb dX3_write_111 (by decide) (by omega) (by omega) (fun c_111 => ?_) (fun c_111 => ?_)
    · have e1 : j = k - 1 := by omega
      subst e1
      exact hk V H locs ls hin hw (lv_sub hl [1, 2, 3, 4, 5, 6, 7] rfl)
    · exfalso
      omega
  | succ n ih =>
    intro j V H locs ls hjn hin hw hl
    refine lv_iload hx hb dX3_write_105 (lv_at hl 0 rfl) ?_
    refine lv_iload hx hb dX3_write_107 (lv_at hl 2 rfl) ?_
    refine lv_iconst (v := nI 1) hx hb dX3_write_109 (by decide) ?_
    refine n_sub hx hb dX3_write_110 (by omega) ?_
    refine n_icmp_ge (tgt := 205) hx hb dX3_write_111 (by decide) (by omega) (by omega) (fun c_111 => ?_) (fun c_111 => ?_)
    · exfalso
      omega
    · refine lv_aload_n hx hb dX3_write_114 rfl (lv_at hl 5 rfl) ?_
      refine lv_iload hx hb dX3_write_115 (lv_at hl 2 rfl) ?_
      refine lv_iload hx hb dX3_write_117 (lv_at hl 2 rfl) ?_
      refine lv_iload hx hb dX3_write_119 (lv_at hl 3 rfl) ?_
      refine lv_iload hx hb dX3_write_121 (lv_at hl 0 rfl) ?_
      refine w_calli hw (va_runS (As := [.int (nI k), .int (nI row), .int (nI j)]) (rest := [.int (nI k), .ref (ad 0)]) ⟨hx, hb, hml, hown, hts⟩ (c_X3_dataDisk l D cI cD ad _ V k row j (by omega) (by omega) (by omega) (by omega)) (va_cwS 3 hts gX3_write_X3_dataDisk rfl rfl rfl (by decide +kernel) ⟨Nat.le_of_ble_eq_true rfl, Nat.le_of_ble_eq_true rfl⟩) (w_preS hK hw _) rfl rfl hl.1 rfl (lv_room (Nat.le_of_ble_eq_true rfl)) dX3_write_123 ⟨Nat.le_of_ble_eq_true rfl, Nat.le_of_ble_eq_true rfl⟩) (fun r_2 V_1 H locs hp hw => ?_)
      obtain ⟨e9, e8⟩ := hp
      subst e9
      subst e8
      refine lv_iload hx hb dX3_write_126 (lv_at hl 3 rfl) ?_
      refine lv_iload hx hb dX3_write_128 (lv_at hl 1 rfl) ?_
      refine w_calli hw (va_runV (As := [.int (nI k), .int (nI (dd k row j)), .int (nI row), .int (nI i)]) (rest := []) ⟨hx, hb, hml, hown, hts⟩ (c_X3_wordOf l D cI cD ad _ V k (dd k row j) row i (by omega) (by have := dd_lt (k := k) (row := row) (j := j) (by omega); omega) (by omega) (by omega) (by rw [hin.1 0 (by decide) (by decide)]; exact hlf)) (cwV 4 hts gX3_write_X3_wordOf rfl rfl rfl (by decide +kernel) ⟨Nat.le_of_ble_eq_true rfl, Nat.le_of_ble_eq_true rfl⟩) (w_preV hK hw (by omega) (mF_0 _) rfl _) rfl rfl hl.1 rfl (lv_room (Nat.le_of_ble_eq_true rfl)) dX3_write_130 ⟨Nat.le_of_ble_eq_true rfl, Nat.le_of_ble_eq_true rfl⟩) (fun r_4 V_3 H locs hp hw => ?_)
      obtain ⟨e9, e8⟩ := hp
      subst e9
      subst e8
      refine n_is (show told (mw V) (ab (V 0 8) (V 0 9)) k row (dd k row j) i = TT j i from (told_m (hin.1 1 (by decide) (by decide)) (hin.1 0 (by decide) (by decide))).trans (hTT j i)) ?_
      refine lv_istore (lv' := [(9, .int (TT j i)), (8, .int (nI j)), (7, .int (nI i)), (4, .int (nI k)), (5, .int (nI row)), (6, .int (nI own)), (0, .ref (ad 0)), (2, .int (nI wi)), (3, .int v)]) hx hb dX3_write_133 hl (by decide) rfl (fun ls hl => ?_)
      refine lv_iload hx hb dX3_write_135 (lv_at hl 1 rfl) ?_
      refine lv_iload hx hb dX3_write_137 (lv_at hl 5 rfl) ?_
      refine n_icmp_ne (tgt := 152) hx hb dX3_write_139 (by decide) (by omega) (by omega) (fun c_139 => ?_) (fun c_139 => ?_)
      · refine lv_iload hx hb dX3_write_152 (lv_at hl 0 rfl) ?_
        refine n_is (show TT j i = chg TT own wi v j i from by rw [chg, if_neg (fun h => by first | exact c_139 h.1 | exact c_145 h.2)]) ?_
        refine lv_istore (lv' := [(9, .int (chg TT own wi v j i)), (8, .int (nI j)), (7, .int (nI i)), (4, .int (nI k)), (5, .int (nI row)), (6, .int (nI own)), (0, .ref (ad 0)), (2, .int (nI wi)), (3, .int v)]) hx hb dX3_write_154 hl (by decide) rfl (fun ls hl => ?_)
        refine lv_aload_n hx hb dX3_write_156 rfl (lv_at hl 6 rfl) ?_
        refine w_get (ci := 3) (C := RX3) (T := TX3) (M := 24) (v := .ref (ad 9)) hx hb hts hi3 hown hK hw 0 (by omega) _ (mF_0 _) rfl 23 (by decide) (hts (.fieldLink RX3 41 "WideningArrayModel" "parity" "[I") (by decide +kernel)) rfl dX3_write_157 ?_
        refine lv_iload hx hb dX3_write_160 (lv_at hl 2 rfl) ?_
        refine lv_aload_n hx hb dX3_write_162 rfl (lv_at hl 6 rfl) ?_
        refine w_get (ci := 3) (C := RX3) (T := TX3) (M := 24) (v := .ref (ad 9)) hx hb hts hi3 hown hK hw 0 (by omega) _ (mF_0 _) rfl 23 (by decide) (hts (.fieldLink RX3 41 "WideningArrayModel" "parity" "[I") (by decide +kernel)) rfl dX3_write_163 ?_
        refine lv_iload hx hb dX3_write_166 (lv_at hl 2 rfl) ?_
        refine w_iald hx hb hK hw 9 4 (by omega) (fun _ => rfl) (i := i) (by omega) (by decide) dX3_write_168 ?_
        refine n_is (show V 9 i = xa (fun e => chg TT own wi v e i) j from hin.2.2.1) ?_
        refine lv_iload hx hb dX3_write_169 (lv_at hl 0 rfl) ?_
        refine lv_ixor hx hb dX3_write_171 ?_
        refine w_iast hx hb hK hw 9 4 (by omega) (fun _ => rfl) (i := i) (by omega) (by decide) dX3_write_172 (fun H locs hw => ?_)
        obtain ⟨V_5, hV_5⟩ : ∃ z : vT, z = u2 V 9 i ((xa (fun e => chg TT own wi v e i) j) ^^^ (chg TT own wi v j i)) := ⟨_, rfl⟩
        rw [← hV_5] at hw
        refine lv_aload_n hx hb dX3_write_173 rfl (lv_at hl 6 rfl) ?_
        refine w_get (ci := 3) (C := RX3) (T := TX3) (M := 24) (v := .ref (ad 8)) hx hb hts hi3 hown hK hw 0 (by omega) _ (mF_0 _) rfl 22 (by decide) (hts (.fieldLink RX3 38 "WideningArrayModel" "block" "[I") (by decide +kernel)) rfl dX3_write_174 ?_
        refine lv_iload hx hb dX3_write_177 (lv_at hl 2 rfl) ?_
        refine lv_iload hx hb dX3_write_179 (lv_at hl 1 rfl) ?_
        refine lv_iload hx hb dX3_write_181 (lv_at hl 5 rfl) ?_
        refine n_icmp_ne (tgt := 191) hx hb dX3_write_183 (by decide) (by omega) (by omega) (fun c_183 => ?_) (fun c_183 => ?_)
        · refine lv_aload_n hx hb dX3_write_191 rfl (lv_at hl 6 rfl) ?_
          refine w_get (ci := 3) (C := RX3) (T := TX3) (M := 24) (v := .ref (ad 8)) hx hb hts hi3 hown hK hw 0 (by omega) _ (mF_0 _) rfl 22 (by decide) (hts (.fieldLink RX3 38 "WideningArrayModel" "block" "[I") (by decide +kernel)) rfl dX3_write_192 ?_
          refine lv_iload hx hb dX3_write_195 (lv_at hl 2 rfl) ?_
          refine w_iald hx hb hK hw 8 4 (by omega) (fun _ => rfl) (i := i) (by omega) (by decide) dX3_write_197 ?_
          refine w_iast hx hb hK hw 8 4 (by omega) (fun _ => rfl) (i := i) (by omega) (by decide) dX3_write_198 (fun H locs hw => ?_)
          obtain ⟨V_6, hV_6⟩ : ∃ z : vT, z = u2 V_5 8 i (V_5 8 i) := ⟨_, rfl⟩
          rw [← hV_6] at hw
          refine lv_iinc (v := nI (j + 1)) (lv' := [(8, .int (nI (j + 1))), (9, .int (chg TT own wi v j i)), (7, .int (nI i)), (4, .int (nI k)), (5, .int (nI row)), (6, .int (nI own)), (0, .ref (ad 0)), (2, .int (nI wi)), (3, .int v)]) hx hb dX3_write_199 hl (k := 1) rfl (nI_1 _) (by decide) rfl (fun ls hl => ?_)
          refine lv_goto (tgt := 105) hx hb dX3_write_202 (by decide) ?_
          have hin' : (∀ a, a ≠ 8 → a ≠ 9 → V_6 a = V0 a) ∧ (∀ t, t ≠ i → V_6 8 t = V0 8 t ∧ V_6 9 t = V0 9 t) ∧ V_6 9 i = xa (fun e => chg TT own wi v e i) (j + 1) ∧ (own < j + 1 → V_6 8 i = chg TT own wi v own i) := by
            refine ⟨fun a q8 q9 => by rw [hV_6, u2_r _ _ q8, hV_5, u2_r _ _ q9]; exact hin.1 a q8 q9, fun t ht => ⟨by rw [hV_6, u2_n _ _ (Or.inr ht), hV_5, u2_r _ _ (by decide)]; exact (hin.2.1 t ht).1, by rw [hV_6, u2_r _ _ (by decide), hV_5, u2_n _ _ (Or.inr ht)]; exact (hin.2.1 t ht).2⟩, by rw [hV_6, u2_r _ _ (by decide), hV_5, u2_s]; rfl, fun hlt => by rw [hV_6, u2_s, hV_5, u2_r _ _ (by decide)]; exact hin.2.2.2 (by omega)⟩
          exact ih (j + 1) _ _ _ ls (by omega) hin' hw (lv_sub hl [0, 2, 3, 4, 5, 6, 7, 8] rfl)
        · first | exact absurd c_183 c_139 | exact absurd c_139 c_183
      · refine lv_iload hx hb dX3_write_142 (lv_at hl 2 rfl) ?_
        refine lv_iload_n hx hb dX3_write_144 rfl (lv_at hl 7 rfl) ?_
        refine n_icmp_ne (tgt := 152) hx hb dX3_write_145 (by decide) (by omega) (by omega) (fun c_145 => ?_) (fun c_145 => ?_)
        · refine lv_iload hx hb dX3_write_152 (lv_at hl 0 rfl) ?_
          refine n_is (show TT j i = chg TT own wi v j i from by rw [chg, if_neg (fun h => by first | exact c_139 h.1 | exact c_145 h.2)]) ?_
          refine lv_istore (lv' := [(9, .int (chg TT own wi v j i)), (8, .int (nI j)), (7, .int (nI i)), (4, .int (nI k)), (5, .int (nI row)), (6, .int (nI own)), (0, .ref (ad 0)), (2, .int (nI wi)), (3, .int v)]) hx hb dX3_write_154 hl (by decide) rfl (fun ls hl => ?_)
          refine lv_aload_n hx hb dX3_write_156 rfl (lv_at hl 6 rfl) ?_
          refine w_get (ci := 3) (C := RX3) (T := TX3) (M := 24) (v := .ref (ad 9)) hx hb hts hi3 hown hK hw 0 (by omega) _ (mF_0 _) rfl 23 (by decide) (hts (.fieldLink RX3 41 "WideningArrayModel" "parity" "[I") (by decide +kernel)) rfl dX3_write_157 ?_
          refine lv_iload hx hb dX3_write_160 (lv_at hl 2 rfl) ?_
          refine lv_aload_n hx hb dX3_write_162 rfl (lv_at hl 6 rfl) ?_
          refine w_get (ci := 3) (C := RX3) (T := TX3) (M := 24) (v := .ref (ad 9)) hx hb hts hi3 hown hK hw 0 (by omega) _ (mF_0 _) rfl 23 (by decide) (hts (.fieldLink RX3 41 "WideningArrayModel" "parity" "[I") (by decide +kernel)) rfl dX3_write_163 ?_
          refine lv_iload hx hb dX3_write_166 (lv_at hl 2 rfl) ?_
          refine w_iald hx hb hK hw 9 4 (by omega) (fun _ => rfl) (i := i) (by omega) (by decide) dX3_write_168 ?_
          refine n_is (show V 9 i = xa (fun e => chg TT own wi v e i) j from hin.2.2.1) ?_
          refine lv_iload hx hb dX3_write_169 (lv_at hl 0 rfl) ?_
          refine lv_ixor hx hb dX3_write_171 ?_
          refine w_iast hx hb hK hw 9 4 (by omega) (fun _ => rfl) (i := i) (by omega) (by decide) dX3_write_172 (fun H locs hw => ?_)
          obtain ⟨V_7, hV_7⟩ : ∃ z : vT, z = u2 V 9 i ((xa (fun e => chg TT own wi v e i) j) ^^^ (chg TT own wi v j i)) := ⟨_, rfl⟩
          rw [← hV_7] at hw
          refine lv_aload_n hx hb dX3_write_173 rfl (lv_at hl 6 rfl) ?_
          refine w_get (ci := 3) (C := RX3) (T := TX3) (M := 24) (v := .ref (ad 8)) hx hb hts hi3 hown hK hw 0 (by omega) _ (mF_0 _) rfl 22 (by decide) (hts (.fieldLink RX3 38 "WideningArrayModel" "block" "[I") (by decide +kernel)) rfl dX3_write_174 ?_
          refine lv_iload hx hb dX3_write_177 (lv_at hl 2 rfl) ?_
          refine lv_iload hx hb dX3_write_179 (lv_at hl 1 rfl) ?_
          refine lv_iload hx hb dX3_write_181 (lv_at hl 5 rfl) ?_
          refine n_icmp_ne (tgt := 191) hx hb dX3_write_183 (by decide) (by omega) (by omega) (fun c_183 => ?_) (fun c_183 => ?_)
          · first | exact absurd c_183 c_139 | exact absurd c_139 c_183
          · refine lv_iload hx hb dX3_write_186 (lv_at hl 0 rfl) ?_
            refine lv_goto (tgt := 198) hx hb dX3_write_188 (by decide) ?_
            refine w_iast hx hb hK hw 8 4 (by omega) (fun _ => rfl) (i := i) (by omega) (by decide) dX3_write_198 (fun H locs hw => ?_)
            obtain ⟨V_8, hV_8⟩ : ∃ z : vT, z = u2 V_7 8 i (chg TT own wi v j i) := ⟨_, rfl⟩
            rw [← hV_8] at hw
            refine lv_iinc (v := nI (j + 1)) (lv' := [(8, .int (nI (j + 1))), (9, .int (chg TT own wi v j i)), (7, .int (nI i)), (4, .int (nI k)), (5, .int (nI row)), (6, .int (nI own)), (0, .ref (ad 0)), (2, .int (nI wi)), (3, .int v)]) hx hb dX3_write_199 hl (k := 1) rfl (nI_1 _) (by decide) rfl (fun ls hl => ?_)
            refine lv_goto (tgt := 105) hx hb dX3_write_202 (by decide) ?_
            have hin' : (∀ a, a ≠ 8 → a ≠ 9 → V_8 a = V0 a) ∧ (∀ t, t ≠ i → V_8 8 t = V0 8 t ∧ V_8 9 t = V0 9 t) ∧ V_8 9 i = xa (fun e => chg TT own wi v e i) (j + 1) ∧ (own < j + 1 → V_8 8 i = chg TT own wi v own i) := by
              refine ⟨fun a q8 q9 => by rw [hV_8, u2_r _ _ q8, hV_7, u2_r _ _ q9]; exact hin.1 a q8 q9, fun t ht => ⟨by rw [hV_8, u2_n _ _ (Or.inr ht), hV_7, u2_r _ _ (by decide)]; exact (hin.2.1 t ht).1, by rw [hV_8, u2_r _ _ (by decide), hV_7, u2_n _ _ (Or.inr ht)]; exact (hin.2.1 t ht).2⟩, by rw [hV_8, u2_r _ _ (by decide), hV_7, u2_s]; rfl, fun hlt => by rw [hV_8, u2_s, c_139]⟩
            exact ih (j + 1) _ _ _ ls (by omega) hin' hw (lv_sub hl [0, 2, 3, 4, 5, 6, 7, 8] rfl)
        · refine lv_iload_n hx hb dX3_write_148 rfl (lv_at hl 8 rfl) ?_
          refine lv_goto (tgt := 154) hx hb dX3_write_149 (by decide) ?_
          refine n_is (show v = chg TT own wi v j i from by rw [chg, if_pos ⟨c_139, c_145⟩]) ?_
          refine lv_istore (lv' := [(9, .int (chg TT own wi v j i)), (8, .int (nI j)), (7, .int (nI i)), (4, .int (nI k)), (5, .int (nI row)), (6, .int (nI own)), (0, .ref (ad 0)), (2, .int (nI wi)), (3, .int v)]) hx hb dX3_write_154 hl (by decide) rfl (fun ls hl => ?_)
          refine lv_aload_n hx hb dX3_write_156 rfl (lv_at hl 6 rfl) ?_
          refine w_get (ci := 3) (C := RX3) (T := TX3) (M := 24) (v := .ref (ad 9)) hx hb hts hi3 hown hK hw 0 (by omega) _ (mF_0 _) rfl 23 (by decide) (hts (.fieldLink RX3 41 "WideningArrayModel" "parity" "[I") (by decide +kernel)) rfl dX3_write_157 ?_
          refine lv_iload hx hb dX3_write_160 (lv_at hl 2 rfl) ?_
          refine lv_aload_n hx hb dX3_write_162 rfl (lv_at hl 6 rfl) ?_
          refine w_get (ci := 3) (C := RX3) (T := TX3) (M := 24) (v := .ref (ad 9)) hx hb hts hi3 hown hK hw 0 (by omega) _ (mF_0 _) rfl 23 (by decide) (hts (.fieldLink RX3 41 "WideningArrayModel" "parity" "[I") (by decide +kernel)) rfl dX3_write_163 ?_
          refine lv_iload hx hb dX3_write_166 (lv_at hl 2 rfl) ?_
          refine w_iald hx hb hK hw 9 4 (by omega) (fun _ => rfl) (i := i) (by omega) (by decide) dX3_write_168 ?_
          refine n_is (show V 9 i = xa (fun e => chg TT own wi v e i) j from hin.2.2.1) ?_
          refine lv_iload hx hb dX3_write_169 (lv_at hl 0 rfl) ?_
          refine lv_ixor hx hb dX3_write_171 ?_
          refine w_iast hx hb hK hw 9 4 (by omega) (fun _ => rfl) (i := i) (by omega) (by decide) dX3_write_172 (fun H locs hw => ?_)
          obtain ⟨V_9, hV_9⟩ : ∃ z : vT, z = u2 V 9 i ((xa (fun e => chg TT own wi v e i) j) ^^^ (chg TT own wi v j i)) := ⟨_, rfl⟩
          rw [← hV_9] at hw
          refine lv_aload_n hx hb dX3_write_173 rfl (lv_at hl 6 rfl) ?_
          refine w_get (ci := 3) (C := RX3) (T := TX3) (M := 24) (v := .ref (ad 8)) hx hb hts hi3 hown hK hw 0 (by omega) _ (mF_0 _) rfl 22 (by decide) (hts (.fieldLink RX3 38 "WideningArrayModel" "block" "[I") (by decide +kernel)) rfl dX3_write_174 ?_
          refine lv_iload hx hb dX3_write_177 (lv_at hl 2 rfl) ?_
          refine lv_iload hx hb dX3_write_179 (lv_at hl 1 rfl) ?_
          refine lv_iload hx hb dX3_write_181 (lv_at hl 5 rfl) ?_
          refine n_icmp_ne (tgt := 191) hx hb dX3_write_183 (by decide) (by omega) (by omega) (fun c_183 => ?_) (fun c_183 => ?_)
          · first | exact absurd c_183 c_139 | exact absurd c_139 c_183
          · refine lv_iload hx hb dX3_write_186 (lv_at hl 0 rfl) ?_
            refine lv_goto (tgt := 198) hx hb dX3_write_188 (by decide) ?_
            refine w_iast hx hb hK hw 8 4 (by omega) (fun _ => rfl) (i := i) (by omega) (by decide) dX3_write_198 (fun H locs hw => ?_)
            obtain ⟨V_10, hV_10⟩ : ∃ z : vT, z = u2 V_9 8 i (chg TT own wi v j i) := ⟨_, rfl⟩
            rw [← hV_10] at hw
            refine lv_iinc (v := nI (j + 1)) (lv' := [(8, .int (nI (j + 1))), (9, .int (chg TT own wi v j i)), (7, .int (nI i)), (4, .int (nI k)), (5, .int (nI row)), (6, .int (nI own)), (0, .ref (ad 0)), (2, .int (nI wi)), (3, .int v)]) hx hb dX3_write_199 hl (k := 1) rfl (nI_1 _) (by decide) rfl (fun ls hl => ?_)
            refine lv_goto (tgt := 105) hx hb dX3_write_202 (by decide) ?_
            have hin' : (∀ a, a ≠ 8 → a ≠ 9 → V_10 a = V0 a) ∧ (∀ t, t ≠ i → V_10 8 t = V0 8 t ∧ V_10 9 t = V0 9 t) ∧ V_10 9 i = xa (fun e => chg TT own wi v e i) (j + 1) ∧ (own < j + 1 → V_10 8 i = chg TT own wi v own i) := by
              refine ⟨fun a q8 q9 => by rw [hV_10, u2_r _ _ q8, hV_9, u2_r _ _ q9]; exact hin.1 a q8 q9, fun t ht => ⟨by rw [hV_10, u2_n _ _ (Or.inr ht), hV_9, u2_r _ _ (by decide)]; exact (hin.2.1 t ht).1, by rw [hV_10, u2_r _ _ (by decide), hV_9, u2_n _ _ (Or.inr ht)]; exact (hin.2.1 t ht).2⟩, by rw [hV_10, u2_r _ _ (by decide), hV_9, u2_s]; rfl, fun hlt => by rw [hV_10, u2_s, c_139]⟩
            exact ih (j + 1) _ _ _ ls (by omega) hin' hw (lv_sub hl [0, 2, 3, 4, 5, 6, 7, 8] rfl)
set_option maxHeartbeats 4000000 in
set_option maxRecDepth 100000 in
theorem lp_X3_write_i {p : Program} {l : Launch} {e : Env} {s : State} {m : MethodId} {args : Array Value} {below : List Frame} {meth : Method} {c : Code} {Q : State → Prop} {D : va_G} {cI cD : ClassId} {ad : Nat → Nat} (hx : p.tables.exec = Jvm.exec) (hb : c.code = cX3_write) (hts : ∀ w ∈ wsX3_write, w.before args s = true) (hown : s.vm.findClass RX3 = some m.cls) (hml : c.maxLocals = 10) (hK : kK D cI cD s) (V0 : vT) (k row own wi : Nat) (v : Int32) (TT : Nat → Nat → Int32) (hTT : ∀ j i, told (mw V0) (ab (V0 0 8) (V0 0 9)) k row (dd k row j) i = TT j i) (hk3 : 3 ≤ k) (hk6 : k ≤ 6) (hrow : row < 40) (how9 : own < k - 1) (hwi : wi < 4) (hlf : V0 0 8 = -1 ∨ V0 0 9 = -1) (hk : ∀ (V1 : vT) (H1 : Heap) (locs1 : List Loc) (ls : Array Slot), ((∀ a, a ≠ 8 → a ≠ 9 → V1 a = V0 a) ∧ ∀ t, t < 4 → V1 9 t = xa (fun e => chg TT own wi v e t) (k - 1) ∧ V1 8 t = chg TT own wi v own t) → wS D 10 ad (mF cI ad) s.heap V1 H1 locs1 → lv_has ls 10 [(4, .int (nI k)), (5, .int (nI row)), (6, .int (nI own)), (0, .ref (ad 0)), (2, .int (nI wi)), (3, .int v)] → W p l e ({ frames := 3, cells := 0, slots := 0, locals := 69 }) s m args below meth c H1 locs1 0 0 Q (F0 m 211 ls [])) : ∀ (n i : Nat) (V : vT) (H : Heap) (locs : List Loc) (ls : Array Slot), (i + n = 4) → ((∀ a, a ≠ 8 → a ≠ 9 → V a = V0 a) ∧ ∀ t, t < i → V 9 t = xa (fun e => chg TT own wi v e t) (k - 1) ∧ V 8 t = chg TT own wi v own t) → wS D 10 ad (mF cI ad) s.heap V H locs → lv_has ls 10 [(7, .int (nI i)), (4, .int (nI k)), (5, .int (nI row)), (6, .int (nI own)), (0, .ref (ad 0)), (2, .int (nI wi)), (3, .int v)] → W p l e ({ frames := 3, cells := 0, slots := 0, locals := 69 }) s m args below meth c H locs 0 0 Q (F0 m 88 ls []) := by
  have hi3 : ∀ w ∈ wsX30, w ∈ wsX3_write := by decide +kernel
  intro n
  induction n with
  | zero =>
    intro i V H locs ls hjn hin hw hl
    refine lv_iload hx hb dX3_write_88 (lv_at hl 0 rfl) ?_
    refine lv_iconst (v := nI 4) hx hb dX3_write_90 (by decide) ?_
    refine n_icmp_ge (tgt := 211) hx hb dX3_write_91 (by decide) (by omega) (by omega) (fun c_91 => ?_) (fun c_91 => ?_)
    · have e1 : i = 4 := by omega
      subst e1
      exact hk V H locs ls hin hw (lv_sub hl [1, 2, 3, 4, 5, 6] rfl)
    · exfalso
      omega
  | succ n ih =>
    intro i V H locs ls hjn hin hw hl
    refine lv_iload hx hb dX3_write_88 (lv_at hl 0 rfl) ?_
    refine lv_iconst (v := nI 4) hx hb dX3_write_90 (by decide) ?_
    refine n_icmp_ge (tgt := 211) hx hb dX3_write_91 (by decide) (by omega) (by omega) (fun c_91 => ?_) (fun c_91 => ?_)
    · exfalso
      omega
    · refine lv_aload_n hx hb dX3_write_94 rfl (lv_at hl 4 rfl) ?_
      refine w_get (ci := 3) (C := RX3) (T := TX3) (M := 24) (v := .ref (ad 9)) hx hb hts hi3 hown hK hw 0 (by omega) _ (mF_0 _) rfl 23 (by decide) (hts (.fieldLink RX3 41 "WideningArrayModel" "parity" "[I") (by decide +kernel)) rfl dX3_write_95 ?_
      refine lv_iload hx hb dX3_write_98 (lv_at hl 0 rfl) ?_
      refine lv_iconst (v := nI 0) hx hb dX3_write_100 (by decide) ?_
      refine w_iast hx hb hK hw 9 4 (by omega) (fun _ => rfl) (i := i) (by omega) (by decide) dX3_write_101 (fun H locs hw => ?_)
      obtain ⟨V_1, hV_1⟩ : ∃ z : vT, z = u2 V 9 i (nI 0) := ⟨_, rfl⟩
      rw [← hV_1] at hw
      refine lv_iconst (v := nI 0) hx hb dX3_write_102 (by decide) ?_
      refine lv_istore (lv' := [(8, .int (nI 0)), (7, .int (nI i)), (4, .int (nI k)), (5, .int (nI row)), (6, .int (nI own)), (0, .ref (ad 0)), (2, .int (nI wi)), (3, .int v)]) hx hb dX3_write_103 hl (by decide) rfl (fun ls hl => ?_)
      have ha1 : ∀ a, a ≠ 8 → a ≠ 9 → V_1 a = V0 a := fun a q8 q9 => by rw [hV_1, u2_r _ _ q9]; exact hin.1 a q8 q9
      refine lp_X3_write_j hx hb hts hown hml hK V_1 k row own wi v TT (fun j i => (told_m (ha1 1 (by decide) (by decide)) (ha1 0 (by decide) (by decide))).trans (hTT j i)) hk3 hk6 hrow how9 hwi (by rw [ha1 0 (by decide) (by decide)]; exact hlf) i (by omega) (fun V_J H locs ls hJ hw hl => ?_) (k - 1) 0 V_1 _ _ ls (by omega) ⟨fun _ _ _ => rfl, fun _ _ => ⟨rfl, rfl⟩, by rw [hV_1, u2_s]; rfl, fun h => absurd h (by omega)⟩ hw (lv_sub hl [0, 1, 2, 3, 4, 5, 6, 7] rfl)
      refine lv_iinc (v := nI (i + 1)) (lv' := [(7, .int (nI (i + 1))), (4, .int (nI k)), (5, .int (nI row)), (6, .int (nI own)), (0, .ref (ad 0)), (2, .int (nI wi)), (3, .int v)]) hx hb dX3_write_205 hl (k := 0) rfl (nI_1 _) (by decide) rfl (fun ls hl => ?_)
      refine lv_goto (tgt := 88) hx hb dX3_write_208 (by decide) ?_
      have hin' : (∀ a, a ≠ 8 → a ≠ 9 → V_J a = V0 a) ∧ ∀ t, t < i + 1 → V_J 9 t = xa (fun e => chg TT own wi v e t) (k - 1) ∧ V_J 8 t = chg TT own wi v own t := by
        refine ⟨fun a q8 q9 => (hJ.1 a q8 q9).trans (ha1 a q8 q9), fun t ht => ?_⟩
        by_cases z : t = i
        · rw [z]; exact ⟨hJ.2.2.1, hJ.2.2.2 how9⟩
        · rw [(hJ.2.1 t z).1, (hJ.2.1 t z).2, hV_1, u2_n _ _ (Or.inr z), u2_r _ _ (by decide)]
          exact hin.2 t (by omega)
      exact ih (i + 1) _ _ _ ls (by omega) hin' hw (lv_sub hl [0, 1, 2, 3, 4, 5, 6] rfl)
set_option maxHeartbeats 4000000 in
set_option maxRecDepth 100000 in
theorem lp_X3_write_c {p : Program} {l : Launch} {e : Env} {s : State} {m : MethodId} {args : Array Value} {below : List Frame} {meth : Method} {c : Code} {Q : State → Prop} {D : va_G} {cI cD : ClassId} {ad : Nat → Nat} (hx : p.tables.exec = Jvm.exec) (hb : c.code = cX3_write) (hts : ∀ w ∈ wsX3_write, w.before args s = true) (hown : s.vm.findClass RX3 = some m.cls) (hml : c.maxLocals = 10) (hK : kK D cI cD s) (V0 : vT) (k row : Nat) (hk : ∀ (V1 : vT) (H1 : Heap) (locs1 : List Loc) (ls : Array Slot), ((∀ a, a ≠ 8 → V1 a = V0 a) ∧ ∀ t, t < 4 → V1 8 t = V0 9 t) → wS D 10 ad (mF cI ad) s.heap V1 H1 locs1 → lv_has ls 10 [(4, .int (nI k)), (5, .int (nI row)), (0, .ref (ad 0))] → W p l e ({ frames := 3, cells := 0, slots := 0, locals := 69 }) s m args below meth c H1 locs1 0 0 Q (F0 m 255 ls [])) : ∀ (n9 i : Nat) (V : vT) (H : Heap) (locs : List Loc) (ls : Array Slot), (i + n9 = 4) → ((∀ a, a ≠ 8 → V a = V0 a) ∧ ∀ t, t < i → V 8 t = V0 9 t) → wS D 10 ad (mF cI ad) s.heap V H locs → lv_has ls 10 [(7, .int (nI i)), (4, .int (nI k)), (5, .int (nI row)), (0, .ref (ad 0))] → W p l e ({ frames := 3, cells := 0, slots := 0, locals := 69 }) s m args below meth c H locs 0 0 Q (F0 m 229 ls []) := by
  have hi3 : ∀ w ∈ wsX30, w ∈ wsX3_write := by decide +kernel
  intro n9
  induction n9 with
  | zero =>
    intro i V H locs ls hjn hin hw hl
    refine lv_iload hx hb dX3_write_229 (lv_at hl 0 rfl) ?_
    refine lv_iconst (v := nI 4) hx hb dX3_write_231 (by decide) ?_
    refine n_icmp_ge (tgt := 255) hx hb dX3_write_232 (by decide) (by omega) (by omega) (fun c_232 => ?_) (fun c_232 => ?_)
    · have e1 : i = 4 := by omega
      subst e1
      exact hk V H locs ls hin hw (lv_sub hl [1, 2, 3] rfl)
    · exfalso
      omega
  | succ n9 ih =>
    intro i V H locs ls hjn hin hw hl
    refine lv_iload hx hb dX3_write_229 (lv_at hl 0 rfl) ?_
    refine lv_iconst (v := nI 4) hx hb dX3_write_231 (by decide) ?_
    refine n_icmp_ge (tgt := 255) hx hb dX3_write_232 (by decide) (by omega) (by omega) (fun c_232 => ?_) (fun c_232 => ?_)
    · exfalso
      omega
    · refine lv_aload_n hx hb dX3_write_235 rfl (lv_at hl 3 rfl) ?_
      refine w_get (ci := 3) (C := RX3) (T := TX3) (M := 24) (v := .ref (ad 8)) hx hb hts hi3 hown hK hw 0 (by omega) _ (mF_0 _) rfl 22 (by decide) (hts (.fieldLink RX3 38 "WideningArrayModel" "block" "[I") (by decide +kernel)) rfl dX3_write_236 ?_
      refine lv_iload hx hb dX3_write_239 (lv_at hl 0 rfl) ?_
      refine lv_aload_n hx hb dX3_write_241 rfl (lv_at hl 3 rfl) ?_
      refine w_get (ci := 3) (C := RX3) (T := TX3) (M := 24) (v := .ref (ad 9)) hx hb hts hi3 hown hK hw 0 (by omega) _ (mF_0 _) rfl 23 (by decide) (hts (.fieldLink RX3 41 "WideningArrayModel" "parity" "[I") (by decide +kernel)) rfl dX3_write_242 ?_
      refine lv_iload hx hb dX3_write_245 (lv_at hl 0 rfl) ?_
      refine w_iald hx hb hK hw 9 4 (by omega) (fun _ => rfl) (i := i) (by omega) (by decide) dX3_write_247 ?_
      refine w_iast hx hb hK hw 8 4 (by omega) (fun _ => rfl) (i := i) (by omega) (by decide) dX3_write_248 (fun H locs hw => ?_)
      obtain ⟨V_1, hV_1⟩ : ∃ z : vT, z = u2 V 8 i (V 9 i) := ⟨_, rfl⟩
      rw [← hV_1] at hw
      refine lv_iinc (v := nI (i + 1)) (lv' := [(7, .int (nI (i + 1))), (4, .int (nI k)), (5, .int (nI row)), (0, .ref (ad 0))]) hx hb dX3_write_249 hl (k := 0) rfl (nI_1 _) (by decide) rfl (fun ls hl => ?_)
      refine lv_goto (tgt := 229) hx hb dX3_write_252 (by decide) ?_
      exact ih (i + 1) _ _ _ ls (by omega) ⟨fun a ha => by rw [hV_1, u2_r _ _ ha]; exact hin.1 a ha, fun t ht => by by_cases z : t = i; (· rw [z, hV_1, u2_s, hin.1 9 (by decide)]); (· rw [hV_1, u2_n _ _ (Or.inr z)]; exact hin.2 t (by omega))⟩ hw (lv_sub hl [0, 1, 2, 3] rfl)
set_option maxHeartbeats 4000000 in
set_option maxRecDepth 100000 in
theorem c_X3_write (l : Launch) (D : va_G) (cI cD : ClassId) (ad : Nat → Nat) (sz : Nat) (V : vT) (ct : Nat → Nat → Int32) (md fd : Bool) (n : Nat) (wide : Bool) (dn : Nat) (st : Bool) (num : Nat) (lost fresh : Int32) (fp : Nat) (sh : Int32) (hR : mR V (ct, (md, fd), (n, wide, dn, st, num), (lost, fresh), (fp, sh))) (B : Nat) (hB : B < 10000) (hWF : WF B (ct, (md, fd), (n, wide, dn, st, num), (lost, fresh), (fp, sh))) (b i v : Int32) : Met l yX3_write wsX3_write ({ frames := 3, cells := 0, slots := 0, locals := 69 }) (gP D cI cD 10 ad (mF cI ad) sz V [.ref (ad 0), .int b, .int i, .int v]) (va_Qi (fun (r : Int32) (V1 : vT) => V1 0 0 = nI (oWrite (ct, (md, fd), (n, wide, dn, st, num), (lost, fresh), (fp, sh)) b i v).1 ∧ ((oWrite (ct, (md, fd), (n, wide, dn, st, num), (lost, fresh), (fp, sh)) b i v).1 = 0 → (oWrite (ct, (md, fd), (n, wide, dn, st, num), (lost, fresh), (fp, sh)) b i v).2.1 = r) ∧ mR V1 (oWrite (ct, (md, fd), (n, wide, dn, st, num), (lost, fresh), (fp, sh)) b i v).2.2) (gB D 10 ad (mF cI ad)) (gA 10 ad sz)) 0 0 (gA 10 ad sz) := by
  refine w_met (cc := cX3_write) (maxL := 10) (ret := (some .boolean)) (by decide) rfl (Nat.le_of_ble_eq_true rfl) ?_
  intro p e s m below meth c hx hb hr hts hown hlocks hml hsz hK hw ls hl
  subst hsz
  have hown : s.vm.findClass RX3 = some m.cls := hown
  have hi3 : ∀ w ∈ wsX30, w ∈ wsX3_write := by decide +kernel
  have hl : lv_has ls 10 [(0, .ref (ad 0)), (1, .int b), (2, .int i), (3, .int v)] := hl
  obtain ⟨⟨hmd, hlo, hfr, hsh, hz6, hmc⟩, hfd, har, hfa⟩ := hR.pt
  refine lv_aload_n hx hb dX3_write_0 rfl (lv_at hl 0 rfl) ?_
  refine w_calli hw (va_runV (As := []) (rest := []) ⟨hx, hb, hml, hown, hts⟩ (c_X3_works l D cI cD ad _ V md hmd fd hfd) (cwV 0 hts gX3_write_X3_works rfl rfl rfl (by decide +kernel) ⟨Nat.le_of_ble_eq_true rfl, Nat.le_of_ble_eq_true rfl⟩) (w_preV hK hw (by omega) (mF_0 _) rfl _) rfl rfl hl.1 rfl (lv_room (Nat.le_of_ble_eq_true rfl)) dX3_write_1 ⟨Nat.le_of_ble_eq_true rfl, Nat.le_of_ble_eq_true rfl⟩) (fun r_2 V_1 H locs hp hw => ?_)
  obtain ⟨hW9, e8⟩ := hp
  subst e8
  refine lv_if_ne (tgt := 9) hx hb dX3_write_4 (by decide) (fun c_4 => ?_) (fun c_4 => ?_)
  · have e12 := of_decide_eq_true (bI_n0.mp c_4)
    obtain ⟨e1, e2⟩ := id e12
    rw [if_pos e12] at hW9
    have h00 : V_1 0 0 = nI 0 := by rw [hW9, u2_s]
    have hR := mR_u0 hR hW9
    obtain ⟨⟨hmd, hlo, hfr, hsh, hz6, hmc⟩, hfd, har, hfa⟩ := hR.pt
    obtain ⟨hn, hdn, hnum, hwd, hst⟩ := hR.sv e1 e2
    obtain ⟨hn3, hn6, hwn, hd32, hsw, hnum1, hnumB, hlo9, hfr9, hlf9, hfp9, hex9⟩ := hWF.sv e1 e2
    have hkw6 := kw_le hn6 hwn
    have hkwn := kw_ge (n := n) (wide := wide)
    have hlf : V_1 0 8 = -1 ∨ V_1 0 9 = -1 := by rw [hlo, hfr]; exact hlf9
    have h8 : V_1 0 8 = -1 ∨ ∃ d, d < 10 ∧ V_1 0 8 = nI d := by rw [hlo]; exact hlo9.imp id (fun ⟨d, hd, e⟩ => ⟨d, by omega, e⟩)
    have h9 : V_1 0 9 = -1 ∨ ∃ d, d < 10 ∧ V_1 0 9 = nI d := by rw [hfr]; exact hfr9.imp id (fun ⟨d, hd, e⟩ => ⟨d, by omega, e⟩)
    refine lv_aload_n hx hb dX3_write_9 rfl (lv_at hl 0 rfl) ?_
    refine lv_iload_n hx hb dX3_write_10 rfl (lv_at hl 1 rfl) ?_
    refine lv_iload_n hx hb dX3_write_11 rfl (lv_at hl 2 rfl) ?_
    refine w_calli hw (va_runV (As := [.int b, .int i]) (rest := []) ⟨hx, hb, hml, hown, hts⟩ (c_X3_isWord l D cI cD ad _ V_1 n (show V_1 0 3 = nI n from hn) hn3 hn6 b i) (cwV 2 hts gX3_write_X3_isWord rfl rfl rfl (by decide +kernel) ⟨Nat.le_of_ble_eq_true rfl, Nat.le_of_ble_eq_true rfl⟩) (w_preV hK hw (by omega) (mF_0 _) rfl _) rfl rfl hl.1 rfl (lv_room (Nat.le_of_ble_eq_true rfl)) dX3_write_12 ⟨Nat.le_of_ble_eq_true rfl, Nat.le_of_ble_eq_true rfl⟩) (fun r_4 V_3 H locs hp hw => ?_)
    obtain ⟨e9, e8⟩ := hp
    subst e9
    subst e8
    refine lv_if_ne (tgt := 32) hx hb dX3_write_15 (by decide) (fun c_15 => ?_) (fun c_15 => ?_)
    · have e7 := of_decide_eq_true (bI_n0.mp c_15)
      have e3 : ¬ b < 0 := fun h => e7 (Or.inl h)
      have e4 : ¬ nI (32 * (n - 1)) ≤ b := fun h => e7 (Or.inr (Or.inl h))
      have e5 : ¬ i < 0 := fun h => e7 (Or.inr (Or.inr (Or.inl h)))
      have e6 : i < nI 4 := Decidable.not_not.mp (fun h => e7 (Or.inr (Or.inr (Or.inr h))))
      obtain ⟨bb, hbb, e10, -⟩ := pk_mu e3 e4 (by omega)
      subst e10
      obtain ⟨ii, hii, e11⟩ := nI_in2 e5 e6 (by decide)
      subst e11
      refine lv_aload_n hx hb dX3_write_32 rfl (lv_at hl 0 rfl) ?_
      refine lv_iload_n hx hb dX3_write_33 rfl (lv_at hl 1 rfl) ?_
      refine w_calli hw (va_runV (As := [.int (nI bb)]) (rest := []) ⟨hx, hb, hml, hown, hts⟩ (c_X3_isInWindow l D cI cD ad _ V_1 n (show V_1 0 3 = nI n from hn) dn (show V_1 0 4 = nI dn from hdn) st (show V_1 0 7 = bI st from hst) (by omega) (by omega) (by omega) wide hsw bb (by omega)) (cwV 1 hts gX3_write_X3_isInWindow rfl rfl rfl (by decide +kernel) ⟨Nat.le_of_ble_eq_true rfl, Nat.le_of_ble_eq_true rfl⟩) (w_preV hK hw (by omega) (mF_0 _) rfl _) rfl rfl hl.1 rfl (lv_room (Nat.le_of_ble_eq_true rfl)) dX3_write_34 ⟨Nat.le_of_ble_eq_true rfl, Nat.le_of_ble_eq_true rfl⟩) (fun r_6 V_5 H locs hp hw => ?_)
      obtain ⟨e9, e8⟩ := hp
      subst e9
      subst e8
      refine lv_if_eq (tgt := 42) hx hb dX3_write_37 (by decide) (fun c_37 => ?_) (fun c_37 => ?_)
      · have hp9 : ¬ plc n wide dn st bb = 2 := of_decide_eq_false (bI_0.mp c_37)
        refine lv_aload_n hx hb dX3_write_42 rfl (lv_at hl 0 rfl) ?_
        refine w_callv hw (va_runV (As := []) (rest := []) ⟨hx, hb, hml, hown, hts⟩ (c_X3_begin l D cI cD ad _ V_1) (cwV 0 hts gX3_write_X3_begin rfl rfl rfl (by decide +kernel) ⟨Nat.le_of_ble_eq_true rfl, Nat.le_of_ble_eq_true rfl⟩) (w_preV hK hw (by omega) (mF_0 _) rfl _) rfl rfl hl.1 rfl (lv_room (Nat.le_of_ble_eq_true rfl)) dX3_write_43 ⟨Nat.le_of_ble_eq_true rfl, Nat.le_of_ble_eq_true rfl⟩) (fun V_7 H locs hp hw => ?_)
        have hB9 := hp
        clear hp
        have hsl9 : ∀ j, j ≤ 12 → V_7 0 j = V_1 0 j := fun j hj => hB9.2.1 j (by omega) (by omega)
        have h00 : V_7 0 0 = nI 0 := (hsl9 0 (by decide)).trans h00
        have hR : mR V_7 (ct, (md, fd), (n, wide, dn, st, num), (lost, fresh), (fp, sh)) := hR.frame (hB9.1 1 (by decide)) (hB9.1 2 (by decide)) hsl9
        obtain ⟨⟨hmd, hlo, hfr, hsh, hz6, hmc⟩, hfd, har, hfa⟩ := hR.pt
        obtain ⟨hn, hdn, hnum, hwd, hst⟩ := hR.sv e1 e2
        have hlf : V_7 0 8 = -1 ∨ V_7 0 9 = -1 := by rw [hlo, hfr]; exact hlf9
        have hp13 := hB9.2.2.1
        have hQ := gQ_nil hB9.2.2.2
        refine lv_aload_n hx hb dX3_write_46 rfl (lv_at hl 0 rfl) ?_
        refine lv_iload_n hx hb dX3_write_47 rfl (lv_at hl 1 rfl) ?_
        refine w_calli hw (va_runV (As := [.int (nI bb)]) (rest := []) ⟨hx, hb, hml, hown, hts⟩ (c_X3_isNew l D cI cD ad _ V_7 n (show V_7 0 3 = nI n from hn) dn (show V_7 0 4 = nI dn from hdn) wide (show V_7 0 6 = bI wide from hwd) (by omega) (by omega) (by omega) st bb (by omega)) (cwV 1 hts gX3_write_X3_isNew rfl rfl rfl (by decide +kernel) ⟨Nat.le_of_ble_eq_true rfl, Nat.le_of_ble_eq_true rfl⟩) (w_preV hK hw (by omega) (mF_0 _) rfl _) rfl rfl hl.1 rfl (lv_room (Nat.le_of_ble_eq_true rfl)) dX3_write_48 ⟨Nat.le_of_ble_eq_true rfl, Nat.le_of_ble_eq_true rfl⟩) (fun r_9 V_8 H locs hp hw => ?_)
        obtain ⟨e9, e8⟩ := hp
        subst e9
        subst e8
        refine lv_if_eq (tgt := 63) hx hb dX3_write_51 (by decide) (fun c_51 => ?_) (fun c_51 => ?_)
        · have h1 : ¬ plc n wide dn st bb = 1 := of_decide_eq_false (bI_0.mp c_51)
          have hkO : kOf n wide dn st bb = n := by rw [kOf, if_neg h1]
          have hrw : bb / (n - 1) < 40 := plc_row hn3 (k := n) hbb (by omega) (by omega)
          have hbm := Nat.mod_lt bb (show 0 < n - 1 by omega)
          refine lv_aload_n hx hb dX3_write_63 rfl (lv_at hl 0 rfl) ?_
          refine w_get (ci := 3) (C := RX3) (T := TX3) (M := 24) (v := .int (nI n)) hx hb hts hi3 hown hK hw 0 (by omega) _ (mF_0 _) rfl 3 (by decide) (hts (.fieldLink RX3 57 "WideningArrayModel" "n" "I") (by decide +kernel)) (congrArg (fun z => some (Value.int z)) (show V_7 0 3 = nI n from hn)) dX3_write_64 ?_
          refine lv_istore (lv' := [(4, .int (nI n)), (0, .ref (ad 0)), (1, .int (nI bb)), (2, .int (nI ii)), (3, .int v)]) hx hb dX3_write_67 hl (by decide) rfl (fun ls hl => ?_)
          refine lv_iload_n hx hb dX3_write_69 rfl (lv_at hl 2 rfl) ?_
          refine lv_iload hx hb dX3_write_70 (lv_at hl 0 rfl) ?_
          refine lv_iconst (v := nI 1) hx hb dX3_write_72 (by decide) ?_
          refine n_sub hx hb dX3_write_73 (by omega) ?_
          refine n_div hx hb dX3_write_74 (by omega) (by omega) (by omega) ?_
          refine lv_istore (lv' := [(5, .int (nI (bb / (n - 1)))), (4, .int (nI n)), (0, .ref (ad 0)), (1, .int (nI bb)), (2, .int (nI ii)), (3, .int v)]) hx hb dX3_write_75 hl (by decide) rfl (fun ls hl => ?_)
          refine lv_iload_n hx hb dX3_write_77 rfl (lv_at hl 3 rfl) ?_
          refine lv_iload hx hb dX3_write_78 (lv_at hl 1 rfl) ?_
          refine lv_iconst (v := nI 1) hx hb dX3_write_80 (by decide) ?_
          refine n_sub hx hb dX3_write_81 (by omega) ?_
          refine n_rem hx hb dX3_write_82 (by omega) (by omega) (by omega) ?_
          refine lv_istore (lv' := [(6, .int (nI (bb % (n - 1)))), (5, .int (nI (bb / (n - 1)))), (4, .int (nI n)), (0, .ref (ad 0)), (1, .int (nI bb)), (2, .int (nI ii)), (3, .int v)]) hx hb dX3_write_83 hl (by decide) rfl (fun ls hl => ?_)
          refine lv_iconst (v := nI 0) hx hb dX3_write_85 (by decide) ?_
          refine lv_istore (lv' := [(7, .int (nI 0)), (6, .int (nI (bb % (n - 1)))), (5, .int (nI (bb / (n - 1)))), (4, .int (nI n)), (0, .ref (ad 0)), (1, .int (nI bb)), (2, .int (nI ii)), (3, .int v)]) hx hb dX3_write_86 hl (by decide) rfl (fun ls hl => ?_)
          obtain ⟨row9, hrow9⟩ : ∃ z : Nat, z = bb / (n - 1) := ⟨_, rfl⟩
          obtain ⟨own9, hown9⟩ : ∃ z : Nat, z = bb % (n - 1) := ⟨_, rfl⟩
          rw [← hrow9] at hrw hl
          rw [← hown9] at hbm hl
          obtain ⟨TT, hTT⟩ : ∃ T : Nat → Nat → Int32, ∀ j i, told (mw V_7) (ab (V_7 0 8) (V_7 0 9)) n row9 (dd n row9 j) i = T j i := ⟨_, fun _ _ => rfl⟩
          refine lp_X3_write_i hx hb hts hown hml hK V_7 n row9 own9 ii v TT hTT (by omega) (by omega) hrw hbm hii hlf (fun V_I H locs ls hI hw hl => ?_) 4 0 V_7 _ _ ls (by omega) ⟨fun _ _ _ => rfl, fun t ht => absurd ht (by omega)⟩ hw (lv_sub hl [0, 3, 2, 1, 4, 6, 7] rfl)
          have hTc : ∀ j i, j < n - 1 → i < 4 → TT j i = told ct (ab lost fresh) n row9 (dd n row9 j) i := fun j i hj hi => by rw [← hTT j i, hlo, hfr]; exact told_congr (wc_M hR.1) (by omega) hrw (by have := dd_lt (k := n) (row := row9) (j := j) (by omega); omega) hi
          have hsl9 : ∀ j, j ≤ 12 → V_I 0 j = V_7 0 j := fun j hj => by rw [hI.1 0 (by decide) (by decide)]
          have h00 : V_I 0 0 = nI 0 := (hsl9 0 (by decide)).trans h00
          have hR : mR V_I (ct, (md, fd), (n, wide, dn, st, num), (lost, fresh), (fp, sh)) := hR.frame (hI.1 1 (by decide) (by decide)) (hI.1 2 (by decide) (by decide)) hsl9
          obtain ⟨⟨hmd, hlo, hfr, hsh, hz6, hmc⟩, hfd, har, hfa⟩ := hR.pt
          obtain ⟨hn, hdn, hnum, hwd, hst⟩ := hR.sv e1 e2
          have hlf : V_I 0 8 = -1 ∨ V_I 0 9 = -1 := by rw [hlo, hfr]; exact hlf9
          have hp13 := (congrFun (hI.1 0 (by decide) (by decide)) 13).trans hp13
          have hQ := gQ_congr (V1 := V_I) (by rw [hI.1 0 (by decide) (by decide)]) (hI.1 3 (by decide) (by decide)) (hI.1 4 (by decide) (by decide)) (hI.1 5 (by decide) (by decide)) hQ
          have hdd := dd_lt (k := n) (row := row9) (j := own9) (by omega)
          have hpd := pd_lt (k := n) (row := row9) (by omega)
          refine lv_aload_n hx hb dX3_write_211 rfl (lv_at hl 3 rfl) ?_
          refine lv_iload hx hb dX3_write_212 (lv_at hl 0 rfl) ?_
          refine lv_iload hx hb dX3_write_214 (lv_at hl 1 rfl) ?_
          refine lv_iload hx hb dX3_write_216 (lv_at hl 2 rfl) ?_
          refine w_calli hw (va_runS (As := [.int (nI n), .int (nI row9), .int (nI own9)]) (rest := [.ref (ad 0)]) ⟨hx, hb, hml, hown, hts⟩ (c_X3_dataDisk l D cI cD ad _ V_I n row9 own9 (by omega) (by omega) (by omega) (by omega)) (va_cwS 3 hts gX3_write_X3_dataDisk rfl rfl rfl (by decide +kernel) ⟨Nat.le_of_ble_eq_true rfl, Nat.le_of_ble_eq_true rfl⟩) (w_preS hK hw _) rfl rfl hl.1 rfl (lv_room (Nat.le_of_ble_eq_true rfl)) dX3_write_218 ⟨Nat.le_of_ble_eq_true rfl, Nat.le_of_ble_eq_true rfl⟩) (fun r_11 V_10 H locs hp hw => ?_)
          obtain ⟨e9, e8⟩ := hp
          subst e9
          subst e8
          refine lv_iload hx hb dX3_write_221 (lv_at hl 1 rfl) ?_
          refine w_callv hw (va_runV (As := [.int (nI (dd n row9 own9)), .int (nI row9)]) (rest := []) ⟨hx, hb, hml, hown, hts⟩ (c_X3_issueBlock l D cI cD ad _ V_I _ hQ (by simp) (dd n row9 own9) row9 (by omega) hrw) (cwV 2 hts gX3_write_X3_issueBlock rfl rfl rfl (by decide +kernel) ⟨Nat.le_of_ble_eq_true rfl, Nat.le_of_ble_eq_true rfl⟩) (w_preV hK hw (by omega) (mF_0 _) rfl _) rfl rfl hl.1 rfl (lv_room (Nat.le_of_ble_eq_true rfl)) dX3_write_223 ⟨Nat.le_of_ble_eq_true rfl, Nat.le_of_ble_eq_true rfl⟩) (fun V_12 H locs hp hw => ?_)
          obtain ⟨hQ, hI1, hI2⟩ := hp
          have hsl9 : ∀ j, j ≤ 12 → V_12 0 j = V_I 0 j := fun j hj => hI2 j (by omega)
          have h00 : V_12 0 0 = nI 0 := (hsl9 0 (by decide)).trans h00
          have hR : mR V_12 (ct, (md, fd), (n, wide, dn, st, num), (lost, fresh), (fp, sh)) := hR.frame (hI1 1 (by decide) (by decide) (by decide) (by decide)) (hI1 2 (by decide) (by decide) (by decide) (by decide)) hsl9
          obtain ⟨⟨hmd, hlo, hfr, hsh, hz6, hmc⟩, hfd, har, hfa⟩ := hR.pt
          obtain ⟨hn, hdn, hnum, hwd, hst⟩ := hR.sv e1 e2
          have hlf : V_12 0 8 = -1 ∨ V_12 0 9 = -1 := by rw [hlo, hfr]; exact hlf9
          have hp13 := (hI2 13 (by decide)).trans hp13
          refine lv_iconst (v := nI 0) hx hb dX3_write_226 (by decide) ?_
          refine lv_istore (lv' := [(7, .int (nI 0)), (4, .int (nI n)), (5, .int (nI row9)), (6, .int (nI own9)), (0, .ref (ad 0)), (2, .int (nI ii)), (3, .int v)]) hx hb dX3_write_227 hl (by decide) rfl (fun ls hl => ?_)
          have hI9 := hI1 9 (by decide) (by decide) (by decide) (by decide)
          refine lp_X3_write_c hx hb hts hown hml hK V_12 n row9 (fun V_K H locs ls hK9 hw hl => ?_) 4 0 V_12 _ _ ls (by omega) ⟨fun _ _ => rfl, fun t ht => absurd ht (by omega)⟩ hw (lv_sub hl [0, 1, 2, 4] rfl)
          have hsl9 : ∀ j, j ≤ 12 → V_K 0 j = V_12 0 j := fun j hj => by rw [hK9.1 0 (by decide)]
          have h00 : V_K 0 0 = nI 0 := (hsl9 0 (by decide)).trans h00
          have hR : mR V_K (ct, (md, fd), (n, wide, dn, st, num), (lost, fresh), (fp, sh)) := hR.frame (hK9.1 1 (by decide)) (hK9.1 2 (by decide)) hsl9
          obtain ⟨⟨hmd, hlo, hfr, hsh, hz6, hmc⟩, hfd, har, hfa⟩ := hR.pt
          obtain ⟨hn, hdn, hnum, hwd, hst⟩ := hR.sv e1 e2
          have hlf : V_K 0 8 = -1 ∨ V_K 0 9 = -1 := by rw [hlo, hfr]; exact hlf9
          have hp13 := (congrFun (hK9.1 0 (by decide)) 13).trans hp13
          have hQ := gQ_congr (V1 := V_K) (by rw [hK9.1 0 (by decide)]) (hK9.1 3 (by decide)) (hK9.1 4 (by decide)) (hK9.1 5 (by decide)) hQ
          refine lv_aload_n hx hb dX3_write_255 rfl (lv_at hl 2 rfl) ?_
          refine lv_iload hx hb dX3_write_256 (lv_at hl 0 rfl) ?_
          refine lv_iload hx hb dX3_write_258 (lv_at hl 1 rfl) ?_
          refine w_calli hw (va_runS (As := [.int (nI n), .int (nI row9)]) (rest := [.ref (ad 0)]) ⟨hx, hb, hml, hown, hts⟩ (c_X3_parityDisk l D cI cD ad _ V_K n row9 (by omega) (by omega) (by omega)) (va_cwS 2 hts gX3_write_X3_parityDisk rfl rfl rfl (by decide +kernel) ⟨Nat.le_of_ble_eq_true rfl, Nat.le_of_ble_eq_true rfl⟩) (w_preS hK hw _) rfl rfl hl.1 rfl (lv_room (Nat.le_of_ble_eq_true rfl)) dX3_write_260 ⟨Nat.le_of_ble_eq_true rfl, Nat.le_of_ble_eq_true rfl⟩) (fun r_14 V_13 H locs hp hw => ?_)
          obtain ⟨e9, e8⟩ := hp
          subst e9
          subst e8
          refine lv_iload hx hb dX3_write_263 (lv_at hl 1 rfl) ?_
          refine w_callv hw (va_runV (As := [.int (nI (pd n row9)), .int (nI row9)]) (rest := []) ⟨hx, hb, hml, hown, hts⟩ (c_X3_issueBlock l D cI cD ad _ V_K _ hQ (by simp) (pd n row9) row9 (by omega) hrw) (cwV 2 hts gX3_write_X3_issueBlock rfl rfl rfl (by decide +kernel) ⟨Nat.le_of_ble_eq_true rfl, Nat.le_of_ble_eq_true rfl⟩) (w_preV hK hw (by omega) (mF_0 _) rfl _) rfl rfl hl.1 rfl (lv_room (Nat.le_of_ble_eq_true rfl)) dX3_write_265 ⟨Nat.le_of_ble_eq_true rfl, Nat.le_of_ble_eq_true rfl⟩) (fun V_15 H locs hp hw => ?_)
          obtain ⟨hQ, hI1, hI2⟩ := hp
          have hsl9 : ∀ j, j ≤ 12 → V_15 0 j = V_K 0 j := fun j hj => hI2 j (by omega)
          have h00 : V_15 0 0 = nI 0 := (hsl9 0 (by decide)).trans h00
          have hR : mR V_15 (ct, (md, fd), (n, wide, dn, st, num), (lost, fresh), (fp, sh)) := hR.frame (hI1 1 (by decide) (by decide) (by decide) (by decide)) (hI1 2 (by decide) (by decide) (by decide) (by decide)) hsl9
          obtain ⟨⟨hmd, hlo, hfr, hsh, hz6, hmc⟩, hfd, har, hfa⟩ := hR.pt
          obtain ⟨hn, hdn, hnum, hwd, hst⟩ := hR.sv e1 e2
          have hlf : V_15 0 8 = -1 ∨ V_15 0 9 = -1 := by rw [hlo, hfr]; exact hlf9
          have hp13 := (hI2 13 (by decide)).trans hp13
          refine lv_aload_n hx hb dX3_write_268 rfl (lv_at hl 2 rfl) ?_
          refine lv_iconst (v := nI 1) hx hb dX3_write_269 (by decide) ?_
          refine n_is (show nI 1 = bI true from rfl) ?_
          have hQE : ∀ d, QEq (qOf (([] ++ [(dd n row9 own9, (some row9, V_I 8))]) ++ [(pd n row9, (some row9, V_K 8))]) d) (wrQ ct (ab lost fresh) n row9 own9 ii v d) := fun d => by
            rw [qOf_snoc]
            refine qAdd_QEq ?_ ⟨rfl, fun i _ h2 => h2.elim (fun q => absurd q (by simp)) (fun q => ?_)⟩
            · rw [qOf_snoc]
              refine qAdd_QEq trivial ⟨rfl, fun i _ h2 => h2.elim (fun q => absurd q (by simp)) (fun q => ?_)⟩
              show V_I 8 i = _
              rw [(hI.2 i q).2]
              unfold chg
              rw [hTc own9 i hbm q]
            · show V_K 8 i = _
              rw [hK9.2 i q, hI9, (hI.2 i q).1]
              refine xa_congr (fun e he => ?_)
              unfold chg
              rw [hTc e i (by omega) q]
          refine w_calli hw (va_runV (As := [.int (bI true)]) (rest := []) ⟨hx, hb, hml, hown, hts⟩ (c_X3_holds l D cI cD ad _ V_15 _ hQ (decide (¬ fp = 0)) har _ rfl sh hsh 0 hp13 (by rw [hfd, e2]) hlf true) (cwV 1 hts gX3_write_X3_holds rfl rfl rfl (by decide +kernel) ⟨Nat.le_of_ble_eq_true rfl, Nat.le_of_ble_eq_true rfl⟩) (w_preV hK hw (by omega) (mF_0 _) rfl _) rfl rfl hl.1 rfl (lv_room (Nat.le_of_ble_eq_true rfl)) dX3_write_270 ⟨Nat.le_of_ble_eq_true rfl, Nat.le_of_ble_eq_true rfl⟩) (fun r_17 V_16 H locs hp hw => ?_)
          rw [hfl_t] at hp
          have hH := hp
          clear hp
          have e8 := hH.1
          subst e8
          have hC : mR V_16 (eff (ab lost fresh) (decide (¬ fp = 0)) sh (wrQ ct (ab lost fresh) n row9 own9 ii v) ct, (md, decide (¬ fp = 0)), (n, wide, dn, st, num), (lost, fresh), (0, sh)) := mR_end (hH.mB hR.1 hQE) hH.2.2.1 hH.2.1 id (fun _ => hH.mN (hR.sv e1 e2))
          have h00 : V_16 0 0 = nI 0 := (hH.2.2.2.2.2.1 0 (by decide) (by decide) (by decide) (by decide)).trans h00
          have hL9 : oWrite (ct, (md, fd), (n, wide, dn, st, num), (lost, fresh), (fp, sh)) (nI bb) (nI ii) v = (if fp = 0 then 0 else 3, if fp = 0 then 1 else 0, (eff (ab lost fresh) (decide (¬ fp = 0)) sh (wrQ ct (ab lost fresh) n row9 own9 ii v) ct, (md, decide (¬ fp = 0)), (n, wide, dn, st, num), (lost, fresh), (0, sh))) := by
            rw [oWrite, ifS_y (a := (ct, (md, fd), (n, wide, dn, st, num), (lost, fresh), (fp, sh))) e1 e2]
            refine (if_neg e7).trans ?_
            rw [nI_clamp (show bb < 2 ^ 31 by omega), nI_clamp (show ii < 2 ^ 31 by omega), hkO, ← hrow9, ← hown9]
            exact if_neg hp9
          refine lv_if_ne (tgt := 284) hx hb dX3_write_273 (by decide) (fun c_273 => ?_) (fun c_273 => ?_)
          · refine lv_iconst (v := nI 1) hx hb dX3_write_284 (by decide) ?_
            refine lv_goto (tgt := 289) hx hb dX3_write_285 (by decide) ?_
            exact w_zret hx hb hr hlocks hw rfl (by have q9 : fp = 0 := (by have := bI_n0.mp c_273; simpa using this); rw [hL9, if_pos q9, if_pos q9]; exact ⟨h00, fun _ => rfl, hC⟩) dX3_write_289
          · refine lv_aload_n hx hb dX3_write_276 rfl (lv_at hl 2 rfl) ?_
            refine lv_iconst (v := nI 3) hx hb dX3_write_277 (by decide) ?_
            refine w_calli hw (va_runV (As := [.int (nI 3)]) (rest := []) ⟨hx, hb, hml, hown, hts⟩ (c_X3_fail l D cI cD ad _ V_16 (nI 3)) (cwV 1 hts gX3_write_X3_fail rfl rfl rfl (by decide +kernel) ⟨Nat.le_of_ble_eq_true rfl, Nat.le_of_ble_eq_true rfl⟩) (w_preV hK hw (by omega) (mF_0 _) rfl _) rfl rfl hl.1 rfl (lv_room (Nat.le_of_ble_eq_true rfl)) dX3_write_278 ⟨Nat.le_of_ble_eq_true rfl, Nat.le_of_ble_eq_true rfl⟩) (fun r_19 V_18 H locs hp hw => ?_)
            obtain ⟨e9f, e8⟩ := hp
            subst e8
            refine lv_if_le (tgt := 288) hx hb dX3_write_281 (by decide) (fun c_281 => ?_) (fun c_281 => ?_)
            · refine lv_iconst (v := nI 0) hx hb dX3_write_288 (by decide) ?_
              exact w_zret hx hb hr hlocks hw rfl (by have q9 : ¬ fp = 0 := (by have := bI_0.mp c_273; simpa using this); rw [hL9, if_neg q9]; exact ⟨by rw [e9f, u2_s], fun h => absurd (show (3 : Nat) = 0 from h) (by decide), mR_u0 hC e9f⟩) dX3_write_289
            · exact absurd (by decide) c_281
        · have h1 := of_decide_eq_true (bI_n0.mp c_51)
          have hn5 := hwn (plc1 h1).1
          have hkO : kOf n wide dn st bb = n + 1 := by rw [kOf, if_pos h1]
          have hrw : bb / ((n + 1) - 1) < 40 := plc_row hn3 (k := n + 1) hbb (by omega) (by omega)
          have hbm := Nat.mod_lt bb (show 0 < (n + 1) - 1 by omega)
          refine lv_aload_n hx hb dX3_write_54 rfl (lv_at hl 0 rfl) ?_
          refine w_get (ci := 3) (C := RX3) (T := TX3) (M := 24) (v := .int (nI n)) hx hb hts hi3 hown hK hw 0 (by omega) _ (mF_0 _) rfl 3 (by decide) (hts (.fieldLink RX3 57 "WideningArrayModel" "n" "I") (by decide +kernel)) (congrArg (fun z => some (Value.int z)) (show V_7 0 3 = nI n from hn)) dX3_write_55 ?_
          refine lv_iconst (v := nI 1) hx hb dX3_write_58 (by decide) ?_
          refine n_add hx hb dX3_write_59 ?_
          refine lv_goto (tgt := 67) hx hb dX3_write_60 (by decide) ?_
          refine lv_istore (lv' := [(4, .int (nI (n + 1))), (0, .ref (ad 0)), (1, .int (nI bb)), (2, .int (nI ii)), (3, .int v)]) hx hb dX3_write_67 hl (by decide) rfl (fun ls hl => ?_)
          refine lv_iload_n hx hb dX3_write_69 rfl (lv_at hl 2 rfl) ?_
          refine lv_iload hx hb dX3_write_70 (lv_at hl 0 rfl) ?_
          refine lv_iconst (v := nI 1) hx hb dX3_write_72 (by decide) ?_
          refine n_sub hx hb dX3_write_73 (by omega) ?_
          refine n_div hx hb dX3_write_74 (by omega) (by omega) (by omega) ?_
          refine lv_istore (lv' := [(5, .int (nI (bb / ((n + 1) - 1)))), (4, .int (nI (n + 1))), (0, .ref (ad 0)), (1, .int (nI bb)), (2, .int (nI ii)), (3, .int v)]) hx hb dX3_write_75 hl (by decide) rfl (fun ls hl => ?_)
          refine lv_iload_n hx hb dX3_write_77 rfl (lv_at hl 3 rfl) ?_
          refine lv_iload hx hb dX3_write_78 (lv_at hl 1 rfl) ?_
          refine lv_iconst (v := nI 1) hx hb dX3_write_80 (by decide) ?_
          refine n_sub hx hb dX3_write_81 (by omega) ?_
          refine n_rem hx hb dX3_write_82 (by omega) (by omega) (by omega) ?_
          refine lv_istore (lv' := [(6, .int (nI (bb % ((n + 1) - 1)))), (5, .int (nI (bb / ((n + 1) - 1)))), (4, .int (nI (n + 1))), (0, .ref (ad 0)), (1, .int (nI bb)), (2, .int (nI ii)), (3, .int v)]) hx hb dX3_write_83 hl (by decide) rfl (fun ls hl => ?_)
          refine lv_iconst (v := nI 0) hx hb dX3_write_85 (by decide) ?_
          refine lv_istore (lv' := [(7, .int (nI 0)), (6, .int (nI (bb % ((n + 1) - 1)))), (5, .int (nI (bb / ((n + 1) - 1)))), (4, .int (nI (n + 1))), (0, .ref (ad 0)), (1, .int (nI bb)), (2, .int (nI ii)), (3, .int v)]) hx hb dX3_write_86 hl (by decide) rfl (fun ls hl => ?_)
          obtain ⟨row9, hrow9⟩ : ∃ z : Nat, z = bb / ((n + 1) - 1) := ⟨_, rfl⟩
          obtain ⟨own9, hown9⟩ : ∃ z : Nat, z = bb % ((n + 1) - 1) := ⟨_, rfl⟩
          rw [← hrow9] at hrw hl
          rw [← hown9] at hbm hl
          obtain ⟨TT, hTT⟩ : ∃ T : Nat → Nat → Int32, ∀ j i, told (mw V_7) (ab (V_7 0 8) (V_7 0 9)) (n + 1) row9 (dd (n + 1) row9 j) i = T j i := ⟨_, fun _ _ => rfl⟩
          refine lp_X3_write_i hx hb hts hown hml hK V_7 (n + 1) row9 own9 ii v TT hTT (by omega) (by omega) hrw hbm hii hlf (fun V_I H locs ls hI hw hl => ?_) 4 0 V_7 _ _ ls (by omega) ⟨fun _ _ _ => rfl, fun t ht => absurd ht (by omega)⟩ hw (lv_sub hl [0, 3, 2, 1, 4, 6, 7] rfl)
          have hTc : ∀ j i, j < (n + 1) - 1 → i < 4 → TT j i = told ct (ab lost fresh) (n + 1) row9 (dd (n + 1) row9 j) i := fun j i hj hi => by rw [← hTT j i, hlo, hfr]; exact told_congr (wc_M hR.1) (by omega) hrw (by have := dd_lt (k := n + 1) (row := row9) (j := j) (by omega); omega) hi
          have hsl9 : ∀ j, j ≤ 12 → V_I 0 j = V_7 0 j := fun j hj => by rw [hI.1 0 (by decide) (by decide)]
          have h00 : V_I 0 0 = nI 0 := (hsl9 0 (by decide)).trans h00
          have hR : mR V_I (ct, (md, fd), (n, wide, dn, st, num), (lost, fresh), (fp, sh)) := hR.frame (hI.1 1 (by decide) (by decide)) (hI.1 2 (by decide) (by decide)) hsl9
          obtain ⟨⟨hmd, hlo, hfr, hsh, hz6, hmc⟩, hfd, har, hfa⟩ := hR.pt
          obtain ⟨hn, hdn, hnum, hwd, hst⟩ := hR.sv e1 e2
          have hlf : V_I 0 8 = -1 ∨ V_I 0 9 = -1 := by rw [hlo, hfr]; exact hlf9
          have hp13 := (congrFun (hI.1 0 (by decide) (by decide)) 13).trans hp13
          have hQ := gQ_congr (V1 := V_I) (by rw [hI.1 0 (by decide) (by decide)]) (hI.1 3 (by decide) (by decide)) (hI.1 4 (by decide) (by decide)) (hI.1 5 (by decide) (by decide)) hQ
          have hdd := dd_lt (k := n + 1) (row := row9) (j := own9) (by omega)
          have hpd := pd_lt (k := n + 1) (row := row9) (by omega)
          refine lv_aload_n hx hb dX3_write_211 rfl (lv_at hl 3 rfl) ?_
          refine lv_iload hx hb dX3_write_212 (lv_at hl 0 rfl) ?_
          refine lv_iload hx hb dX3_write_214 (lv_at hl 1 rfl) ?_
          refine lv_iload hx hb dX3_write_216 (lv_at hl 2 rfl) ?_
          refine w_calli hw (va_runS (As := [.int (nI (n + 1)), .int (nI row9), .int (nI own9)]) (rest := [.ref (ad 0)]) ⟨hx, hb, hml, hown, hts⟩ (c_X3_dataDisk l D cI cD ad _ V_I (n + 1) row9 own9 (by omega) (by omega) (by omega) (by omega)) (va_cwS 3 hts gX3_write_X3_dataDisk rfl rfl rfl (by decide +kernel) ⟨Nat.le_of_ble_eq_true rfl, Nat.le_of_ble_eq_true rfl⟩) (w_preS hK hw _) rfl rfl hl.1 rfl (lv_room (Nat.le_of_ble_eq_true rfl)) dX3_write_218 ⟨Nat.le_of_ble_eq_true rfl, Nat.le_of_ble_eq_true rfl⟩) (fun r_21 V_20 H locs hp hw => ?_)
          obtain ⟨e9, e8⟩ := hp
          subst e9
          subst e8
          refine lv_iload hx hb dX3_write_221 (lv_at hl 1 rfl) ?_
          refine w_callv hw (va_runV (As := [.int (nI (dd (n + 1) row9 own9)), .int (nI row9)]) (rest := []) ⟨hx, hb, hml, hown, hts⟩ (c_X3_issueBlock l D cI cD ad _ V_I _ hQ (by simp) (dd (n + 1) row9 own9) row9 (by omega) hrw) (cwV 2 hts gX3_write_X3_issueBlock rfl rfl rfl (by decide +kernel) ⟨Nat.le_of_ble_eq_true rfl, Nat.le_of_ble_eq_true rfl⟩) (w_preV hK hw (by omega) (mF_0 _) rfl _) rfl rfl hl.1 rfl (lv_room (Nat.le_of_ble_eq_true rfl)) dX3_write_223 ⟨Nat.le_of_ble_eq_true rfl, Nat.le_of_ble_eq_true rfl⟩) (fun V_22 H locs hp hw => ?_)
          obtain ⟨hQ, hI1, hI2⟩ := hp
          have hsl9 : ∀ j, j ≤ 12 → V_22 0 j = V_I 0 j := fun j hj => hI2 j (by omega)
          have h00 : V_22 0 0 = nI 0 := (hsl9 0 (by decide)).trans h00
          have hR : mR V_22 (ct, (md, fd), (n, wide, dn, st, num), (lost, fresh), (fp, sh)) := hR.frame (hI1 1 (by decide) (by decide) (by decide) (by decide)) (hI1 2 (by decide) (by decide) (by decide) (by decide)) hsl9
          obtain ⟨⟨hmd, hlo, hfr, hsh, hz6, hmc⟩, hfd, har, hfa⟩ := hR.pt
          obtain ⟨hn, hdn, hnum, hwd, hst⟩ := hR.sv e1 e2
          have hlf : V_22 0 8 = -1 ∨ V_22 0 9 = -1 := by rw [hlo, hfr]; exact hlf9
          have hp13 := (hI2 13 (by decide)).trans hp13
          refine lv_iconst (v := nI 0) hx hb dX3_write_226 (by decide) ?_
          refine lv_istore (lv' := [(7, .int (nI 0)), (4, .int (nI (n + 1))), (5, .int (nI row9)), (6, .int (nI own9)), (0, .ref (ad 0)), (2, .int (nI ii)), (3, .int v)]) hx hb dX3_write_227 hl (by decide) rfl (fun ls hl => ?_)
          have hI9 := hI1 9 (by decide) (by decide) (by decide) (by decide)
          refine lp_X3_write_c hx hb hts hown hml hK V_22 (n + 1) row9 (fun V_K H locs ls hK9 hw hl => ?_) 4 0 V_22 _ _ ls (by omega) ⟨fun _ _ => rfl, fun t ht => absurd ht (by omega)⟩ hw (lv_sub hl [0, 1, 2, 4] rfl)
          have hsl9 : ∀ j, j ≤ 12 → V_K 0 j = V_22 0 j := fun j hj => by rw [hK9.1 0 (by decide)]
          have h00 : V_K 0 0 = nI 0 := (hsl9 0 (by decide)).trans h00
          have hR : mR V_K (ct, (md, fd), (n, wide, dn, st, num), (lost, fresh), (fp, sh)) := hR.frame (hK9.1 1 (by decide)) (hK9.1 2 (by decide)) hsl9
          obtain ⟨⟨hmd, hlo, hfr, hsh, hz6, hmc⟩, hfd, har, hfa⟩ := hR.pt
          obtain ⟨hn, hdn, hnum, hwd, hst⟩ := hR.sv e1 e2
          have hlf : V_K 0 8 = -1 ∨ V_K 0 9 = -1 := by rw [hlo, hfr]; exact hlf9
          have hp13 := (congrFun (hK9.1 0 (by decide)) 13).trans hp13
          have hQ := gQ_congr (V1 := V_K) (by rw [hK9.1 0 (by decide)]) (hK9.1 3 (by decide)) (hK9.1 4 (by decide)) (hK9.1 5 (by decide)) hQ
          refine lv_aload_n hx hb dX3_write_255 rfl (lv_at hl 2 rfl) ?_
          refine lv_iload hx hb dX3_write_256 (lv_at hl 0 rfl) ?_
          refine lv_iload hx hb dX3_write_258 (lv_at hl 1 rfl) ?_
          refine w_calli hw (va_runS (As := [.int (nI (n + 1)), .int (nI row9)]) (rest := [.ref (ad 0)]) ⟨hx, hb, hml, hown, hts⟩ (c_X3_parityDisk l D cI cD ad _ V_K (n + 1) row9 (by omega) (by omega) (by omega)) (va_cwS 2 hts gX3_write_X3_parityDisk rfl rfl rfl (by decide +kernel) ⟨Nat.le_of_ble_eq_true rfl, Nat.le_of_ble_eq_true rfl⟩) (w_preS hK hw _) rfl rfl hl.1 rfl (lv_room (Nat.le_of_ble_eq_true rfl)) dX3_write_260 ⟨Nat.le_of_ble_eq_true rfl, Nat.le_of_ble_eq_true rfl⟩) (fun r_24 V_23 H locs hp hw => ?_)
          obtain ⟨e9, e8⟩ := hp
          subst e9
          subst e8
          refine lv_iload hx hb dX3_write_263 (lv_at hl 1 rfl) ?_
          refine w_callv hw (va_runV (As := [.int (nI (pd (n + 1) row9)), .int (nI row9)]) (rest := []) ⟨hx, hb, hml, hown, hts⟩ (c_X3_issueBlock l D cI cD ad _ V_K _ hQ (by simp) (pd (n + 1) row9) row9 (by omega) hrw) (cwV 2 hts gX3_write_X3_issueBlock rfl rfl rfl (by decide +kernel) ⟨Nat.le_of_ble_eq_true rfl, Nat.le_of_ble_eq_true rfl⟩) (w_preV hK hw (by omega) (mF_0 _) rfl _) rfl rfl hl.1 rfl (lv_room (Nat.le_of_ble_eq_true rfl)) dX3_write_265 ⟨Nat.le_of_ble_eq_true rfl, Nat.le_of_ble_eq_true rfl⟩) (fun V_25 H locs hp hw => ?_)
          obtain ⟨hQ, hI1, hI2⟩ := hp
          have hsl9 : ∀ j, j ≤ 12 → V_25 0 j = V_K 0 j := fun j hj => hI2 j (by omega)
          have h00 : V_25 0 0 = nI 0 := (hsl9 0 (by decide)).trans h00
          have hR : mR V_25 (ct, (md, fd), (n, wide, dn, st, num), (lost, fresh), (fp, sh)) := hR.frame (hI1 1 (by decide) (by decide) (by decide) (by decide)) (hI1 2 (by decide) (by decide) (by decide) (by decide)) hsl9
          obtain ⟨⟨hmd, hlo, hfr, hsh, hz6, hmc⟩, hfd, har, hfa⟩ := hR.pt
          obtain ⟨hn, hdn, hnum, hwd, hst⟩ := hR.sv e1 e2
          have hlf : V_25 0 8 = -1 ∨ V_25 0 9 = -1 := by rw [hlo, hfr]; exact hlf9
          have hp13 := (hI2 13 (by decide)).trans hp13
          refine lv_aload_n hx hb dX3_write_268 rfl (lv_at hl 2 rfl) ?_
          refine lv_iconst (v := nI 1) hx hb dX3_write_269 (by decide) ?_
          refine n_is (show nI 1 = bI true from rfl) ?_
          have hQE : ∀ d, QEq (qOf (([] ++ [(dd (n + 1) row9 own9, (some row9, V_I 8))]) ++ [(pd (n + 1) row9, (some row9, V_K 8))]) d) (wrQ ct (ab lost fresh) (n + 1) row9 own9 ii v d) := fun d => by
            rw [qOf_snoc]
            refine qAdd_QEq ?_ ⟨rfl, fun i _ h2 => h2.elim (fun q => absurd q (by simp)) (fun q => ?_)⟩
            · rw [qOf_snoc]
              refine qAdd_QEq trivial ⟨rfl, fun i _ h2 => h2.elim (fun q => absurd q (by simp)) (fun q => ?_)⟩
              show V_I 8 i = _
              rw [(hI.2 i q).2]
              unfold chg
              rw [hTc own9 i hbm q]
            · show V_K 8 i = _
              rw [hK9.2 i q, hI9, (hI.2 i q).1]
              refine xa_congr (fun e he => ?_)
              unfold chg
              rw [hTc e i (by omega) q]
          refine w_calli hw (va_runV (As := [.int (bI true)]) (rest := []) ⟨hx, hb, hml, hown, hts⟩ (c_X3_holds l D cI cD ad _ V_25 _ hQ (decide (¬ fp = 0)) har _ rfl sh hsh 0 hp13 (by rw [hfd, e2]) hlf true) (cwV 1 hts gX3_write_X3_holds rfl rfl rfl (by decide +kernel) ⟨Nat.le_of_ble_eq_true rfl, Nat.le_of_ble_eq_true rfl⟩) (w_preV hK hw (by omega) (mF_0 _) rfl _) rfl rfl hl.1 rfl (lv_room (Nat.le_of_ble_eq_true rfl)) dX3_write_270 ⟨Nat.le_of_ble_eq_true rfl, Nat.le_of_ble_eq_true rfl⟩) (fun r_27 V_26 H locs hp hw => ?_)
          rw [hfl_t] at hp
          have hH := hp
          clear hp
          have e8 := hH.1
          subst e8
          have hC : mR V_26 (eff (ab lost fresh) (decide (¬ fp = 0)) sh (wrQ ct (ab lost fresh) (n + 1) row9 own9 ii v) ct, (md, decide (¬ fp = 0)), (n, wide, dn, st, num), (lost, fresh), (0, sh)) := mR_end (hH.mB hR.1 hQE) hH.2.2.1 hH.2.1 id (fun _ => hH.mN (hR.sv e1 e2))
          have h00 : V_26 0 0 = nI 0 := (hH.2.2.2.2.2.1 0 (by decide) (by decide) (by decide) (by decide)).trans h00
          have hL9 : oWrite (ct, (md, fd), (n, wide, dn, st, num), (lost, fresh), (fp, sh)) (nI bb) (nI ii) v = (if fp = 0 then 0 else 3, if fp = 0 then 1 else 0, (eff (ab lost fresh) (decide (¬ fp = 0)) sh (wrQ ct (ab lost fresh) (n + 1) row9 own9 ii v) ct, (md, decide (¬ fp = 0)), (n, wide, dn, st, num), (lost, fresh), (0, sh))) := by
            rw [oWrite, ifS_y (a := (ct, (md, fd), (n, wide, dn, st, num), (lost, fresh), (fp, sh))) e1 e2]
            refine (if_neg e7).trans ?_
            rw [nI_clamp (show bb < 2 ^ 31 by omega), nI_clamp (show ii < 2 ^ 31 by omega), hkO, ← hrow9, ← hown9]
            exact if_neg hp9
          refine lv_if_ne (tgt := 284) hx hb dX3_write_273 (by decide) (fun c_273 => ?_) (fun c_273 => ?_)
          · refine lv_iconst (v := nI 1) hx hb dX3_write_284 (by decide) ?_
            refine lv_goto (tgt := 289) hx hb dX3_write_285 (by decide) ?_
            exact w_zret hx hb hr hlocks hw rfl (by have q9 : fp = 0 := (by have := bI_n0.mp c_273; simpa using this); rw [hL9, if_pos q9, if_pos q9]; exact ⟨h00, fun _ => rfl, hC⟩) dX3_write_289
          · refine lv_aload_n hx hb dX3_write_276 rfl (lv_at hl 2 rfl) ?_
            refine lv_iconst (v := nI 3) hx hb dX3_write_277 (by decide) ?_
            refine w_calli hw (va_runV (As := [.int (nI 3)]) (rest := []) ⟨hx, hb, hml, hown, hts⟩ (c_X3_fail l D cI cD ad _ V_26 (nI 3)) (cwV 1 hts gX3_write_X3_fail rfl rfl rfl (by decide +kernel) ⟨Nat.le_of_ble_eq_true rfl, Nat.le_of_ble_eq_true rfl⟩) (w_preV hK hw (by omega) (mF_0 _) rfl _) rfl rfl hl.1 rfl (lv_room (Nat.le_of_ble_eq_true rfl)) dX3_write_278 ⟨Nat.le_of_ble_eq_true rfl, Nat.le_of_ble_eq_true rfl⟩) (fun r_29 V_28 H locs hp hw => ?_)
            obtain ⟨e9f, e8⟩ := hp
            subst e8
            refine lv_if_le (tgt := 288) hx hb dX3_write_281 (by decide) (fun c_281 => ?_) (fun c_281 => ?_)
            · refine lv_iconst (v := nI 0) hx hb dX3_write_288 (by decide) ?_
              exact w_zret hx hb hr hlocks hw rfl (by have q9 : ¬ fp = 0 := (by have := bI_0.mp c_273; simpa using this); rw [hL9, if_neg q9]; exact ⟨by rw [e9f, u2_s], fun h => absurd (show (3 : Nat) = 0 from h) (by decide), mR_u0 hC e9f⟩) dX3_write_289
            · exact absurd (by decide) c_281
      · refine lv_iconst (v := nI 0) hx hb dX3_write_40 (by decide) ?_
        exact w_zret hx hb hr hlocks hw rfl (by have hL : oWrite (ct, (md, fd), (n, wide, dn, st, num), (lost, fresh), (fp, sh)) (nI bb) (nI ii) v = (0, 0, (ct, (md, fd), (n, wide, dn, st, num), (lost, fresh), (fp, sh))) := (by rw [oWrite, ifS_y (a := (ct, (md, fd), (n, wide, dn, st, num), (lost, fresh), (fp, sh))) e1 e2]; refine (if_neg e7).trans ?_; rw [nI_clamp (show bb < 2 ^ 31 by omega)]; exact if_pos (of_decide_eq_true (bI_n0.mp c_37))); rw [hL]; exact ⟨h00, fun _ => rfl, hR⟩) dX3_write_41
    · refine lv_aload_n hx hb dX3_write_18 rfl (lv_at hl 0 rfl) ?_
      refine lv_iconst (v := nI 2) hx hb dX3_write_19 (by decide) ?_
      refine w_calli hw (va_runV (As := [.int (nI 2)]) (rest := []) ⟨hx, hb, hml, hown, hts⟩ (c_X3_fail l D cI cD ad _ V_1 (nI 2)) (cwV 1 hts gX3_write_X3_fail rfl rfl rfl (by decide +kernel) ⟨Nat.le_of_ble_eq_true rfl, Nat.le_of_ble_eq_true rfl⟩) (w_preV hK hw (by omega) (mF_0 _) rfl _) rfl rfl hl.1 rfl (lv_room (Nat.le_of_ble_eq_true rfl)) dX3_write_20 ⟨Nat.le_of_ble_eq_true rfl, Nat.le_of_ble_eq_true rfl⟩) (fun r_31 V_30 H locs hp hw => ?_)
      obtain ⟨e9f, e8⟩ := hp
      subst e8
      refine lv_if_le (tgt := 30) hx hb dX3_write_23 (by decide) (fun c_23 => ?_) (fun c_23 => ?_)
      · refine lv_iconst (v := nI 0) hx hb dX3_write_30 (by decide) ?_
        exact w_zret hx hb hr hlocks hw rfl (by have hL : oWrite (ct, (md, fd), (n, wide, dn, st, num), (lost, fresh), (fp, sh)) b i v = (2, 0, (ct, (md, fd), (n, wide, dn, st, num), (lost, fresh), (fp, sh))) := (by rw [oWrite, ifS_y (a := (ct, (md, fd), (n, wide, dn, st, num), (lost, fresh), (fp, sh))) e1 e2]; exact if_pos (Decidable.not_not.mp (of_decide_eq_false (bI_0.mp c_15)))); rw [hL]; exact ⟨by rw [e9f, u2_s], fun h => absurd (show (2 : Nat) = 0 from h) (by decide), mR_u0 hR e9f⟩) dX3_write_31
      · exact absurd (by decide) c_23
  · have e12 := of_decide_eq_false (bI_0.mp c_4)
    rw [if_neg e12] at hW9
    refine lv_iconst (v := nI 0) hx hb dX3_write_7 (by decide) ?_
    exact w_zret hx hb hr hlocks hw rfl (by have hL : oWrite (ct, (md, fd), (n, wide, dn, st, num), (lost, fresh), (fp, sh)) b i v = (1, 0, (ct, (md, fd), (n, wide, dn, st, num), (lost, fresh), (fp, sh))) := (by rw [oWrite, ifS_n (a := (ct, (md, fd), (n, wide, dn, st, num), (lost, fresh), (fp, sh))) e12]); rw [hL]; exact ⟨by rw [hW9, u2_s], fun h => absurd (show (1 : Nat) = 0 from h) (by decide), mR_u0 hR hW9⟩) dX3_write_8
