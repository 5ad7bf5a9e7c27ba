/-! the law's cases: class and reference asked alike answer alike -/
set_option maxHeartbeats 4000000 in
set_option maxRecDepth 100000 in
theorem lc_0 {p : Program} {l : Launch} {e : Env} {s : State} {m : MethodId} {below : List Frame} {meth : Method} {c : Code} {b L : Nat} {xs : Nat → Int32} {Q : State → Prop} {D : va_G} {cI cD cL : ClassId} {ad bd : Nat → Nat} {o : Nat} (hlt : l.stackTraces = false) (hx : p.tables.exec = Jvm.exec) (hb : c.code = cL_law) (hts : ∀ w ∈ wsL_law, w.before #[Value.ref b] s = true) (hown : s.vm.findClass RL = some m.cls) (hml : c.maxLocals = 7) (hX : va_X b L xs s s.heap) (hbl : b < s.heap.size) (hK : kK D cI cD s) (hKL : va_K D vwCl [(cL, .long)] s) (hT9 : kT s) (hZ : kZ (fun q => s.heap.size ≤ q) s s.heap) (hN : kN s) (hD : lD ad bd o s.heap.size) (hL : L ≤ 2048) {V M : vT} {f : Nat → Int64} {a : AS} {B i : Nat} (hi : i + 4 ≤ L) (hB : B < 9000) (hR : cR V a) (hM : mR M a) (hWF : WF B a) {H : Heap} {locs : List Loc} {cells slots : Nat} {ls : Array Slot} (hc : cells + 4 ≤ 601024) (hs : slots + 24 ≤ 7293034) (hS : lS D cI cD cL ad bd o s.heap V M f H locs) (hl : lv_has ls 7 [(4, .int (nI i)), (3, .ref o), (2, .ref (bd 0)), (1, .ref (ad 0)), (0, .ref b)])
    (hk : ∀ (V1 M1 : vT) (f1 : Nat → Int64) (a1 : AS) (H1 : Heap) (locs1 : List Loc) (ls1 : Array Slot), cR V1 a1 → mR M1 a1 → WF (B + 2) a1 → lS D cI cD cL ad bd o s.heap V1 M1 f1 H1 locs1 → lv_has ls1 7 [(4, .int (nI i)), (3, .ref o), (2, .ref (bd 0)), (1, .ref (ad 0)), (0, .ref b)] → W p l e room_1 s m #[Value.ref b] below meth c H1 locs1 (cells + 4) (slots + 24) Q (F0 m 919 ls1 [])) : W p l e room_1 s m #[Value.ref b] below meth c H locs cells slots Q (F0 m 112 ls []) := by
  have hbA : ¬ (fun q : Nat => s.heap.size ≤ q) b := Nat.not_le.mpr hbl
  refine lv_aload_n hx hb dL_law_112 rfl (lv_at hl 3 rfl) ?_
  refine lv_aload_n hx hb dL_law_113 rfl (lv_at hl 4 rfl) ?_
  refine lv_iload hx hb dL_law_114 (lv_at hl 0 rfl) ?_
  refine lv_iconst (v := nI 1) hx hb dL_law_116 (by decide) ?_
  refine n_add hx hb dL_law_117 ?_
  refine va_sld hx hb hX hbl hbA hS.2.2.2 (vp_in_nI (show i + 1 < L by omega) (by omega)) dL_law_118 ?_
  refine lv_aload_n hx hb dL_law_119 rfl (lv_at hl 1 rfl) ?_
  refine l_wrap hD hS (vx_runSX (hh := [(0, 9, 12, 13)]) (As := [.ref (ad 0), .int (xs (nI (i + 1)).toNatClampNeg), .ref o]) (rest := []) ⟨hx, hb, hml, hown, hts⟩ (c_L_format l hlt D cI cD cL ad o _ V f a hR B (by omega) hWF (xs (nI (i + 1)).toNatClampNeg)) (vx_cwSW 3 hts gL_law_L_format rfl rfl rfl (by decide +kernel) ⟨Nat.le_of_ble_eq_true rfl, Nat.le_of_ble_eq_true rfl⟩) (l_preS hK hKL hT9 hZ hN hD hS _) rfl rfl hl.1 rfl (lv_room (Nat.le_of_ble_eq_true rfl)) dL_law_120 ⟨hc, hs⟩) (fun r V1 f1 H locs hp hS => ?_)
  obtain ⟨e1, e4, e2, hC⟩ := hp
  subst e1
  refine lv_istore (lv' := [(5, .int (nI (oFormat a (xs (nI (i + 1)).toNatClampNeg)).1)), (4, .int (nI i)), (3, .ref o), (2, .ref (bd 0)), (1, .ref (ad 0)), (0, .ref b)]) hx hb dL_law_123 hl (by decide) rfl (fun ls hl => ?_)
  refine lv_aload_n hx hb dL_law_125 rfl (lv_at hl 3 rfl) ?_
  refine lv_aload_n hx hb dL_law_126 rfl (lv_at hl 5 rfl) ?_
  refine lv_iload hx hb dL_law_127 (lv_at hl 1 rfl) ?_
  refine lv_iconst (v := nI 1) hx hb dL_law_129 (by decide) ?_
  refine n_add hx hb dL_law_130 ?_
  refine va_sld hx hb hX hbl hbA hS.2.2.2 (vp_in_nI (show i + 1 < L by omega) (by omega)) dL_law_131 ?_
  refine l_mi hD hS (va_runV (As := [.int (xs (nI (i + 1)).toNatClampNeg)]) (rest := []) ⟨hx, hb, hml, hown, hts⟩ (a_X3_format l D cI cD bd _ M a hM B (by omega) hWF (xs (nI (i + 1)).toNatClampNeg)) (cwV 1 hts gL_law_X3_format rfl rfl rfl (by decide +kernel) ⟨Nat.le_of_ble_eq_true rfl, Nat.le_of_ble_eq_true rfl⟩) (l_preM hK hD hS _) rfl rfl hl.1 rfl (lv_room (Nat.le_of_ble_eq_true rfl)) dL_law_132 ⟨show cells + 4 ≤ 601024 by omega, show slots + 24 ≤ 7293034 by omega⟩) (fun r2 M1 H locs hp hS => ?_)
  obtain ⟨g1, g2, hM1⟩ := hp
  refine lv_istore (lv' := [(6, .int r2), (5, .int (nI (oFormat a (xs (nI (i + 1)).toNatClampNeg)).1)), (4, .int (nI i)), (3, .ref o), (2, .ref (bd 0)), (1, .ref (ad 0)), (0, .ref b)]) hx hb dL_law_135 hl (by decide) rfl (fun ls hl => ?_)
  refine lv_aload_n hx hb dL_law_137 rfl (lv_at hl 4 rfl) ?_
  refine l_mi hD hS (va_runV (As := []) (rest := []) ⟨hx, hb, hml, hown, hts⟩ (c_X3_thrown l D cI cD bd _ M1 _ g1) (cwV 0 hts gL_law_X3_thrown rfl rfl rfl (by decide +kernel) ⟨Nat.le_of_ble_eq_true rfl, Nat.le_of_ble_eq_true rfl⟩) (l_preM hK hD hS _) rfl rfl hl.1 rfl (lv_room (Nat.le_of_ble_eq_true rfl)) dL_law_138 ⟨show cells + 4 ≤ 601024 by omega, show slots + 24 ≤ 7293034 by omega⟩) (fun r3 M2 H locs hp hS => ?_)
  obtain ⟨h8, h9⟩ := hp
  subst h8
  subst h9
  refine lv_iload hx hb dL_law_141 (lv_at hl 1 rfl) ?_
  refine lv_icmp_eq (tgt := 148) hx hb dL_law_143 (by decide) (fun _ => ?_) (fun c9 => absurd rfl c9)
  refine lv_iload hx hb dL_law_148 (lv_at hl 1 rfl) ?_
  refine lv_if_ne (tgt := 165) hx hb dL_law_150 (by decide) (fun c9 => ?_) (fun c9 => ?_)
  · refine lv_goto (tgt := 919) hx hb dL_law_165 (by decide) ?_
    refine W.widen (k := cells + 4) (n := slots + 24) (by omega) (by omega) ?_
    exact hk V1 M1 f1 _ H locs ls hC hM1 (oFormat_wf (by omega) hWF) hS (lv_sub hl [2, 3, 4, 5, 6] rfl)
  · have z0 : (oFormat a (xs (nI (i + 1)).toNatClampNeg)).1 = 0 := (nI_eq (by omega) (by decide)).mp (c9.trans nI_0.symm)
    refine lv_aload_n hx hb dL_law_153 rfl (lv_at hl 3 rfl) ?_
    refine lv_iconst (v := nI 0) hx hb dL_law_154 (by decide) ?_
    refine l_lald hx hb hKL hS dL_law_155 ?_
    rw [show f1 0 = _ from e2 z0]
    have g3 := g2 z0
    subst g3
    refine lv_iload hx hb dL_law_156 (lv_at hl 0 rfl) ?_
    refine lv_i2l (v := (oFormat a (xs (nI (i + 1)).toNatClampNeg)).2.1.toInt64) hx hb dL_law_158 rfl ?_
    refine W.lcmp hx hb dL_law_159 ?_
    refine lv_if_eq (tgt := 165) hx hb dL_law_160 (by decide) (fun _ => ?_) (fun c8 => absurd (by simp [lg_cmp]) c8)
    refine lv_goto (tgt := 919) hx hb dL_law_165 (by decide) ?_
    refine W.widen (k := cells + 4) (n := slots + 24) (by omega) (by omega) ?_
    exact hk V1 M1 f1 _ H locs ls hC hM1 (oFormat_wf (by omega) hWF) hS (lv_sub hl [2, 3, 4, 5, 6] rfl)
set_option maxHeartbeats 4000000 in
set_option maxRecDepth 100000 in
theorem lc_1 {p : Program} {l : Launch} {e : Env} {s : State} {m : MethodId} {below : List Frame} {meth : Method} {c : Code} {b L : Nat} {xs : Nat → Int32} {Q : State → Prop} {D : va_G} {cI cD cL : ClassId} {ad bd : Nat → Nat} {o : Nat} (hlt : l.stackTraces = false) (hx : p.tables.exec = Jvm.exec) (hb : c.code = cL_law) (hts : ∀ w ∈ wsL_law, w.before #[Value.ref b] s = true) (hown : s.vm.findClass RL = some m.cls) (hml : c.maxLocals = 7) (hX : va_X b L xs s s.heap) (hbl : b < s.heap.size) (hK : kK D cI cD s) (hKL : va_K D vwCl [(cL, .long)] s) (hT9 : kT s) (hZ : kZ (fun q => s.heap.size ≤ q) s s.heap) (hN : kN s) (hD : lD ad bd o s.heap.size) (hL : L ≤ 2048) {V M : vT} {f : Nat → Int64} {a : AS} {B i : Nat} (hi : i + 4 ≤ L) (hB : B < 9000) (hR : cR V a) (hM : mR M a) (hWF : WF B a) {H : Heap} {locs : List Loc} {cells slots : Nat} {ls : Array Slot} (hc : cells + 4 ≤ 601024) (hs : slots + 24 ≤ 7293034) (hS : lS D cI cD cL ad bd o s.heap V M f H locs) (hl : lv_has ls 7 [(4, .int (nI i)), (3, .ref o), (2, .ref (bd 0)), (1, .ref (ad 0)), (0, .ref b)])
    (hk : ∀ (V1 M1 : vT) (f1 : Nat → Int64) (a1 : AS) (H1 : Heap) (locs1 : List Loc) (ls1 : Array Slot), cR V1 a1 → mR M1 a1 → WF (B + 2) a1 → lS D cI cD cL ad bd o s.heap V1 M1 f1 H1 locs1 → lv_has ls1 7 [(4, .int (nI i)), (3, .ref o), (2, .ref (bd 0)), (1, .ref (ad 0)), (0, .ref b)] → W p l e room_1 s m #[Value.ref b] below meth c H1 locs1 (cells + 4) (slots + 24) Q (F0 m 919 ls1 [])) : W p l e room_1 s m #[Value.ref b] below meth c H locs cells slots Q (F0 m 168 ls []) := by
  have hbA : ¬ (fun q : Nat => s.heap.size ≤ q) b := Nat.not_le.mpr hbl
  refine lv_aload_n hx hb dL_law_168 rfl (lv_at hl 3 rfl) ?_
  refine lv_aload_n hx hb dL_law_169 rfl (lv_at hl 4 rfl) ?_
  refine lv_iload hx hb dL_law_170 (lv_at hl 0 rfl) ?_
  refine lv_iconst (v := nI 1) hx hb dL_law_172 (by decide) ?_
  refine n_add hx hb dL_law_173 ?_
  refine va_sld hx hb hX hbl hbA hS.2.2.2 (vp_in_nI (show i + 1 < L by omega) (by omega)) dL_law_174 ?_
  refine lv_aload_n hx hb dL_law_175 rfl (lv_at hl 4 rfl) ?_
  refine lv_iload hx hb dL_law_176 (lv_at hl 0 rfl) ?_
  refine lv_iconst (v := nI 2) hx hb dL_law_178 (by decide) ?_
  refine n_add hx hb dL_law_179 ?_
  refine va_sld hx hb hX hbl hbA hS.2.2.2 (vp_in_nI (show i + 2 < L by omega) (by omega)) dL_law_180 ?_
  refine lv_aload_n hx hb dL_law_181 rfl (lv_at hl 4 rfl) ?_
  refine lv_iload hx hb dL_law_182 (lv_at hl 0 rfl) ?_
  refine lv_iconst (v := nI 3) hx hb dL_law_184 (by decide) ?_
  refine n_add hx hb dL_law_185 ?_
  refine va_sld hx hb hX hbl hbA hS.2.2.2 (vp_in_nI (show i + 3 < L by omega) (by omega)) dL_law_186 ?_
  refine lv_aload_n hx hb dL_law_187 rfl (lv_at hl 1 rfl) ?_
  refine l_wrap hD hS (vx_runSX (hh := [(0, 19, 22, 19), (0, 19, 26, 21), (0, 19, 30, 23)]) (As := [.ref (ad 0), .int (xs (nI (i + 1)).toNatClampNeg), .int (xs (nI (i + 2)).toNatClampNeg), .int (xs (nI (i + 3)).toNatClampNeg), .ref o]) (rest := []) ⟨hx, hb, hml, hown, hts⟩ (c_L_write l hlt D cI cD cL ad o _ V f a hR B (by omega) hWF (xs (nI (i + 1)).toNatClampNeg) (xs (nI (i + 2)).toNatClampNeg) (xs (nI (i + 3)).toNatClampNeg)) (vx_cwSW 5 hts gL_law_L_write rfl rfl rfl (by decide +kernel) ⟨Nat.le_of_ble_eq_true rfl, Nat.le_of_ble_eq_true rfl⟩) (l_preS hK hKL hT9 hZ hN hD hS _) rfl rfl hl.1 rfl (lv_room (Nat.le_of_ble_eq_true rfl)) dL_law_188 ⟨hc, hs⟩) (fun r V1 f1 H locs hp hS => ?_)
  obtain ⟨e1, e4, e2, hC⟩ := hp
  subst e1
  refine lv_istore (lv' := [(5, .int (nI (oWrite a (xs (nI (i + 1)).toNatClampNeg) (xs (nI (i + 2)).toNatClampNeg) (xs (nI (i + 3)).toNatClampNeg)).1)), (4, .int (nI i)), (3, .ref o), (2, .ref (bd 0)), (1, .ref (ad 0)), (0, .ref b)]) hx hb dL_law_191 hl (by decide) rfl (fun ls hl => ?_)
  refine lv_aload_n hx hb dL_law_193 rfl (lv_at hl 3 rfl) ?_
  refine lv_aload_n hx hb dL_law_194 rfl (lv_at hl 5 rfl) ?_
  refine lv_iload hx hb dL_law_195 (lv_at hl 1 rfl) ?_
  refine lv_iconst (v := nI 1) hx hb dL_law_197 (by decide) ?_
  refine n_add hx hb dL_law_198 ?_
  refine va_sld hx hb hX hbl hbA hS.2.2.2 (vp_in_nI (show i + 1 < L by omega) (by omega)) dL_law_199 ?_
  refine lv_aload_n hx hb dL_law_200 rfl (lv_at hl 5 rfl) ?_
  refine lv_iload hx hb dL_law_201 (lv_at hl 1 rfl) ?_
  refine lv_iconst (v := nI 2) hx hb dL_law_203 (by decide) ?_
  refine n_add hx hb dL_law_204 ?_
  refine va_sld hx hb hX hbl hbA hS.2.2.2 (vp_in_nI (show i + 2 < L by omega) (by omega)) dL_law_205 ?_
  refine lv_aload_n hx hb dL_law_206 rfl (lv_at hl 5 rfl) ?_
  refine lv_iload hx hb dL_law_207 (lv_at hl 1 rfl) ?_
  refine lv_iconst (v := nI 3) hx hb dL_law_209 (by decide) ?_
  refine n_add hx hb dL_law_210 ?_
  refine va_sld hx hb hX hbl hbA hS.2.2.2 (vp_in_nI (show i + 3 < L by omega) (by omega)) dL_law_211 ?_
  refine l_mi hD hS (va_runV (As := [.int (xs (nI (i + 1)).toNatClampNeg), .int (xs (nI (i + 2)).toNatClampNeg), .int (xs (nI (i + 3)).toNatClampNeg)]) (rest := []) ⟨hx, hb, hml, hown, hts⟩ (a_X3_write l D cI cD bd _ M a hM B (by omega) hWF (xs (nI (i + 1)).toNatClampNeg) (xs (nI (i + 2)).toNatClampNeg) (xs (nI (i + 3)).toNatClampNeg)) (cwV 3 hts gL_law_X3_write rfl rfl rfl (by decide +kernel) ⟨Nat.le_of_ble_eq_true rfl, Nat.le_of_ble_eq_true rfl⟩) (l_preM hK hD hS _) rfl rfl hl.1 rfl (lv_room (Nat.le_of_ble_eq_true rfl)) dL_law_212 ⟨show cells + 4 ≤ 601024 by omega, show slots + 24 ≤ 7293034 by omega⟩) (fun r2 M1 H locs hp hS => ?_)
  obtain ⟨g1, g2, hM1⟩ := hp
  refine lv_istore (lv' := [(6, .int r2), (5, .int (nI (oWrite a (xs (nI (i + 1)).toNatClampNeg) (xs (nI (i + 2)).toNatClampNeg) (xs (nI (i + 3)).toNatClampNeg)).1)), (4, .int (nI i)), (3, .ref o), (2, .ref (bd 0)), (1, .ref (ad 0)), (0, .ref b)]) hx hb dL_law_215 hl (by decide) rfl (fun ls hl => ?_)
  refine lv_aload_n hx hb dL_law_217 rfl (lv_at hl 4 rfl) ?_
  refine l_mi hD hS (va_runV (As := []) (rest := []) ⟨hx, hb, hml, hown, hts⟩ (c_X3_thrown l D cI cD bd _ M1 _ g1) (cwV 0 hts gL_law_X3_thrown rfl rfl rfl (by decide +kernel) ⟨Nat.le_of_ble_eq_true rfl, Nat.le_of_ble_eq_true rfl⟩) (l_preM hK hD hS _) rfl rfl hl.1 rfl (lv_room (Nat.le_of_ble_eq_true rfl)) dL_law_218 ⟨show cells + 4 ≤ 601024 by omega, show slots + 24 ≤ 7293034 by omega⟩) (fun r3 M2 H locs hp hS => ?_)
  obtain ⟨h8, h9⟩ := hp
  subst h8
  subst h9
  refine lv_iload hx hb dL_law_221 (lv_at hl 1 rfl) ?_
  refine lv_icmp_eq (tgt := 228) hx hb dL_law_223 (by decide) (fun _ => ?_) (fun c9 => absurd rfl c9)
  refine lv_iload hx hb dL_law_228 (lv_at hl 1 rfl) ?_
  refine lv_if_ne (tgt := 252) hx hb dL_law_230 (by decide) (fun c9 => ?_) (fun c9 => ?_)
  · refine lv_goto (tgt := 919) hx hb dL_law_252 (by decide) ?_
    refine W.widen (k := cells + 4) (n := slots + 24) (by omega) (by omega) ?_
    exact hk V1 M1 f1 _ H locs ls hC hM1 (oWrite_wf hWF) hS (lv_sub hl [2, 3, 4, 5, 6] rfl)
  · have z0 : (oWrite a (xs (nI (i + 1)).toNatClampNeg) (xs (nI (i + 2)).toNatClampNeg) (xs (nI (i + 3)).toNatClampNeg)).1 = 0 := (nI_eq (by omega) (by decide)).mp (c9.trans nI_0.symm)
    refine lv_aload_n hx hb dL_law_233 rfl (lv_at hl 3 rfl) ?_
    refine lv_iconst (v := nI 0) hx hb dL_law_234 (by decide) ?_
    refine l_lald hx hb hKL hS dL_law_235 ?_
    rw [show f1 0 = _ from e2 z0]
    have g3 := g2 z0
    subst g3
    refine lv_iload hx hb dL_law_236 (lv_at hl 0 rfl) ?_
    refine lv_if_eq (tgt := 245) hx hb dL_law_238 (by decide) (fun c7 => ?_) (fun c7 => ?_)
    · rw [if_pos c7]
      refine lv_lconst (v := 0) hx hb dL_law_245 (by decide) ?_
      refine W.lcmp hx hb dL_law_246 ?_
      refine lv_if_eq (tgt := 252) hx hb dL_law_247 (by decide) (fun _ => ?_) (fun c8 => absurd (by simp [lg_cmp]) c8)
      refine lv_goto (tgt := 919) hx hb dL_law_252 (by decide) ?_
      refine W.widen (k := cells + 4) (n := slots + 24) (by omega) (by omega) ?_
      exact hk V1 M1 f1 _ H locs ls hC hM1 (oWrite_wf hWF) hS (lv_sub hl [2, 3, 4, 5, 6] rfl)
    · rw [if_neg c7]
      refine lv_lconst (v := 1) hx hb dL_law_241 (by decide) ?_
      refine lv_goto (tgt := 246) hx hb dL_law_242 (by decide) ?_
      refine W.lcmp hx hb dL_law_246 ?_
      refine lv_if_eq (tgt := 252) hx hb dL_law_247 (by decide) (fun _ => ?_) (fun c8 => absurd (by simp [lg_cmp]) c8)
      refine lv_goto (tgt := 919) hx hb dL_law_252 (by decide) ?_
      refine W.widen (k := cells + 4) (n := slots + 24) (by omega) (by omega) ?_
      exact hk V1 M1 f1 _ H locs ls hC hM1 (oWrite_wf hWF) hS (lv_sub hl [2, 3, 4, 5, 6] rfl)
set_option maxHeartbeats 4000000 in
set_option maxRecDepth 100000 in
theorem lc_2 {p : Program} {l : Launch} {e : Env} {s : State} {m : MethodId} {below : List Frame} {meth : Method} {c : Code} {b L : Nat} {xs : Nat → Int32} {Q : State → Prop} {D : va_G} {cI cD cL : ClassId} {ad bd : Nat → Nat} {o : Nat} (hlt : l.stackTraces = false) (hx : p.tables.exec = Jvm.exec) (hb : c.code = cL_law) (hts : ∀ w ∈ wsL_law, w.before #[Value.ref b] s = true) (hown : s.vm.findClass RL = some m.cls) (hml : c.maxLocals = 7) (hX : va_X b L xs s s.heap) (hbl : b < s.heap.size) (hK : kK D cI cD s) (hKL : va_K D vwCl [(cL, .long)] s) (hT9 : kT s) (hZ : kZ (fun q => s.heap.size ≤ q) s s.heap) (hN : kN s) (hD : lD ad bd o s.heap.size) (hL : L ≤ 2048) {V M : vT} {f : Nat → Int64} {a : AS} {B i : Nat} (hi : i + 4 ≤ L) (hB : B < 9000) (hR : cR V a) (hM : mR M a) (hWF : WF B a) {H : Heap} {locs : List Loc} {cells slots : Nat} {ls : Array Slot} (hc : cells + 4 ≤ 601024) (hs : slots + 24 ≤ 7293034) (hS : lS D cI cD cL ad bd o s.heap V M f H locs) (hl : lv_has ls 7 [(4, .int (nI i)), (3, .ref o), (2, .ref (bd 0)), (1, .ref (ad 0)), (0, .ref b)])
    (hk : ∀ (V1 M1 : vT) (f1 : Nat → Int64) (a1 : AS) (H1 : Heap) (locs1 : List Loc) (ls1 : Array Slot), cR V1 a1 → mR M1 a1 → WF (B + 2) a1 → lS D cI cD cL ad bd o s.heap V1 M1 f1 H1 locs1 → lv_has ls1 7 [(4, .int (nI i)), (3, .ref o), (2, .ref (bd 0)), (1, .ref (ad 0)), (0, .ref b)] → W p l e room_1 s m #[Value.ref b] below meth c H1 locs1 (cells + 4) (slots + 24) Q (F0 m 919 ls1 [])) : W p l e room_1 s m #[Value.ref b] below meth c H locs cells slots Q (F0 m 255 ls []) := by
  have hbA : ¬ (fun q : Nat => s.heap.size ≤ q) b := Nat.not_le.mpr hbl
  refine lv_aload_n hx hb dL_law_255 rfl (lv_at hl 3 rfl) ?_
  refine lv_aload_n hx hb dL_law_256 rfl (lv_at hl 4 rfl) ?_
  refine lv_iload hx hb dL_law_257 (lv_at hl 0 rfl) ?_
  refine lv_iconst (v := nI 1) hx hb dL_law_259 (by decide) ?_
  refine n_add hx hb dL_law_260 ?_
  refine va_sld hx hb hX hbl hbA hS.2.2.2 (vp_in_nI (show i + 1 < L by omega) (by omega)) dL_law_261 ?_
  refine lv_aload_n hx hb dL_law_262 rfl (lv_at hl 4 rfl) ?_
  refine lv_iload hx hb dL_law_263 (lv_at hl 0 rfl) ?_
  refine lv_iconst (v := nI 2) hx hb dL_law_265 (by decide) ?_
  refine n_add hx hb dL_law_266 ?_
  refine va_sld hx hb hX hbl hbA hS.2.2.2 (vp_in_nI (show i + 2 < L by omega) (by omega)) dL_law_267 ?_
  refine lv_aload_n hx hb dL_law_268 rfl (lv_at hl 1 rfl) ?_
  refine l_wrap hD hS (vx_runSX (hh := [(0, 10, 13, 19), (0, 10, 17, 21)]) (As := [.ref (ad 0), .int (xs (nI (i + 1)).toNatClampNeg), .int (xs (nI (i + 2)).toNatClampNeg), .ref o]) (rest := []) ⟨hx, hb, hml, hown, hts⟩ (c_L_read l hlt D cI cD cL ad o _ V f a hR B (by omega) hWF (xs (nI (i + 1)).toNatClampNeg) (xs (nI (i + 2)).toNatClampNeg)) (vx_cwSW 4 hts gL_law_L_read rfl rfl rfl (by decide +kernel) ⟨Nat.le_of_ble_eq_true rfl, Nat.le_of_ble_eq_true rfl⟩) (l_preS hK hKL hT9 hZ hN hD hS _) rfl rfl hl.1 rfl (lv_room (Nat.le_of_ble_eq_true rfl)) dL_law_269 ⟨hc, hs⟩) (fun r V1 f1 H locs hp hS => ?_)
  obtain ⟨e1, e4, e2, hC⟩ := hp
  subst e1
  refine lv_istore (lv' := [(5, .int (nI (oRead a (xs (nI (i + 1)).toNatClampNeg) (xs (nI (i + 2)).toNatClampNeg)).1)), (4, .int (nI i)), (3, .ref o), (2, .ref (bd 0)), (1, .ref (ad 0)), (0, .ref b)]) hx hb dL_law_272 hl (by decide) rfl (fun ls hl => ?_)
  refine lv_aload_n hx hb dL_law_274 rfl (lv_at hl 3 rfl) ?_
  refine lv_aload_n hx hb dL_law_275 rfl (lv_at hl 5 rfl) ?_
  refine lv_iload hx hb dL_law_276 (lv_at hl 1 rfl) ?_
  refine lv_iconst (v := nI 1) hx hb dL_law_278 (by decide) ?_
  refine n_add hx hb dL_law_279 ?_
  refine va_sld hx hb hX hbl hbA hS.2.2.2 (vp_in_nI (show i + 1 < L by omega) (by omega)) dL_law_280 ?_
  refine lv_aload_n hx hb dL_law_281 rfl (lv_at hl 5 rfl) ?_
  refine lv_iload hx hb dL_law_282 (lv_at hl 1 rfl) ?_
  refine lv_iconst (v := nI 2) hx hb dL_law_284 (by decide) ?_
  refine n_add hx hb dL_law_285 ?_
  refine va_sld hx hb hX hbl hbA hS.2.2.2 (vp_in_nI (show i + 2 < L by omega) (by omega)) dL_law_286 ?_
  refine l_mi hD hS (va_runV (As := [.int (xs (nI (i + 1)).toNatClampNeg), .int (xs (nI (i + 2)).toNatClampNeg)]) (rest := []) ⟨hx, hb, hml, hown, hts⟩ (a_X3_read l D cI cD bd _ M a hM B (by omega) hWF (xs (nI (i + 1)).toNatClampNeg) (xs (nI (i + 2)).toNatClampNeg)) (cwV 2 hts gL_law_X3_read rfl rfl rfl (by decide +kernel) ⟨Nat.le_of_ble_eq_true rfl, Nat.le_of_ble_eq_true rfl⟩) (l_preM hK hD hS _) rfl rfl hl.1 rfl (lv_room (Nat.le_of_ble_eq_true rfl)) dL_law_287 ⟨show cells + 4 ≤ 601024 by omega, show slots + 24 ≤ 7293034 by omega⟩) (fun r2 M1 H locs hp hS => ?_)
  obtain ⟨g1, g2, hM1⟩ := hp
  refine lv_istore (lv' := [(6, .int r2), (5, .int (nI (oRead a (xs (nI (i + 1)).toNatClampNeg) (xs (nI (i + 2)).toNatClampNeg)).1)), (4, .int (nI i)), (3, .ref o), (2, .ref (bd 0)), (1, .ref (ad 0)), (0, .ref b)]) hx hb dL_law_290 hl (by decide) rfl (fun ls hl => ?_)
  refine lv_aload_n hx hb dL_law_292 rfl (lv_at hl 4 rfl) ?_
  refine l_mi hD hS (va_runV (As := []) (rest := []) ⟨hx, hb, hml, hown, hts⟩ (c_X3_thrown l D cI cD bd _ M1 _ g1) (cwV 0 hts gL_law_X3_thrown rfl rfl rfl (by decide +kernel) ⟨Nat.le_of_ble_eq_true rfl, Nat.le_of_ble_eq_true rfl⟩) (l_preM hK hD hS _) rfl rfl hl.1 rfl (lv_room (Nat.le_of_ble_eq_true rfl)) dL_law_293 ⟨show cells + 4 ≤ 601024 by omega, show slots + 24 ≤ 7293034 by omega⟩) (fun r3 M2 H locs hp hS => ?_)
  obtain ⟨h8, h9⟩ := hp
  subst h8
  subst h9
  refine lv_iload hx hb dL_law_296 (lv_at hl 1 rfl) ?_
  refine lv_icmp_eq (tgt := 303) hx hb dL_law_298 (by decide) (fun _ => ?_) (fun c9 => absurd rfl c9)
  refine lv_iload hx hb dL_law_303 (lv_at hl 1 rfl) ?_
  refine lv_if_ne (tgt := 320) hx hb dL_law_305 (by decide) (fun c9 => ?_) (fun c9 => ?_)
  · refine lv_goto (tgt := 919) hx hb dL_law_320 (by decide) ?_
    refine W.widen (k := cells + 4) (n := slots + 24) (by omega) (by omega) ?_
    exact hk V1 M1 f1 _ H locs ls hC hM1 (by rw [oRead_a]; exact WF.le (by omega) hWF) hS (lv_sub hl [2, 3, 4, 5, 6] rfl)
  · have z0 : (oRead a (xs (nI (i + 1)).toNatClampNeg) (xs (nI (i + 2)).toNatClampNeg)).1 = 0 := (nI_eq (by omega) (by decide)).mp (c9.trans nI_0.symm)
    refine lv_aload_n hx hb dL_law_308 rfl (lv_at hl 3 rfl) ?_
    refine lv_iconst (v := nI 0) hx hb dL_law_309 (by decide) ?_
    refine l_lald hx hb hKL hS dL_law_310 ?_
    rw [show f1 0 = _ from e2 z0]
    have g3 := g2 z0
    subst g3
    refine lv_iload hx hb dL_law_311 (lv_at hl 0 rfl) ?_
    refine lv_i2l (v := (oRead a (xs (nI (i + 1)).toNatClampNeg) (xs (nI (i + 2)).toNatClampNeg)).2.1.toInt64) hx hb dL_law_313 rfl ?_
    refine W.lcmp hx hb dL_law_314 ?_
    refine lv_if_eq (tgt := 320) hx hb dL_law_315 (by decide) (fun _ => ?_) (fun c8 => absurd (by simp [lg_cmp]) c8)
    refine lv_goto (tgt := 919) hx hb dL_law_320 (by decide) ?_
    refine W.widen (k := cells + 4) (n := slots + 24) (by omega) (by omega) ?_
    exact hk V1 M1 f1 _ H locs ls hC hM1 (by rw [oRead_a]; exact WF.le (by omega) hWF) hS (lv_sub hl [2, 3, 4, 5, 6] rfl)
set_option maxHeartbeats 4000000 in
set_option maxRecDepth 100000 in
theorem lc_3 {p : Program} {l : Launch} {e : Env} {s : State} {m : MethodId} {below : List Frame} {meth : Method} {c : Code} {b L : Nat} {xs : Nat → Int32} {Q : State → Prop} {D : va_G} {cI cD cL : ClassId} {ad bd : Nat → Nat} {o : Nat} (hlt : l.stackTraces = false) (hx : p.tables.exec = Jvm.exec) (hb : c.code = cL_law) (hts : ∀ w ∈ wsL_law, w.before #[Value.ref b] s = true) (hown : s.vm.findClass RL = some m.cls) (hml : c.maxLocals = 7) (hX : va_X b L xs s s.heap) (hbl : b < s.heap.size) (hK : kK D cI cD s) (hKL : va_K D vwCl [(cL, .long)] s) (hT9 : kT s) (hZ : kZ (fun q => s.heap.size ≤ q) s s.heap) (hN : kN s) (hD : lD ad bd o s.heap.size) (hL : L ≤ 2048) {V M : vT} {f : Nat → Int64} {a : AS} {B i : Nat} (hi : i + 4 ≤ L) (hB : B < 9000) (hR : cR V a) (hM : mR M a) (hWF : WF B a) {H : Heap} {locs : List Loc} {cells slots : Nat} {ls : Array Slot} (hc : cells + 4 ≤ 601024) (hs : slots + 24 ≤ 7293034) (hS : lS D cI cD cL ad bd o s.heap V M f H locs) (hl : lv_has ls 7 [(4, .int (nI i)), (3, .ref o), (2, .ref (bd 0)), (1, .ref (ad 0)), (0, .ref b)])
    (hk : ∀ (V1 M1 : vT) (f1 : Nat → Int64) (a1 : AS) (H1 : Heap) (locs1 : List Loc) (ls1 : Array Slot), cR V1 a1 → mR M1 a1 → WF (B + 2) a1 → lS D cI cD cL ad bd o s.heap V1 M1 f1 H1 locs1 → lv_has ls1 7 [(4, .int (nI i)), (3, .ref o), (2, .ref (bd 0)), (1, .ref (ad 0)), (0, .ref b)] → W p l e room_1 s m #[Value.ref b] below meth c H1 locs1 (cells + 4) (slots + 24) Q (F0 m 919 ls1 [])) : W p l e room_1 s m #[Value.ref b] below meth c H locs cells slots Q (F0 m 323 ls []) := by
  have hbA : ¬ (fun q : Nat => s.heap.size ≤ q) b := Nat.not_le.mpr hbl
  refine lv_aload_n hx hb dL_law_323 rfl (lv_at hl 3 rfl) ?_
  refine lv_aload_n hx hb dL_law_324 rfl (lv_at hl 1 rfl) ?_
  refine l_wrap hD hS (vx_runSX (hh := [(0, 8, 11, 19), (0, 8, 14, 13), (0, 8, 17, 23)]) (As := [.ref (ad 0), .ref o]) (rest := []) ⟨hx, hb, hml, hown, hts⟩ (c_L_widen l hlt D cI cD cL ad o _ V f a hR B (by omega) hWF) (vx_cwSW 2 hts gL_law_L_widen rfl rfl rfl (by decide +kernel) ⟨Nat.le_of_ble_eq_true rfl, Nat.le_of_ble_eq_true rfl⟩) (l_preS hK hKL hT9 hZ hN hD hS _) rfl rfl hl.1 rfl (lv_room (Nat.le_of_ble_eq_true rfl)) dL_law_325 ⟨hc, hs⟩) (fun r V1 f1 H locs hp hS => ?_)
  obtain ⟨e1, e4, e2, hC⟩ := hp
  subst e1
  refine lv_istore (lv' := [(5, .int (nI (oWiden a).1)), (4, .int (nI i)), (3, .ref o), (2, .ref (bd 0)), (1, .ref (ad 0)), (0, .ref b)]) hx hb dL_law_328 hl (by decide) rfl (fun ls hl => ?_)
  refine lv_aload_n hx hb dL_law_330 rfl (lv_at hl 3 rfl) ?_
  refine l_mi hD hS (va_runV (As := []) (rest := []) ⟨hx, hb, hml, hown, hts⟩ (a_X3_widen l D cI cD bd _ M a hM B (by omega) hWF) (cwV 0 hts gL_law_X3_widen rfl rfl rfl (by decide +kernel) ⟨Nat.le_of_ble_eq_true rfl, Nat.le_of_ble_eq_true rfl⟩) (l_preM hK hD hS _) rfl rfl hl.1 rfl (lv_room (Nat.le_of_ble_eq_true rfl)) dL_law_331 ⟨show cells + 4 ≤ 601024 by omega, show slots + 24 ≤ 7293034 by omega⟩) (fun r2 M1 H locs hp hS => ?_)
  obtain ⟨g1, g2, hM1⟩ := hp
  refine lv_istore (lv' := [(6, .int r2), (5, .int (nI (oWiden a).1)), (4, .int (nI i)), (3, .ref o), (2, .ref (bd 0)), (1, .ref (ad 0)), (0, .ref b)]) hx hb dL_law_334 hl (by decide) rfl (fun ls hl => ?_)
  refine lv_aload_n hx hb dL_law_336 rfl (lv_at hl 4 rfl) ?_
  refine l_mi hD hS (va_runV (As := []) (rest := []) ⟨hx, hb, hml, hown, hts⟩ (c_X3_thrown l D cI cD bd _ M1 _ g1) (cwV 0 hts gL_law_X3_thrown rfl rfl rfl (by decide +kernel) ⟨Nat.le_of_ble_eq_true rfl, Nat.le_of_ble_eq_true rfl⟩) (l_preM hK hD hS _) rfl rfl hl.1 rfl (lv_room (Nat.le_of_ble_eq_true rfl)) dL_law_337 ⟨show cells + 4 ≤ 601024 by omega, show slots + 24 ≤ 7293034 by omega⟩) (fun r3 M2 H locs hp hS => ?_)
  obtain ⟨h8, h9⟩ := hp
  subst h8
  subst h9
  refine lv_iload hx hb dL_law_340 (lv_at hl 1 rfl) ?_
  refine lv_icmp_eq (tgt := 347) hx hb dL_law_342 (by decide) (fun _ => ?_) (fun c9 => absurd rfl c9)
  refine lv_iload hx hb dL_law_347 (lv_at hl 1 rfl) ?_
  refine lv_if_ne (tgt := 364) hx hb dL_law_349 (by decide) (fun c9 => ?_) (fun c9 => ?_)
  · refine lv_goto (tgt := 919) hx hb dL_law_364 (by decide) ?_
    refine W.widen (k := cells + 4) (n := slots + 24) (by omega) (by omega) ?_
    exact hk V1 M1 f1 _ H locs ls hC hM1 (oWiden_wf (by omega) hWF) hS (lv_sub hl [2, 3, 4, 5, 6] rfl)
  · have z0 : (oWiden a).1 = 0 := (nI_eq (by omega) (by decide)).mp (c9.trans nI_0.symm)
    refine lv_aload_n hx hb dL_law_352 rfl (lv_at hl 3 rfl) ?_
    refine lv_iconst (v := nI 0) hx hb dL_law_353 (by decide) ?_
    refine l_lald hx hb hKL hS dL_law_354 ?_
    rw [show f1 0 = _ from e2 z0]
    have g3 := g2 z0
    subst g3
    refine lv_iload hx hb dL_law_355 (lv_at hl 0 rfl) ?_
    refine lv_i2l (v := (oWiden a).2.1.toInt64) hx hb dL_law_357 rfl ?_
    refine W.lcmp hx hb dL_law_358 ?_
    refine lv_if_eq (tgt := 364) hx hb dL_law_359 (by decide) (fun _ => ?_) (fun c8 => absurd (by simp [lg_cmp]) c8)
    refine lv_goto (tgt := 919) hx hb dL_law_364 (by decide) ?_
    refine W.widen (k := cells + 4) (n := slots + 24) (by omega) (by omega) ?_
    exact hk V1 M1 f1 _ H locs ls hC hM1 (oWiden_wf (by omega) hWF) hS (lv_sub hl [2, 3, 4, 5, 6] rfl)
set_option maxHeartbeats 4000000 in
set_option maxRecDepth 100000 in
theorem lc_4 {p : Program} {l : Launch} {e : Env} {s : State} {m : MethodId} {below : List Frame} {meth : Method} {c : Code} {b L : Nat} {xs : Nat → Int32} {Q : State → Prop} {D : va_G} {cI cD cL : ClassId} {ad bd : Nat → Nat} {o : Nat} (hlt : l.stackTraces = false) (hx : p.tables.exec = Jvm.exec) (hb : c.code = cL_law) (hts : ∀ w ∈ wsL_law, w.before #[Value.ref b] s = true) (hown : s.vm.findClass RL = some m.cls) (hml : c.maxLocals = 7) (hX : va_X b L xs s s.heap) (hbl : b < s.heap.size) (hK : kK D cI cD s) (hKL : va_K D vwCl [(cL, .long)] s) (hT9 : kT s) (hZ : kZ (fun q => s.heap.size ≤ q) s s.heap) (hN : kN s) (hD : lD ad bd o s.heap.size) (hL : L ≤ 2048) {V M : vT} {f : Nat → Int64} {a : AS} {B i : Nat} (hi : i + 4 ≤ L) (hB : B < 9000) (hR : cR V a) (hM : mR M a) (hWF : WF B a) {H : Heap} {locs : List Loc} {cells slots : Nat} {ls : Array Slot} (hc : cells + 4 ≤ 601024) (hs : slots + 24 ≤ 7293034) (hS : lS D cI cD cL ad bd o s.heap V M f H locs) (hl : lv_has ls 7 [(4, .int (nI i)), (3, .ref o), (2, .ref (bd 0)), (1, .ref (ad 0)), (0, .ref b)])
    (hk : ∀ (V1 M1 : vT) (f1 : Nat → Int64) (a1 : AS) (H1 : Heap) (locs1 : List Loc) (ls1 : Array Slot), cR V1 a1 → mR M1 a1 → WF (B + 2) a1 → lS D cI cD cL ad bd o s.heap V1 M1 f1 H1 locs1 → lv_has ls1 7 [(4, .int (nI i)), (3, .ref o), (2, .ref (bd 0)), (1, .ref (ad 0)), (0, .ref b)] → W p l e room_1 s m #[Value.ref b] below meth c H1 locs1 (cells + 4) (slots + 24) Q (F0 m 919 ls1 [])) : W p l e room_1 s m #[Value.ref b] below meth c H locs cells slots Q (F0 m 367 ls []) := by
  have hbA : ¬ (fun q : Nat => s.heap.size ≤ q) b := Nat.not_le.mpr hbl
  refine lv_aload_n hx hb dL_law_367 rfl (lv_at hl 3 rfl) ?_
  refine lv_aload_n hx hb dL_law_368 rfl (lv_at hl 1 rfl) ?_
  refine l_wrap hD hS (vx_runSX (hh := [(0, 8, 11, 19), (0, 8, 14, 13), (0, 8, 17, 23)]) (As := [.ref (ad 0), .ref o]) (rest := []) ⟨hx, hb, hml, hown, hts⟩ (c_L_step l hlt D cI cD cL ad o _ V f a hR B (by omega) hWF) (vx_cwSW 2 hts gL_law_L_step rfl rfl rfl (by decide +kernel) ⟨Nat.le_of_ble_eq_true rfl, Nat.le_of_ble_eq_true rfl⟩) (l_preS hK hKL hT9 hZ hN hD hS _) rfl rfl hl.1 rfl (lv_room (Nat.le_of_ble_eq_true rfl)) dL_law_369 ⟨hc, hs⟩) (fun r V1 f1 H locs hp hS => ?_)
  obtain ⟨e1, e4, e2, hC⟩ := hp
  subst e1
  refine lv_istore (lv' := [(5, .int (nI (oStep a).1)), (4, .int (nI i)), (3, .ref o), (2, .ref (bd 0)), (1, .ref (ad 0)), (0, .ref b)]) hx hb dL_law_372 hl (by decide) rfl (fun ls hl => ?_)
  refine lv_aload_n hx hb dL_law_374 rfl (lv_at hl 3 rfl) ?_
  refine l_mi hD hS (va_runV (As := []) (rest := []) ⟨hx, hb, hml, hown, hts⟩ (a_X3_step l D cI cD bd _ M a hM B (by omega) hWF) (cwV 0 hts gL_law_X3_step rfl rfl rfl (by decide +kernel) ⟨Nat.le_of_ble_eq_true rfl, Nat.le_of_ble_eq_true rfl⟩) (l_preM hK hD hS _) rfl rfl hl.1 rfl (lv_room (Nat.le_of_ble_eq_true rfl)) dL_law_375 ⟨show cells + 4 ≤ 601024 by omega, show slots + 24 ≤ 7293034 by omega⟩) (fun r2 M1 H locs hp hS => ?_)
  obtain ⟨g1, g2, hM1⟩ := hp
  refine lv_istore (lv' := [(6, .int r2), (5, .int (nI (oStep a).1)), (4, .int (nI i)), (3, .ref o), (2, .ref (bd 0)), (1, .ref (ad 0)), (0, .ref b)]) hx hb dL_law_378 hl (by decide) rfl (fun ls hl => ?_)
  refine lv_aload_n hx hb dL_law_380 rfl (lv_at hl 4 rfl) ?_
  refine l_mi hD hS (va_runV (As := []) (rest := []) ⟨hx, hb, hml, hown, hts⟩ (c_X3_thrown l D cI cD bd _ M1 _ g1) (cwV 0 hts gL_law_X3_thrown rfl rfl rfl (by decide +kernel) ⟨Nat.le_of_ble_eq_true rfl, Nat.le_of_ble_eq_true rfl⟩) (l_preM hK hD hS _) rfl rfl hl.1 rfl (lv_room (Nat.le_of_ble_eq_true rfl)) dL_law_381 ⟨show cells + 4 ≤ 601024 by omega, show slots + 24 ≤ 7293034 by omega⟩) (fun r3 M2 H locs hp hS => ?_)
  obtain ⟨h8, h9⟩ := hp
  subst h8
  subst h9
  refine lv_iload hx hb dL_law_384 (lv_at hl 1 rfl) ?_
  refine lv_icmp_eq (tgt := 391) hx hb dL_law_386 (by decide) (fun _ => ?_) (fun c9 => absurd rfl c9)
  refine lv_iload hx hb dL_law_391 (lv_at hl 1 rfl) ?_
  refine lv_if_ne (tgt := 408) hx hb dL_law_393 (by decide) (fun c9 => ?_) (fun c9 => ?_)
  · refine lv_goto (tgt := 919) hx hb dL_law_408 (by decide) ?_
    refine W.widen (k := cells + 4) (n := slots + 24) (by omega) (by omega) ?_
    exact hk V1 M1 f1 _ H locs ls hC hM1 (oStep_wf (by omega) hWF) hS (lv_sub hl [2, 3, 4, 5, 6] rfl)
  · have z0 : (oStep a).1 = 0 := (nI_eq (by omega) (by decide)).mp (c9.trans nI_0.symm)
    refine lv_aload_n hx hb dL_law_396 rfl (lv_at hl 3 rfl) ?_
    refine lv_iconst (v := nI 0) hx hb dL_law_397 (by decide) ?_
    refine l_lald hx hb hKL hS dL_law_398 ?_
    rw [show f1 0 = _ from e2 z0]
    have g3 := g2 z0
    subst g3
    refine lv_iload hx hb dL_law_399 (lv_at hl 0 rfl) ?_
    refine lv_i2l (v := (oStep a).2.1.toInt64) hx hb dL_law_401 rfl ?_
    refine W.lcmp hx hb dL_law_402 ?_
    refine lv_if_eq (tgt := 408) hx hb dL_law_403 (by decide) (fun _ => ?_) (fun c8 => absurd (by simp [lg_cmp]) c8)
    refine lv_goto (tgt := 919) hx hb dL_law_408 (by decide) ?_
    refine W.widen (k := cells + 4) (n := slots + 24) (by omega) (by omega) ?_
    exact hk V1 M1 f1 _ H locs ls hC hM1 (oStep_wf (by omega) hWF) hS (lv_sub hl [2, 3, 4, 5, 6] rfl)
set_option maxHeartbeats 4000000 in
set_option maxRecDepth 100000 in
theorem lc_5 {p : Program} {l : Launch} {e : Env} {s : State} {m : MethodId} {below : List Frame} {meth : Method} {c : Code} {b L : Nat} {xs : Nat → Int32} {Q : State → Prop} {D : va_G} {cI cD cL : ClassId} {ad bd : Nat → Nat} {o : Nat} (hlt : l.stackTraces = false) (hx : p.tables.exec = Jvm.exec) (hb : c.code = cL_law) (hts : ∀ w ∈ wsL_law, w.before #[Value.ref b] s = true) (hown : s.vm.findClass RL = some m.cls) (hml : c.maxLocals = 7) (hX : va_X b L xs s s.heap) (hbl : b < s.heap.size) (hK : kK D cI cD s) (hKL : va_K D vwCl [(cL, .long)] s) (hT9 : kT s) (hZ : kZ (fun q => s.heap.size ≤ q) s s.heap) (hN : kN s) (hD : lD ad bd o s.heap.size) (hL : L ≤ 2048) {V M : vT} {f : Nat → Int64} {a : AS} {B i : Nat} (hi : i + 4 ≤ L) (hB : B < 9000) (hR : cR V a) (hM : mR M a) (hWF : WF B a) {H : Heap} {locs : List Loc} {cells slots : Nat} {ls : Array Slot} (hc : cells + 4 ≤ 601024) (hs : slots + 24 ≤ 7293034) (hS : lS D cI cD cL ad bd o s.heap V M f H locs) (hl : lv_has ls 7 [(4, .int (nI i)), (3, .ref o), (2, .ref (bd 0)), (1, .ref (ad 0)), (0, .ref b)])
    (hk : ∀ (V1 M1 : vT) (f1 : Nat → Int64) (a1 : AS) (H1 : Heap) (locs1 : List Loc) (ls1 : Array Slot), cR V1 a1 → mR M1 a1 → WF (B + 2) a1 → lS D cI cD cL ad bd o s.heap V1 M1 f1 H1 locs1 → lv_has ls1 7 [(4, .int (nI i)), (3, .ref o), (2, .ref (bd 0)), (1, .ref (ad 0)), (0, .ref b)] → W p l e room_1 s m #[Value.ref b] below meth c H1 locs1 (cells + 4) (slots + 24) Q (F0 m 919 ls1 [])) : W p l e room_1 s m #[Value.ref b] below meth c H locs cells slots Q (F0 m 411 ls []) := by
  have hbA : ¬ (fun q : Nat => s.heap.size ≤ q) b := Nat.not_le.mpr hbl
  refine lv_aload_n hx hb dL_law_411 rfl (lv_at hl 3 rfl) ?_
  refine lv_aload_n hx hb dL_law_412 rfl (lv_at hl 4 rfl) ?_
  refine lv_iload hx hb dL_law_413 (lv_at hl 0 rfl) ?_
  refine lv_iconst (v := nI 1) hx hb dL_law_415 (by decide) ?_
  refine n_add hx hb dL_law_416 ?_
  refine va_sld hx hb hX hbl hbA hS.2.2.2 (vp_in_nI (show i + 1 < L by omega) (by omega)) dL_law_417 ?_
  refine l_wrap hD hS (vx_runSX (hh := [(0, 5, 8, 19), (0, 5, 11, 21), (0, 5, 14, 13)]) (As := [.ref (ad 0), .int (xs (nI (i + 1)).toNatClampNeg)]) (rest := []) ⟨hx, hb, hml, hown, hts⟩ (c_L_lose l hlt D cI cD cL ad o _ V f a hR B (by omega) hWF (xs (nI (i + 1)).toNatClampNeg)) (vx_cwSW 2 hts gL_law_L_lose rfl rfl rfl (by decide +kernel) ⟨Nat.le_of_ble_eq_true rfl, Nat.le_of_ble_eq_true rfl⟩) (l_preS hK hKL hT9 hZ hN hD hS _) rfl rfl hl.1 rfl (lv_room (Nat.le_of_ble_eq_true rfl)) dL_law_418 ⟨hc, hs⟩) (fun r V1 f1 H locs hp hS => ?_)
  obtain ⟨e1, e4, hC⟩ := hp
  subst e1
  refine lv_istore (lv' := [(5, .int (nI (oLose a (xs (nI (i + 1)).toNatClampNeg)).1)), (4, .int (nI i)), (3, .ref o), (2, .ref (bd 0)), (1, .ref (ad 0)), (0, .ref b)]) hx hb dL_law_421 hl (by decide) rfl (fun ls hl => ?_)
  refine lv_aload_n hx hb dL_law_423 rfl (lv_at hl 3 rfl) ?_
  refine lv_aload_n hx hb dL_law_424 rfl (lv_at hl 5 rfl) ?_
  refine lv_iload hx hb dL_law_425 (lv_at hl 1 rfl) ?_
  refine lv_iconst (v := nI 1) hx hb dL_law_427 (by decide) ?_
  refine n_add hx hb dL_law_428 ?_
  refine va_sld hx hb hX hbl hbA hS.2.2.2 (vp_in_nI (show i + 1 < L by omega) (by omega)) dL_law_429 ?_
  refine l_mv hD hS (va_runV (As := [.int (xs (nI (i + 1)).toNatClampNeg)]) (rest := []) ⟨hx, hb, hml, hown, hts⟩ (a_X3_lose l D cI cD bd _ M a hM B (by omega) hWF (xs (nI (i + 1)).toNatClampNeg)) (cwV 1 hts gL_law_X3_lose rfl rfl rfl (by decide +kernel) ⟨Nat.le_of_ble_eq_true rfl, Nat.le_of_ble_eq_true rfl⟩) (l_preM hK hD hS _) rfl rfl hl.1 rfl (lv_room (Nat.le_of_ble_eq_true rfl)) dL_law_430 ⟨show cells + 4 ≤ 601024 by omega, show slots + 24 ≤ 7293034 by omega⟩) (fun M1 H locs hp hS => ?_)
  obtain ⟨g1, hM1⟩ := hp
  refine lv_aload_n hx hb dL_law_433 rfl (lv_at hl 3 rfl) ?_
  refine l_mi hD hS (va_runV (As := []) (rest := []) ⟨hx, hb, hml, hown, hts⟩ (c_X3_thrown l D cI cD bd _ M1 _ g1) (cwV 0 hts gL_law_X3_thrown rfl rfl rfl (by decide +kernel) ⟨Nat.le_of_ble_eq_true rfl, Nat.le_of_ble_eq_true rfl⟩) (l_preM hK hD hS _) rfl rfl hl.1 rfl (lv_room (Nat.le_of_ble_eq_true rfl)) dL_law_434 ⟨show cells + 4 ≤ 601024 by omega, show slots + 24 ≤ 7293034 by omega⟩) (fun r3 M2 H locs hp hS => ?_)
  obtain ⟨h8, h9⟩ := hp
  subst h8
  subst h9
  refine lv_iload hx hb dL_law_437 (lv_at hl 0 rfl) ?_
  refine lv_icmp_eq (tgt := 444) hx hb dL_law_439 (by decide) (fun _ => ?_) (fun c9 => absurd rfl c9)
  refine lv_goto (tgt := 919) hx hb dL_law_444 (by decide) ?_
  refine W.widen (k := cells + 4) (n := slots + 24) (by omega) (by omega) ?_
  exact hk V1 M1 f1 _ H locs ls hC hM1 (oLose_wf hWF) hS (lv_sub hl [1, 2, 3, 4, 5] rfl)
set_option maxHeartbeats 4000000 in
set_option maxRecDepth 100000 in
theorem lc_6 {p : Program} {l : Launch} {e : Env} {s : State} {m : MethodId} {below : List Frame} {meth : Method} {c : Code} {b L : Nat} {xs : Nat → Int32} {Q : State → Prop} {D : va_G} {cI cD cL : ClassId} {ad bd : Nat → Nat} {o : Nat} (hlt : l.stackTraces = false) (hx : p.tables.exec = Jvm.exec) (hb : c.code = cL_law) (hts : ∀ w ∈ wsL_law, w.before #[Value.ref b] s = true) (hown : s.vm.findClass RL = some m.cls) (hml : c.maxLocals = 7) (hX : va_X b L xs s s.heap) (hbl : b < s.heap.size) (hK : kK D cI cD s) (hKL : va_K D vwCl [(cL, .long)] s) (hT9 : kT s) (hZ : kZ (fun q => s.heap.size ≤ q) s s.heap) (hN : kN s) (hD : lD ad bd o s.heap.size) (hL : L ≤ 2048) {V M : vT} {f : Nat → Int64} {a : AS} {B i : Nat} (hi : i + 4 ≤ L) (hB : B < 9000) (hR : cR V a) (hM : mR M a) (hWF : WF B a) {H : Heap} {locs : List Loc} {cells slots : Nat} {ls : Array Slot} (hc : cells + 4 ≤ 601024) (hs : slots + 24 ≤ 7293034) (hS : lS D cI cD cL ad bd o s.heap V M f H locs) (hl : lv_has ls 7 [(4, .int (nI i)), (3, .ref o), (2, .ref (bd 0)), (1, .ref (ad 0)), (0, .ref b)])
    (hk : ∀ (V1 M1 : vT) (f1 : Nat → Int64) (a1 : AS) (H1 : Heap) (locs1 : List Loc) (ls1 : Array Slot), cR V1 a1 → mR M1 a1 → WF (B + 2) a1 → lS D cI cD cL ad bd o s.heap V1 M1 f1 H1 locs1 → lv_has ls1 7 [(4, .int (nI i)), (3, .ref o), (2, .ref (bd 0)), (1, .ref (ad 0)), (0, .ref b)] → W p l e room_1 s m #[Value.ref b] below meth c H1 locs1 (cells + 4) (slots + 24) Q (F0 m 919 ls1 [])) : W p l e room_1 s m #[Value.ref b] below meth c H locs cells slots Q (F0 m 447 ls []) := by
  have hbA : ¬ (fun q : Nat => s.heap.size ≤ q) b := Nat.not_le.mpr hbl
  refine lv_aload_n hx hb dL_law_447 rfl (lv_at hl 3 rfl) ?_
  refine lv_aload_n hx hb dL_law_448 rfl (lv_at hl 1 rfl) ?_
  refine l_wrap hD hS (vx_runSX (hh := [(0, 8, 11, 19), (0, 8, 14, 13)]) (As := [.ref (ad 0), .ref o]) (rest := []) ⟨hx, hb, hml, hown, hts⟩ (c_L_replace l hlt D cI cD cL ad o _ V f a hR B (by omega) hWF) (vx_cwSW 2 hts gL_law_L_replace rfl rfl rfl (by decide +kernel) ⟨Nat.le_of_ble_eq_true rfl, Nat.le_of_ble_eq_true rfl⟩) (l_preS hK hKL hT9 hZ hN hD hS _) rfl rfl hl.1 rfl (lv_room (Nat.le_of_ble_eq_true rfl)) dL_law_449 ⟨hc, hs⟩) (fun r V1 f1 H locs hp hS => ?_)
  obtain ⟨e1, e4, e2, hC⟩ := hp
  subst e1
  refine lv_istore (lv' := [(5, .int (nI (oReplace a).1)), (4, .int (nI i)), (3, .ref o), (2, .ref (bd 0)), (1, .ref (ad 0)), (0, .ref b)]) hx hb dL_law_452 hl (by decide) rfl (fun ls hl => ?_)
  refine lv_aload_n hx hb dL_law_454 rfl (lv_at hl 3 rfl) ?_
  refine l_mi hD hS (va_runV (As := []) (rest := []) ⟨hx, hb, hml, hown, hts⟩ (a_X3_replace l D cI cD bd _ M a hM B (by omega) hWF) (cwV 0 hts gL_law_X3_replace rfl rfl rfl (by decide +kernel) ⟨Nat.le_of_ble_eq_true rfl, Nat.le_of_ble_eq_true rfl⟩) (l_preM hK hD hS _) rfl rfl hl.1 rfl (lv_room (Nat.le_of_ble_eq_true rfl)) dL_law_455 ⟨show cells + 4 ≤ 601024 by omega, show slots + 24 ≤ 7293034 by omega⟩) (fun r2 M1 H locs hp hS => ?_)
  obtain ⟨g1, g2, hM1⟩ := hp
  refine lv_istore (lv' := [(6, .int r2), (5, .int (nI (oReplace a).1)), (4, .int (nI i)), (3, .ref o), (2, .ref (bd 0)), (1, .ref (ad 0)), (0, .ref b)]) hx hb dL_law_458 hl (by decide) rfl (fun ls hl => ?_)
  refine lv_aload_n hx hb dL_law_460 rfl (lv_at hl 4 rfl) ?_
  refine l_mi hD hS (va_runV (As := []) (rest := []) ⟨hx, hb, hml, hown, hts⟩ (c_X3_thrown l D cI cD bd _ M1 _ g1) (cwV 0 hts gL_law_X3_thrown rfl rfl rfl (by decide +kernel) ⟨Nat.le_of_ble_eq_true rfl, Nat.le_of_ble_eq_true rfl⟩) (l_preM hK hD hS _) rfl rfl hl.1 rfl (lv_room (Nat.le_of_ble_eq_true rfl)) dL_law_461 ⟨show cells + 4 ≤ 601024 by omega, show slots + 24 ≤ 7293034 by omega⟩) (fun r3 M2 H locs hp hS => ?_)
  obtain ⟨h8, h9⟩ := hp
  subst h8
  subst h9
  refine lv_iload hx hb dL_law_464 (lv_at hl 1 rfl) ?_
  refine lv_icmp_eq (tgt := 471) hx hb dL_law_466 (by decide) (fun _ => ?_) (fun c9 => absurd rfl c9)
  refine lv_iload hx hb dL_law_471 (lv_at hl 1 rfl) ?_
  refine lv_if_ne (tgt := 488) hx hb dL_law_473 (by decide) (fun c9 => ?_) (fun c9 => ?_)
  · refine lv_goto (tgt := 919) hx hb dL_law_488 (by decide) ?_
    refine W.widen (k := cells + 4) (n := slots + 24) (by omega) (by omega) ?_
    exact hk V1 M1 f1 _ H locs ls hC hM1 (oReplace_wf hWF) hS (lv_sub hl [2, 3, 4, 5, 6] rfl)
  · have z0 : (oReplace a).1 = 0 := (nI_eq (by omega) (by decide)).mp (c9.trans nI_0.symm)
    refine lv_aload_n hx hb dL_law_476 rfl (lv_at hl 3 rfl) ?_
    refine lv_iconst (v := nI 0) hx hb dL_law_477 (by decide) ?_
    refine l_lald hx hb hKL hS dL_law_478 ?_
    rw [show f1 0 = _ from e2 z0]
    have g3 := g2 z0
    subst g3
    refine lv_iload hx hb dL_law_479 (lv_at hl 0 rfl) ?_
    refine lv_i2l (v := (oReplace a).2.1.toInt64) hx hb dL_law_481 rfl ?_
    refine W.lcmp hx hb dL_law_482 ?_
    refine lv_if_eq (tgt := 488) hx hb dL_law_483 (by decide) (fun _ => ?_) (fun c8 => absurd (by simp [lg_cmp]) c8)
    refine lv_goto (tgt := 919) hx hb dL_law_488 (by decide) ?_
    refine W.widen (k := cells + 4) (n := slots + 24) (by omega) (by omega) ?_
    exact hk V1 M1 f1 _ H locs ls hC hM1 (oReplace_wf hWF) hS (lv_sub hl [2, 3, 4, 5, 6] rfl)
set_option maxHeartbeats 4000000 in
set_option maxRecDepth 100000 in
theorem lc_7 {p : Program} {l : Launch} {e : Env} {s : State} {m : MethodId} {below : List Frame} {meth : Method} {c : Code} {b L : Nat} {xs : Nat → Int32} {Q : State → Prop} {D : va_G} {cI cD cL : ClassId} {ad bd : Nat → Nat} {o : Nat} (hlt : l.stackTraces = false) (hx : p.tables.exec = Jvm.exec) (hb : c.code = cL_law) (hts : ∀ w ∈ wsL_law, w.before #[Value.ref b] s = true) (hown : s.vm.findClass RL = some m.cls) (hml : c.maxLocals = 7) (hX : va_X b L xs s s.heap) (hbl : b < s.heap.size) (hK : kK D cI cD s) (hKL : va_K D vwCl [(cL, .long)] s) (hT9 : kT s) (hZ : kZ (fun q => s.heap.size ≤ q) s s.heap) (hN : kN s) (hD : lD ad bd o s.heap.size) (hL : L ≤ 2048) {V M : vT} {f : Nat → Int64} {a : AS} {B i : Nat} (hi : i + 4 ≤ L) (hB : B < 9000) (hR : cR V a) (hM : mR M a) (hWF : WF B a) {H : Heap} {locs : List Loc} {cells slots : Nat} {ls : Array Slot} (hc : cells + 4 ≤ 601024) (hs : slots + 24 ≤ 7293034) (hS : lS D cI cD cL ad bd o s.heap V M f H locs) (hl : lv_has ls 7 [(4, .int (nI i)), (3, .ref o), (2, .ref (bd 0)), (1, .ref (ad 0)), (0, .ref b)])
    (hk : ∀ (V1 M1 : vT) (f1 : Nat → Int64) (a1 : AS) (H1 : Heap) (locs1 : List Loc) (ls1 : Array Slot), cR V1 a1 → mR M1 a1 → WF (B + 2) a1 → lS D cI cD cL ad bd o s.heap V1 M1 f1 H1 locs1 → lv_has ls1 7 [(4, .int (nI i)), (3, .ref o), (2, .ref (bd 0)), (1, .ref (ad 0)), (0, .ref b)] → W p l e room_1 s m #[Value.ref b] below meth c H1 locs1 (cells + 4) (slots + 24) Q (F0 m 919 ls1 [])) : W p l e room_1 s m #[Value.ref b] below meth c H locs cells slots Q (F0 m 491 ls []) := by
  have hbA : ¬ (fun q : Nat => s.heap.size ≤ q) b := Nat.not_le.mpr hbl
  refine lv_aload_n hx hb dL_law_491 rfl (lv_at hl 3 rfl) ?_
  refine lv_aload_n hx hb dL_law_492 rfl (lv_at hl 1 rfl) ?_
  refine l_wrap hD hS (vx_runSX (hh := [(0, 8, 11, 19), (0, 8, 14, 13)]) (As := [.ref (ad 0), .ref o]) (rest := []) ⟨hx, hb, hml, hown, hts⟩ (c_L_rebuild l hlt D cI cD cL ad o _ V f a hR B (by omega) hWF) (vx_cwSW 2 hts gL_law_L_rebuild rfl rfl rfl (by decide +kernel) ⟨Nat.le_of_ble_eq_true rfl, Nat.le_of_ble_eq_true rfl⟩) (l_preS hK hKL hT9 hZ hN hD hS _) rfl rfl hl.1 rfl (lv_room (Nat.le_of_ble_eq_true rfl)) dL_law_493 ⟨hc, hs⟩) (fun r V1 f1 H locs hp hS => ?_)
  obtain ⟨e1, e4, e2, hC⟩ := hp
  subst e1
  refine lv_istore (lv' := [(5, .int (nI (oRebuild a).1)), (4, .int (nI i)), (3, .ref o), (2, .ref (bd 0)), (1, .ref (ad 0)), (0, .ref b)]) hx hb dL_law_496 hl (by decide) rfl (fun ls hl => ?_)
  refine lv_aload_n hx hb dL_law_498 rfl (lv_at hl 3 rfl) ?_
  refine l_mi hD hS (va_runV (As := []) (rest := []) ⟨hx, hb, hml, hown, hts⟩ (a_X3_rebuild l D cI cD bd _ M a hM B (by omega) hWF) (cwV 0 hts gL_law_X3_rebuild rfl rfl rfl (by decide +kernel) ⟨Nat.le_of_ble_eq_true rfl, Nat.le_of_ble_eq_true rfl⟩) (l_preM hK hD hS _) rfl rfl hl.1 rfl (lv_room (Nat.le_of_ble_eq_true rfl)) dL_law_499 ⟨show cells + 4 ≤ 601024 by omega, show slots + 24 ≤ 7293034 by omega⟩) (fun r2 M1 H locs hp hS => ?_)
  obtain ⟨g1, g2, hM1⟩ := hp
  refine lv_istore (lv' := [(6, .int r2), (5, .int (nI (oRebuild a).1)), (4, .int (nI i)), (3, .ref o), (2, .ref (bd 0)), (1, .ref (ad 0)), (0, .ref b)]) hx hb dL_law_502 hl (by decide) rfl (fun ls hl => ?_)
  refine lv_aload_n hx hb dL_law_504 rfl (lv_at hl 4 rfl) ?_
  refine l_mi hD hS (va_runV (As := []) (rest := []) ⟨hx, hb, hml, hown, hts⟩ (c_X3_thrown l D cI cD bd _ M1 _ g1) (cwV 0 hts gL_law_X3_thrown rfl rfl rfl (by decide +kernel) ⟨Nat.le_of_ble_eq_true rfl, Nat.le_of_ble_eq_true rfl⟩) (l_preM hK hD hS _) rfl rfl hl.1 rfl (lv_room (Nat.le_of_ble_eq_true rfl)) dL_law_505 ⟨show cells + 4 ≤ 601024 by omega, show slots + 24 ≤ 7293034 by omega⟩) (fun r3 M2 H locs hp hS => ?_)
  obtain ⟨h8, h9⟩ := hp
  subst h8
  subst h9
  refine lv_iload hx hb dL_law_508 (lv_at hl 1 rfl) ?_
  refine lv_icmp_eq (tgt := 515) hx hb dL_law_510 (by decide) (fun _ => ?_) (fun c9 => absurd rfl c9)
  refine lv_iload hx hb dL_law_515 (lv_at hl 1 rfl) ?_
  refine lv_if_ne (tgt := 532) hx hb dL_law_517 (by decide) (fun c9 => ?_) (fun c9 => ?_)
  · refine lv_goto (tgt := 919) hx hb dL_law_532 (by decide) ?_
    refine W.widen (k := cells + 4) (n := slots + 24) (by omega) (by omega) ?_
    exact hk V1 M1 f1 _ H locs ls hC hM1 (oRebuild_wf (by omega) hWF) hS (lv_sub hl [2, 3, 4, 5, 6] rfl)
  · have z0 : (oRebuild a).1 = 0 := (nI_eq (by omega) (by decide)).mp (c9.trans nI_0.symm)
    refine lv_aload_n hx hb dL_law_520 rfl (lv_at hl 3 rfl) ?_
    refine lv_iconst (v := nI 0) hx hb dL_law_521 (by decide) ?_
    refine l_lald hx hb hKL hS dL_law_522 ?_
    rw [show f1 0 = _ from e2 z0]
    have g3 := g2 z0
    subst g3
    refine lv_iload hx hb dL_law_523 (lv_at hl 0 rfl) ?_
    refine lv_i2l (v := (oRebuild a).2.1.toInt64) hx hb dL_law_525 rfl ?_
    refine W.lcmp hx hb dL_law_526 ?_
    refine lv_if_eq (tgt := 532) hx hb dL_law_527 (by decide) (fun _ => ?_) (fun c8 => absurd (by simp [lg_cmp]) c8)
    refine lv_goto (tgt := 919) hx hb dL_law_532 (by decide) ?_
    refine W.widen (k := cells + 4) (n := slots + 24) (by omega) (by omega) ?_
    exact hk V1 M1 f1 _ H locs ls hC hM1 (oRebuild_wf (by omega) hWF) hS (lv_sub hl [2, 3, 4, 5, 6] rfl)
set_option maxHeartbeats 4000000 in
set_option maxRecDepth 100000 in
theorem lc_8 {p : Program} {l : Launch} {e : Env} {s : State} {m : MethodId} {below : List Frame} {meth : Method} {c : Code} {b L : Nat} {xs : Nat → Int32} {Q : State → Prop} {D : va_G} {cI cD cL : ClassId} {ad bd : Nat → Nat} {o : Nat} (hlt : l.stackTraces = false) (hx : p.tables.exec = Jvm.exec) (hb : c.code = cL_law) (hts : ∀ w ∈ wsL_law, w.before #[Value.ref b] s = true) (hown : s.vm.findClass RL = some m.cls) (hml : c.maxLocals = 7) (hX : va_X b L xs s s.heap) (hbl : b < s.heap.size) (hK : kK D cI cD s) (hKL : va_K D vwCl [(cL, .long)] s) (hT9 : kT s) (hZ : kZ (fun q => s.heap.size ≤ q) s s.heap) (hN : kN s) (hD : lD ad bd o s.heap.size) (hL : L ≤ 2048) {V M : vT} {f : Nat → Int64} {a : AS} {B i : Nat} (hi : i + 4 ≤ L) (hB : B < 9000) (hR : cR V a) (hM : mR M a) (hWF : WF B a) {H : Heap} {locs : List Loc} {cells slots : Nat} {ls : Array Slot} (hc : cells + 4 ≤ 601024) (hs : slots + 24 ≤ 7293034) (hS : lS D cI cD cL ad bd o s.heap V M f H locs) (hl : lv_has ls 7 [(4, .int (nI i)), (3, .ref o), (2, .ref (bd 0)), (1, .ref (ad 0)), (0, .ref b)])
    (hk : ∀ (V1 M1 : vT) (f1 : Nat → Int64) (a1 : AS) (H1 : Heap) (locs1 : List Loc) (ls1 : Array Slot), cR V1 a1 → mR M1 a1 → WF (B + 2) a1 → lS D cI cD cL ad bd o s.heap V1 M1 f1 H1 locs1 → lv_has ls1 7 [(4, .int (nI i)), (3, .ref o), (2, .ref (bd 0)), (1, .ref (ad 0)), (0, .ref b)] → W p l e room_1 s m #[Value.ref b] below meth c H1 locs1 (cells + 4) (slots + 24) Q (F0 m 919 ls1 [])) : W p l e room_1 s m #[Value.ref b] below meth c H locs cells slots Q (F0 m 535 ls []) := by
  have hbA : ¬ (fun q : Nat => s.heap.size ≤ q) b := Nat.not_le.mpr hbl
  refine lv_aload_n hx hb dL_law_535 rfl (lv_at hl 3 rfl) ?_
  refine lv_aload_n hx hb dL_law_536 rfl (lv_at hl 4 rfl) ?_
  refine lv_iload hx hb dL_law_537 (lv_at hl 0 rfl) ?_
  refine lv_iconst (v := nI 1) hx hb dL_law_539 (by decide) ?_
  refine n_add hx hb dL_law_540 ?_
  refine va_sld hx hb hX hbl hbA hS.2.2.2 (vp_in_nI (show i + 1 < L by omega) (by omega)) dL_law_541 ?_
  refine lv_aload_n hx hb dL_law_542 rfl (lv_at hl 4 rfl) ?_
  refine lv_iload hx hb dL_law_543 (lv_at hl 0 rfl) ?_
  refine lv_iconst (v := nI 2) hx hb dL_law_545 (by decide) ?_
  refine n_add hx hb dL_law_546 ?_
  refine va_sld hx hb hX hbl hbA hS.2.2.2 (vp_in_nI (show i + 2 < L by omega) (by omega)) dL_law_547 ?_
  refine l_wrap hD hS (vx_runSX (hh := [(0, 6, 9, 19), (0, 6, 12, 13)]) (As := [.ref (ad 0), .int (xs (nI (i + 1)).toNatClampNeg), .int (xs (nI (i + 2)).toNatClampNeg)]) (rest := []) ⟨hx, hb, hml, hown, hts⟩ (c_L_crash l hlt D cI cD cL ad o _ V f a hR B (by omega) hWF (xs (nI (i + 1)).toNatClampNeg) (xs (nI (i + 2)).toNatClampNeg)) (vx_cwSW 3 hts gL_law_L_crash rfl rfl rfl (by decide +kernel) ⟨Nat.le_of_ble_eq_true rfl, Nat.le_of_ble_eq_true rfl⟩) (l_preS hK hKL hT9 hZ hN hD hS _) rfl rfl hl.1 rfl (lv_room (Nat.le_of_ble_eq_true rfl)) dL_law_548 ⟨hc, hs⟩) (fun r V1 f1 H locs hp hS => ?_)
  obtain ⟨e1, e4, hC⟩ := hp
  subst e1
  refine lv_istore (lv' := [(5, .int (nI (oCrash a (xs (nI (i + 1)).toNatClampNeg) (xs (nI (i + 2)).toNatClampNeg)).1)), (4, .int (nI i)), (3, .ref o), (2, .ref (bd 0)), (1, .ref (ad 0)), (0, .ref b)]) hx hb dL_law_551 hl (by decide) rfl (fun ls hl => ?_)
  refine lv_aload_n hx hb dL_law_553 rfl (lv_at hl 3 rfl) ?_
  refine lv_aload_n hx hb dL_law_554 rfl (lv_at hl 5 rfl) ?_
  refine lv_iload hx hb dL_law_555 (lv_at hl 1 rfl) ?_
  refine lv_iconst (v := nI 1) hx hb dL_law_557 (by decide) ?_
  refine n_add hx hb dL_law_558 ?_
  refine va_sld hx hb hX hbl hbA hS.2.2.2 (vp_in_nI (show i + 1 < L by omega) (by omega)) dL_law_559 ?_
  refine lv_aload_n hx hb dL_law_560 rfl (lv_at hl 5 rfl) ?_
  refine lv_iload hx hb dL_law_561 (lv_at hl 1 rfl) ?_
  refine lv_iconst (v := nI 2) hx hb dL_law_563 (by decide) ?_
  refine n_add hx hb dL_law_564 ?_
  refine va_sld hx hb hX hbl hbA hS.2.2.2 (vp_in_nI (show i + 2 < L by omega) (by omega)) dL_law_565 ?_
  refine l_mv hD hS (va_runV (As := [.int (xs (nI (i + 1)).toNatClampNeg), .int (xs (nI (i + 2)).toNatClampNeg)]) (rest := []) ⟨hx, hb, hml, hown, hts⟩ (a_X3_crash l D cI cD bd _ M a hM B (by omega) hWF (xs (nI (i + 1)).toNatClampNeg) (xs (nI (i + 2)).toNatClampNeg)) (cwV 2 hts gL_law_X3_crash rfl rfl rfl (by decide +kernel) ⟨Nat.le_of_ble_eq_true rfl, Nat.le_of_ble_eq_true rfl⟩) (l_preM hK hD hS _) rfl rfl hl.1 rfl (lv_room (Nat.le_of_ble_eq_true rfl)) dL_law_566 ⟨show cells + 4 ≤ 601024 by omega, show slots + 24 ≤ 7293034 by omega⟩) (fun M1 H locs hp hS => ?_)
  obtain ⟨g1, hM1⟩ := hp
  refine lv_aload_n hx hb dL_law_569 rfl (lv_at hl 3 rfl) ?_
  refine l_mi hD hS (va_runV (As := []) (rest := []) ⟨hx, hb, hml, hown, hts⟩ (c_X3_thrown l D cI cD bd _ M1 _ g1) (cwV 0 hts gL_law_X3_thrown rfl rfl rfl (by decide +kernel) ⟨Nat.le_of_ble_eq_true rfl, Nat.le_of_ble_eq_true rfl⟩) (l_preM hK hD hS _) rfl rfl hl.1 rfl (lv_room (Nat.le_of_ble_eq_true rfl)) dL_law_570 ⟨show cells + 4 ≤ 601024 by omega, show slots + 24 ≤ 7293034 by omega⟩) (fun r3 M2 H locs hp hS => ?_)
  obtain ⟨h8, h9⟩ := hp
  subst h8
  subst h9
  refine lv_iload hx hb dL_law_573 (lv_at hl 0 rfl) ?_
  refine lv_icmp_eq (tgt := 580) hx hb dL_law_575 (by decide) (fun _ => ?_) (fun c9 => absurd rfl c9)
  refine lv_goto (tgt := 919) hx hb dL_law_580 (by decide) ?_
  refine W.widen (k := cells + 4) (n := slots + 24) (by omega) (by omega) ?_
  exact hk V1 M1 f1 _ H locs ls hC hM1 (oCrash_wf hWF) hS (lv_sub hl [1, 2, 3, 4, 5] rfl)
set_option maxHeartbeats 4000000 in
set_option maxRecDepth 100000 in
theorem lc_9 {p : Program} {l : Launch} {e : Env} {s : State} {m : MethodId} {below : List Frame} {meth : Method} {c : Code} {b L : Nat} {xs : Nat → Int32} {Q : State → Prop} {D : va_G} {cI cD cL : ClassId} {ad bd : Nat → Nat} {o : Nat} (hlt : l.stackTraces = false) (hx : p.tables.exec = Jvm.exec) (hb : c.code = cL_law) (hts : ∀ w ∈ wsL_law, w.before #[Value.ref b] s = true) (hown : s.vm.findClass RL = some m.cls) (hml : c.maxLocals = 7) (hX : va_X b L xs s s.heap) (hbl : b < s.heap.size) (hK : kK D cI cD s) (hKL : va_K D vwCl [(cL, .long)] s) (hT9 : kT s) (hZ : kZ (fun q => s.heap.size ≤ q) s s.heap) (hN : kN s) (hD : lD ad bd o s.heap.size) (hL : L ≤ 2048) {V M : vT} {f : Nat → Int64} {a : AS} {B i : Nat} (hi : i + 4 ≤ L) (hB : B < 9000) (hR : cR V a) (hM : mR M a) (hWF : WF B a) {H : Heap} {locs : List Loc} {cells slots : Nat} {ls : Array Slot} (hc : cells + 4 ≤ 601024) (hs : slots + 24 ≤ 7293034) (hS : lS D cI cD cL ad bd o s.heap V M f H locs) (hl : lv_has ls 7 [(4, .int (nI i)), (3, .ref o), (2, .ref (bd 0)), (1, .ref (ad 0)), (0, .ref b)])
    (hk : ∀ (V1 M1 : vT) (f1 : Nat → Int64) (a1 : AS) (H1 : Heap) (locs1 : List Loc) (ls1 : Array Slot), cR V1 a1 → mR M1 a1 → WF (B + 2) a1 → lS D cI cD cL ad bd o s.heap V1 M1 f1 H1 locs1 → lv_has ls1 7 [(4, .int (nI i)), (3, .ref o), (2, .ref (bd 0)), (1, .ref (ad 0)), (0, .ref b)] → W p l e room_1 s m #[Value.ref b] below meth c H1 locs1 (cells + 4) (slots + 24) Q (F0 m 919 ls1 [])) : W p l e room_1 s m #[Value.ref b] below meth c H locs cells slots Q (F0 m 583 ls []) := by
  have hbA : ¬ (fun q : Nat => s.heap.size ≤ q) b := Nat.not_le.mpr hbl
  refine lv_aload_n hx hb dL_law_583 rfl (lv_at hl 3 rfl) ?_
  refine lv_aload_n hx hb dL_law_584 rfl (lv_at hl 1 rfl) ?_
  refine l_wrap hD hS (vx_runSX (hh := [(0, 8, 11, 19)]) (As := [.ref (ad 0), .ref o]) (rest := []) ⟨hx, hb, hml, hown, hts⟩ (c_L_start l hlt D cI cD cL ad o _ V f a hR B (by omega) hWF) (vx_cwSW 2 hts gL_law_L_start rfl rfl rfl (by decide +kernel) ⟨Nat.le_of_ble_eq_true rfl, Nat.le_of_ble_eq_true rfl⟩) (l_preS hK hKL hT9 hZ hN hD hS _) rfl rfl hl.1 rfl (lv_room (Nat.le_of_ble_eq_true rfl)) dL_law_585 ⟨hc, hs⟩) (fun r V1 f1 H locs hp hS => ?_)
  obtain ⟨e1, e4, e2, hC⟩ := hp
  subst e1
  refine lv_istore (lv' := [(5, .int (nI (oStart a).1)), (4, .int (nI i)), (3, .ref o), (2, .ref (bd 0)), (1, .ref (ad 0)), (0, .ref b)]) hx hb dL_law_588 hl (by decide) rfl (fun ls hl => ?_)
  refine lv_aload_n hx hb dL_law_590 rfl (lv_at hl 3 rfl) ?_
  refine l_mi hD hS (va_runV (As := []) (rest := []) ⟨hx, hb, hml, hown, hts⟩ (a_X3_start l D cI cD bd _ M a hM B (by omega) hWF) (cwV 0 hts gL_law_X3_start rfl rfl rfl (by decide +kernel) ⟨Nat.le_of_ble_eq_true rfl, Nat.le_of_ble_eq_true rfl⟩) (l_preM hK hD hS _) rfl rfl hl.1 rfl (lv_room (Nat.le_of_ble_eq_true rfl)) dL_law_591 ⟨show cells + 4 ≤ 601024 by omega, show slots + 24 ≤ 7293034 by omega⟩) (fun r2 M1 H locs hp hS => ?_)
  obtain ⟨g1, g2, hM1⟩ := hp
  refine lv_istore (lv' := [(6, .int r2), (5, .int (nI (oStart a).1)), (4, .int (nI i)), (3, .ref o), (2, .ref (bd 0)), (1, .ref (ad 0)), (0, .ref b)]) hx hb dL_law_594 hl (by decide) rfl (fun ls hl => ?_)
  refine lv_aload_n hx hb dL_law_596 rfl (lv_at hl 4 rfl) ?_
  refine l_mi hD hS (va_runV (As := []) (rest := []) ⟨hx, hb, hml, hown, hts⟩ (c_X3_thrown l D cI cD bd _ M1 _ g1) (cwV 0 hts gL_law_X3_thrown rfl rfl rfl (by decide +kernel) ⟨Nat.le_of_ble_eq_true rfl, Nat.le_of_ble_eq_true rfl⟩) (l_preM hK hD hS _) rfl rfl hl.1 rfl (lv_room (Nat.le_of_ble_eq_true rfl)) dL_law_597 ⟨show cells + 4 ≤ 601024 by omega, show slots + 24 ≤ 7293034 by omega⟩) (fun r3 M2 H locs hp hS => ?_)
  obtain ⟨h8, h9⟩ := hp
  subst h8
  subst h9
  refine lv_iload hx hb dL_law_600 (lv_at hl 1 rfl) ?_
  refine lv_icmp_eq (tgt := 607) hx hb dL_law_602 (by decide) (fun _ => ?_) (fun c9 => absurd rfl c9)
  refine lv_iload hx hb dL_law_607 (lv_at hl 1 rfl) ?_
  refine lv_if_ne (tgt := 624) hx hb dL_law_609 (by decide) (fun c9 => ?_) (fun c9 => ?_)
  · refine lv_goto (tgt := 919) hx hb dL_law_624 (by decide) ?_
    refine W.widen (k := cells + 4) (n := slots + 24) (by omega) (by omega) ?_
    exact hk V1 M1 f1 _ H locs ls hC hM1 (oStart_wf (by omega) hWF) hS (lv_sub hl [2, 3, 4, 5, 6] rfl)
  · have z0 : (oStart a).1 = 0 := (nI_eq (by omega) (by decide)).mp (c9.trans nI_0.symm)
    refine lv_aload_n hx hb dL_law_612 rfl (lv_at hl 3 rfl) ?_
    refine lv_iconst (v := nI 0) hx hb dL_law_613 (by decide) ?_
    refine l_lald hx hb hKL hS dL_law_614 ?_
    rw [show f1 0 = _ from e2 z0]
    have g3 := g2 z0
    subst g3
    refine lv_iload hx hb dL_law_615 (lv_at hl 0 rfl) ?_
    refine lv_i2l (v := (oStart a).2.1.toInt64) hx hb dL_law_617 rfl ?_
    refine W.lcmp hx hb dL_law_618 ?_
    refine lv_if_eq (tgt := 624) hx hb dL_law_619 (by decide) (fun _ => ?_) (fun c8 => absurd (by simp [lg_cmp]) c8)
    refine lv_goto (tgt := 919) hx hb dL_law_624 (by decide) ?_
    refine W.widen (k := cells + 4) (n := slots + 24) (by omega) (by omega) ?_
    exact hk V1 M1 f1 _ H locs ls hC hM1 (oStart_wf (by omega) hWF) hS (lv_sub hl [2, 3, 4, 5, 6] rfl)
set_option maxHeartbeats 4000000 in
set_option maxRecDepth 100000 in
theorem lc_10 {p : Program} {l : Launch} {e : Env} {s : State} {m : MethodId} {below : List Frame} {meth : Method} {c : Code} {b L : Nat} {xs : Nat → Int32} {Q : State → Prop} {D : va_G} {cI cD cL : ClassId} {ad bd : Nat → Nat} {o : Nat} (hlt : l.stackTraces = false) (hx : p.tables.exec = Jvm.exec) (hb : c.code = cL_law) (hts : ∀ w ∈ wsL_law, w.before #[Value.ref b] s = true) (hown : s.vm.findClass RL = some m.cls) (hml : c.maxLocals = 7) (hX : va_X b L xs s s.heap) (hbl : b < s.heap.size) (hK : kK D cI cD s) (hKL : va_K D vwCl [(cL, .long)] s) (hT9 : kT s) (hZ : kZ (fun q => s.heap.size ≤ q) s s.heap) (hN : kN s) (hD : lD ad bd o s.heap.size) (hL : L ≤ 2048) {V M : vT} {f : Nat → Int64} {a : AS} {B i : Nat} (hi : i + 4 ≤ L) (hB : B < 9000) (hR : cR V a) (hM : mR M a) (hWF : WF B a) {H : Heap} {locs : List Loc} {cells slots : Nat} {ls : Array Slot} (hc : cells + 4 ≤ 601024) (hs : slots + 24 ≤ 7293034) (hS : lS D cI cD cL ad bd o s.heap V M f H locs) (hl : lv_has ls 7 [(4, .int (nI i)), (3, .ref o), (2, .ref (bd 0)), (1, .ref (ad 0)), (0, .ref b)])
    (hk : ∀ (V1 M1 : vT) (f1 : Nat → Int64) (a1 : AS) (H1 : Heap) (locs1 : List Loc) (ls1 : Array Slot), cR V1 a1 → mR M1 a1 → WF (B + 2) a1 → lS D cI cD cL ad bd o s.heap V1 M1 f1 H1 locs1 → lv_has ls1 7 [(4, .int (nI i)), (3, .ref o), (2, .ref (bd 0)), (1, .ref (ad 0)), (0, .ref b)] → W p l e room_1 s m #[Value.ref b] below meth c H1 locs1 (cells + 4) (slots + 24) Q (F0 m 919 ls1 [])) : W p l e room_1 s m #[Value.ref b] below meth c H locs cells slots Q (F0 m 627 ls []) := by
  have hbA : ¬ (fun q : Nat => s.heap.size ≤ q) b := Nat.not_le.mpr hbl
  refine lv_aload_n hx hb dL_law_627 rfl (lv_at hl 3 rfl) ?_
  refine lv_aload_n hx hb dL_law_628 rfl (lv_at hl 4 rfl) ?_
  refine lv_iload hx hb dL_law_629 (lv_at hl 0 rfl) ?_
  refine lv_iconst (v := nI 1) hx hb dL_law_631 (by decide) ?_
  refine n_add hx hb dL_law_632 ?_
  refine va_sld hx hb hX hbl hbA hS.2.2.2 (vp_in_nI (show i + 1 < L by omega) (by omega)) dL_law_633 ?_
  refine lv_aload_n hx hb dL_law_634 rfl (lv_at hl 1 rfl) ?_
  refine l_wrap hD hS (vx_runSX (hh := [(0, 16, 19, 19), (0, 16, 22, 21), (0, 16, 25, 13)]) (As := [.ref (ad 0), .int (xs (nI (i + 1)).toNatClampNeg), .ref o]) (rest := []) ⟨hx, hb, hml, hown, hts⟩ (c_L_good l hlt D cI cD cL ad o _ V f a hR B (by omega) hWF (xs (nI (i + 1)).toNatClampNeg)) (vx_cwSW 3 hts gL_law_L_good rfl rfl rfl (by decide +kernel) ⟨Nat.le_of_ble_eq_true rfl, Nat.le_of_ble_eq_true rfl⟩) (l_preS hK hKL hT9 hZ hN hD hS _) rfl rfl hl.1 rfl (lv_room (Nat.le_of_ble_eq_true rfl)) dL_law_635 ⟨hc, hs⟩) (fun r V1 f1 H locs hp hS => ?_)
  obtain ⟨e1, e4, e2, hC⟩ := hp
  subst e1
  refine lv_istore (lv' := [(5, .int (nI (oGood a (xs (nI (i + 1)).toNatClampNeg)).1)), (4, .int (nI i)), (3, .ref o), (2, .ref (bd 0)), (1, .ref (ad 0)), (0, .ref b)]) hx hb dL_law_638 hl (by decide) rfl (fun ls hl => ?_)
  refine lv_aload_n hx hb dL_law_640 rfl (lv_at hl 3 rfl) ?_
  refine lv_aload_n hx hb dL_law_641 rfl (lv_at hl 5 rfl) ?_
  refine lv_iload hx hb dL_law_642 (lv_at hl 1 rfl) ?_
  refine lv_iconst (v := nI 1) hx hb dL_law_644 (by decide) ?_
  refine n_add hx hb dL_law_645 ?_
  refine va_sld hx hb hX hbl hbA hS.2.2.2 (vp_in_nI (show i + 1 < L by omega) (by omega)) dL_law_646 ?_
  refine l_mi hD hS (va_runV (As := [.int (xs (nI (i + 1)).toNatClampNeg)]) (rest := []) ⟨hx, hb, hml, hown, hts⟩ (a_X3_good l D cI cD bd _ M a hM B (by omega) hWF (xs (nI (i + 1)).toNatClampNeg)) (cwV 1 hts gL_law_X3_good rfl rfl rfl (by decide +kernel) ⟨Nat.le_of_ble_eq_true rfl, Nat.le_of_ble_eq_true rfl⟩) (l_preM hK hD hS _) rfl rfl hl.1 rfl (lv_room (Nat.le_of_ble_eq_true rfl)) dL_law_647 ⟨show cells + 4 ≤ 601024 by omega, show slots + 24 ≤ 7293034 by omega⟩) (fun r2 M1 H locs hp hS => ?_)
  obtain ⟨g1, g2, hM1⟩ := hp
  refine lv_istore (lv' := [(6, .int r2), (5, .int (nI (oGood a (xs (nI (i + 1)).toNatClampNeg)).1)), (4, .int (nI i)), (3, .ref o), (2, .ref (bd 0)), (1, .ref (ad 0)), (0, .ref b)]) hx hb dL_law_650 hl (by decide) rfl (fun ls hl => ?_)
  refine lv_aload_n hx hb dL_law_652 rfl (lv_at hl 4 rfl) ?_
  refine l_mi hD hS (va_runV (As := []) (rest := []) ⟨hx, hb, hml, hown, hts⟩ (c_X3_thrown l D cI cD bd _ M1 _ g1) (cwV 0 hts gL_law_X3_thrown rfl rfl rfl (by decide +kernel) ⟨Nat.le_of_ble_eq_true rfl, Nat.le_of_ble_eq_true rfl⟩) (l_preM hK hD hS _) rfl rfl hl.1 rfl (lv_room (Nat.le_of_ble_eq_true rfl)) dL_law_653 ⟨show cells + 4 ≤ 601024 by omega, show slots + 24 ≤ 7293034 by omega⟩) (fun r3 M2 H locs hp hS => ?_)
  obtain ⟨h8, h9⟩ := hp
  subst h8
  subst h9
  refine lv_iload hx hb dL_law_656 (lv_at hl 1 rfl) ?_
  refine lv_icmp_eq (tgt := 663) hx hb dL_law_658 (by decide) (fun _ => ?_) (fun c9 => absurd rfl c9)
  refine lv_iload hx hb dL_law_663 (lv_at hl 1 rfl) ?_
  refine lv_if_ne (tgt := 687) hx hb dL_law_665 (by decide) (fun c9 => ?_) (fun c9 => ?_)
  · refine lv_goto (tgt := 919) hx hb dL_law_687 (by decide) ?_
    refine W.widen (k := cells + 4) (n := slots + 24) (by omega) (by omega) ?_
    exact hk V1 M1 f1 _ H locs ls hC hM1 (by rw [oGood_a]; exact WF.le (by omega) hWF) hS (lv_sub hl [2, 3, 4, 5, 6] rfl)
  · have z0 : (oGood a (xs (nI (i + 1)).toNatClampNeg)).1 = 0 := (nI_eq (by omega) (by decide)).mp (c9.trans nI_0.symm)
    refine lv_aload_n hx hb dL_law_668 rfl (lv_at hl 3 rfl) ?_
    refine lv_iconst (v := nI 0) hx hb dL_law_669 (by decide) ?_
    refine l_lald hx hb hKL hS dL_law_670 ?_
    rw [show f1 0 = _ from e2 z0]
    have g3 := g2 z0
    subst g3
    refine lv_iload hx hb dL_law_671 (lv_at hl 0 rfl) ?_
    refine lv_if_eq (tgt := 680) hx hb dL_law_673 (by decide) (fun c7 => ?_) (fun c7 => ?_)
    · rw [if_pos c7]
      refine lv_lconst (v := 0) hx hb dL_law_680 (by decide) ?_
      refine W.lcmp hx hb dL_law_681 ?_
      refine lv_if_eq (tgt := 687) hx hb dL_law_682 (by decide) (fun _ => ?_) (fun c8 => absurd (by simp [lg_cmp]) c8)
      refine lv_goto (tgt := 919) hx hb dL_law_687 (by decide) ?_
      refine W.widen (k := cells + 4) (n := slots + 24) (by omega) (by omega) ?_
      exact hk V1 M1 f1 _ H locs ls hC hM1 (by rw [oGood_a]; exact WF.le (by omega) hWF) hS (lv_sub hl [2, 3, 4, 5, 6] rfl)
    · rw [if_neg c7]
      refine lv_lconst (v := 1) hx hb dL_law_676 (by decide) ?_
      refine lv_goto (tgt := 681) hx hb dL_law_677 (by decide) ?_
      refine W.lcmp hx hb dL_law_681 ?_
      refine lv_if_eq (tgt := 687) hx hb dL_law_682 (by decide) (fun _ => ?_) (fun c8 => absurd (by simp [lg_cmp]) c8)
      refine lv_goto (tgt := 919) hx hb dL_law_687 (by decide) ?_
      refine W.widen (k := cells + 4) (n := slots + 24) (by omega) (by omega) ?_
      exact hk V1 M1 f1 _ H locs ls hC hM1 (by rw [oGood_a]; exact WF.le (by omega) hWF) hS (lv_sub hl [2, 3, 4, 5, 6] rfl)
set_option maxHeartbeats 4000000 in
set_option maxRecDepth 100000 in
theorem lc_11 {p : Program} {l : Launch} {e : Env} {s : State} {m : MethodId} {below : List Frame} {meth : Method} {c : Code} {b L : Nat} {xs : Nat → Int32} {Q : State → Prop} {D : va_G} {cI cD cL : ClassId} {ad bd : Nat → Nat} {o : Nat} (hlt : l.stackTraces = false) (hx : p.tables.exec = Jvm.exec) (hb : c.code = cL_law) (hts : ∀ w ∈ wsL_law, w.before #[Value.ref b] s = true) (hown : s.vm.findClass RL = some m.cls) (hml : c.maxLocals = 7) (hX : va_X b L xs s s.heap) (hbl : b < s.heap.size) (hK : kK D cI cD s) (hKL : va_K D vwCl [(cL, .long)] s) (hT9 : kT s) (hZ : kZ (fun q => s.heap.size ≤ q) s s.heap) (hN : kN s) (hD : lD ad bd o s.heap.size) (hL : L ≤ 2048) {V M : vT} {f : Nat → Int64} {a : AS} {B i : Nat} (hi : i + 4 ≤ L) (hB : B < 9000) (hR : cR V a) (hM : mR M a) (hWF : WF B a) {H : Heap} {locs : List Loc} {cells slots : Nat} {ls : Array Slot} (hc : cells + 4 ≤ 601024) (hs : slots + 24 ≤ 7293034) (hS : lS D cI cD cL ad bd o s.heap V M f H locs) (hl : lv_has ls 7 [(4, .int (nI i)), (3, .ref o), (2, .ref (bd 0)), (1, .ref (ad 0)), (0, .ref b)])
    (hk : ∀ (V1 M1 : vT) (f1 : Nat → Int64) (a1 : AS) (H1 : Heap) (locs1 : List Loc) (ls1 : Array Slot), cR V1 a1 → mR M1 a1 → WF (B + 2) a1 → lS D cI cD cL ad bd o s.heap V1 M1 f1 H1 locs1 → lv_has ls1 7 [(4, .int (nI i)), (3, .ref o), (2, .ref (bd 0)), (1, .ref (ad 0)), (0, .ref b)] → W p l e room_1 s m #[Value.ref b] below meth c H1 locs1 (cells + 4) (slots + 24) Q (F0 m 919 ls1 [])) : W p l e room_1 s m #[Value.ref b] below meth c H locs cells slots Q (F0 m 690 ls []) := by
  have hbA : ¬ (fun q : Nat => s.heap.size ≤ q) b := Nat.not_le.mpr hbl
  refine lv_aload_n hx hb dL_law_690 rfl (lv_at hl 3 rfl) ?_
  refine lv_aload_n hx hb dL_law_691 rfl (lv_at hl 4 rfl) ?_
  refine lv_iload hx hb dL_law_692 (lv_at hl 0 rfl) ?_
  refine lv_iconst (v := nI 1) hx hb dL_law_694 (by decide) ?_
  refine n_add hx hb dL_law_695 ?_
  refine va_sld hx hb hX hbl hbA hS.2.2.2 (vp_in_nI (show i + 1 < L by omega) (by omega)) dL_law_696 ?_
  refine lv_aload_n hx hb dL_law_697 rfl (lv_at hl 1 rfl) ?_
  refine l_wrap hD hS (vx_runSX (hh := [(0, 9, 12, 19), (0, 9, 15, 21)]) (As := [.ref (ad 0), .int (xs (nI (i + 1)).toNatClampNeg), .ref o]) (rest := []) ⟨hx, hb, hml, hown, hts⟩ (c_L_layout l hlt D cI cD cL ad o _ V f a hR B (by omega) hWF (xs (nI (i + 1)).toNatClampNeg)) (vx_cwSW 3 hts gL_law_L_layout rfl rfl rfl (by decide +kernel) ⟨Nat.le_of_ble_eq_true rfl, Nat.le_of_ble_eq_true rfl⟩) (l_preS hK hKL hT9 hZ hN hD hS _) rfl rfl hl.1 rfl (lv_room (Nat.le_of_ble_eq_true rfl)) dL_law_698 ⟨hc, hs⟩) (fun r V1 f1 H locs hp hS => ?_)
  obtain ⟨e1, e4, e2, hC⟩ := hp
  subst e1
  refine lv_istore (lv' := [(5, .int (nI (oLayout a (xs (nI (i + 1)).toNatClampNeg)).1)), (4, .int (nI i)), (3, .ref o), (2, .ref (bd 0)), (1, .ref (ad 0)), (0, .ref b)]) hx hb dL_law_701 hl (by decide) rfl (fun ls hl => ?_)
  refine lv_aload_n hx hb dL_law_703 rfl (lv_at hl 3 rfl) ?_
  refine lv_aload_n hx hb dL_law_704 rfl (lv_at hl 5 rfl) ?_
  refine lv_iload hx hb dL_law_705 (lv_at hl 1 rfl) ?_
  refine lv_iconst (v := nI 1) hx hb dL_law_707 (by decide) ?_
  refine n_add hx hb dL_law_708 ?_
  refine va_sld hx hb hX hbl hbA hS.2.2.2 (vp_in_nI (show i + 1 < L by omega) (by omega)) dL_law_709 ?_
  refine l_mi hD hS (va_runV (As := [.int (xs (nI (i + 1)).toNatClampNeg)]) (rest := []) ⟨hx, hb, hml, hown, hts⟩ (a_X3_layout l D cI cD bd _ M a hM B (by omega) hWF (xs (nI (i + 1)).toNatClampNeg)) (cwV 1 hts gL_law_X3_layout rfl rfl rfl (by decide +kernel) ⟨Nat.le_of_ble_eq_true rfl, Nat.le_of_ble_eq_true rfl⟩) (l_preM hK hD hS _) rfl rfl hl.1 rfl (lv_room (Nat.le_of_ble_eq_true rfl)) dL_law_710 ⟨show cells + 4 ≤ 601024 by omega, show slots + 24 ≤ 7293034 by omega⟩) (fun r2 M1 H locs hp hS => ?_)
  obtain ⟨g1, g2, hM1⟩ := hp
  refine lv_istore (lv' := [(6, .int r2), (5, .int (nI (oLayout a (xs (nI (i + 1)).toNatClampNeg)).1)), (4, .int (nI i)), (3, .ref o), (2, .ref (bd 0)), (1, .ref (ad 0)), (0, .ref b)]) hx hb dL_law_713 hl (by decide) rfl (fun ls hl => ?_)
  refine lv_aload_n hx hb dL_law_715 rfl (lv_at hl 4 rfl) ?_
  refine l_mi hD hS (va_runV (As := []) (rest := []) ⟨hx, hb, hml, hown, hts⟩ (c_X3_thrown l D cI cD bd _ M1 _ g1) (cwV 0 hts gL_law_X3_thrown rfl rfl rfl (by decide +kernel) ⟨Nat.le_of_ble_eq_true rfl, Nat.le_of_ble_eq_true rfl⟩) (l_preM hK hD hS _) rfl rfl hl.1 rfl (lv_room (Nat.le_of_ble_eq_true rfl)) dL_law_716 ⟨show cells + 4 ≤ 601024 by omega, show slots + 24 ≤ 7293034 by omega⟩) (fun r3 M2 H locs hp hS => ?_)
  obtain ⟨h8, h9⟩ := hp
  subst h8
  subst h9
  refine lv_iload hx hb dL_law_719 (lv_at hl 1 rfl) ?_
  refine lv_icmp_eq (tgt := 726) hx hb dL_law_721 (by decide) (fun _ => ?_) (fun c9 => absurd rfl c9)
  refine lv_iload hx hb dL_law_726 (lv_at hl 1 rfl) ?_
  refine lv_if_ne (tgt := 743) hx hb dL_law_728 (by decide) (fun c9 => ?_) (fun c9 => ?_)
  · refine lv_goto (tgt := 919) hx hb dL_law_743 (by decide) ?_
    refine W.widen (k := cells + 4) (n := slots + 24) (by omega) (by omega) ?_
    exact hk V1 M1 f1 _ H locs ls hC hM1 (by rw [oLayout_a]; exact WF.le (by omega) hWF) hS (lv_sub hl [2, 3, 4, 5, 6] rfl)
  · have z0 : (oLayout a (xs (nI (i + 1)).toNatClampNeg)).1 = 0 := (nI_eq (by omega) (by decide)).mp (c9.trans nI_0.symm)
    refine lv_aload_n hx hb dL_law_731 rfl (lv_at hl 3 rfl) ?_
    refine lv_iconst (v := nI 0) hx hb dL_law_732 (by decide) ?_
    refine l_lald hx hb hKL hS dL_law_733 ?_
    rw [show f1 0 = _ from e2 z0]
    have g3 := g2 z0
    subst g3
    refine lv_iload hx hb dL_law_734 (lv_at hl 0 rfl) ?_
    refine lv_i2l (v := (oLayout a (xs (nI (i + 1)).toNatClampNeg)).2.1.toInt64) hx hb dL_law_736 rfl ?_
    refine W.lcmp hx hb dL_law_737 ?_
    refine lv_if_eq (tgt := 743) hx hb dL_law_738 (by decide) (fun _ => ?_) (fun c8 => absurd (by simp [lg_cmp]) c8)
    refine lv_goto (tgt := 919) hx hb dL_law_743 (by decide) ?_
    refine W.widen (k := cells + 4) (n := slots + 24) (by omega) (by omega) ?_
    exact hk V1 M1 f1 _ H locs ls hC hM1 (by rw [oLayout_a]; exact WF.le (by omega) hWF) hS (lv_sub hl [2, 3, 4, 5, 6] rfl)
set_option maxHeartbeats 4000000 in
set_option maxRecDepth 100000 in
theorem lc_12 {p : Program} {l : Launch} {e : Env} {s : State} {m : MethodId} {below : List Frame} {meth : Method} {c : Code} {b L : Nat} {xs : Nat → Int32} {Q : State → Prop} {D : va_G} {cI cD cL : ClassId} {ad bd : Nat → Nat} {o : Nat} (hlt : l.stackTraces = false) (hx : p.tables.exec = Jvm.exec) (hb : c.code = cL_law) (hts : ∀ w ∈ wsL_law, w.before #[Value.ref b] s = true) (hown : s.vm.findClass RL = some m.cls) (hml : c.maxLocals = 7) (hX : va_X b L xs s s.heap) (hbl : b < s.heap.size) (hK : kK D cI cD s) (hKL : va_K D vwCl [(cL, .long)] s) (hT9 : kT s) (hZ : kZ (fun q => s.heap.size ≤ q) s s.heap) (hN : kN s) (hD : lD ad bd o s.heap.size) (hL : L ≤ 2048) {V M : vT} {f : Nat → Int64} {a : AS} {B i : Nat} (hi : i + 4 ≤ L) (hB : B < 9000) (hR : cR V a) (hM : mR M a) (hWF : WF B a) {H : Heap} {locs : List Loc} {cells slots : Nat} {ls : Array Slot} (hc : cells + 4 ≤ 601024) (hs : slots + 24 ≤ 7293034) (hS : lS D cI cD cL ad bd o s.heap V M f H locs) (hl : lv_has ls 7 [(4, .int (nI i)), (3, .ref o), (2, .ref (bd 0)), (1, .ref (ad 0)), (0, .ref b)])
    (hk : ∀ (V1 M1 : vT) (f1 : Nat → Int64) (a1 : AS) (H1 : Heap) (locs1 : List Loc) (ls1 : Array Slot), cR V1 a1 → mR M1 a1 → WF (B + 2) a1 → lS D cI cD cL ad bd o s.heap V1 M1 f1 H1 locs1 → lv_has ls1 7 [(4, .int (nI i)), (3, .ref o), (2, .ref (bd 0)), (1, .ref (ad 0)), (0, .ref b)] → W p l e room_1 s m #[Value.ref b] below meth c H1 locs1 (cells + 4) (slots + 24) Q (F0 m 919 ls1 [])) : W p l e room_1 s m #[Value.ref b] below meth c H locs cells slots Q (F0 m 746 ls []) := by
  have hbA : ¬ (fun q : Nat => s.heap.size ≤ q) b := Nat.not_le.mpr hbl
  refine lv_aload_n hx hb dL_law_746 rfl (lv_at hl 3 rfl) ?_
  refine lv_aload_n hx hb dL_law_747 rfl (lv_at hl 4 rfl) ?_
  refine lv_iload hx hb dL_law_748 (lv_at hl 0 rfl) ?_
  refine lv_iconst (v := nI 1) hx hb dL_law_750 (by decide) ?_
  refine n_add hx hb dL_law_751 ?_
  refine va_sld hx hb hX hbl hbA hS.2.2.2 (vp_in_nI (show i + 1 < L by omega) (by omega)) dL_law_752 ?_
  refine lv_aload_n hx hb dL_law_753 rfl (lv_at hl 4 rfl) ?_
  refine lv_iload hx hb dL_law_754 (lv_at hl 0 rfl) ?_
  refine lv_iconst (v := nI 2) hx hb dL_law_756 (by decide) ?_
  refine n_add hx hb dL_law_757 ?_
  refine va_sld hx hb hX hbl hbA hS.2.2.2 (vp_in_nI (show i + 2 < L by omega) (by omega)) dL_law_758 ?_
  refine lv_aload_n hx hb dL_law_759 rfl (lv_at hl 4 rfl) ?_
  refine lv_iload hx hb dL_law_760 (lv_at hl 0 rfl) ?_
  refine lv_iconst (v := nI 3) hx hb dL_law_762 (by decide) ?_
  refine n_add hx hb dL_law_763 ?_
  refine va_sld hx hb hX hbl hbA hS.2.2.2 (vp_in_nI (show i + 3 < L by omega) (by omega)) dL_law_764 ?_
  refine lv_aload_n hx hb dL_law_765 rfl (lv_at hl 1 rfl) ?_
  refine l_wrap hD hS (vx_runSX (hh := [(0, 12, 15, 19), (0, 12, 19, 21)]) (As := [.ref (ad 0), .int (xs (nI (i + 1)).toNatClampNeg), .int (xs (nI (i + 2)).toNatClampNeg), .int (xs (nI (i + 3)).toNatClampNeg), .ref o]) (rest := []) ⟨hx, hb, hml, hown, hts⟩ (c_L_cell l hlt D cI cD cL ad o _ V f a hR B (by omega) hWF (xs (nI (i + 1)).toNatClampNeg) (xs (nI (i + 2)).toNatClampNeg) (xs (nI (i + 3)).toNatClampNeg)) (vx_cwSW 5 hts gL_law_L_cell rfl rfl rfl (by decide +kernel) ⟨Nat.le_of_ble_eq_true rfl, Nat.le_of_ble_eq_true rfl⟩) (l_preS hK hKL hT9 hZ hN hD hS _) rfl rfl hl.1 rfl (lv_room (Nat.le_of_ble_eq_true rfl)) dL_law_766 ⟨hc, hs⟩) (fun r V1 f1 H locs hp hS => ?_)
  obtain ⟨e1, e4, e2, hC⟩ := hp
  subst e1
  refine lv_istore (lv' := [(5, .int (nI (oCell a (xs (nI (i + 1)).toNatClampNeg) (xs (nI (i + 2)).toNatClampNeg) (xs (nI (i + 3)).toNatClampNeg)).1)), (4, .int (nI i)), (3, .ref o), (2, .ref (bd 0)), (1, .ref (ad 0)), (0, .ref b)]) hx hb dL_law_769 hl (by decide) rfl (fun ls hl => ?_)
  refine lv_aload_n hx hb dL_law_771 rfl (lv_at hl 3 rfl) ?_
  refine lv_aload_n hx hb dL_law_772 rfl (lv_at hl 5 rfl) ?_
  refine lv_iload hx hb dL_law_773 (lv_at hl 1 rfl) ?_
  refine lv_iconst (v := nI 1) hx hb dL_law_775 (by decide) ?_
  refine n_add hx hb dL_law_776 ?_
  refine va_sld hx hb hX hbl hbA hS.2.2.2 (vp_in_nI (show i + 1 < L by omega) (by omega)) dL_law_777 ?_
  refine lv_aload_n hx hb dL_law_778 rfl (lv_at hl 5 rfl) ?_
  refine lv_iload hx hb dL_law_779 (lv_at hl 1 rfl) ?_
  refine lv_iconst (v := nI 2) hx hb dL_law_781 (by decide) ?_
  refine n_add hx hb dL_law_782 ?_
  refine va_sld hx hb hX hbl hbA hS.2.2.2 (vp_in_nI (show i + 2 < L by omega) (by omega)) dL_law_783 ?_
  refine lv_aload_n hx hb dL_law_784 rfl (lv_at hl 5 rfl) ?_
  refine lv_iload hx hb dL_law_785 (lv_at hl 1 rfl) ?_
  refine lv_iconst (v := nI 3) hx hb dL_law_787 (by decide) ?_
  refine n_add hx hb dL_law_788 ?_
  refine va_sld hx hb hX hbl hbA hS.2.2.2 (vp_in_nI (show i + 3 < L by omega) (by omega)) dL_law_789 ?_
  refine l_mi hD hS (va_runV (As := [.int (xs (nI (i + 1)).toNatClampNeg), .int (xs (nI (i + 2)).toNatClampNeg), .int (xs (nI (i + 3)).toNatClampNeg)]) (rest := []) ⟨hx, hb, hml, hown, hts⟩ (a_X3_cell l D cI cD bd _ M a hM B (by omega) hWF (xs (nI (i + 1)).toNatClampNeg) (xs (nI (i + 2)).toNatClampNeg) (xs (nI (i + 3)).toNatClampNeg)) (cwV 3 hts gL_law_X3_cell rfl rfl rfl (by decide +kernel) ⟨Nat.le_of_ble_eq_true rfl, Nat.le_of_ble_eq_true rfl⟩) (l_preM hK hD hS _) rfl rfl hl.1 rfl (lv_room (Nat.le_of_ble_eq_true rfl)) dL_law_790 ⟨show cells + 4 ≤ 601024 by omega, show slots + 24 ≤ 7293034 by omega⟩) (fun r2 M1 H locs hp hS => ?_)
  obtain ⟨g1, g2, hM1⟩ := hp
  refine lv_istore (lv' := [(6, .int r2), (5, .int (nI (oCell a (xs (nI (i + 1)).toNatClampNeg) (xs (nI (i + 2)).toNatClampNeg) (xs (nI (i + 3)).toNatClampNeg)).1)), (4, .int (nI i)), (3, .ref o), (2, .ref (bd 0)), (1, .ref (ad 0)), (0, .ref b)]) hx hb dL_law_793 hl (by decide) rfl (fun ls hl => ?_)
  refine lv_aload_n hx hb dL_law_795 rfl (lv_at hl 4 rfl) ?_
  refine l_mi hD hS (va_runV (As := []) (rest := []) ⟨hx, hb, hml, hown, hts⟩ (c_X3_thrown l D cI cD bd _ M1 _ g1) (cwV 0 hts gL_law_X3_thrown rfl rfl rfl (by decide +kernel) ⟨Nat.le_of_ble_eq_true rfl, Nat.le_of_ble_eq_true rfl⟩) (l_preM hK hD hS _) rfl rfl hl.1 rfl (lv_room (Nat.le_of_ble_eq_true rfl)) dL_law_796 ⟨show cells + 4 ≤ 601024 by omega, show slots + 24 ≤ 7293034 by omega⟩) (fun r3 M2 H locs hp hS => ?_)
  obtain ⟨h8, h9⟩ := hp
  subst h8
  subst h9
  refine lv_iload hx hb dL_law_799 (lv_at hl 1 rfl) ?_
  refine lv_icmp_eq (tgt := 806) hx hb dL_law_801 (by decide) (fun _ => ?_) (fun c9 => absurd rfl c9)
  refine lv_iload hx hb dL_law_806 (lv_at hl 1 rfl) ?_
  refine lv_if_ne (tgt := 823) hx hb dL_law_808 (by decide) (fun c9 => ?_) (fun c9 => ?_)
  · refine lv_goto (tgt := 919) hx hb dL_law_823 (by decide) ?_
    refine W.widen (k := cells + 4) (n := slots + 24) (by omega) (by omega) ?_
    exact hk V1 M1 f1 _ H locs ls hC hM1 (by rw [oCell_a]; exact WF.le (by omega) hWF) hS (lv_sub hl [2, 3, 4, 5, 6] rfl)
  · have z0 : (oCell a (xs (nI (i + 1)).toNatClampNeg) (xs (nI (i + 2)).toNatClampNeg) (xs (nI (i + 3)).toNatClampNeg)).1 = 0 := (nI_eq (by omega) (by decide)).mp (c9.trans nI_0.symm)
    refine lv_aload_n hx hb dL_law_811 rfl (lv_at hl 3 rfl) ?_
    refine lv_iconst (v := nI 0) hx hb dL_law_812 (by decide) ?_
    refine l_lald hx hb hKL hS dL_law_813 ?_
    rw [show f1 0 = _ from e2 z0]
    have g3 := g2 z0
    subst g3
    refine lv_iload hx hb dL_law_814 (lv_at hl 0 rfl) ?_
    refine lv_i2l (v := (oCell a (xs (nI (i + 1)).toNatClampNeg) (xs (nI (i + 2)).toNatClampNeg) (xs (nI (i + 3)).toNatClampNeg)).2.1.toInt64) hx hb dL_law_816 rfl ?_
    refine W.lcmp hx hb dL_law_817 ?_
    refine lv_if_eq (tgt := 823) hx hb dL_law_818 (by decide) (fun _ => ?_) (fun c8 => absurd (by simp [lg_cmp]) c8)
    refine lv_goto (tgt := 919) hx hb dL_law_823 (by decide) ?_
    refine W.widen (k := cells + 4) (n := slots + 24) (by omega) (by omega) ?_
    exact hk V1 M1 f1 _ H locs ls hC hM1 (by rw [oCell_a]; exact WF.le (by omega) hWF) hS (lv_sub hl [2, 3, 4, 5, 6] rfl)
set_option maxHeartbeats 4000000 in
set_option maxRecDepth 100000 in
theorem lc_13 {p : Program} {l : Launch} {e : Env} {s : State} {m : MethodId} {below : List Frame} {meth : Method} {c : Code} {b L : Nat} {xs : Nat → Int32} {Q : State → Prop} {D : va_G} {cI cD cL : ClassId} {ad bd : Nat → Nat} {o : Nat} (hlt : l.stackTraces = false) (hx : p.tables.exec = Jvm.exec) (hb : c.code = cL_law) (hts : ∀ w ∈ wsL_law, w.before #[Value.ref b] s = true) (hown : s.vm.findClass RL = some m.cls) (hml : c.maxLocals = 7) (hX : va_X b L xs s s.heap) (hbl : b < s.heap.size) (hK : kK D cI cD s) (hKL : va_K D vwCl [(cL, .long)] s) (hT9 : kT s) (hZ : kZ (fun q => s.heap.size ≤ q) s s.heap) (hN : kN s) (hD : lD ad bd o s.heap.size) (hL : L ≤ 2048) {V M : vT} {f : Nat → Int64} {a : AS} {B i : Nat} (hi : i + 4 ≤ L) (hB : B < 9000) (hR : cR V a) (hM : mR M a) (hWF : WF B a) {H : Heap} {locs : List Loc} {cells slots : Nat} {ls : Array Slot} (hc : cells + 4 ≤ 601024) (hs : slots + 24 ≤ 7293034) (hS : lS D cI cD cL ad bd o s.heap V M f H locs) (hl : lv_has ls 7 [(4, .int (nI i)), (3, .ref o), (2, .ref (bd 0)), (1, .ref (ad 0)), (0, .ref b)])
    (hk : ∀ (V1 M1 : vT) (f1 : Nat → Int64) (a1 : AS) (H1 : Heap) (locs1 : List Loc) (ls1 : Array Slot), cR V1 a1 → mR M1 a1 → WF (B + 2) a1 → lS D cI cD cL ad bd o s.heap V1 M1 f1 H1 locs1 → lv_has ls1 7 [(4, .int (nI i)), (3, .ref o), (2, .ref (bd 0)), (1, .ref (ad 0)), (0, .ref b)] → W p l e room_1 s m #[Value.ref b] below meth c H1 locs1 (cells + 4) (slots + 24) Q (F0 m 919 ls1 [])) : W p l e room_1 s m #[Value.ref b] below meth c H locs cells slots Q (F0 m 826 ls []) := by
  have hbA : ¬ (fun q : Nat => s.heap.size ≤ q) b := Nat.not_le.mpr hbl
  refine lv_aload_n hx hb dL_law_826 rfl (lv_at hl 3 rfl) ?_
  refine lv_aload_n hx hb dL_law_827 rfl (lv_at hl 4 rfl) ?_
  refine lv_iload hx hb dL_law_828 (lv_at hl 0 rfl) ?_
  refine lv_iconst (v := nI 1) hx hb dL_law_830 (by decide) ?_
  refine n_add hx hb dL_law_831 ?_
  refine va_sld hx hb hX hbl hbA hS.2.2.2 (vp_in_nI (show i + 1 < L by omega) (by omega)) dL_law_832 ?_
  refine lv_aload_n hx hb dL_law_833 rfl (lv_at hl 4 rfl) ?_
  refine lv_iload hx hb dL_law_834 (lv_at hl 0 rfl) ?_
  refine lv_iconst (v := nI 2) hx hb dL_law_836 (by decide) ?_
  refine n_add hx hb dL_law_837 ?_
  refine va_sld hx hb hX hbl hbA hS.2.2.2 (vp_in_nI (show i + 2 < L by omega) (by omega)) dL_law_838 ?_
  refine lv_aload_n hx hb dL_law_839 rfl (lv_at hl 1 rfl) ?_
  refine l_wrap hD hS (vx_runSX (hh := [(0, 10, 13, 19), (0, 10, 17, 21)]) (As := [.ref (ad 0), .int (xs (nI (i + 1)).toNatClampNeg), .int (xs (nI (i + 2)).toNatClampNeg), .ref o]) (rest := []) ⟨hx, hb, hml, hown, hts⟩ (c_L_marks l hlt D cI cD cL ad o _ V f a hR B (by omega) hWF (xs (nI (i + 1)).toNatClampNeg) (xs (nI (i + 2)).toNatClampNeg)) (vx_cwSW 4 hts gL_law_L_marks rfl rfl rfl (by decide +kernel) ⟨Nat.le_of_ble_eq_true rfl, Nat.le_of_ble_eq_true rfl⟩) (l_preS hK hKL hT9 hZ hN hD hS _) rfl rfl hl.1 rfl (lv_room (Nat.le_of_ble_eq_true rfl)) dL_law_840 ⟨hc, hs⟩) (fun r V1 f1 H locs hp hS => ?_)
  obtain ⟨e1, e4, e2, hC⟩ := hp
  subst e1
  refine lv_istore (lv' := [(5, .int (nI (oMarks a (xs (nI (i + 1)).toNatClampNeg) (xs (nI (i + 2)).toNatClampNeg)).1)), (4, .int (nI i)), (3, .ref o), (2, .ref (bd 0)), (1, .ref (ad 0)), (0, .ref b)]) hx hb dL_law_843 hl (by decide) rfl (fun ls hl => ?_)
  refine lv_aload_n hx hb dL_law_845 rfl (lv_at hl 3 rfl) ?_
  refine lv_aload_n hx hb dL_law_846 rfl (lv_at hl 5 rfl) ?_
  refine lv_iload hx hb dL_law_847 (lv_at hl 1 rfl) ?_
  refine lv_iconst (v := nI 1) hx hb dL_law_849 (by decide) ?_
  refine n_add hx hb dL_law_850 ?_
  refine va_sld hx hb hX hbl hbA hS.2.2.2 (vp_in_nI (show i + 1 < L by omega) (by omega)) dL_law_851 ?_
  refine lv_aload_n hx hb dL_law_852 rfl (lv_at hl 5 rfl) ?_
  refine lv_iload hx hb dL_law_853 (lv_at hl 1 rfl) ?_
  refine lv_iconst (v := nI 2) hx hb dL_law_855 (by decide) ?_
  refine n_add hx hb dL_law_856 ?_
  refine va_sld hx hb hX hbl hbA hS.2.2.2 (vp_in_nI (show i + 2 < L by omega) (by omega)) dL_law_857 ?_
  refine l_mi hD hS (va_runV (As := [.int (xs (nI (i + 1)).toNatClampNeg), .int (xs (nI (i + 2)).toNatClampNeg)]) (rest := []) ⟨hx, hb, hml, hown, hts⟩ (a_X3_marks l D cI cD bd _ M a hM B (by omega) hWF (xs (nI (i + 1)).toNatClampNeg) (xs (nI (i + 2)).toNatClampNeg)) (cwV 2 hts gL_law_X3_marks rfl rfl rfl (by decide +kernel) ⟨Nat.le_of_ble_eq_true rfl, Nat.le_of_ble_eq_true rfl⟩) (l_preM hK hD hS _) rfl rfl hl.1 rfl (lv_room (Nat.le_of_ble_eq_true rfl)) dL_law_858 ⟨show cells + 4 ≤ 601024 by omega, show slots + 24 ≤ 7293034 by omega⟩) (fun r2 M1 H locs hp hS => ?_)
  obtain ⟨g1, g2, hM1⟩ := hp
  refine lv_istore (lv' := [(6, .int r2), (5, .int (nI (oMarks a (xs (nI (i + 1)).toNatClampNeg) (xs (nI (i + 2)).toNatClampNeg)).1)), (4, .int (nI i)), (3, .ref o), (2, .ref (bd 0)), (1, .ref (ad 0)), (0, .ref b)]) hx hb dL_law_861 hl (by decide) rfl (fun ls hl => ?_)
  refine lv_aload_n hx hb dL_law_863 rfl (lv_at hl 4 rfl) ?_
  refine l_mi hD hS (va_runV (As := []) (rest := []) ⟨hx, hb, hml, hown, hts⟩ (c_X3_thrown l D cI cD bd _ M1 _ g1) (cwV 0 hts gL_law_X3_thrown rfl rfl rfl (by decide +kernel) ⟨Nat.le_of_ble_eq_true rfl, Nat.le_of_ble_eq_true rfl⟩) (l_preM hK hD hS _) rfl rfl hl.1 rfl (lv_room (Nat.le_of_ble_eq_true rfl)) dL_law_864 ⟨show cells + 4 ≤ 601024 by omega, show slots + 24 ≤ 7293034 by omega⟩) (fun r3 M2 H locs hp hS => ?_)
  obtain ⟨h8, h9⟩ := hp
  subst h8
  subst h9
  refine lv_iload hx hb dL_law_867 (lv_at hl 1 rfl) ?_
  refine lv_icmp_eq (tgt := 874) hx hb dL_law_869 (by decide) (fun _ => ?_) (fun c9 => absurd rfl c9)
  refine lv_iload hx hb dL_law_874 (lv_at hl 1 rfl) ?_
  refine lv_if_ne (tgt := 891) hx hb dL_law_876 (by decide) (fun c9 => ?_) (fun c9 => ?_)
  · refine lv_goto (tgt := 919) hx hb dL_law_891 (by decide) ?_
    refine W.widen (k := cells + 4) (n := slots + 24) (by omega) (by omega) ?_
    exact hk V1 M1 f1 _ H locs ls hC hM1 (by rw [oMarks_a]; exact WF.le (by omega) hWF) hS (lv_sub hl [2, 3, 4, 5, 6] rfl)
  · have z0 : (oMarks a (xs (nI (i + 1)).toNatClampNeg) (xs (nI (i + 2)).toNatClampNeg)).1 = 0 := (nI_eq (by omega) (by decide)).mp (c9.trans nI_0.symm)
    refine lv_aload_n hx hb dL_law_879 rfl (lv_at hl 3 rfl) ?_
    refine lv_iconst (v := nI 0) hx hb dL_law_880 (by decide) ?_
    refine l_lald hx hb hKL hS dL_law_881 ?_
    rw [show f1 0 = _ from e2 z0]
    have g3 := g2 z0
    subst g3
    refine lv_iload hx hb dL_law_882 (lv_at hl 0 rfl) ?_
    refine lv_i2l (v := (oMarks a (xs (nI (i + 1)).toNatClampNeg) (xs (nI (i + 2)).toNatClampNeg)).2.1.toInt64) hx hb dL_law_884 rfl ?_
    refine W.lcmp hx hb dL_law_885 ?_
    refine lv_if_eq (tgt := 891) hx hb dL_law_886 (by decide) (fun _ => ?_) (fun c8 => absurd (by simp [lg_cmp]) c8)
    refine lv_goto (tgt := 919) hx hb dL_law_891 (by decide) ?_
    refine W.widen (k := cells + 4) (n := slots + 24) (by omega) (by omega) ?_
    exact hk V1 M1 f1 _ H locs ls hC hM1 (by rw [oMarks_a]; exact WF.le (by omega) hWF) hS (lv_sub hl [2, 3, 4, 5, 6] rfl)
set_option maxHeartbeats 4000000 in
set_option maxRecDepth 100000 in
theorem lc_14 {p : Program} {l : Launch} {e : Env} {s : State} {m : MethodId} {below : List Frame} {meth : Method} {c : Code} {b L : Nat} {xs : Nat → Int32} {Q : State → Prop} {D : va_G} {cI cD cL : ClassId} {ad bd : Nat → Nat} {o : Nat} (hlt : l.stackTraces = false) (hx : p.tables.exec = Jvm.exec) (hb : c.code = cL_law) (hts : ∀ w ∈ wsL_law, w.before #[Value.ref b] s = true) (hown : s.vm.findClass RL = some m.cls) (hml : c.maxLocals = 7) (hX : va_X b L xs s s.heap) (hbl : b < s.heap.size) (hK : kK D cI cD s) (hKL : va_K D vwCl [(cL, .long)] s) (hT9 : kT s) (hZ : kZ (fun q => s.heap.size ≤ q) s s.heap) (hN : kN s) (hD : lD ad bd o s.heap.size) (hL : L ≤ 2048) {V M : vT} {f : Nat → Int64} {a : AS} {B i : Nat} (hi : i + 4 ≤ L) (hB : B < 9000) (hR : cR V a) (hM : mR M a) (hWF : WF B a) {H : Heap} {locs : List Loc} {cells slots : Nat} {ls : Array Slot} (hc : cells + 4 ≤ 601024) (hs : slots + 24 ≤ 7293034) (hS : lS D cI cD cL ad bd o s.heap V M f H locs) (hl : lv_has ls 7 [(4, .int (nI i)), (3, .ref o), (2, .ref (bd 0)), (1, .ref (ad 0)), (0, .ref b)])
    (hk : ∀ (V1 M1 : vT) (f1 : Nat → Int64) (a1 : AS) (H1 : Heap) (locs1 : List Loc) (ls1 : Array Slot), cR V1 a1 → mR M1 a1 → WF (B + 2) a1 → lS D cI cD cL ad bd o s.heap V1 M1 f1 H1 locs1 → lv_has ls1 7 [(4, .int (nI i)), (3, .ref o), (2, .ref (bd 0)), (1, .ref (ad 0)), (0, .ref b)] → W p l e room_1 s m #[Value.ref b] below meth c H1 locs1 (cells + 4) (slots + 24) Q (F0 m 919 ls1 [])) : W p l e room_1 s m #[Value.ref b] below meth c H locs cells slots Q (F0 m 894 ls []) := by
  have hbA : ¬ (fun q : Nat => s.heap.size ≤ q) b := Nat.not_le.mpr hbl
  refine lv_aload_n hx hb dL_law_894 rfl (lv_at hl 3 rfl) ?_
  refine lv_aload_n hx hb dL_law_895 rfl (lv_at hl 4 rfl) ?_
  refine lv_iload hx hb dL_law_896 (lv_at hl 0 rfl) ?_
  refine lv_iconst (v := nI 1) hx hb dL_law_898 (by decide) ?_
  refine n_add hx hb dL_law_899 ?_
  refine va_sld hx hb hX hbl hbA hS.2.2.2 (vp_in_nI (show i + 1 < L by omega) (by omega)) dL_law_900 ?_
  refine l_ci hD hS (va_runV (As := [.int (xs (nI (i + 1)).toNatClampNeg)]) (rest := []) ⟨hx, hb, hml, hown, hts⟩ (a_X2_count l D cI cD ad _ V a hR B (by omega) hWF (xs (nI (i + 1)).toNatClampNeg)) (cwV 1 hts gL_law_X2_count rfl rfl rfl (by decide +kernel) ⟨Nat.le_of_ble_eq_true rfl, Nat.le_of_ble_eq_true rfl⟩) (l_preC hK hD hS _) rfl rfl hl.1 rfl (lv_room (Nat.le_of_ble_eq_true rfl)) dL_law_901 ⟨show cells + 0 ≤ 601024 by omega, show slots + 0 ≤ 7293034 by omega⟩) (fun r V1 H locs hp hS => ?_)
  obtain ⟨e1, e2⟩ := hp
  subst e1
  subst e2
  refine lv_aload_n hx hb dL_law_904 rfl (lv_at hl 2 rfl) ?_
  refine lv_aload_n hx hb dL_law_905 rfl (lv_at hl 4 rfl) ?_
  refine lv_iload hx hb dL_law_906 (lv_at hl 0 rfl) ?_
  refine lv_iconst (v := nI 1) hx hb dL_law_908 (by decide) ?_
  refine n_add hx hb dL_law_909 ?_
  refine va_sld hx hb hX hbl hbA hS.2.2.2 (vp_in_nI (show i + 1 < L by omega) (by omega)) dL_law_910 ?_
  refine l_mi hD hS (va_runV (As := [.int (xs (nI (i + 1)).toNatClampNeg)]) (rest := [.int (oCount a (xs (nI (i + 1)).toNatClampNeg))]) ⟨hx, hb, hml, hown, hts⟩ (a_X3_count l D cI cD bd _ M a hM B (by omega) hWF (xs (nI (i + 1)).toNatClampNeg)) (cwV 1 hts gL_law_X3_count rfl rfl rfl (by decide +kernel) ⟨Nat.le_of_ble_eq_true rfl, Nat.le_of_ble_eq_true rfl⟩) (l_preM hK hD hS _) rfl rfl hl.1 rfl (lv_room (Nat.le_of_ble_eq_true rfl)) dL_law_911 ⟨show cells + 0 + 0 ≤ 601024 by omega, show slots + 0 + 0 ≤ 7293034 by omega⟩) (fun r M1 H locs hp hS => ?_)
  obtain ⟨e2, hM1⟩ := hp
  subst e2
  refine lv_icmp_eq (tgt := 919) hx hb dL_law_914 (by decide) (fun _ => ?_) (fun c9 => absurd rfl c9)
  refine W.widen (k := cells + 4) (n := slots + 24) (by omega) (by omega) ?_
  exact hk V M1 f a H locs ls hR hM1 (WF.le (by omega) hWF) hS (lv_sub hl [0, 1, 2, 3, 4] rfl)
