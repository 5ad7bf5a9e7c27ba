/-! the law's wrappers: a call of the class, its exceptions by numbers -/
set_option maxHeartbeats 4000000 in
set_option maxRecDepth 100000 in
theorem c_L_format (l : Launch) (hlt : l.stackTraces = false) (D : va_G) (cI cD cL : ClassId) (ad : Nat → Nat) (o sz : Nat) (V : vT) (f : Nat → Int64) (a : AS) (hR : cR V a) (B : Nat) (hB : B < 10000) (hWF : WF B a) (p0 : Int32) : vx_Met l yL_format wsL_format ({ frames := 7, cells := 4, slots := 24, locals := 112 }) (oP D cI cD cL ad o sz V f [.ref (ad 0), .int p0, .ref o]) (va_Qi (fun (r : Int32) (u : vT × (Nat → Int64)) => r = nI (oFormat a p0).1 ∧ (oFormat a p0).1 < 4 ∧ ((oFormat a p0).1 = 0 → u.2 0 = (oFormat a p0).2.1.toInt64) ∧ cR u.1 (oFormat a p0).2.2) (oB D cI cD cL ad o) (oA ad o sz)) (oX ad o sz) 4 24 (oA ad o sz) := by
  refine o_met (cc := cL_format) (maxL := 4) (ret := some .int) (hh := [(0, 9, 12, 13)]) (by decide) rfl (Nat.le_of_ble_eq_true rfl) ?_
  intro p e s m below meth c hx hb hr hts hown hlocks hml hsz hK hKL hD hS hT9 hZ hN htab ls hl
  subst hsz
  have hown : s.vm.findClass RL = some m.cls := hown
  have hl : lv_has ls 4 [(0, .ref (ad 0)), (1, .int p0), (2, .ref o)] := hl
  refine lv_aload_n hx hb dL_format_0 rfl (lv_at hl 2 rfl) ?_
  refine lv_iconst (v := nI 0) hx hb dL_format_1 (by decide) ?_
  refine lv_aload_n hx hb dL_format_2 rfl (lv_at hl 0 rfl) ?_
  refine lv_iload_n hx hb dL_format_3 rfl (lv_at hl 1 rfl) ?_
  refine o_xcalli hD hS (vx_runV (As := [.int p0]) (rest := [.int (nI 0), .ref o]) ⟨hx, hb, hml, hown, hts⟩ (a_X2_format l hlt D cI cD ad _ V a hR B hB hWF p0) (cwV 1 hts gL_format_X2_format rfl rfl rfl (by decide +kernel) ⟨Nat.le_of_ble_eq_true rfl, Nat.le_of_ble_eq_true rfl⟩) (o_pre hK hT9 hZ hD hS _) rfl rfl hl.1 rfl (lv_room (Nat.le_of_ble_eq_true rfl)) dL_format_4 ⟨Nat.le_of_ble_eq_true rfl, Nat.le_of_ble_eq_true rfl⟩) (fun E9 ce9 q9 V1 H locs hp hS h1 h2 h3 => ?_) (fun r V1 H locs hp hS => ?_)
  · obtain ⟨hE, hC⟩ := hp
    obtain ⟨rfl, e1⟩ := hE
    refine w_catch (own := RL) (name := "java/lang/IllegalArgumentException") hown [] ⟨0, 9, 12, 13⟩ [] htab (fun _ h => absurd h List.not_mem_nil) rfl (by decide) (hts (.classLink RL 13 "java/lang/IllegalArgumentException") (by decide +kernel)) (va_Nw.use rfl (hT9.1 (.castable "java/lang/IllegalArgumentException" "java/lang/IllegalArgumentException") (by decide +kernel))) h1 h2 h3 ?_
    refine lv_astore_n (lv' := [(3, .ref q9), (0, .ref (ad 0)), (1, .int p0), (2, .ref o)]) hx hb dL_format_12 rfl hl (by decide) rfl (fun ls hl => ?_)
    refine lv_iconst (v := nI 1) hx hb dL_format_13 (by decide) ?_
    exact vx_ret (W.widen (k := 4) (n := 24) (Nat.le_of_ble_eq_true rfl) (Nat.le_of_ble_eq_true rfl) (W.iret hx hb hr (fun t ht _ => ⟨⟨nI 1, (V1, f), rfl, ⟨by rw [e1], by rw [e1]; decide, fun z => absurd (e1.symm.trans z) (by decide), hC⟩, by rw [oB, ht]; exact ⟨hS.1, hS.2.1⟩⟩, hS.2.2.F ht⟩) hS.2.2.2.2 dL_format_14 hlocks))
  · obtain ⟨e1, e2, hC⟩ := hp
    refine lv_i2l (v := r.toInt64) hx hb dL_format_7 rfl ?_
    refine o_last hx hb hKL hD hS dL_format_8 (fun H locs hS => ?_)
    refine lv_goto (tgt := 15) hx hb dL_format_9 (by decide) ?_
    refine lv_iconst (v := nI 0) hx hb dL_format_15 (by decide) ?_
    exact vx_ret (W.widen (k := 4) (n := 24) (Nat.le_of_ble_eq_true rfl) (Nat.le_of_ble_eq_true rfl) (W.iret hx hb hr (fun t ht _ => ⟨⟨nI 0, (V1, fun _ => r.toInt64), rfl, ⟨by rw [e1], by rw [e1]; decide, fun _ => by rw [e2], hC⟩, by rw [oB, ht]; exact ⟨hS.1, hS.2.1⟩⟩, hS.2.2.F ht⟩) hS.2.2.2.2 dL_format_16 hlocks))
set_option maxHeartbeats 4000000 in
set_option maxRecDepth 100000 in
theorem c_L_write (l : Launch) (hlt : l.stackTraces = false) (D : va_G) (cI cD cL : ClassId) (ad : Nat → Nat) (o sz : Nat) (V : vT) (f : Nat → Int64) (a : AS) (hR : cR V a) (B : Nat) (hB : B < 10000) (hWF : WF B a) (p0 p1 p2 : Int32) : vx_Met l yL_write wsL_write ({ frames := 8, cells := 4, slots := 24, locals := 146 }) (oP D cI cD cL ad o sz V f [.ref (ad 0), .int p0, .int p1, .int p2, .ref o]) (va_Qi (fun (r : Int32) (u : vT × (Nat → Int64)) => r = nI (oWrite a p0 p1 p2).1 ∧ (oWrite a p0 p1 p2).1 < 4 ∧ ((oWrite a p0 p1 p2).1 = 0 → u.2 0 = if (oWrite a p0 p1 p2).2.1 = 0 then 0 else 1) ∧ cR u.1 (oWrite a p0 p1 p2).2.2) (oB D cI cD cL ad o) (oA ad o sz)) (oX ad o sz) 4 24 (oA ad o sz) := by
  refine o_met (cc := cL_write) (maxL := 6) (ret := some .int) (hh := [(0, 19, 22, 19), (0, 19, 26, 21), (0, 19, 30, 23)]) (by decide) rfl (Nat.le_of_ble_eq_true rfl) ?_
  intro p e s m below meth c hx hb hr hts hown hlocks hml hsz hK hKL hD hS hT9 hZ hN htab ls hl
  subst hsz
  have hown : s.vm.findClass RL = some m.cls := hown
  have hl : lv_has ls 6 [(0, .ref (ad 0)), (1, .int p0), (2, .int p1), (3, .int p2), (4, .ref o)] := hl
  refine lv_aload hx hb dL_write_0 (lv_at hl 4 rfl) ?_
  refine lv_iconst (v := nI 0) hx hb dL_write_2 (by decide) ?_
  refine lv_aload_n hx hb dL_write_3 rfl (lv_at hl 0 rfl) ?_
  refine lv_iload_n hx hb dL_write_4 rfl (lv_at hl 1 rfl) ?_
  refine lv_iload_n hx hb dL_write_5 rfl (lv_at hl 2 rfl) ?_
  refine lv_iload_n hx hb dL_write_6 rfl (lv_at hl 3 rfl) ?_
  refine o_xcalli hD hS (vx_runV (As := [.int p0, .int p1, .int p2]) (rest := [.int (nI 0), .ref o]) ⟨hx, hb, hml, hown, hts⟩ (a_X2_write l hlt D cI cD ad _ V a hR B hB hWF p0 p1 p2) (cwV 3 hts gL_write_X2_write rfl rfl rfl (by decide +kernel) ⟨Nat.le_of_ble_eq_true rfl, Nat.le_of_ble_eq_true rfl⟩) (o_pre hK hT9 hZ hD hS _) rfl rfl hl.1 rfl (lv_room (Nat.le_of_ble_eq_true rfl)) dL_write_7 ⟨Nat.le_of_ble_eq_true rfl, Nat.le_of_ble_eq_true rfl⟩) (fun E9 ce9 q9 V1 H locs hp hS h1 h2 h3 => ?_) (fun r V1 H locs hp hS => ?_)
  · obtain ⟨hE, hC⟩ := hp
    rcases hE with ⟨rfl, e1⟩ | ⟨rfl, e1⟩ | ⟨rfl, e1⟩
    · refine w_catch (own := RL) (name := "java/lang/IllegalStateException") hown [] ⟨0, 19, 22, 19⟩ [⟨0, 19, 26, 21⟩, ⟨0, 19, 30, 23⟩] htab (fun _ h => absurd h List.not_mem_nil) rfl (by decide) (hts (.classLink RL 19 "java/lang/IllegalStateException") (by decide +kernel)) (va_Nw.use rfl (hT9.1 (.castable "java/lang/IllegalStateException" "java/lang/IllegalStateException") (by decide +kernel))) h1 h2 h3 ?_
      refine lv_astore (lv' := [(5, .ref q9), (0, .ref (ad 0)), (1, .int p0), (2, .int p1), (3, .int p2), (4, .ref o)]) hx hb dL_write_22 hl (by decide) rfl (fun ls hl => ?_)
      refine lv_iconst (v := nI 1) hx hb dL_write_24 (by decide) ?_
      exact vx_ret (W.widen (k := 4) (n := 24) (Nat.le_of_ble_eq_true rfl) (Nat.le_of_ble_eq_true rfl) (W.iret hx hb hr (fun t ht _ => ⟨⟨nI 1, (V1, f), rfl, ⟨by rw [e1], by rw [e1]; decide, fun z => absurd (e1.symm.trans z) (by decide), hC⟩, by rw [oB, ht]; exact ⟨hS.1, hS.2.1⟩⟩, hS.2.2.F ht⟩) hS.2.2.2.2 dL_write_25 hlocks))
    · refine w_catch (own := RL) (name := "java/lang/IndexOutOfBoundsException") hown [⟨0, 19, 22, 19⟩] ⟨0, 19, 26, 21⟩ [⟨0, 19, 30, 23⟩] htab (List.forall_mem_cons.mpr ⟨⟨rfl, by decide, "java/lang/IllegalStateException", hts (.classLink RL 19 "java/lang/IllegalStateException") (by decide +kernel), hN ("java/lang/IndexOutOfBoundsException", "java/lang/IllegalStateException") (by decide +kernel)⟩, (fun _ h => absurd h List.not_mem_nil)⟩) rfl (by decide) (hts (.classLink RL 21 "java/lang/IndexOutOfBoundsException") (by decide +kernel)) (va_Nw.use rfl (hT9.1 (.castable "java/lang/IndexOutOfBoundsException" "java/lang/IndexOutOfBoundsException") (by decide +kernel))) h1 h2 h3 ?_
      refine lv_astore (lv' := [(5, .ref q9), (0, .ref (ad 0)), (1, .int p0), (2, .int p1), (3, .int p2), (4, .ref o)]) hx hb dL_write_26 hl (by decide) rfl (fun ls hl => ?_)
      refine lv_iconst (v := nI 2) hx hb dL_write_28 (by decide) ?_
      exact vx_ret (W.widen (k := 4) (n := 24) (Nat.le_of_ble_eq_true rfl) (Nat.le_of_ble_eq_true rfl) (W.iret hx hb hr (fun t ht _ => ⟨⟨nI 2, (V1, f), rfl, ⟨by rw [e1], by rw [e1]; decide, fun z => absurd (e1.symm.trans z) (by decide), hC⟩, by rw [oB, ht]; exact ⟨hS.1, hS.2.1⟩⟩, hS.2.2.F ht⟩) hS.2.2.2.2 dL_write_29 hlocks))
    · refine w_catch (own := RL) (name := "java/lang/UnsupportedOperationException") hown [⟨0, 19, 22, 19⟩, ⟨0, 19, 26, 21⟩] ⟨0, 19, 30, 23⟩ [] htab (List.forall_mem_cons.mpr ⟨⟨rfl, by decide, "java/lang/IllegalStateException", hts (.classLink RL 19 "java/lang/IllegalStateException") (by decide +kernel), hN ("java/lang/UnsupportedOperationException", "java/lang/IllegalStateException") (by decide +kernel)⟩, (List.forall_mem_cons.mpr ⟨⟨rfl, by decide, "java/lang/IndexOutOfBoundsException", hts (.classLink RL 21 "java/lang/IndexOutOfBoundsException") (by decide +kernel), hN ("java/lang/UnsupportedOperationException", "java/lang/IndexOutOfBoundsException") (by decide +kernel)⟩, (fun _ h => absurd h List.not_mem_nil)⟩)⟩) rfl (by decide) (hts (.classLink RL 23 "java/lang/UnsupportedOperationException") (by decide +kernel)) (va_Nw.use rfl (hT9.1 (.castable "java/lang/UnsupportedOperationException" "java/lang/UnsupportedOperationException") (by decide +kernel))) h1 h2 h3 ?_
      refine lv_astore (lv' := [(5, .ref q9), (0, .ref (ad 0)), (1, .int p0), (2, .int p1), (3, .int p2), (4, .ref o)]) hx hb dL_write_30 hl (by decide) rfl (fun ls hl => ?_)
      refine lv_iconst (v := nI 3) hx hb dL_write_32 (by decide) ?_
      exact vx_ret (W.widen (k := 4) (n := 24) (Nat.le_of_ble_eq_true rfl) (Nat.le_of_ble_eq_true rfl) (W.iret hx hb hr (fun t ht _ => ⟨⟨nI 3, (V1, f), rfl, ⟨by rw [e1], by rw [e1]; decide, fun z => absurd (e1.symm.trans z) (by decide), hC⟩, by rw [oB, ht]; exact ⟨hS.1, hS.2.1⟩⟩, hS.2.2.F ht⟩) hS.2.2.2.2 dL_write_33 hlocks))
  · obtain ⟨e1, e2, hC⟩ := hp
    refine lv_if_eq (tgt := 17) hx hb dL_write_10 (by decide) (fun c9 => ?_) (fun c9 => ?_)
    · refine lv_lconst (v := 0) hx hb dL_write_17 (by decide) ?_
      refine o_last hx hb hKL hD hS dL_write_18 (fun H locs hS => ?_)
      refine lv_goto (tgt := 34) hx hb dL_write_19 (by decide) ?_
      refine lv_iconst (v := nI 0) hx hb dL_write_34 (by decide) ?_
      exact vx_ret (W.widen (k := 4) (n := 24) (Nat.le_of_ble_eq_true rfl) (Nat.le_of_ble_eq_true rfl) (W.iret hx hb hr (fun t ht _ => ⟨⟨nI 0, (V1, fun _ => 0), rfl, ⟨by rw [e1], by rw [e1]; decide, fun _ => by rw [e2, if_pos c9], hC⟩, by rw [oB, ht]; exact ⟨hS.1, hS.2.1⟩⟩, hS.2.2.F ht⟩) hS.2.2.2.2 dL_write_35 hlocks))
    · refine lv_lconst (v := 1) hx hb dL_write_13 (by decide) ?_
      refine lv_goto (tgt := 18) hx hb dL_write_14 (by decide) ?_
      refine o_last hx hb hKL hD hS dL_write_18 (fun H locs hS => ?_)
      refine lv_goto (tgt := 34) hx hb dL_write_19 (by decide) ?_
      refine lv_iconst (v := nI 0) hx hb dL_write_34 (by decide) ?_
      exact vx_ret (W.widen (k := 4) (n := 24) (Nat.le_of_ble_eq_true rfl) (Nat.le_of_ble_eq_true rfl) (W.iret hx hb hr (fun t ht _ => ⟨⟨nI 0, (V1, fun _ => 1), rfl, ⟨by rw [e1], by rw [e1]; decide, fun _ => by rw [e2, if_neg c9], hC⟩, by rw [oB, ht]; exact ⟨hS.1, hS.2.1⟩⟩, hS.2.2.F ht⟩) hS.2.2.2.2 dL_write_35 hlocks))
set_option maxHeartbeats 4000000 in
set_option maxRecDepth 100000 in
theorem c_L_read (l : Launch) (hlt : l.stackTraces = false) (D : va_G) (cI cD cL : ClassId) (ad : Nat → Nat) (o sz : Nat) (V : vT) (f : Nat → Int64) (a : AS) (hR : cR V a) (B : Nat) (hB : B < 10000) (hWF : WF B a) (p0 p1 : Int32) : vx_Met l yL_read wsL_read ({ frames := 8, cells := 4, slots := 24, locals := 134 }) (oP D cI cD cL ad o sz V f [.ref (ad 0), .int p0, .int p1, .ref o]) (va_Qi (fun (r : Int32) (u : vT × (Nat → Int64)) => r = nI (oRead a p0 p1).1 ∧ (oRead a p0 p1).1 < 4 ∧ ((oRead a p0 p1).1 = 0 → u.2 0 = (oRead a p0 p1).2.1.toInt64) ∧ cR u.1 (oRead a p0 p1).2.2) (oB D cI cD cL ad o) (oA ad o sz)) (oX ad o sz) 4 24 (oA ad o sz) := by
  refine o_met (cc := cL_read) (maxL := 5) (ret := some .int) (hh := [(0, 10, 13, 19), (0, 10, 17, 21)]) (by decide) rfl (Nat.le_of_ble_eq_true rfl) ?_
  intro p e s m below meth c hx hb hr hts hown hlocks hml hsz hK hKL hD hS hT9 hZ hN htab ls hl
  subst hsz
  have hown : s.vm.findClass RL = some m.cls := hown
  have hl : lv_has ls 5 [(0, .ref (ad 0)), (1, .int p0), (2, .int p1), (3, .ref o)] := hl
  refine lv_aload_n hx hb dL_read_0 rfl (lv_at hl 3 rfl) ?_
  refine lv_iconst (v := nI 0) hx hb dL_read_1 (by decide) ?_
  refine lv_aload_n hx hb dL_read_2 rfl (lv_at hl 0 rfl) ?_
  refine lv_iload_n hx hb dL_read_3 rfl (lv_at hl 1 rfl) ?_
  refine lv_iload_n hx hb dL_read_4 rfl (lv_at hl 2 rfl) ?_
  refine o_xcalli hD hS (vx_runV (As := [.int p0, .int p1]) (rest := [.int (nI 0), .ref o]) ⟨hx, hb, hml, hown, hts⟩ (a_X2_read l hlt D cI cD ad _ V a hR B hB hWF p0 p1) (cwV 2 hts gL_read_X2_read rfl rfl rfl (by decide +kernel) ⟨Nat.le_of_ble_eq_true rfl, Nat.le_of_ble_eq_true rfl⟩) (o_pre hK hT9 hZ hD hS _) rfl rfl hl.1 rfl (lv_room (Nat.le_of_ble_eq_true rfl)) dL_read_5 ⟨Nat.le_of_ble_eq_true rfl, Nat.le_of_ble_eq_true rfl⟩) (fun E9 ce9 q9 V1 H locs hp hS h1 h2 h3 => ?_) (fun r V1 H locs hp hS => ?_)
  · obtain ⟨hE, hC⟩ := hp
    rcases hE with ⟨rfl, e1⟩ | ⟨rfl, e1⟩
    · refine w_catch (own := RL) (name := "java/lang/IllegalStateException") hown [] ⟨0, 10, 13, 19⟩ [⟨0, 10, 17, 21⟩] htab (fun _ h => absurd h List.not_mem_nil) rfl (by decide) (hts (.classLink RL 19 "java/lang/IllegalStateException") (by decide +kernel)) (va_Nw.use rfl (hT9.1 (.castable "java/lang/IllegalStateException" "java/lang/IllegalStateException") (by decide +kernel))) h1 h2 h3 ?_
      refine lv_astore (lv' := [(4, .ref q9), (0, .ref (ad 0)), (1, .int p0), (2, .int p1), (3, .ref o)]) hx hb dL_read_13 hl (by decide) rfl (fun ls hl => ?_)
      refine lv_iconst (v := nI 1) hx hb dL_read_15 (by decide) ?_
      exact vx_ret (W.widen (k := 4) (n := 24) (Nat.le_of_ble_eq_true rfl) (Nat.le_of_ble_eq_true rfl) (W.iret hx hb hr (fun t ht _ => ⟨⟨nI 1, (V1, f), rfl, ⟨by rw [e1], by rw [e1]; decide, fun z => absurd (e1.symm.trans z) (by decide), hC⟩, by rw [oB, ht]; exact ⟨hS.1, hS.2.1⟩⟩, hS.2.2.F ht⟩) hS.2.2.2.2 dL_read_16 hlocks))
    · refine w_catch (own := RL) (name := "java/lang/IndexOutOfBoundsException") hown [⟨0, 10, 13, 19⟩] ⟨0, 10, 17, 21⟩ [] htab (List.forall_mem_cons.mpr ⟨⟨rfl, by decide, "java/lang/IllegalStateException", hts (.classLink RL 19 "java/lang/IllegalStateException") (by decide +kernel), hN ("java/lang/IndexOutOfBoundsException", "java/lang/IllegalStateException") (by decide +kernel)⟩, (fun _ h => absurd h List.not_mem_nil)⟩) rfl (by decide) (hts (.classLink RL 21 "java/lang/IndexOutOfBoundsException") (by decide +kernel)) (va_Nw.use rfl (hT9.1 (.castable "java/lang/IndexOutOfBoundsException" "java/lang/IndexOutOfBoundsException") (by decide +kernel))) h1 h2 h3 ?_
      refine lv_astore (lv' := [(4, .ref q9), (0, .ref (ad 0)), (1, .int p0), (2, .int p1), (3, .ref o)]) hx hb dL_read_17 hl (by decide) rfl (fun ls hl => ?_)
      refine lv_iconst (v := nI 2) hx hb dL_read_19 (by decide) ?_
      exact vx_ret (W.widen (k := 4) (n := 24) (Nat.le_of_ble_eq_true rfl) (Nat.le_of_ble_eq_true rfl) (W.iret hx hb hr (fun t ht _ => ⟨⟨nI 2, (V1, f), rfl, ⟨by rw [e1], by rw [e1]; decide, fun z => absurd (e1.symm.trans z) (by decide), hC⟩, by rw [oB, ht]; exact ⟨hS.1, hS.2.1⟩⟩, hS.2.2.F ht⟩) hS.2.2.2.2 dL_read_20 hlocks))
  · obtain ⟨e1, e2, hC⟩ := hp
    refine lv_i2l (v := r.toInt64) hx hb dL_read_8 rfl ?_
    refine o_last hx hb hKL hD hS dL_read_9 (fun H locs hS => ?_)
    refine lv_goto (tgt := 21) hx hb dL_read_10 (by decide) ?_
    refine lv_iconst (v := nI 0) hx hb dL_read_21 (by decide) ?_
    exact vx_ret (W.widen (k := 4) (n := 24) (Nat.le_of_ble_eq_true rfl) (Nat.le_of_ble_eq_true rfl) (W.iret hx hb hr (fun t ht _ => ⟨⟨nI 0, (V1, fun _ => r.toInt64), rfl, ⟨by rw [e1], by rw [e1]; decide, fun _ => by rw [e2], hC⟩, by rw [oB, ht]; exact ⟨hS.1, hS.2.1⟩⟩, hS.2.2.F ht⟩) hS.2.2.2.2 dL_read_22 hlocks))
set_option maxHeartbeats 4000000 in
set_option maxRecDepth 100000 in
theorem c_L_widen (l : Launch) (hlt : l.stackTraces = false) (D : va_G) (cI cD cL : ClassId) (ad : Nat → Nat) (o sz : Nat) (V : vT) (f : Nat → Int64) (a : AS) (hR : cR V a) (B : Nat) (hB : B < 10000) (hWF : WF B a) : vx_Met l yL_widen wsL_widen ({ frames := 8, cells := 4, slots := 24, locals := 131 }) (oP D cI cD cL ad o sz V f [.ref (ad 0), .ref o]) (va_Qi (fun (r : Int32) (u : vT × (Nat → Int64)) => r = nI (oWiden a).1 ∧ (oWiden a).1 < 4 ∧ ((oWiden a).1 = 0 → u.2 0 = (oWiden a).2.1.toInt64) ∧ cR u.1 (oWiden a).2.2) (oB D cI cD cL ad o) (oA ad o sz)) (oX ad o sz) 4 24 (oA ad o sz) := by
  refine o_met (cc := cL_widen) (maxL := 3) (ret := some .int) (hh := [(0, 8, 11, 19), (0, 8, 14, 13), (0, 8, 17, 23)]) (by decide) rfl (Nat.le_of_ble_eq_true rfl) ?_
  intro p e s m below meth c hx hb hr hts hown hlocks hml hsz hK hKL hD hS hT9 hZ hN htab ls hl
  subst hsz
  have hown : s.vm.findClass RL = some m.cls := hown
  have hl : lv_has ls 3 [(0, .ref (ad 0)), (1, .ref o)] := hl
  refine lv_aload_n hx hb dL_widen_0 rfl (lv_at hl 1 rfl) ?_
  refine lv_iconst (v := nI 0) hx hb dL_widen_1 (by decide) ?_
  refine lv_aload_n hx hb dL_widen_2 rfl (lv_at hl 0 rfl) ?_
  refine o_xcalli hD hS (vx_runV (As := []) (rest := [.int (nI 0), .ref o]) ⟨hx, hb, hml, hown, hts⟩ (a_X2_widen l hlt D cI cD ad _ V a hR B hB hWF) (cwV 0 hts gL_widen_X2_widen rfl rfl rfl (by decide +kernel) ⟨Nat.le_of_ble_eq_true rfl, Nat.le_of_ble_eq_true rfl⟩) (o_pre hK hT9 hZ hD hS _) rfl rfl hl.1 rfl (lv_room (Nat.le_of_ble_eq_true rfl)) dL_widen_3 ⟨Nat.le_of_ble_eq_true rfl, Nat.le_of_ble_eq_true rfl⟩) (fun E9 ce9 q9 V1 H locs hp hS h1 h2 h3 => ?_) (fun r V1 H locs hp hS => ?_)
  · obtain ⟨hE, hC⟩ := hp
    rcases hE with ⟨rfl, e1⟩ | ⟨rfl, e1⟩ | ⟨rfl, e1⟩
    · refine w_catch (own := RL) (name := "java/lang/IllegalStateException") hown [] ⟨0, 8, 11, 19⟩ [⟨0, 8, 14, 13⟩, ⟨0, 8, 17, 23⟩] htab (fun _ h => absurd h List.not_mem_nil) rfl (by decide) (hts (.classLink RL 19 "java/lang/IllegalStateException") (by decide +kernel)) (va_Nw.use rfl (hT9.1 (.castable "java/lang/IllegalStateException" "java/lang/IllegalStateException") (by decide +kernel))) h1 h2 h3 ?_
      refine lv_astore_n (lv' := [(2, .ref q9), (0, .ref (ad 0)), (1, .ref o)]) hx hb dL_widen_11 rfl hl (by decide) rfl (fun ls hl => ?_)
      refine lv_iconst (v := nI 1) hx hb dL_widen_12 (by decide) ?_
      exact vx_ret (W.widen (k := 4) (n := 24) (Nat.le_of_ble_eq_true rfl) (Nat.le_of_ble_eq_true rfl) (W.iret hx hb hr (fun t ht _ => ⟨⟨nI 1, (V1, f), rfl, ⟨by rw [e1], by rw [e1]; decide, fun z => absurd (e1.symm.trans z) (by decide), hC⟩, by rw [oB, ht]; exact ⟨hS.1, hS.2.1⟩⟩, hS.2.2.F ht⟩) hS.2.2.2.2 dL_widen_13 hlocks))
    · refine w_catch (own := RL) (name := "java/lang/IllegalArgumentException") hown [⟨0, 8, 11, 19⟩] ⟨0, 8, 14, 13⟩ [⟨0, 8, 17, 23⟩] htab (List.forall_mem_cons.mpr ⟨⟨rfl, by decide, "java/lang/IllegalStateException", hts (.classLink RL 19 "java/lang/IllegalStateException") (by decide +kernel), hN ("java/lang/IllegalArgumentException", "java/lang/IllegalStateException") (by decide +kernel)⟩, (fun _ h => absurd h List.not_mem_nil)⟩) rfl (by decide) (hts (.classLink RL 13 "java/lang/IllegalArgumentException") (by decide +kernel)) (va_Nw.use rfl (hT9.1 (.castable "java/lang/IllegalArgumentException" "java/lang/IllegalArgumentException") (by decide +kernel))) h1 h2 h3 ?_
      refine lv_astore_n (lv' := [(2, .ref q9), (0, .ref (ad 0)), (1, .ref o)]) hx hb dL_widen_14 rfl hl (by decide) rfl (fun ls hl => ?_)
      refine lv_iconst (v := nI 2) hx hb dL_widen_15 (by decide) ?_
      exact vx_ret (W.widen (k := 4) (n := 24) (Nat.le_of_ble_eq_true rfl) (Nat.le_of_ble_eq_true rfl) (W.iret hx hb hr (fun t ht _ => ⟨⟨nI 2, (V1, f), rfl, ⟨by rw [e1], by rw [e1]; decide, fun z => absurd (e1.symm.trans z) (by decide), hC⟩, by rw [oB, ht]; exact ⟨hS.1, hS.2.1⟩⟩, hS.2.2.F ht⟩) hS.2.2.2.2 dL_widen_16 hlocks))
    · refine w_catch (own := RL) (name := "java/lang/UnsupportedOperationException") hown [⟨0, 8, 11, 19⟩, ⟨0, 8, 14, 13⟩] ⟨0, 8, 17, 23⟩ [] htab (List.forall_mem_cons.mpr ⟨⟨rfl, by decide, "java/lang/IllegalStateException", hts (.classLink RL 19 "java/lang/IllegalStateException") (by decide +kernel), hN ("java/lang/UnsupportedOperationException", "java/lang/IllegalStateException") (by decide +kernel)⟩, (List.forall_mem_cons.mpr ⟨⟨rfl, by decide, "java/lang/IllegalArgumentException", hts (.classLink RL 13 "java/lang/IllegalArgumentException") (by decide +kernel), hN ("java/lang/UnsupportedOperationException", "java/lang/IllegalArgumentException") (by decide +kernel)⟩, (fun _ h => absurd h List.not_mem_nil)⟩)⟩) rfl (by decide) (hts (.classLink RL 23 "java/lang/UnsupportedOperationException") (by decide +kernel)) (va_Nw.use rfl (hT9.1 (.castable "java/lang/UnsupportedOperationException" "java/lang/UnsupportedOperationException") (by decide +kernel))) h1 h2 h3 ?_
      refine lv_astore_n (lv' := [(2, .ref q9), (0, .ref (ad 0)), (1, .ref o)]) hx hb dL_widen_17 rfl hl (by decide) rfl (fun ls hl => ?_)
      refine lv_iconst (v := nI 3) hx hb dL_widen_18 (by decide) ?_
      exact vx_ret (W.widen (k := 4) (n := 24) (Nat.le_of_ble_eq_true rfl) (Nat.le_of_ble_eq_true rfl) (W.iret hx hb hr (fun t ht _ => ⟨⟨nI 3, (V1, f), rfl, ⟨by rw [e1], by rw [e1]; decide, fun z => absurd (e1.symm.trans z) (by decide), hC⟩, by rw [oB, ht]; exact ⟨hS.1, hS.2.1⟩⟩, hS.2.2.F ht⟩) hS.2.2.2.2 dL_widen_19 hlocks))
  · obtain ⟨e1, e2, hC⟩ := hp
    refine lv_i2l (v := r.toInt64) hx hb dL_widen_6 rfl ?_
    refine o_last hx hb hKL hD hS dL_widen_7 (fun H locs hS => ?_)
    refine lv_goto (tgt := 20) hx hb dL_widen_8 (by decide) ?_
    refine lv_iconst (v := nI 0) hx hb dL_widen_20 (by decide) ?_
    exact vx_ret (W.widen (k := 4) (n := 24) (Nat.le_of_ble_eq_true rfl) (Nat.le_of_ble_eq_true rfl) (W.iret hx hb hr (fun t ht _ => ⟨⟨nI 0, (V1, fun _ => r.toInt64), rfl, ⟨by rw [e1], by rw [e1]; decide, fun _ => by rw [e2], hC⟩, by rw [oB, ht]; exact ⟨hS.1, hS.2.1⟩⟩, hS.2.2.F ht⟩) hS.2.2.2.2 dL_widen_21 hlocks))
set_option maxHeartbeats 4000000 in
set_option maxRecDepth 100000 in
theorem c_L_step (l : Launch) (hlt : l.stackTraces = false) (D : va_G) (cI cD cL : ClassId) (ad : Nat → Nat) (o sz : Nat) (V : vT) (f : Nat → Int64) (a : AS) (hR : cR V a) (B : Nat) (hB : B < 10000) (hWF : WF B a) : vx_Met l yL_step wsL_step ({ frames := 8, cells := 4, slots := 24, locals := 140 }) (oP D cI cD cL ad o sz V f [.ref (ad 0), .ref o]) (va_Qi (fun (r : Int32) (u : vT × (Nat → Int64)) => r = nI (oStep a).1 ∧ (oStep a).1 < 4 ∧ ((oStep a).1 = 0 → u.2 0 = (oStep a).2.1.toInt64) ∧ cR u.1 (oStep a).2.2) (oB D cI cD cL ad o) (oA ad o sz)) (oX ad o sz) 4 24 (oA ad o sz) := by
  refine o_met (cc := cL_step) (maxL := 3) (ret := some .int) (hh := [(0, 8, 11, 19), (0, 8, 14, 13), (0, 8, 17, 23)]) (by decide) rfl (Nat.le_of_ble_eq_true rfl) ?_
  intro p e s m below meth c hx hb hr hts hown hlocks hml hsz hK hKL hD hS hT9 hZ hN htab ls hl
  subst hsz
  have hown : s.vm.findClass RL = some m.cls := hown
  have hl : lv_has ls 3 [(0, .ref (ad 0)), (1, .ref o)] := hl
  refine lv_aload_n hx hb dL_step_0 rfl (lv_at hl 1 rfl) ?_
  refine lv_iconst (v := nI 0) hx hb dL_step_1 (by decide) ?_
  refine lv_aload_n hx hb dL_step_2 rfl (lv_at hl 0 rfl) ?_
  refine o_xcalli hD hS (vx_runV (As := []) (rest := [.int (nI 0), .ref o]) ⟨hx, hb, hml, hown, hts⟩ (a_X2_step l hlt D cI cD ad _ V a hR B hB hWF) (cwV 0 hts gL_step_X2_step rfl rfl rfl (by decide +kernel) ⟨Nat.le_of_ble_eq_true rfl, Nat.le_of_ble_eq_true rfl⟩) (o_pre hK hT9 hZ hD hS _) rfl rfl hl.1 rfl (lv_room (Nat.le_of_ble_eq_true rfl)) dL_step_3 ⟨Nat.le_of_ble_eq_true rfl, Nat.le_of_ble_eq_true rfl⟩) (fun E9 ce9 q9 V1 H locs hp hS h1 h2 h3 => ?_) (fun r V1 H locs hp hS => ?_)
  · obtain ⟨hE, hC⟩ := hp
    rcases hE with ⟨rfl, e1⟩ | ⟨rfl, e1⟩ | ⟨rfl, e1⟩
    · refine w_catch (own := RL) (name := "java/lang/IllegalStateException") hown [] ⟨0, 8, 11, 19⟩ [⟨0, 8, 14, 13⟩, ⟨0, 8, 17, 23⟩] htab (fun _ h => absurd h List.not_mem_nil) rfl (by decide) (hts (.classLink RL 19 "java/lang/IllegalStateException") (by decide +kernel)) (va_Nw.use rfl (hT9.1 (.castable "java/lang/IllegalStateException" "java/lang/IllegalStateException") (by decide +kernel))) h1 h2 h3 ?_
      refine lv_astore_n (lv' := [(2, .ref q9), (0, .ref (ad 0)), (1, .ref o)]) hx hb dL_step_11 rfl hl (by decide) rfl (fun ls hl => ?_)
      refine lv_iconst (v := nI 1) hx hb dL_step_12 (by decide) ?_
      exact vx_ret (W.widen (k := 4) (n := 24) (Nat.le_of_ble_eq_true rfl) (Nat.le_of_ble_eq_true rfl) (W.iret hx hb hr (fun t ht _ => ⟨⟨nI 1, (V1, f), rfl, ⟨by rw [e1], by rw [e1]; decide, fun z => absurd (e1.symm.trans z) (by decide), hC⟩, by rw [oB, ht]; exact ⟨hS.1, hS.2.1⟩⟩, hS.2.2.F ht⟩) hS.2.2.2.2 dL_step_13 hlocks))
    · refine w_catch (own := RL) (name := "java/lang/IllegalArgumentException") hown [⟨0, 8, 11, 19⟩] ⟨0, 8, 14, 13⟩ [⟨0, 8, 17, 23⟩] htab (List.forall_mem_cons.mpr ⟨⟨rfl, by decide, "java/lang/IllegalStateException", hts (.classLink RL 19 "java/lang/IllegalStateException") (by decide +kernel), hN ("java/lang/IllegalArgumentException", "java/lang/IllegalStateException") (by decide +kernel)⟩, (fun _ h => absurd h List.not_mem_nil)⟩) rfl (by decide) (hts (.classLink RL 13 "java/lang/IllegalArgumentException") (by decide +kernel)) (va_Nw.use rfl (hT9.1 (.castable "java/lang/IllegalArgumentException" "java/lang/IllegalArgumentException") (by decide +kernel))) h1 h2 h3 ?_
      refine lv_astore_n (lv' := [(2, .ref q9), (0, .ref (ad 0)), (1, .ref o)]) hx hb dL_step_14 rfl hl (by decide) rfl (fun ls hl => ?_)
      refine lv_iconst (v := nI 2) hx hb dL_step_15 (by decide) ?_
      exact vx_ret (W.widen (k := 4) (n := 24) (Nat.le_of_ble_eq_true rfl) (Nat.le_of_ble_eq_true rfl) (W.iret hx hb hr (fun t ht _ => ⟨⟨nI 2, (V1, f), rfl, ⟨by rw [e1], by rw [e1]; decide, fun z => absurd (e1.symm.trans z) (by decide), hC⟩, by rw [oB, ht]; exact ⟨hS.1, hS.2.1⟩⟩, hS.2.2.F ht⟩) hS.2.2.2.2 dL_step_16 hlocks))
    · refine w_catch (own := RL) (name := "java/lang/UnsupportedOperationException") hown [⟨0, 8, 11, 19⟩, ⟨0, 8, 14, 13⟩] ⟨0, 8, 17, 23⟩ [] htab (List.forall_mem_cons.mpr ⟨⟨rfl, by decide, "java/lang/IllegalStateException", hts (.classLink RL 19 "java/lang/IllegalStateException") (by decide +kernel), hN ("java/lang/UnsupportedOperationException", "java/lang/IllegalStateException") (by decide +kernel)⟩, (List.forall_mem_cons.mpr ⟨⟨rfl, by decide, "java/lang/IllegalArgumentException", hts (.classLink RL 13 "java/lang/IllegalArgumentException") (by decide +kernel), hN ("java/lang/UnsupportedOperationException", "java/lang/IllegalArgumentException") (by decide +kernel)⟩, (fun _ h => absurd h List.not_mem_nil)⟩)⟩) rfl (by decide) (hts (.classLink RL 23 "java/lang/UnsupportedOperationException") (by decide +kernel)) (va_Nw.use rfl (hT9.1 (.castable "java/lang/UnsupportedOperationException" "java/lang/UnsupportedOperationException") (by decide +kernel))) h1 h2 h3 ?_
      refine lv_astore_n (lv' := [(2, .ref q9), (0, .ref (ad 0)), (1, .ref o)]) hx hb dL_step_17 rfl hl (by decide) rfl (fun ls hl => ?_)
      refine lv_iconst (v := nI 3) hx hb dL_step_18 (by decide) ?_
      exact vx_ret (W.widen (k := 4) (n := 24) (Nat.le_of_ble_eq_true rfl) (Nat.le_of_ble_eq_true rfl) (W.iret hx hb hr (fun t ht _ => ⟨⟨nI 3, (V1, f), rfl, ⟨by rw [e1], by rw [e1]; decide, fun z => absurd (e1.symm.trans z) (by decide), hC⟩, by rw [oB, ht]; exact ⟨hS.1, hS.2.1⟩⟩, hS.2.2.F ht⟩) hS.2.2.2.2 dL_step_19 hlocks))
  · obtain ⟨e1, e2, hC⟩ := hp
    refine lv_i2l (v := r.toInt64) hx hb dL_step_6 rfl ?_
    refine o_last hx hb hKL hD hS dL_step_7 (fun H locs hS => ?_)
    refine lv_goto (tgt := 20) hx hb dL_step_8 (by decide) ?_
    refine lv_iconst (v := nI 0) hx hb dL_step_20 (by decide) ?_
    exact vx_ret (W.widen (k := 4) (n := 24) (Nat.le_of_ble_eq_true rfl) (Nat.le_of_ble_eq_true rfl) (W.iret hx hb hr (fun t ht _ => ⟨⟨nI 0, (V1, fun _ => r.toInt64), rfl, ⟨by rw [e1], by rw [e1]; decide, fun _ => by rw [e2], hC⟩, by rw [oB, ht]; exact ⟨hS.1, hS.2.1⟩⟩, hS.2.2.F ht⟩) hS.2.2.2.2 dL_step_21 hlocks))
set_option maxHeartbeats 4000000 in
set_option maxRecDepth 100000 in
theorem c_L_lose (l : Launch) (hlt : l.stackTraces = false) (D : va_G) (cI cD cL : ClassId) (ad : Nat → Nat) (o sz : Nat) (V : vT) (f : Nat → Int64) (a : AS) (hR : cR V a) (B : Nat) (hB : B < 10000) (hWF : WF B a) (p0 : Int32) : vx_Met l yL_lose wsL_lose ({ frames := 8, cells := 4, slots := 24, locals := 132 }) (oP D cI cD cL ad o sz V f [.ref (ad 0), .int p0]) (va_Qi (fun (r : Int32) (u : vT × (Nat → Int64)) => r = nI (oLose a p0).1 ∧ (oLose a p0).1 < 4 ∧ cR u.1 (oLose a p0).2.2) (oB D cI cD cL ad o) (oA ad o sz)) (oX ad o sz) 4 24 (oA ad o sz) := by
  refine o_met (cc := cL_lose) (maxL := 3) (ret := some .int) (hh := [(0, 5, 8, 19), (0, 5, 11, 21), (0, 5, 14, 13)]) (by decide) rfl (Nat.le_of_ble_eq_true rfl) ?_
  intro p e s m below meth c hx hb hr hts hown hlocks hml hsz hK hKL hD hS hT9 hZ hN htab ls hl
  subst hsz
  have hown : s.vm.findClass RL = some m.cls := hown
  have hl : lv_has ls 3 [(0, .ref (ad 0)), (1, .int p0)] := hl
  refine lv_aload_n hx hb dL_lose_0 rfl (lv_at hl 0 rfl) ?_
  refine lv_iload_n hx hb dL_lose_1 rfl (lv_at hl 1 rfl) ?_
  refine o_xcallv hD hS (vx_runV (As := [.int p0]) (rest := []) ⟨hx, hb, hml, hown, hts⟩ (a_X2_lose l hlt D cI cD ad _ V a hR B hB hWF p0) (cwV 1 hts gL_lose_X2_lose rfl rfl rfl (by decide +kernel) ⟨Nat.le_of_ble_eq_true rfl, Nat.le_of_ble_eq_true rfl⟩) (o_pre hK hT9 hZ hD hS _) rfl rfl hl.1 rfl (lv_room (Nat.le_of_ble_eq_true rfl)) dL_lose_2 ⟨Nat.le_of_ble_eq_true rfl, Nat.le_of_ble_eq_true rfl⟩) (fun E9 ce9 q9 V1 H locs hp hS h1 h2 h3 => ?_) (fun V1 H locs hp hS => ?_)
  · obtain ⟨hE, hC⟩ := hp
    rcases hE with ⟨rfl, e1⟩ | ⟨rfl, e1⟩ | ⟨rfl, e1⟩
    · refine w_catch (own := RL) (name := "java/lang/IllegalStateException") hown [] ⟨0, 5, 8, 19⟩ [⟨0, 5, 11, 21⟩, ⟨0, 5, 14, 13⟩] htab (fun _ h => absurd h List.not_mem_nil) rfl (by decide) (hts (.classLink RL 19 "java/lang/IllegalStateException") (by decide +kernel)) (va_Nw.use rfl (hT9.1 (.castable "java/lang/IllegalStateException" "java/lang/IllegalStateException") (by decide +kernel))) h1 h2 h3 ?_
      refine lv_astore_n (lv' := [(2, .ref q9), (0, .ref (ad 0)), (1, .int p0)]) hx hb dL_lose_8 rfl hl (by decide) rfl (fun ls hl => ?_)
      refine lv_iconst (v := nI 1) hx hb dL_lose_9 (by decide) ?_
      exact vx_ret (W.widen (k := 4) (n := 24) (Nat.le_of_ble_eq_true rfl) (Nat.le_of_ble_eq_true rfl) (W.iret hx hb hr (fun t ht _ => ⟨⟨nI 1, (V1, f), rfl, ⟨by rw [e1], by rw [e1]; decide, hC⟩, by rw [oB, ht]; exact ⟨hS.1, hS.2.1⟩⟩, hS.2.2.F ht⟩) hS.2.2.2.2 dL_lose_10 hlocks))
    · refine w_catch (own := RL) (name := "java/lang/IndexOutOfBoundsException") hown [⟨0, 5, 8, 19⟩] ⟨0, 5, 11, 21⟩ [⟨0, 5, 14, 13⟩] htab (List.forall_mem_cons.mpr ⟨⟨rfl, by decide, "java/lang/IllegalStateException", hts (.classLink RL 19 "java/lang/IllegalStateException") (by decide +kernel), hN ("java/lang/IndexOutOfBoundsException", "java/lang/IllegalStateException") (by decide +kernel)⟩, (fun _ h => absurd h List.not_mem_nil)⟩) rfl (by decide) (hts (.classLink RL 21 "java/lang/IndexOutOfBoundsException") (by decide +kernel)) (va_Nw.use rfl (hT9.1 (.castable "java/lang/IndexOutOfBoundsException" "java/lang/IndexOutOfBoundsException") (by decide +kernel))) h1 h2 h3 ?_
      refine lv_astore_n (lv' := [(2, .ref q9), (0, .ref (ad 0)), (1, .int p0)]) hx hb dL_lose_11 rfl hl (by decide) rfl (fun ls hl => ?_)
      refine lv_iconst (v := nI 2) hx hb dL_lose_12 (by decide) ?_
      exact vx_ret (W.widen (k := 4) (n := 24) (Nat.le_of_ble_eq_true rfl) (Nat.le_of_ble_eq_true rfl) (W.iret hx hb hr (fun t ht _ => ⟨⟨nI 2, (V1, f), rfl, ⟨by rw [e1], by rw [e1]; decide, hC⟩, by rw [oB, ht]; exact ⟨hS.1, hS.2.1⟩⟩, hS.2.2.F ht⟩) hS.2.2.2.2 dL_lose_13 hlocks))
    · refine w_catch (own := RL) (name := "java/lang/IllegalArgumentException") hown [⟨0, 5, 8, 19⟩, ⟨0, 5, 11, 21⟩] ⟨0, 5, 14, 13⟩ [] htab (List.forall_mem_cons.mpr ⟨⟨rfl, by decide, "java/lang/IllegalStateException", hts (.classLink RL 19 "java/lang/IllegalStateException") (by decide +kernel), hN ("java/lang/IllegalArgumentException", "java/lang/IllegalStateException") (by decide +kernel)⟩, (List.forall_mem_cons.mpr ⟨⟨rfl, by decide, "java/lang/IndexOutOfBoundsException", hts (.classLink RL 21 "java/lang/IndexOutOfBoundsException") (by decide +kernel), hN ("java/lang/IllegalArgumentException", "java/lang/IndexOutOfBoundsException") (by decide +kernel)⟩, (fun _ h => absurd h List.not_mem_nil)⟩)⟩) rfl (by decide) (hts (.classLink RL 13 "java/lang/IllegalArgumentException") (by decide +kernel)) (va_Nw.use rfl (hT9.1 (.castable "java/lang/IllegalArgumentException" "java/lang/IllegalArgumentException") (by decide +kernel))) h1 h2 h3 ?_
      refine lv_astore_n (lv' := [(2, .ref q9), (0, .ref (ad 0)), (1, .int p0)]) hx hb dL_lose_14 rfl hl (by decide) rfl (fun ls hl => ?_)
      refine lv_iconst (v := nI 3) hx hb dL_lose_15 (by decide) ?_
      exact vx_ret (W.widen (k := 4) (n := 24) (Nat.le_of_ble_eq_true rfl) (Nat.le_of_ble_eq_true rfl) (W.iret hx hb hr (fun t ht _ => ⟨⟨nI 3, (V1, f), rfl, ⟨by rw [e1], by rw [e1]; decide, hC⟩, by rw [oB, ht]; exact ⟨hS.1, hS.2.1⟩⟩, hS.2.2.F ht⟩) hS.2.2.2.2 dL_lose_16 hlocks))
  · obtain ⟨e1, hC⟩ := hp
    refine lv_goto (tgt := 17) hx hb dL_lose_5 (by decide) ?_
    refine lv_iconst (v := nI 0) hx hb dL_lose_17 (by decide) ?_
    exact vx_ret (W.widen (k := 4) (n := 24) (Nat.le_of_ble_eq_true rfl) (Nat.le_of_ble_eq_true rfl) (W.iret hx hb hr (fun t ht _ => ⟨⟨nI 0, (V1, f), rfl, ⟨by rw [e1], by rw [e1]; decide, hC⟩, by rw [oB, ht]; exact ⟨hS.1, hS.2.1⟩⟩, hS.2.2.F ht⟩) hS.2.2.2.2 dL_lose_18 hlocks))
set_option maxHeartbeats 4000000 in
set_option maxRecDepth 100000 in
theorem c_L_replace (l : Launch) (hlt : l.stackTraces = false) (D : va_G) (cI cD cL : ClassId) (ad : Nat → Nat) (o sz : Nat) (V : vT) (f : Nat → Int64) (a : AS) (hR : cR V a) (B : Nat) (hB : B < 10000) (hWF : WF B a) : vx_Met l yL_replace wsL_replace ({ frames := 8, cells := 4, slots := 24, locals := 130 }) (oP D cI cD cL ad o sz V f [.ref (ad 0), .ref o]) (va_Qi (fun (r : Int32) (u : vT × (Nat → Int64)) => r = nI (oReplace a).1 ∧ (oReplace a).1 < 4 ∧ ((oReplace a).1 = 0 → u.2 0 = (oReplace a).2.1.toInt64) ∧ cR u.1 (oReplace a).2.2) (oB D cI cD cL ad o) (oA ad o sz)) (oX ad o sz) 4 24 (oA ad o sz) := by
  refine o_met (cc := cL_replace) (maxL := 3) (ret := some .int) (hh := [(0, 8, 11, 19), (0, 8, 14, 13)]) (by decide) rfl (Nat.le_of_ble_eq_true rfl) ?_
  intro p e s m below meth c hx hb hr hts hown hlocks hml hsz hK hKL hD hS hT9 hZ hN htab ls hl
  subst hsz
  have hown : s.vm.findClass RL = some m.cls := hown
  have hl : lv_has ls 3 [(0, .ref (ad 0)), (1, .ref o)] := hl
  refine lv_aload_n hx hb dL_replace_0 rfl (lv_at hl 1 rfl) ?_
  refine lv_iconst (v := nI 0) hx hb dL_replace_1 (by decide) ?_
  refine lv_aload_n hx hb dL_replace_2 rfl (lv_at hl 0 rfl) ?_
  refine o_xcalli hD hS (vx_runV (As := []) (rest := [.int (nI 0), .ref o]) ⟨hx, hb, hml, hown, hts⟩ (a_X2_replace l hlt D cI cD ad _ V a hR B hB hWF) (cwV 0 hts gL_replace_X2_replace rfl rfl rfl (by decide +kernel) ⟨Nat.le_of_ble_eq_true rfl, Nat.le_of_ble_eq_true rfl⟩) (o_pre hK hT9 hZ hD hS _) rfl rfl hl.1 rfl (lv_room (Nat.le_of_ble_eq_true rfl)) dL_replace_3 ⟨Nat.le_of_ble_eq_true rfl, Nat.le_of_ble_eq_true rfl⟩) (fun E9 ce9 q9 V1 H locs hp hS h1 h2 h3 => ?_) (fun r V1 H locs hp hS => ?_)
  · obtain ⟨hE, hC⟩ := hp
    rcases hE with ⟨rfl, e1⟩ | ⟨rfl, e1⟩
    · refine w_catch (own := RL) (name := "java/lang/IllegalStateException") hown [] ⟨0, 8, 11, 19⟩ [⟨0, 8, 14, 13⟩] htab (fun _ h => absurd h List.not_mem_nil) rfl (by decide) (hts (.classLink RL 19 "java/lang/IllegalStateException") (by decide +kernel)) (va_Nw.use rfl (hT9.1 (.castable "java/lang/IllegalStateException" "java/lang/IllegalStateException") (by decide +kernel))) h1 h2 h3 ?_
      refine lv_astore_n (lv' := [(2, .ref q9), (0, .ref (ad 0)), (1, .ref o)]) hx hb dL_replace_11 rfl hl (by decide) rfl (fun ls hl => ?_)
      refine lv_iconst (v := nI 1) hx hb dL_replace_12 (by decide) ?_
      exact vx_ret (W.widen (k := 4) (n := 24) (Nat.le_of_ble_eq_true rfl) (Nat.le_of_ble_eq_true rfl) (W.iret hx hb hr (fun t ht _ => ⟨⟨nI 1, (V1, f), rfl, ⟨by rw [e1], by rw [e1]; decide, fun z => absurd (e1.symm.trans z) (by decide), hC⟩, by rw [oB, ht]; exact ⟨hS.1, hS.2.1⟩⟩, hS.2.2.F ht⟩) hS.2.2.2.2 dL_replace_13 hlocks))
    · refine w_catch (own := RL) (name := "java/lang/IllegalArgumentException") hown [⟨0, 8, 11, 19⟩] ⟨0, 8, 14, 13⟩ [] htab (List.forall_mem_cons.mpr ⟨⟨rfl, by decide, "java/lang/IllegalStateException", hts (.classLink RL 19 "java/lang/IllegalStateException") (by decide +kernel), hN ("java/lang/IllegalArgumentException", "java/lang/IllegalStateException") (by decide +kernel)⟩, (fun _ h => absurd h List.not_mem_nil)⟩) rfl (by decide) (hts (.classLink RL 13 "java/lang/IllegalArgumentException") (by decide +kernel)) (va_Nw.use rfl (hT9.1 (.castable "java/lang/IllegalArgumentException" "java/lang/IllegalArgumentException") (by decide +kernel))) h1 h2 h3 ?_
      refine lv_astore_n (lv' := [(2, .ref q9), (0, .ref (ad 0)), (1, .ref o)]) hx hb dL_replace_14 rfl hl (by decide) rfl (fun ls hl => ?_)
      refine lv_iconst (v := nI 2) hx hb dL_replace_15 (by decide) ?_
      exact vx_ret (W.widen (k := 4) (n := 24) (Nat.le_of_ble_eq_true rfl) (Nat.le_of_ble_eq_true rfl) (W.iret hx hb hr (fun t ht _ => ⟨⟨nI 2, (V1, f), rfl, ⟨by rw [e1], by rw [e1]; decide, fun z => absurd (e1.symm.trans z) (by decide), hC⟩, by rw [oB, ht]; exact ⟨hS.1, hS.2.1⟩⟩, hS.2.2.F ht⟩) hS.2.2.2.2 dL_replace_16 hlocks))
  · obtain ⟨e1, e2, hC⟩ := hp
    refine lv_i2l (v := r.toInt64) hx hb dL_replace_6 rfl ?_
    refine o_last hx hb hKL hD hS dL_replace_7 (fun H locs hS => ?_)
    refine lv_goto (tgt := 17) hx hb dL_replace_8 (by decide) ?_
    refine lv_iconst (v := nI 0) hx hb dL_replace_17 (by decide) ?_
    exact vx_ret (W.widen (k := 4) (n := 24) (Nat.le_of_ble_eq_true rfl) (Nat.le_of_ble_eq_true rfl) (W.iret hx hb hr (fun t ht _ => ⟨⟨nI 0, (V1, fun _ => r.toInt64), rfl, ⟨by rw [e1], by rw [e1]; decide, fun _ => by rw [e2], hC⟩, by rw [oB, ht]; exact ⟨hS.1, hS.2.1⟩⟩, hS.2.2.F ht⟩) hS.2.2.2.2 dL_replace_18 hlocks))
set_option maxHeartbeats 4000000 in
set_option maxRecDepth 100000 in
theorem c_L_rebuild (l : Launch) (hlt : l.stackTraces = false) (D : va_G) (cI cD cL : ClassId) (ad : Nat → Nat) (o sz : Nat) (V : vT) (f : Nat → Int64) (a : AS) (hR : cR V a) (B : Nat) (hB : B < 10000) (hWF : WF B a) : vx_Met l yL_rebuild wsL_rebuild ({ frames := 8, cells := 4, slots := 24, locals := 131 }) (oP D cI cD cL ad o sz V f [.ref (ad 0), .ref o]) (va_Qi (fun (r : Int32) (u : vT × (Nat → Int64)) => r = nI (oRebuild a).1 ∧ (oRebuild a).1 < 4 ∧ ((oRebuild a).1 = 0 → u.2 0 = (oRebuild a).2.1.toInt64) ∧ cR u.1 (oRebuild a).2.2) (oB D cI cD cL ad o) (oA ad o sz)) (oX ad o sz) 4 24 (oA ad o sz) := by
  refine o_met (cc := cL_rebuild) (maxL := 3) (ret := some .int) (hh := [(0, 8, 11, 19), (0, 8, 14, 13)]) (by decide) rfl (Nat.le_of_ble_eq_true rfl) ?_
  intro p e s m below meth c hx hb hr hts hown hlocks hml hsz hK hKL hD hS hT9 hZ hN htab ls hl
  subst hsz
  have hown : s.vm.findClass RL = some m.cls := hown
  have hl : lv_has ls 3 [(0, .ref (ad 0)), (1, .ref o)] := hl
  refine lv_aload_n hx hb dL_rebuild_0 rfl (lv_at hl 1 rfl) ?_
  refine lv_iconst (v := nI 0) hx hb dL_rebuild_1 (by decide) ?_
  refine lv_aload_n hx hb dL_rebuild_2 rfl (lv_at hl 0 rfl) ?_
  refine o_xcalli hD hS (vx_runV (As := []) (rest := [.int (nI 0), .ref o]) ⟨hx, hb, hml, hown, hts⟩ (a_X2_rebuild l hlt D cI cD ad _ V a hR B hB hWF) (cwV 0 hts gL_rebuild_X2_rebuild rfl rfl rfl (by decide +kernel) ⟨Nat.le_of_ble_eq_true rfl, Nat.le_of_ble_eq_true rfl⟩) (o_pre hK hT9 hZ hD hS _) rfl rfl hl.1 rfl (lv_room (Nat.le_of_ble_eq_true rfl)) dL_rebuild_3 ⟨Nat.le_of_ble_eq_true rfl, Nat.le_of_ble_eq_true rfl⟩) (fun E9 ce9 q9 V1 H locs hp hS h1 h2 h3 => ?_) (fun r V1 H locs hp hS => ?_)
  · obtain ⟨hE, hC⟩ := hp
    rcases hE with ⟨rfl, e1⟩ | ⟨rfl, e1⟩
    · refine w_catch (own := RL) (name := "java/lang/IllegalStateException") hown [] ⟨0, 8, 11, 19⟩ [⟨0, 8, 14, 13⟩] htab (fun _ h => absurd h List.not_mem_nil) rfl (by decide) (hts (.classLink RL 19 "java/lang/IllegalStateException") (by decide +kernel)) (va_Nw.use rfl (hT9.1 (.castable "java/lang/IllegalStateException" "java/lang/IllegalStateException") (by decide +kernel))) h1 h2 h3 ?_
      refine lv_astore_n (lv' := [(2, .ref q9), (0, .ref (ad 0)), (1, .ref o)]) hx hb dL_rebuild_11 rfl hl (by decide) rfl (fun ls hl => ?_)
      refine lv_iconst (v := nI 1) hx hb dL_rebuild_12 (by decide) ?_
      exact vx_ret (W.widen (k := 4) (n := 24) (Nat.le_of_ble_eq_true rfl) (Nat.le_of_ble_eq_true rfl) (W.iret hx hb hr (fun t ht _ => ⟨⟨nI 1, (V1, f), rfl, ⟨by rw [e1], by rw [e1]; decide, fun z => absurd (e1.symm.trans z) (by decide), hC⟩, by rw [oB, ht]; exact ⟨hS.1, hS.2.1⟩⟩, hS.2.2.F ht⟩) hS.2.2.2.2 dL_rebuild_13 hlocks))
    · refine w_catch (own := RL) (name := "java/lang/IllegalArgumentException") hown [⟨0, 8, 11, 19⟩] ⟨0, 8, 14, 13⟩ [] htab (List.forall_mem_cons.mpr ⟨⟨rfl, by decide, "java/lang/IllegalStateException", hts (.classLink RL 19 "java/lang/IllegalStateException") (by decide +kernel), hN ("java/lang/IllegalArgumentException", "java/lang/IllegalStateException") (by decide +kernel)⟩, (fun _ h => absurd h List.not_mem_nil)⟩) rfl (by decide) (hts (.classLink RL 13 "java/lang/IllegalArgumentException") (by decide +kernel)) (va_Nw.use rfl (hT9.1 (.castable "java/lang/IllegalArgumentException" "java/lang/IllegalArgumentException") (by decide +kernel))) h1 h2 h3 ?_
      refine lv_astore_n (lv' := [(2, .ref q9), (0, .ref (ad 0)), (1, .ref o)]) hx hb dL_rebuild_14 rfl hl (by decide) rfl (fun ls hl => ?_)
      refine lv_iconst (v := nI 2) hx hb dL_rebuild_15 (by decide) ?_
      exact vx_ret (W.widen (k := 4) (n := 24) (Nat.le_of_ble_eq_true rfl) (Nat.le_of_ble_eq_true rfl) (W.iret hx hb hr (fun t ht _ => ⟨⟨nI 2, (V1, f), rfl, ⟨by rw [e1], by rw [e1]; decide, fun z => absurd (e1.symm.trans z) (by decide), hC⟩, by rw [oB, ht]; exact ⟨hS.1, hS.2.1⟩⟩, hS.2.2.F ht⟩) hS.2.2.2.2 dL_rebuild_16 hlocks))
  · obtain ⟨e1, e2, hC⟩ := hp
    refine lv_i2l (v := r.toInt64) hx hb dL_rebuild_6 rfl ?_
    refine o_last hx hb hKL hD hS dL_rebuild_7 (fun H locs hS => ?_)
    refine lv_goto (tgt := 17) hx hb dL_rebuild_8 (by decide) ?_
    refine lv_iconst (v := nI 0) hx hb dL_rebuild_17 (by decide) ?_
    exact vx_ret (W.widen (k := 4) (n := 24) (Nat.le_of_ble_eq_true rfl) (Nat.le_of_ble_eq_true rfl) (W.iret hx hb hr (fun t ht _ => ⟨⟨nI 0, (V1, fun _ => r.toInt64), rfl, ⟨by rw [e1], by rw [e1]; decide, fun _ => by rw [e2], hC⟩, by rw [oB, ht]; exact ⟨hS.1, hS.2.1⟩⟩, hS.2.2.F ht⟩) hS.2.2.2.2 dL_rebuild_18 hlocks))
set_option maxHeartbeats 4000000 in
set_option maxRecDepth 100000 in
theorem c_L_crash (l : Launch) (hlt : l.stackTraces = false) (D : va_G) (cI cD cL : ClassId) (ad : Nat → Nat) (o sz : Nat) (V : vT) (f : Nat → Int64) (a : AS) (hR : cR V a) (B : Nat) (hB : B < 10000) (hWF : WF B a) (p0 p1 : Int32) : vx_Met l yL_crash wsL_crash ({ frames := 8, cells := 4, slots := 24, locals := 132 }) (oP D cI cD cL ad o sz V f [.ref (ad 0), .int p0, .int p1]) (va_Qi (fun (r : Int32) (u : vT × (Nat → Int64)) => r = nI (oCrash a p0 p1).1 ∧ (oCrash a p0 p1).1 < 4 ∧ cR u.1 (oCrash a p0 p1).2.2) (oB D cI cD cL ad o) (oA ad o sz)) (oX ad o sz) 4 24 (oA ad o sz) := by
  refine o_met (cc := cL_crash) (maxL := 4) (ret := some .int) (hh := [(0, 6, 9, 19), (0, 6, 12, 13)]) (by decide) rfl (Nat.le_of_ble_eq_true rfl) ?_
  intro p e s m below meth c hx hb hr hts hown hlocks hml hsz hK hKL hD hS hT9 hZ hN htab ls hl
  subst hsz
  have hown : s.vm.findClass RL = some m.cls := hown
  have hl : lv_has ls 4 [(0, .ref (ad 0)), (1, .int p0), (2, .int p1)] := hl
  refine lv_aload_n hx hb dL_crash_0 rfl (lv_at hl 0 rfl) ?_
  refine lv_iload_n hx hb dL_crash_1 rfl (lv_at hl 1 rfl) ?_
  refine lv_iload_n hx hb dL_crash_2 rfl (lv_at hl 2 rfl) ?_
  refine o_xcallv hD hS (vx_runV (As := [.int p0, .int p1]) (rest := []) ⟨hx, hb, hml, hown, hts⟩ (a_X2_crash l hlt D cI cD ad _ V a hR B hB hWF p0 p1) (cwV 2 hts gL_crash_X2_crash rfl rfl rfl (by decide +kernel) ⟨Nat.le_of_ble_eq_true rfl, Nat.le_of_ble_eq_true rfl⟩) (o_pre hK hT9 hZ hD hS _) rfl rfl hl.1 rfl (lv_room (Nat.le_of_ble_eq_true rfl)) dL_crash_3 ⟨Nat.le_of_ble_eq_true rfl, Nat.le_of_ble_eq_true rfl⟩) (fun E9 ce9 q9 V1 H locs hp hS h1 h2 h3 => ?_) (fun V1 H locs hp hS => ?_)
  · obtain ⟨hE, hC⟩ := hp
    rcases hE with ⟨rfl, e1⟩ | ⟨rfl, e1⟩
    · refine w_catch (own := RL) (name := "java/lang/IllegalStateException") hown [] ⟨0, 6, 9, 19⟩ [⟨0, 6, 12, 13⟩] htab (fun _ h => absurd h List.not_mem_nil) rfl (by decide) (hts (.classLink RL 19 "java/lang/IllegalStateException") (by decide +kernel)) (va_Nw.use rfl (hT9.1 (.castable "java/lang/IllegalStateException" "java/lang/IllegalStateException") (by decide +kernel))) h1 h2 h3 ?_
      refine lv_astore_n (lv' := [(3, .ref q9), (0, .ref (ad 0)), (1, .int p0), (2, .int p1)]) hx hb dL_crash_9 rfl hl (by decide) rfl (fun ls hl => ?_)
      refine lv_iconst (v := nI 1) hx hb dL_crash_10 (by decide) ?_
      exact vx_ret (W.widen (k := 4) (n := 24) (Nat.le_of_ble_eq_true rfl) (Nat.le_of_ble_eq_true rfl) (W.iret hx hb hr (fun t ht _ => ⟨⟨nI 1, (V1, f), rfl, ⟨by rw [e1], by rw [e1]; decide, hC⟩, by rw [oB, ht]; exact ⟨hS.1, hS.2.1⟩⟩, hS.2.2.F ht⟩) hS.2.2.2.2 dL_crash_11 hlocks))
    · refine w_catch (own := RL) (name := "java/lang/IllegalArgumentException") hown [⟨0, 6, 9, 19⟩] ⟨0, 6, 12, 13⟩ [] htab (List.forall_mem_cons.mpr ⟨⟨rfl, by decide, "java/lang/IllegalStateException", hts (.classLink RL 19 "java/lang/IllegalStateException") (by decide +kernel), hN ("java/lang/IllegalArgumentException", "java/lang/IllegalStateException") (by decide +kernel)⟩, (fun _ h => absurd h List.not_mem_nil)⟩) rfl (by decide) (hts (.classLink RL 13 "java/lang/IllegalArgumentException") (by decide +kernel)) (va_Nw.use rfl (hT9.1 (.castable "java/lang/IllegalArgumentException" "java/lang/IllegalArgumentException") (by decide +kernel))) h1 h2 h3 ?_
      refine lv_astore_n (lv' := [(3, .ref q9), (0, .ref (ad 0)), (1, .int p0), (2, .int p1)]) hx hb dL_crash_12 rfl hl (by decide) rfl (fun ls hl => ?_)
      refine lv_iconst (v := nI 2) hx hb dL_crash_13 (by decide) ?_
      exact vx_ret (W.widen (k := 4) (n := 24) (Nat.le_of_ble_eq_true rfl) (Nat.le_of_ble_eq_true rfl) (W.iret hx hb hr (fun t ht _ => ⟨⟨nI 2, (V1, f), rfl, ⟨by rw [e1], by rw [e1]; decide, hC⟩, by rw [oB, ht]; exact ⟨hS.1, hS.2.1⟩⟩, hS.2.2.F ht⟩) hS.2.2.2.2 dL_crash_14 hlocks))
  · obtain ⟨e1, hC⟩ := hp
    refine lv_goto (tgt := 15) hx hb dL_crash_6 (by decide) ?_
    refine lv_iconst (v := nI 0) hx hb dL_crash_15 (by decide) ?_
    exact vx_ret (W.widen (k := 4) (n := 24) (Nat.le_of_ble_eq_true rfl) (Nat.le_of_ble_eq_true rfl) (W.iret hx hb hr (fun t ht _ => ⟨⟨nI 0, (V1, f), rfl, ⟨by rw [e1], by rw [e1]; decide, hC⟩, by rw [oB, ht]; exact ⟨hS.1, hS.2.1⟩⟩, hS.2.2.F ht⟩) hS.2.2.2.2 dL_crash_16 hlocks))
set_option maxHeartbeats 4000000 in
set_option maxRecDepth 100000 in
theorem c_L_start (l : Launch) (hlt : l.stackTraces = false) (D : va_G) (cI cD cL : ClassId) (ad : Nat → Nat) (o sz : Nat) (V : vT) (f : Nat → Int64) (a : AS) (hR : cR V a) (B : Nat) (hB : B < 10000) (hWF : WF B a) : vx_Met l yL_start wsL_start ({ frames := 7, cells := 4, slots := 24, locals := 114 }) (oP D cI cD cL ad o sz V f [.ref (ad 0), .ref o]) (va_Qi (fun (r : Int32) (u : vT × (Nat → Int64)) => r = nI (oStart a).1 ∧ (oStart a).1 < 4 ∧ ((oStart a).1 = 0 → u.2 0 = (oStart a).2.1.toInt64) ∧ cR u.1 (oStart a).2.2) (oB D cI cD cL ad o) (oA ad o sz)) (oX ad o sz) 4 24 (oA ad o sz) := by
  refine o_met (cc := cL_start) (maxL := 3) (ret := some .int) (hh := [(0, 8, 11, 19)]) (by decide) rfl (Nat.le_of_ble_eq_true rfl) ?_
  intro p e s m below meth c hx hb hr hts hown hlocks hml hsz hK hKL hD hS hT9 hZ hN htab ls hl
  subst hsz
  have hown : s.vm.findClass RL = some m.cls := hown
  have hl : lv_has ls 3 [(0, .ref (ad 0)), (1, .ref o)] := hl
  refine lv_aload_n hx hb dL_start_0 rfl (lv_at hl 1 rfl) ?_
  refine lv_iconst (v := nI 0) hx hb dL_start_1 (by decide) ?_
  refine lv_aload_n hx hb dL_start_2 rfl (lv_at hl 0 rfl) ?_
  refine o_xcalli hD hS (vx_runV (As := []) (rest := [.int (nI 0), .ref o]) ⟨hx, hb, hml, hown, hts⟩ (a_X2_start l hlt D cI cD ad _ V a hR B hB hWF) (cwV 0 hts gL_start_X2_start rfl rfl rfl (by decide +kernel) ⟨Nat.le_of_ble_eq_true rfl, Nat.le_of_ble_eq_true rfl⟩) (o_pre hK hT9 hZ hD hS _) rfl rfl hl.1 rfl (lv_room (Nat.le_of_ble_eq_true rfl)) dL_start_3 ⟨Nat.le_of_ble_eq_true rfl, Nat.le_of_ble_eq_true rfl⟩) (fun E9 ce9 q9 V1 H locs hp hS h1 h2 h3 => ?_) (fun r V1 H locs hp hS => ?_)
  · obtain ⟨hE, hC⟩ := hp
    obtain ⟨rfl, e1⟩ := hE
    refine w_catch (own := RL) (name := "java/lang/IllegalStateException") hown [] ⟨0, 8, 11, 19⟩ [] htab (fun _ h => absurd h List.not_mem_nil) rfl (by decide) (hts (.classLink RL 19 "java/lang/IllegalStateException") (by decide +kernel)) (va_Nw.use rfl (hT9.1 (.castable "java/lang/IllegalStateException" "java/lang/IllegalStateException") (by decide +kernel))) h1 h2 h3 ?_
    refine lv_astore_n (lv' := [(2, .ref q9), (0, .ref (ad 0)), (1, .ref o)]) hx hb dL_start_11 rfl hl (by decide) rfl (fun ls hl => ?_)
    refine lv_iconst (v := nI 1) hx hb dL_start_12 (by decide) ?_
    exact vx_ret (W.widen (k := 4) (n := 24) (Nat.le_of_ble_eq_true rfl) (Nat.le_of_ble_eq_true rfl) (W.iret hx hb hr (fun t ht _ => ⟨⟨nI 1, (V1, f), rfl, ⟨by rw [e1], by rw [e1]; decide, fun z => absurd (e1.symm.trans z) (by decide), hC⟩, by rw [oB, ht]; exact ⟨hS.1, hS.2.1⟩⟩, hS.2.2.F ht⟩) hS.2.2.2.2 dL_start_13 hlocks))
  · obtain ⟨e1, e2, hC⟩ := hp
    refine lv_i2l (v := r.toInt64) hx hb dL_start_6 rfl ?_
    refine o_last hx hb hKL hD hS dL_start_7 (fun H locs hS => ?_)
    refine lv_goto (tgt := 14) hx hb dL_start_8 (by decide) ?_
    refine lv_iconst (v := nI 0) hx hb dL_start_14 (by decide) ?_
    exact vx_ret (W.widen (k := 4) (n := 24) (Nat.le_of_ble_eq_true rfl) (Nat.le_of_ble_eq_true rfl) (W.iret hx hb hr (fun t ht _ => ⟨⟨nI 0, (V1, fun _ => r.toInt64), rfl, ⟨by rw [e1], by rw [e1]; decide, fun _ => by rw [e2], hC⟩, by rw [oB, ht]; exact ⟨hS.1, hS.2.1⟩⟩, hS.2.2.F ht⟩) hS.2.2.2.2 dL_start_15 hlocks))
set_option maxHeartbeats 4000000 in
set_option maxRecDepth 100000 in
theorem c_L_good (l : Launch) (hlt : l.stackTraces = false) (D : va_G) (cI cD cL : ClassId) (ad : Nat → Nat) (o sz : Nat) (V : vT) (f : Nat → Int64) (a : AS) (hR : cR V a) (B : Nat) (hB : B < 10000) (hWF : WF B a) (p0 : Int32) : vx_Met l yL_good wsL_good ({ frames := 8, cells := 4, slots := 24, locals := 131 }) (oP D cI cD cL ad o sz V f [.ref (ad 0), .int p0, .ref o]) (va_Qi (fun (r : Int32) (u : vT × (Nat → Int64)) => r = nI (oGood a p0).1 ∧ (oGood a p0).1 < 4 ∧ ((oGood a p0).1 = 0 → u.2 0 = if (oGood a p0).2.1 = 0 then 0 else 1) ∧ cR u.1 (oGood a p0).2.2) (oB D cI cD cL ad o) (oA ad o sz)) (oX ad o sz) 4 24 (oA ad o sz) := by
  refine o_met (cc := cL_good) (maxL := 4) (ret := some .int) (hh := [(0, 16, 19, 19), (0, 16, 22, 21), (0, 16, 25, 13)]) (by decide) rfl (Nat.le_of_ble_eq_true rfl) ?_
  intro p e s m below meth c hx hb hr hts hown hlocks hml hsz hK hKL hD hS hT9 hZ hN htab ls hl
  subst hsz
  have hown : s.vm.findClass RL = some m.cls := hown
  have hl : lv_has ls 4 [(0, .ref (ad 0)), (1, .int p0), (2, .ref o)] := hl
  refine lv_aload_n hx hb dL_good_0 rfl (lv_at hl 2 rfl) ?_
  refine lv_iconst (v := nI 0) hx hb dL_good_1 (by decide) ?_
  refine lv_aload_n hx hb dL_good_2 rfl (lv_at hl 0 rfl) ?_
  refine lv_iload_n hx hb dL_good_3 rfl (lv_at hl 1 rfl) ?_
  refine o_xcalli hD hS (vx_runV (As := [.int p0]) (rest := [.int (nI 0), .ref o]) ⟨hx, hb, hml, hown, hts⟩ (a_X2_good l hlt D cI cD ad _ V a hR B hB hWF p0) (cwV 1 hts gL_good_X2_good rfl rfl rfl (by decide +kernel) ⟨Nat.le_of_ble_eq_true rfl, Nat.le_of_ble_eq_true rfl⟩) (o_pre hK hT9 hZ hD hS _) rfl rfl hl.1 rfl (lv_room (Nat.le_of_ble_eq_true rfl)) dL_good_4 ⟨Nat.le_of_ble_eq_true rfl, Nat.le_of_ble_eq_true rfl⟩) (fun E9 ce9 q9 V1 H locs hp hS h1 h2 h3 => ?_) (fun r V1 H locs hp hS => ?_)
  · obtain ⟨hE, hC⟩ := hp
    rcases hE with ⟨rfl, e1⟩ | ⟨rfl, e1⟩ | ⟨rfl, e1⟩
    · refine w_catch (own := RL) (name := "java/lang/IllegalStateException") hown [] ⟨0, 16, 19, 19⟩ [⟨0, 16, 22, 21⟩, ⟨0, 16, 25, 13⟩] htab (fun _ h => absurd h List.not_mem_nil) rfl (by decide) (hts (.classLink RL 19 "java/lang/IllegalStateException") (by decide +kernel)) (va_Nw.use rfl (hT9.1 (.castable "java/lang/IllegalStateException" "java/lang/IllegalStateException") (by decide +kernel))) h1 h2 h3 ?_
      refine lv_astore_n (lv' := [(3, .ref q9), (0, .ref (ad 0)), (1, .int p0), (2, .ref o)]) hx hb dL_good_19 rfl hl (by decide) rfl (fun ls hl => ?_)
      refine lv_iconst (v := nI 1) hx hb dL_good_20 (by decide) ?_
      exact vx_ret (W.widen (k := 4) (n := 24) (Nat.le_of_ble_eq_true rfl) (Nat.le_of_ble_eq_true rfl) (W.iret hx hb hr (fun t ht _ => ⟨⟨nI 1, (V1, f), rfl, ⟨by rw [e1], by rw [e1]; decide, fun z => absurd (e1.symm.trans z) (by decide), hC⟩, by rw [oB, ht]; exact ⟨hS.1, hS.2.1⟩⟩, hS.2.2.F ht⟩) hS.2.2.2.2 dL_good_21 hlocks))
    · refine w_catch (own := RL) (name := "java/lang/IndexOutOfBoundsException") hown [⟨0, 16, 19, 19⟩] ⟨0, 16, 22, 21⟩ [⟨0, 16, 25, 13⟩] htab (List.forall_mem_cons.mpr ⟨⟨rfl, by decide, "java/lang/IllegalStateException", hts (.classLink RL 19 "java/lang/IllegalStateException") (by decide +kernel), hN ("java/lang/IndexOutOfBoundsException", "java/lang/IllegalStateException") (by decide +kernel)⟩, (fun _ h => absurd h List.not_mem_nil)⟩) rfl (by decide) (hts (.classLink RL 21 "java/lang/IndexOutOfBoundsException") (by decide +kernel)) (va_Nw.use rfl (hT9.1 (.castable "java/lang/IndexOutOfBoundsException" "java/lang/IndexOutOfBoundsException") (by decide +kernel))) h1 h2 h3 ?_
      refine lv_astore_n (lv' := [(3, .ref q9), (0, .ref (ad 0)), (1, .int p0), (2, .ref o)]) hx hb dL_good_22 rfl hl (by decide) rfl (fun ls hl => ?_)
      refine lv_iconst (v := nI 2) hx hb dL_good_23 (by decide) ?_
      exact vx_ret (W.widen (k := 4) (n := 24) (Nat.le_of_ble_eq_true rfl) (Nat.le_of_ble_eq_true rfl) (W.iret hx hb hr (fun t ht _ => ⟨⟨nI 2, (V1, f), rfl, ⟨by rw [e1], by rw [e1]; decide, fun z => absurd (e1.symm.trans z) (by decide), hC⟩, by rw [oB, ht]; exact ⟨hS.1, hS.2.1⟩⟩, hS.2.2.F ht⟩) hS.2.2.2.2 dL_good_24 hlocks))
    · refine w_catch (own := RL) (name := "java/lang/IllegalArgumentException") hown [⟨0, 16, 19, 19⟩, ⟨0, 16, 22, 21⟩] ⟨0, 16, 25, 13⟩ [] htab (List.forall_mem_cons.mpr ⟨⟨rfl, by decide, "java/lang/IllegalStateException", hts (.classLink RL 19 "java/lang/IllegalStateException") (by decide +kernel), hN ("java/lang/IllegalArgumentException", "java/lang/IllegalStateException") (by decide +kernel)⟩, (List.forall_mem_cons.mpr ⟨⟨rfl, by decide, "java/lang/IndexOutOfBoundsException", hts (.classLink RL 21 "java/lang/IndexOutOfBoundsException") (by decide +kernel), hN ("java/lang/IllegalArgumentException", "java/lang/IndexOutOfBoundsException") (by decide +kernel)⟩, (fun _ h => absurd h List.not_mem_nil)⟩)⟩) rfl (by decide) (hts (.classLink RL 13 "java/lang/IllegalArgumentException") (by decide +kernel)) (va_Nw.use rfl (hT9.1 (.castable "java/lang/IllegalArgumentException" "java/lang/IllegalArgumentException") (by decide +kernel))) h1 h2 h3 ?_
      refine lv_astore_n (lv' := [(3, .ref q9), (0, .ref (ad 0)), (1, .int p0), (2, .ref o)]) hx hb dL_good_25 rfl hl (by decide) rfl (fun ls hl => ?_)
      refine lv_iconst (v := nI 3) hx hb dL_good_26 (by decide) ?_
      exact vx_ret (W.widen (k := 4) (n := 24) (Nat.le_of_ble_eq_true rfl) (Nat.le_of_ble_eq_true rfl) (W.iret hx hb hr (fun t ht _ => ⟨⟨nI 3, (V1, f), rfl, ⟨by rw [e1], by rw [e1]; decide, fun z => absurd (e1.symm.trans z) (by decide), hC⟩, by rw [oB, ht]; exact ⟨hS.1, hS.2.1⟩⟩, hS.2.2.F ht⟩) hS.2.2.2.2 dL_good_27 hlocks))
  · obtain ⟨e1, e2, hC⟩ := hp
    refine lv_if_eq (tgt := 14) hx hb dL_good_7 (by decide) (fun c9 => ?_) (fun c9 => ?_)
    · refine lv_lconst (v := 0) hx hb dL_good_14 (by decide) ?_
      refine o_last hx hb hKL hD hS dL_good_15 (fun H locs hS => ?_)
      refine lv_goto (tgt := 28) hx hb dL_good_16 (by decide) ?_
      refine lv_iconst (v := nI 0) hx hb dL_good_28 (by decide) ?_
      exact vx_ret (W.widen (k := 4) (n := 24) (Nat.le_of_ble_eq_true rfl) (Nat.le_of_ble_eq_true rfl) (W.iret hx hb hr (fun t ht _ => ⟨⟨nI 0, (V1, fun _ => 0), rfl, ⟨by rw [e1], by rw [e1]; decide, fun _ => by rw [e2, if_pos c9], hC⟩, by rw [oB, ht]; exact ⟨hS.1, hS.2.1⟩⟩, hS.2.2.F ht⟩) hS.2.2.2.2 dL_good_29 hlocks))
    · refine lv_lconst (v := 1) hx hb dL_good_10 (by decide) ?_
      refine lv_goto (tgt := 15) hx hb dL_good_11 (by decide) ?_
      refine o_last hx hb hKL hD hS dL_good_15 (fun H locs hS => ?_)
      refine lv_goto (tgt := 28) hx hb dL_good_16 (by decide) ?_
      refine lv_iconst (v := nI 0) hx hb dL_good_28 (by decide) ?_
      exact vx_ret (W.widen (k := 4) (n := 24) (Nat.le_of_ble_eq_true rfl) (Nat.le_of_ble_eq_true rfl) (W.iret hx hb hr (fun t ht _ => ⟨⟨nI 0, (V1, fun _ => 1), rfl, ⟨by rw [e1], by rw [e1]; decide, fun _ => by rw [e2, if_neg c9], hC⟩, by rw [oB, ht]; exact ⟨hS.1, hS.2.1⟩⟩, hS.2.2.F ht⟩) hS.2.2.2.2 dL_good_29 hlocks))
set_option maxHeartbeats 4000000 in
set_option maxRecDepth 100000 in
theorem c_L_layout (l : Launch) (hlt : l.stackTraces = false) (D : va_G) (cI cD cL : ClassId) (ad : Nat → Nat) (o sz : Nat) (V : vT) (f : Nat → Int64) (a : AS) (hR : cR V a) (B : Nat) (hB : B < 10000) (hWF : WF B a) (p0 : Int32) : vx_Met l yL_layout wsL_layout ({ frames := 8, cells := 4, slots := 24, locals := 133 }) (oP D cI cD cL ad o sz V f [.ref (ad 0), .int p0, .ref o]) (va_Qi (fun (r : Int32) (u : vT × (Nat → Int64)) => r = nI (oLayout a p0).1 ∧ (oLayout a p0).1 < 4 ∧ ((oLayout a p0).1 = 0 → u.2 0 = (oLayout a p0).2.1.toInt64) ∧ cR u.1 (oLayout a p0).2.2) (oB D cI cD cL ad o) (oA ad o sz)) (oX ad o sz) 4 24 (oA ad o sz) := by
  refine o_met (cc := cL_layout) (maxL := 4) (ret := some .int) (hh := [(0, 9, 12, 19), (0, 9, 15, 21)]) (by decide) rfl (Nat.le_of_ble_eq_true rfl) ?_
  intro p e s m below meth c hx hb hr hts hown hlocks hml hsz hK hKL hD hS hT9 hZ hN htab ls hl
  subst hsz
  have hown : s.vm.findClass RL = some m.cls := hown
  have hl : lv_has ls 4 [(0, .ref (ad 0)), (1, .int p0), (2, .ref o)] := hl
  refine lv_aload_n hx hb dL_layout_0 rfl (lv_at hl 2 rfl) ?_
  refine lv_iconst (v := nI 0) hx hb dL_layout_1 (by decide) ?_
  refine lv_aload_n hx hb dL_layout_2 rfl (lv_at hl 0 rfl) ?_
  refine lv_iload_n hx hb dL_layout_3 rfl (lv_at hl 1 rfl) ?_
  refine o_xcalli hD hS (vx_runV (As := [.int p0]) (rest := [.int (nI 0), .ref o]) ⟨hx, hb, hml, hown, hts⟩ (a_X2_layout l hlt D cI cD ad _ V a hR B hB hWF p0) (cwV 1 hts gL_layout_X2_layout rfl rfl rfl (by decide +kernel) ⟨Nat.le_of_ble_eq_true rfl, Nat.le_of_ble_eq_true rfl⟩) (o_pre hK hT9 hZ hD hS _) rfl rfl hl.1 rfl (lv_room (Nat.le_of_ble_eq_true rfl)) dL_layout_4 ⟨Nat.le_of_ble_eq_true rfl, Nat.le_of_ble_eq_true rfl⟩) (fun E9 ce9 q9 V1 H locs hp hS h1 h2 h3 => ?_) (fun r V1 H locs hp hS => ?_)
  · obtain ⟨hE, hC⟩ := hp
    rcases hE with ⟨rfl, e1⟩ | ⟨rfl, e1⟩
    · refine w_catch (own := RL) (name := "java/lang/IllegalStateException") hown [] ⟨0, 9, 12, 19⟩ [⟨0, 9, 15, 21⟩] htab (fun _ h => absurd h List.not_mem_nil) rfl (by decide) (hts (.classLink RL 19 "java/lang/IllegalStateException") (by decide +kernel)) (va_Nw.use rfl (hT9.1 (.castable "java/lang/IllegalStateException" "java/lang/IllegalStateException") (by decide +kernel))) h1 h2 h3 ?_
      refine lv_astore_n (lv' := [(3, .ref q9), (0, .ref (ad 0)), (1, .int p0), (2, .ref o)]) hx hb dL_layout_12 rfl hl (by decide) rfl (fun ls hl => ?_)
      refine lv_iconst (v := nI 1) hx hb dL_layout_13 (by decide) ?_
      exact vx_ret (W.widen (k := 4) (n := 24) (Nat.le_of_ble_eq_true rfl) (Nat.le_of_ble_eq_true rfl) (W.iret hx hb hr (fun t ht _ => ⟨⟨nI 1, (V1, f), rfl, ⟨by rw [e1], by rw [e1]; decide, fun z => absurd (e1.symm.trans z) (by decide), hC⟩, by rw [oB, ht]; exact ⟨hS.1, hS.2.1⟩⟩, hS.2.2.F ht⟩) hS.2.2.2.2 dL_layout_14 hlocks))
    · refine w_catch (own := RL) (name := "java/lang/IndexOutOfBoundsException") hown [⟨0, 9, 12, 19⟩] ⟨0, 9, 15, 21⟩ [] htab (List.forall_mem_cons.mpr ⟨⟨rfl, by decide, "java/lang/IllegalStateException", hts (.classLink RL 19 "java/lang/IllegalStateException") (by decide +kernel), hN ("java/lang/IndexOutOfBoundsException", "java/lang/IllegalStateException") (by decide +kernel)⟩, (fun _ h => absurd h List.not_mem_nil)⟩) rfl (by decide) (hts (.classLink RL 21 "java/lang/IndexOutOfBoundsException") (by decide +kernel)) (va_Nw.use rfl (hT9.1 (.castable "java/lang/IndexOutOfBoundsException" "java/lang/IndexOutOfBoundsException") (by decide +kernel))) h1 h2 h3 ?_
      refine lv_astore_n (lv' := [(3, .ref q9), (0, .ref (ad 0)), (1, .int p0), (2, .ref o)]) hx hb dL_layout_15 rfl hl (by decide) rfl (fun ls hl => ?_)
      refine lv_iconst (v := nI 2) hx hb dL_layout_16 (by decide) ?_
      exact vx_ret (W.widen (k := 4) (n := 24) (Nat.le_of_ble_eq_true rfl) (Nat.le_of_ble_eq_true rfl) (W.iret hx hb hr (fun t ht _ => ⟨⟨nI 2, (V1, f), rfl, ⟨by rw [e1], by rw [e1]; decide, fun z => absurd (e1.symm.trans z) (by decide), hC⟩, by rw [oB, ht]; exact ⟨hS.1, hS.2.1⟩⟩, hS.2.2.F ht⟩) hS.2.2.2.2 dL_layout_17 hlocks))
  · obtain ⟨e1, e2, hC⟩ := hp
    refine lv_i2l (v := r.toInt64) hx hb dL_layout_7 rfl ?_
    refine o_last hx hb hKL hD hS dL_layout_8 (fun H locs hS => ?_)
    refine lv_goto (tgt := 18) hx hb dL_layout_9 (by decide) ?_
    refine lv_iconst (v := nI 0) hx hb dL_layout_18 (by decide) ?_
    exact vx_ret (W.widen (k := 4) (n := 24) (Nat.le_of_ble_eq_true rfl) (Nat.le_of_ble_eq_true rfl) (W.iret hx hb hr (fun t ht _ => ⟨⟨nI 0, (V1, fun _ => r.toInt64), rfl, ⟨by rw [e1], by rw [e1]; decide, fun _ => by rw [e2], hC⟩, by rw [oB, ht]; exact ⟨hS.1, hS.2.1⟩⟩, hS.2.2.F ht⟩) hS.2.2.2.2 dL_layout_19 hlocks))
set_option maxHeartbeats 4000000 in
set_option maxRecDepth 100000 in
theorem c_L_cell (l : Launch) (hlt : l.stackTraces = false) (D : va_G) (cI cD cL : ClassId) (ad : Nat → Nat) (o sz : Nat) (V : vT) (f : Nat → Int64) (a : AS) (hR : cR V a) (B : Nat) (hB : B < 10000) (hWF : WF B a) (p0 p1 p2 : Int32) : vx_Met l yL_cell wsL_cell ({ frames := 8, cells := 4, slots := 24, locals := 134 }) (oP D cI cD cL ad o sz V f [.ref (ad 0), .int p0, .int p1, .int p2, .ref o]) (va_Qi (fun (r : Int32) (u : vT × (Nat → Int64)) => r = nI (oCell a p0 p1 p2).1 ∧ (oCell a p0 p1 p2).1 < 4 ∧ ((oCell a p0 p1 p2).1 = 0 → u.2 0 = (oCell a p0 p1 p2).2.1.toInt64) ∧ cR u.1 (oCell a p0 p1 p2).2.2) (oB D cI cD cL ad o) (oA ad o sz)) (oX ad o sz) 4 24 (oA ad o sz) := by
  refine o_met (cc := cL_cell) (maxL := 6) (ret := some .int) (hh := [(0, 12, 15, 19), (0, 12, 19, 21)]) (by decide) rfl (Nat.le_of_ble_eq_true rfl) ?_
  intro p e s m below meth c hx hb hr hts hown hlocks hml hsz hK hKL hD hS hT9 hZ hN htab ls hl
  subst hsz
  have hown : s.vm.findClass RL = some m.cls := hown
  have hl : lv_has ls 6 [(0, .ref (ad 0)), (1, .int p0), (2, .int p1), (3, .int p2), (4, .ref o)] := hl
  refine lv_aload hx hb dL_cell_0 (lv_at hl 4 rfl) ?_
  refine lv_iconst (v := nI 0) hx hb dL_cell_2 (by decide) ?_
  refine lv_aload_n hx hb dL_cell_3 rfl (lv_at hl 0 rfl) ?_
  refine lv_iload_n hx hb dL_cell_4 rfl (lv_at hl 1 rfl) ?_
  refine lv_iload_n hx hb dL_cell_5 rfl (lv_at hl 2 rfl) ?_
  refine lv_iload_n hx hb dL_cell_6 rfl (lv_at hl 3 rfl) ?_
  refine o_xcalli hD hS (vx_runV (As := [.int p0, .int p1, .int p2]) (rest := [.int (nI 0), .ref o]) ⟨hx, hb, hml, hown, hts⟩ (a_X2_cell l hlt D cI cD ad _ V a hR B hB hWF p0 p1 p2) (cwV 3 hts gL_cell_X2_cell rfl rfl rfl (by decide +kernel) ⟨Nat.le_of_ble_eq_true rfl, Nat.le_of_ble_eq_true rfl⟩) (o_pre hK hT9 hZ hD hS _) rfl rfl hl.1 rfl (lv_room (Nat.le_of_ble_eq_true rfl)) dL_cell_7 ⟨Nat.le_of_ble_eq_true rfl, Nat.le_of_ble_eq_true rfl⟩) (fun E9 ce9 q9 V1 H locs hp hS h1 h2 h3 => ?_) (fun r V1 H locs hp hS => ?_)
  · obtain ⟨hE, hC⟩ := hp
    rcases hE with ⟨rfl, e1⟩ | ⟨rfl, e1⟩
    · refine w_catch (own := RL) (name := "java/lang/IllegalStateException") hown [] ⟨0, 12, 15, 19⟩ [⟨0, 12, 19, 21⟩] htab (fun _ h => absurd h List.not_mem_nil) rfl (by decide) (hts (.classLink RL 19 "java/lang/IllegalStateException") (by decide +kernel)) (va_Nw.use rfl (hT9.1 (.castable "java/lang/IllegalStateException" "java/lang/IllegalStateException") (by decide +kernel))) h1 h2 h3 ?_
      refine lv_astore (lv' := [(5, .ref q9), (0, .ref (ad 0)), (1, .int p0), (2, .int p1), (3, .int p2), (4, .ref o)]) hx hb dL_cell_15 hl (by decide) rfl (fun ls hl => ?_)
      refine lv_iconst (v := nI 1) hx hb dL_cell_17 (by decide) ?_
      exact vx_ret (W.widen (k := 4) (n := 24) (Nat.le_of_ble_eq_true rfl) (Nat.le_of_ble_eq_true rfl) (W.iret hx hb hr (fun t ht _ => ⟨⟨nI 1, (V1, f), rfl, ⟨by rw [e1], by rw [e1]; decide, fun z => absurd (e1.symm.trans z) (by decide), hC⟩, by rw [oB, ht]; exact ⟨hS.1, hS.2.1⟩⟩, hS.2.2.F ht⟩) hS.2.2.2.2 dL_cell_18 hlocks))
    · refine w_catch (own := RL) (name := "java/lang/IndexOutOfBoundsException") hown [⟨0, 12, 15, 19⟩] ⟨0, 12, 19, 21⟩ [] htab (List.forall_mem_cons.mpr ⟨⟨rfl, by decide, "java/lang/IllegalStateException", hts (.classLink RL 19 "java/lang/IllegalStateException") (by decide +kernel), hN ("java/lang/IndexOutOfBoundsException", "java/lang/IllegalStateException") (by decide +kernel)⟩, (fun _ h => absurd h List.not_mem_nil)⟩) rfl (by decide) (hts (.classLink RL 21 "java/lang/IndexOutOfBoundsException") (by decide +kernel)) (va_Nw.use rfl (hT9.1 (.castable "java/lang/IndexOutOfBoundsException" "java/lang/IndexOutOfBoundsException") (by decide +kernel))) h1 h2 h3 ?_
      refine lv_astore (lv' := [(5, .ref q9), (0, .ref (ad 0)), (1, .int p0), (2, .int p1), (3, .int p2), (4, .ref o)]) hx hb dL_cell_19 hl (by decide) rfl (fun ls hl => ?_)
      refine lv_iconst (v := nI 2) hx hb dL_cell_21 (by decide) ?_
      exact vx_ret (W.widen (k := 4) (n := 24) (Nat.le_of_ble_eq_true rfl) (Nat.le_of_ble_eq_true rfl) (W.iret hx hb hr (fun t ht _ => ⟨⟨nI 2, (V1, f), rfl, ⟨by rw [e1], by rw [e1]; decide, fun z => absurd (e1.symm.trans z) (by decide), hC⟩, by rw [oB, ht]; exact ⟨hS.1, hS.2.1⟩⟩, hS.2.2.F ht⟩) hS.2.2.2.2 dL_cell_22 hlocks))
  · obtain ⟨e1, e2, hC⟩ := hp
    refine lv_i2l (v := r.toInt64) hx hb dL_cell_10 rfl ?_
    refine o_last hx hb hKL hD hS dL_cell_11 (fun H locs hS => ?_)
    refine lv_goto (tgt := 23) hx hb dL_cell_12 (by decide) ?_
    refine lv_iconst (v := nI 0) hx hb dL_cell_23 (by decide) ?_
    exact vx_ret (W.widen (k := 4) (n := 24) (Nat.le_of_ble_eq_true rfl) (Nat.le_of_ble_eq_true rfl) (W.iret hx hb hr (fun t ht _ => ⟨⟨nI 0, (V1, fun _ => r.toInt64), rfl, ⟨by rw [e1], by rw [e1]; decide, fun _ => by rw [e2], hC⟩, by rw [oB, ht]; exact ⟨hS.1, hS.2.1⟩⟩, hS.2.2.F ht⟩) hS.2.2.2.2 dL_cell_24 hlocks))
set_option maxHeartbeats 4000000 in
set_option maxRecDepth 100000 in
theorem c_L_marks (l : Launch) (hlt : l.stackTraces = false) (D : va_G) (cI cD cL : ClassId) (ad : Nat → Nat) (o sz : Nat) (V : vT) (f : Nat → Int64) (a : AS) (hR : cR V a) (B : Nat) (hB : B < 10000) (hWF : WF B a) (p0 p1 : Int32) : vx_Met l yL_marks wsL_marks ({ frames := 8, cells := 4, slots := 24, locals := 133 }) (oP D cI cD cL ad o sz V f [.ref (ad 0), .int p0, .int p1, .ref o]) (va_Qi (fun (r : Int32) (u : vT × (Nat → Int64)) => r = nI (oMarks a p0 p1).1 ∧ (oMarks a p0 p1).1 < 4 ∧ ((oMarks a p0 p1).1 = 0 → u.2 0 = (oMarks a p0 p1).2.1.toInt64) ∧ cR u.1 (oMarks a p0 p1).2.2) (oB D cI cD cL ad o) (oA ad o sz)) (oX ad o sz) 4 24 (oA ad o sz) := by
  refine o_met (cc := cL_marks) (maxL := 5) (ret := some .int) (hh := [(0, 10, 13, 19), (0, 10, 17, 21)]) (by decide) rfl (Nat.le_of_ble_eq_true rfl) ?_
  intro p e s m below meth c hx hb hr hts hown hlocks hml hsz hK hKL hD hS hT9 hZ hN htab ls hl
  subst hsz
  have hown : s.vm.findClass RL = some m.cls := hown
  have hl : lv_has ls 5 [(0, .ref (ad 0)), (1, .int p0), (2, .int p1), (3, .ref o)] := hl
  refine lv_aload_n hx hb dL_marks_0 rfl (lv_at hl 3 rfl) ?_
  refine lv_iconst (v := nI 0) hx hb dL_marks_1 (by decide) ?_
  refine lv_aload_n hx hb dL_marks_2 rfl (lv_at hl 0 rfl) ?_
  refine lv_iload_n hx hb dL_marks_3 rfl (lv_at hl 1 rfl) ?_
  refine lv_iload_n hx hb dL_marks_4 rfl (lv_at hl 2 rfl) ?_
  refine o_xcalli hD hS (vx_runV (As := [.int p0, .int p1]) (rest := [.int (nI 0), .ref o]) ⟨hx, hb, hml, hown, hts⟩ (a_X2_marks l hlt D cI cD ad _ V a hR B hB hWF p0 p1) (cwV 2 hts gL_marks_X2_marks rfl rfl rfl (by decide +kernel) ⟨Nat.le_of_ble_eq_true rfl, Nat.le_of_ble_eq_true rfl⟩) (o_pre hK hT9 hZ hD hS _) rfl rfl hl.1 rfl (lv_room (Nat.le_of_ble_eq_true rfl)) dL_marks_5 ⟨Nat.le_of_ble_eq_true rfl, Nat.le_of_ble_eq_true rfl⟩) (fun E9 ce9 q9 V1 H locs hp hS h1 h2 h3 => ?_) (fun r V1 H locs hp hS => ?_)
  · obtain ⟨hE, hC⟩ := hp
    rcases hE with ⟨rfl, e1⟩ | ⟨rfl, e1⟩
    · refine w_catch (own := RL) (name := "java/lang/IllegalStateException") hown [] ⟨0, 10, 13, 19⟩ [⟨0, 10, 17, 21⟩] htab (fun _ h => absurd h List.not_mem_nil) rfl (by decide) (hts (.classLink RL 19 "java/lang/IllegalStateException") (by decide +kernel)) (va_Nw.use rfl (hT9.1 (.castable "java/lang/IllegalStateException" "java/lang/IllegalStateException") (by decide +kernel))) h1 h2 h3 ?_
      refine lv_astore (lv' := [(4, .ref q9), (0, .ref (ad 0)), (1, .int p0), (2, .int p1), (3, .ref o)]) hx hb dL_marks_13 hl (by decide) rfl (fun ls hl => ?_)
      refine lv_iconst (v := nI 1) hx hb dL_marks_15 (by decide) ?_
      exact vx_ret (W.widen (k := 4) (n := 24) (Nat.le_of_ble_eq_true rfl) (Nat.le_of_ble_eq_true rfl) (W.iret hx hb hr (fun t ht _ => ⟨⟨nI 1, (V1, f), rfl, ⟨by rw [e1], by rw [e1]; decide, fun z => absurd (e1.symm.trans z) (by decide), hC⟩, by rw [oB, ht]; exact ⟨hS.1, hS.2.1⟩⟩, hS.2.2.F ht⟩) hS.2.2.2.2 dL_marks_16 hlocks))
    · refine w_catch (own := RL) (name := "java/lang/IndexOutOfBoundsException") hown [⟨0, 10, 13, 19⟩] ⟨0, 10, 17, 21⟩ [] htab (List.forall_mem_cons.mpr ⟨⟨rfl, by decide, "java/lang/IllegalStateException", hts (.classLink RL 19 "java/lang/IllegalStateException") (by decide +kernel), hN ("java/lang/IndexOutOfBoundsException", "java/lang/IllegalStateException") (by decide +kernel)⟩, (fun _ h => absurd h List.not_mem_nil)⟩) rfl (by decide) (hts (.classLink RL 21 "java/lang/IndexOutOfBoundsException") (by decide +kernel)) (va_Nw.use rfl (hT9.1 (.castable "java/lang/IndexOutOfBoundsException" "java/lang/IndexOutOfBoundsException") (by decide +kernel))) h1 h2 h3 ?_
      refine lv_astore (lv' := [(4, .ref q9), (0, .ref (ad 0)), (1, .int p0), (2, .int p1), (3, .ref o)]) hx hb dL_marks_17 hl (by decide) rfl (fun ls hl => ?_)
      refine lv_iconst (v := nI 2) hx hb dL_marks_19 (by decide) ?_
      exact vx_ret (W.widen (k := 4) (n := 24) (Nat.le_of_ble_eq_true rfl) (Nat.le_of_ble_eq_true rfl) (W.iret hx hb hr (fun t ht _ => ⟨⟨nI 2, (V1, f), rfl, ⟨by rw [e1], by rw [e1]; decide, fun z => absurd (e1.symm.trans z) (by decide), hC⟩, by rw [oB, ht]; exact ⟨hS.1, hS.2.1⟩⟩, hS.2.2.F ht⟩) hS.2.2.2.2 dL_marks_20 hlocks))
  · obtain ⟨e1, e2, hC⟩ := hp
    refine lv_i2l (v := r.toInt64) hx hb dL_marks_8 rfl ?_
    refine o_last hx hb hKL hD hS dL_marks_9 (fun H locs hS => ?_)
    refine lv_goto (tgt := 21) hx hb dL_marks_10 (by decide) ?_
    refine lv_iconst (v := nI 0) hx hb dL_marks_21 (by decide) ?_
    exact vx_ret (W.widen (k := 4) (n := 24) (Nat.le_of_ble_eq_true rfl) (Nat.le_of_ble_eq_true rfl) (W.iret hx hb hr (fun t ht _ => ⟨⟨nI 0, (V1, fun _ => r.toInt64), rfl, ⟨by rw [e1], by rw [e1]; decide, fun _ => by rw [e2], hC⟩, by rw [oB, ht]; exact ⟨hS.1, hS.2.1⟩⟩, hS.2.2.F ht⟩) hS.2.2.2.2 dL_marks_22 hlocks))
