/-! objects made -/
/-- a constructor's world as it finds it -/
def nP (D : va_G) (cI cD : ClassId) (sz : Nat) (ws : va_W) (av : List Value) : Array Value → State → Prop := va_Pc av (fun U => U.heap.size = sz ∧ va_P D vwCl ws U.heap ∧ kK D cI cD U ∧ va_D (fun _ => True) ws ∧ va_AO RX0 U)
theorem nP_blind {D : va_G} {cI cD : ClassId} {sz : Nat} {ws : va_W} {av : List Value} : FrameBlind (nP D cI cD sz ws av) := by
  intro a U g mk h
  obtain ⟨q0, q1, q2, q3, q4, q5⟩ := h
  exact ⟨q0, q1, q2, q3.blind, q4, va_AO.moved (u := U) (U := U.calling g mk a) (Vm.Alike.refl U.vm) q5⟩
theorem cA_int {D : va_G} {cI cD cA : ClassId} {s : State} (h : va_K D vwCl ([(cI, .int), (cD, .object RX0)] ++ [(cA, .int)]) s) : cA = cI := by
  have h1 := (h.2 0 _ rfl).2
  have h2 := (h.2 2 _ rfl).2
  exact Option.some.inj (h2.symm.trans h1)
theorem cA_obj {D : va_G} {cI cD cA : ClassId} {s : State} (h : va_K D vwCl ([(cI, .int), (cD, .object RX0)] ++ [(cA, .object RX0)]) s) : cA = cD := by
  obtain ⟨_, _, _, _, _, h1⟩ := (h.2 1 _ rfl).2
  obtain ⟨_, _, _, _, _, h2⟩ := (h.2 2 _ rfl).2
  exact Option.some.inj (h2.symm.trans h1)
theorem dfX1 : ∀ j, j < 5 → defaultValue (tyX1 j) = vp_V [.int 0, .int 0, .int 0, .int 0, .int 0] j := by
  intro j hj
  rcases (show j = 0 ∨ j = 1 ∨ j = 2 ∨ j = 3 ∨ j = 4 by omega) with rfl | rfl | rfl | rfl | rfl <;> rfl
theorem dfX0 : ∀ j, j < 7 → defaultValue (tyX0 j) = vp_V [.null, .null, .null, .int 0, .null, .null, .null] j := by
  intro j hj
  rcases (show j = 0 ∨ j = 1 ∨ j = 2 ∨ j = 3 ∨ j = 4 ∨ j = 5 ∨ j = 6 by omega) with rfl | rfl | rfl | rfl | rfl | rfl | rfl <;> rfl
set_option maxHeartbeats 4000000 in
set_option maxRecDepth 100000 in
theorem c_X1_init (l : Launch) (a sz : Nat) : Met l yX1_init wsX1_init ({ frames := 1, cells := 0, slots := 0, locals := 12 }) (va_Pc [.ref a] (fun U => U.heap.size = sz)) (va_Qv (fun _ : Unit => True) (fun _ _ => True) (fun q => sz ≤ q)) 0 0 (fun q => sz ≤ q) := by
  refine Met.ofW (cc := cX1_init) (maxL := 1) (ret := none) (by decide) rfl ?_
  intro p e s m args below meth c s₁ B hml hv
  obtain ⟨rfl, hsz⟩ := hv
  have hx := B.exec
  have hb := B.bytes
  have hr := B.returns
  have hts := atoms_spec (ws := wsX1_init) B.pre
  have hown : s.vm.findClass RX1 = some m.cls := findClass_of_methodNamed B.named
  have hlocks := B.notSynchronized
  subst hsz
  have hS : va_S (fun q => s.heap.size ≤ q) s.heap s.heap [] := va_S.rf
  have hl := lv_entry ([.ref a]) (n := 1) (Nat.le_of_ble_eq_true rfl)
  rw [lg_entry_eq]
  generalize (lg_sl ([.ref a]) ++ List.replicate (1 - (lg_sl ([.ref a])).length) Slot.unset).toArray = ls at hl ⊢
  have hl : lv_has ls 1 [(0, .ref a)] := hl
  refine lv_aload_n hx hb dX1_init_0 rfl (lv_at hl 0 rfl) ?_
  refine W.objInit hx hb hown (hts (.methodLink RX1 1 objectInit) (by decide +kernel)) (hts (.instanceMethod objectInit) (by decide +kernel)) (hts _ (List.mem_cons_of_mem _ (List.mem_of_getElem? (i := 2) rfl))) rfl (by rw [hml]; exact hl.1) rfl dX1_init_1 (Nat.le_of_ble_eq_true rfl) (Nat.le_of_ble_eq_true rfl) ?_
  refine W.eq (g2 := F0 m 4 ls []) rfl ?_
  exact W.vret hx hb hr (fun t ht hW => ⟨⟨(), rfl, trivial, trivial⟩, hS.F ht⟩) hS.2.2 dX1_init_4
/-- a new disk's cells -/
def dsk (cI : ClassId) (ad : Nat → Nat) : va_W := [(ad 0, .inr (0, [.ref (ad 1), .ref (ad 2), .ref (ad 3), .int 0, .ref (ad 4), .ref (ad 5), .ref (ad 6)])), (ad 1, .inl (cI, 160, .inl (fun _ => 0))), (ad 2, .inr (1, [.int 0, .int 0, .int 0, .int 0, .int 0])), (ad 3, .inr (1, [.int 0, .int 0, .int 0, .int 0, .int 0])), (ad 4, .inl (cI, 8, .inl (fun _ => 0))), (ad 5, .inl (cI, 32, .inl (fun _ => 0))), (ad 6, .inr (1, [.int 0, .int 0, .int 0, .int 0, .int 0]))]
set_option maxHeartbeats 4000000 in
set_option maxRecDepth 100000 in
theorem c_X0_init (l : Launch) (D : va_G) (cI cD : ClassId) (h0 sz : Nat) : Met l yX0_init wsX0_init ({ frames := 2, cells := 6, slots := 215, locals := 32 }) (nP D cI cD sz [(h0, .inr (0, [.null, .null, .null, .int 0, .null, .null, .null]))] [.ref h0]) (va_Qv (fun ad : Nat → Nat => ad 0 = h0) (fun ad t => va_P D vwCl (dsk cI ad) t.heap ∧ va_D (va_A [(h0, .inr (0, [.null, .null, .null, .int 0, .null, .null, .null]))] sz) (dsk cI ad)) (va_A [(h0, .inr (0, [.null, .null, .null, .int 0, .null, .null, .null]))] sz)) 6 215 (va_A [(h0, .inr (0, [.null, .null, .null, .int 0, .null, .null, .null]))] sz) := by
  refine Met.ofW (cc := cX0_init) (maxL := 1) (ret := none) (by decide) rfl ?_
  intro p e s m args below meth c s₁ B hml hv
  obtain ⟨rfl, hsz, hP, hK, hD0, hAO⟩ := hv
  have hx := B.exec
  have hb := B.bytes
  have hr := B.returns
  have hts := atoms_spec (ws := wsX0_init) B.pre
  have hown : s.vm.findClass RX0 = some m.cls := findClass_of_methodNamed B.named
  have hlocks := B.notSynchronized
  have hin : meth.name = "<init>" := (name_of_methodNamed B.named B.method).1
  subst hsz
  have hD := hD0.self (sz := s.heap.size)
  generalize hAe : va_A [(h0, .inr (0, [.null, .null, .null, .int 0, .null, .null, .null]))] s.heap.size = A at hD ⊢
  have hA : ∀ q : Nat, s.heap.size ≤ q → A q := fun q h => by rw [← hAe]; exact Or.inr h
  have hS : va_S A s.heap s.heap [] := va_S.rf
  have hl := lv_entry ([.ref h0]) (n := 1) (Nat.le_of_ble_eq_true rfl)
  rw [lg_entry_eq]
  generalize (lg_sl ([.ref h0]) ++ List.replicate (1 - (lg_sl ([.ref h0])).length) Slot.unset).toArray = ls at hl ⊢
  have hl : lv_has ls 1 [(0, .ref h0)] := hl
  have hi0 : ∀ w ∈ wsX00, w ∈ wsX0_init := by decide +kernel
  have hi1 : ∀ w ∈ wsX10, w ∈ wsX0_init := by decide +kernel
  refine lv_aload_n hx hb dX0_init_0 rfl (lv_at hl 0 rfl) ?_
  refine W.objInit hx hb hown (hts (.methodLink RX0 3 objectInit) (by decide +kernel)) (hts (.instanceMethod objectInit) (by decide +kernel)) (hts _ (List.mem_cons_of_mem _ (List.mem_of_getElem? (i := 2) rfl))) rfl (by rw [hml]; exact hl.1) rfl dX0_init_1 (Nat.le_of_ble_eq_true rfl) (Nat.le_of_ble_eq_true rfl) ?_
  refine W.eq (g2 := F0 m 4 ls []) rfl ?_
  refine lv_aload_n hx hb dX0_init_4 rfl (lv_at hl 0 rfl) ?_
  refine lv_sipush (v := nI 160) hx hb dX0_init_5 (by decide) ?_
  refine va_newa (atype := .int) (ty := .int) hx hb (hts (.arrayClass .int) (by decide +kernel)) rfl hK.1 hP hD hS hA (n := nI 160) (N' := 160) (a0 := (160, .inl (fun _ => 0))) (fun _ => rfl) (by decide) (by decide) (by decide) (Nat.le_of_ble_eq_true rfl) (Nat.le_of_ble_eq_true rfl) dX0_init_8 (fun q1 cA H hKq hP hD hS => ?_)
  have hc9 : cI = cA := (cA_int hKq).symm
  subst hc9
  clear hKq
  have hP : va_P D vwCl [(h0, .inr (0, [.null, .null, .null, .int 0, .null, .null, .null])), (q1, .inl (cI, 160, .inl (fun _ => 0)))] H := hP
  have hD : va_D A [(h0, .inr (0, [.null, .null, .null, .int 0, .null, .null, .null])), (q1, .inl (cI, 160, .inl (fun _ => 0)))] := hD
  refine va_putF hx hb hts hi0 tyX0 tyX0_ok nmX0 hown hK.1 hP hD hS 0 rfl rfl 0 (by decide) (hts (.fieldLink RX0 9 "WideningArray$Disk" "words" "[I") (by decide +kernel)) (fun _ h => h) rfl hin rfl (ty := tyX0 0) (v := .ref q1) (tyX0_ok 0 (by decide)) rfl rfl (Nat.le_of_ble_eq_true rfl) dX0_init_10 (fun H locs hP hD hS => ?_)
  have hP : va_P D vwCl [(h0, .inr (0, [.ref q1, .null, .null, .int 0, .null, .null, .null])), (q1, .inl (cI, 160, .inl (fun _ => 0)))] H := hP
  have hD : va_D A [(h0, .inr (0, [.ref q1, .null, .null, .int 0, .null, .null, .null])), (q1, .inl (cI, 160, .inl (fun _ => 0)))] := hD
  refine lv_aload_n hx hb dX0_init_13 rfl (lv_at hl 0 rfl) ?_
  refine va_new hx hb hts hi1 tyX1 tyX1_ok hown (hts (.classLink RX0 15 RX1) (by decide +kernel)) (hts (.instantiable RX1 5) (by decide +kernel)) (hts (.initialized RX1) (by decide +kernel)) hK.1 hP hD hS hA (ci := 1) rfl (fs := [.int 0, .int 0, .int 0, .int 0, .int 0]) dfX1 (Nat.le_of_ble_eq_true rfl) (Nat.le_of_ble_eq_true rfl) dX0_init_14 (fun q2 H hP hD hS => ?_)
  have hP : va_P D vwCl [(h0, .inr (0, [.ref q1, .null, .null, .int 0, .null, .null, .null])), (q1, .inl (cI, 160, .inl (fun _ => 0))), (q2, .inr (1, [.int 0, .int 0, .int 0, .int 0, .int 0]))] H := hP
  have hD : va_D A [(h0, .inr (0, [.ref q1, .null, .null, .int 0, .null, .null, .null])), (q1, .inl (cI, 160, .inl (fun _ => 0))), (q2, .inr (1, [.int 0, .int 0, .int 0, .int 0, .int 0]))] := hD
  refine lv_dup hx hb dX0_init_17 rfl ?_
  refine va_callv (va_runIN (As := []) (rest := [.ref q2, .ref h0]) ⟨hx, hb, hml, hown, hts⟩ (c_X1_init l q2 H.size) ⟨va_cnB 0 hts gX0_init_X1_init_n17 rfl rfl rfl (hK.2 (.methodLinkNest "WideningArray$Disk" 17 yX1_init "WideningArray") (by decide +kernel)) (hts (.initialized RX1) (by decide +kernel)) (by decide +kernel) ⟨Nat.le_of_ble_eq_true rfl, Nat.le_of_ble_eq_true rfl⟩, rfl, hts (.instanceMethod yX1_init) (by decide +kernel)⟩ ⟨fun a U g mk q => q, fun U hU hW => ⟨rfl, by show U.heap.size = _; rw [hU]⟩⟩ rfl rfl hl.1 rfl (lv_room (Nat.le_of_ble_eq_true rfl)) dX0_init_18 ⟨(Nat.le_of_ble_eq_true rfl), (Nat.le_of_ble_eq_true rfl)⟩) hS (fun q h1 h2 => absurd h1 (Nat.not_lt.mpr h2)) (fun q h => hA q (Nat.le_trans hS.1 h)) (fun u9 t9 H1 locs ht hvm hw9 hB9 hz1 hk1 hS => ?_)
  have hP := hP.kept (fun k x hx => hk1 x.1 (hP k x hx).lt (Nat.not_le.mpr (hP k x hx).lt))
  clear hk1 hz1 hB9 hw9
  generalize H1 = H at hP hS ht ⊢
  have hP : va_P D vwCl [(h0, .inr (0, [.ref q1, .null, .null, .int 0, .null, .null, .null])), (q1, .inl (cI, 160, .inl (fun _ => 0))), (q2, .inr (1, [.int 0, .int 0, .int 0, .int 0, .int 0]))] H := hP
  have hD : va_D A [(h0, .inr (0, [.ref q1, .null, .null, .int 0, .null, .null, .null])), (q1, .inl (cI, 160, .inl (fun _ => 0))), (q2, .inr (1, [.int 0, .int 0, .int 0, .int 0, .int 0]))] := hD
  refine va_putF hx hb hts hi0 tyX0 tyX0_ok nmX0 hown hK.1 hP hD hS 0 rfl rfl 1 (by decide) (hts (.fieldLink RX0 18 "WideningArray$Disk" "evenMarks" "LWideningArray$Marks;") (by decide +kernel)) (fun _ h => h) rfl hin rfl (ty := tyX0 1) (v := .ref q2) (tyX0_ok 1 (by decide)) rfl rfl (Nat.le_of_ble_eq_true rfl) dX0_init_21 (fun H locs hP hD hS => ?_)
  have hP : va_P D vwCl [(h0, .inr (0, [.ref q1, .ref q2, .null, .int 0, .null, .null, .null])), (q1, .inl (cI, 160, .inl (fun _ => 0))), (q2, .inr (1, [.int 0, .int 0, .int 0, .int 0, .int 0]))] H := hP
  have hD : va_D A [(h0, .inr (0, [.ref q1, .ref q2, .null, .int 0, .null, .null, .null])), (q1, .inl (cI, 160, .inl (fun _ => 0))), (q2, .inr (1, [.int 0, .int 0, .int 0, .int 0, .int 0]))] := hD
  refine lv_aload_n hx hb dX0_init_24 rfl (lv_at hl 0 rfl) ?_
  refine va_new hx hb hts hi1 tyX1 tyX1_ok hown (hts (.classLink RX0 15 RX1) (by decide +kernel)) (hts (.instantiable RX1 5) (by decide +kernel)) (hts (.initialized RX1) (by decide +kernel)) hK.1 hP hD hS hA (ci := 1) rfl (fs := [.int 0, .int 0, .int 0, .int 0, .int 0]) dfX1 (Nat.le_of_ble_eq_true rfl) (Nat.le_of_ble_eq_true rfl) dX0_init_25 (fun q3 H hP hD hS => ?_)
  have hP : va_P D vwCl [(h0, .inr (0, [.ref q1, .ref q2, .null, .int 0, .null, .null, .null])), (q1, .inl (cI, 160, .inl (fun _ => 0))), (q2, .inr (1, [.int 0, .int 0, .int 0, .int 0, .int 0])), (q3, .inr (1, [.int 0, .int 0, .int 0, .int 0, .int 0]))] H := hP
  have hD : va_D A [(h0, .inr (0, [.ref q1, .ref q2, .null, .int 0, .null, .null, .null])), (q1, .inl (cI, 160, .inl (fun _ => 0))), (q2, .inr (1, [.int 0, .int 0, .int 0, .int 0, .int 0])), (q3, .inr (1, [.int 0, .int 0, .int 0, .int 0, .int 0]))] := hD
  refine lv_dup hx hb dX0_init_28 rfl ?_
  refine va_callv (va_runIN (As := []) (rest := [.ref q3, .ref h0]) ⟨hx, hb, hml, hown, hts⟩ (c_X1_init l q3 H.size) ⟨va_cnB 0 hts gX0_init_X1_init_n17 rfl rfl rfl (hK.2 (.methodLinkNest "WideningArray$Disk" 17 yX1_init "WideningArray") (by decide +kernel)) (hts (.initialized RX1) (by decide +kernel)) (by decide +kernel) ⟨Nat.le_of_ble_eq_true rfl, Nat.le_of_ble_eq_true rfl⟩, rfl, hts (.instanceMethod yX1_init) (by decide +kernel)⟩ ⟨fun a U g mk q => q, fun U hU hW => ⟨rfl, by show U.heap.size = _; rw [hU]⟩⟩ rfl rfl hl.1 rfl (lv_room (Nat.le_of_ble_eq_true rfl)) dX0_init_29 ⟨(Nat.le_of_ble_eq_true rfl), (Nat.le_of_ble_eq_true rfl)⟩) hS (fun q h1 h2 => absurd h1 (Nat.not_lt.mpr h2)) (fun q h => hA q (Nat.le_trans hS.1 h)) (fun u9 t9 H1 locs ht hvm hw9 hB9 hz1 hk1 hS => ?_)
  have hP := hP.kept (fun k x hx => hk1 x.1 (hP k x hx).lt (Nat.not_le.mpr (hP k x hx).lt))
  clear hk1 hz1 hB9 hw9
  generalize H1 = H at hP hS ht ⊢
  have hP : va_P D vwCl [(h0, .inr (0, [.ref q1, .ref q2, .null, .int 0, .null, .null, .null])), (q1, .inl (cI, 160, .inl (fun _ => 0))), (q2, .inr (1, [.int 0, .int 0, .int 0, .int 0, .int 0])), (q3, .inr (1, [.int 0, .int 0, .int 0, .int 0, .int 0]))] H := hP
  have hD : va_D A [(h0, .inr (0, [.ref q1, .ref q2, .null, .int 0, .null, .null, .null])), (q1, .inl (cI, 160, .inl (fun _ => 0))), (q2, .inr (1, [.int 0, .int 0, .int 0, .int 0, .int 0])), (q3, .inr (1, [.int 0, .int 0, .int 0, .int 0, .int 0]))] := hD
  refine va_putF hx hb hts hi0 tyX0 tyX0_ok nmX0 hown hK.1 hP hD hS 0 rfl rfl 2 (by decide) (hts (.fieldLink RX0 22 "WideningArray$Disk" "oddMarks" "LWideningArray$Marks;") (by decide +kernel)) (fun _ h => h) rfl hin rfl (ty := tyX0 2) (v := .ref q3) (tyX0_ok 2 (by decide)) rfl rfl (Nat.le_of_ble_eq_true rfl) dX0_init_32 (fun H locs hP hD hS => ?_)
  have hP : va_P D vwCl [(h0, .inr (0, [.ref q1, .ref q2, .ref q3, .int 0, .null, .null, .null])), (q1, .inl (cI, 160, .inl (fun _ => 0))), (q2, .inr (1, [.int 0, .int 0, .int 0, .int 0, .int 0])), (q3, .inr (1, [.int 0, .int 0, .int 0, .int 0, .int 0]))] H := hP
  have hD : va_D A [(h0, .inr (0, [.ref q1, .ref q2, .ref q3, .int 0, .null, .null, .null])), (q1, .inl (cI, 160, .inl (fun _ => 0))), (q2, .inr (1, [.int 0, .int 0, .int 0, .int 0, .int 0])), (q3, .inr (1, [.int 0, .int 0, .int 0, .int 0, .int 0]))] := hD
  refine lv_aload_n hx hb dX0_init_35 rfl (lv_at hl 0 rfl) ?_
  refine lv_bipush (v := nI 8) hx hb dX0_init_36 (by decide) ?_
  refine va_newa (atype := .int) (ty := .int) hx hb (hts (.arrayClass .int) (by decide +kernel)) rfl hK.1 hP hD hS hA (n := nI 8) (N' := 8) (a0 := (8, .inl (fun _ => 0))) (fun _ => rfl) (by decide) (by decide) (by decide) (Nat.le_of_ble_eq_true rfl) (Nat.le_of_ble_eq_true rfl) dX0_init_38 (fun q4 cA H hKq hP hD hS => ?_)
  have hc9 : cI = cA := (cA_int hKq).symm
  subst hc9
  clear hKq
  have hP : va_P D vwCl [(h0, .inr (0, [.ref q1, .ref q2, .ref q3, .int 0, .null, .null, .null])), (q1, .inl (cI, 160, .inl (fun _ => 0))), (q2, .inr (1, [.int 0, .int 0, .int 0, .int 0, .int 0])), (q3, .inr (1, [.int 0, .int 0, .int 0, .int 0, .int 0])), (q4, .inl (cI, 8, .inl (fun _ => 0)))] H := hP
  have hD : va_D A [(h0, .inr (0, [.ref q1, .ref q2, .ref q3, .int 0, .null, .null, .null])), (q1, .inl (cI, 160, .inl (fun _ => 0))), (q2, .inr (1, [.int 0, .int 0, .int 0, .int 0, .int 0])), (q3, .inr (1, [.int 0, .int 0, .int 0, .int 0, .int 0])), (q4, .inl (cI, 8, .inl (fun _ => 0)))] := hD
  refine va_putF hx hb hts hi0 tyX0 tyX0_ok nmX0 hown hK.1 hP hD hS 0 rfl rfl 4 (by decide) (hts (.fieldLink RX0 25 "WideningArray$Disk" "waitingRows" "[I") (by decide +kernel)) (fun _ h => h) rfl hin rfl (ty := tyX0 4) (v := .ref q4) (tyX0_ok 4 (by decide)) rfl rfl (Nat.le_of_ble_eq_true rfl) dX0_init_40 (fun H locs hP hD hS => ?_)
  have hP : va_P D vwCl [(h0, .inr (0, [.ref q1, .ref q2, .ref q3, .int 0, .ref q4, .null, .null])), (q1, .inl (cI, 160, .inl (fun _ => 0))), (q2, .inr (1, [.int 0, .int 0, .int 0, .int 0, .int 0])), (q3, .inr (1, [.int 0, .int 0, .int 0, .int 0, .int 0])), (q4, .inl (cI, 8, .inl (fun _ => 0)))] H := hP
  have hD : va_D A [(h0, .inr (0, [.ref q1, .ref q2, .ref q3, .int 0, .ref q4, .null, .null])), (q1, .inl (cI, 160, .inl (fun _ => 0))), (q2, .inr (1, [.int 0, .int 0, .int 0, .int 0, .int 0])), (q3, .inr (1, [.int 0, .int 0, .int 0, .int 0, .int 0])), (q4, .inl (cI, 8, .inl (fun _ => 0)))] := hD
  refine lv_aload_n hx hb dX0_init_43 rfl (lv_at hl 0 rfl) ?_
  refine lv_bipush (v := nI 32) hx hb dX0_init_44 (by decide) ?_
  refine va_newa (atype := .int) (ty := .int) hx hb (hts (.arrayClass .int) (by decide +kernel)) rfl hK.1 hP hD hS hA (n := nI 32) (N' := 32) (a0 := (32, .inl (fun _ => 0))) (fun _ => rfl) (by decide) (by decide) (by decide) (Nat.le_of_ble_eq_true rfl) (Nat.le_of_ble_eq_true rfl) dX0_init_46 (fun q5 cA H hKq hP hD hS => ?_)
  have hc9 : cI = cA := (cA_int hKq).symm
  subst hc9
  clear hKq
  have hP : va_P D vwCl [(h0, .inr (0, [.ref q1, .ref q2, .ref q3, .int 0, .ref q4, .null, .null])), (q1, .inl (cI, 160, .inl (fun _ => 0))), (q2, .inr (1, [.int 0, .int 0, .int 0, .int 0, .int 0])), (q3, .inr (1, [.int 0, .int 0, .int 0, .int 0, .int 0])), (q4, .inl (cI, 8, .inl (fun _ => 0))), (q5, .inl (cI, 32, .inl (fun _ => 0)))] H := hP
  have hD : va_D A [(h0, .inr (0, [.ref q1, .ref q2, .ref q3, .int 0, .ref q4, .null, .null])), (q1, .inl (cI, 160, .inl (fun _ => 0))), (q2, .inr (1, [.int 0, .int 0, .int 0, .int 0, .int 0])), (q3, .inr (1, [.int 0, .int 0, .int 0, .int 0, .int 0])), (q4, .inl (cI, 8, .inl (fun _ => 0))), (q5, .inl (cI, 32, .inl (fun _ => 0)))] := hD
  refine va_putF hx hb hts hi0 tyX0 tyX0_ok nmX0 hown hK.1 hP hD hS 0 rfl rfl 5 (by decide) (hts (.fieldLink RX0 28 "WideningArray$Disk" "waitingWords" "[I") (by decide +kernel)) (fun _ h => h) rfl hin rfl (ty := tyX0 5) (v := .ref q5) (tyX0_ok 5 (by decide)) rfl rfl (Nat.le_of_ble_eq_true rfl) dX0_init_48 (fun H locs hP hD hS => ?_)
  have hP : va_P D vwCl [(h0, .inr (0, [.ref q1, .ref q2, .ref q3, .int 0, .ref q4, .ref q5, .null])), (q1, .inl (cI, 160, .inl (fun _ => 0))), (q2, .inr (1, [.int 0, .int 0, .int 0, .int 0, .int 0])), (q3, .inr (1, [.int 0, .int 0, .int 0, .int 0, .int 0])), (q4, .inl (cI, 8, .inl (fun _ => 0))), (q5, .inl (cI, 32, .inl (fun _ => 0)))] H := hP
  have hD : va_D A [(h0, .inr (0, [.ref q1, .ref q2, .ref q3, .int 0, .ref q4, .ref q5, .null])), (q1, .inl (cI, 160, .inl (fun _ => 0))), (q2, .inr (1, [.int 0, .int 0, .int 0, .int 0, .int 0])), (q3, .inr (1, [.int 0, .int 0, .int 0, .int 0, .int 0])), (q4, .inl (cI, 8, .inl (fun _ => 0))), (q5, .inl (cI, 32, .inl (fun _ => 0)))] := hD
  refine lv_aload_n hx hb dX0_init_51 rfl (lv_at hl 0 rfl) ?_
  refine va_new hx hb hts hi1 tyX1 tyX1_ok hown (hts (.classLink RX0 15 RX1) (by decide +kernel)) (hts (.instantiable RX1 5) (by decide +kernel)) (hts (.initialized RX1) (by decide +kernel)) hK.1 hP hD hS hA (ci := 1) rfl (fs := [.int 0, .int 0, .int 0, .int 0, .int 0]) dfX1 (Nat.le_of_ble_eq_true rfl) (Nat.le_of_ble_eq_true rfl) dX0_init_52 (fun q6 H hP hD hS => ?_)
  have hP : va_P D vwCl [(h0, .inr (0, [.ref q1, .ref q2, .ref q3, .int 0, .ref q4, .ref q5, .null])), (q1, .inl (cI, 160, .inl (fun _ => 0))), (q2, .inr (1, [.int 0, .int 0, .int 0, .int 0, .int 0])), (q3, .inr (1, [.int 0, .int 0, .int 0, .int 0, .int 0])), (q4, .inl (cI, 8, .inl (fun _ => 0))), (q5, .inl (cI, 32, .inl (fun _ => 0))), (q6, .inr (1, [.int 0, .int 0, .int 0, .int 0, .int 0]))] H := hP
  have hD : va_D A [(h0, .inr (0, [.ref q1, .ref q2, .ref q3, .int 0, .ref q4, .ref q5, .null])), (q1, .inl (cI, 160, .inl (fun _ => 0))), (q2, .inr (1, [.int 0, .int 0, .int 0, .int 0, .int 0])), (q3, .inr (1, [.int 0, .int 0, .int 0, .int 0, .int 0])), (q4, .inl (cI, 8, .inl (fun _ => 0))), (q5, .inl (cI, 32, .inl (fun _ => 0))), (q6, .inr (1, [.int 0, .int 0, .int 0, .int 0, .int 0]))] := hD
  refine lv_dup hx hb dX0_init_55 rfl ?_
  refine va_callv (va_runIN (As := []) (rest := [.ref q6, .ref h0]) ⟨hx, hb, hml, hown, hts⟩ (c_X1_init l q6 H.size) ⟨va_cnB 0 hts gX0_init_X1_init_n17 rfl rfl rfl (hK.2 (.methodLinkNest "WideningArray$Disk" 17 yX1_init "WideningArray") (by decide +kernel)) (hts (.initialized RX1) (by decide +kernel)) (by decide +kernel) ⟨Nat.le_of_ble_eq_true rfl, Nat.le_of_ble_eq_true rfl⟩, rfl, hts (.instanceMethod yX1_init) (by decide +kernel)⟩ ⟨fun a U g mk q => q, fun U hU hW => ⟨rfl, by show U.heap.size = _; rw [hU]⟩⟩ rfl rfl hl.1 rfl (lv_room (Nat.le_of_ble_eq_true rfl)) dX0_init_56 ⟨(Nat.le_of_ble_eq_true rfl), (Nat.le_of_ble_eq_true rfl)⟩) hS (fun q h1 h2 => absurd h1 (Nat.not_lt.mpr h2)) (fun q h => hA q (Nat.le_trans hS.1 h)) (fun u9 t9 H1 locs ht hvm hw9 hB9 hz1 hk1 hS => ?_)
  have hP := hP.kept (fun k x hx => hk1 x.1 (hP k x hx).lt (Nat.not_le.mpr (hP k x hx).lt))
  clear hk1 hz1 hB9 hw9
  generalize H1 = H at hP hS ht ⊢
  have hP : va_P D vwCl [(h0, .inr (0, [.ref q1, .ref q2, .ref q3, .int 0, .ref q4, .ref q5, .null])), (q1, .inl (cI, 160, .inl (fun _ => 0))), (q2, .inr (1, [.int 0, .int 0, .int 0, .int 0, .int 0])), (q3, .inr (1, [.int 0, .int 0, .int 0, .int 0, .int 0])), (q4, .inl (cI, 8, .inl (fun _ => 0))), (q5, .inl (cI, 32, .inl (fun _ => 0))), (q6, .inr (1, [.int 0, .int 0, .int 0, .int 0, .int 0]))] H := hP
  have hD : va_D A [(h0, .inr (0, [.ref q1, .ref q2, .ref q3, .int 0, .ref q4, .ref q5, .null])), (q1, .inl (cI, 160, .inl (fun _ => 0))), (q2, .inr (1, [.int 0, .int 0, .int 0, .int 0, .int 0])), (q3, .inr (1, [.int 0, .int 0, .int 0, .int 0, .int 0])), (q4, .inl (cI, 8, .inl (fun _ => 0))), (q5, .inl (cI, 32, .inl (fun _ => 0))), (q6, .inr (1, [.int 0, .int 0, .int 0, .int 0, .int 0]))] := hD
  refine va_putF hx hb hts hi0 tyX0 tyX0_ok nmX0 hown hK.1 hP hD hS 0 rfl rfl 6 (by decide) (hts (.fieldLink RX0 31 "WideningArray$Disk" "waitingMarks" "LWideningArray$Marks;") (by decide +kernel)) (fun _ h => h) rfl hin rfl (ty := tyX0 6) (v := .ref q6) (tyX0_ok 6 (by decide)) rfl rfl (Nat.le_of_ble_eq_true rfl) dX0_init_59 (fun H locs hP hD hS => ?_)
  have hP : va_P D vwCl [(h0, .inr (0, [.ref q1, .ref q2, .ref q3, .int 0, .ref q4, .ref q5, .ref q6])), (q1, .inl (cI, 160, .inl (fun _ => 0))), (q2, .inr (1, [.int 0, .int 0, .int 0, .int 0, .int 0])), (q3, .inr (1, [.int 0, .int 0, .int 0, .int 0, .int 0])), (q4, .inl (cI, 8, .inl (fun _ => 0))), (q5, .inl (cI, 32, .inl (fun _ => 0))), (q6, .inr (1, [.int 0, .int 0, .int 0, .int 0, .int 0]))] H := hP
  have hD : va_D A [(h0, .inr (0, [.ref q1, .ref q2, .ref q3, .int 0, .ref q4, .ref q5, .ref q6])), (q1, .inl (cI, 160, .inl (fun _ => 0))), (q2, .inr (1, [.int 0, .int 0, .int 0, .int 0, .int 0])), (q3, .inr (1, [.int 0, .int 0, .int 0, .int 0, .int 0])), (q4, .inl (cI, 8, .inl (fun _ => 0))), (q5, .inl (cI, 32, .inl (fun _ => 0))), (q6, .inr (1, [.int 0, .int 0, .int 0, .int 0, .int 0]))] := hD
  exact W.vret hx hb hr (fun t ht hW => ⟨⟨(fun k => match k with | 0 => h0 | 1 => q1 | 2 => q2 | 3 => q3 | 4 => q4 | 5 => q5 | _ => q6), rfl, rfl, by rw [ht]; exact hP, hAe ▸ hD⟩, hS.F ht⟩) hS.2.2 dX0_init_62
