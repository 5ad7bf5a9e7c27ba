theorem dfX2 : ∀ j, j < 10 → defaultValue (tyX2 j) = vp_V [.null, .null, .null, .null, .int 0, .int 0, .int 0, .int 0, .int 0, .int 0] j := by
  intro j hj
  rcases (show j = 0 ∨ j = 1 ∨ j = 2 ∨ j = 3 ∨ j = 4 ∨ j = 5 ∨ j = 6 ∨ j = 7 ∨ j = 8 ∨ j = 9 by omega) with rfl | rfl | rfl | rfl | rfl | rfl | rfl | rfl | rfl | rfl <;> rfl
theorem dfX3 : ∀ j, j < 24 → defaultValue (tyX3 j) = vp_V [.int 0, .int 0, .int 0, .int 0, .int 0, .int 0, .int 0, .int 0, .int 0, .int 0, .int 0, .int 0, .int 0, .int 0, .null, .null, .int 0, .null, .null, .null, .null, .null, .null, .null] j := by
  intro j hj
  rcases (show j = 0 ∨ j = 1 ∨ j = 2 ∨ j = 3 ∨ j = 4 ∨ j = 5 ∨ j = 6 ∨ j = 7 ∨ j = 8 ∨ j = 9 ∨ j = 10 ∨ j = 11 ∨ j = 12 ∨ j = 13 ∨ j = 14 ∨ j = 15 ∨ j = 16 ∨ j = 17 ∨ j = 18 ∨ j = 19 ∨ j = 20 ∨ j = 21 ∨ j = 22 ∨ j = 23 by omega) with rfl | rfl | rfl | rfl | rfl | rfl | rfl | rfl | rfl | rfl | rfl | rfl | rfl | rfl | rfl | rfl | rfl | rfl | rfl | rfl | rfl | rfl | rfl | rfl <;> rfl
def m0 : vT := fun k j => if k = 0 ∧ (j = 8 ∨ j = 9) then -1 else 0
set_option maxHeartbeats 4000000 in
set_option maxRecDepth 100000 in
theorem c_X3_init (l : Launch) (D : va_G) (cI cD : ClassId) (h0 sz : Nat) : Met l yX3_init wsX3_init ({ frames := 1, cells := 9, slots := 1436, locals := 12 }) (nP D cI cD sz [(h0, .inr (3, [.int 0, .int 0, .int 0, .int 0, .int 0, .int 0, .int 0, .int 0, .int 0, .int 0, .int 0, .int 0, .int 0, .int 0, .null, .null, .int 0, .null, .null, .null, .null, .null, .null, .null]))] [.ref h0]) (va_Qv (fun ad : Nat → Nat => ad 0 = h0) (fun ad t => va_P D vwCl (wl 10 ad (fun k => mF cI ad k (m0 k))) t.heap ∧ va_D (va_A [(h0, .inr (3, [.int 0, .int 0, .int 0, .int 0, .int 0, .int 0, .int 0, .int 0, .int 0, .int 0, .int 0, .int 0, .int 0, .int 0, .null, .null, .int 0, .null, .null, .null, .null, .null, .null, .null]))] sz) (wl 10 ad (fun k => mF cI ad k (m0 k)))) (va_A [(h0, .inr (3, [.int 0, .int 0, .int 0, .int 0, .int 0, .int 0, .int 0, .int 0, .int 0, .int 0, .int 0, .int 0, .int 0, .int 0, .null, .null, .int 0, .null, .null, .null, .null, .null, .null, .null]))] sz)) 9 1436 (va_A [(h0, .inr (3, [.int 0, .int 0, .int 0, .int 0, .int 0, .int 0, .int 0, .int 0, .int 0, .int 0, .int 0, .int 0, .int 0, .int 0, .null, .null, .int 0, .null, .null, .null, .null, .null, .null, .null]))] sz) := by
  refine Met.ofW (cc := cX3_init) (maxL := 1) (ret := none) (by decide) rfl ?_
  intro p e s m args below meth c s₁ B hml hv
  obtain ⟨rfl, hsz, hP, hK, hD0, hAO⟩ := hv
  have hx := B.exec
  have hb := B.bytes
  have hr := B.returns
  have hts := atoms_spec (ws := wsX3_init) B.pre
  have hown : s.vm.findClass RX3 = some m.cls := findClass_of_methodNamed B.named
  have hlocks := B.notSynchronized
  have hin : meth.name = "<init>" := (name_of_methodNamed B.named B.method).1
  subst hsz
  have hD := hD0.self (sz := s.heap.size)
  generalize hAe : va_A [(h0, .inr (3, [.int 0, .int 0, .int 0, .int 0, .int 0, .int 0, .int 0, .int 0, .int 0, .int 0, .int 0, .int 0, .int 0, .int 0, .null, .null, .int 0, .null, .null, .null, .null, .null, .null, .null]))] s.heap.size = A at hD ⊢
  have hA : ∀ q : Nat, s.heap.size ≤ q → A q := fun q h => by rw [← hAe]; exact Or.inr h
  have hS : va_S A s.heap s.heap [] := va_S.rf
  have hl := lv_entry ([.ref h0]) (n := 1) (Nat.le_of_ble_eq_true rfl)
  rw [lg_entry_eq]
  generalize (lg_sl ([.ref h0]) ++ List.replicate (1 - (lg_sl ([.ref h0])).length) Slot.unset).toArray = ls at hl ⊢
  have hl : lv_has ls 1 [(0, .ref h0)] := hl
  have hi3 : ∀ w ∈ wsX30, w ∈ wsX3_init := by decide +kernel
  refine lv_aload_n hx hb dX3_init_0 rfl (lv_at hl 0 rfl) ?_
  refine W.objInit hx hb hown (hts (.methodLink RX3 1 objectInit) (by decide +kernel)) (hts (.instanceMethod objectInit) (by decide +kernel)) (hts _ (List.mem_cons_of_mem _ (List.mem_of_getElem? (i := 2) rfl))) rfl (by rw [hml]; exact hl.1) rfl dX3_init_1 (Nat.le_of_ble_eq_true rfl) (Nat.le_of_ble_eq_true rfl) ?_
  refine W.eq (g2 := F0 m 4 ls []) rfl ?_
  refine lv_aload_n hx hb dX3_init_4 rfl (lv_at hl 0 rfl) ?_
  refine lv_iconst (v := (-1)) hx hb dX3_init_5 (by decide) ?_
  refine va_put hx hb hts hi3 tyX3 tyX3_ok nmX3 hown hK.1 hP hD hS 0 rfl rfl 8 (by decide) (hts (.fieldLink RX3 7 "WideningArrayModel" "lost" "I") (by decide +kernel)) (fun _ h => h) rfl (ty := tyX3 8) (v := .int ((-1))) (tyX3_ok 8 (by decide)) rfl rfl (Nat.le_of_ble_eq_true rfl) dX3_init_6 (fun H locs hP hD hS => ?_)
  have hP : va_P D vwCl [(h0, .inr (3, [.int 0, .int 0, .int 0, .int 0, .int 0, .int 0, .int 0, .int 0, .int ((-1)), .int 0, .int 0, .int 0, .int 0, .int 0, .null, .null, .int 0, .null, .null, .null, .null, .null, .null, .null]))] H := hP
  have hD : va_D A [(h0, .inr (3, [.int 0, .int 0, .int 0, .int 0, .int 0, .int 0, .int 0, .int 0, .int ((-1)), .int 0, .int 0, .int 0, .int 0, .int 0, .null, .null, .int 0, .null, .null, .null, .null, .null, .null, .null]))] := hD
  refine lv_aload_n hx hb dX3_init_9 rfl (lv_at hl 0 rfl) ?_
  refine lv_iconst (v := (-1)) hx hb dX3_init_10 (by decide) ?_
  refine va_put hx hb hts hi3 tyX3 tyX3_ok nmX3 hown hK.1 hP hD hS 0 rfl rfl 9 (by decide) (hts (.fieldLink RX3 13 "WideningArrayModel" "fresh" "I") (by decide +kernel)) (fun _ h => h) rfl (ty := tyX3 9) (v := .int ((-1))) (tyX3_ok 9 (by decide)) rfl rfl (Nat.le_of_ble_eq_true rfl) dX3_init_11 (fun H locs hP hD hS => ?_)
  have hP : va_P D vwCl [(h0, .inr (3, [.int 0, .int 0, .int 0, .int 0, .int 0, .int 0, .int 0, .int 0, .int ((-1)), .int ((-1)), .int 0, .int 0, .int 0, .int 0, .null, .null, .int 0, .null, .null, .null, .null, .null, .null, .null]))] H := hP
  have hD : va_D A [(h0, .inr (3, [.int 0, .int 0, .int 0, .int 0, .int 0, .int 0, .int 0, .int 0, .int ((-1)), .int ((-1)), .int 0, .int 0, .int 0, .int 0, .null, .null, .int 0, .null, .null, .null, .null, .null, .null, .null]))] := hD
  refine lv_aload_n hx hb dX3_init_14 rfl (lv_at hl 0 rfl) ?_
  refine lv_sipush (v := nI 1120) hx hb dX3_init_15 (by decide) ?_
  refine va_newa (atype := .int) (ty := .int) hx hb (hts (.arrayClass .int) (by decide +kernel)) rfl hK.1 hP hD hS hA (n := nI 1120) (N' := 1120) (a0 := (1120, .inl (fun _ => 0))) (fun _ => rfl) (by decide) (by decide) (by decide) (Nat.le_of_ble_eq_true rfl) (Nat.le_of_ble_eq_true rfl) dX3_init_18 (fun q1 cA H hKq hP hD hS => ?_)
  have hc9 : cI = cA := (cA_int hKq).symm
  subst hc9
  clear hKq
  have hP : va_P D vwCl [(h0, .inr (3, [.int 0, .int 0, .int 0, .int 0, .int 0, .int 0, .int 0, .int 0, .int ((-1)), .int ((-1)), .int 0, .int 0, .int 0, .int 0, .null, .null, .int 0, .null, .null, .null, .null, .null, .null, .null])), (q1, .inl (cI, 1120, .inl (fun _ => 0)))] H := hP
  have hD : va_D A [(h0, .inr (3, [.int 0, .int 0, .int 0, .int 0, .int 0, .int 0, .int 0, .int 0, .int ((-1)), .int ((-1)), .int 0, .int 0, .int 0, .int 0, .null, .null, .int 0, .null, .null, .null, .null, .null, .null, .null])), (q1, .inl (cI, 1120, .inl (fun _ => 0)))] := hD
  refine va_putF hx hb hts hi3 tyX3 tyX3_ok nmX3 hown hK.1 hP hD hS 0 rfl rfl 14 (by decide) (hts (.fieldLink RX3 16 "WideningArrayModel" "words" "[I") (by decide +kernel)) (fun _ h => h) rfl hin rfl (ty := tyX3 14) (v := .ref q1) (tyX3_ok 14 (by decide)) rfl rfl (Nat.le_of_ble_eq_true rfl) dX3_init_20 (fun H locs hP hD hS => ?_)
  have hP : va_P D vwCl [(h0, .inr (3, [.int 0, .int 0, .int 0, .int 0, .int 0, .int 0, .int 0, .int 0, .int ((-1)), .int ((-1)), .int 0, .int 0, .int 0, .int 0, .ref q1, .null, .int 0, .null, .null, .null, .null, .null, .null, .null])), (q1, .inl (cI, 1120, .inl (fun _ => 0)))] H := hP
  have hD : va_D A [(h0, .inr (3, [.int 0, .int 0, .int 0, .int 0, .int 0, .int 0, .int 0, .int 0, .int ((-1)), .int ((-1)), .int 0, .int 0, .int 0, .int 0, .ref q1, .null, .int 0, .null, .null, .null, .null, .null, .null, .null])), (q1, .inl (cI, 1120, .inl (fun _ => 0)))] := hD
  refine lv_aload_n hx hb dX3_init_23 rfl (lv_at hl 0 rfl) ?_
  refine lv_bipush (v := nI 70) hx hb dX3_init_24 (by decide) ?_
  refine va_newa (atype := .int) (ty := .int) hx hb (hts (.arrayClass .int) (by decide +kernel)) rfl hK.1 hP hD hS hA (n := nI 70) (N' := 70) (a0 := (70, .inl (fun _ => 0))) (fun _ => rfl) (by decide) (by decide) (by decide) (Nat.le_of_ble_eq_true rfl) (Nat.le_of_ble_eq_true rfl) dX3_init_26 (fun q2 cA H hKq hP hD hS => ?_)
  have hc9 : cI = cA := (cA_int hKq).symm
  subst hc9
  clear hKq
  have hP : va_P D vwCl [(h0, .inr (3, [.int 0, .int 0, .int 0, .int 0, .int 0, .int 0, .int 0, .int 0, .int ((-1)), .int ((-1)), .int 0, .int 0, .int 0, .int 0, .ref q1, .null, .int 0, .null, .null, .null, .null, .null, .null, .null])), (q1, .inl (cI, 1120, .inl (fun _ => 0))), (q2, .inl (cI, 70, .inl (fun _ => 0)))] H := hP
  have hD : va_D A [(h0, .inr (3, [.int 0, .int 0, .int 0, .int 0, .int 0, .int 0, .int 0, .int 0, .int ((-1)), .int ((-1)), .int 0, .int 0, .int 0, .int 0, .ref q1, .null, .int 0, .null, .null, .null, .null, .null, .null, .null])), (q1, .inl (cI, 1120, .inl (fun _ => 0))), (q2, .inl (cI, 70, .inl (fun _ => 0)))] := hD
  refine va_putF hx hb hts hi3 tyX3 tyX3_ok nmX3 hown hK.1 hP hD hS 0 rfl rfl 15 (by decide) (hts (.fieldLink RX3 20 "WideningArrayModel" "marks" "[I") (by decide +kernel)) (fun _ h => h) rfl hin rfl (ty := tyX3 15) (v := .ref q2) (tyX3_ok 15 (by decide)) rfl rfl (Nat.le_of_ble_eq_true rfl) dX3_init_28 (fun H locs hP hD hS => ?_)
  have hP : va_P D vwCl [(h0, .inr (3, [.int 0, .int 0, .int 0, .int 0, .int 0, .int 0, .int 0, .int 0, .int ((-1)), .int ((-1)), .int 0, .int 0, .int 0, .int 0, .ref q1, .ref q2, .int 0, .null, .null, .null, .null, .null, .null, .null])), (q1, .inl (cI, 1120, .inl (fun _ => 0))), (q2, .inl (cI, 70, .inl (fun _ => 0)))] H := hP
  have hD : va_D A [(h0, .inr (3, [.int 0, .int 0, .int 0, .int 0, .int 0, .int 0, .int 0, .int 0, .int ((-1)), .int ((-1)), .int 0, .int 0, .int 0, .int 0, .ref q1, .ref q2, .int 0, .null, .null, .null, .null, .null, .null, .null])), (q1, .inl (cI, 1120, .inl (fun _ => 0))), (q2, .inl (cI, 70, .inl (fun _ => 0)))] := hD
  refine lv_aload_n hx hb dX3_init_31 rfl (lv_at hl 0 rfl) ?_
  refine lv_bipush (v := nI 32) hx hb dX3_init_32 (by decide) ?_
  refine va_newa (atype := .int) (ty := .int) hx hb (hts (.arrayClass .int) (by decide +kernel)) rfl hK.1 hP hD hS hA (n := nI 32) (N' := 32) (a0 := (32, .inl (fun _ => 0))) (fun _ => rfl) (by decide) (by decide) (by decide) (Nat.le_of_ble_eq_true rfl) (Nat.le_of_ble_eq_true rfl) dX3_init_34 (fun q3 cA H hKq hP hD hS => ?_)
  have hc9 : cI = cA := (cA_int hKq).symm
  subst hc9
  clear hKq
  have hP : va_P D vwCl [(h0, .inr (3, [.int 0, .int 0, .int 0, .int 0, .int 0, .int 0, .int 0, .int 0, .int ((-1)), .int ((-1)), .int 0, .int 0, .int 0, .int 0, .ref q1, .ref q2, .int 0, .null, .null, .null, .null, .null, .null, .null])), (q1, .inl (cI, 1120, .inl (fun _ => 0))), (q2, .inl (cI, 70, .inl (fun _ => 0))), (q3, .inl (cI, 32, .inl (fun _ => 0)))] H := hP
  have hD : va_D A [(h0, .inr (3, [.int 0, .int 0, .int 0, .int 0, .int 0, .int 0, .int 0, .int 0, .int ((-1)), .int ((-1)), .int 0, .int 0, .int 0, .int 0, .ref q1, .ref q2, .int 0, .null, .null, .null, .null, .null, .null, .null])), (q1, .inl (cI, 1120, .inl (fun _ => 0))), (q2, .inl (cI, 70, .inl (fun _ => 0))), (q3, .inl (cI, 32, .inl (fun _ => 0)))] := hD
  refine va_putF hx hb hts hi3 tyX3 tyX3_ok nmX3 hown hK.1 hP hD hS 0 rfl rfl 17 (by decide) (hts (.fieldLink RX3 23 "WideningArrayModel" "toDisk" "[I") (by decide +kernel)) (fun _ h => h) rfl hin rfl (ty := tyX3 17) (v := .ref q3) (tyX3_ok 17 (by decide)) rfl rfl (Nat.le_of_ble_eq_true rfl) dX3_init_36 (fun H locs hP hD hS => ?_)
  have hP : va_P D vwCl [(h0, .inr (3, [.int 0, .int 0, .int 0, .int 0, .int 0, .int 0, .int 0, .int 0, .int ((-1)), .int ((-1)), .int 0, .int 0, .int 0, .int 0, .ref q1, .ref q2, .int 0, .ref q3, .null, .null, .null, .null, .null, .null])), (q1, .inl (cI, 1120, .inl (fun _ => 0))), (q2, .inl (cI, 70, .inl (fun _ => 0))), (q3, .inl (cI, 32, .inl (fun _ => 0)))] H := hP
  have hD : va_D A [(h0, .inr (3, [.int 0, .int 0, .int 0, .int 0, .int 0, .int 0, .int 0, .int 0, .int ((-1)), .int ((-1)), .int 0, .int 0, .int 0, .int 0, .ref q1, .ref q2, .int 0, .ref q3, .null, .null, .null, .null, .null, .null])), (q1, .inl (cI, 1120, .inl (fun _ => 0))), (q2, .inl (cI, 70, .inl (fun _ => 0))), (q3, .inl (cI, 32, .inl (fun _ => 0)))] := hD
  refine lv_aload_n hx hb dX3_init_39 rfl (lv_at hl 0 rfl) ?_
  refine lv_bipush (v := nI 32) hx hb dX3_init_40 (by decide) ?_
  refine va_newa (atype := .int) (ty := .int) hx hb (hts (.arrayClass .int) (by decide +kernel)) rfl hK.1 hP hD hS hA (n := nI 32) (N' := 32) (a0 := (32, .inl (fun _ => 0))) (fun _ => rfl) (by decide) (by decide) (by decide) (Nat.le_of_ble_eq_true rfl) (Nat.le_of_ble_eq_true rfl) dX3_init_42 (fun q4 cA H hKq hP hD hS => ?_)
  have hc9 : cI = cA := (cA_int hKq).symm
  subst hc9
  clear hKq
  have hP : va_P D vwCl [(h0, .inr (3, [.int 0, .int 0, .int 0, .int 0, .int 0, .int 0, .int 0, .int 0, .int ((-1)), .int ((-1)), .int 0, .int 0, .int 0, .int 0, .ref q1, .ref q2, .int 0, .ref q3, .null, .null, .null, .null, .null, .null])), (q1, .inl (cI, 1120, .inl (fun _ => 0))), (q2, .inl (cI, 70, .inl (fun _ => 0))), (q3, .inl (cI, 32, .inl (fun _ => 0))), (q4, .inl (cI, 32, .inl (fun _ => 0)))] H := hP
  have hD : va_D A [(h0, .inr (3, [.int 0, .int 0, .int 0, .int 0, .int 0, .int 0, .int 0, .int 0, .int ((-1)), .int ((-1)), .int 0, .int 0, .int 0, .int 0, .ref q1, .ref q2, .int 0, .ref q3, .null, .null, .null, .null, .null, .null])), (q1, .inl (cI, 1120, .inl (fun _ => 0))), (q2, .inl (cI, 70, .inl (fun _ => 0))), (q3, .inl (cI, 32, .inl (fun _ => 0))), (q4, .inl (cI, 32, .inl (fun _ => 0)))] := hD
  refine va_putF hx hb hts hi3 tyX3 tyX3_ok nmX3 hown hK.1 hP hD hS 0 rfl rfl 18 (by decide) (hts (.fieldLink RX3 26 "WideningArrayModel" "toRow" "[I") (by decide +kernel)) (fun _ h => h) rfl hin rfl (ty := tyX3 18) (v := .ref q4) (tyX3_ok 18 (by decide)) rfl rfl (Nat.le_of_ble_eq_true rfl) dX3_init_44 (fun H locs hP hD hS => ?_)
  have hP : va_P D vwCl [(h0, .inr (3, [.int 0, .int 0, .int 0, .int 0, .int 0, .int 0, .int 0, .int 0, .int ((-1)), .int ((-1)), .int 0, .int 0, .int 0, .int 0, .ref q1, .ref q2, .int 0, .ref q3, .ref q4, .null, .null, .null, .null, .null])), (q1, .inl (cI, 1120, .inl (fun _ => 0))), (q2, .inl (cI, 70, .inl (fun _ => 0))), (q3, .inl (cI, 32, .inl (fun _ => 0))), (q4, .inl (cI, 32, .inl (fun _ => 0)))] H := hP
  have hD : va_D A [(h0, .inr (3, [.int 0, .int 0, .int 0, .int 0, .int 0, .int 0, .int 0, .int 0, .int ((-1)), .int ((-1)), .int 0, .int 0, .int 0, .int 0, .ref q1, .ref q2, .int 0, .ref q3, .ref q4, .null, .null, .null, .null, .null])), (q1, .inl (cI, 1120, .inl (fun _ => 0))), (q2, .inl (cI, 70, .inl (fun _ => 0))), (q3, .inl (cI, 32, .inl (fun _ => 0))), (q4, .inl (cI, 32, .inl (fun _ => 0)))] := hD
  refine lv_aload_n hx hb dX3_init_47 rfl (lv_at hl 0 rfl) ?_
  refine lv_sipush (v := nI 160) hx hb dX3_init_48 (by decide) ?_
  refine va_newa (atype := .int) (ty := .int) hx hb (hts (.arrayClass .int) (by decide +kernel)) rfl hK.1 hP hD hS hA (n := nI 160) (N' := 160) (a0 := (160, .inl (fun _ => 0))) (fun _ => rfl) (by decide) (by decide) (by decide) (Nat.le_of_ble_eq_true rfl) (Nat.le_of_ble_eq_true rfl) dX3_init_51 (fun q5 cA H hKq hP hD hS => ?_)
  have hc9 : cI = cA := (cA_int hKq).symm
  subst hc9
  clear hKq
  have hP : va_P D vwCl [(h0, .inr (3, [.int 0, .int 0, .int 0, .int 0, .int 0, .int 0, .int 0, .int 0, .int ((-1)), .int ((-1)), .int 0, .int 0, .int 0, .int 0, .ref q1, .ref q2, .int 0, .ref q3, .ref q4, .null, .null, .null, .null, .null])), (q1, .inl (cI, 1120, .inl (fun _ => 0))), (q2, .inl (cI, 70, .inl (fun _ => 0))), (q3, .inl (cI, 32, .inl (fun _ => 0))), (q4, .inl (cI, 32, .inl (fun _ => 0))), (q5, .inl (cI, 160, .inl (fun _ => 0)))] H := hP
  have hD : va_D A [(h0, .inr (3, [.int 0, .int 0, .int 0, .int 0, .int 0, .int 0, .int 0, .int 0, .int ((-1)), .int ((-1)), .int 0, .int 0, .int 0, .int 0, .ref q1, .ref q2, .int 0, .ref q3, .ref q4, .null, .null, .null, .null, .null])), (q1, .inl (cI, 1120, .inl (fun _ => 0))), (q2, .inl (cI, 70, .inl (fun _ => 0))), (q3, .inl (cI, 32, .inl (fun _ => 0))), (q4, .inl (cI, 32, .inl (fun _ => 0))), (q5, .inl (cI, 160, .inl (fun _ => 0)))] := hD
  refine va_putF hx hb hts hi3 tyX3 tyX3_ok nmX3 hown hK.1 hP hD hS 0 rfl rfl 19 (by decide) (hts (.fieldLink RX3 29 "WideningArrayModel" "what" "[I") (by decide +kernel)) (fun _ h => h) rfl hin rfl (ty := tyX3 19) (v := .ref q5) (tyX3_ok 19 (by decide)) rfl rfl (Nat.le_of_ble_eq_true rfl) dX3_init_53 (fun H locs hP hD hS => ?_)
  have hP : va_P D vwCl [(h0, .inr (3, [.int 0, .int 0, .int 0, .int 0, .int 0, .int 0, .int 0, .int 0, .int ((-1)), .int ((-1)), .int 0, .int 0, .int 0, .int 0, .ref q1, .ref q2, .int 0, .ref q3, .ref q4, .ref q5, .null, .null, .null, .null])), (q1, .inl (cI, 1120, .inl (fun _ => 0))), (q2, .inl (cI, 70, .inl (fun _ => 0))), (q3, .inl (cI, 32, .inl (fun _ => 0))), (q4, .inl (cI, 32, .inl (fun _ => 0))), (q5, .inl (cI, 160, .inl (fun _ => 0)))] H := hP
  have hD : va_D A [(h0, .inr (3, [.int 0, .int 0, .int 0, .int 0, .int 0, .int 0, .int 0, .int 0, .int ((-1)), .int ((-1)), .int 0, .int 0, .int 0, .int 0, .ref q1, .ref q2, .int 0, .ref q3, .ref q4, .ref q5, .null, .null, .null, .null])), (q1, .inl (cI, 1120, .inl (fun _ => 0))), (q2, .inl (cI, 70, .inl (fun _ => 0))), (q3, .inl (cI, 32, .inl (fun _ => 0))), (q4, .inl (cI, 32, .inl (fun _ => 0))), (q5, .inl (cI, 160, .inl (fun _ => 0)))] := hD
  refine lv_aload_n hx hb dX3_init_56 rfl (lv_at hl 0 rfl) ?_
  refine lv_bipush (v := nI 7) hx hb dX3_init_57 (by decide) ?_
  refine va_newa (atype := .int) (ty := .int) hx hb (hts (.arrayClass .int) (by decide +kernel)) rfl hK.1 hP hD hS hA (n := nI 7) (N' := 7) (a0 := (7, .inl (fun _ => 0))) (fun _ => rfl) (by decide) (by decide) (by decide) (Nat.le_of_ble_eq_true rfl) (Nat.le_of_ble_eq_true rfl) dX3_init_59 (fun q6 cA H hKq hP hD hS => ?_)
  have hc9 : cI = cA := (cA_int hKq).symm
  subst hc9
  clear hKq
  have hP : va_P D vwCl [(h0, .inr (3, [.int 0, .int 0, .int 0, .int 0, .int 0, .int 0, .int 0, .int 0, .int ((-1)), .int ((-1)), .int 0, .int 0, .int 0, .int 0, .ref q1, .ref q2, .int 0, .ref q3, .ref q4, .ref q5, .null, .null, .null, .null])), (q1, .inl (cI, 1120, .inl (fun _ => 0))), (q2, .inl (cI, 70, .inl (fun _ => 0))), (q3, .inl (cI, 32, .inl (fun _ => 0))), (q4, .inl (cI, 32, .inl (fun _ => 0))), (q5, .inl (cI, 160, .inl (fun _ => 0))), (q6, .inl (cI, 7, .inl (fun _ => 0)))] H := hP
  have hD : va_D A [(h0, .inr (3, [.int 0, .int 0, .int 0, .int 0, .int 0, .int 0, .int 0, .int 0, .int ((-1)), .int ((-1)), .int 0, .int 0, .int 0, .int 0, .ref q1, .ref q2, .int 0, .ref q3, .ref q4, .ref q5, .null, .null, .null, .null])), (q1, .inl (cI, 1120, .inl (fun _ => 0))), (q2, .inl (cI, 70, .inl (fun _ => 0))), (q3, .inl (cI, 32, .inl (fun _ => 0))), (q4, .inl (cI, 32, .inl (fun _ => 0))), (q5, .inl (cI, 160, .inl (fun _ => 0))), (q6, .inl (cI, 7, .inl (fun _ => 0)))] := hD
  refine va_putF hx hb hts hi3 tyX3 tyX3_ok nmX3 hown hK.1 hP hD hS 0 rfl rfl 20 (by decide) (hts (.fieldLink RX3 32 "WideningArrayModel" "many" "[I") (by decide +kernel)) (fun _ h => h) rfl hin rfl (ty := tyX3 20) (v := .ref q6) (tyX3_ok 20 (by decide)) rfl rfl (Nat.le_of_ble_eq_true rfl) dX3_init_61 (fun H locs hP hD hS => ?_)
  have hP : va_P D vwCl [(h0, .inr (3, [.int 0, .int 0, .int 0, .int 0, .int 0, .int 0, .int 0, .int 0, .int ((-1)), .int ((-1)), .int 0, .int 0, .int 0, .int 0, .ref q1, .ref q2, .int 0, .ref q3, .ref q4, .ref q5, .ref q6, .null, .null, .null])), (q1, .inl (cI, 1120, .inl (fun _ => 0))), (q2, .inl (cI, 70, .inl (fun _ => 0))), (q3, .inl (cI, 32, .inl (fun _ => 0))), (q4, .inl (cI, 32, .inl (fun _ => 0))), (q5, .inl (cI, 160, .inl (fun _ => 0))), (q6, .inl (cI, 7, .inl (fun _ => 0)))] H := hP
  have hD : va_D A [(h0, .inr (3, [.int 0, .int 0, .int 0, .int 0, .int 0, .int 0, .int 0, .int 0, .int ((-1)), .int ((-1)), .int 0, .int 0, .int 0, .int 0, .ref q1, .ref q2, .int 0, .ref q3, .ref q4, .ref q5, .ref q6, .null, .null, .null])), (q1, .inl (cI, 1120, .inl (fun _ => 0))), (q2, .inl (cI, 70, .inl (fun _ => 0))), (q3, .inl (cI, 32, .inl (fun _ => 0))), (q4, .inl (cI, 32, .inl (fun _ => 0))), (q5, .inl (cI, 160, .inl (fun _ => 0))), (q6, .inl (cI, 7, .inl (fun _ => 0)))] := hD
  refine lv_aload_n hx hb dX3_init_64 rfl (lv_at hl 0 rfl) ?_
  refine lv_bipush (v := nI 7) hx hb dX3_init_65 (by decide) ?_
  refine va_newa (atype := .int) (ty := .int) hx hb (hts (.arrayClass .int) (by decide +kernel)) rfl hK.1 hP hD hS hA (n := nI 7) (N' := 7) (a0 := (7, .inl (fun _ => 0))) (fun _ => rfl) (by decide) (by decide) (by decide) (Nat.le_of_ble_eq_true rfl) (Nat.le_of_ble_eq_true rfl) dX3_init_67 (fun q7 cA H hKq hP hD hS => ?_)
  have hc9 : cI = cA := (cA_int hKq).symm
  subst hc9
  clear hKq
  have hP : va_P D vwCl [(h0, .inr (3, [.int 0, .int 0, .int 0, .int 0, .int 0, .int 0, .int 0, .int 0, .int ((-1)), .int ((-1)), .int 0, .int 0, .int 0, .int 0, .ref q1, .ref q2, .int 0, .ref q3, .ref q4, .ref q5, .ref q6, .null, .null, .null])), (q1, .inl (cI, 1120, .inl (fun _ => 0))), (q2, .inl (cI, 70, .inl (fun _ => 0))), (q3, .inl (cI, 32, .inl (fun _ => 0))), (q4, .inl (cI, 32, .inl (fun _ => 0))), (q5, .inl (cI, 160, .inl (fun _ => 0))), (q6, .inl (cI, 7, .inl (fun _ => 0))), (q7, .inl (cI, 7, .inl (fun _ => 0)))] H := hP
  have hD : va_D A [(h0, .inr (3, [.int 0, .int 0, .int 0, .int 0, .int 0, .int 0, .int 0, .int 0, .int ((-1)), .int ((-1)), .int 0, .int 0, .int 0, .int 0, .ref q1, .ref q2, .int 0, .ref q3, .ref q4, .ref q5, .ref q6, .null, .null, .null])), (q1, .inl (cI, 1120, .inl (fun _ => 0))), (q2, .inl (cI, 70, .inl (fun _ => 0))), (q3, .inl (cI, 32, .inl (fun _ => 0))), (q4, .inl (cI, 32, .inl (fun _ => 0))), (q5, .inl (cI, 160, .inl (fun _ => 0))), (q6, .inl (cI, 7, .inl (fun _ => 0))), (q7, .inl (cI, 7, .inl (fun _ => 0)))] := hD
  refine va_putF hx hb hts hi3 tyX3 tyX3_ok nmX3 hown hK.1 hP hD hS 0 rfl rfl 21 (by decide) (hts (.fieldLink RX3 35 "WideningArrayModel" "may" "[I") (by decide +kernel)) (fun _ h => h) rfl hin rfl (ty := tyX3 21) (v := .ref q7) (tyX3_ok 21 (by decide)) rfl rfl (Nat.le_of_ble_eq_true rfl) dX3_init_69 (fun H locs hP hD hS => ?_)
  have hP : va_P D vwCl [(h0, .inr (3, [.int 0, .int 0, .int 0, .int 0, .int 0, .int 0, .int 0, .int 0, .int ((-1)), .int ((-1)), .int 0, .int 0, .int 0, .int 0, .ref q1, .ref q2, .int 0, .ref q3, .ref q4, .ref q5, .ref q6, .ref q7, .null, .null])), (q1, .inl (cI, 1120, .inl (fun _ => 0))), (q2, .inl (cI, 70, .inl (fun _ => 0))), (q3, .inl (cI, 32, .inl (fun _ => 0))), (q4, .inl (cI, 32, .inl (fun _ => 0))), (q5, .inl (cI, 160, .inl (fun _ => 0))), (q6, .inl (cI, 7, .inl (fun _ => 0))), (q7, .inl (cI, 7, .inl (fun _ => 0)))] H := hP
  have hD : va_D A [(h0, .inr (3, [.int 0, .int 0, .int 0, .int 0, .int 0, .int 0, .int 0, .int 0, .int ((-1)), .int ((-1)), .int 0, .int 0, .int 0, .int 0, .ref q1, .ref q2, .int 0, .ref q3, .ref q4, .ref q5, .ref q6, .ref q7, .null, .null])), (q1, .inl (cI, 1120, .inl (fun _ => 0))), (q2, .inl (cI, 70, .inl (fun _ => 0))), (q3, .inl (cI, 32, .inl (fun _ => 0))), (q4, .inl (cI, 32, .inl (fun _ => 0))), (q5, .inl (cI, 160, .inl (fun _ => 0))), (q6, .inl (cI, 7, .inl (fun _ => 0))), (q7, .inl (cI, 7, .inl (fun _ => 0)))] := hD
  refine lv_aload_n hx hb dX3_init_72 rfl (lv_at hl 0 rfl) ?_
  refine lv_iconst (v := nI 4) hx hb dX3_init_73 (by decide) ?_
  refine va_newa (atype := .int) (ty := .int) hx hb (hts (.arrayClass .int) (by decide +kernel)) rfl hK.1 hP hD hS hA (n := nI 4) (N' := 4) (a0 := (4, .inl (fun _ => 0))) (fun _ => rfl) (by decide) (by decide) (by decide) (Nat.le_of_ble_eq_true rfl) (Nat.le_of_ble_eq_true rfl) dX3_init_74 (fun q8 cA H hKq hP hD hS => ?_)
  have hc9 : cI = cA := (cA_int hKq).symm
  subst hc9
  clear hKq
  have hP : va_P D vwCl [(h0, .inr (3, [.int 0, .int 0, .int 0, .int 0, .int 0, .int 0, .int 0, .int 0, .int ((-1)), .int ((-1)), .int 0, .int 0, .int 0, .int 0, .ref q1, .ref q2, .int 0, .ref q3, .ref q4, .ref q5, .ref q6, .ref q7, .null, .null])), (q1, .inl (cI, 1120, .inl (fun _ => 0))), (q2, .inl (cI, 70, .inl (fun _ => 0))), (q3, .inl (cI, 32, .inl (fun _ => 0))), (q4, .inl (cI, 32, .inl (fun _ => 0))), (q5, .inl (cI, 160, .inl (fun _ => 0))), (q6, .inl (cI, 7, .inl (fun _ => 0))), (q7, .inl (cI, 7, .inl (fun _ => 0))), (q8, .inl (cI, 4, .inl (fun _ => 0)))] H := hP
  have hD : va_D A [(h0, .inr (3, [.int 0, .int 0, .int 0, .int 0, .int 0, .int 0, .int 0, .int 0, .int ((-1)), .int ((-1)), .int 0, .int 0, .int 0, .int 0, .ref q1, .ref q2, .int 0, .ref q3, .ref q4, .ref q5, .ref q6, .ref q7, .null, .null])), (q1, .inl (cI, 1120, .inl (fun _ => 0))), (q2, .inl (cI, 70, .inl (fun _ => 0))), (q3, .inl (cI, 32, .inl (fun _ => 0))), (q4, .inl (cI, 32, .inl (fun _ => 0))), (q5, .inl (cI, 160, .inl (fun _ => 0))), (q6, .inl (cI, 7, .inl (fun _ => 0))), (q7, .inl (cI, 7, .inl (fun _ => 0))), (q8, .inl (cI, 4, .inl (fun _ => 0)))] := hD
  refine va_putF hx hb hts hi3 tyX3 tyX3_ok nmX3 hown hK.1 hP hD hS 0 rfl rfl 22 (by decide) (hts (.fieldLink RX3 38 "WideningArrayModel" "block" "[I") (by decide +kernel)) (fun _ h => h) rfl hin rfl (ty := tyX3 22) (v := .ref q8) (tyX3_ok 22 (by decide)) rfl rfl (Nat.le_of_ble_eq_true rfl) dX3_init_76 (fun H locs hP hD hS => ?_)
  have hP : va_P D vwCl [(h0, .inr (3, [.int 0, .int 0, .int 0, .int 0, .int 0, .int 0, .int 0, .int 0, .int ((-1)), .int ((-1)), .int 0, .int 0, .int 0, .int 0, .ref q1, .ref q2, .int 0, .ref q3, .ref q4, .ref q5, .ref q6, .ref q7, .ref q8, .null])), (q1, .inl (cI, 1120, .inl (fun _ => 0))), (q2, .inl (cI, 70, .inl (fun _ => 0))), (q3, .inl (cI, 32, .inl (fun _ => 0))), (q4, .inl (cI, 32, .inl (fun _ => 0))), (q5, .inl (cI, 160, .inl (fun _ => 0))), (q6, .inl (cI, 7, .inl (fun _ => 0))), (q7, .inl (cI, 7, .inl (fun _ => 0))), (q8, .inl (cI, 4, .inl (fun _ => 0)))] H := hP
  have hD : va_D A [(h0, .inr (3, [.int 0, .int 0, .int 0, .int 0, .int 0, .int 0, .int 0, .int 0, .int ((-1)), .int ((-1)), .int 0, .int 0, .int 0, .int 0, .ref q1, .ref q2, .int 0, .ref q3, .ref q4, .ref q5, .ref q6, .ref q7, .ref q8, .null])), (q1, .inl (cI, 1120, .inl (fun _ => 0))), (q2, .inl (cI, 70, .inl (fun _ => 0))), (q3, .inl (cI, 32, .inl (fun _ => 0))), (q4, .inl (cI, 32, .inl (fun _ => 0))), (q5, .inl (cI, 160, .inl (fun _ => 0))), (q6, .inl (cI, 7, .inl (fun _ => 0))), (q7, .inl (cI, 7, .inl (fun _ => 0))), (q8, .inl (cI, 4, .inl (fun _ => 0)))] := hD
  refine lv_aload_n hx hb dX3_init_79 rfl (lv_at hl 0 rfl) ?_
  refine lv_iconst (v := nI 4) hx hb dX3_init_80 (by decide) ?_
  refine va_newa (atype := .int) (ty := .int) hx hb (hts (.arrayClass .int) (by decide +kernel)) rfl hK.1 hP hD hS hA (n := nI 4) (N' := 4) (a0 := (4, .inl (fun _ => 0))) (fun _ => rfl) (by decide) (by decide) (by decide) (Nat.le_of_ble_eq_true rfl) (Nat.le_of_ble_eq_true rfl) dX3_init_81 (fun q9 cA H hKq hP hD hS => ?_)
  have hc9 : cI = cA := (cA_int hKq).symm
  subst hc9
  clear hKq
  have hP : va_P D vwCl [(h0, .inr (3, [.int 0, .int 0, .int 0, .int 0, .int 0, .int 0, .int 0, .int 0, .int ((-1)), .int ((-1)), .int 0, .int 0, .int 0, .int 0, .ref q1, .ref q2, .int 0, .ref q3, .ref q4, .ref q5, .ref q6, .ref q7, .ref q8, .null])), (q1, .inl (cI, 1120, .inl (fun _ => 0))), (q2, .inl (cI, 70, .inl (fun _ => 0))), (q3, .inl (cI, 32, .inl (fun _ => 0))), (q4, .inl (cI, 32, .inl (fun _ => 0))), (q5, .inl (cI, 160, .inl (fun _ => 0))), (q6, .inl (cI, 7, .inl (fun _ => 0))), (q7, .inl (cI, 7, .inl (fun _ => 0))), (q8, .inl (cI, 4, .inl (fun _ => 0))), (q9, .inl (cI, 4, .inl (fun _ => 0)))] H := hP
  have hD : va_D A [(h0, .inr (3, [.int 0, .int 0, .int 0, .int 0, .int 0, .int 0, .int 0, .int 0, .int ((-1)), .int ((-1)), .int 0, .int 0, .int 0, .int 0, .ref q1, .ref q2, .int 0, .ref q3, .ref q4, .ref q5, .ref q6, .ref q7, .ref q8, .null])), (q1, .inl (cI, 1120, .inl (fun _ => 0))), (q2, .inl (cI, 70, .inl (fun _ => 0))), (q3, .inl (cI, 32, .inl (fun _ => 0))), (q4, .inl (cI, 32, .inl (fun _ => 0))), (q5, .inl (cI, 160, .inl (fun _ => 0))), (q6, .inl (cI, 7, .inl (fun _ => 0))), (q7, .inl (cI, 7, .inl (fun _ => 0))), (q8, .inl (cI, 4, .inl (fun _ => 0))), (q9, .inl (cI, 4, .inl (fun _ => 0)))] := hD
  refine va_putF hx hb hts hi3 tyX3 tyX3_ok nmX3 hown hK.1 hP hD hS 0 rfl rfl 23 (by decide) (hts (.fieldLink RX3 41 "WideningArrayModel" "parity" "[I") (by decide +kernel)) (fun _ h => h) rfl hin rfl (ty := tyX3 23) (v := .ref q9) (tyX3_ok 23 (by decide)) rfl rfl (Nat.le_of_ble_eq_true rfl) dX3_init_83 (fun H locs hP hD hS => ?_)
  have hP : va_P D vwCl [(h0, .inr (3, [.int 0, .int 0, .int 0, .int 0, .int 0, .int 0, .int 0, .int 0, .int ((-1)), .int ((-1)), .int 0, .int 0, .int 0, .int 0, .ref q1, .ref q2, .int 0, .ref q3, .ref q4, .ref q5, .ref q6, .ref q7, .ref q8, .ref q9])), (q1, .inl (cI, 1120, .inl (fun _ => 0))), (q2, .inl (cI, 70, .inl (fun _ => 0))), (q3, .inl (cI, 32, .inl (fun _ => 0))), (q4, .inl (cI, 32, .inl (fun _ => 0))), (q5, .inl (cI, 160, .inl (fun _ => 0))), (q6, .inl (cI, 7, .inl (fun _ => 0))), (q7, .inl (cI, 7, .inl (fun _ => 0))), (q8, .inl (cI, 4, .inl (fun _ => 0))), (q9, .inl (cI, 4, .inl (fun _ => 0)))] H := hP
  have hD : va_D A [(h0, .inr (3, [.int 0, .int 0, .int 0, .int 0, .int 0, .int 0, .int 0, .int 0, .int ((-1)), .int ((-1)), .int 0, .int 0, .int 0, .int 0, .ref q1, .ref q2, .int 0, .ref q3, .ref q4, .ref q5, .ref q6, .ref q7, .ref q8, .ref q9])), (q1, .inl (cI, 1120, .inl (fun _ => 0))), (q2, .inl (cI, 70, .inl (fun _ => 0))), (q3, .inl (cI, 32, .inl (fun _ => 0))), (q4, .inl (cI, 32, .inl (fun _ => 0))), (q5, .inl (cI, 160, .inl (fun _ => 0))), (q6, .inl (cI, 7, .inl (fun _ => 0))), (q7, .inl (cI, 7, .inl (fun _ => 0))), (q8, .inl (cI, 4, .inl (fun _ => 0))), (q9, .inl (cI, 4, .inl (fun _ => 0)))] := hD
  exact W.vret hx hb hr (fun t ht hW => ⟨⟨(fun k => match k with | 0 => h0 | 1 => q1 | 2 => q2 | 3 => q3 | 4 => q4 | 5 => q5 | 6 => q6 | 7 => q7 | 8 => q8 | _ => q9), rfl, rfl, by rw [ht]; exact hP, hAe ▸ hD⟩, hS.F ht⟩) hS.2.2 dX3_init_86
/-- a new array -/
def a0 : AS := (fun _ _ => 0, (false, false), (0, false, 0, false, 0), (-1, -1), (0, 0))
theorem cR_0 : cR v0 a0 := by
  have hz : ∀ k j, k ≠ 0 → v0 k j = 0 := fun k j h => if_neg (fun q => h q.1)
  refine ⟨rfl, rfl, rfl, rfl, rfl, rfl, ?_, ?_, fun h => by cases h⟩
  · intro d hd
    refine ⟨hz _ _ (by omega), Nat.zero_le _, fun j x hx => by cases hx⟩
  · intro d hd i hi
    unfold dc
    split
    · exact hz _ _ (by omega)
    · split <;> exact hz _ _ (by omega)
theorem mR_0 : mR m0 a0 := by
  have hz : ∀ k j, k ≠ 0 → m0 k j = 0 := fun k j h => if_neg (fun q => h q.1)
  refine ⟨⟨rfl, rfl, rfl, rfl, fun t _ _ => hz _ _ (by omega), fun d hd i hi => ?_⟩, rfl, rfl, fun h => absurd rfl h, fun h => by cases h⟩
  unfold mc
  split <;> exact hz _ _ (by omega)
theorem WF_0 : WF 0 a0 := by
  refine ⟨fun q hq => ⟨0, 0, false, 0, false, rfl, Nat.le_refl _, rfl, rfl, rfl, rfl, fun h => absurd rfl h⟩, by decide, fun _ => ⟨rfl, rfl⟩, fun h => absurd (show false = true from h) (by decide), fun h => absurd (show false = true from h) (by decide)⟩
