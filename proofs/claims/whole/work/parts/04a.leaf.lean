set_option maxHeartbeats 4000000 in
set_option maxRecDepth 100000 in
/-- all five are 0 -/
theorem c_X1_empty (l : Launch) (D : va_G) (cI cD : ClassId) (ad : Nat → Nat) (sz : Nat) (V : vT) (k : Nat) (hk : k < 47) (hF : ∀ f, cF cI cD ad k f = cM f) : Met l yX1_empty wsX1_empty ({ frames := 0, cells := 0, slots := 0, locals := 0 }) (gP D cI cD 47 ad (cF cI cD ad) sz V [.ref (ad k)]) (va_Qv (fun (V1 : vT) => (∀ a, a ≠ k → V1 a = V a) ∧ ∀ j, j < 5 → V1 k j = 0) (gB D 47 ad (cF cI cD ad)) (gA 47 ad sz)) 0 0 (gA 47 ad sz) := by
  refine w_met (cc := cX1_empty) (maxL := 1) (ret := none) (by decide) rfl (Nat.le_of_ble_eq_true rfl) ?_
  intro p e s m below meth c hx hb hr hts hown hlocks hml hsz hK hw ls hl
  subst hsz
  have hown : s.vm.findClass RX1 = some m.cls := hown
  have hi1 : ∀ w ∈ wsX10, w ∈ wsX1_empty := by decide +kernel
  have hl : lv_has ls 1 [(0, .ref (ad k))] := hl
  refine lv_aload_n hx hb dX1_empty_0 rfl (lv_at hl 0 rfl) ?_
  refine lv_iconst (v := nI 0) hx hb dX1_empty_1 (by decide) ?_
  refine w_put (ci := 1) (C := RX1) (T := TX1) (M := 5) (x := nI 0) (ty := .int) hx hb hts hi1 tyX1 tyX1_ok nmX1 hown hK hw k (by omega) _ (hF _) rfl 0 (by decide) (hts (.fieldLink RX1 7 "WideningArray$Marks" "number" "I") (by decide +kernel)) rfl (by decide +kernel) rfl rfl (Nat.le_of_ble_eq_true rfl) (hF _) dX1_empty_2 (fun H locs hw => ?_)
  obtain ⟨V_1, hV_1⟩ : ∃ z : vT, z = u2 V k 0 (nI 0) := ⟨_, rfl⟩
  rw [← hV_1] at hw
  refine lv_aload_n hx hb dX1_empty_5 rfl (lv_at hl 0 rfl) ?_
  refine lv_iconst (v := nI 0) hx hb dX1_empty_6 (by decide) ?_
  refine w_put (ci := 1) (C := RX1) (T := TX1) (M := 5) (x := nI 0) (ty := .int) hx hb hts hi1 tyX1 tyX1_ok nmX1 hown hK hw k (by omega) _ (hF _) rfl 1 (by decide) (hts (.fieldLink RX1 13 "WideningArray$Marks" "width" "I") (by decide +kernel)) rfl (by decide +kernel) rfl rfl (Nat.le_of_ble_eq_true rfl) (hF _) dX1_empty_7 (fun H locs hw => ?_)
  obtain ⟨V_2, hV_2⟩ : ∃ z : vT, z = u2 V_1 k 1 (nI 0) := ⟨_, rfl⟩
  rw [← hV_2] at hw
  refine lv_aload_n hx hb dX1_empty_10 rfl (lv_at hl 0 rfl) ?_
  refine lv_iconst (v := nI 0) hx hb dX1_empty_11 (by decide) ?_
  refine w_put (ci := 1) (C := RX1) (T := TX1) (M := 5) (x := nI 0) (ty := .boolean) hx hb hts hi1 tyX1 tyX1_ok nmX1 hown hK hw k (by omega) _ (hF _) rfl 2 (by decide) (hts (.fieldLink RX1 16 "WideningArray$Marks" "widened" "Z") (by decide +kernel)) rfl (by decide +kernel) rfl rfl (Nat.le_of_ble_eq_true rfl) (hF _) dX1_empty_12 (fun H locs hw => ?_)
  obtain ⟨V_3, hV_3⟩ : ∃ z : vT, z = u2 V_2 k 2 (nI 0) := ⟨_, rfl⟩
  rw [← hV_3] at hw
  refine lv_aload_n hx hb dX1_empty_15 rfl (lv_at hl 0 rfl) ?_
  refine lv_iconst (v := nI 0) hx hb dX1_empty_16 (by decide) ?_
  refine w_put (ci := 1) (C := RX1) (T := TX1) (M := 5) (x := nI 0) (ty := .int) hx hb hts hi1 tyX1 tyX1_ok nmX1 hown hK hw k (by omega) _ (hF _) rfl 3 (by decide) (hts (.fieldLink RX1 20 "WideningArray$Marks" "done" "I") (by decide +kernel)) rfl (by decide +kernel) rfl rfl (Nat.le_of_ble_eq_true rfl) (hF _) dX1_empty_17 (fun H locs hw => ?_)
  obtain ⟨V_4, hV_4⟩ : ∃ z : vT, z = u2 V_3 k 3 (nI 0) := ⟨_, rfl⟩
  rw [← hV_4] at hw
  refine lv_aload_n hx hb dX1_empty_20 rfl (lv_at hl 0 rfl) ?_
  refine lv_iconst (v := nI 0) hx hb dX1_empty_21 (by decide) ?_
  refine w_put (ci := 1) (C := RX1) (T := TX1) (M := 5) (x := nI 0) (ty := .boolean) hx hb hts hi1 tyX1 tyX1_ok nmX1 hown hK hw k (by omega) _ (hF _) rfl 4 (by decide) (hts (.fieldLink RX1 23 "WideningArray$Marks" "stashed" "Z") (by decide +kernel)) rfl (by decide +kernel) rfl rfl (Nat.le_of_ble_eq_true rfl) (hF _) dX1_empty_22 (fun H locs hw => ?_)
  obtain ⟨V_5, hV_5⟩ : ∃ z : vT, z = u2 V_4 k 4 (nI 0) := ⟨_, rfl⟩
  rw [← hV_5] at hw
  exact w_vret hx hb hr hlocks hw (⟨fun a ha => by rw [hV_5, u2_r _ _ ha, hV_4, u2_r _ _ ha, hV_3, u2_r _ _ ha, hV_2, u2_r _ _ ha, hV_1, u2_r _ _ ha], fun j hj => by rw [hV_5, hV_4, hV_3, hV_2, hV_1]; rcases (show j = 0 ∨ j = 1 ∨ j = 2 ∨ j = 3 ∨ j = 4 by omega) with rfl | rfl | rfl | rfl | rfl <;> simp [u2, va_up, upd] <;> rfl⟩) dX1_empty_25
set_option maxHeartbeats 4000000 in
set_option maxRecDepth 100000 in
/-- all five are the other one's -/
theorem c_X1_take (l : Launch) (D : va_G) (cI cD : ClassId) (ad : Nat → Nat) (sz : Nat) (V : vT) (k : Nat) (hk : k < 47) (hF : ∀ f, cF cI cD ad k f = cM f) (k2 : Nat) (hk2 : k2 < 47) (hF2 : ∀ f, cF cI cD ad k2 f = cM f) (hz2 : isB (V k2 2)) (hz4 : isB (V k2 4)) : Met l yX1_take wsX1_take ({ frames := 0, cells := 0, slots := 0, locals := 0 }) (gP D cI cD 47 ad (cF cI cD ad) sz V [.ref (ad k), .ref (ad k2)]) (va_Qv (fun (V1 : vT) => (∀ a, a ≠ k → V1 a = V a) ∧ ∀ j, j < 5 → V1 k j = V k2 j) (gB D 47 ad (cF cI cD ad)) (gA 47 ad sz)) 0 0 (gA 47 ad sz) := by
  refine w_met (cc := cX1_take) (maxL := 2) (ret := none) (by decide) rfl (Nat.le_of_ble_eq_true rfl) ?_
  intro p e s m below meth c hx hb hr hts hown hlocks hml hsz hK hw ls hl
  subst hsz
  have hown : s.vm.findClass RX1 = some m.cls := hown
  have hi1 : ∀ w ∈ wsX10, w ∈ wsX1_take := by decide +kernel
  have hl : lv_has ls 2 [(0, .ref (ad k)), (1, .ref (ad k2))] := hl
  refine lv_aload_n hx hb dX1_take_0 rfl (lv_at hl 0 rfl) ?_
  refine lv_aload_n hx hb dX1_take_1 rfl (lv_at hl 1 rfl) ?_
  refine w_get (ci := 1) (C := RX1) (T := TX1) (M := 5) (v := .int (V k2 0)) hx hb hts hi1 hown hK hw k2 (by omega) _ (hF2 _) rfl 0 (by decide) (hts (.fieldLink RX1 7 "WideningArray$Marks" "number" "I") (by decide +kernel)) rfl dX1_take_2 ?_
  refine w_put (ci := 1) (C := RX1) (T := TX1) (M := 5) (x := V k2 0) (ty := .int) hx hb hts hi1 tyX1 tyX1_ok nmX1 hown hK hw k (by omega) _ (hF _) rfl 0 (by decide) (hts (.fieldLink RX1 7 "WideningArray$Marks" "number" "I") (by decide +kernel)) rfl (by decide +kernel) rfl rfl (Nat.le_of_ble_eq_true rfl) (hF _) dX1_take_5 (fun H locs hw => ?_)
  obtain ⟨V_1, hV_1⟩ : ∃ z : vT, z = u2 V k 0 (V k2 0) := ⟨_, rfl⟩
  rw [← hV_1] at hw
  refine lv_aload_n hx hb dX1_take_8 rfl (lv_at hl 0 rfl) ?_
  refine lv_aload_n hx hb dX1_take_9 rfl (lv_at hl 1 rfl) ?_
  refine w_get (ci := 1) (C := RX1) (T := TX1) (M := 5) (v := .int (V_1 k2 1)) hx hb hts hi1 hown hK hw k2 (by omega) _ (hF2 _) rfl 1 (by decide) (hts (.fieldLink RX1 13 "WideningArray$Marks" "width" "I") (by decide +kernel)) rfl dX1_take_10 ?_
  refine n_is (show V_1 k2 1 = V k2 1 from by rw [hV_1, u2_n _ _ (Or.inr (by decide))]) ?_
  refine w_put (ci := 1) (C := RX1) (T := TX1) (M := 5) (x := V k2 1) (ty := .int) hx hb hts hi1 tyX1 tyX1_ok nmX1 hown hK hw k (by omega) _ (hF _) rfl 1 (by decide) (hts (.fieldLink RX1 13 "WideningArray$Marks" "width" "I") (by decide +kernel)) rfl (by decide +kernel) rfl rfl (Nat.le_of_ble_eq_true rfl) (hF _) dX1_take_13 (fun H locs hw => ?_)
  obtain ⟨V_2, hV_2⟩ : ∃ z : vT, z = u2 V_1 k 1 (V k2 1) := ⟨_, rfl⟩
  rw [← hV_2] at hw
  refine lv_aload_n hx hb dX1_take_16 rfl (lv_at hl 0 rfl) ?_
  refine lv_aload_n hx hb dX1_take_17 rfl (lv_at hl 1 rfl) ?_
  refine w_get (ci := 1) (C := RX1) (T := TX1) (M := 5) (v := .int (V_2 k2 2)) hx hb hts hi1 hown hK hw k2 (by omega) _ (hF2 _) rfl 2 (by decide) (hts (.fieldLink RX1 16 "WideningArray$Marks" "widened" "Z") (by decide +kernel)) rfl dX1_take_18 ?_
  refine n_is (show V_2 k2 2 = V k2 2 from by rw [hV_2, u2_n _ _ (Or.inr (by decide)), hV_1, u2_n _ _ (Or.inr (by decide))]) ?_
  refine w_put (ci := 1) (C := RX1) (T := TX1) (M := 5) (x := V k2 2) (ty := .boolean) hx hb hts hi1 tyX1 tyX1_ok nmX1 hown hK hw k (by omega) _ (hF _) rfl 2 (by decide) (hts (.fieldLink RX1 16 "WideningArray$Marks" "widened" "Z") (by decide +kernel)) rfl (by decide +kernel) (isB_nar hz2) (isB_fit hz2) (Nat.le_of_ble_eq_true rfl) (hF _) dX1_take_21 (fun H locs hw => ?_)
  obtain ⟨V_3, hV_3⟩ : ∃ z : vT, z = u2 V_2 k 2 (V k2 2) := ⟨_, rfl⟩
  rw [← hV_3] at hw
  refine lv_aload_n hx hb dX1_take_24 rfl (lv_at hl 0 rfl) ?_
  refine lv_aload_n hx hb dX1_take_25 rfl (lv_at hl 1 rfl) ?_
  refine w_get (ci := 1) (C := RX1) (T := TX1) (M := 5) (v := .int (V_3 k2 3)) hx hb hts hi1 hown hK hw k2 (by omega) _ (hF2 _) rfl 3 (by decide) (hts (.fieldLink RX1 20 "WideningArray$Marks" "done" "I") (by decide +kernel)) rfl dX1_take_26 ?_
  refine n_is (show V_3 k2 3 = V k2 3 from by rw [hV_3, u2_n _ _ (Or.inr (by decide)), hV_2, u2_n _ _ (Or.inr (by decide)), hV_1, u2_n _ _ (Or.inr (by decide))]) ?_
  refine w_put (ci := 1) (C := RX1) (T := TX1) (M := 5) (x := V k2 3) (ty := .int) hx hb hts hi1 tyX1 tyX1_ok nmX1 hown hK hw k (by omega) _ (hF _) rfl 3 (by decide) (hts (.fieldLink RX1 20 "WideningArray$Marks" "done" "I") (by decide +kernel)) rfl (by decide +kernel) rfl rfl (Nat.le_of_ble_eq_true rfl) (hF _) dX1_take_29 (fun H locs hw => ?_)
  obtain ⟨V_4, hV_4⟩ : ∃ z : vT, z = u2 V_3 k 3 (V k2 3) := ⟨_, rfl⟩
  rw [← hV_4] at hw
  refine lv_aload_n hx hb dX1_take_32 rfl (lv_at hl 0 rfl) ?_
  refine lv_aload_n hx hb dX1_take_33 rfl (lv_at hl 1 rfl) ?_
  refine w_get (ci := 1) (C := RX1) (T := TX1) (M := 5) (v := .int (V_4 k2 4)) hx hb hts hi1 hown hK hw k2 (by omega) _ (hF2 _) rfl 4 (by decide) (hts (.fieldLink RX1 23 "WideningArray$Marks" "stashed" "Z") (by decide +kernel)) rfl dX1_take_34 ?_
  refine n_is (show V_4 k2 4 = V k2 4 from by rw [hV_4, u2_n _ _ (Or.inr (by decide)), hV_3, u2_n _ _ (Or.inr (by decide)), hV_2, u2_n _ _ (Or.inr (by decide)), hV_1, u2_n _ _ (Or.inr (by decide))]) ?_
  refine w_put (ci := 1) (C := RX1) (T := TX1) (M := 5) (x := V k2 4) (ty := .boolean) hx hb hts hi1 tyX1 tyX1_ok nmX1 hown hK hw k (by omega) _ (hF _) rfl 4 (by decide) (hts (.fieldLink RX1 23 "WideningArray$Marks" "stashed" "Z") (by decide +kernel)) rfl (by decide +kernel) (isB_nar hz4) (isB_fit hz4) (Nat.le_of_ble_eq_true rfl) (hF _) dX1_take_37 (fun H locs hw => ?_)
  obtain ⟨V_5, hV_5⟩ : ∃ z : vT, z = u2 V_4 k 4 (V k2 4) := ⟨_, rfl⟩
  rw [← hV_5] at hw
  exact w_vret hx hb hr hlocks hw (⟨fun a ha => by rw [hV_5, u2_r _ _ ha, hV_4, u2_r _ _ ha, hV_3, u2_r _ _ ha, hV_2, u2_r _ _ ha, hV_1, u2_r _ _ ha], fun j hj => by rw [hV_5, hV_4, hV_3, hV_2, hV_1]; rcases (show j = 0 ∨ j = 1 ∨ j = 2 ∨ j = 3 ∨ j = 4 by omega) with rfl | rfl | rfl | rfl | rfl <;> simp [u2, va_up, upd]⟩) dX1_take_40
set_option maxHeartbeats 4000000 in
set_option maxRecDepth 100000 in
/-- a word of a row -/
theorem c_X0_word (l : Launch) (D : va_G) (cI cD : ClassId) (ad : Nat → Nat) (sz : Nat) (V : vT) (d : Nat) (hd : d < 6) (row i : Nat) (hrow : row < 40) (hi4 : i < 4) : Met l yX0_word wsX0_word ({ frames := 0, cells := 0, slots := 0, locals := 0 }) (gP D cI cD 47 ad (cF cI cD ad) sz V [.ref (ad (5 + 7 * d)), .int (nI row), .int (nI i)]) (va_Qi (fun (r : Int32) (V1 : vT) => V = V1 ∧ V (6 + 7 * d) (row * 4 + i) = r) (gB D 47 ad (cF cI cD ad)) (gA 47 ad sz)) 0 0 (gA 47 ad sz) := by
  refine w_met (cc := cX0_word) (maxL := 3) (ret := (some .int)) (by decide) rfl (Nat.le_of_ble_eq_true rfl) ?_
  intro p e s m below meth c hx hb hr hts hown hlocks hml hsz hK hw ls hl
  subst hsz
  have hown : s.vm.findClass RX0 = some m.cls := hown
  have hi0 : ∀ w ∈ wsX00, w ∈ wsX0_word := by decide +kernel
  have hl : lv_has ls 3 [(0, .ref (ad (5 + 7 * d))), (1, .int (nI row)), (2, .int (nI i))] := hl
  refine lv_aload_n hx hb dX0_word_0 rfl (lv_at hl 0 rfl) ?_
  refine w_get (ci := 0) (C := RX0) (T := TX0) (M := 7) (v := .ref (ad (6 + 7 * d))) hx hb hts hi0 hown hK hw (5 + 7 * d) (by omega) _ (cF_d0 d _) rfl 0 (by decide) (hts (.fieldLink RX0 9 "WideningArray$Disk" "words" "[I") (by decide +kernel)) rfl dX0_word_1 ?_
  refine lv_iload_n hx hb dX0_word_4 rfl (lv_at hl 1 rfl) ?_
  refine lv_iconst (v := nI 4) hx hb dX0_word_5 (by decide) ?_
  refine n_mul hx hb dX0_word_6 ?_
  refine lv_iload_n hx hb dX0_word_7 rfl (lv_at hl 2 rfl) ?_
  refine n_add hx hb dX0_word_8 ?_
  refine w_iald hx hb hK hw (6 + 7 * d) 160 (by omega) (cF_d1 d) (i := (row * 4) + i) (by omega) (by decide) dX0_word_9 ?_
  exact w_iret hx hb hr hlocks hw (⟨rfl, rfl⟩) dX0_word_10
set_option maxHeartbeats 4000000 in
set_option maxRecDepth 100000 in
/-- a word of a row is another one -/
theorem c_X0_setWord (l : Launch) (D : va_G) (cI cD : ClassId) (ad : Nat → Nat) (sz : Nat) (V : vT) (d : Nat) (hd : d < 6) (row i : Nat) (v : Int32) (hrow : row < 40) (hi4 : i < 4) : Met l yX0_setWord wsX0_setWord ({ frames := 0, cells := 0, slots := 0, locals := 0 }) (gP D cI cD 47 ad (cF cI cD ad) sz V [.ref (ad (5 + 7 * d)), .int (nI row), .int (nI i), .int v]) (va_Qv (fun (V1 : vT) => V1 = u2 V (6 + 7 * d) (row * 4 + i) v) (gB D 47 ad (cF cI cD ad)) (gA 47 ad sz)) 0 0 (gA 47 ad sz) := by
  refine w_met (cc := cX0_setWord) (maxL := 4) (ret := none) (by decide) rfl (Nat.le_of_ble_eq_true rfl) ?_
  intro p e s m below meth c hx hb hr hts hown hlocks hml hsz hK hw ls hl
  subst hsz
  have hown : s.vm.findClass RX0 = some m.cls := hown
  have hi0 : ∀ w ∈ wsX00, w ∈ wsX0_setWord := by decide +kernel
  have hl : lv_has ls 4 [(0, .ref (ad (5 + 7 * d))), (1, .int (nI row)), (2, .int (nI i)), (3, .int v)] := hl
  refine lv_aload_n hx hb dX0_setWord_0 rfl (lv_at hl 0 rfl) ?_
  refine w_get (ci := 0) (C := RX0) (T := TX0) (M := 7) (v := .ref (ad (6 + 7 * d))) hx hb hts hi0 hown hK hw (5 + 7 * d) (by omega) _ (cF_d0 d _) rfl 0 (by decide) (hts (.fieldLink RX0 9 "WideningArray$Disk" "words" "[I") (by decide +kernel)) rfl dX0_setWord_1 ?_
  refine lv_iload_n hx hb dX0_setWord_4 rfl (lv_at hl 1 rfl) ?_
  refine lv_iconst (v := nI 4) hx hb dX0_setWord_5 (by decide) ?_
  refine n_mul hx hb dX0_setWord_6 ?_
  refine lv_iload_n hx hb dX0_setWord_7 rfl (lv_at hl 2 rfl) ?_
  refine n_add hx hb dX0_setWord_8 ?_
  refine lv_iload_n hx hb dX0_setWord_9 rfl (lv_at hl 3 rfl) ?_
  refine w_iast hx hb hK hw (6 + 7 * d) 160 (by omega) (cF_d1 d) (i := (row * 4) + i) (by omega) (by decide) dX0_setWord_10 (fun H locs hw => ?_)
  obtain ⟨V_1, hV_1⟩ : ∃ z : vT, z = u2 V (6 + 7 * d) ((row * 4) + i) v := ⟨_, rfl⟩
  rw [← hV_1] at hw
  exact w_vret hx hb hr hlocks hw (hV_1) dX0_setWord_11
set_option maxHeartbeats 4000000 in
set_option maxRecDepth 100000 in
/-- the odd marks or the even ones -/
theorem c_X0_marksIn (l : Launch) (D : va_G) (cI cD : ClassId) (ad : Nat → Nat) (sz : Nat) (V : vT) (d : Nat) (hd : d < 6) (x : Int32) : Met l yX0_marksIn wsX0_marksIn ({ frames := 0, cells := 0, slots := 0, locals := 0 }) (gP D cI cD 47 ad (cF cI cD ad) sz V [.ref (ad (5 + 7 * d)), .int x]) (va_Qr (fun (u : Nat × vT) => V = u.2 ∧ (if x = nI 1 then 8 + 7 * d else 7 + 7 * d) = u.1) (gBr D 47 ad (cF cI cD ad)) (gA 47 ad sz)) 0 0 (gA 47 ad sz) := by
  refine w_met (cc := cX0_marksIn) (maxL := 2) (ret := (some (.object "WideningArray$Marks"))) (by decide) rfl (Nat.le_of_ble_eq_true rfl) ?_
  intro p e s m below meth c hx hb hr hts hown hlocks hml hsz hK hw ls hl
  subst hsz
  have hown : s.vm.findClass RX0 = some m.cls := hown
  have hi0 : ∀ w ∈ wsX00, w ∈ wsX0_marksIn := by decide +kernel
  have hl : lv_has ls 2 [(0, .ref (ad (5 + 7 * d))), (1, .int x)] := hl
  refine lv_iload_n hx hb dX0_marksIn_0 rfl (lv_at hl 1 rfl) ?_
  refine lv_iconst (v := nI 1) hx hb dX0_marksIn_1 (by decide) ?_
  refine lv_icmp_ne (tgt := 12) hx hb dX0_marksIn_2 (by decide) (fun c_2 => ?_) (fun c_2 => ?_)
  · refine lv_aload_n hx hb dX0_marksIn_12 rfl (lv_at hl 0 rfl) ?_
    refine w_get (ci := 0) (C := RX0) (T := TX0) (M := 7) (v := .ref (ad (7 + 7 * d))) hx hb hts hi0 hown hK hw (5 + 7 * d) (by omega) _ (cF_d0 d _) rfl 1 (by decide) (hts (.fieldLink RX0 18 "WideningArray$Disk" "evenMarks" "LWideningArray$Marks;") (by decide +kernel)) rfl dX0_marksIn_13 ?_
    exact w_aret hx hb hr hlocks hw (⟨rfl, by rw [if_neg c_2]⟩) dX0_marksIn_16
  · refine lv_aload_n hx hb dX0_marksIn_5 rfl (lv_at hl 0 rfl) ?_
    refine w_get (ci := 0) (C := RX0) (T := TX0) (M := 7) (v := .ref (ad (8 + 7 * d))) hx hb hts hi0 hown hK hw (5 + 7 * d) (by omega) _ (cF_d0 d _) rfl 2 (by decide) (hts (.fieldLink RX0 22 "WideningArray$Disk" "oddMarks" "LWideningArray$Marks;") (by decide +kernel)) rfl dX0_marksIn_6 ?_
    refine lv_goto (tgt := 16) hx hb dX0_marksIn_9 (by decide) ?_
    exact w_aret hx hb hr hlocks hw (⟨rfl, by rw [if_pos c_2]⟩) dX0_marksIn_16
