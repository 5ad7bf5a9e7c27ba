set_option maxHeartbeats 4000000 in
set_option maxRecDepth 100000 in
theorem c_X3_thrown (l : Launch) (D : va_G) (cI cD : ClassId) (ad : Nat → Nat) (sz : Nat) (V : vT) (x : Int32) (hx9 : V 0 0 = x) : Met l yX3_thrown wsX3_thrown ({ frames := 0, cells := 0, slots := 0, locals := 0 }) (gP D cI cD 10 ad (mF cI ad) sz V [.ref (ad 0)]) (va_Qi (fun (r : Int32) (V1 : vT) => V = V1 ∧ x = r) (gB D 10 ad (mF cI ad)) (gA 10 ad sz)) 0 0 (gA 10 ad sz) := by
  refine w_met (cc := cX3_thrown) (maxL := 1) (ret := (some .int)) (by decide) rfl (Nat.le_of_ble_eq_true rfl) ?_
  intro p e s m below meth c hx hb hr hts hown hlocks hml hsz hK hw ls hl
  subst hsz
  have hown : s.vm.findClass RX3 = some m.cls := hown
  have hi3 : ∀ w ∈ wsX30, w ∈ wsX3_thrown := by decide +kernel
  have hl : lv_has ls 1 [(0, .ref (ad 0))] := hl
  refine lv_aload_n hx hb dX3_thrown_0 rfl (lv_at hl 0 rfl) ?_
  refine w_get (ci := 3) (C := RX3) (T := TX3) (M := 24) (v := .int x) hx hb hts hi3 hown hK hw 0 (by omega) _ (mF_0 _) rfl 0 (by decide) (hts (.fieldLink RX3 44 "WideningArrayModel" "thrown" "I") (by decide +kernel)) (congrArg (fun z => some (Value.int z)) (show V 0 0 = x from hx9)) dX3_thrown_1 ?_
  exact w_iret hx hb hr hlocks hw (⟨rfl, rfl⟩) dX3_thrown_4
set_option maxHeartbeats 4000000 in
set_option maxRecDepth 100000 in
theorem c_X3_fail (l : Launch) (D : va_G) (cI cD : ClassId) (ad : Nat → Nat) (sz : Nat) (V : vT) (x : Int32) : Met l yX3_fail wsX3_fail ({ frames := 0, cells := 0, slots := 0, locals := 0 }) (gP D cI cD 10 ad (mF cI ad) sz V [.ref (ad 0), .int x]) (va_Qi (fun (r : Int32) (V1 : vT) => V1 = u2 V 0 0 x ∧ nI 0 = r) (gB D 10 ad (mF cI ad)) (gA 10 ad sz)) 0 0 (gA 10 ad sz) := by
  refine w_met (cc := cX3_fail) (maxL := 2) (ret := (some .int)) (by decide) rfl (Nat.le_of_ble_eq_true rfl) ?_
  intro p e s m below meth c hx hb hr hts hown hlocks hml hsz hK hw ls hl
  subst hsz
  have hown : s.vm.findClass RX3 = some m.cls := hown
  have hi3 : ∀ w ∈ wsX30, w ∈ wsX3_fail := by decide +kernel
  have hl : lv_has ls 2 [(0, .ref (ad 0)), (1, .int x)] := hl
  refine lv_aload_n hx hb dX3_fail_0 rfl (lv_at hl 0 rfl) ?_
  refine lv_iload_n hx hb dX3_fail_1 rfl (lv_at hl 1 rfl) ?_
  refine w_put (ci := 3) (C := RX3) (T := TX3) (M := 24) (x := x) (ty := .int) hx hb hts hi3 tyX3 tyX3_ok nmX3 hown hK hw 0 (by omega) _ (mF_0 _) rfl 0 (by decide) (hts (.fieldLink RX3 44 "WideningArrayModel" "thrown" "I") (by decide +kernel)) rfl (by decide +kernel) rfl rfl (Nat.le_of_ble_eq_true rfl) (mF_0 _) dX3_fail_2 (fun H locs hw => ?_)
  obtain ⟨V_1, hV_1⟩ : ∃ z : vT, z = u2 V 0 0 x := ⟨_, rfl⟩
  rw [← hV_1] at hw
  refine lv_iconst (v := nI 0) hx hb dX3_fail_5 (by decide) ?_
  exact w_iret hx hb hr hlocks hw (⟨hV_1, rfl⟩) dX3_fail_6
set_option maxHeartbeats 4000000 in
set_option maxRecDepth 100000 in
theorem c_X3_within (l : Launch) (D : va_G) (cI cD : ClassId) (ad : Nat → Nat) (sz : Nat) (V : vT) (x lo hi : Int32) : Met l yX3_within wsX3_within ({ frames := 0, cells := 0, slots := 0, locals := 0 }) (gP D cI cD 10 ad (mF cI ad) sz V [.int x, .int lo, .int hi]) (va_Qi (fun (r : Int32) (V1 : vT) => V = V1 ∧ bI (decide (lo ≤ x ∧ x ≤ hi)) = r) (gB D 10 ad (mF cI ad)) (gA 10 ad sz)) 0 0 (gA 10 ad sz) := by
  refine w_met (cc := cX3_within) (maxL := 3) (ret := (some .boolean)) (by decide) rfl (Nat.le_of_ble_eq_true rfl) ?_
  intro p e s m below meth c hx hb hr hts hown hlocks hml hsz hK hw ls hl
  subst hsz
  have hown : s.vm.findClass RX3 = some m.cls := hown
  have hl : lv_has ls 3 [(0, .int x), (1, .int lo), (2, .int hi)] := hl
  refine lv_iload_n hx hb dX3_within_0 rfl (lv_at hl 0 rfl) ?_
  refine lv_iload_n hx hb dX3_within_1 rfl (lv_at hl 1 rfl) ?_
  refine lv_icmp_lt (tgt := 14) hx hb dX3_within_2 (by decide) (fun c_2 => ?_) (fun c_2 => ?_)
  · refine lv_iconst (v := nI 0) hx hb dX3_within_14 (by decide) ?_
    exact w_zret hx hb hr hlocks hw rfl (⟨rfl, by rw [decide_eq_false (fun h => by first | exact absurd c_2 (Int32.not_lt.mpr h.1) | exact absurd c_7 (Int32.not_lt.mpr h.2))]; rfl⟩) dX3_within_15
  · refine lv_iload_n hx hb dX3_within_5 rfl (lv_at hl 0 rfl) ?_
    refine lv_iload_n hx hb dX3_within_6 rfl (lv_at hl 2 rfl) ?_
    refine lv_icmp_gt (tgt := 14) hx hb dX3_within_7 (by decide) (fun c_7 => ?_) (fun c_7 => ?_)
    · refine lv_iconst (v := nI 0) hx hb dX3_within_14 (by decide) ?_
      exact w_zret hx hb hr hlocks hw rfl (⟨rfl, by rw [decide_eq_false (fun h => by first | exact absurd c_2 (Int32.not_lt.mpr h.1) | exact absurd c_7 (Int32.not_lt.mpr h.2))]; rfl⟩) dX3_within_15
    · refine lv_iconst (v := nI 1) hx hb dX3_within_10 (by decide) ?_
      refine lv_goto (tgt := 15) hx hb dX3_within_11 (by decide) ?_
      exact w_zret hx hb hr hlocks hw rfl (⟨rfl, by rw [decide_eq_true ⟨Int32.not_lt.mp c_2, Int32.not_lt.mp c_7⟩]; rfl⟩) dX3_within_15
set_option maxHeartbeats 4000000 in
set_option maxRecDepth 100000 in
theorem c_X3_works (l : Launch) (D : va_G) (cI cD : ClassId) (ad : Nat → Nat) (sz : Nat) (V : vT) (md : Bool) (hmd : V 0 1 = bI md) (fd : Bool) (hfd : V 0 2 = bI fd) : Met l yX3_works wsX3_works ({ frames := 0, cells := 0, slots := 0, locals := 0 }) (gP D cI cD 10 ad (mF cI ad) sz V [.ref (ad 0)]) (va_Qi (fun (r : Int32) (V1 : vT) => V1 = u2 V 0 0 (nI (if md = true ∧ fd = false then 0 else 1)) ∧ bI (decide (md = true ∧ fd = false)) = r) (gB D 10 ad (mF cI ad)) (gA 10 ad sz)) 0 0 (gA 10 ad sz) := by
  refine w_met (cc := cX3_works) (maxL := 1) (ret := (some .boolean)) (by decide) rfl (Nat.le_of_ble_eq_true rfl) ?_
  intro p e s m below meth c hx hb hr hts hown hlocks hml hsz hK hw ls hl
  subst hsz
  have hown : s.vm.findClass RX3 = some m.cls := hown
  have hi3 : ∀ w ∈ wsX30, w ∈ wsX3_works := by decide +kernel
  have hl : lv_has ls 1 [(0, .ref (ad 0))] := hl
  refine lv_aload_n hx hb dX3_works_0 rfl (lv_at hl 0 rfl) ?_
  refine lv_aload_n hx hb dX3_works_1 rfl (lv_at hl 0 rfl) ?_
  refine w_get (ci := 3) (C := RX3) (T := TX3) (M := 24) (v := .int (bI md)) hx hb hts hi3 hown hK hw 0 (by omega) _ (mF_0 _) rfl 1 (by decide) (hts (.fieldLink RX3 47 "WideningArrayModel" "isThere" "Z") (by decide +kernel)) (congrArg (fun z => some (Value.int z)) (show V 0 1 = bI md from hmd)) dX3_works_2 ?_
  refine lv_if_eq (tgt := 19) hx hb dX3_works_5 (by decide) (fun c_5 => ?_) (fun c_5 => ?_)
  · refine lv_iconst (v := nI 1) hx hb dX3_works_19 (by decide) ?_
    refine w_put (ci := 3) (C := RX3) (T := TX3) (M := 24) (x := nI 1) (ty := .int) hx hb hts hi3 tyX3 tyX3_ok nmX3 hown hK hw 0 (by omega) _ (mF_0 _) rfl 0 (by decide) (hts (.fieldLink RX3 44 "WideningArrayModel" "thrown" "I") (by decide +kernel)) rfl (by decide +kernel) rfl rfl (Nat.le_of_ble_eq_true rfl) (mF_0 _) dX3_works_20 (fun H locs hw => ?_)
    obtain ⟨V_1, hV_1⟩ : ∃ z : vT, z = u2 V 0 0 (nI 1) := ⟨_, rfl⟩
    rw [← hV_1] at hw
    refine lv_aload_n hx hb dX3_works_23 rfl (lv_at hl 0 rfl) ?_
    refine w_get (ci := 3) (C := RX3) (T := TX3) (M := 24) (v := .int (nI 1)) hx hb hts hi3 hown hK hw 0 (by omega) _ (mF_0 _) rfl 0 (by decide) (hts (.fieldLink RX3 44 "WideningArrayModel" "thrown" "I") (by decide +kernel)) (congrArg (fun z => some (Value.int z)) (show V_1 0 0 = nI 1 from by rw [hV_1, u2_s])) dX3_works_24 ?_
    refine lv_if_ne (tgt := 34) hx hb dX3_works_27 (by decide) (fun c_27 => ?_) (fun c_27 => ?_)
    · have hno : ¬ (md = true ∧ fd = false) := fun h => by first | exact absurd (bI_0.mp c_5) (by rw [h.1]; decide) | exact absurd (bI_n0.mp c_12) (by rw [h.2]; decide)
      refine lv_iconst (v := nI 0) hx hb dX3_works_34 (by decide) ?_
      exact w_zret hx hb hr hlocks hw rfl (⟨by rw [hV_1, if_neg hno], by rw [decide_eq_false hno]; rfl⟩) dX3_works_35
    · exact absurd c_27 (by decide)
  · refine lv_aload_n hx hb dX3_works_8 rfl (lv_at hl 0 rfl) ?_
    refine w_get (ci := 3) (C := RX3) (T := TX3) (M := 24) (v := .int (bI fd)) hx hb hts hi3 hown hK hw 0 (by omega) _ (mF_0 _) rfl 2 (by decide) (hts (.fieldLink RX3 51 "WideningArrayModel" "hasFailed" "Z") (by decide +kernel)) (congrArg (fun z => some (Value.int z)) (show V 0 2 = bI fd from hfd)) dX3_works_9 ?_
    refine lv_if_ne (tgt := 19) hx hb dX3_works_12 (by decide) (fun c_12 => ?_) (fun c_12 => ?_)
    · refine lv_iconst (v := nI 1) hx hb dX3_works_19 (by decide) ?_
      refine w_put (ci := 3) (C := RX3) (T := TX3) (M := 24) (x := nI 1) (ty := .int) hx hb hts hi3 tyX3 tyX3_ok nmX3 hown hK hw 0 (by omega) _ (mF_0 _) rfl 0 (by decide) (hts (.fieldLink RX3 44 "WideningArrayModel" "thrown" "I") (by decide +kernel)) rfl (by decide +kernel) rfl rfl (Nat.le_of_ble_eq_true rfl) (mF_0 _) dX3_works_20 (fun H locs hw => ?_)
      obtain ⟨V_2, hV_2⟩ : ∃ z : vT, z = u2 V 0 0 (nI 1) := ⟨_, rfl⟩
      rw [← hV_2] at hw
      refine lv_aload_n hx hb dX3_works_23 rfl (lv_at hl 0 rfl) ?_
      refine w_get (ci := 3) (C := RX3) (T := TX3) (M := 24) (v := .int (nI 1)) hx hb hts hi3 hown hK hw 0 (by omega) _ (mF_0 _) rfl 0 (by decide) (hts (.fieldLink RX3 44 "WideningArrayModel" "thrown" "I") (by decide +kernel)) (congrArg (fun z => some (Value.int z)) (show V_2 0 0 = nI 1 from by rw [hV_2, u2_s])) dX3_works_24 ?_
      refine lv_if_ne (tgt := 34) hx hb dX3_works_27 (by decide) (fun c_27 => ?_) (fun c_27 => ?_)
      · have hno : ¬ (md = true ∧ fd = false) := fun h => by first | exact absurd (bI_0.mp c_5) (by rw [h.1]; decide) | exact absurd (bI_n0.mp c_12) (by rw [h.2]; decide)
        refine lv_iconst (v := nI 0) hx hb dX3_works_34 (by decide) ?_
        exact w_zret hx hb hr hlocks hw rfl (⟨by rw [hV_2, if_neg hno], by rw [decide_eq_false hno]; rfl⟩) dX3_works_35
      · exact absurd c_27 (by decide)
    · refine lv_iconst (v := nI 0) hx hb dX3_works_15 (by decide) ?_
      refine lv_goto (tgt := 20) hx hb dX3_works_16 (by decide) ?_
      refine w_put (ci := 3) (C := RX3) (T := TX3) (M := 24) (x := nI 0) (ty := .int) hx hb hts hi3 tyX3 tyX3_ok nmX3 hown hK hw 0 (by omega) _ (mF_0 _) rfl 0 (by decide) (hts (.fieldLink RX3 44 "WideningArrayModel" "thrown" "I") (by decide +kernel)) rfl (by decide +kernel) rfl rfl (Nat.le_of_ble_eq_true rfl) (mF_0 _) dX3_works_20 (fun H locs hw => ?_)
      obtain ⟨V_3, hV_3⟩ : ∃ z : vT, z = u2 V 0 0 (nI 0) := ⟨_, rfl⟩
      rw [← hV_3] at hw
      refine lv_aload_n hx hb dX3_works_23 rfl (lv_at hl 0 rfl) ?_
      refine w_get (ci := 3) (C := RX3) (T := TX3) (M := 24) (v := .int (nI 0)) hx hb hts hi3 hown hK hw 0 (by omega) _ (mF_0 _) rfl 0 (by decide) (hts (.fieldLink RX3 44 "WideningArrayModel" "thrown" "I") (by decide +kernel)) (congrArg (fun z => some (Value.int z)) (show V_3 0 0 = nI 0 from by rw [hV_3, u2_s])) dX3_works_24 ?_
      refine lv_if_ne (tgt := 34) hx hb dX3_works_27 (by decide) (fun c_27 => ?_) (fun c_27 => ?_)
      · exact absurd c_27 (by decide)
      · refine lv_iconst (v := nI 1) hx hb dX3_works_30 (by decide) ?_
        refine lv_goto (tgt := 35) hx hb dX3_works_31 (by decide) ?_
        exact w_zret hx hb hr hlocks hw rfl (⟨by rw [hV_3, if_pos ⟨bI_n0.mp c_5, bI_0.mp c_12⟩], by rw [decide_eq_true ⟨bI_n0.mp c_5, bI_0.mp c_12⟩]; rfl⟩) dX3_works_35
set_option maxHeartbeats 4000000 in
set_option maxRecDepth 100000 in
theorem c_X3_disks (l : Launch) (D : va_G) (cI cD : ClassId) (ad : Nat → Nat) (sz : Nat) (V : vT) (n : Nat) (hn : V 0 3 = nI n) (wide : Bool) (hwd : V 0 6 = bI wide) : Met l yX3_disks wsX3_disks ({ frames := 0, cells := 0, slots := 0, locals := 0 }) (gP D cI cD 10 ad (mF cI ad) sz V [.ref (ad 0)]) (va_Qi (fun (r : Int32) (V1 : vT) => V = V1 ∧ nI (kw n wide) = r) (gB D 10 ad (mF cI ad)) (gA 10 ad sz)) 0 0 (gA 10 ad sz) := by
  refine w_met (cc := cX3_disks) (maxL := 1) (ret := (some .int)) (by decide) rfl (Nat.le_of_ble_eq_true rfl) ?_
  intro p e s m below meth c hx hb hr hts hown hlocks hml hsz hK hw ls hl
  subst hsz
  have hown : s.vm.findClass RX3 = some m.cls := hown
  have hi3 : ∀ w ∈ wsX30, w ∈ wsX3_disks := by decide +kernel
  have hl : lv_has ls 1 [(0, .ref (ad 0))] := hl
  refine lv_aload_n hx hb dX3_disks_0 rfl (lv_at hl 0 rfl) ?_
  refine w_get (ci := 3) (C := RX3) (T := TX3) (M := 24) (v := .int (bI wide)) hx hb hts hi3 hown hK hw 0 (by omega) _ (mF_0 _) rfl 6 (by decide) (hts (.fieldLink RX3 54 "WideningArrayModel" "isWide" "Z") (by decide +kernel)) (congrArg (fun z => some (Value.int z)) (show V 0 6 = bI wide from hwd)) dX3_disks_1 ?_
  refine lv_if_eq (tgt := 16) hx hb dX3_disks_4 (by decide) (fun c_4 => ?_) (fun c_4 => ?_)
  · have e1 := bI_0.mp c_4
    refine lv_aload_n hx hb dX3_disks_16 rfl (lv_at hl 0 rfl) ?_
    refine w_get (ci := 3) (C := RX3) (T := TX3) (M := 24) (v := .int (nI n)) hx hb hts hi3 hown hK hw 0 (by omega) _ (mF_0 _) rfl 3 (by decide) (hts (.fieldLink RX3 57 "WideningArrayModel" "n" "I") (by decide +kernel)) (congrArg (fun z => some (Value.int z)) (show V 0 3 = nI n from hn)) dX3_disks_17 ?_
    exact w_iret hx hb hr hlocks hw (⟨rfl, by rw [e1]; rfl⟩) dX3_disks_20
  · have e1 := bI_n0.mp c_4
    refine lv_aload_n hx hb dX3_disks_7 rfl (lv_at hl 0 rfl) ?_
    refine w_get (ci := 3) (C := RX3) (T := TX3) (M := 24) (v := .int (nI n)) hx hb hts hi3 hown hK hw 0 (by omega) _ (mF_0 _) rfl 3 (by decide) (hts (.fieldLink RX3 57 "WideningArrayModel" "n" "I") (by decide +kernel)) (congrArg (fun z => some (Value.int z)) (show V 0 3 = nI n from hn)) dX3_disks_8 ?_
    refine lv_iconst (v := nI 1) hx hb dX3_disks_11 (by decide) ?_
    refine n_add hx hb dX3_disks_12 ?_
    refine lv_goto (tgt := 20) hx hb dX3_disks_13 (by decide) ?_
    exact w_iret hx hb hr hlocks hw (⟨rfl, by rw [e1]; rfl⟩) dX3_disks_20
set_option maxHeartbeats 4000000 in
set_option maxRecDepth 100000 in
theorem c_X3_capacity (l : Launch) (D : va_G) (cI cD : ClassId) (ad : Nat → Nat) (sz : Nat) (V : vT) (n : Nat) (hn : V 0 3 = nI n) (h1 : 1 ≤ n) : Met l yX3_capacity wsX3_capacity ({ frames := 0, cells := 0, slots := 0, locals := 0 }) (gP D cI cD 10 ad (mF cI ad) sz V [.ref (ad 0)]) (va_Qi (fun (r : Int32) (V1 : vT) => V = V1 ∧ nI (32 * (n - 1)) = r) (gB D 10 ad (mF cI ad)) (gA 10 ad sz)) 0 0 (gA 10 ad sz) := by
  refine w_met (cc := cX3_capacity) (maxL := 1) (ret := (some .int)) (by decide) rfl (Nat.le_of_ble_eq_true rfl) ?_
  intro p e s m below meth c hx hb hr hts hown hlocks hml hsz hK hw ls hl
  subst hsz
  have hown : s.vm.findClass RX3 = some m.cls := hown
  have hi3 : ∀ w ∈ wsX30, w ∈ wsX3_capacity := by decide +kernel
  have hl : lv_has ls 1 [(0, .ref (ad 0))] := hl
  refine lv_bipush (v := nI 32) hx hb dX3_capacity_0 (by decide) ?_
  refine lv_aload_n hx hb dX3_capacity_2 rfl (lv_at hl 0 rfl) ?_
  refine w_get (ci := 3) (C := RX3) (T := TX3) (M := 24) (v := .int (nI n)) hx hb hts hi3 hown hK hw 0 (by omega) _ (mF_0 _) rfl 3 (by decide) (hts (.fieldLink RX3 57 "WideningArrayModel" "n" "I") (by decide +kernel)) (congrArg (fun z => some (Value.int z)) (show V 0 3 = nI n from hn)) dX3_capacity_3 ?_
  refine lv_iconst (v := nI 1) hx hb dX3_capacity_6 (by decide) ?_
  refine n_sub hx hb dX3_capacity_7 (by omega) ?_
  refine n_mul hx hb dX3_capacity_8 ?_
  exact w_iret hx hb hr hlocks hw (⟨rfl, rfl⟩) dX3_capacity_9
set_option maxHeartbeats 4000000 in
set_option maxRecDepth 100000 in
theorem c_X3_isOut (l : Launch) (D : va_G) (cI cD : ClassId) (ad : Nat → Nat) (sz : Nat) (V : vT) (d : Nat) (hd : d < 10) (hlf : V 0 8 = -1 ∨ V 0 9 = -1) : Met l yX3_isOut wsX3_isOut ({ frames := 0, cells := 0, slots := 0, locals := 0 }) (gP D cI cD 10 ad (mF cI ad) sz V [.ref (ad 0), .int (nI d)]) (va_Qi (fun (r : Int32) (V1 : vT) => V = V1 ∧ bI (decide (nI d = ab (V 0 8) (V 0 9))) = r) (gB D 10 ad (mF cI ad)) (gA 10 ad sz)) 0 0 (gA 10 ad sz) := by
  refine w_met (cc := cX3_isOut) (maxL := 2) (ret := (some .boolean)) (by decide) rfl (Nat.le_of_ble_eq_true rfl) ?_
  intro p e s m below meth c hx hb hr hts hown hlocks hml hsz hK hw ls hl
  subst hsz
  have hown : s.vm.findClass RX3 = some m.cls := hown
  have hi3 : ∀ w ∈ wsX30, w ∈ wsX3_isOut := by decide +kernel
  have hl : lv_has ls 2 [(0, .ref (ad 0)), (1, .int (nI d))] := hl
  refine lv_iload_n hx hb dX3_isOut_0 rfl (lv_at hl 1 rfl) ?_
  refine lv_aload_n hx hb dX3_isOut_1 rfl (lv_at hl 0 rfl) ?_
  refine w_get (ci := 3) (C := RX3) (T := TX3) (M := 24) (v := .int (V 0 8)) hx hb hts hi3 hown hK hw 0 (by omega) _ (mF_0 _) rfl 8 (by decide) (hts (.fieldLink RX3 7 "WideningArrayModel" "lost" "I") (by decide +kernel)) rfl dX3_isOut_2 ?_
  refine lv_icmp_eq (tgt := 16) hx hb dX3_isOut_5 (by decide) (fun c_5 => ?_) (fun c_5 => ?_)
  · refine lv_iconst (v := nI 1) hx hb dX3_isOut_16 (by decide) ?_
    refine lv_goto (tgt := 21) hx hb dX3_isOut_17 (by decide) ?_
    exact w_zret hx hb hr hlocks hw rfl (⟨rfl, by rw [decide_eq_true ((out_iff hlf (by omega)).mp (by first | exact Or.inl c_5 | exact Or.inr c_13))]; rfl⟩) dX3_isOut_21
  · refine lv_iload_n hx hb dX3_isOut_8 rfl (lv_at hl 1 rfl) ?_
    refine lv_aload_n hx hb dX3_isOut_9 rfl (lv_at hl 0 rfl) ?_
    refine w_get (ci := 3) (C := RX3) (T := TX3) (M := 24) (v := .int (V 0 9)) hx hb hts hi3 hown hK hw 0 (by omega) _ (mF_0 _) rfl 9 (by decide) (hts (.fieldLink RX3 13 "WideningArrayModel" "fresh" "I") (by decide +kernel)) rfl dX3_isOut_10 ?_
    refine lv_icmp_ne (tgt := 20) hx hb dX3_isOut_13 (by decide) (fun c_13 => ?_) (fun c_13 => ?_)
    · refine lv_iconst (v := nI 0) hx hb dX3_isOut_20 (by decide) ?_
      exact w_zret hx hb hr hlocks hw rfl (⟨rfl, by rw [decide_eq_false (fun h => ((out_iff hlf (by omega)).mpr h).elim c_5 c_13)]; rfl⟩) dX3_isOut_21
    · refine lv_iconst (v := nI 1) hx hb dX3_isOut_16 (by decide) ?_
      refine lv_goto (tgt := 21) hx hb dX3_isOut_17 (by decide) ?_
      exact w_zret hx hb hr hlocks hw rfl (⟨rfl, by rw [decide_eq_true ((out_iff hlf (by omega)).mp (by first | exact Or.inl c_5 | exact Or.inr c_13))]; rfl⟩) dX3_isOut_21
theorem ho_y {lost fresh : Int32} (h8 : lost = -1 ∨ ∃ d, d < 10 ∧ lost = nI d) (h : 0 ≤ lost ∨ ¬ fresh < 0) : decide (¬ ab lost fresh = -1) = true := by
  refine decide_eq_true ?_
  unfold ab
  by_cases q : lost = -1
  · rw [if_pos q]
    intro z
    rcases h with h | h
    · rw [q] at h; exact absurd h (by decide)
    · rw [z] at h; exact absurd (by decide) h
  · rw [if_neg q]; exact q
theorem ho_n {lost fresh : Int32} (h8 : lost = -1 ∨ ∃ d, d < 10 ∧ lost = nI d) (h9 : fresh = -1 ∨ ∃ d, d < 10 ∧ fresh = nI d) (c1 : ¬ 0 ≤ lost) (c2 : fresh < 0) : decide (¬ ab lost fresh = -1) = false := by
  have q1 : lost = -1 := h8.elim id (fun ⟨d, hd, e⟩ => absurd (nI_pos' (n := d) (by omega)) (by rw [← e]; exact c1))
  have q2 : fresh = -1 := h9.elim id (fun ⟨d, hd, e⟩ => absurd c2 (by rw [e]; exact nI_pos (by omega)))
  rw [q1, q2]
  rfl
set_option maxHeartbeats 4000000 in
set_option maxRecDepth 100000 in
theorem c_X3_hasOut (l : Launch) (D : va_G) (cI cD : ClassId) (ad : Nat → Nat) (sz : Nat) (V : vT) (h8 : V 0 8 = -1 ∨ ∃ d, d < 10 ∧ V 0 8 = nI d) (h9 : V 0 9 = -1 ∨ ∃ d, d < 10 ∧ V 0 9 = nI d) : Met l yX3_hasOut wsX3_hasOut ({ frames := 0, cells := 0, slots := 0, locals := 0 }) (gP D cI cD 10 ad (mF cI ad) sz V [.ref (ad 0)]) (va_Qi (fun (r : Int32) (V1 : vT) => V = V1 ∧ bI (decide (¬ ab (V 0 8) (V 0 9) = -1)) = r) (gB D 10 ad (mF cI ad)) (gA 10 ad sz)) 0 0 (gA 10 ad sz) := by
  refine w_met (cc := cX3_hasOut) (maxL := 1) (ret := (some .boolean)) (by decide) rfl (Nat.le_of_ble_eq_true rfl) ?_
  intro p e s m below meth c hx hb hr hts hown hlocks hml hsz hK hw ls hl
  subst hsz
  have hown : s.vm.findClass RX3 = some m.cls := hown
  have hi3 : ∀ w ∈ wsX30, w ∈ wsX3_hasOut := by decide +kernel
  have hl : lv_has ls 1 [(0, .ref (ad 0))] := hl
  refine lv_aload_n hx hb dX3_hasOut_0 rfl (lv_at hl 0 rfl) ?_
  refine w_get (ci := 3) (C := RX3) (T := TX3) (M := 24) (v := .int (V 0 8)) hx hb hts hi3 hown hK hw 0 (by omega) _ (mF_0 _) rfl 8 (by decide) (hts (.fieldLink RX3 7 "WideningArrayModel" "lost" "I") (by decide +kernel)) rfl dX3_hasOut_1 ?_
  refine lv_if_ge (tgt := 14) hx hb dX3_hasOut_4 (by decide) (fun c_4 => ?_) (fun c_4 => ?_)
  · refine lv_iconst (v := nI 1) hx hb dX3_hasOut_14 (by decide) ?_
    refine lv_goto (tgt := 19) hx hb dX3_hasOut_15 (by decide) ?_
    exact w_zret hx hb hr hlocks hw rfl (⟨rfl, by rw [ho_y h8 (Or.inl c_4)]; rfl⟩) dX3_hasOut_19
  · refine lv_aload_n hx hb dX3_hasOut_7 rfl (lv_at hl 0 rfl) ?_
    refine w_get (ci := 3) (C := RX3) (T := TX3) (M := 24) (v := .int (V 0 9)) hx hb hts hi3 hown hK hw 0 (by omega) _ (mF_0 _) rfl 9 (by decide) (hts (.fieldLink RX3 13 "WideningArrayModel" "fresh" "I") (by decide +kernel)) rfl dX3_hasOut_8 ?_
    refine lv_if_lt (tgt := 18) hx hb dX3_hasOut_11 (by decide) (fun c_11 => ?_) (fun c_11 => ?_)
    · refine lv_iconst (v := nI 0) hx hb dX3_hasOut_18 (by decide) ?_
      exact w_zret hx hb hr hlocks hw rfl (⟨rfl, by rw [ho_n h8 h9 c_4 c_11]; rfl⟩) dX3_hasOut_19
    · refine lv_iconst (v := nI 1) hx hb dX3_hasOut_14 (by decide) ?_
      refine lv_goto (tgt := 19) hx hb dX3_hasOut_15 (by decide) ?_
      exact w_zret hx hb hr hlocks hw rfl (⟨rfl, by rw [ho_y h8 (Or.inr c_11)]; rfl⟩) dX3_hasOut_19
set_option maxHeartbeats 4000000 in
set_option maxRecDepth 100000 in
theorem c_X3_parityDisk (l : Launch) (D : va_G) (cI cD : ClassId) (ad : Nat → Nat) (sz : Nat) (V : vT) (k row : Nat) (hk : 0 < k) (hk6 : k ≤ 6) (hrow : row < 40) : Met l yX3_parityDisk wsX3_parityDisk ({ frames := 0, cells := 0, slots := 0, locals := 0 }) (gP D cI cD 10 ad (mF cI ad) sz V [.int (nI k), .int (nI row)]) (va_Qi (fun (r : Int32) (V1 : vT) => V = V1 ∧ nI (pd k row) = r) (gB D 10 ad (mF cI ad)) (gA 10 ad sz)) 0 0 (gA 10 ad sz) := by
  refine w_met (cc := cX3_parityDisk) (maxL := 2) (ret := (some .int)) (by decide) rfl (Nat.le_of_ble_eq_true rfl) ?_
  intro p e s m below meth c hx hb hr hts hown hlocks hml hsz hK hw ls hl
  subst hsz
  have hown : s.vm.findClass RX3 = some m.cls := hown
  have hl : lv_has ls 2 [(0, .int (nI k)), (1, .int (nI row))] := hl
  refine lv_iload_n hx hb dX3_parityDisk_0 rfl (lv_at hl 0 rfl) ?_
  refine lv_iconst (v := nI 1) hx hb dX3_parityDisk_1 (by decide) ?_
  refine n_sub hx hb dX3_parityDisk_2 (by omega) ?_
  refine lv_iload_n hx hb dX3_parityDisk_3 rfl (lv_at hl 1 rfl) ?_
  refine lv_isub hx hb dX3_parityDisk_4 ?_
  refine lv_iload_n hx hb dX3_parityDisk_5 rfl (lv_at hl 0 rfl) ?_
  refine lv_irem hx hb dX3_parityDisk_6 (nI_ne0 hk (by omega)) ?_
  refine lv_iload_n hx hb dX3_parityDisk_7 rfl (lv_at hl 0 rfl) ?_
  refine lv_iadd hx hb dX3_parityDisk_8 ?_
  refine lv_iload_n hx hb dX3_parityDisk_9 rfl (lv_at hl 0 rfl) ?_
  refine lv_irem hx hb dX3_parityDisk_10 (nI_ne0 hk (by omega)) ?_
  exact w_iret hx hb hr hlocks hw (⟨rfl, (pdI hk hk6 hrow).symm⟩) dX3_parityDisk_11
set_option maxHeartbeats 4000000 in
set_option maxRecDepth 100000 in
theorem c_X3_dataDisk (l : Launch) (D : va_G) (cI cD : ClassId) (ad : Nat → Nat) (sz : Nat) (V : vT) (k row j : Nat) (hk : 0 < k) (hk6 : k ≤ 6) (hrow : row < 40) (hj : j < 6) : Met l yX3_dataDisk wsX3_dataDisk ({ frames := 1, cells := 0, slots := 0, locals := 21 }) (gP D cI cD 10 ad (mF cI ad) sz V [.int (nI k), .int (nI row), .int (nI j)]) (va_Qi (fun (r : Int32) (V1 : vT) => V = V1 ∧ nI (dd k row j) = r) (gB D 10 ad (mF cI ad)) (gA 10 ad sz)) 0 0 (gA 10 ad sz) := by
  refine w_met (cc := cX3_dataDisk) (maxL := 3) (ret := (some .int)) (by decide) rfl (Nat.le_of_ble_eq_true rfl) ?_
  intro p e s m below meth c hx hb hr hts hown hlocks hml hsz hK hw ls hl
  subst hsz
  have hown : s.vm.findClass RX3 = some m.cls := hown
  have hl : lv_has ls 3 [(0, .int (nI k)), (1, .int (nI row)), (2, .int (nI j))] := hl
  refine lv_iload_n hx hb dX3_dataDisk_0 rfl (lv_at hl 0 rfl) ?_
  refine lv_iload_n hx hb dX3_dataDisk_1 rfl (lv_at hl 1 rfl) ?_
  refine w_calli hw (va_runS (As := [.int (nI k), .int (nI row)]) (rest := []) ⟨hx, hb, hml, hown, hts⟩ (c_X3_parityDisk l D cI cD ad _ V k row (by omega) (by omega) (by omega)) (va_cwS 2 hts gX3_dataDisk_X3_parityDisk rfl rfl rfl (by decide +kernel) ⟨Nat.le_of_ble_eq_true rfl, Nat.le_of_ble_eq_true rfl⟩) (w_preS hK hw _) rfl rfl hl.1 rfl (lv_room (Nat.le_of_ble_eq_true rfl)) dX3_dataDisk_2 ⟨Nat.le_of_ble_eq_true rfl, Nat.le_of_ble_eq_true rfl⟩) (fun r_2 V_1 H locs hp hw => ?_)
  obtain ⟨e9, e8⟩ := hp
  subst e9
  subst e8
  refine lv_iconst (v := nI 1) hx hb dX3_dataDisk_5 (by decide) ?_
  refine n_add hx hb dX3_dataDisk_6 ?_
  refine lv_iload_n hx hb dX3_dataDisk_7 rfl (lv_at hl 2 rfl) ?_
  refine n_add hx hb dX3_dataDisk_8 ?_
  refine lv_iload_n hx hb dX3_dataDisk_9 rfl (lv_at hl 0 rfl) ?_
  refine n_rem hx hb dX3_dataDisk_10 (by have := pd_lt (row := row) hk; omega) (by omega) (by omega) ?_
  exact w_iret hx hb hr hlocks hw (⟨rfl, rfl⟩) dX3_dataDisk_11
set_option maxHeartbeats 4000000 in
set_option maxRecDepth 100000 in
theorem c_X3_widthOf (l : Launch) (D : va_G) (cI cD : ClassId) (ad : Nat → Nat) (sz : Nat) (V : vT) (n : Nat) (hn : V 0 3 = nI n) (wide : Bool) (hwd : V 0 6 = bI wide) (dn : Nat) (hdn : V 0 4 = nI dn) (hd32 : dn < 32) (row : Nat) (hrow : row < 40) : Met l yX3_widthOf wsX3_widthOf ({ frames := 0, cells := 0, slots := 0, locals := 0 }) (gP D cI cD 10 ad (mF cI ad) sz V [.ref (ad 0), .int (nI row)]) (va_Qi (fun (r : Int32) (V1 : vT) => V = V1 ∧ nI (wor n wide dn row) = r) (gB D 10 ad (mF cI ad)) (gA 10 ad sz)) 0 0 (gA 10 ad sz) := by
  refine w_met (cc := cX3_widthOf) (maxL := 2) (ret := (some .int)) (by decide) rfl (Nat.le_of_ble_eq_true rfl) ?_
  intro p e s m below meth c hx hb hr hts hown hlocks hml hsz hK hw ls hl
  subst hsz
  have hown : s.vm.findClass RX3 = some m.cls := hown
  have hi3 : ∀ w ∈ wsX30, w ∈ wsX3_widthOf := by decide +kernel
  have hl : lv_has ls 2 [(0, .ref (ad 0)), (1, .int (nI row))] := hl
  refine lv_aload_n hx hb dX3_widthOf_0 rfl (lv_at hl 0 rfl) ?_
  refine w_get (ci := 3) (C := RX3) (T := TX3) (M := 24) (v := .int (bI wide)) hx hb hts hi3 hown hK hw 0 (by omega) _ (mF_0 _) rfl 6 (by decide) (hts (.fieldLink RX3 54 "WideningArrayModel" "isWide" "Z") (by decide +kernel)) (congrArg (fun z => some (Value.int z)) (show V 0 6 = bI wide from hwd)) dX3_widthOf_1 ?_
  refine lv_if_eq (tgt := 24) hx hb dX3_widthOf_4 (by decide) (fun c_4 => ?_) (fun c_4 => ?_)
  · have e1 := bI_0.mp c_4
    refine lv_aload_n hx hb dX3_widthOf_24 rfl (lv_at hl 0 rfl) ?_
    refine w_get (ci := 3) (C := RX3) (T := TX3) (M := 24) (v := .int (nI n)) hx hb hts hi3 hown hK hw 0 (by omega) _ (mF_0 _) rfl 3 (by decide) (hts (.fieldLink RX3 57 "WideningArrayModel" "n" "I") (by decide +kernel)) (congrArg (fun z => some (Value.int z)) (show V 0 3 = nI n from hn)) dX3_widthOf_25 ?_
    exact w_iret hx hb hr hlocks hw (⟨rfl, by rw [wor, if_neg (fun h => by first | (have h1 := h.1; rw [e1] at h1; exact absurd h1 (by decide)) | (have h2 := h.2; omega))]⟩) dX3_widthOf_28
  · have e1 := bI_n0.mp c_4
    refine lv_iload_n hx hb dX3_widthOf_7 rfl (lv_at hl 1 rfl) ?_
    refine lv_aload_n hx hb dX3_widthOf_8 rfl (lv_at hl 0 rfl) ?_
    refine w_get (ci := 3) (C := RX3) (T := TX3) (M := 24) (v := .int (nI dn)) hx hb hts hi3 hown hK hw 0 (by omega) _ (mF_0 _) rfl 4 (by decide) (hts (.fieldLink RX3 64 "WideningArrayModel" "done" "I") (by decide +kernel)) (congrArg (fun z => some (Value.int z)) (show V 0 4 = nI dn from hdn)) dX3_widthOf_9 ?_
    refine n_icmp_ge (tgt := 24) hx hb dX3_widthOf_12 (by decide) (by omega) (by omega) (fun c_12 => ?_) (fun c_12 => ?_)
    · refine lv_aload_n hx hb dX3_widthOf_24 rfl (lv_at hl 0 rfl) ?_
      refine w_get (ci := 3) (C := RX3) (T := TX3) (M := 24) (v := .int (nI n)) hx hb hts hi3 hown hK hw 0 (by omega) _ (mF_0 _) rfl 3 (by decide) (hts (.fieldLink RX3 57 "WideningArrayModel" "n" "I") (by decide +kernel)) (congrArg (fun z => some (Value.int z)) (show V 0 3 = nI n from hn)) dX3_widthOf_25 ?_
      exact w_iret hx hb hr hlocks hw (⟨rfl, by rw [wor, if_neg (fun h => by first | (have h1 := h.1; rw [e1] at h1; exact absurd h1 (by decide)) | (have h2 := h.2; omega))]⟩) dX3_widthOf_28
    · refine lv_aload_n hx hb dX3_widthOf_15 rfl (lv_at hl 0 rfl) ?_
      refine w_get (ci := 3) (C := RX3) (T := TX3) (M := 24) (v := .int (nI n)) hx hb hts hi3 hown hK hw 0 (by omega) _ (mF_0 _) rfl 3 (by decide) (hts (.fieldLink RX3 57 "WideningArrayModel" "n" "I") (by decide +kernel)) (congrArg (fun z => some (Value.int z)) (show V 0 3 = nI n from hn)) dX3_widthOf_16 ?_
      refine lv_iconst (v := nI 1) hx hb dX3_widthOf_19 (by decide) ?_
      refine n_add hx hb dX3_widthOf_20 ?_
      refine lv_goto (tgt := 28) hx hb dX3_widthOf_21 (by decide) ?_
      exact w_iret hx hb hr hlocks hw (⟨rfl, by rw [wor, if_pos ⟨e1, by omega⟩]⟩) dX3_widthOf_28
theorem plc2_iff {n : Nat} {wide : Bool} {dn : Nat} {st : Bool} {b : Nat} (hsw : st = true → wide = true) : plc n wide dn st b = 2 ↔ st = true ∧ dn * n ≤ b ∧ b < dn * n + n := by
  constructor
  · intro h
    have h2 := plc2 h
    refine ⟨?_, h2.2⟩
    unfold plc at h
    rw [if_neg (by rw [h2.1]; decide), if_neg (by omega)] at h
    by_cases q : st = true ∧ b < dn * n + n
    · exact q.1
    · rw [if_neg q] at h; omega
  · rintro ⟨h1, h2, h3⟩
    unfold plc
    rw [if_neg (by rw [hsw h1]; decide), if_neg (by omega), if_pos ⟨h1, h3⟩]
theorem plc1_iff {n : Nat} {wide : Bool} {dn : Nat} {st : Bool} {b : Nat} : plc n wide dn st b = 1 ↔ wide = true ∧ b < dn * n := by
  constructor
  · exact plc1
  · rintro ⟨h1, h2⟩
    unfold plc
    rw [if_neg (by rw [h1]; decide), if_pos h2]
set_option maxHeartbeats 4000000 in
set_option maxRecDepth 100000 in
theorem c_X3_isInWindow (l : Launch) (D : va_G) (cI cD : ClassId) (ad : Nat → Nat) (sz : Nat) (V : vT) (n : Nat) (hn : V 0 3 = nI n) (dn : Nat) (hdn : V 0 4 = nI dn) (st : Bool) (hst : V 0 7 = bI st) (hn3 : 3 ≤ n) (hn6 : n ≤ 6) (hd32 : dn < 32) (wide : Bool) (hsw : st = true → wide = true) (b : Nat) (hb31 : b < 1000) : Met l yX3_isInWindow wsX3_isInWindow ({ frames := 1, cells := 0, slots := 0, locals := 22 }) (gP D cI cD 10 ad (mF cI ad) sz V [.ref (ad 0), .int (nI b)]) (va_Qi (fun (r : Int32) (V1 : vT) => V = V1 ∧ bI (decide (plc n wide dn st b = 2)) = r) (gB D 10 ad (mF cI ad)) (gA 10 ad sz)) 0 0 (gA 10 ad sz) := by
  refine w_met (cc := cX3_isInWindow) (maxL := 2) (ret := (some .boolean)) (by decide) rfl (Nat.le_of_ble_eq_true rfl) ?_
  intro p e s m below meth c hx hb hr hts hown hlocks hml hsz hK hw ls hl
  subst hsz
  have hown : s.vm.findClass RX3 = some m.cls := hown
  have hi3 : ∀ w ∈ wsX30, w ∈ wsX3_isInWindow := by decide +kernel
  have hl : lv_has ls 2 [(0, .ref (ad 0)), (1, .int (nI b))] := hl
  have hbn : dn * n ≤ 192 := Nat.le_trans (Nat.mul_le_mul (show dn ≤ 32 by omega) hn6) (by decide)
  refine lv_aload_n hx hb dX3_isInWindow_0 rfl (lv_at hl 0 rfl) ?_
  refine w_get (ci := 3) (C := RX3) (T := TX3) (M := 24) (v := .int (bI st)) hx hb hts hi3 hown hK hw 0 (by omega) _ (mF_0 _) rfl 7 (by decide) (hts (.fieldLink RX3 67 "WideningArrayModel" "isStashed" "Z") (by decide +kernel)) (congrArg (fun z => some (Value.int z)) (show V 0 7 = bI st from hst)) dX3_isInWindow_1 ?_
  refine lv_if_eq (tgt := 43) hx hb dX3_isInWindow_4 (by decide) (fun c_4 => ?_) (fun c_4 => ?_)
  · have e1 := bI_0.mp c_4
    refine lv_iconst (v := nI 0) hx hb dX3_isInWindow_43 (by decide) ?_
    exact w_zret hx hb hr hlocks hw rfl (⟨rfl, by rw [decide_eq_false (fun h => by have h2 := (plc2_iff hsw).mp h; first | exact e2 ⟨h2.2.1, by omega⟩ | (have h3 := h2.1; rw [e1] at h3; exact absurd h3 (by decide)))]; rfl⟩) dX3_isInWindow_44
  · have e1 := bI_n0.mp c_4
    refine lv_iload_n hx hb dX3_isInWindow_7 rfl (lv_at hl 1 rfl) ?_
    refine lv_aload_n hx hb dX3_isInWindow_8 rfl (lv_at hl 0 rfl) ?_
    refine w_get (ci := 3) (C := RX3) (T := TX3) (M := 24) (v := .int (nI dn)) hx hb hts hi3 hown hK hw 0 (by omega) _ (mF_0 _) rfl 4 (by decide) (hts (.fieldLink RX3 64 "WideningArrayModel" "done" "I") (by decide +kernel)) (congrArg (fun z => some (Value.int z)) (show V 0 4 = nI dn from hdn)) dX3_isInWindow_9 ?_
    refine lv_aload_n hx hb dX3_isInWindow_12 rfl (lv_at hl 0 rfl) ?_
    refine w_get (ci := 3) (C := RX3) (T := TX3) (M := 24) (v := .int (nI n)) hx hb hts hi3 hown hK hw 0 (by omega) _ (mF_0 _) rfl 3 (by decide) (hts (.fieldLink RX3 57 "WideningArrayModel" "n" "I") (by decide +kernel)) (congrArg (fun z => some (Value.int z)) (show V 0 3 = nI n from hn)) dX3_isInWindow_13 ?_
    refine n_mul hx hb dX3_isInWindow_16 ?_
    refine lv_aload_n hx hb dX3_isInWindow_17 rfl (lv_at hl 0 rfl) ?_
    refine w_get (ci := 3) (C := RX3) (T := TX3) (M := 24) (v := .int (nI dn)) hx hb hts hi3 hown hK hw 0 (by omega) _ (mF_0 _) rfl 4 (by decide) (hts (.fieldLink RX3 64 "WideningArrayModel" "done" "I") (by decide +kernel)) (congrArg (fun z => some (Value.int z)) (show V 0 4 = nI dn from hdn)) dX3_isInWindow_18 ?_
    refine lv_aload_n hx hb dX3_isInWindow_21 rfl (lv_at hl 0 rfl) ?_
    refine w_get (ci := 3) (C := RX3) (T := TX3) (M := 24) (v := .int (nI n)) hx hb hts hi3 hown hK hw 0 (by omega) _ (mF_0 _) rfl 3 (by decide) (hts (.fieldLink RX3 57 "WideningArrayModel" "n" "I") (by decide +kernel)) (congrArg (fun z => some (Value.int z)) (show V 0 3 = nI n from hn)) dX3_isInWindow_22 ?_
    refine n_mul hx hb dX3_isInWindow_25 ?_
    refine lv_aload_n hx hb dX3_isInWindow_26 rfl (lv_at hl 0 rfl) ?_
    refine w_get (ci := 3) (C := RX3) (T := TX3) (M := 24) (v := .int (nI n)) hx hb hts hi3 hown hK hw 0 (by omega) _ (mF_0 _) rfl 3 (by decide) (hts (.fieldLink RX3 57 "WideningArrayModel" "n" "I") (by decide +kernel)) (congrArg (fun z => some (Value.int z)) (show V 0 3 = nI n from hn)) dX3_isInWindow_27 ?_
    refine n_add hx hb dX3_isInWindow_30 ?_
    refine lv_iconst (v := nI 1) hx hb dX3_isInWindow_31 (by decide) ?_
    refine n_sub hx hb dX3_isInWindow_32 (by omega) ?_
    refine w_calli hw (va_runS (As := [.int (nI b), .int (nI (dn * n)), .int (nI (((dn * n) + n) - 1))]) (rest := []) ⟨hx, hb, hml, hown, hts⟩ (c_X3_within l D cI cD ad _ V (nI b) (nI (dn * n)) (nI (((dn * n) + n) - 1))) (va_cwS 3 hts gX3_isInWindow_X3_within rfl rfl rfl (by decide +kernel) ⟨Nat.le_of_ble_eq_true rfl, Nat.le_of_ble_eq_true rfl⟩) (w_preS hK hw _) rfl rfl hl.1 rfl (lv_room (Nat.le_of_ble_eq_true rfl)) dX3_isInWindow_33 ⟨Nat.le_of_ble_eq_true rfl, Nat.le_of_ble_eq_true rfl⟩) (fun r_2 V_1 H locs hp hw => ?_)
    obtain ⟨e9, e8⟩ := hp
    subst e9
    subst e8
    refine lv_if_eq (tgt := 43) hx hb dX3_isInWindow_36 (by decide) (fun c_36 => ?_) (fun c_36 => ?_)
    · have e2 : ¬ (dn * n ≤ b ∧ b ≤ dn * n + n - 1) := fun h => of_decide_eq_false (bI_0.mp c_36) ⟨(nI_leI (by omega) (by omega)).mpr h.1, (nI_leI (by omega) (by omega)).mpr h.2⟩
      refine lv_iconst (v := nI 0) hx hb dX3_isInWindow_43 (by decide) ?_
      exact w_zret hx hb hr hlocks hw rfl (⟨rfl, by rw [decide_eq_false (fun h => by have h2 := (plc2_iff hsw).mp h; first | exact e2 ⟨h2.2.1, by omega⟩ | (have h3 := h2.1; rw [e1] at h3; exact absurd h3 (by decide)))]; rfl⟩) dX3_isInWindow_44
    · have e2 : dn * n ≤ b ∧ b ≤ dn * n + n - 1 := ⟨(nI_leI (by omega) (by omega)).mp (of_decide_eq_true (bI_n0.mp c_36)).1, (nI_leI (by omega) (by omega)).mp (of_decide_eq_true (bI_n0.mp c_36)).2⟩
      refine lv_iconst (v := nI 1) hx hb dX3_isInWindow_39 (by decide) ?_
      refine lv_goto (tgt := 44) hx hb dX3_isInWindow_40 (by decide) ?_
      exact w_zret hx hb hr hlocks hw rfl (⟨rfl, by rw [decide_eq_true ((plc2_iff hsw).mpr ⟨e1, e2.1, by omega⟩)]; rfl⟩) dX3_isInWindow_44
set_option maxHeartbeats 4000000 in
set_option maxRecDepth 100000 in
theorem c_X3_isNew (l : Launch) (D : va_G) (cI cD : ClassId) (ad : Nat → Nat) (sz : Nat) (V : vT) (n : Nat) (hn : V 0 3 = nI n) (dn : Nat) (hdn : V 0 4 = nI dn) (wide : Bool) (hwd : V 0 6 = bI wide) (hn3 : 3 ≤ n) (hn6 : n ≤ 6) (hd32 : dn < 32) (st : Bool) (b : Nat) (hb31 : b < 1000) : Met l yX3_isNew wsX3_isNew ({ frames := 0, cells := 0, slots := 0, locals := 0 }) (gP D cI cD 10 ad (mF cI ad) sz V [.ref (ad 0), .int (nI b)]) (va_Qi (fun (r : Int32) (V1 : vT) => V = V1 ∧ bI (decide (plc n wide dn st b = 1)) = r) (gB D 10 ad (mF cI ad)) (gA 10 ad sz)) 0 0 (gA 10 ad sz) := by
  refine w_met (cc := cX3_isNew) (maxL := 2) (ret := (some .boolean)) (by decide) rfl (Nat.le_of_ble_eq_true rfl) ?_
  intro p e s m below meth c hx hb hr hts hown hlocks hml hsz hK hw ls hl
  subst hsz
  have hown : s.vm.findClass RX3 = some m.cls := hown
  have hi3 : ∀ w ∈ wsX30, w ∈ wsX3_isNew := by decide +kernel
  have hl : lv_has ls 2 [(0, .ref (ad 0)), (1, .int (nI b))] := hl
  have hbn : dn * n ≤ 192 := Nat.le_trans (Nat.mul_le_mul (show dn ≤ 32 by omega) hn6) (by decide)
  refine lv_aload_n hx hb dX3_isNew_0 rfl (lv_at hl 0 rfl) ?_
  refine w_get (ci := 3) (C := RX3) (T := TX3) (M := 24) (v := .int (bI wide)) hx hb hts hi3 hown hK hw 0 (by omega) _ (mF_0 _) rfl 6 (by decide) (hts (.fieldLink RX3 54 "WideningArrayModel" "isWide" "Z") (by decide +kernel)) (congrArg (fun z => some (Value.int z)) (show V 0 6 = bI wide from hwd)) dX3_isNew_1 ?_
  refine lv_if_eq (tgt := 24) hx hb dX3_isNew_4 (by decide) (fun c_4 => ?_) (fun c_4 => ?_)
  · have e1 := bI_0.mp c_4
    refine lv_iconst (v := nI 0) hx hb dX3_isNew_24 (by decide) ?_
    exact w_zret hx hb hr hlocks hw rfl (⟨rfl, by rw [decide_eq_false (fun h => by have h2 := plc1_iff.mp h; first | (have h3 := h2.2; omega) | (have h3 := h2.1; rw [e1] at h3; exact absurd h3 (by decide)))]; rfl⟩) dX3_isNew_25
  · have e1 := bI_n0.mp c_4
    refine lv_iload_n hx hb dX3_isNew_7 rfl (lv_at hl 1 rfl) ?_
    refine lv_aload_n hx hb dX3_isNew_8 rfl (lv_at hl 0 rfl) ?_
    refine w_get (ci := 3) (C := RX3) (T := TX3) (M := 24) (v := .int (nI dn)) hx hb hts hi3 hown hK hw 0 (by omega) _ (mF_0 _) rfl 4 (by decide) (hts (.fieldLink RX3 64 "WideningArrayModel" "done" "I") (by decide +kernel)) (congrArg (fun z => some (Value.int z)) (show V 0 4 = nI dn from hdn)) dX3_isNew_9 ?_
    refine lv_aload_n hx hb dX3_isNew_12 rfl (lv_at hl 0 rfl) ?_
    refine w_get (ci := 3) (C := RX3) (T := TX3) (M := 24) (v := .int (nI n)) hx hb hts hi3 hown hK hw 0 (by omega) _ (mF_0 _) rfl 3 (by decide) (hts (.fieldLink RX3 57 "WideningArrayModel" "n" "I") (by decide +kernel)) (congrArg (fun z => some (Value.int z)) (show V 0 3 = nI n from hn)) dX3_isNew_13 ?_
    refine n_mul hx hb dX3_isNew_16 ?_
    refine n_icmp_ge (tgt := 24) hx hb dX3_isNew_17 (by decide) (by omega) (by omega) (fun c_17 => ?_) (fun c_17 => ?_)
    · refine lv_iconst (v := nI 0) hx hb dX3_isNew_24 (by decide) ?_
      exact w_zret hx hb hr hlocks hw rfl (⟨rfl, by rw [decide_eq_false (fun h => by have h2 := plc1_iff.mp h; first | (have h3 := h2.2; omega) | (have h3 := h2.1; rw [e1] at h3; exact absurd h3 (by decide)))]; rfl⟩) dX3_isNew_25
    · refine lv_iconst (v := nI 1) hx hb dX3_isNew_20 (by decide) ?_
      refine lv_goto (tgt := 25) hx hb dX3_isNew_21 (by decide) ?_
      exact w_zret hx hb hr hlocks hw rfl (⟨rfl, by rw [decide_eq_true (plc1_iff.mpr ⟨e1, by omega⟩)]; rfl⟩) dX3_isNew_25
set_option maxHeartbeats 4000000 in
set_option maxRecDepth 100000 in
theorem c_X3_at (l : Launch) (D : va_G) (cI cD : ClassId) (ad : Nat → Nat) (sz : Nat) (V : vT) (d row i : Nat) : Met l yX3_at wsX3_at ({ frames := 0, cells := 0, slots := 0, locals := 0 }) (gP D cI cD 10 ad (mF cI ad) sz V [.int (nI d), .int (nI row), .int (nI i)]) (va_Qi (fun (r : Int32) (V1 : vT) => V = V1 ∧ nI (160 * d + 4 * row + i) = r) (gB D 10 ad (mF cI ad)) (gA 10 ad sz)) 0 0 (gA 10 ad sz) := by
  refine w_met (cc := cX3_at) (maxL := 3) (ret := (some .int)) (by decide) rfl (Nat.le_of_ble_eq_true rfl) ?_
  intro p e s m below meth c hx hb hr hts hown hlocks hml hsz hK hw ls hl
  subst hsz
  have hown : s.vm.findClass RX3 = some m.cls := hown
  have hl : lv_has ls 3 [(0, .int (nI d)), (1, .int (nI row)), (2, .int (nI i))] := hl
  refine lv_sipush (v := nI 160) hx hb dX3_at_0 (by decide) ?_
  refine lv_iload_n hx hb dX3_at_3 rfl (lv_at hl 0 rfl) ?_
  refine n_mul hx hb dX3_at_4 ?_
  refine lv_iconst (v := nI 4) hx hb dX3_at_5 (by decide) ?_
  refine lv_iload_n hx hb dX3_at_6 rfl (lv_at hl 1 rfl) ?_
  refine n_mul hx hb dX3_at_7 ?_
  refine n_add hx hb dX3_at_8 ?_
  refine lv_iload_n hx hb dX3_at_9 rfl (lv_at hl 2 rfl) ?_
  refine n_add hx hb dX3_at_10 ?_
  exact w_iret hx hb hr hlocks hw (⟨rfl, rfl⟩) dX3_at_11
set_option maxHeartbeats 4000000 in
set_option maxRecDepth 100000 in
theorem c_X3_begin (l : Launch) (D : va_G) (cI cD : ClassId) (ad : Nat → Nat) (sz : Nat) (V : vT)  : Met l yX3_begin wsX3_begin ({ frames := 0, cells := 0, slots := 0, locals := 0 }) (gP D cI cD 10 ad (mF cI ad) sz V [.ref (ad 0)]) (va_Qv (fun (V1 : vT) => (∀ a, a ≠ 0 → V1 a = V a) ∧ (∀ j, j ≠ 13 → j ≠ 16 → V1 0 j = V 0 j) ∧ V1 0 13 = nI 0 ∧ V1 0 16 = nI 0) (gB D 10 ad (mF cI ad)) (gA 10 ad sz)) 0 0 (gA 10 ad sz) := by
  refine w_met (cc := cX3_begin) (maxL := 1) (ret := none) (by decide) rfl (Nat.le_of_ble_eq_true rfl) ?_
  intro p e s m below meth c hx hb hr hts hown hlocks hml hsz hK hw ls hl
  subst hsz
  have hown : s.vm.findClass RX3 = some m.cls := hown
  have hi3 : ∀ w ∈ wsX30, w ∈ wsX3_begin := by decide +kernel
  have hl : lv_has ls 1 [(0, .ref (ad 0))] := hl
  refine lv_aload_n hx hb dX3_begin_0 rfl (lv_at hl 0 rfl) ?_
  refine lv_iconst (v := nI 0) hx hb dX3_begin_1 (by decide) ?_
  refine w_put (ci := 3) (C := RX3) (T := TX3) (M := 24) (x := nI 0) (ty := .int) hx hb hts hi3 tyX3 tyX3_ok nmX3 hown hK hw 0 (by omega) _ (mF_0 _) rfl 13 (by decide) (hts (.fieldLink RX3 109 "WideningArrayModel" "points" "I") (by decide +kernel)) rfl (by decide +kernel) rfl rfl (Nat.le_of_ble_eq_true rfl) (mF_0 _) dX3_begin_2 (fun H locs hw => ?_)
  obtain ⟨V_1, hV_1⟩ : ∃ z : vT, z = u2 V 0 13 (nI 0) := ⟨_, rfl⟩
  rw [← hV_1] at hw
  refine lv_aload_n hx hb dX3_begin_5 rfl (lv_at hl 0 rfl) ?_
  refine lv_iconst (v := nI 0) hx hb dX3_begin_6 (by decide) ?_
  refine w_put (ci := 3) (C := RX3) (T := TX3) (M := 24) (x := nI 0) (ty := .int) hx hb hts hi3 tyX3 tyX3_ok nmX3 hown hK hw 0 (by omega) _ (mF_0 _) rfl 16 (by decide) (hts (.fieldLink RX3 99 "WideningArrayModel" "waiting" "I") (by decide +kernel)) rfl (by decide +kernel) rfl rfl (Nat.le_of_ble_eq_true rfl) (mF_0 _) dX3_begin_7 (fun H locs hw => ?_)
  obtain ⟨V_2, hV_2⟩ : ∃ z : vT, z = u2 V_1 0 16 (nI 0) := ⟨_, rfl⟩
  rw [← hV_2] at hw
  exact w_vret hx hb hr hlocks hw (⟨fun a ha => by rw [hV_2, u2_r _ _ ha, hV_1, u2_r _ _ ha], fun j h1 h2 => by rw [hV_2, u2_n _ _ (Or.inr h2), hV_1, u2_n _ _ (Or.inr h1)], by rw [hV_2, u2_n _ _ (Or.inr (by decide)), hV_1, u2_s], by rw [hV_2, u2_s]⟩) dX3_begin_10
set_option maxHeartbeats 4000000 in
set_option maxRecDepth 100000 in
theorem c_X3_isWord (l : Launch) (D : va_G) (cI cD : ClassId) (ad : Nat → Nat) (sz : Nat) (V : vT) (n : Nat) (hn : V 0 3 = nI n) (hn3 : 3 ≤ n) (hn6 : n ≤ 6) (b i : Int32) : Met l yX3_isWord wsX3_isWord ({ frames := 1, cells := 0, slots := 0, locals := 22 }) (gP D cI cD 10 ad (mF cI ad) sz V [.ref (ad 0), .int b, .int i]) (va_Qi (fun (r : Int32) (V1 : vT) => V = V1 ∧ bI (decide (¬ (b < 0 ∨ nI (32 * (n - 1)) ≤ b ∨ i < 0 ∨ ¬ i < nI 4))) = r) (gB D 10 ad (mF cI ad)) (gA 10 ad sz)) 0 0 (gA 10 ad sz) := by
  refine w_met (cc := cX3_isWord) (maxL := 3) (ret := (some .boolean)) (by decide) rfl (Nat.le_of_ble_eq_true rfl) ?_
  intro p e s m below meth c hx hb hr hts hown hlocks hml hsz hK hw ls hl
  subst hsz
  have hown : s.vm.findClass RX3 = some m.cls := hown
  have hl : lv_has ls 3 [(0, .ref (ad 0)), (1, .int b), (2, .int i)] := hl
  refine lv_iload_n hx hb dX3_isWord_0 rfl (lv_at hl 1 rfl) ?_
  refine lv_iconst (v := nI 0) hx hb dX3_isWord_1 (by decide) ?_
  refine lv_aload_n hx hb dX3_isWord_2 rfl (lv_at hl 0 rfl) ?_
  refine w_calli hw (va_runV (As := []) (rest := [.int (nI 0), .int b]) ⟨hx, hb, hml, hown, hts⟩ (c_X3_capacity l D cI cD ad _ V n (show V 0 3 = nI n from hn) (by omega)) (cwV 0 hts gX3_isWord_X3_capacity rfl rfl rfl (by decide +kernel) ⟨Nat.le_of_ble_eq_true rfl, Nat.le_of_ble_eq_true rfl⟩) (w_preV hK hw (by omega) (mF_0 _) rfl _) rfl rfl hl.1 rfl (lv_room (Nat.le_of_ble_eq_true rfl)) dX3_isWord_3 ⟨Nat.le_of_ble_eq_true rfl, Nat.le_of_ble_eq_true rfl⟩) (fun r_2 V_1 H locs hp hw => ?_)
  obtain ⟨e9, e8⟩ := hp
  subst e9
  subst e8
  refine lv_iconst (v := nI 1) hx hb dX3_isWord_6 (by decide) ?_
  refine n_sub hx hb dX3_isWord_7 (by omega) ?_
  refine w_calli hw (va_runS (As := [.int b, .int (nI 0), .int (nI ((32 * (n - 1)) - 1))]) (rest := []) ⟨hx, hb, hml, hown, hts⟩ (c_X3_within l D cI cD ad _ V b (nI 0) (nI ((32 * (n - 1)) - 1))) (va_cwS 3 hts gX3_isWord_X3_within rfl rfl rfl (by decide +kernel) ⟨Nat.le_of_ble_eq_true rfl, Nat.le_of_ble_eq_true rfl⟩) (w_preS hK hw _) rfl rfl hl.1 rfl (lv_room (Nat.le_of_ble_eq_true rfl)) dX3_isWord_8 ⟨Nat.le_of_ble_eq_true rfl, Nat.le_of_ble_eq_true rfl⟩) (fun r_4 V_3 H locs hp hw => ?_)
  obtain ⟨e9, e8⟩ := hp
  subst e9
  subst e8
  refine lv_if_eq (tgt := 27) hx hb dX3_isWord_11 (by decide) (fun c_11 => ?_) (fun c_11 => ?_)
  · refine lv_iconst (v := nI 0) hx hb dX3_isWord_27 (by decide) ?_
    exact w_zret hx hb hr hlocks hw rfl (⟨rfl, by rw [decide_eq_false (fun h => by first | exact of_decide_eq_false (bI_0.mp c_11) ⟨Int32.not_lt.mp (fun z => h (Or.inl z)), (nI_le_pred (by omega) (by omega)).mpr (fun z => h (Or.inr (Or.inl z)))⟩ | exact of_decide_eq_false (bI_0.mp c_20) ⟨Int32.not_lt.mp (fun z => h (Or.inr (Or.inr (Or.inl z)))), (nI_le_pred (L := 4) (by decide) (by decide)).mpr (fun z => h (Or.inr (Or.inr (Or.inr (Int32.not_lt.mpr z)))))⟩)]; rfl⟩) dX3_isWord_28
  · refine lv_iload_n hx hb dX3_isWord_14 rfl (lv_at hl 2 rfl) ?_
    refine lv_iconst (v := nI 0) hx hb dX3_isWord_15 (by decide) ?_
    refine lv_iconst (v := nI 3) hx hb dX3_isWord_16 (by decide) ?_
    refine w_calli hw (va_runS (As := [.int i, .int (nI 0), .int (nI 3)]) (rest := []) ⟨hx, hb, hml, hown, hts⟩ (c_X3_within l D cI cD ad _ V i (nI 0) (nI 3)) (va_cwS 3 hts gX3_isWord_X3_within rfl rfl rfl (by decide +kernel) ⟨Nat.le_of_ble_eq_true rfl, Nat.le_of_ble_eq_true rfl⟩) (w_preS hK hw _) rfl rfl hl.1 rfl (lv_room (Nat.le_of_ble_eq_true rfl)) dX3_isWord_17 ⟨Nat.le_of_ble_eq_true rfl, Nat.le_of_ble_eq_true rfl⟩) (fun r_6 V_5 H locs hp hw => ?_)
    obtain ⟨e9, e8⟩ := hp
    subst e9
    subst e8
    refine lv_if_eq (tgt := 27) hx hb dX3_isWord_20 (by decide) (fun c_20 => ?_) (fun c_20 => ?_)
    · refine lv_iconst (v := nI 0) hx hb dX3_isWord_27 (by decide) ?_
      exact w_zret hx hb hr hlocks hw rfl (⟨rfl, by rw [decide_eq_false (fun h => by first | exact of_decide_eq_false (bI_0.mp c_11) ⟨Int32.not_lt.mp (fun z => h (Or.inl z)), (nI_le_pred (by omega) (by omega)).mpr (fun z => h (Or.inr (Or.inl z)))⟩ | exact of_decide_eq_false (bI_0.mp c_20) ⟨Int32.not_lt.mp (fun z => h (Or.inr (Or.inr (Or.inl z)))), (nI_le_pred (L := 4) (by decide) (by decide)).mpr (fun z => h (Or.inr (Or.inr (Or.inr (Int32.not_lt.mpr z)))))⟩)]; rfl⟩) dX3_isWord_28
    · refine lv_iconst (v := nI 1) hx hb dX3_isWord_23 (by decide) ?_
      refine lv_goto (tgt := 28) hx hb dX3_isWord_24 (by decide) ?_
      exact w_zret hx hb hr hlocks hw rfl (⟨rfl, by rw [decide_eq_true (show ¬ (b < 0 ∨ nI (32 * (n - 1)) ≤ b ∨ i < 0 ∨ ¬ i < nI 4) from fun h => by have z1 := of_decide_eq_true (bI_n0.mp c_11); have z2 := of_decide_eq_true (bI_n0.mp c_20); rcases h with h | h | h | h; (· exact absurd h (Int32.not_lt.mpr z1.1)); (· exact (nI_le_pred (by omega) (by omega)).mp z1.2 h); (· exact absurd h (Int32.not_lt.mpr z2.1)); (· exact h (Int32.not_le.mp ((nI_le_pred (L := 4) (by decide) (by decide)).mp z2.2))))]; rfl⟩) dX3_isWord_28
