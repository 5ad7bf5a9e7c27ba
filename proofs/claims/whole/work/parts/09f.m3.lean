set_option maxHeartbeats 4000000 in
set_option maxRecDepth 100000 in
theorem lp_X3_holds_a {p : Program} {l : Launch} {e : Env} {s : State} {m : MethodId} {args : Array Value} {below : List Frame} {meth : Method} {c : Code} {Q : State → Prop} {D : va_G} {cI cD : ClassId} {ad : Nat → Nat} (hx : p.tables.exec = Jvm.exec) (hb : c.code = cX3_holds) (hts : ∀ w ∈ wsX3_holds, w.before args s = true) (hown : s.vm.findClass RX3 = some m.cls) (hml : c.maxLocals = 4) (hK : kK D cI cD s) (la fl : Bool) (V0 : vT) (hk : ∀ (V1 : vT) (H1 : Heap) (locs1 : List Loc) (ls : Array Slot), ((∀ a, a ≠ 6 → V1 a = V0 a) ∧ ∀ t, t < 7 → V1 6 t = nI 0) → wS D 10 ad (mF cI ad) s.heap V1 H1 locs1 → lv_has ls 4 [(0, .ref (ad 0)), (1, .int (bI la)), (2, .int (bI fl))] → W p l e ({ frames := 2, cells := 0, slots := 0, locals := 46 }) s m args below meth c H1 locs1 0 0 Q (F0 m 59 ls [])) : ∀ (n j : Nat) (V : vT) (H : Heap) (locs : List Loc) (ls : Array Slot), (j + n = 7) → ((∀ a, a ≠ 6 → V a = V0 a) ∧ ∀ t, t < j → V 6 t = nI 0) → wS D 10 ad (mF cI ad) s.heap V H locs → lv_has ls 4 [(3, .int (nI j)), (0, .ref (ad 0)), (1, .int (bI la)), (2, .int (bI fl))] → W p l e ({ frames := 2, cells := 0, slots := 0, locals := 46 }) s m args below meth c H locs 0 0 Q (F0 m 40 ls []) := by
  have hi3 : ∀ w ∈ wsX30, w ∈ wsX3_holds := by decide +kernel
  intro n
  induction n with
  | zero =>
    intro j V H locs ls hjn hin hw hl
    refine lv_iload_n hx hb dX3_holds_40 rfl (lv_at hl 0 rfl) ?_
    refine lv_bipush (v := nI 7) hx hb dX3_holds_41 (by decide) ?_
    refine n_icmp_ge (tgt := 59) hx hb dX3_holds_43 (by decide) (by omega) (by omega) (fun c_43 => ?_) (fun c_43 => ?_)
    · have e1 : j = 7 := by omega
      subst e1
      exact hk V H locs ls hin hw (lv_sub hl [1, 2, 3] rfl)
    · exfalso
      omega
  | succ n ih =>
    intro j V H locs ls hjn hin hw hl
    refine lv_iload_n hx hb dX3_holds_40 rfl (lv_at hl 0 rfl) ?_
    refine lv_bipush (v := nI 7) hx hb dX3_holds_41 (by decide) ?_
    refine n_icmp_ge (tgt := 59) hx hb dX3_holds_43 (by decide) (by omega) (by omega) (fun c_43 => ?_) (fun c_43 => ?_)
    · exfalso
      omega
    · refine lv_aload_n hx hb dX3_holds_46 rfl (lv_at hl 1 rfl) ?_
      refine w_get (ci := 3) (C := RX3) (T := TX3) (M := 24) (v := .ref (ad 6)) hx hb hts hi3 hown hK hw 0 (by omega) _ (mF_0 _) rfl 20 (by decide) (hts (.fieldLink RX3 32 "WideningArrayModel" "many" "[I") (by decide +kernel)) rfl dX3_holds_47 ?_
      refine lv_iload_n hx hb dX3_holds_50 rfl (lv_at hl 0 rfl) ?_
      refine lv_iconst (v := nI 0) hx hb dX3_holds_51 (by decide) ?_
      refine w_iast hx hb hK hw 6 7 (by omega) (fun _ => rfl) (i := j) (by omega) (by decide) dX3_holds_52 (fun H locs hw => ?_)
      obtain ⟨V_1, hV_1⟩ : ∃ z : vT, z = u2 V 6 j (nI 0) := ⟨_, rfl⟩
      rw [← hV_1] at hw
      refine lv_iinc (v := nI (j + 1)) (lv' := [(3, .int (nI (j + 1))), (0, .ref (ad 0)), (1, .int (bI la)), (2, .int (bI fl))]) hx hb dX3_holds_53 hl (k := 0) rfl (nI_1 _) (by decide) rfl (fun ls hl => ?_)
      refine lv_goto (tgt := 40) hx hb dX3_holds_56 (by decide) ?_
      exact ih (j + 1) _ _ _ ls (by omega) ⟨fun a ha => by rw [hV_1, u2_r _ _ ha]; exact hin.1 a ha, fun t ht => by by_cases z : t = j; (· rw [z, hV_1, u2_s]); (· rw [hV_1, u2_n _ _ (Or.inr z)]; exact hin.2 t (by omega))⟩ hw (lv_sub hl [0, 1, 2, 3] rfl)
set_option maxHeartbeats 4000000 in
set_option maxRecDepth 100000 in
theorem lp_X3_holds_b {p : Program} {l : Launch} {e : Env} {s : State} {m : MethodId} {args : Array Value} {below : List Frame} {meth : Method} {c : Code} {Q : State → Prop} {D : va_G} {cI cD : ClassId} {ad : Nat → Nat} (hx : p.tables.exec = Jvm.exec) (hb : c.code = cX3_holds) (hts : ∀ w ∈ wsX3_holds, w.before args s = true) (hown : s.vm.findClass RX3 = some m.cls) (hml : c.maxLocals = 4) (hK : kK D cI cD s) (la fl : Bool) (V0 : vT) (L : List (Nat × Wr)) (hQ : gQ V0 L) (hk : ∀ (V1 : vT) (H1 : Heap) (locs1 : List Loc) (ls : Array Slot), ((∀ a, a ≠ 6 → V1 a = V0 a) ∧ ∀ t, t < 7 → V1 6 t = nI (qOf L t).length) → wS D 10 ad (mF cI ad) s.heap V1 H1 locs1 → lv_has ls 4 [(0, .ref (ad 0)), (1, .int (bI la)), (2, .int (bI fl))] → W p l e ({ frames := 2, cells := 0, slots := 0, locals := 46 }) s m args below meth c H1 locs1 0 0 Q (F0 m 90 ls [])) : ∀ (n j : Nat) (V : vT) (H : Heap) (locs : List Loc) (ls : Array Slot), (j + n = L.length) → ((∀ a, a ≠ 6 → V a = V0 a) ∧ ∀ t, t < 7 → V 6 t = nI (qOf (L.take j) t).length) → wS D 10 ad (mF cI ad) s.heap V H locs → lv_has ls 4 [(3, .int (nI j)), (0, .ref (ad 0)), (1, .int (bI la)), (2, .int (bI fl))] → W p l e ({ frames := 2, cells := 0, slots := 0, locals := 46 }) s m args below meth c H locs 0 0 Q (F0 m 61 ls []) := by
  have hi3 : ∀ w ∈ wsX30, w ∈ wsX3_holds := by decide +kernel
  have hL8 := hQ.2.1
  intro n
  induction n with
  | zero =>
    intro j V H locs ls hjn hin hw hl
    refine lv_iload_n hx hb dX3_holds_61 rfl (lv_at hl 0 rfl) ?_
    refine lv_aload_n hx hb dX3_holds_62 rfl (lv_at hl 1 rfl) ?_
    refine w_get (ci := 3) (C := RX3) (T := TX3) (M := 24) (v := .int (nI L.length)) hx hb hts hi3 hown hK hw 0 (by omega) _ (mF_0 _) rfl 16 (by decide) (hts (.fieldLink RX3 99 "WideningArrayModel" "waiting" "I") (by decide +kernel)) (congrArg (fun z => some (Value.int z)) (show V 0 16 = nI L.length from by rw [hin.1 0 (by decide)]; exact hQ.1)) dX3_holds_63 ?_
    refine n_icmp_ge (tgt := 90) hx hb dX3_holds_66 (by decide) (by omega) (by omega) (fun c_66 => ?_) (fun c_66 => ?_)
    · have e1 : j = L.length := by omega
      rw [e1, List.take_length] at hin
      exact hk V H locs ls hin hw (lv_sub hl [1, 2, 3] rfl)
    · exfalso
      omega
  | succ n ih =>
    intro j V H locs ls hjn hin hw hl
    refine lv_iload_n hx hb dX3_holds_61 rfl (lv_at hl 0 rfl) ?_
    refine lv_aload_n hx hb dX3_holds_62 rfl (lv_at hl 1 rfl) ?_
    refine w_get (ci := 3) (C := RX3) (T := TX3) (M := 24) (v := .int (nI L.length)) hx hb hts hi3 hown hK hw 0 (by omega) _ (mF_0 _) rfl 16 (by decide) (hts (.fieldLink RX3 99 "WideningArrayModel" "waiting" "I") (by decide +kernel)) (congrArg (fun z => some (Value.int z)) (show V 0 16 = nI L.length from by rw [hin.1 0 (by decide)]; exact hQ.1)) dX3_holds_63 ?_
    refine n_icmp_ge (tgt := 90) hx hb dX3_holds_66 (by decide) (by omega) (by omega) (fun c_66 => ?_) (fun c_66 => ?_)
    · exfalso
      omega
    · obtain ⟨⟨d9, w9⟩, hx9⟩ : ∃ x, L[j]? = some x := ⟨_, List.getElem?_eq_getElem (by omega)⟩
      have hg := hQ.2.2 j _ hx9
      have hd6 : d9 < 6 := hg.1
      have hg3 : V0 3 j = nI d9 := hg.2.1
      have hql := qOf_le (L := L.take j) (d := d9)
      rw [List.length_take] at hql
      refine lv_aload_n hx hb dX3_holds_69 rfl (lv_at hl 1 rfl) ?_
      refine w_get (ci := 3) (C := RX3) (T := TX3) (M := 24) (v := .ref (ad 6)) hx hb hts hi3 hown hK hw 0 (by omega) _ (mF_0 _) rfl 20 (by decide) (hts (.fieldLink RX3 32 "WideningArrayModel" "many" "[I") (by decide +kernel)) rfl dX3_holds_70 ?_
      refine lv_aload_n hx hb dX3_holds_73 rfl (lv_at hl 1 rfl) ?_
      refine w_get (ci := 3) (C := RX3) (T := TX3) (M := 24) (v := .ref (ad 3)) hx hb hts hi3 hown hK hw 0 (by omega) _ (mF_0 _) rfl 17 (by decide) (hts (.fieldLink RX3 23 "WideningArrayModel" "toDisk" "[I") (by decide +kernel)) rfl dX3_holds_74 ?_
      refine lv_iload_n hx hb dX3_holds_77 rfl (lv_at hl 0 rfl) ?_
      refine w_iald hx hb hK hw 3 32 (by omega) (fun _ => rfl) (i := j) (by omega) (by decide) dX3_holds_78 ?_
      refine n_is (show V 3 j = nI d9 from by rw [hin.1 3 (by decide)]; exact hg3) ?_
      refine lv_dup2_11 hx hb dX3_holds_79 rfl rfl ?_
      refine w_iald hx hb hK hw 6 7 (by omega) (fun _ => rfl) (i := d9) (by omega) (by decide) dX3_holds_80 ?_
      refine n_is (show V 6 d9 = nI ((qOf (L.take j) d9).length) from hin.2 d9 (by omega)) ?_
      refine lv_iconst (v := nI 1) hx hb dX3_holds_81 (by decide) ?_
      refine n_add hx hb dX3_holds_82 ?_
      refine w_iast hx hb hK hw 6 7 (by omega) (fun _ => rfl) (i := d9) (by omega) (by decide) dX3_holds_83 (fun H locs hw => ?_)
      obtain ⟨V_1, hV_1⟩ : ∃ z : vT, z = u2 V 6 d9 (nI (((qOf (L.take j) d9).length) + 1)) := ⟨_, rfl⟩
      rw [← hV_1] at hw
      refine lv_iinc (v := nI (j + 1)) (lv' := [(3, .int (nI (j + 1))), (0, .ref (ad 0)), (1, .int (bI la)), (2, .int (bI fl))]) hx hb dX3_holds_84 hl (k := 0) rfl (nI_1 _) (by decide) rfl (fun ls hl => ?_)
      refine lv_goto (tgt := 61) hx hb dX3_holds_87 (by decide) ?_
      exact ih (j + 1) _ _ _ ls (by omega) ⟨fun a ha => by rw [hV_1, u2_r _ _ ha]; exact hin.1 a ha, fun t ht => by rw [take_snoc hx9, qOf_snoc]; unfold qAdd; by_cases z : t = d9; (· rw [z, if_pos rfl, hV_1, u2_s, List.length_append]; rfl); (· rw [if_neg z, hV_1, u2_n _ _ (Or.inr z)]; exact hin.2 t ht)⟩ hw (lv_sub hl [0, 1, 2, 3] rfl)
set_option maxHeartbeats 4000000 in
set_option maxRecDepth 100000 in
theorem lp_X3_holds_c {p : Program} {l : Launch} {e : Env} {s : State} {m : MethodId} {args : Array Value} {below : List Frame} {meth : Method} {c : Code} {Q : State → Prop} {D : va_G} {cI cD : ClassId} {ad : Nat → Nat} (hx : p.tables.exec = Jvm.exec) (hb : c.code = cX3_holds) (hts : ∀ w ∈ wsX3_holds, w.before args s = true) (hown : s.vm.findClass RX3 = some m.cls) (hml : c.maxLocals = 4) (hK : kK D cI cD s) (la fl : Bool) (V0 : vT) (L : List (Nat × Wr)) (hQ : gQ V0 L) (sh : Int32) (hsh : V0 0 12 = sh) (hc6 : ∀ t, t < 7 → V0 6 t = nI (qOf L t).length) (hk : ∀ (V1 : vT) (H1 : Heap) (locs1 : List Loc) (ls : Array Slot), ((∀ a, a ≠ 7 → V1 a = V0 a) ∧ ∀ t, t < 7 → V1 7 t = nI (wd fl sh L t)) → wS D 10 ad (mF cI ad) s.heap V1 H1 locs1 → lv_has ls 4 [(0, .ref (ad 0)), (1, .int (bI la)), (2, .int (bI fl))] → W p l e ({ frames := 2, cells := 0, slots := 0, locals := 46 }) s m args below meth c H1 locs1 0 0 Q (F0 m 143 ls [])) : ∀ (n j : Nat) (V : vT) (H : Heap) (locs : List Loc) (ls : Array Slot), (j + n = 7) → ((∀ a, a ≠ 7 → V a = V0 a) ∧ ∀ t, t < j → V 7 t = nI (wd fl sh L t)) → wS D 10 ad (mF cI ad) s.heap V H locs → lv_has ls 4 [(3, .int (nI j)), (0, .ref (ad 0)), (1, .int (bI la)), (2, .int (bI fl))] → W p l e ({ frames := 2, cells := 0, slots := 0, locals := 46 }) s m args below meth c H locs 0 0 Q (F0 m 92 ls []) := by
  have hi3 : ∀ w ∈ wsX30, w ∈ wsX3_holds := by decide +kernel
  have hL8 := hQ.2.1
  intro n
  induction n with
  | zero =>
    intro j V H locs ls hjn hin hw hl
    refine lv_iload_n hx hb dX3_holds_92 rfl (lv_at hl 0 rfl) ?_
    refine lv_bipush (v := nI 7) hx hb dX3_holds_93 (by decide) ?_
    refine n_icmp_ge (tgt := 143) hx hb dX3_holds_95 (by decide) (by omega) (by omega) (fun c_95 => ?_) (fun c_95 => ?_)
    · have e1 : j = 7 := by omega
      subst e1
      exact hk V H locs ls hin hw (lv_sub hl [1, 2, 3] rfl)
    · exfalso
      omega
  | succ n ih =>
    intro j V H locs ls hjn hin hw hl
    refine lv_iload_n hx hb dX3_holds_92 rfl (lv_at hl 0 rfl) ?_
    refine lv_bipush (v := nI 7) hx hb dX3_holds_93 (by decide) ?_
    refine n_icmp_ge (tgt := 143) hx hb dX3_holds_95 (by decide) (by omega) (by omega) (fun c_95 => ?_) (fun c_95 => ?_)
    · exfalso
      omega
    · have hs4 := sh4_lt sh j
      have hql := qOf_le (L := L) (d := j)
      refine lv_aload_n hx hb dX3_holds_98 rfl (lv_at hl 1 rfl) ?_
      refine w_get (ci := 3) (C := RX3) (T := TX3) (M := 24) (v := .ref (ad 7)) hx hb hts hi3 hown hK hw 0 (by omega) _ (mF_0 _) rfl 21 (by decide) (hts (.fieldLink RX3 35 "WideningArrayModel" "may" "[I") (by decide +kernel)) rfl dX3_holds_99 ?_
      refine lv_iload_n hx hb dX3_holds_102 rfl (lv_at hl 0 rfl) ?_
      refine lv_iload_n hx hb dX3_holds_103 rfl (lv_at hl 3 rfl) ?_
      refine lv_if_eq (tgt := 130) hx hb dX3_holds_104 (by decide) (fun c_104 => ?_) (fun c_104 => ?_)
      · refine lv_aload_n hx hb dX3_holds_130 rfl (lv_at hl 1 rfl) ?_
        refine w_get (ci := 3) (C := RX3) (T := TX3) (M := 24) (v := .ref (ad 6)) hx hb hts hi3 hown hK hw 0 (by omega) _ (mF_0 _) rfl 20 (by decide) (hts (.fieldLink RX3 32 "WideningArrayModel" "many" "[I") (by decide +kernel)) rfl dX3_holds_131 ?_
        refine lv_iload_n hx hb dX3_holds_134 rfl (lv_at hl 0 rfl) ?_
        refine w_iald hx hb hK hw 6 7 (by omega) (fun _ => rfl) (i := j) (by omega) (by decide) dX3_holds_135 ?_
        refine n_is (show V 6 j = nI ((qOf L j).length) from by rw [hin.1 6 (by decide)]; exact hc6 j (by omega)) ?_
        refine w_iast hx hb hK hw 7 7 (by omega) (fun _ => rfl) (i := j) (by omega) (by decide) dX3_holds_136 (fun H locs hw => ?_)
        obtain ⟨V_1, hV_1⟩ : ∃ z : vT, z = u2 V 7 j (nI ((qOf L j).length)) := ⟨_, rfl⟩
        rw [← hV_1] at hw
        refine lv_iinc (v := nI (j + 1)) (lv' := [(3, .int (nI (j + 1))), (0, .ref (ad 0)), (1, .int (bI la)), (2, .int (bI fl))]) hx hb dX3_holds_137 hl (k := 0) rfl (nI_1 _) (by decide) rfl (fun ls hl => ?_)
        refine lv_goto (tgt := 92) hx hb dX3_holds_140 (by decide) ?_
        exact ih (j + 1) _ _ _ ls (by omega) ⟨fun a ha => by rw [hV_1, u2_r _ _ ha]; exact hin.1 a ha, fun t ht => by by_cases z : t = j; (· rw [z, hV_1, u2_s, wd]; first | rw [if_pos (bI_n0.mp c_104)] | rw [if_neg (by rw [bI_0.mp c_104]; decide)]); (· rw [hV_1, u2_n _ _ (Or.inr z)]; exact hin.2 t (by omega))⟩ hw (lv_sub hl [0, 1, 2, 3] rfl)
      · refine lv_aload_n hx hb dX3_holds_107 rfl (lv_at hl 1 rfl) ?_
        refine w_get (ci := 3) (C := RX3) (T := TX3) (M := 24) (v := .int sh) hx hb hts hi3 hown hK hw 0 (by omega) _ (mF_0 _) rfl 12 (by decide) (hts (.fieldLink RX3 118 "WideningArrayModel" "failHow" "I") (by decide +kernel)) (congrArg (fun z => some (Value.int z)) (show V 0 12 = sh from by rw [hin.1 0 (by decide)]; exact hsh)) dX3_holds_108 ?_
        refine lv_iconst (v := nI 4) hx hb dX3_holds_111 (by decide) ?_
        refine lv_iload_n hx hb dX3_holds_112 rfl (lv_at hl 0 rfl) ?_
        refine n_mul hx hb dX3_holds_113 ?_
        refine lv_ishr hx hb dX3_holds_114 ?_
        refine lv_bipush (v := nI 15) hx hb dX3_holds_115 (by decide) ?_
        refine lv_iand hx hb dX3_holds_117 ?_
        refine n_is (show (sh >>> ((nI (4 * j)) &&& 31)) &&& (nI 15) = nI (sh4 sh j) from pk_and _ 4 (by decide)) ?_
        refine lv_aload_n hx hb dX3_holds_118 rfl (lv_at hl 1 rfl) ?_
        refine w_get (ci := 3) (C := RX3) (T := TX3) (M := 24) (v := .ref (ad 6)) hx hb hts hi3 hown hK hw 0 (by omega) _ (mF_0 _) rfl 20 (by decide) (hts (.fieldLink RX3 32 "WideningArrayModel" "many" "[I") (by decide +kernel)) rfl dX3_holds_119 ?_
        refine lv_iload_n hx hb dX3_holds_122 rfl (lv_at hl 0 rfl) ?_
        refine w_iald hx hb hK hw 6 7 (by omega) (fun _ => rfl) (i := j) (by omega) (by decide) dX3_holds_123 ?_
        refine n_is (show V 6 j = nI ((qOf L j).length) from by rw [hin.1 6 (by decide)]; exact hc6 j (by omega)) ?_
        refine lv_iconst (v := nI 1) hx hb dX3_holds_124 (by decide) ?_
        refine n_add hx hb dX3_holds_125 ?_
        refine n_rem hx hb dX3_holds_126 (by omega) (by omega) (by omega) ?_
        refine lv_goto (tgt := 136) hx hb dX3_holds_127 (by decide) ?_
        refine w_iast hx hb hK hw 7 7 (by omega) (fun _ => rfl) (i := j) (by omega) (by decide) dX3_holds_136 (fun H locs hw => ?_)
        obtain ⟨V_2, hV_2⟩ : ∃ z : vT, z = u2 V 7 j (nI ((sh4 sh j) % (((qOf L j).length) + 1))) := ⟨_, rfl⟩
        rw [← hV_2] at hw
        refine lv_iinc (v := nI (j + 1)) (lv' := [(3, .int (nI (j + 1))), (0, .ref (ad 0)), (1, .int (bI la)), (2, .int (bI fl))]) hx hb dX3_holds_137 hl (k := 0) rfl (nI_1 _) (by decide) rfl (fun ls hl => ?_)
        refine lv_goto (tgt := 92) hx hb dX3_holds_140 (by decide) ?_
        exact ih (j + 1) _ _ _ ls (by omega) ⟨fun a ha => by rw [hV_2, u2_r _ _ ha]; exact hin.1 a ha, fun t ht => by by_cases z : t = j; (· rw [z, hV_2, u2_s, wd]; first | rw [if_pos (bI_n0.mp c_104)] | rw [if_neg (by rw [bI_0.mp c_104]; decide)]); (· rw [hV_2, u2_n _ _ (Or.inr z)]; exact hin.2 t (by omega))⟩ hw (lv_sub hl [0, 1, 2, 3] rfl)
set_option maxHeartbeats 4000000 in
set_option maxRecDepth 100000 in
theorem lp_X3_holds_d {p : Program} {l : Launch} {e : Env} {s : State} {m : MethodId} {args : Array Value} {below : List Frame} {meth : Method} {c : Code} {Q : State → Prop} {D : va_G} {cI cD : ClassId} {ad : Nat → Nat} (hx : p.tables.exec = Jvm.exec) (hb : c.code = cX3_holds) (hts : ∀ w ∈ wsX3_holds, w.before args s = true) (hown : s.vm.findClass RX3 = some m.cls) (hml : c.maxLocals = 4) (hK : kK D cI cD s) (la fl : Bool) (V0 : vT) (L : List (Nat × Wr)) (hQ : gQ V0 L) (sh : Int32) (hlf : V0 0 8 = -1 ∨ V0 0 9 = -1) (hk : ∀ (V1 : vT) (H1 : Heap) (locs1 : List Loc) (ls : Array Slot), ((∀ a, a ≠ 1 → a ≠ 2 → a ≠ 7 → V1 a = V0 a) ∧ (∀ t, 60 ≤ t → V1 2 t = V0 2 t) ∧ (∀ t, t < 7 → V1 7 t = nI (wd fl sh L t) - nI (qOf (L.take L.length) t).length) ∧ hInv L (ab (V0 0 8) (V0 0 9)) fl sh (mc V0) L.length (mc V1)) → wS D 10 ad (mF cI ad) s.heap V1 H1 locs1 → lv_has ls 4 [(0, .ref (ad 0)), (1, .int (bI la)), (2, .int (bI fl))] → W p l e ({ frames := 2, cells := 0, slots := 0, locals := 46 }) s m args below meth c H1 locs1 0 0 Q (F0 m 193 ls [])) : ∀ (n j : Nat) (V : vT) (H : Heap) (locs : List Loc) (ls : Array Slot), (j + n = L.length) → ((∀ a, a ≠ 1 → a ≠ 2 → a ≠ 7 → V a = V0 a) ∧ (∀ t, 60 ≤ t → V 2 t = V0 2 t) ∧ (∀ t, t < 7 → V 7 t = nI (wd fl sh L t) - nI (qOf (L.take j) t).length) ∧ hInv L (ab (V0 0 8) (V0 0 9)) fl sh (mc V0) j (mc V)) → wS D 10 ad (mF cI ad) s.heap V H locs → lv_has ls 4 [(3, .int (nI j)), (0, .ref (ad 0)), (1, .int (bI la)), (2, .int (bI fl))] → W p l e ({ frames := 2, cells := 0, slots := 0, locals := 46 }) s m args below meth c H locs 0 0 Q (F0 m 145 ls []) := by
  have hi3 : ∀ w ∈ wsX30, w ∈ wsX3_holds := by decide +kernel
  have hL8 := hQ.2.1
  intro n
  induction n with
  | zero =>
    intro j V H locs ls hjn hin hw hl
    refine lv_iload_n hx hb dX3_holds_145 rfl (lv_at hl 0 rfl) ?_
    refine lv_aload_n hx hb dX3_holds_146 rfl (lv_at hl 1 rfl) ?_
    refine w_get (ci := 3) (C := RX3) (T := TX3) (M := 24) (v := .int (nI L.length)) hx hb hts hi3 hown hK hw 0 (by omega) _ (mF_0 _) rfl 16 (by decide) (hts (.fieldLink RX3 99 "WideningArrayModel" "waiting" "I") (by decide +kernel)) (congrArg (fun z => some (Value.int z)) (show V 0 16 = nI L.length from by rw [hin.1 0 (by decide) (by decide) (by decide)]; exact hQ.1)) dX3_holds_147 ?_
    refine n_icmp_ge (tgt := 193) hx hb dX3_holds_150 (by decide) (by omega) (by omega) (fun c_150 => ?_) (fun c_150 => ?_)
    · have e1 : j = L.length := by omega
      subst e1
      exact hk V H locs ls hin hw (lv_sub hl [1, 2, 3] rfl)
    · exfalso
      omega
  | succ n ih =>
    intro j V H locs ls hjn hin hw hl
    refine lv_iload_n hx hb dX3_holds_145 rfl (lv_at hl 0 rfl) ?_
    refine lv_aload_n hx hb dX3_holds_146 rfl (lv_at hl 1 rfl) ?_
    refine w_get (ci := 3) (C := RX3) (T := TX3) (M := 24) (v := .int (nI L.length)) hx hb hts hi3 hown hK hw 0 (by omega) _ (mF_0 _) rfl 16 (by decide) (hts (.fieldLink RX3 99 "WideningArrayModel" "waiting" "I") (by decide +kernel)) (congrArg (fun z => some (Value.int z)) (show V 0 16 = nI L.length from by rw [hin.1 0 (by decide) (by decide) (by decide)]; exact hQ.1)) dX3_holds_147 ?_
    refine n_icmp_ge (tgt := 193) hx hb dX3_holds_150 (by decide) (by omega) (by omega) (fun c_150 => ?_) (fun c_150 => ?_)
    · exfalso
      omega
    · obtain ⟨⟨d9, w9⟩, hx9⟩ : ∃ x, L[j]? = some x := ⟨_, List.getElem?_eq_getElem (by omega)⟩
      have hg := hQ.2.2 j _ hx9
      have hd6 : d9 < 6 := hg.1
      have hg3 : V0 3 j = nI d9 := hg.2.1
      have hql := qOf_le (L := L.take j) (d := d9)
      rw [List.length_take] at hql
      have hwl := wd_le (fl := fl) (sh := sh) (L := L) (t := d9)
      refine lv_aload_n hx hb dX3_holds_153 rfl (lv_at hl 1 rfl) ?_
      refine w_get (ci := 3) (C := RX3) (T := TX3) (M := 24) (v := .ref (ad 7)) hx hb hts hi3 hown hK hw 0 (by omega) _ (mF_0 _) rfl 21 (by decide) (hts (.fieldLink RX3 35 "WideningArrayModel" "may" "[I") (by decide +kernel)) rfl dX3_holds_154 ?_
      refine lv_aload_n hx hb dX3_holds_157 rfl (lv_at hl 1 rfl) ?_
      refine w_get (ci := 3) (C := RX3) (T := TX3) (M := 24) (v := .ref (ad 3)) hx hb hts hi3 hown hK hw 0 (by omega) _ (mF_0 _) rfl 17 (by decide) (hts (.fieldLink RX3 23 "WideningArrayModel" "toDisk" "[I") (by decide +kernel)) rfl dX3_holds_158 ?_
      refine lv_iload_n hx hb dX3_holds_161 rfl (lv_at hl 0 rfl) ?_
      refine w_iald hx hb hK hw 3 32 (by omega) (fun _ => rfl) (i := j) (by omega) (by decide) dX3_holds_162 ?_
      refine n_is (show V 3 j = nI d9 from by rw [hin.1 3 (by decide) (by decide) (by decide)]; exact hg3) ?_
      refine w_iald hx hb hK hw 7 7 (by omega) (fun _ => rfl) (i := d9) (by omega) (by decide) dX3_holds_163 ?_
      refine n_is (show V 7 d9 = nI (wd fl sh L d9) - nI (qOf (L.take j) d9).length from by exact hin.2.2.1 d9 (by omega)) ?_
      refine lv_if_le (tgt := 172) hx hb dX3_holds_164 (by decide) (fun c_164 => ?_) (fun c_164 => ?_)
      · refine lv_aload_n hx hb dX3_holds_172 rfl (lv_at hl 1 rfl) ?_
        refine w_get (ci := 3) (C := RX3) (T := TX3) (M := 24) (v := .ref (ad 7)) hx hb hts hi3 hown hK hw 0 (by omega) _ (mF_0 _) rfl 21 (by decide) (hts (.fieldLink RX3 35 "WideningArrayModel" "may" "[I") (by decide +kernel)) rfl dX3_holds_173 ?_
        refine lv_aload_n hx hb dX3_holds_176 rfl (lv_at hl 1 rfl) ?_
        refine w_get (ci := 3) (C := RX3) (T := TX3) (M := 24) (v := .ref (ad 3)) hx hb hts hi3 hown hK hw 0 (by omega) _ (mF_0 _) rfl 17 (by decide) (hts (.fieldLink RX3 23 "WideningArrayModel" "toDisk" "[I") (by decide +kernel)) rfl dX3_holds_177 ?_
        refine lv_iload_n hx hb dX3_holds_180 rfl (lv_at hl 0 rfl) ?_
        refine w_iald hx hb hK hw 3 32 (by omega) (fun _ => rfl) (i := j) (by omega) (by decide) dX3_holds_181 ?_
        refine n_is (show V 3 j = nI d9 from by rw [hin.1 3 (by decide) (by decide) (by decide)]; exact hg3) ?_
        refine lv_dup2_11 hx hb dX3_holds_182 rfl rfl ?_
        refine w_iald hx hb hK hw 7 7 (by omega) (fun _ => rfl) (i := d9) (by omega) (by decide) dX3_holds_183 ?_
        refine n_is (show V 7 d9 = nI (wd fl sh L d9) - nI (qOf (L.take j) d9).length from by exact hin.2.2.1 d9 (by omega)) ?_
        refine lv_iconst (v := nI 1) hx hb dX3_holds_184 (by decide) ?_
        refine lv_isub hx hb dX3_holds_185 ?_
        refine w_iast hx hb hK hw 7 7 (by omega) (fun _ => rfl) (i := d9) (by omega) (by decide) dX3_holds_186 (fun H locs hw => ?_)
        obtain ⟨V_1, hV_1⟩ : ∃ z : vT, z = u2 V 7 d9 ((nI (wd fl sh L d9) - nI (qOf (L.take j) d9).length) - (nI 1)) := ⟨_, rfl⟩
        rw [← hV_1] at hw
        refine lv_iinc (v := nI (j + 1)) (lv' := [(3, .int (nI (j + 1))), (0, .ref (ad 0)), (1, .int (bI la)), (2, .int (bI fl))]) hx hb dX3_holds_187 hl (k := 0) rfl (nI_1 _) (by decide) rfl (fun ls hl => ?_)
        refine lv_goto (tgt := 145) hx hb dX3_holds_190 (by decide) ?_
        have hmc : ∀ d i, mc V_1 d i = mc V d i := fun d i => by unfold mc; rw [hV_1, u2_r _ _ (by decide), u2_r _ _ (by decide)]
        exact ih (j + 1) _ _ _ ls (by omega) ⟨fun a h1 h2 h7 => by rw [hV_1, u2_r _ _ h7]; exact hin.1 a h1 h2 h7, fun t ht => by rw [hV_1, u2_r _ _ (by decide)]; exact hin.2.1 t ht, fun t ht => by rw [take_snoc hx9, qOf_snoc]; unfold qAdd; by_cases z : t = d9; (· rw [z, if_pos rfl, hV_1, u2_s, List.length_append, nI_sub1]; rfl); (· rw [if_neg z, hV_1, u2_n _ _ (Or.inr z)]; exact hin.2.2.1 t ht), hold_skip hx9 hin.2.2.2 ((nI_sub_le (by omega) (by omega)).mp c_164) (fun d hd i hi => hmc d i)⟩ hw (lv_sub hl [0, 1, 2, 3] rfl)
      · refine lv_aload_n hx hb dX3_holds_167 rfl (lv_at hl 1 rfl) ?_
        refine lv_iload_n hx hb dX3_holds_168 rfl (lv_at hl 0 rfl) ?_
        have hz : ¬ wd fl sh L d9 ≤ (qOf (L.take j) d9).length := fun h => c_164 ((nI_sub_le (by omega) (by omega)).mpr h)
        have hq9 : gQ V L := gQ_congr (by rw [hin.1 0 (by decide) (by decide) (by decide)]) (hin.1 3 (by decide) (by decide) (by decide)) (hin.1 4 (by decide) (by decide) (by decide)) (hin.1 5 (by decide) (by decide) (by decide)) hQ
        refine w_callv hw (va_runV (As := [.int (nI j)]) (rest := []) ⟨hx, hb, hml, hown, hts⟩ (c_X3_perform l D cI cD ad _ V L hq9 j _ hx9 (by rw [hin.1 0 (by decide) (by decide) (by decide)]; exact hlf)) (cwV 1 hts gX3_holds_X3_perform rfl rfl rfl (by decide +kernel) ⟨Nat.le_of_ble_eq_true rfl, Nat.le_of_ble_eq_true rfl⟩) (w_preV hK hw (by omega) (mF_0 _) rfl _) rfl rfl hl.1 rfl (lv_room (Nat.le_of_ble_eq_true rfl)) dX3_holds_169 ⟨Nat.le_of_ble_eq_true rfl, Nat.le_of_ble_eq_true rfl⟩) (fun V_2 H locs hp hw => ?_)
        rw [hin.1 0 (by decide) (by decide) (by decide)] at hp
        refine lv_aload_n hx hb dX3_holds_172 rfl (lv_at hl 1 rfl) ?_
        refine w_get (ci := 3) (C := RX3) (T := TX3) (M := 24) (v := .ref (ad 7)) hx hb hts hi3 hown hK hw 0 (by omega) _ (mF_0 _) rfl 21 (by decide) (hts (.fieldLink RX3 35 "WideningArrayModel" "may" "[I") (by decide +kernel)) rfl dX3_holds_173 ?_
        refine lv_aload_n hx hb dX3_holds_176 rfl (lv_at hl 1 rfl) ?_
        refine w_get (ci := 3) (C := RX3) (T := TX3) (M := 24) (v := .ref (ad 3)) hx hb hts hi3 hown hK hw 0 (by omega) _ (mF_0 _) rfl 17 (by decide) (hts (.fieldLink RX3 23 "WideningArrayModel" "toDisk" "[I") (by decide +kernel)) rfl dX3_holds_177 ?_
        refine lv_iload_n hx hb dX3_holds_180 rfl (lv_at hl 0 rfl) ?_
        refine w_iald hx hb hK hw 3 32 (by omega) (fun _ => rfl) (i := j) (by omega) (by decide) dX3_holds_181 ?_
        refine n_is (show V_2 3 j = nI d9 from by rw [hp.1 3 (by decide) (by decide), hin.1 3 (by decide) (by decide) (by decide)]; exact hg3) ?_
        refine lv_dup2_11 hx hb dX3_holds_182 rfl rfl ?_
        refine w_iald hx hb hK hw 7 7 (by omega) (fun _ => rfl) (i := d9) (by omega) (by decide) dX3_holds_183 ?_
        refine n_is (show V_2 7 d9 = nI (wd fl sh L d9) - nI (qOf (L.take j) d9).length from by rw [hp.1 7 (by decide) (by decide)]; exact hin.2.2.1 d9 (by omega)) ?_
        refine lv_iconst (v := nI 1) hx hb dX3_holds_184 (by decide) ?_
        refine lv_isub hx hb dX3_holds_185 ?_
        refine w_iast hx hb hK hw 7 7 (by omega) (fun _ => rfl) (i := d9) (by omega) (by decide) dX3_holds_186 (fun H locs hw => ?_)
        obtain ⟨V_3, hV_3⟩ : ∃ z : vT, z = u2 V_2 7 d9 ((nI (wd fl sh L d9) - nI (qOf (L.take j) d9).length) - (nI 1)) := ⟨_, rfl⟩
        rw [← hV_3] at hw
        refine lv_iinc (v := nI (j + 1)) (lv' := [(3, .int (nI (j + 1))), (0, .ref (ad 0)), (1, .int (bI la)), (2, .int (bI fl))]) hx hb dX3_holds_187 hl (k := 0) rfl (nI_1 _) (by decide) rfl (fun ls hl => ?_)
        refine lv_goto (tgt := 145) hx hb dX3_holds_190 (by decide) ?_
        have hmc : ∀ d i, mc V_3 d i = mc V_2 d i := fun d i => by unfold mc; rw [hV_3, u2_r _ _ (by decide), u2_r _ _ (by decide)]
        exact ih (j + 1) _ _ _ ls (by omega) ⟨fun a h1 h2 h7 => by rw [hV_3, u2_r _ _ h7]; exact (hp.1 a h1 h2).trans (hin.1 a h1 h2 h7), fun t ht => by rw [hV_3, u2_r _ _ (by decide)]; exact (hp.2.1 t ht).trans (hin.2.1 t ht), fun t ht => by rw [take_snoc hx9, qOf_snoc]; unfold qAdd; by_cases z : t = d9; (· rw [z, if_pos rfl, hV_3, u2_s, List.length_append, nI_sub1]; rfl); (· rw [if_neg z, hV_3, u2_n _ _ (Or.inr z)]; rw [hp.1 7 (by decide) (by decide)]; exact hin.2.2.1 t ht), hold_do hx9 hin.2.2.2 (by omega) (fun d hd i hi => by rw [hmc]; exact hp.2.2 d hd i hi)⟩ hw (lv_sub hl [0, 1, 2, 3] rfl)
set_option maxHeartbeats 4000000 in
set_option maxRecDepth 100000 in
theorem c_X3_holds (l : Launch) (D : va_G) (cI cD : ClassId) (ad : Nat → Nat) (sz : Nat) (V : vT) (L : List (Nat × Wr)) (hQ : gQ V L) (ar : Bool) (har : V 0 10 = bI ar) (fa : Int32) (hfa : V 0 11 = fa) (sh : Int32) (hsh : V 0 12 = sh) (pp : Nat) (hp13 : V 0 13 = nI pp) (hfd : V 0 2 = bI false) (hlf : V 0 8 = -1 ∨ V 0 9 = -1) (la : Bool) : Met l yX3_holds wsX3_holds ({ frames := 2, cells := 0, slots := 0, locals := 46 }) (gP D cI cD 10 ad (mF cI ad) sz V [.ref (ad 0), .int (bI la)]) (va_Qi (fun (r : Int32) (V1 : vT) => HWt V L ar sh pp (hfl ar pp fa la) r V1) (gB D 10 ad (mF cI ad)) (gA 10 ad sz)) 0 0 (gA 10 ad sz) := by
  refine w_met (cc := cX3_holds) (maxL := 4) (ret := (some .boolean)) (by decide) rfl (Nat.le_of_ble_eq_true rfl) ?_
  intro p e s m below meth c hx hb hr hts hown hlocks hml hsz hK hw ls hl
  subst hsz
  have hown : s.vm.findClass RX3 = some m.cls := hown
  have hi3 : ∀ w ∈ wsX30, w ∈ wsX3_holds := by decide +kernel
  have hl : lv_has ls 4 [(0, .ref (ad 0)), (1, .int (bI la))] := hl
  refine lv_aload_n hx hb dX3_holds_0 rfl (lv_at hl 0 rfl) ?_
  refine lv_dup hx hb dX3_holds_1 rfl ?_
  refine w_get (ci := 3) (C := RX3) (T := TX3) (M := 24) (v := .int (nI pp)) hx hb hts hi3 hown hK hw 0 (by omega) _ (mF_0 _) rfl 13 (by decide) (hts (.fieldLink RX3 109 "WideningArrayModel" "points" "I") (by decide +kernel)) (congrArg (fun z => some (Value.int z)) (show V 0 13 = nI pp from hp13)) dX3_holds_2 ?_
  refine lv_iconst (v := nI 1) hx hb dX3_holds_5 (by decide) ?_
  refine n_add hx hb dX3_holds_6 ?_
  refine w_put (ci := 3) (C := RX3) (T := TX3) (M := 24) (x := nI (pp + 1)) (ty := .int) hx hb hts hi3 tyX3 tyX3_ok nmX3 hown hK hw 0 (by omega) _ (mF_0 _) rfl 13 (by decide) (hts (.fieldLink RX3 109 "WideningArrayModel" "points" "I") (by decide +kernel)) rfl (by decide +kernel) rfl rfl (Nat.le_of_ble_eq_true rfl) (mF_0 _) dX3_holds_7 (fun H locs hw => ?_)
  obtain ⟨V_1, hV_1⟩ : ∃ z : vT, z = u2 V 0 13 (nI (pp + 1)) := ⟨_, rfl⟩
  rw [← hV_1] at hw
  refine lv_aload_n hx hb dX3_holds_10 rfl (lv_at hl 0 rfl) ?_
  refine w_get (ci := 3) (C := RX3) (T := TX3) (M := 24) (v := .int (bI ar)) hx hb hts hi3 hown hK hw 0 (by omega) _ (mF_0 _) rfl 10 (by decide) (hts (.fieldLink RX3 112 "WideningArrayModel" "isArmed" "Z") (by decide +kernel)) (congrArg (fun z => some (Value.int z)) (show V_1 0 10 = bI ar from by rw [hV_1, u2_n _ _ (Or.inr (by decide))]; exact (har))) dX3_holds_11 ?_
  refine lv_if_eq (tgt := 36) hx hb dX3_holds_14 (by decide) (fun c_14 => ?_) (fun c_14 => ?_)
  · refine lv_iconst (v := nI 0) hx hb dX3_holds_36 (by decide) ?_
    refine n_is (show nI 0 = bI (hfl ar pp fa la) from by unfold hfl; first | (rw [bI_n0.mp c_14, decide_eq_false c_25, bI_0.mp c_29]; rfl) | (rw [bI_0.mp c_14]; rfl)) ?_
    obtain ⟨fl, hfl9⟩ : ∃ z : Bool, z = hfl ar pp fa la := ⟨_, rfl⟩
    rw [← hfl9]
    refine lv_istore_n (lv' := [(2, .int (bI fl)), (0, .ref (ad 0)), (1, .int (bI la))]) hx hb dX3_holds_37 rfl hl (by decide) rfl (fun ls hl => ?_)
    refine lv_iconst (v := nI 0) hx hb dX3_holds_38 (by decide) ?_
    refine lv_istore_n (lv' := [(3, .int (nI 0)), (2, .int (bI fl)), (0, .ref (ad 0)), (1, .int (bI la))]) hx hb dX3_holds_39 rfl hl (by decide) rfl (fun ls hl => ?_)
    refine lp_X3_holds_a hx hb hts hown hml hK la fl V_1 (fun V_A H locs ls hA hw hl => ?_) 7 0 V_1 _ _ ls (by omega) ⟨fun _ _ => rfl, fun t ht => absurd ht (by omega)⟩ hw (lv_sub hl [0, 2, 3, 1] rfl)
    refine lv_iconst (v := nI 0) hx hb dX3_holds_59 (by decide) ?_
    refine lv_istore_n (lv' := [(3, .int (nI 0)), (0, .ref (ad 0)), (1, .int (bI la)), (2, .int (bI fl))]) hx hb dX3_holds_60 rfl hl (by decide) rfl (fun ls hl => ?_)
    have q1 : ∀ a, a ≠ 0 → V_1 a = V a := fun a ha => by rw [hV_1, u2_r _ _ ha]
    have qa : gQ V_A L := gQ_congr (by rw [hA.1 0 (by decide), hV_1, u2_n _ _ (Or.inr (by decide))]) (by rw [hA.1 3 (by decide), q1 3 (by decide)]) (by rw [hA.1 4 (by decide), q1 4 (by decide)]) (by rw [hA.1 5 (by decide), q1 5 (by decide)]) hQ
    refine lp_X3_holds_b hx hb hts hown hml hK la fl V_A L qa (fun V_B H locs ls hB hw hl => ?_) L.length 0 V_A _ _ ls (by omega) ⟨fun _ _ => rfl, fun t ht => hA.2 t ht⟩ hw (lv_sub hl [0, 1, 2, 3] rfl)
    refine lv_iconst (v := nI 0) hx hb dX3_holds_90 (by decide) ?_
    refine lv_istore_n (lv' := [(3, .int (nI 0)), (0, .ref (ad 0)), (1, .int (bI la)), (2, .int (bI fl))]) hx hb dX3_holds_91 rfl hl (by decide) rfl (fun ls hl => ?_)
    have qb : gQ V_B L := gQ_congr (by rw [hB.1 0 (by decide)]) (hB.1 3 (by decide)) (hB.1 4 (by decide)) (hB.1 5 (by decide)) qa
    refine lp_X3_holds_c hx hb hts hown hml hK la fl V_B L qb sh (by rw [hB.1 0 (by decide), hA.1 0 (by decide), hV_1, u2_n _ _ (Or.inr (by decide))]; exact hsh) hB.2 (fun V_C H locs ls hC hw hl => ?_) 7 0 V_B _ _ ls (by omega) ⟨fun _ _ => rfl, fun t ht => absurd ht (by omega)⟩ hw (lv_sub hl [0, 1, 2, 3] rfl)
    refine lv_iconst (v := nI 0) hx hb dX3_holds_143 (by decide) ?_
    refine lv_istore_n (lv' := [(3, .int (nI 0)), (0, .ref (ad 0)), (1, .int (bI la)), (2, .int (bI fl))]) hx hb dX3_holds_144 rfl hl (by decide) rfl (fun ls hl => ?_)
    have qc : gQ V_C L := gQ_congr (by rw [hC.1 0 (by decide)]) (hC.1 3 (by decide)) (hC.1 4 (by decide)) (hC.1 5 (by decide)) qb
    have hc0 : V_C 0 = V_1 0 := by rw [hC.1 0 (by decide), hB.1 0 (by decide), hA.1 0 (by decide)]
    have hc1 : ∀ a, a ≠ 0 → a ≠ 6 → a ≠ 7 → V_C a = V a := fun a h0 h6 h7 => by rw [hC.1 a h7, hB.1 a h6, hA.1 a h6, q1 a h0]
    have hc8 : V_C 0 8 = V 0 8 := by rw [hc0, hV_1, u2_n _ _ (Or.inr (by decide))]
    have hc9 : V_C 0 9 = V 0 9 := by rw [hc0, hV_1, u2_n _ _ (Or.inr (by decide))]
    have hcm : mc V_C = mc V := by funext d i; unfold mc; rw [hc1 1 (by decide) (by decide) (by decide), hc1 2 (by decide) (by decide) (by decide)]
    refine lp_X3_holds_d hx hb hts hown hml hK la fl V_C L qc sh (by rw [hc8, hc9]; exact hlf) (fun V_D H locs ls hD hw hl => ?_) L.length 0 V_C _ _ ls (by omega) ⟨fun _ _ _ _ => rfl, fun _ _ => rfl, fun t ht => by rw [hC.2 t ht]; show _ = _ - nI 0; rw [show nI 0 = (0 : Int32) from rfl, Int32.sub_zero], fun d hd i hi => by show _ = apL (([] : List Wr).take _) _ _; rw [List.take_nil]; rfl⟩ hw (lv_sub hl [0, 1, 2, 3] rfl)
    rw [hc8, hc9, hcm] at hD
    have hd0 : ∀ j, j ≠ 13 → V_D 0 j = V 0 j := fun j hj => by rw [hD.1 0 (by decide) (by decide) (by decide), hc0, hV_1, u2_n _ _ (Or.inr hj)]
    have hd13 : V_D 0 13 = nI (pp + 1) := by rw [hD.1 0 (by decide) (by decide) (by decide), hc0, hV_1, u2_s]
    refine lv_aload_n hx hb dX3_holds_193 rfl (lv_at hl 0 rfl) ?_
    refine lv_iconst (v := nI 0) hx hb dX3_holds_194 (by decide) ?_
    refine w_put (ci := 3) (C := RX3) (T := TX3) (M := 24) (x := nI 0) (ty := .int) hx hb hts hi3 tyX3 tyX3_ok nmX3 hown hK hw 0 (by omega) _ (mF_0 _) rfl 16 (by decide) (hts (.fieldLink RX3 99 "WideningArrayModel" "waiting" "I") (by decide +kernel)) rfl (by decide +kernel) rfl rfl (Nat.le_of_ble_eq_true rfl) (mF_0 _) dX3_holds_195 (fun H locs hw => ?_)
    obtain ⟨V_2, hV_2⟩ : ∃ z : vT, z = u2 V_D 0 16 (nI 0) := ⟨_, rfl⟩
    rw [← hV_2] at hw
    refine lv_iload_n hx hb dX3_holds_198 rfl (lv_at hl 2 rfl) ?_
    refine lv_if_eq (tgt := 212) hx hb dX3_holds_199 (by decide) (fun c_199 => ?_) (fun c_199 => ?_)
    · have eF : fl = false := bI_0.mp c_199
      refine lv_iload_n hx hb dX3_holds_212 rfl (lv_at hl 2 rfl) ?_
      refine lv_if_ne (tgt := 220) hx hb dX3_holds_213 (by decide) (fun c_213 => ?_) (fun c_213 => ?_)
      · first | exact absurd c_199 c_213 | exact absurd c_213 c_199
      · refine lv_iconst (v := nI 1) hx hb dX3_holds_216 (by decide) ?_
        refine lv_goto (tgt := 221) hx hb dX3_holds_217 (by decide) ?_
        exact w_zret hx hb hr hlocks hw rfl (by
                  subst hfl9
                  have hcl : ∀ a, a ≠ 0 → V_2 a = V_D a := fun a ha0 => by rw [hV_2, u2_r _ _ ha0]
                  refine ⟨by rw [eF]; rfl, by rw [hV_2, u2_n _ _ (Or.inr (by decide))]; rw [eF, Bool.not_false, Bool.and_true, hd0 10 (by decide)]; exact har, by rw [hV_2, u2_n _ _ (Or.inr (by decide))]; rw [eF, hd0 2 (by decide)]; exact hfd, by rw [hV_2, u2_n _ _ (Or.inr (by decide))]; exact hd13, by rw [hV_2, u2_s], fun j k2 k10 k13 k16 => by rw [hV_2, u2_n _ _ (Or.inr k16)]; exact hd0 j k13, fun a ha => ?_, fun t ht => ?_, fun d hd i hi => ?_⟩
                  · rw [hcl a (by omega), hD.1 a (by omega) (by omega) (by omega)]; exact hc1 a (by omega) (by omega) (by omega)
                  · rw [hcl 2 (by decide), hD.2.1 t ht, hc1 2 (by decide) (by decide) (by decide)]
                  · have h9 := hD.2.2.2 d hd i hi
                    rw [List.take_length] at h9
                    rw [show mc V_2 d i = mc V_D d i by unfold mc; rw [hcl 1 (by decide), hcl 2 (by decide)]]
                    exact h9) dX3_holds_221
    · have eF : fl = true := bI_n0.mp c_199
      refine lv_aload_n hx hb dX3_holds_202 rfl (lv_at hl 0 rfl) ?_
      refine lv_iconst (v := nI 0) hx hb dX3_holds_203 (by decide) ?_
      refine w_put (ci := 3) (C := RX3) (T := TX3) (M := 24) (x := nI 0) (ty := .boolean) hx hb hts hi3 tyX3 tyX3_ok nmX3 hown hK hw 0 (by omega) _ (mF_0 _) rfl 10 (by decide) (hts (.fieldLink RX3 112 "WideningArrayModel" "isArmed" "Z") (by decide +kernel)) rfl (by decide +kernel) rfl rfl (Nat.le_of_ble_eq_true rfl) (mF_0 _) dX3_holds_204 (fun H locs hw => ?_)
      obtain ⟨V_3, hV_3⟩ : ∃ z : vT, z = u2 V_2 0 10 (nI 0) := ⟨_, rfl⟩
      rw [← hV_3] at hw
      refine lv_aload_n hx hb dX3_holds_207 rfl (lv_at hl 0 rfl) ?_
      refine lv_iconst (v := nI 1) hx hb dX3_holds_208 (by decide) ?_
      refine w_put (ci := 3) (C := RX3) (T := TX3) (M := 24) (x := nI 1) (ty := .boolean) hx hb hts hi3 tyX3 tyX3_ok nmX3 hown hK hw 0 (by omega) _ (mF_0 _) rfl 2 (by decide) (hts (.fieldLink RX3 51 "WideningArrayModel" "hasFailed" "Z") (by decide +kernel)) rfl (by decide +kernel) rfl rfl (Nat.le_of_ble_eq_true rfl) (mF_0 _) dX3_holds_209 (fun H locs hw => ?_)
      obtain ⟨V_4, hV_4⟩ : ∃ z : vT, z = u2 V_3 0 2 (nI 1) := ⟨_, rfl⟩
      rw [← hV_4] at hw
      refine lv_iload_n hx hb dX3_holds_212 rfl (lv_at hl 2 rfl) ?_
      refine lv_if_ne (tgt := 220) hx hb dX3_holds_213 (by decide) (fun c_213 => ?_) (fun c_213 => ?_)
      · refine lv_iconst (v := nI 0) hx hb dX3_holds_220 (by decide) ?_
        exact w_zret hx hb hr hlocks hw rfl (by
                  subst hfl9
                  have hcl : ∀ a, a ≠ 0 → V_4 a = V_D a := fun a ha0 => by rw [hV_4, u2_r _ _ ha0, hV_3, u2_r _ _ ha0, hV_2, u2_r _ _ ha0]
                  refine ⟨by rw [eF]; rfl, by rw [hV_4, u2_n _ _ (Or.inr (by decide)), hV_3, u2_s]; rw [eF, Bool.not_true, Bool.and_false]; rfl, by rw [hV_4, u2_s]; rw [eF]; rfl, by rw [hV_4, u2_n _ _ (Or.inr (by decide)), hV_3, u2_n _ _ (Or.inr (by decide)), hV_2, u2_n _ _ (Or.inr (by decide))]; exact hd13, by rw [hV_4, u2_n _ _ (Or.inr (by decide)), hV_3, u2_n _ _ (Or.inr (by decide)), hV_2, u2_s], fun j k2 k10 k13 k16 => by rw [hV_4, u2_n _ _ (Or.inr k2), hV_3, u2_n _ _ (Or.inr k10), hV_2, u2_n _ _ (Or.inr k16)]; exact hd0 j k13, fun a ha => ?_, fun t ht => ?_, fun d hd i hi => ?_⟩
                  · rw [hcl a (by omega), hD.1 a (by omega) (by omega) (by omega)]; exact hc1 a (by omega) (by omega) (by omega)
                  · rw [hcl 2 (by decide), hD.2.1 t ht, hc1 2 (by decide) (by decide) (by decide)]
                  · have h9 := hD.2.2.2 d hd i hi
                    rw [List.take_length] at h9
                    rw [show mc V_4 d i = mc V_D d i by unfold mc; rw [hcl 1 (by decide), hcl 2 (by decide)]]
                    exact h9) dX3_holds_221
      · first | exact absurd c_199 c_213 | exact absurd c_213 c_199
  · refine lv_aload_n hx hb dX3_holds_17 rfl (lv_at hl 0 rfl) ?_
    refine w_get (ci := 3) (C := RX3) (T := TX3) (M := 24) (v := .int (nI (pp + 1))) hx hb hts hi3 hown hK hw 0 (by omega) _ (mF_0 _) rfl 13 (by decide) (hts (.fieldLink RX3 109 "WideningArrayModel" "points" "I") (by decide +kernel)) (congrArg (fun z => some (Value.int z)) (show V_1 0 13 = nI (pp + 1) from by rw [hV_1, u2_s])) dX3_holds_18 ?_
    refine lv_aload_n hx hb dX3_holds_21 rfl (lv_at hl 0 rfl) ?_
    refine w_get (ci := 3) (C := RX3) (T := TX3) (M := 24) (v := .int fa) hx hb hts hi3 hown hK hw 0 (by omega) _ (mF_0 _) rfl 11 (by decide) (hts (.fieldLink RX3 115 "WideningArrayModel" "failAt" "I") (by decide +kernel)) (congrArg (fun z => some (Value.int z)) (show V_1 0 11 = fa from by rw [hV_1, u2_n _ _ (Or.inr (by decide))]; exact (hfa))) dX3_holds_22 ?_
    refine lv_icmp_eq (tgt := 32) hx hb dX3_holds_25 (by decide) (fun c_25 => ?_) (fun c_25 => ?_)
    · refine lv_iconst (v := nI 1) hx hb dX3_holds_32 (by decide) ?_
      refine lv_goto (tgt := 37) hx hb dX3_holds_33 (by decide) ?_
      refine n_is (show nI 1 = bI (hfl ar pp fa la) from by unfold hfl; first | (rw [bI_n0.mp c_14, decide_eq_true c_25]; rfl) | (rw [bI_n0.mp c_14, bI_n0.mp c_29, Bool.or_true]; rfl)) ?_
      obtain ⟨fl, hfl9⟩ : ∃ z : Bool, z = hfl ar pp fa la := ⟨_, rfl⟩
      rw [← hfl9]
      refine lv_istore_n (lv' := [(2, .int (bI fl)), (0, .ref (ad 0)), (1, .int (bI la))]) hx hb dX3_holds_37 rfl hl (by decide) rfl (fun ls hl => ?_)
      refine lv_iconst (v := nI 0) hx hb dX3_holds_38 (by decide) ?_
      refine lv_istore_n (lv' := [(3, .int (nI 0)), (2, .int (bI fl)), (0, .ref (ad 0)), (1, .int (bI la))]) hx hb dX3_holds_39 rfl hl (by decide) rfl (fun ls hl => ?_)
      refine lp_X3_holds_a hx hb hts hown hml hK la fl V_1 (fun V_A H locs ls hA hw hl => ?_) 7 0 V_1 _ _ ls (by omega) ⟨fun _ _ => rfl, fun t ht => absurd ht (by omega)⟩ hw (lv_sub hl [0, 2, 3, 1] rfl)
      refine lv_iconst (v := nI 0) hx hb dX3_holds_59 (by decide) ?_
      refine lv_istore_n (lv' := [(3, .int (nI 0)), (0, .ref (ad 0)), (1, .int (bI la)), (2, .int (bI fl))]) hx hb dX3_holds_60 rfl hl (by decide) rfl (fun ls hl => ?_)
      have q1 : ∀ a, a ≠ 0 → V_1 a = V a := fun a ha => by rw [hV_1, u2_r _ _ ha]
      have qa : gQ V_A L := gQ_congr (by rw [hA.1 0 (by decide), hV_1, u2_n _ _ (Or.inr (by decide))]) (by rw [hA.1 3 (by decide), q1 3 (by decide)]) (by rw [hA.1 4 (by decide), q1 4 (by decide)]) (by rw [hA.1 5 (by decide), q1 5 (by decide)]) hQ
      refine lp_X3_holds_b hx hb hts hown hml hK la fl V_A L qa (fun V_B H locs ls hB hw hl => ?_) L.length 0 V_A _ _ ls (by omega) ⟨fun _ _ => rfl, fun t ht => hA.2 t ht⟩ hw (lv_sub hl [0, 1, 2, 3] rfl)
      refine lv_iconst (v := nI 0) hx hb dX3_holds_90 (by decide) ?_
      refine lv_istore_n (lv' := [(3, .int (nI 0)), (0, .ref (ad 0)), (1, .int (bI la)), (2, .int (bI fl))]) hx hb dX3_holds_91 rfl hl (by decide) rfl (fun ls hl => ?_)
      have qb : gQ V_B L := gQ_congr (by rw [hB.1 0 (by decide)]) (hB.1 3 (by decide)) (hB.1 4 (by decide)) (hB.1 5 (by decide)) qa
      refine lp_X3_holds_c hx hb hts hown hml hK la fl V_B L qb sh (by rw [hB.1 0 (by decide), hA.1 0 (by decide), hV_1, u2_n _ _ (Or.inr (by decide))]; exact hsh) hB.2 (fun V_C H locs ls hC hw hl => ?_) 7 0 V_B _ _ ls (by omega) ⟨fun _ _ => rfl, fun t ht => absurd ht (by omega)⟩ hw (lv_sub hl [0, 1, 2, 3] rfl)
      refine lv_iconst (v := nI 0) hx hb dX3_holds_143 (by decide) ?_
      refine lv_istore_n (lv' := [(3, .int (nI 0)), (0, .ref (ad 0)), (1, .int (bI la)), (2, .int (bI fl))]) hx hb dX3_holds_144 rfl hl (by decide) rfl (fun ls hl => ?_)
      have qc : gQ V_C L := gQ_congr (by rw [hC.1 0 (by decide)]) (hC.1 3 (by decide)) (hC.1 4 (by decide)) (hC.1 5 (by decide)) qb
      have hc0 : V_C 0 = V_1 0 := by rw [hC.1 0 (by decide), hB.1 0 (by decide), hA.1 0 (by decide)]
      have hc1 : ∀ a, a ≠ 0 → a ≠ 6 → a ≠ 7 → V_C a = V a := fun a h0 h6 h7 => by rw [hC.1 a h7, hB.1 a h6, hA.1 a h6, q1 a h0]
      have hc8 : V_C 0 8 = V 0 8 := by rw [hc0, hV_1, u2_n _ _ (Or.inr (by decide))]
      have hc9 : V_C 0 9 = V 0 9 := by rw [hc0, hV_1, u2_n _ _ (Or.inr (by decide))]
      have hcm : mc V_C = mc V := by funext d i; unfold mc; rw [hc1 1 (by decide) (by decide) (by decide), hc1 2 (by decide) (by decide) (by decide)]
      refine lp_X3_holds_d hx hb hts hown hml hK la fl V_C L qc sh (by rw [hc8, hc9]; exact hlf) (fun V_D H locs ls hD hw hl => ?_) L.length 0 V_C _ _ ls (by omega) ⟨fun _ _ _ _ => rfl, fun _ _ => rfl, fun t ht => by rw [hC.2 t ht]; show _ = _ - nI 0; rw [show nI 0 = (0 : Int32) from rfl, Int32.sub_zero], fun d hd i hi => by show _ = apL (([] : List Wr).take _) _ _; rw [List.take_nil]; rfl⟩ hw (lv_sub hl [0, 1, 2, 3] rfl)
      rw [hc8, hc9, hcm] at hD
      have hd0 : ∀ j, j ≠ 13 → V_D 0 j = V 0 j := fun j hj => by rw [hD.1 0 (by decide) (by decide) (by decide), hc0, hV_1, u2_n _ _ (Or.inr hj)]
      have hd13 : V_D 0 13 = nI (pp + 1) := by rw [hD.1 0 (by decide) (by decide) (by decide), hc0, hV_1, u2_s]
      refine lv_aload_n hx hb dX3_holds_193 rfl (lv_at hl 0 rfl) ?_
      refine lv_iconst (v := nI 0) hx hb dX3_holds_194 (by decide) ?_
      refine w_put (ci := 3) (C := RX3) (T := TX3) (M := 24) (x := nI 0) (ty := .int) hx hb hts hi3 tyX3 tyX3_ok nmX3 hown hK hw 0 (by omega) _ (mF_0 _) rfl 16 (by decide) (hts (.fieldLink RX3 99 "WideningArrayModel" "waiting" "I") (by decide +kernel)) rfl (by decide +kernel) rfl rfl (Nat.le_of_ble_eq_true rfl) (mF_0 _) dX3_holds_195 (fun H locs hw => ?_)
      obtain ⟨V_5, hV_5⟩ : ∃ z : vT, z = u2 V_D 0 16 (nI 0) := ⟨_, rfl⟩
      rw [← hV_5] at hw
      refine lv_iload_n hx hb dX3_holds_198 rfl (lv_at hl 2 rfl) ?_
      refine lv_if_eq (tgt := 212) hx hb dX3_holds_199 (by decide) (fun c_199 => ?_) (fun c_199 => ?_)
      · have eF : fl = false := bI_0.mp c_199
        refine lv_iload_n hx hb dX3_holds_212 rfl (lv_at hl 2 rfl) ?_
        refine lv_if_ne (tgt := 220) hx hb dX3_holds_213 (by decide) (fun c_213 => ?_) (fun c_213 => ?_)
        · first | exact absurd c_199 c_213 | exact absurd c_213 c_199
        · refine lv_iconst (v := nI 1) hx hb dX3_holds_216 (by decide) ?_
          refine lv_goto (tgt := 221) hx hb dX3_holds_217 (by decide) ?_
          exact w_zret hx hb hr hlocks hw rfl (by
                      subst hfl9
                      have hcl : ∀ a, a ≠ 0 → V_5 a = V_D a := fun a ha0 => by rw [hV_5, u2_r _ _ ha0]
                      refine ⟨by rw [eF]; rfl, by rw [hV_5, u2_n _ _ (Or.inr (by decide))]; rw [eF, Bool.not_false, Bool.and_true, hd0 10 (by decide)]; exact har, by rw [hV_5, u2_n _ _ (Or.inr (by decide))]; rw [eF, hd0 2 (by decide)]; exact hfd, by rw [hV_5, u2_n _ _ (Or.inr (by decide))]; exact hd13, by rw [hV_5, u2_s], fun j k2 k10 k13 k16 => by rw [hV_5, u2_n _ _ (Or.inr k16)]; exact hd0 j k13, fun a ha => ?_, fun t ht => ?_, fun d hd i hi => ?_⟩
                      · rw [hcl a (by omega), hD.1 a (by omega) (by omega) (by omega)]; exact hc1 a (by omega) (by omega) (by omega)
                      · rw [hcl 2 (by decide), hD.2.1 t ht, hc1 2 (by decide) (by decide) (by decide)]
                      · have h9 := hD.2.2.2 d hd i hi
                        rw [List.take_length] at h9
                        rw [show mc V_5 d i = mc V_D d i by unfold mc; rw [hcl 1 (by decide), hcl 2 (by decide)]]
                        exact h9) dX3_holds_221
      · have eF : fl = true := bI_n0.mp c_199
        refine lv_aload_n hx hb dX3_holds_202 rfl (lv_at hl 0 rfl) ?_
        refine lv_iconst (v := nI 0) hx hb dX3_holds_203 (by decide) ?_
        refine w_put (ci := 3) (C := RX3) (T := TX3) (M := 24) (x := nI 0) (ty := .boolean) hx hb hts hi3 tyX3 tyX3_ok nmX3 hown hK hw 0 (by omega) _ (mF_0 _) rfl 10 (by decide) (hts (.fieldLink RX3 112 "WideningArrayModel" "isArmed" "Z") (by decide +kernel)) rfl (by decide +kernel) rfl rfl (Nat.le_of_ble_eq_true rfl) (mF_0 _) dX3_holds_204 (fun H locs hw => ?_)
        obtain ⟨V_6, hV_6⟩ : ∃ z : vT, z = u2 V_5 0 10 (nI 0) := ⟨_, rfl⟩
        rw [← hV_6] at hw
        refine lv_aload_n hx hb dX3_holds_207 rfl (lv_at hl 0 rfl) ?_
        refine lv_iconst (v := nI 1) hx hb dX3_holds_208 (by decide) ?_
        refine w_put (ci := 3) (C := RX3) (T := TX3) (M := 24) (x := nI 1) (ty := .boolean) hx hb hts hi3 tyX3 tyX3_ok nmX3 hown hK hw 0 (by omega) _ (mF_0 _) rfl 2 (by decide) (hts (.fieldLink RX3 51 "WideningArrayModel" "hasFailed" "Z") (by decide +kernel)) rfl (by decide +kernel) rfl rfl (Nat.le_of_ble_eq_true rfl) (mF_0 _) dX3_holds_209 (fun H locs hw => ?_)
        obtain ⟨V_7, hV_7⟩ : ∃ z : vT, z = u2 V_6 0 2 (nI 1) := ⟨_, rfl⟩
        rw [← hV_7] at hw
        refine lv_iload_n hx hb dX3_holds_212 rfl (lv_at hl 2 rfl) ?_
        refine lv_if_ne (tgt := 220) hx hb dX3_holds_213 (by decide) (fun c_213 => ?_) (fun c_213 => ?_)
        · refine lv_iconst (v := nI 0) hx hb dX3_holds_220 (by decide) ?_
          exact w_zret hx hb hr hlocks hw rfl (by
                      subst hfl9
                      have hcl : ∀ a, a ≠ 0 → V_7 a = V_D a := fun a ha0 => by rw [hV_7, u2_r _ _ ha0, hV_6, u2_r _ _ ha0, hV_5, u2_r _ _ ha0]
                      refine ⟨by rw [eF]; rfl, by rw [hV_7, u2_n _ _ (Or.inr (by decide)), hV_6, u2_s]; rw [eF, Bool.not_true, Bool.and_false]; rfl, by rw [hV_7, u2_s]; rw [eF]; rfl, by rw [hV_7, u2_n _ _ (Or.inr (by decide)), hV_6, u2_n _ _ (Or.inr (by decide)), hV_5, u2_n _ _ (Or.inr (by decide))]; exact hd13, by rw [hV_7, u2_n _ _ (Or.inr (by decide)), hV_6, u2_n _ _ (Or.inr (by decide)), hV_5, u2_s], fun j k2 k10 k13 k16 => by rw [hV_7, u2_n _ _ (Or.inr k2), hV_6, u2_n _ _ (Or.inr k10), hV_5, u2_n _ _ (Or.inr k16)]; exact hd0 j k13, fun a ha => ?_, fun t ht => ?_, fun d hd i hi => ?_⟩
                      · rw [hcl a (by omega), hD.1 a (by omega) (by omega) (by omega)]; exact hc1 a (by omega) (by omega) (by omega)
                      · rw [hcl 2 (by decide), hD.2.1 t ht, hc1 2 (by decide) (by decide) (by decide)]
                      · have h9 := hD.2.2.2 d hd i hi
                        rw [List.take_length] at h9
                        rw [show mc V_7 d i = mc V_D d i by unfold mc; rw [hcl 1 (by decide), hcl 2 (by decide)]]
                        exact h9) dX3_holds_221
        · first | exact absurd c_199 c_213 | exact absurd c_213 c_199
    · refine lv_iload_n hx hb dX3_holds_28 rfl (lv_at hl 1 rfl) ?_
      refine lv_if_eq (tgt := 36) hx hb dX3_holds_29 (by decide) (fun c_29 => ?_) (fun c_29 => ?_)
      · refine lv_iconst (v := nI 0) hx hb dX3_holds_36 (by decide) ?_
        refine n_is (show nI 0 = bI (hfl ar pp fa la) from by unfold hfl; first | (rw [bI_n0.mp c_14, decide_eq_false c_25, bI_0.mp c_29]; rfl) | (rw [bI_0.mp c_14]; rfl)) ?_
        obtain ⟨fl, hfl9⟩ : ∃ z : Bool, z = hfl ar pp fa la := ⟨_, rfl⟩
        rw [← hfl9]
        refine lv_istore_n (lv' := [(2, .int (bI fl)), (0, .ref (ad 0)), (1, .int (bI la))]) hx hb dX3_holds_37 rfl hl (by decide) rfl (fun ls hl => ?_)
        refine lv_iconst (v := nI 0) hx hb dX3_holds_38 (by decide) ?_
        refine lv_istore_n (lv' := [(3, .int (nI 0)), (2, .int (bI fl)), (0, .ref (ad 0)), (1, .int (bI la))]) hx hb dX3_holds_39 rfl hl (by decide) rfl (fun ls hl => ?_)
        refine lp_X3_holds_a hx hb hts hown hml hK la fl V_1 (fun V_A H locs ls hA hw hl => ?_) 7 0 V_1 _ _ ls (by omega) ⟨fun _ _ => rfl, fun t ht => absurd ht (by omega)⟩ hw (lv_sub hl [0, 2, 3, 1] rfl)
        refine lv_iconst (v := nI 0) hx hb dX3_holds_59 (by decide) ?_
        refine lv_istore_n (lv' := [(3, .int (nI 0)), (0, .ref (ad 0)), (1, .int (bI la)), (2, .int (bI fl))]) hx hb dX3_holds_60 rfl hl (by decide) rfl (fun ls hl => ?_)
        have q1 : ∀ a, a ≠ 0 → V_1 a = V a := fun a ha => by rw [hV_1, u2_r _ _ ha]
        have qa : gQ V_A L := gQ_congr (by rw [hA.1 0 (by decide), hV_1, u2_n _ _ (Or.inr (by decide))]) (by rw [hA.1 3 (by decide), q1 3 (by decide)]) (by rw [hA.1 4 (by decide), q1 4 (by decide)]) (by rw [hA.1 5 (by decide), q1 5 (by decide)]) hQ
        refine lp_X3_holds_b hx hb hts hown hml hK la fl V_A L qa (fun V_B H locs ls hB hw hl => ?_) L.length 0 V_A _ _ ls (by omega) ⟨fun _ _ => rfl, fun t ht => hA.2 t ht⟩ hw (lv_sub hl [0, 1, 2, 3] rfl)
        refine lv_iconst (v := nI 0) hx hb dX3_holds_90 (by decide) ?_
        refine lv_istore_n (lv' := [(3, .int (nI 0)), (0, .ref (ad 0)), (1, .int (bI la)), (2, .int (bI fl))]) hx hb dX3_holds_91 rfl hl (by decide) rfl (fun ls hl => ?_)
        have qb : gQ V_B L := gQ_congr (by rw [hB.1 0 (by decide)]) (hB.1 3 (by decide)) (hB.1 4 (by decide)) (hB.1 5 (by decide)) qa
        refine lp_X3_holds_c hx hb hts hown hml hK la fl V_B L qb sh (by rw [hB.1 0 (by decide), hA.1 0 (by decide), hV_1, u2_n _ _ (Or.inr (by decide))]; exact hsh) hB.2 (fun V_C H locs ls hC hw hl => ?_) 7 0 V_B _ _ ls (by omega) ⟨fun _ _ => rfl, fun t ht => absurd ht (by omega)⟩ hw (lv_sub hl [0, 1, 2, 3] rfl)
        refine lv_iconst (v := nI 0) hx hb dX3_holds_143 (by decide) ?_
        refine lv_istore_n (lv' := [(3, .int (nI 0)), (0, .ref (ad 0)), (1, .int (bI la)), (2, .int (bI fl))]) hx hb dX3_holds_144 rfl hl (by decide) rfl (fun ls hl => ?_)
        have qc : gQ V_C L := gQ_congr (by rw [hC.1 0 (by decide)]) (hC.1 3 (by decide)) (hC.1 4 (by decide)) (hC.1 5 (by decide)) qb
        have hc0 : V_C 0 = V_1 0 := by rw [hC.1 0 (by decide), hB.1 0 (by decide), hA.1 0 (by decide)]
        have hc1 : ∀ a, a ≠ 0 → a ≠ 6 → a ≠ 7 → V_C a = V a := fun a h0 h6 h7 => by rw [hC.1 a h7, hB.1 a h6, hA.1 a h6, q1 a h0]
        have hc8 : V_C 0 8 = V 0 8 := by rw [hc0, hV_1, u2_n _ _ (Or.inr (by decide))]
        have hc9 : V_C 0 9 = V 0 9 := by rw [hc0, hV_1, u2_n _ _ (Or.inr (by decide))]
        have hcm : mc V_C = mc V := by funext d i; unfold mc; rw [hc1 1 (by decide) (by decide) (by decide), hc1 2 (by decide) (by decide) (by decide)]
        refine lp_X3_holds_d hx hb hts hown hml hK la fl V_C L qc sh (by rw [hc8, hc9]; exact hlf) (fun V_D H locs ls hD hw hl => ?_) L.length 0 V_C _ _ ls (by omega) ⟨fun _ _ _ _ => rfl, fun _ _ => rfl, fun t ht => by rw [hC.2 t ht]; show _ = _ - nI 0; rw [show nI 0 = (0 : Int32) from rfl, Int32.sub_zero], fun d hd i hi => by show _ = apL (([] : List Wr).take _) _ _; rw [List.take_nil]; rfl⟩ hw (lv_sub hl [0, 1, 2, 3] rfl)
        rw [hc8, hc9, hcm] at hD
        have hd0 : ∀ j, j ≠ 13 → V_D 0 j = V 0 j := fun j hj => by rw [hD.1 0 (by decide) (by decide) (by decide), hc0, hV_1, u2_n _ _ (Or.inr hj)]
        have hd13 : V_D 0 13 = nI (pp + 1) := by rw [hD.1 0 (by decide) (by decide) (by decide), hc0, hV_1, u2_s]
        refine lv_aload_n hx hb dX3_holds_193 rfl (lv_at hl 0 rfl) ?_
        refine lv_iconst (v := nI 0) hx hb dX3_holds_194 (by decide) ?_
        refine w_put (ci := 3) (C := RX3) (T := TX3) (M := 24) (x := nI 0) (ty := .int) hx hb hts hi3 tyX3 tyX3_ok nmX3 hown hK hw 0 (by omega) _ (mF_0 _) rfl 16 (by decide) (hts (.fieldLink RX3 99 "WideningArrayModel" "waiting" "I") (by decide +kernel)) rfl (by decide +kernel) rfl rfl (Nat.le_of_ble_eq_true rfl) (mF_0 _) dX3_holds_195 (fun H locs hw => ?_)
        obtain ⟨V_8, hV_8⟩ : ∃ z : vT, z = u2 V_D 0 16 (nI 0) := ⟨_, rfl⟩
        rw [← hV_8] at hw
        refine lv_iload_n hx hb dX3_holds_198 rfl (lv_at hl 2 rfl) ?_
        refine lv_if_eq (tgt := 212) hx hb dX3_holds_199 (by decide) (fun c_199 => ?_) (fun c_199 => ?_)
        · have eF : fl = false := bI_0.mp c_199
          refine lv_iload_n hx hb dX3_holds_212 rfl (lv_at hl 2 rfl) ?_
          refine lv_if_ne (tgt := 220) hx hb dX3_holds_213 (by decide) (fun c_213 => ?_) (fun c_213 => ?_)
          · first | exact absurd c_199 c_213 | exact absurd c_213 c_199
          · refine lv_iconst (v := nI 1) hx hb dX3_holds_216 (by decide) ?_
            refine lv_goto (tgt := 221) hx hb dX3_holds_217 (by decide) ?_
            exact w_zret hx hb hr hlocks hw rfl (by
                          subst hfl9
                          have hcl : ∀ a, a ≠ 0 → V_8 a = V_D a := fun a ha0 => by rw [hV_8, u2_r _ _ ha0]
                          refine ⟨by rw [eF]; rfl, by rw [hV_8, u2_n _ _ (Or.inr (by decide))]; rw [eF, Bool.not_false, Bool.and_true, hd0 10 (by decide)]; exact har, by rw [hV_8, u2_n _ _ (Or.inr (by decide))]; rw [eF, hd0 2 (by decide)]; exact hfd, by rw [hV_8, u2_n _ _ (Or.inr (by decide))]; exact hd13, by rw [hV_8, u2_s], fun j k2 k10 k13 k16 => by rw [hV_8, u2_n _ _ (Or.inr k16)]; exact hd0 j k13, fun a ha => ?_, fun t ht => ?_, fun d hd i hi => ?_⟩
                          · rw [hcl a (by omega), hD.1 a (by omega) (by omega) (by omega)]; exact hc1 a (by omega) (by omega) (by omega)
                          · rw [hcl 2 (by decide), hD.2.1 t ht, hc1 2 (by decide) (by decide) (by decide)]
                          · have h9 := hD.2.2.2 d hd i hi
                            rw [List.take_length] at h9
                            rw [show mc V_8 d i = mc V_D d i by unfold mc; rw [hcl 1 (by decide), hcl 2 (by decide)]]
                            exact h9) dX3_holds_221
        · have eF : fl = true := bI_n0.mp c_199
          refine lv_aload_n hx hb dX3_holds_202 rfl (lv_at hl 0 rfl) ?_
          refine lv_iconst (v := nI 0) hx hb dX3_holds_203 (by decide) ?_
          refine w_put (ci := 3) (C := RX3) (T := TX3) (M := 24) (x := nI 0) (ty := .boolean) hx hb hts hi3 tyX3 tyX3_ok nmX3 hown hK hw 0 (by omega) _ (mF_0 _) rfl 10 (by decide) (hts (.fieldLink RX3 112 "WideningArrayModel" "isArmed" "Z") (by decide +kernel)) rfl (by decide +kernel) rfl rfl (Nat.le_of_ble_eq_true rfl) (mF_0 _) dX3_holds_204 (fun H locs hw => ?_)
          obtain ⟨V_9, hV_9⟩ : ∃ z : vT, z = u2 V_8 0 10 (nI 0) := ⟨_, rfl⟩
          rw [← hV_9] at hw
          refine lv_aload_n hx hb dX3_holds_207 rfl (lv_at hl 0 rfl) ?_
          refine lv_iconst (v := nI 1) hx hb dX3_holds_208 (by decide) ?_
          refine w_put (ci := 3) (C := RX3) (T := TX3) (M := 24) (x := nI 1) (ty := .boolean) hx hb hts hi3 tyX3 tyX3_ok nmX3 hown hK hw 0 (by omega) _ (mF_0 _) rfl 2 (by decide) (hts (.fieldLink RX3 51 "WideningArrayModel" "hasFailed" "Z") (by decide +kernel)) rfl (by decide +kernel) rfl rfl (Nat.le_of_ble_eq_true rfl) (mF_0 _) dX3_holds_209 (fun H locs hw => ?_)
          obtain ⟨V_10, hV_10⟩ : ∃ z : vT, z = u2 V_9 0 2 (nI 1) := ⟨_, rfl⟩
          rw [← hV_10] at hw
          refine lv_iload_n hx hb dX3_holds_212 rfl (lv_at hl 2 rfl) ?_
          refine lv_if_ne (tgt := 220) hx hb dX3_holds_213 (by decide) (fun c_213 => ?_) (fun c_213 => ?_)
          · refine lv_iconst (v := nI 0) hx hb dX3_holds_220 (by decide) ?_
            exact w_zret hx hb hr hlocks hw rfl (by
                          subst hfl9
                          have hcl : ∀ a, a ≠ 0 → V_10 a = V_D a := fun a ha0 => by rw [hV_10, u2_r _ _ ha0, hV_9, u2_r _ _ ha0, hV_8, u2_r _ _ ha0]
                          refine ⟨by rw [eF]; rfl, by rw [hV_10, u2_n _ _ (Or.inr (by decide)), hV_9, u2_s]; rw [eF, Bool.not_true, Bool.and_false]; rfl, by rw [hV_10, u2_s]; rw [eF]; rfl, by rw [hV_10, u2_n _ _ (Or.inr (by decide)), hV_9, u2_n _ _ (Or.inr (by decide)), hV_8, u2_n _ _ (Or.inr (by decide))]; exact hd13, by rw [hV_10, u2_n _ _ (Or.inr (by decide)), hV_9, u2_n _ _ (Or.inr (by decide)), hV_8, u2_s], fun j k2 k10 k13 k16 => by rw [hV_10, u2_n _ _ (Or.inr k2), hV_9, u2_n _ _ (Or.inr k10), hV_8, u2_n _ _ (Or.inr k16)]; exact hd0 j k13, fun a ha => ?_, fun t ht => ?_, fun d hd i hi => ?_⟩
                          · rw [hcl a (by omega), hD.1 a (by omega) (by omega) (by omega)]; exact hc1 a (by omega) (by omega) (by omega)
                          · rw [hcl 2 (by decide), hD.2.1 t ht, hc1 2 (by decide) (by decide) (by decide)]
                          · have h9 := hD.2.2.2 d hd i hi
                            rw [List.take_length] at h9
                            rw [show mc V_10 d i = mc V_D d i by unfold mc; rw [hcl 1 (by decide), hcl 2 (by decide)]]
                            exact h9) dX3_holds_221
          · first | exact absurd c_199 c_213 | exact absurd c_213 c_199
      · refine lv_iconst (v := nI 1) hx hb dX3_holds_32 (by decide) ?_
        refine lv_goto (tgt := 37) hx hb dX3_holds_33 (by decide) ?_
        refine n_is (show nI 1 = bI (hfl ar pp fa la) from by unfold hfl; first | (rw [bI_n0.mp c_14, decide_eq_true c_25]; rfl) | (rw [bI_n0.mp c_14, bI_n0.mp c_29, Bool.or_true]; rfl)) ?_
        obtain ⟨fl, hfl9⟩ : ∃ z : Bool, z = hfl ar pp fa la := ⟨_, rfl⟩
        rw [← hfl9]
        refine lv_istore_n (lv' := [(2, .int (bI fl)), (0, .ref (ad 0)), (1, .int (bI la))]) hx hb dX3_holds_37 rfl hl (by decide) rfl (fun ls hl => ?_)
        refine lv_iconst (v := nI 0) hx hb dX3_holds_38 (by decide) ?_
        refine lv_istore_n (lv' := [(3, .int (nI 0)), (2, .int (bI fl)), (0, .ref (ad 0)), (1, .int (bI la))]) hx hb dX3_holds_39 rfl hl (by decide) rfl (fun ls hl => ?_)
        refine lp_X3_holds_a hx hb hts hown hml hK la fl V_1 (fun V_A H locs ls hA hw hl => ?_) 7 0 V_1 _ _ ls (by omega) ⟨fun _ _ => rfl, fun t ht => absurd ht (by omega)⟩ hw (lv_sub hl [0, 2, 3, 1] rfl)
        refine lv_iconst (v := nI 0) hx hb dX3_holds_59 (by decide) ?_
        refine lv_istore_n (lv' := [(3, .int (nI 0)), (0, .ref (ad 0)), (1, .int (bI la)), (2, .int (bI fl))]) hx hb dX3_holds_60 rfl hl (by decide) rfl (fun ls hl => ?_)
        have q1 : ∀ a, a ≠ 0 → V_1 a = V a := fun a ha => by rw [hV_1, u2_r _ _ ha]
        have qa : gQ V_A L := gQ_congr (by rw [hA.1 0 (by decide), hV_1, u2_n _ _ (Or.inr (by decide))]) (by rw [hA.1 3 (by decide), q1 3 (by decide)]) (by rw [hA.1 4 (by decide), q1 4 (by decide)]) (by rw [hA.1 5 (by decide), q1 5 (by decide)]) hQ
        refine lp_X3_holds_b hx hb hts hown hml hK la fl V_A L qa (fun V_B H locs ls hB hw hl => ?_) L.length 0 V_A _ _ ls (by omega) ⟨fun _ _ => rfl, fun t ht => hA.2 t ht⟩ hw (lv_sub hl [0, 1, 2, 3] rfl)
        refine lv_iconst (v := nI 0) hx hb dX3_holds_90 (by decide) ?_
        refine lv_istore_n (lv' := [(3, .int (nI 0)), (0, .ref (ad 0)), (1, .int (bI la)), (2, .int (bI fl))]) hx hb dX3_holds_91 rfl hl (by decide) rfl (fun ls hl => ?_)
        have qb : gQ V_B L := gQ_congr (by rw [hB.1 0 (by decide)]) (hB.1 3 (by decide)) (hB.1 4 (by decide)) (hB.1 5 (by decide)) qa
        refine lp_X3_holds_c hx hb hts hown hml hK la fl V_B L qb sh (by rw [hB.1 0 (by decide), hA.1 0 (by decide), hV_1, u2_n _ _ (Or.inr (by decide))]; exact hsh) hB.2 (fun V_C H locs ls hC hw hl => ?_) 7 0 V_B _ _ ls (by omega) ⟨fun _ _ => rfl, fun t ht => absurd ht (by omega)⟩ hw (lv_sub hl [0, 1, 2, 3] rfl)
        refine lv_iconst (v := nI 0) hx hb dX3_holds_143 (by decide) ?_
        refine lv_istore_n (lv' := [(3, .int (nI 0)), (0, .ref (ad 0)), (1, .int (bI la)), (2, .int (bI fl))]) hx hb dX3_holds_144 rfl hl (by decide) rfl (fun ls hl => ?_)
        have qc : gQ V_C L := gQ_congr (by rw [hC.1 0 (by decide)]) (hC.1 3 (by decide)) (hC.1 4 (by decide)) (hC.1 5 (by decide)) qb
        have hc0 : V_C 0 = V_1 0 := by rw [hC.1 0 (by decide), hB.1 0 (by decide), hA.1 0 (by decide)]
        have hc1 : ∀ a, a ≠ 0 → a ≠ 6 → a ≠ 7 → V_C a = V a := fun a h0 h6 h7 => by rw [hC.1 a h7, hB.1 a h6, hA.1 a h6, q1 a h0]
        have hc8 : V_C 0 8 = V 0 8 := by rw [hc0, hV_1, u2_n _ _ (Or.inr (by decide))]
        have hc9 : V_C 0 9 = V 0 9 := by rw [hc0, hV_1, u2_n _ _ (Or.inr (by decide))]
        have hcm : mc V_C = mc V := by funext d i; unfold mc; rw [hc1 1 (by decide) (by decide) (by decide), hc1 2 (by decide) (by decide) (by decide)]
        refine lp_X3_holds_d hx hb hts hown hml hK la fl V_C L qc sh (by rw [hc8, hc9]; exact hlf) (fun V_D H locs ls hD hw hl => ?_) L.length 0 V_C _ _ ls (by omega) ⟨fun _ _ _ _ => rfl, fun _ _ => rfl, fun t ht => by rw [hC.2 t ht]; show _ = _ - nI 0; rw [show nI 0 = (0 : Int32) from rfl, Int32.sub_zero], fun d hd i hi => by show _ = apL (([] : List Wr).take _) _ _; rw [List.take_nil]; rfl⟩ hw (lv_sub hl [0, 1, 2, 3] rfl)
        rw [hc8, hc9, hcm] at hD
        have hd0 : ∀ j, j ≠ 13 → V_D 0 j = V 0 j := fun j hj => by rw [hD.1 0 (by decide) (by decide) (by decide), hc0, hV_1, u2_n _ _ (Or.inr hj)]
        have hd13 : V_D 0 13 = nI (pp + 1) := by rw [hD.1 0 (by decide) (by decide) (by decide), hc0, hV_1, u2_s]
        refine lv_aload_n hx hb dX3_holds_193 rfl (lv_at hl 0 rfl) ?_
        refine lv_iconst (v := nI 0) hx hb dX3_holds_194 (by decide) ?_
        refine w_put (ci := 3) (C := RX3) (T := TX3) (M := 24) (x := nI 0) (ty := .int) hx hb hts hi3 tyX3 tyX3_ok nmX3 hown hK hw 0 (by omega) _ (mF_0 _) rfl 16 (by decide) (hts (.fieldLink RX3 99 "WideningArrayModel" "waiting" "I") (by decide +kernel)) rfl (by decide +kernel) rfl rfl (Nat.le_of_ble_eq_true rfl) (mF_0 _) dX3_holds_195 (fun H locs hw => ?_)
        obtain ⟨V_11, hV_11⟩ : ∃ z : vT, z = u2 V_D 0 16 (nI 0) := ⟨_, rfl⟩
        rw [← hV_11] at hw
        refine lv_iload_n hx hb dX3_holds_198 rfl (lv_at hl 2 rfl) ?_
        refine lv_if_eq (tgt := 212) hx hb dX3_holds_199 (by decide) (fun c_199 => ?_) (fun c_199 => ?_)
        · have eF : fl = false := bI_0.mp c_199
          refine lv_iload_n hx hb dX3_holds_212 rfl (lv_at hl 2 rfl) ?_
          refine lv_if_ne (tgt := 220) hx hb dX3_holds_213 (by decide) (fun c_213 => ?_) (fun c_213 => ?_)
          · first | exact absurd c_199 c_213 | exact absurd c_213 c_199
          · refine lv_iconst (v := nI 1) hx hb dX3_holds_216 (by decide) ?_
            refine lv_goto (tgt := 221) hx hb dX3_holds_217 (by decide) ?_
            exact w_zret hx hb hr hlocks hw rfl (by
                          subst hfl9
                          have hcl : ∀ a, a ≠ 0 → V_11 a = V_D a := fun a ha0 => by rw [hV_11, u2_r _ _ ha0]
                          refine ⟨by rw [eF]; rfl, by rw [hV_11, u2_n _ _ (Or.inr (by decide))]; rw [eF, Bool.not_false, Bool.and_true, hd0 10 (by decide)]; exact har, by rw [hV_11, u2_n _ _ (Or.inr (by decide))]; rw [eF, hd0 2 (by decide)]; exact hfd, by rw [hV_11, u2_n _ _ (Or.inr (by decide))]; exact hd13, by rw [hV_11, u2_s], fun j k2 k10 k13 k16 => by rw [hV_11, u2_n _ _ (Or.inr k16)]; exact hd0 j k13, fun a ha => ?_, fun t ht => ?_, fun d hd i hi => ?_⟩
                          · rw [hcl a (by omega), hD.1 a (by omega) (by omega) (by omega)]; exact hc1 a (by omega) (by omega) (by omega)
                          · rw [hcl 2 (by decide), hD.2.1 t ht, hc1 2 (by decide) (by decide) (by decide)]
                          · have h9 := hD.2.2.2 d hd i hi
                            rw [List.take_length] at h9
                            rw [show mc V_11 d i = mc V_D d i by unfold mc; rw [hcl 1 (by decide), hcl 2 (by decide)]]
                            exact h9) dX3_holds_221
        · have eF : fl = true := bI_n0.mp c_199
          refine lv_aload_n hx hb dX3_holds_202 rfl (lv_at hl 0 rfl) ?_
          refine lv_iconst (v := nI 0) hx hb dX3_holds_203 (by decide) ?_
          refine w_put (ci := 3) (C := RX3) (T := TX3) (M := 24) (x := nI 0) (ty := .boolean) hx hb hts hi3 tyX3 tyX3_ok nmX3 hown hK hw 0 (by omega) _ (mF_0 _) rfl 10 (by decide) (hts (.fieldLink RX3 112 "WideningArrayModel" "isArmed" "Z") (by decide +kernel)) rfl (by decide +kernel) rfl rfl (Nat.le_of_ble_eq_true rfl) (mF_0 _) dX3_holds_204 (fun H locs hw => ?_)
          obtain ⟨V_12, hV_12⟩ : ∃ z : vT, z = u2 V_11 0 10 (nI 0) := ⟨_, rfl⟩
          rw [← hV_12] at hw
          refine lv_aload_n hx hb dX3_holds_207 rfl (lv_at hl 0 rfl) ?_
          refine lv_iconst (v := nI 1) hx hb dX3_holds_208 (by decide) ?_
          refine w_put (ci := 3) (C := RX3) (T := TX3) (M := 24) (x := nI 1) (ty := .boolean) hx hb hts hi3 tyX3 tyX3_ok nmX3 hown hK hw 0 (by omega) _ (mF_0 _) rfl 2 (by decide) (hts (.fieldLink RX3 51 "WideningArrayModel" "hasFailed" "Z") (by decide +kernel)) rfl (by decide +kernel) rfl rfl (Nat.le_of_ble_eq_true rfl) (mF_0 _) dX3_holds_209 (fun H locs hw => ?_)
          obtain ⟨V_13, hV_13⟩ : ∃ z : vT, z = u2 V_12 0 2 (nI 1) := ⟨_, rfl⟩
          rw [← hV_13] at hw
          refine lv_iload_n hx hb dX3_holds_212 rfl (lv_at hl 2 rfl) ?_
          refine lv_if_ne (tgt := 220) hx hb dX3_holds_213 (by decide) (fun c_213 => ?_) (fun c_213 => ?_)
          · refine lv_iconst (v := nI 0) hx hb dX3_holds_220 (by decide) ?_
            exact w_zret hx hb hr hlocks hw rfl (by
                          subst hfl9
                          have hcl : ∀ a, a ≠ 0 → V_13 a = V_D a := fun a ha0 => by rw [hV_13, u2_r _ _ ha0, hV_12, u2_r _ _ ha0, hV_11, u2_r _ _ ha0]
                          refine ⟨by rw [eF]; rfl, by rw [hV_13, u2_n _ _ (Or.inr (by decide)), hV_12, u2_s]; rw [eF, Bool.not_true, Bool.and_false]; rfl, by rw [hV_13, u2_s]; rw [eF]; rfl, by rw [hV_13, u2_n _ _ (Or.inr (by decide)), hV_12, u2_n _ _ (Or.inr (by decide)), hV_11, u2_n _ _ (Or.inr (by decide))]; exact hd13, by rw [hV_13, u2_n _ _ (Or.inr (by decide)), hV_12, u2_n _ _ (Or.inr (by decide)), hV_11, u2_s], fun j k2 k10 k13 k16 => by rw [hV_13, u2_n _ _ (Or.inr k2), hV_12, u2_n _ _ (Or.inr k10), hV_11, u2_n _ _ (Or.inr k16)]; exact hd0 j k13, fun a ha => ?_, fun t ht => ?_, fun d hd i hi => ?_⟩
                          · rw [hcl a (by omega), hD.1 a (by omega) (by omega) (by omega)]; exact hc1 a (by omega) (by omega) (by omega)
                          · rw [hcl 2 (by decide), hD.2.1 t ht, hc1 2 (by decide) (by decide) (by decide)]
                          · have h9 := hD.2.2.2 d hd i hi
                            rw [List.take_length] at h9
                            rw [show mc V_13 d i = mc V_D d i by unfold mc; rw [hcl 1 (by decide), hcl 2 (by decide)]]
                            exact h9) dX3_holds_221
          · first | exact absurd c_199 c_213 | exact absurd c_213 c_199
