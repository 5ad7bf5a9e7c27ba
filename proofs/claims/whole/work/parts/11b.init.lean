/-! worlds side by side -/
theorem P_left {D : va_G} {cl : List vw_C} {w1 w2 : va_W} {H : Heap} (h : va_P D cl (w1 ++ w2) H) : va_P D cl w1 H := fun k q hk => h k q (by rw [List.getElem?_append_left (List.getElem?_eq_some_iff.mp hk).1]; exact hk)
theorem P_right {D : va_G} {cl : List vw_C} {w1 w2 : va_W} {H : Heap} (h : va_P D cl (w1 ++ w2) H) : va_P D cl w2 H := fun k q hk => h (w1.length + k) q (by rw [List.getElem?_append_right (by omega), Nat.add_sub_cancel_left]; exact hk)
theorem D_left {A : Nat → Prop} {w1 w2 : va_W} (h : va_D A (w1 ++ w2)) : va_D A w1 := ⟨fun i j p q hi hj e => h.1 i j p q (by rw [List.getElem?_append_left (List.getElem?_eq_some_iff.mp hi).1]; exact hi) (by rw [List.getElem?_append_left (List.getElem?_eq_some_iff.mp hj).1]; exact hj) e, fun k q hk => h.2 k q (by rw [List.getElem?_append_left (List.getElem?_eq_some_iff.mp hk).1]; exact hk)⟩
theorem D_one {A : Nat → Prop} {x : Nat × va_E} (h : A x.1) : va_D A [x] := by
  refine ⟨fun i j p q hi hj _ => ?_, fun k q hk => ?_⟩
  · have h1 := (List.getElem?_eq_some_iff.mp hi).1
    have h2 := (List.getElem?_eq_some_iff.mp hj).1
    simp only [List.length_cons, List.length_nil] at h1 h2
    omega
  · have hz : k < 1 := (List.getElem?_eq_some_iff.mp hk).1
    rw [show k = 0 by omega] at hk
    cases hk
    exact h
/-- the last cell grows into a world of its own -/
theorem join_last {D : va_G} {cl : List vw_C} {A : Nat → Prop} {ws w1 : va_W} {x : Nat × va_E} {H H1 : Heap} (hP : va_P D cl (ws ++ [x]) H) (hD : va_D A (ws ++ [x])) (hF : ∀ z, va_A [x] H.size z → A z) (hk : ∀ q : Nat, q < H.size → ¬ va_A [x] H.size q → H1[q]? = H[q]?) (hP1 : va_P D cl w1 H1) (hD1 : va_D (va_A [x] H.size) w1) : va_P D cl (ws ++ w1) H1 ∧ va_D A (ws ++ w1) := by
  have hne : ∀ (k : Nat) (y : Nat × va_E), ws[k]? = some y → ¬ va_A [x] H.size y.1 := by
    intro k y hy h
    have hlt : y.1 < H.size := (P_left hP k y hy).lt
    have hkl := (List.getElem?_eq_some_iff.mp hy).1
    rcases h with ⟨i, e, hi⟩ | h
    · have hz : i < 1 := (List.getElem?_eq_some_iff.mp hi).1
      rw [show i = 0 by omega] at hi
      cases hi
      have h9 := hD.1 k ws.length y (y.1, e) (by rw [List.getElem?_append_left hkl]; exact hy) (by rw [List.getElem?_append_right (Nat.le_refl _), Nat.sub_self]; rfl) rfl
      omega
    · omega
  exact ⟨((P_left hP).kept (fun k y hy => hk y.1 (P_left hP k y hy).lt (hne k y hy))).app hP1, va_D.app (D_left hD) (hD1.weaken (fun _ _ _ h => hF _ h)) (fun i j p q hi hj e => hne i p hi (by rw [e]; exact hD1.2 j q hj))⟩
/-! the class's constructor: disks made one by one -/
theorem arr_ext {cA : ClassId} {N : Nat} {f g : Nat → Value} (h : ∀ j, j < N → f j = g j) : arrV cA N f = arrV cA N g := by
  unfold arrV
  rw [show (fun j : Fin N => f j.val) = fun j : Fin N => g j.val from funext (fun j => h j.val j.isLt)]
def v0 : vT := fun k j => if k = 0 ∧ (j = 6 ∨ j = 7) then -1 else 0
def cE (cI cD : ClassId) (ad : Nat → Nat) (d k : Nat) : va_E := if k = 1 then .inl (cD, 6, .inr (.inr (.inr (.inr (fun j => if j < d then some (ad (5 + 7 * j)) else none))))) else cF cI cD ad k (v0 k)
def jn (ad ad2 : Nat → Nat) (d : Nat) : Nat → Nat := fun k => if k < 5 + 7 * d then ad k else ad2 (k - (5 + 7 * d))
theorem jn_l {ad ad2 : Nat → Nat} {d k : Nat} (h : k < 5 + 7 * d) : jn ad ad2 d k = ad k := if_pos h
theorem jn_r {ad ad2 : Nat → Nat} {d k r : Nat} (h : k = 5 + 7 * d + r) : jn ad ad2 d k = ad2 r := by
  unfold jn
  rw [if_neg (by omega), h, Nat.add_sub_cancel_left]
theorem cF_congr {cI cD : ClassId} {ad ad' : Nat → Nat} {d k : Nat} (h : ∀ j, j < 5 + 7 * d → ad' j = ad j) (hk : k < 5 + 7 * d) (h1 : k ≠ 1) (f : Nat → Int32) : cF cI cD ad' k f = cF cI cD ad k f := by
  unfold cF
  by_cases e0 : k = 0
  · rw [if_pos e0, if_pos e0, h 1 (by omega), h 2 (by omega), h 3 (by omega), h 4 (by omega)]
  · rw [if_neg e0, if_neg e0, if_neg h1, if_neg h1]
    by_cases e5 : k % 7 = 5 ∧ 5 ≤ k
    · have q : k + 6 < 5 + 7 * d := by omega
      rw [h (k + 1) (by omega), h (k + 2) (by omega), h (k + 3) (by omega), h (k + 4) (by omega), h (k + 5) (by omega), h (k + 6) (by omega)]
    · by_cases e2 : k = 2
      · rw [if_pos e2, if_pos e2]
      · by_cases e3 : k = 3
        · rw [if_neg e2, if_neg e2, if_pos e3, if_pos e3]
        · by_cases e4 : k = 4
          · rw [if_neg e2, if_neg e2, if_neg e3, if_neg e3, if_pos e4, if_pos e4]
          · have q : ¬ k % 7 = 5 := fun q => e5 ⟨q, by omega⟩
            rw [if_neg q, if_neg q]
theorem ini_eq {cI cD : ClassId} {ad ad2 : Nat → Nat} {d : Nat} :
    (wl (5 + 7 * d) ad (cE cI cD ad d) ++ dsk cI ad2).set 1 (ad 1, .inl (cD, 6, .inr (.inr (.inr (.inr (va_up (fun j => if j < d then some (ad (5 + 7 * j)) else none) d (some (ad2 0)))))))) = wl (5 + 7 * (d + 1)) (jn ad ad2 d) (cE cI cD (jn ad ad2 d) (d + 1)) := by
  have hlen : (wl (5 + 7 * d) ad (cE cI cD ad d) ++ dsk cI ad2).length = 5 + 7 * (d + 1) := by rw [List.length_append, wl_len]; show 5 + 7 * d + 7 = _; omega
  apply List.ext_getElem?
  intro k
  by_cases hk : k < 5 + 7 * (d + 1)
  · rw [wl_get hk, List.getElem?_set]
    by_cases e1 : k = 1
    · subst e1
      rw [if_pos rfl, if_pos (by rw [hlen]; omega), jn_l (by omega)]
      have hf : va_up (fun j => if j < d then some (ad (5 + 7 * j)) else none) d (some (ad2 0)) = fun j => if j < d + 1 then some (jn ad ad2 d (5 + 7 * j)) else none := by
        funext j
        unfold va_up
        by_cases q : j = d
        · subst q
          rw [if_pos rfl, if_pos (by omega), jn_r (k := 5 + 7 * j) (r := 0) rfl]
        · rw [if_neg q]
          show (if j < d then some (ad (5 + 7 * j)) else none) = _
          by_cases q2 : j < d
          · rw [if_pos q2, if_pos (by omega), jn_l (by omega)]
          · rw [if_neg q2, if_neg (by omega)]
      unfold cE
      rw [if_pos rfl, hf]
    · rw [if_neg (fun q => e1 q.symm)]
      by_cases hl : k < 5 + 7 * d
      · rw [List.getElem?_append_left (by rw [wl_len]; exact hl), wl_get hl, jn_l hl]
        unfold cE
        rw [if_neg e1, if_neg e1, cF_congr (ad := ad) (ad' := jn ad ad2 d) (d := d) (fun j hj => jn_l hj) hl e1]
      · rw [List.getElem?_append_right (by rw [wl_len]; omega), wl_len]
        obtain ⟨r, rfl⟩ : ∃ r, k = 5 + 7 * d + r := ⟨k - (5 + 7 * d), by omega⟩
        rw [Nat.add_sub_cancel_left, jn_r (r := r) rfl]
        unfold cE
        rw [if_neg e1]
        have hv : v0 (5 + 7 * d + r) = fun _ => 0 := by
          funext j
          unfold v0
          rw [if_neg (by omega)]
        rw [hv]
        rcases (show r = 0 ∨ r = 1 ∨ r = 2 ∨ r = 3 ∨ r = 4 ∨ r = 5 ∨ r = 6 by omega) with rfl | rfl | rfl | rfl | rfl | rfl | rfl
        · rw [show 5 + 7 * d + 0 = 5 + 7 * d by omega, cF_d0 d, jn_r (k := 6 + 7 * d) (r := 1) (by omega), jn_r (k := 7 + 7 * d) (r := 2) (by omega), jn_r (k := 8 + 7 * d) (r := 3) (by omega), jn_r (k := 9 + 7 * d) (r := 4) (by omega), jn_r (k := 10 + 7 * d) (r := 5) (by omega), jn_r (k := 11 + 7 * d) (r := 6) (by omega)]
          rfl
        · rw [show 5 + 7 * d + 1 = 6 + 7 * d by omega, cF_d1 d]; rfl
        · rw [show 5 + 7 * d + 2 = 7 + 7 * d by omega, cF_d2 d]; rfl
        · rw [show 5 + 7 * d + 3 = 8 + 7 * d by omega, cF_d3 d]; rfl
        · rw [show 5 + 7 * d + 4 = 9 + 7 * d by omega, cF_d4 d]; rfl
        · rw [show 5 + 7 * d + 5 = 10 + 7 * d by omega, cF_d5 d]; rfl
        · rw [show 5 + 7 * d + 6 = 11 + 7 * d by omega, cF_d6 d]; rfl
  · rw [wl_no hk, List.getElem?_eq_none_iff, List.length_set, hlen]
    omega
theorem ini_0 {cI cD : ClassId} {ad : Nat → Nat} : [(ad 0, .inr (2, [.ref (ad 1), .ref (ad 2), .ref (ad 3), .ref (ad 4), .int 0, .int 0, .int (-1), .int (-1), .int 0, .int 0])), (ad 1, .inl (cD, 6, .inr (.inr (.inr (.inr (fun _ => none)))))), (ad 2, .inr (1, [.int 0, .int 0, .int 0, .int 0, .int 0])), (ad 3, .inl (cI, 24, .inl (fun _ => 0))), (ad 4, .inl (cI, 4, .inl (fun _ => 0)))] = wl (5 + 7 * 0) ad (cE cI cD ad 0) := by
  have hf : (fun j => if j < 0 then some (ad (5 + 7 * j)) else none) = fun _ => (none : Option Nat) := funext (fun j => if_neg (Nat.not_lt_zero _))
  have h1 : cE cI cD ad 0 1 = .inl (cD, 6, .inr (.inr (.inr (.inr (fun _ => none))))) := by
    unfold cE
    rw [if_pos rfl, hf]
  show _ = [(ad 0, cE cI cD ad 0 0), (ad 1, cE cI cD ad 0 1), (ad 2, cE cI cD ad 0 2), (ad 3, cE cI cD ad 0 3), (ad 4, cE cI cD ad 0 4)]
  rw [h1]
  rfl
/-- six disks: the world of a new array -/
theorem ini_47 {cI cD : ClassId} {ad : Nat → Nat} {D : va_G} {H : Heap} (h : va_P D vwCl (wl 47 ad (cE cI cD ad 6)) H) : va_P D vwCl (wl 47 ad (fun k => cF cI cD ad k (v0 k))) H := by
  intro k q hk
  obtain ⟨h1, rfl⟩ := wl_of hk
  have h2 := h k _ (wl_get h1)
  by_cases e1 : k = 1
  · subst e1
    have he : ∀ f g : Nat → Option Nat, (∀ j, j < 6 → f j = g j) → vp_cell cD (6, .inr (.inr (.inr (.inr f)))) = vp_cell cD (6, .inr (.inr (.inr (.inr g)))) := fun f g hfg => by
      rw [vp_cell_q, vp_cell_q]
      exact arr_ext (fun j hj => by rw [hfg j hj])
    have h3 : H[ad 1]? = some (vp_cell cD (6, .inr (.inr (.inr (.inr (fun j => if j < 6 then some (ad (5 + 7 * j)) else none)))))) := h2
    show H[ad 1]? = some (vp_cell cD (6, .inr (.inr (.inr (.inr (fun j => some (ad (5 + 7 * j))))))))
    rw [h3, he _ (fun j => some (ad (5 + 7 * j))) (fun j hj => if_pos hj)]
  · unfold cE at h2
    rw [if_neg e1] at h2
    exact h2
set_option maxHeartbeats 4000000 in
set_option maxRecDepth 100000 in
theorem init_loop {p : Program} {l : Launch} {e : Env} {s : State} {m : MethodId} {args : Array Value} {below : List Frame} {meth : Method} {c : Code} {Q : State → Prop} {D : va_G} {cI cD : ClassId} {A : Nat → Prop} {h0 : Nat} (hx : p.tables.exec = Jvm.exec) (hb : c.code = cX2_init) (hts : ∀ w ∈ wsX2_init, w.before args s = true) (hown : s.vm.findClass RX2 = some m.cls) (hml : c.maxLocals = 2) (hK : kK D cI cD s) (hAO : va_AO RX0 s) (hA : ∀ q, s.heap.size ≤ q → A q)
    (hk : ∀ (ad : Nat → Nat) (H1 : Heap) (locs1 : List Loc) (ls : Array Slot), ad 0 = h0 → va_P D vwCl (wl 47 ad (cE cI cD ad 6)) H1 → va_D A (wl 47 ad (cE cI cD ad 6)) → va_S A s.heap H1 locs1 → W p l e ({ frames := 3, cells := 46, slots := 1371, locals := 52 }) s m args below meth c H1 locs1 46 1371 Q (F0 m 76 ls [])) :
    ∀ (n d : Nat) (ad : Nat → Nat) (H : Heap) (locs : List Loc) (ls : Array Slot), d + n = 6 → ad 0 = h0 → va_P D vwCl (wl (5 + 7 * d) ad (cE cI cD ad d)) H → va_D A (wl (5 + 7 * d) ad (cE cI cD ad d)) → va_S A s.heap H locs → lv_has ls 2 [(1, .int (nI d)), (0, .ref h0)] → W p l e ({ frames := 3, cells := 46, slots := 1371, locals := 52 }) s m args below meth c H locs (4 + 7 * d) (39 + 222 * d) Q (F0 m 51 ls []) := by
  have hi2 : ∀ w ∈ wsX20, w ∈ wsX2_init := by decide +kernel
  have hi0 : ∀ w ∈ wsX00, w ∈ wsX2_init := by decide +kernel
  intro n
  induction n with
  | zero =>
    intro d ad H locs ls hdn he0 hP hD hS hl
    obtain rfl : d = 6 := by omega
    refine lv_iload_n hx hb dX2_init_51 rfl (lv_at hl 0 rfl) ?_
    refine lv_bipush (v := nI 6) hx hb dX2_init_52 (by decide) ?_
    refine n_icmp_ge (tgt := 76) hx hb dX2_init_54 (by decide) (by omega) (by omega) (fun c_54 => ?_) (fun c_54 => ?_)
    · exact hk ad H locs ls he0 hP hD hS
    · exact absurd c_54 (by omega)
  | succ n ih =>
    intro d ad H locs ls hdn he0 hP hD hS hl
    have hd : d < 6 := by omega
    refine lv_iload_n hx hb dX2_init_51 rfl (lv_at hl 0 rfl) ?_
    refine lv_bipush (v := nI 6) hx hb dX2_init_52 (by decide) ?_
    refine n_icmp_ge (tgt := 76) hx hb dX2_init_54 (by decide) (by omega) (by omega) (fun c_54 => ?_) (fun c_54 => ?_)
    · exact absurd c_54 (by omega)
    refine lv_aload_n hx hb dX2_init_57 rfl (lv_at hl 1 rfl) ?_
    have hz0 : (wl (5 + 7 * d) ad (cE cI cD ad d))[0]? = some (h0, .inr (2, [.ref (ad 1), .ref (ad 2), .ref (ad 3), .ref (ad 4), .int 0, .int 0, .int (-1), .int (-1), .int 0, .int 0])) := by
      rw [wl_get (by omega), he0]
      rfl
    refine va_get (ci := 2) (C := RX2) (T := TX2) (N := 10) (v := .ref (ad 1)) hx hb hts hi2 hown hK.1 hP 0 hz0 rfl 0 (by decide) (hts (.fieldLink RX2 11 "WideningArray" "disks" "[LWideningArray$Disk;") (by decide +kernel)) (fun _ h => h) rfl dX2_init_58 ?_
    refine lv_iload_n hx hb dX2_init_61 rfl (lv_at hl 0 rfl) ?_
    refine va_new (ci := 0) (fs := [.null, .null, .null, .int 0, .null, .null, .null]) hx hb hts hi0 tyX0 tyX0_ok hown (hts (.classLink RX2 9 RX0) (by decide +kernel)) (hts (.instantiable RX0 7) (by decide +kernel)) (hts (.initialized RX0) (by decide +kernel)) hK.1 hP hD hS hA rfl dfX0 (show 4 + 7 * d + 1 ≤ 46 by omega) (show 39 + 222 * d + 7 ≤ 1371 by omega) dX2_init_62 (fun q H hP hD hS => ?_)
    refine lv_dup hx hb dX2_init_65 rfl ?_
    have hqr := P_right hP
    have hqA : A q := hD.2 (5 + 7 * d) (q, .inr (0, [.null, .null, .null, .int 0, .null, .null, .null])) (by rw [List.getElem?_append_right (by rw [wl_len]; omega), wl_len, Nat.sub_self]; rfl)
    have hF : ∀ z, va_A [(q, .inr (0, [.null, .null, .null, .int 0, .null, .null, .null]))] H.size z → A z := fun z h => by
      rcases h with ⟨i, e9, hi⟩ | h
      · have hz : i < 1 := (List.getElem?_eq_some_iff.mp hi).1
        rw [show i = 0 by omega] at hi
        cases hi
        exact hqA
      · exact hA z (Nat.le_trans hS.1 h)
    refine va_callv (va_runIN (As := []) (rest := [.ref q, .int (nI d), .ref (ad 1)]) ⟨hx, hb, hml, hown, hts⟩ (c_X0_init l D cI cD q H.size) ⟨va_cnB 0 hts gX2_init_X0_init_n36 rfl rfl rfl (hK.2 (.methodLinkNest "WideningArray" 36 yX0_init "WideningArray") (by decide +kernel)) (hts (.initialized RX0) (by decide +kernel)) (by decide +kernel) ⟨Nat.le_of_ble_eq_true rfl, Nat.le_of_ble_eq_true rfl⟩, rfl, hts (.instanceMethod yX0_init) (by decide +kernel)⟩ ⟨nP_blind, fun U hU hW => ⟨rfl, by rw [hU], by rw [hU]; exact hqr, hK.warm hW, D_one trivial, va_AO.moved hW.alike hAO⟩⟩ rfl rfl hl.1 rfl (lv_room (Nat.le_of_ble_eq_true rfl)) dX2_init_66 ⟨show 4 + 7 * d + 1 + 6 ≤ 46 by omega, show 39 + 222 * d + 7 + 215 ≤ 1371 by omega⟩) hS (fun z _ h => hF z h) hF (fun ad2 t9 H1 locs ht hvm hw9 hB9 hz1 hk1 hS => ?_)
    rw [ht] at hB9
    have hJ := join_last hP hD hF hk1 hB9.1 hB9.2
    clear hk1 hz1 hB9 hF hqA hqr hz0 ht hvm hP hD
    obtain ⟨hP, hD⟩ := hJ
    subst hw9
    refine va_astq hx hb hK.1 hP hD hS 1 1 (5 + 7 * d) 0 (f := fun j => if j < d then some (ad (5 + 7 * j)) else none) (vs := [.ref (ad2 1), .ref (ad2 2), .ref (ad2 3), .int 0, .ref (ad2 4), .ref (ad2 5), .ref (ad2 6)]) (v := ad2 0) (cA := cD) (n := 6) (by rw [List.getElem?_append_left (by rw [wl_len]; omega), wl_get (by omega)]; rfl) rfl (by rw [List.getElem?_append_right (by rw [wl_len]; omega), wl_len, Nat.sub_self]; rfl) rfl (i := nI d) (vp_in_nI hd (by decide)) dX2_init_69 (fun H locs hP hD hS => ?_)
    rw [nI_clamp (by omega), ini_eq] at hP hD
    refine lv_iinc (v := nI (d + 1)) (lv' := [(1, .int (nI (d + 1))), (0, .ref h0)]) hx hb dX2_init_70 hl (k := 0) rfl (nI_1 _) (by decide) rfl (fun ls hl => ?_)
    refine lv_goto (tgt := 51) hx hb dX2_init_73 (by decide) ?_
    refine W.widen (k := 4 + 7 * (d + 1)) (n := 39 + 222 * (d + 1)) (by omega) (by omega) ?_
    exact ih (d + 1) (jn ad ad2 d) H locs ls (by omega) (by rw [jn_l (by omega)]; exact he0) hP hD hS hl
set_option maxHeartbeats 4000000 in
set_option maxRecDepth 100000 in
theorem c_X2_init (l : Launch) (D : va_G) (cI cD : ClassId) (h0 sz : Nat) : Met l yX2_init wsX2_init ({ frames := 3, cells := 46, slots := 1371, locals := 52 }) (nP D cI cD sz [(h0, .inr (2, [.null, .null, .null, .null, .int 0, .int 0, .int 0, .int 0, .int 0, .int 0]))] [.ref h0]) (va_Qv (fun ad : Nat → Nat => ad 0 = h0) (fun ad t => va_P D vwCl (wl 47 ad (fun k => cF cI cD ad k (v0 k))) t.heap ∧ va_D (va_A [(h0, .inr (2, [.null, .null, .null, .null, .int 0, .int 0, .int 0, .int 0, .int 0, .int 0]))] sz) (wl 47 ad (fun k => cF cI cD ad k (v0 k)))) (va_A [(h0, .inr (2, [.null, .null, .null, .null, .int 0, .int 0, .int 0, .int 0, .int 0, .int 0]))] sz)) 46 1371 (va_A [(h0, .inr (2, [.null, .null, .null, .null, .int 0, .int 0, .int 0, .int 0, .int 0, .int 0]))] sz) := by
  refine Met.ofW (cc := cX2_init) (maxL := 2) (ret := none) (by decide) rfl ?_
  intro p e s m args below meth c s₁ B hml hv
  obtain ⟨rfl, hsz, hP, hK, hD0, hAO⟩ := hv
  have hx := B.exec
  have hb := B.bytes
  have hr := B.returns
  have hts := atoms_spec (ws := wsX2_init) B.pre
  have hown : s.vm.findClass RX2 = some m.cls := findClass_of_methodNamed B.named
  have hlocks := B.notSynchronized
  have hin : meth.name = "<init>" := (name_of_methodNamed B.named B.method).1
  subst hsz
  have hD := hD0.self (sz := s.heap.size)
  generalize hAe : va_A [(h0, .inr (2, [.null, .null, .null, .null, .int 0, .int 0, .int 0, .int 0, .int 0, .int 0]))] s.heap.size = A at hD ⊢
  have hA : ∀ q : Nat, s.heap.size ≤ q → A q := fun q h => by rw [← hAe]; exact Or.inr h
  have hS : va_S A s.heap s.heap [] := va_S.rf
  have hl := lv_entry ([.ref h0]) (n := 2) (Nat.le_of_ble_eq_true rfl)
  rw [lg_entry_eq]
  generalize (lg_sl ([.ref h0]) ++ List.replicate (2 - (lg_sl ([.ref h0])).length) Slot.unset).toArray = ls at hl ⊢
  have hl : lv_has ls 2 [(0, .ref h0)] := hl
  have hi2 : ∀ w ∈ wsX20, w ∈ wsX2_init := by decide +kernel
  have hi1 : ∀ w ∈ wsX10, w ∈ wsX2_init := by decide +kernel
  refine lv_aload_n hx hb dX2_init_0 rfl (lv_at hl 0 rfl) ?_
  refine W.objInit hx hb hown (hts (.methodLink RX2 1 objectInit) (by decide +kernel)) (hts (.instanceMethod objectInit) (by decide +kernel)) (hts _ (List.mem_cons_of_mem _ (List.mem_of_getElem? (i := 2) rfl))) rfl (by rw [hml]; exact hl.1) rfl dX2_init_1 (Nat.le_of_ble_eq_true rfl) (Nat.le_of_ble_eq_true rfl) ?_
  refine W.eq (g2 := F0 m 4 ls []) rfl ?_
  refine lv_aload_n hx hb dX2_init_4 rfl (lv_at hl 0 rfl) ?_
  refine lv_bipush (v := nI 6) hx hb dX2_init_5 (by decide) ?_
  refine va_newq hx hb hown (hts (.classLink RX2 9 RX0) (by decide +kernel)) hAO hK.1 hP hD hS hA (n := nI 6) (N' := 6) (by decide) (by decide) (by decide) (Nat.le_of_ble_eq_true rfl) (Nat.le_of_ble_eq_true rfl) dX2_init_7 (fun q1 cA H hKq hP hD hS => ?_)
  have hc9 : cD = cA := (cA_obj hKq).symm
  subst hc9
  clear hKq
  have hP : va_P D vwCl [(h0, .inr (2, [.null, .null, .null, .null, .int 0, .int 0, .int 0, .int 0, .int 0, .int 0])), (q1, .inl (cD, 6, .inr (.inr (.inr (.inr (fun _ => none))))))] H := hP
  have hD : va_D A [(h0, .inr (2, [.null, .null, .null, .null, .int 0, .int 0, .int 0, .int 0, .int 0, .int 0])), (q1, .inl (cD, 6, .inr (.inr (.inr (.inr (fun _ => none))))))] := hD
  refine va_putF hx hb hts hi2 tyX2 tyX2_ok nmX2 hown hK.1 hP hD hS 0 rfl rfl 0 (by decide) (hts (.fieldLink RX2 11 "WideningArray" "disks" "[LWideningArray$Disk;") (by decide +kernel)) (fun _ h => h) rfl hin rfl (ty := tyX2 0) (v := .ref q1) (tyX2_ok 0 (by decide)) rfl rfl (Nat.le_of_ble_eq_true rfl) dX2_init_10 (fun H locs hP hD hS => ?_)
  have hP : va_P D vwCl [(h0, .inr (2, [.ref q1, .null, .null, .null, .int 0, .int 0, .int 0, .int 0, .int 0, .int 0])), (q1, .inl (cD, 6, .inr (.inr (.inr (.inr (fun _ => none))))))] H := hP
  have hD : va_D A [(h0, .inr (2, [.ref q1, .null, .null, .null, .int 0, .int 0, .int 0, .int 0, .int 0, .int 0])), (q1, .inl (cD, 6, .inr (.inr (.inr (.inr (fun _ => none))))))] := hD
  refine lv_aload_n hx hb dX2_init_13 rfl (lv_at hl 0 rfl) ?_
  refine va_new hx hb hts hi1 tyX1 tyX1_ok hown (hts (.classLink RX2 15 RX1) (by decide +kernel)) (hts (.instantiable RX1 5) (by decide +kernel)) (hts (.initialized RX1) (by decide +kernel)) hK.1 hP hD hS hA (ci := 1) rfl (fs := [.int 0, .int 0, .int 0, .int 0, .int 0]) dfX1 (Nat.le_of_ble_eq_true rfl) (Nat.le_of_ble_eq_true rfl) dX2_init_14 (fun q2 H hP hD hS => ?_)
  have hP : va_P D vwCl [(h0, .inr (2, [.ref q1, .null, .null, .null, .int 0, .int 0, .int 0, .int 0, .int 0, .int 0])), (q1, .inl (cD, 6, .inr (.inr (.inr (.inr (fun _ => none)))))), (q2, .inr (1, [.int 0, .int 0, .int 0, .int 0, .int 0]))] H := hP
  have hD : va_D A [(h0, .inr (2, [.ref q1, .null, .null, .null, .int 0, .int 0, .int 0, .int 0, .int 0, .int 0])), (q1, .inl (cD, 6, .inr (.inr (.inr (.inr (fun _ => none)))))), (q2, .inr (1, [.int 0, .int 0, .int 0, .int 0, .int 0]))] := hD
  refine lv_dup hx hb dX2_init_17 rfl ?_
  refine va_callv (va_runIN (As := []) (rest := [.ref q2, .ref h0]) ⟨hx, hb, hml, hown, hts⟩ (c_X1_init l q2 H.size) ⟨va_cnB 0 hts gX2_init_X1_init_n17 rfl rfl rfl (hK.2 (.methodLinkNest "WideningArray" 17 yX1_init "WideningArray") (by decide +kernel)) (hts (.initialized RX1) (by decide +kernel)) (by decide +kernel) ⟨Nat.le_of_ble_eq_true rfl, Nat.le_of_ble_eq_true rfl⟩, rfl, hts (.instanceMethod yX1_init) (by decide +kernel)⟩ ⟨fun a U g mk q => q, fun U hU hW => ⟨rfl, by show U.heap.size = _; rw [hU]⟩⟩ rfl rfl hl.1 rfl (lv_room (Nat.le_of_ble_eq_true rfl)) dX2_init_18 ⟨(Nat.le_of_ble_eq_true rfl), (Nat.le_of_ble_eq_true rfl)⟩) hS (fun q h1 h2 => absurd h1 (Nat.not_lt.mpr h2)) (fun q h => hA q (Nat.le_trans hS.1 h)) (fun u9 t9 H1 locs ht hvm hw9 hB9 hz1 hk1 hS => ?_)
  have hP := hP.kept (fun k x hx => hk1 x.1 (hP k x hx).lt (Nat.not_le.mpr (hP k x hx).lt))
  clear hk1 hz1 hB9 hw9
  generalize H1 = H at hP hS ht ⊢
  have hP : va_P D vwCl [(h0, .inr (2, [.ref q1, .null, .null, .null, .int 0, .int 0, .int 0, .int 0, .int 0, .int 0])), (q1, .inl (cD, 6, .inr (.inr (.inr (.inr (fun _ => none)))))), (q2, .inr (1, [.int 0, .int 0, .int 0, .int 0, .int 0]))] H := hP
  have hD : va_D A [(h0, .inr (2, [.ref q1, .null, .null, .null, .int 0, .int 0, .int 0, .int 0, .int 0, .int 0])), (q1, .inl (cD, 6, .inr (.inr (.inr (.inr (fun _ => none)))))), (q2, .inr (1, [.int 0, .int 0, .int 0, .int 0, .int 0]))] := hD
  refine va_putF hx hb hts hi2 tyX2 tyX2_ok nmX2 hown hK.1 hP hD hS 0 rfl rfl 1 (by decide) (hts (.fieldLink RX2 18 "WideningArray" "now" "LWideningArray$Marks;") (by decide +kernel)) (fun _ h => h) rfl hin rfl (ty := tyX2 1) (v := .ref q2) (tyX2_ok 1 (by decide)) rfl rfl (Nat.le_of_ble_eq_true rfl) dX2_init_21 (fun H locs hP hD hS => ?_)
  have hP : va_P D vwCl [(h0, .inr (2, [.ref q1, .ref q2, .null, .null, .int 0, .int 0, .int 0, .int 0, .int 0, .int 0])), (q1, .inl (cD, 6, .inr (.inr (.inr (.inr (fun _ => none)))))), (q2, .inr (1, [.int 0, .int 0, .int 0, .int 0, .int 0]))] H := hP
  have hD : va_D A [(h0, .inr (2, [.ref q1, .ref q2, .null, .null, .int 0, .int 0, .int 0, .int 0, .int 0, .int 0])), (q1, .inl (cD, 6, .inr (.inr (.inr (.inr (fun _ => none)))))), (q2, .inr (1, [.int 0, .int 0, .int 0, .int 0, .int 0]))] := hD
  refine lv_aload_n hx hb dX2_init_24 rfl (lv_at hl 0 rfl) ?_
  refine lv_bipush (v := nI 24) hx hb dX2_init_25 (by decide) ?_
  refine va_newa (atype := .int) (ty := .int) hx hb (hts (.arrayClass .int) (by decide +kernel)) rfl hK.1 hP hD hS hA (n := nI 24) (N' := 24) (a0 := (24, .inl (fun _ => 0))) (fun _ => rfl) (by decide) (by decide) (by decide) (Nat.le_of_ble_eq_true rfl) (Nat.le_of_ble_eq_true rfl) dX2_init_27 (fun q3 cA H hKq hP hD hS => ?_)
  have hc9 : cI = cA := (cA_int hKq).symm
  subst hc9
  clear hKq
  have hP : va_P D vwCl [(h0, .inr (2, [.ref q1, .ref q2, .null, .null, .int 0, .int 0, .int 0, .int 0, .int 0, .int 0])), (q1, .inl (cD, 6, .inr (.inr (.inr (.inr (fun _ => none)))))), (q2, .inr (1, [.int 0, .int 0, .int 0, .int 0, .int 0])), (q3, .inl (cI, 24, .inl (fun _ => 0)))] H := hP
  have hD : va_D A [(h0, .inr (2, [.ref q1, .ref q2, .null, .null, .int 0, .int 0, .int 0, .int 0, .int 0, .int 0])), (q1, .inl (cD, 6, .inr (.inr (.inr (.inr (fun _ => none)))))), (q2, .inr (1, [.int 0, .int 0, .int 0, .int 0, .int 0])), (q3, .inl (cI, 24, .inl (fun _ => 0)))] := hD
  refine va_putF hx hb hts hi2 tyX2 tyX2_ok nmX2 hown hK.1 hP hD hS 0 rfl rfl 2 (by decide) (hts (.fieldLink RX2 22 "WideningArray" "data" "[I") (by decide +kernel)) (fun _ h => h) rfl hin rfl (ty := tyX2 2) (v := .ref q3) (tyX2_ok 2 (by decide)) rfl rfl (Nat.le_of_ble_eq_true rfl) dX2_init_29 (fun H locs hP hD hS => ?_)
  have hP : va_P D vwCl [(h0, .inr (2, [.ref q1, .ref q2, .ref q3, .null, .int 0, .int 0, .int 0, .int 0, .int 0, .int 0])), (q1, .inl (cD, 6, .inr (.inr (.inr (.inr (fun _ => none)))))), (q2, .inr (1, [.int 0, .int 0, .int 0, .int 0, .int 0])), (q3, .inl (cI, 24, .inl (fun _ => 0)))] H := hP
  have hD : va_D A [(h0, .inr (2, [.ref q1, .ref q2, .ref q3, .null, .int 0, .int 0, .int 0, .int 0, .int 0, .int 0])), (q1, .inl (cD, 6, .inr (.inr (.inr (.inr (fun _ => none)))))), (q2, .inr (1, [.int 0, .int 0, .int 0, .int 0, .int 0])), (q3, .inl (cI, 24, .inl (fun _ => 0)))] := hD
  refine lv_aload_n hx hb dX2_init_32 rfl (lv_at hl 0 rfl) ?_
  refine lv_iconst (v := nI 4) hx hb dX2_init_33 (by decide) ?_
  refine va_newa (atype := .int) (ty := .int) hx hb (hts (.arrayClass .int) (by decide +kernel)) rfl hK.1 hP hD hS hA (n := nI 4) (N' := 4) (a0 := (4, .inl (fun _ => 0))) (fun _ => rfl) (by decide) (by decide) (by decide) (Nat.le_of_ble_eq_true rfl) (Nat.le_of_ble_eq_true rfl) dX2_init_34 (fun q4 cA H hKq hP hD hS => ?_)
  have hc9 : cI = cA := (cA_int hKq).symm
  subst hc9
  clear hKq
  have hP : va_P D vwCl [(h0, .inr (2, [.ref q1, .ref q2, .ref q3, .null, .int 0, .int 0, .int 0, .int 0, .int 0, .int 0])), (q1, .inl (cD, 6, .inr (.inr (.inr (.inr (fun _ => none)))))), (q2, .inr (1, [.int 0, .int 0, .int 0, .int 0, .int 0])), (q3, .inl (cI, 24, .inl (fun _ => 0))), (q4, .inl (cI, 4, .inl (fun _ => 0)))] H := hP
  have hD : va_D A [(h0, .inr (2, [.ref q1, .ref q2, .ref q3, .null, .int 0, .int 0, .int 0, .int 0, .int 0, .int 0])), (q1, .inl (cD, 6, .inr (.inr (.inr (.inr (fun _ => none)))))), (q2, .inr (1, [.int 0, .int 0, .int 0, .int 0, .int 0])), (q3, .inl (cI, 24, .inl (fun _ => 0))), (q4, .inl (cI, 4, .inl (fun _ => 0)))] := hD
  refine va_putF hx hb hts hi2 tyX2 tyX2_ok nmX2 hown hK.1 hP hD hS 0 rfl rfl 3 (by decide) (hts (.fieldLink RX2 26 "WideningArray" "parity" "[I") (by decide +kernel)) (fun _ h => h) rfl hin rfl (ty := tyX2 3) (v := .ref q4) (tyX2_ok 3 (by decide)) rfl rfl (Nat.le_of_ble_eq_true rfl) dX2_init_36 (fun H locs hP hD hS => ?_)
  have hP : va_P D vwCl [(h0, .inr (2, [.ref q1, .ref q2, .ref q3, .ref q4, .int 0, .int 0, .int 0, .int 0, .int 0, .int 0])), (q1, .inl (cD, 6, .inr (.inr (.inr (.inr (fun _ => none)))))), (q2, .inr (1, [.int 0, .int 0, .int 0, .int 0, .int 0])), (q3, .inl (cI, 24, .inl (fun _ => 0))), (q4, .inl (cI, 4, .inl (fun _ => 0)))] H := hP
  have hD : va_D A [(h0, .inr (2, [.ref q1, .ref q2, .ref q3, .ref q4, .int 0, .int 0, .int 0, .int 0, .int 0, .int 0])), (q1, .inl (cD, 6, .inr (.inr (.inr (.inr (fun _ => none)))))), (q2, .inr (1, [.int 0, .int 0, .int 0, .int 0, .int 0])), (q3, .inl (cI, 24, .inl (fun _ => 0))), (q4, .inl (cI, 4, .inl (fun _ => 0)))] := hD
  refine lv_aload_n hx hb dX2_init_39 rfl (lv_at hl 0 rfl) ?_
  refine lv_iconst (v := (-1)) hx hb dX2_init_40 (by decide) ?_
  refine va_put hx hb hts hi2 tyX2 tyX2_ok nmX2 hown hK.1 hP hD hS 0 rfl rfl 6 (by decide) (hts (.fieldLink RX2 29 "WideningArray" "lost" "I") (by decide +kernel)) (fun _ h => h) rfl (ty := tyX2 6) (v := .int ((-1))) (tyX2_ok 6 (by decide)) rfl rfl (Nat.le_of_ble_eq_true rfl) dX2_init_41 (fun H locs hP hD hS => ?_)
  have hP : va_P D vwCl [(h0, .inr (2, [.ref q1, .ref q2, .ref q3, .ref q4, .int 0, .int 0, .int ((-1)), .int 0, .int 0, .int 0])), (q1, .inl (cD, 6, .inr (.inr (.inr (.inr (fun _ => none)))))), (q2, .inr (1, [.int 0, .int 0, .int 0, .int 0, .int 0])), (q3, .inl (cI, 24, .inl (fun _ => 0))), (q4, .inl (cI, 4, .inl (fun _ => 0)))] H := hP
  have hD : va_D A [(h0, .inr (2, [.ref q1, .ref q2, .ref q3, .ref q4, .int 0, .int 0, .int ((-1)), .int 0, .int 0, .int 0])), (q1, .inl (cD, 6, .inr (.inr (.inr (.inr (fun _ => none)))))), (q2, .inr (1, [.int 0, .int 0, .int 0, .int 0, .int 0])), (q3, .inl (cI, 24, .inl (fun _ => 0))), (q4, .inl (cI, 4, .inl (fun _ => 0)))] := hD
  refine lv_aload_n hx hb dX2_init_44 rfl (lv_at hl 0 rfl) ?_
  refine lv_iconst (v := (-1)) hx hb dX2_init_45 (by decide) ?_
  refine va_put hx hb hts hi2 tyX2 tyX2_ok nmX2 hown hK.1 hP hD hS 0 rfl rfl 7 (by decide) (hts (.fieldLink RX2 33 "WideningArray" "replaced" "I") (by decide +kernel)) (fun _ h => h) rfl (ty := tyX2 7) (v := .int ((-1))) (tyX2_ok 7 (by decide)) rfl rfl (Nat.le_of_ble_eq_true rfl) dX2_init_46 (fun H locs hP hD hS => ?_)
  have hP : va_P D vwCl [(h0, .inr (2, [.ref q1, .ref q2, .ref q3, .ref q4, .int 0, .int 0, .int ((-1)), .int ((-1)), .int 0, .int 0])), (q1, .inl (cD, 6, .inr (.inr (.inr (.inr (fun _ => none)))))), (q2, .inr (1, [.int 0, .int 0, .int 0, .int 0, .int 0])), (q3, .inl (cI, 24, .inl (fun _ => 0))), (q4, .inl (cI, 4, .inl (fun _ => 0)))] H := hP
  have hD : va_D A [(h0, .inr (2, [.ref q1, .ref q2, .ref q3, .ref q4, .int 0, .int 0, .int ((-1)), .int ((-1)), .int 0, .int 0])), (q1, .inl (cD, 6, .inr (.inr (.inr (.inr (fun _ => none)))))), (q2, .inr (1, [.int 0, .int 0, .int 0, .int 0, .int 0])), (q3, .inl (cI, 24, .inl (fun _ => 0))), (q4, .inl (cI, 4, .inl (fun _ => 0)))] := hD
  refine lv_iconst (v := nI 0) hx hb dX2_init_49 (by decide) ?_
  refine lv_istore_n (lv' := [(1, .int (nI 0)), (0, .ref h0)]) hx hb dX2_init_50 rfl hl (by decide) rfl (fun ls hl => ?_)
  have hP : va_P D vwCl (wl (5 + 7 * 0) (fun k => match k with | 0 => h0 | 1 => q1 | 2 => q2 | 3 => q3 | _ => q4) (cE cI cD (fun k => match k with | 0 => h0 | 1 => q1 | 2 => q2 | 3 => q3 | _ => q4) 0)) H := by rw [← ini_0]; exact hP
  have hD : va_D A (wl (5 + 7 * 0) (fun k => match k with | 0 => h0 | 1 => q1 | 2 => q2 | 3 => q3 | _ => q4) (cE cI cD (fun k => match k with | 0 => h0 | 1 => q1 | 2 => q2 | 3 => q3 | _ => q4) 0)) := by rw [← ini_0]; exact hD
  exact init_loop hx hb hts hown hml hK hAO hA (fun ad H locs ls he0 hP hD hS => W.vret hx hb hr (fun t ht hW => ⟨⟨ad, rfl, he0, by rw [ht]; exact ini_47 hP, by have h9 := wl_D (E' := fun k => cF cI cD ad k (v0 k)) hD; first | exact h9 | (rw [← hAe] at h9; exact h9)⟩, hS.F ht⟩) hS.2.2 dX2_init_76) 6 0 _ H _ ls rfl rfl hP hD hS hl
