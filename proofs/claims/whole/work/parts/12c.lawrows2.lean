/-! the law's own world: the class's cells at ad, the reference's at bd, the long[] at o; all new since the law began -/
section LawRows
def lD (ad bd : Nat → Nat) (o sz : Nat) : Prop := oD ad o ∧ (∀ i j, i < 10 → j < 10 → bd i = bd j → i = j) ∧ (∀ i j, i < 47 → j < 10 → ad i ≠ bd j) ∧ (∀ j, j < 10 → bd j ≠ o) ∧ (∀ k, k < 47 → sz ≤ ad k) ∧ (∀ j, j < 10 → sz ≤ bd j) ∧ sz ≤ o
def lS (D : va_G) (cI cD cL : ClassId) (ad bd : Nat → Nat) (o : Nat) (H0 : Heap) (V M : vT) (f : Nat → Int64) (H : Heap) (locs : List Loc) : Prop :=
  va_P D vwCl (wl 47 ad (fun k => cF cI cD ad k (V k))) H ∧ va_P D vwCl (wl 10 bd (fun k => mF cI bd k (M k))) H ∧ va_P D vwCl [(o, oE cL f)] H ∧ va_S (fun q => H0.size ≤ q) H0 H locs
variable {p : Program} {l : Launch} {e : Env} {R : Room} {s : State} {m : MethodId} {args : Array Value} {below : List Frame} {meth : Method} {c : Code} {H : Heap} {locs : List Loc} {cells slots : Nat} {Q : State → Prop}
variable {cc : ByteArray} {pc : Nat} {ls : Array Slot} {rest st0 : List Value} {D : va_G} {cI cD cL : ClassId} {ad bd : Nat → Nat} {o : Nat} {V M : vT} {f : Nat → Int64} {mc ms : Nat} {a : Array Value}
theorem lA_o (hD : lD ad bd o s.heap.size) (hS : lS D cI cD cL ad bd o s.heap V M f H locs) {q : Nat} (h : oA ad o H.size q) : s.heap.size ≤ q := by
  rcases h with ⟨k, hk, rfl⟩ | rfl | h
  · exact hD.2.2.2.2.1 k hk
  · exact hD.2.2.2.2.2.2
  · exact Nat.le_trans hS.2.2.2.1 h
theorem lA_m (hD : lD ad bd o s.heap.size) (hS : lS D cI cD cL ad bd o s.heap V M f H locs) {q : Nat} (h : gA 10 bd H.size q) : s.heap.size ≤ q := by
  rcases h with ⟨k, hk, rfl⟩ | h
  · exact hD.2.2.2.2.2.1 k hk
  · exact Nat.le_trans hS.2.2.2.1 h
theorem lA_c (hD : lD ad bd o s.heap.size) (hS : lS D cI cD cL ad bd o s.heap V M f H locs) {q : Nat} (h : gA 47 ad H.size q) : s.heap.size ≤ q := by
  rcases h with ⟨k, hk, rfl⟩ | h
  · exact hD.2.2.2.2.1 k hk
  · exact Nat.le_trans hS.2.2.2.1 h
theorem l_keepM (hS : lS D cI cD cL ad bd o s.heap V M f H locs) {H1 : Heap} (hk : ∀ j, j < 10 → H1[bd j]? = H[bd j]?) : va_P D vwCl (wl 10 bd (fun k => mF cI bd k (M k))) H1 :=
  hS.2.1.kept (fun k q hq => by obtain ⟨h1, rfl⟩ := wl_of hq; exact hk k h1)
theorem l_keepC (hS : lS D cI cD cL ad bd o s.heap V M f H locs) {H1 : Heap} (hk : ∀ j, j < 47 → H1[ad j]? = H[ad j]?) : va_P D vwCl (wl 47 ad (fun k => cF cI cD ad k (V k))) H1 :=
  hS.1.kept (fun k q hq => by obtain ⟨h1, rfl⟩ := wl_of hq; exact hk k h1)
theorem l_keepO (hS : lS D cI cD cL ad bd o s.heap V M f H locs) {H1 : Heap} (hk : H1[o]? = H[o]?) : va_P D vwCl [(o, oE cL f)] H1 :=
  hS.2.2.1.kept (fun k q hq => by
    have hz : k < 1 := (List.getElem?_eq_some_iff.mp hq).1
    rw [show k = 0 by omega] at hq
    cases hq
    exact hk)
theorem l_ltM (hS : lS D cI cD cL ad bd o s.heap V M f H locs) {j : Nat} (hj : j < 10) : bd j < H.size := (hS.2.1 j _ (wl_get hj)).lt
theorem l_ltC (hS : lS D cI cD cL ad bd o s.heap V M f H locs) {j : Nat} (hj : j < 47) : ad j < H.size := (hS.1 j _ (wl_get hj)).lt
theorem l_ltO (hS : lS D cI cD cL ad bd o s.heap V M f H locs) : o < H.size := (hS.2.2.1 0 _ rfl).lt
theorem l_preS (hK : kK D cI cD s) (hKL : va_K D vwCl [(cL, .long)] s) (hT9 : kT s) (hZ : kZ (fun q => s.heap.size ≤ q) s s.heap) (hN : kN s) (hD : lD ad bd o s.heap.size) (hS : lS D cI cD cL ad bd o s.heap V M f H locs) (As : List Value) : PreS s H (oP D cI cD cL ad o H.size V f As) As :=
  ⟨oP_blind, fun U hU hW => ⟨rfl, by rw [hU], by rw [hU]; exact hS.1, by rw [hU]; exact hS.2.2.1, hK.warm hW, va_K.moved hW.alike hKL, hD.1, hT9.warm hW, by rw [hU]; exact hZ.go hW hS.2.2.2 (fun _ h => lA_o hD hS h), hN.warm hW⟩⟩
theorem l_wrap {post : Int32 → vT × (Nat → Int64) → Prop} (hD : lD ad bd o s.heap.size) (hS : lS D cI cD cL ad bd o s.heap V M f H locs) (hr : vx_Run p l e R s m args below meth c H locs cells slots mc ms (F0 m pc ls st0) rest (va_Qi post (oB D cI cD cL ad o) (oA ad o H.size) a) (oX ad o H.size) (oA ad o H.size))
    (kk : ∀ (r : Int32) (V1 : vT) (f1 : Nat → Int64) (H1 : Heap) (locs1 : List Loc), post r (V1, f1) → lS D cI cD cL ad bd o s.heap V1 M f1 H1 locs1 → W p l e R s m args below meth c H1 locs1 (cells + mc) (slots + ms) Q (F0 m (pc + 3) ls (.int r :: rest))) : W p l e R s m args below meth c H locs cells slots Q (F0 m pc ls st0) :=
  vx_calli hr hS.2.2.2 (fun _ _ h => lA_o hD hS h) (fun _ h => lA_o hD hS h) (fun _ _ h => lA_o hD hS h) (fun E ce q9 u t H1 locs1 ht _ hp _ _ _ _ _ _ _ => hp.elim)
    (fun r u t H1 locs1 ht _ hp hB _ hk hS1 => kk r u.1 u.2 H1 locs1 hp ⟨by rw [← ht]; exact hB.1, l_keepM hS (fun j hj => hk _ (l_ltM hS hj) (fun h => by
      rcases h with ⟨k, h1, h2⟩ | h2 | h2
      · exact hD.2.2.1 k j h1 hj h2.symm
      · exact hD.2.2.2.1 j hj h2
      · exact absurd (l_ltM hS hj) (Nat.not_lt.mpr h2))), by rw [← ht]; exact hB.2, hS1⟩)
theorem l_preM (hK : kK D cI cD s) (hD : lD ad bd o s.heap.size) (hS : lS D cI cD cL ad bd o s.heap V M f H locs) (As : List Value) : PreV s H RX3 (bd 0) (gP D cI cD 10 bd (mF cI bd) H.size M (.ref (bd 0) :: As)) As :=
  ⟨gP_blind, va_recv hK.1 hS.2.1 (q0 := 0) (ci := 3) (q := (RX3, TX3, 24)) rfl (by rw [wl_get (by decide)]; rfl), fun U hU hW => ⟨rfl, by rw [hU], by rw [hU]; exact hS.2.1, hK.warm hW, wl_Dof hD.2.1 (fun _ _ => trivial)⟩⟩
theorem l_outM (hD : lD ad bd o s.heap.size) (hS : lS D cI cD cL ad bd o s.heap V M f H locs) {H1 : Heap} {locs1 : List Loc} {M1 : vT} (hP : va_P D vwCl (wl 10 bd (fun k => mF cI bd k (M1 k))) H1) (hk : ∀ q : Nat, q < H.size → ¬ gA 10 bd H.size q → H1[q]? = H[q]?) (hS1 : va_S (fun q => s.heap.size ≤ q) s.heap H1 locs1) : lS D cI cD cL ad bd o s.heap V M1 f H1 locs1 :=
  ⟨l_keepC hS (fun j hj => hk _ (l_ltC hS hj) (fun h => by
      rcases h with ⟨k, h1, h2⟩ | h2
      · exact hD.2.2.1 j k hj h1 h2
      · exact absurd (l_ltC hS hj) (Nat.not_lt.mpr h2))), hP, l_keepO hS (hk _ (l_ltO hS) (fun h => by
      rcases h with ⟨k, h1, h2⟩ | h2
      · exact hD.2.2.2.1 k h1 h2.symm
      · exact absurd (l_ltO hS) (Nat.not_lt.mpr h2))), hS1⟩
theorem l_mi {post : Int32 → vT → Prop} (hD : lD ad bd o s.heap.size) (hS : lS D cI cD cL ad bd o s.heap V M f H locs) (hr : va_Run p l e R s m args below meth c H locs cells slots mc ms (F0 m pc ls st0) rest (va_Qi post (gB D 10 bd (mF cI bd)) (gA 10 bd H.size) a) (gA 10 bd H.size))
    (kk : ∀ (r : Int32) (M1 : vT) (H1 : Heap) (locs1 : List Loc), post r M1 → lS D cI cD cL ad bd o s.heap V M1 f H1 locs1 → W p l e R s m args below meth c H1 locs1 (cells + mc) (slots + ms) Q (F0 m (pc + 3) ls (.int r :: rest))) : W p l e R s m args below meth c H locs cells slots Q (F0 m pc ls st0) :=
  va_calli hr hS.2.2.2 (fun _ _ h => lA_m hD hS h) (fun _ h => lA_m hD hS h) (fun r u t H1 locs1 ht _ hp hB _ hk hS1 => kk r u H1 locs1 hp (l_outM hD hS (by rw [← ht]; exact hB) hk hS1))
theorem l_mv {post : vT → Prop} (hD : lD ad bd o s.heap.size) (hS : lS D cI cD cL ad bd o s.heap V M f H locs) (hr : va_Run p l e R s m args below meth c H locs cells slots mc ms (F0 m pc ls st0) rest (va_Qv post (gB D 10 bd (mF cI bd)) (gA 10 bd H.size) a) (gA 10 bd H.size))
    (kk : ∀ (M1 : vT) (H1 : Heap) (locs1 : List Loc), post M1 → lS D cI cD cL ad bd o s.heap V M1 f H1 locs1 → W p l e R s m args below meth c H1 locs1 (cells + mc) (slots + ms) Q (F0 m (pc + 3) ls rest)) : W p l e R s m args below meth c H locs cells slots Q (F0 m pc ls st0) :=
  va_callv hr hS.2.2.2 (fun _ _ h => lA_m hD hS h) (fun _ h => lA_m hD hS h) (fun u t H1 locs1 ht _ hp hB _ hk hS1 => kk u H1 locs1 hp (l_outM hD hS (by rw [← ht]; exact hB) hk hS1))
theorem l_preC (hK : kK D cI cD s) (hD : lD ad bd o s.heap.size) (hS : lS D cI cD cL ad bd o s.heap V M f H locs) (As : List Value) : PreV s H RX2 (ad 0) (gP D cI cD 47 ad (cF cI cD ad) H.size V (.ref (ad 0) :: As)) As :=
  ⟨gP_blind, va_recv hK.1 hS.1 (q0 := 0) (ci := 2) (q := (RX2, TX2, 10)) rfl (by rw [wl_get (by decide), cF_0]), fun U hU hW => ⟨rfl, by rw [hU], by rw [hU]; exact hS.1, hK.warm hW, wl_Dof hD.1.1 (fun _ _ => trivial)⟩⟩
theorem l_ci {post : Int32 → vT → Prop} (hD : lD ad bd o s.heap.size) (hS : lS D cI cD cL ad bd o s.heap V M f H locs) (hr : va_Run p l e R s m args below meth c H locs cells slots mc ms (F0 m pc ls st0) rest (va_Qi post (gB D 47 ad (cF cI cD ad)) (gA 47 ad H.size) a) (gA 47 ad H.size))
    (kk : ∀ (r : Int32) (V1 : vT) (H1 : Heap) (locs1 : List Loc), post r V1 → lS D cI cD cL ad bd o s.heap V1 M f H1 locs1 → W p l e R s m args below meth c H1 locs1 (cells + mc) (slots + ms) Q (F0 m (pc + 3) ls (.int r :: rest))) : W p l e R s m args below meth c H locs cells slots Q (F0 m pc ls st0) :=
  va_calli hr hS.2.2.2 (fun _ _ h => lA_c hD hS h) (fun _ h => lA_c hD hS h) (fun r u t H1 locs1 ht _ hp hB _ hk hS1 => kk r u H1 locs1 hp ⟨by rw [← ht]; exact hB, l_keepM hS (fun j hj => hk _ (l_ltM hS hj) (fun h => by
      rcases h with ⟨k, h1, h2⟩ | h2
      · exact hD.2.2.1 k j h1 hj h2.symm
      · exact absurd (l_ltM hS hj) (Nat.not_lt.mpr h2))), l_keepO hS (hk _ (l_ltO hS) (fun h => by
      rcases h with ⟨k, h1, h2⟩ | h2
      · exact hD.1.2 k h1 h2.symm
      · exact absurd (l_ltO hS) (Nat.not_lt.mpr h2))), hS1⟩)
/-- out[0] -/
theorem l_lald (hexec : p.tables.exec = Jvm.exec) (hb : c.code = cc) (hKL : va_K D vwCl [(cL, .long)] s) (hS : lS D cI cD cL ad bd o s.heap V M f H locs) (hdg : decode cc pc = .ok (.laload, 1))
    (kk : W p l e R s m args below meth c H locs cells slots Q (F0 m (pc + 1) ls (.long (f 0) :: rest))) : W p l e R s m args below meth c H locs cells slots Q (F0 m pc ls (.int (nI 0) :: .ref o :: rest)) :=
  va_lald hexec hb hKL hS.2.2.1 0 0 rfl rfl (i := nI 0) (vp_in_nI (by decide) (by decide)) hdg kk
end LawRows
