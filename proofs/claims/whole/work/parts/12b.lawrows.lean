/-! the law's worlds: the class's cells at ad, a long[] of one place at o -/
section LawWorld
abbrev oE (cL : ClassId) (f : Nat → Int64) : va_E := .inl (cL, 1, .inr (.inl f))
def oA (ad : Nat → Nat) (o sz : Nat) : Nat → Prop := fun q => (∃ k, k < 47 ∧ q = ad k) ∨ q = o ∨ sz ≤ q
def oD (ad : Nat → Nat) (o : Nat) : Prop := (∀ i j, i < 47 → j < 47 → ad i = ad j → i = j) ∧ ∀ k, k < 47 → ad k ≠ o
theorem oA_of {ad : Nat → Nat} {o sz sz' q : Nat} (h : sz ≤ sz') (hq : gA 47 ad sz' q) : oA ad o sz q := hq.elim Or.inl (fun h2 => Or.inr (Or.inr (Nat.le_trans h h2)))
/-- pairs of exceptions that are no kin -/
def ncW : List (String × String) := [("java/lang/IndexOutOfBoundsException", "java/lang/IllegalStateException"), ("java/lang/UnsupportedOperationException", "java/lang/IllegalStateException"), ("java/lang/UnsupportedOperationException", "java/lang/IndexOutOfBoundsException"), ("java/lang/IllegalArgumentException", "java/lang/IllegalStateException"), ("java/lang/UnsupportedOperationException", "java/lang/IllegalArgumentException"), ("java/lang/IllegalArgumentException", "java/lang/IndexOutOfBoundsException")]
def kN (U : State) : Prop := ∀ q ∈ ncW, va_Nc q.1 q.2 U
theorem kN.warm {s U : State} (hW : s.WarmedH U.vm) (h : kN s) : kN U := fun q hq => va_Nc.moved hW.alike (h q hq)
theorem kN.blind {U : State} {g : JFrame} {mk : MethodId} {a : Array Value} (h : kN U) : kN (U.calling g mk a) := fun q hq => va_Nc.moved (u := U) (U := U.calling g mk a) (Vm.Alike.refl U.vm) (h q hq)
/-- a wrapper's world as it finds it -/
def oP (D : va_G) (cI cD cL : ClassId) (ad : Nat → Nat) (o sz : Nat) (V : vT) (f : Nat → Int64) (av : List Value) : Array Value → State → Prop :=
  va_Pc av (fun U => U.heap.size = sz ∧ va_P D vwCl (wl 47 ad (fun k => cF cI cD ad k (V k))) U.heap ∧ va_P D vwCl [(o, oE cL f)] U.heap ∧ kK D cI cD U ∧ va_K D vwCl [(cL, .long)] U ∧ oD ad o ∧ kT U ∧ kZ (oA ad o sz) U U.heap ∧ kN U)
theorem oP_blind {D : va_G} {cI cD cL : ClassId} {ad : Nat → Nat} {o sz : Nat} {V : vT} {f : Nat → Int64} {av : List Value} : FrameBlind (oP D cI cD cL ad o sz V f av) := by
  intro a U g mk h
  obtain ⟨q0, q1, q2, q3, q4, q5, q6, q7, q8, q9⟩ := h
  exact ⟨q0, q1, q2, q3, q4.blind, va_K.moved (u := U) (U := U.calling g mk a) (Vm.Alike.refl U.vm) q5, q6, q7.blind, q8.blind, q9.blind⟩
/-- .. and in its midst -/
def oS (D : va_G) (cI cD cL : ClassId) (ad : Nat → Nat) (o : Nat) (H0 : Heap) (V : vT) (f : Nat → Int64) (H : Heap) (locs : List Loc) : Prop :=
  va_P D vwCl (wl 47 ad (fun k => cF cI cD ad k (V k))) H ∧ va_P D vwCl [(o, oE cL f)] H ∧ va_S (oA ad o H0.size) H0 H locs
/-- .. and behind it -/
abbrev oB (D : va_G) (cI cD cL : ClassId) (ad : Nat → Nat) (o : Nat) (u : vT × (Nat → Int64)) (t : State) : Prop :=
  va_P D vwCl (wl 47 ad (fun k => cF cI cD ad k (u.1 k))) t.heap ∧ va_P D vwCl [(o, oE cL u.2)] t.heap
/-- nothing is thrown out of a wrapper -/
abbrev oX (ad : Nat → Nat) (o sz : Nat) : String → State → State → Prop := vx_X (fun _ : Unit => False) (fun _ _ _ => True) (oA ad o sz)
variable {p : Program} {l : Launch} {e : Env} {R : Room} {s : State} {m : MethodId} {args : Array Value} {below : List Frame} {meth : Method} {c : Code} {H : Heap} {locs : List Loc} {cells slots : Nat} {Q : State → Prop}
variable {cc : ByteArray} {pc : Nat} {ls : Array Slot} {rest st0 : List Value} {D : va_G} {cI cD cL : ClassId} {ad : Nat → Nat} {o : Nat} {V : vT} {f : Nat → Int64} {mc ms : Nat} {a : Array Value} {PX : String → vT → Prop}
theorem o_pre (hK : kK D cI cD s) (hT9 : kT s) (hZ : kZ (oA ad o s.heap.size) s s.heap) (hD : oD ad o) (hS : oS D cI cD cL ad o s.heap V f H locs) (As : List Value) : PreV s H RX2 (ad 0) (gPx D cI cD 47 ad (cF cI cD ad) H.size V (.ref (ad 0) :: As)) As :=
  ⟨gPx_blind, va_recv hK.1 hS.1 (q0 := 0) (ci := 2) (q := (RX2, TX2, 10)) rfl (by rw [wl_get (by decide), cF_0]), fun U hU hW => ⟨rfl, by rw [hU], by rw [hU]; exact hS.1, hK.warm hW, wl_Dof hD.1 (fun _ _ => trivial), hT9.warm hW, by rw [hU]; exact hZ.go hW hS.2.2 (fun _ h => oA_of hS.2.2.1 h)⟩⟩
theorem o_keep (hD : oD ad o) (hS : oS D cI cD cL ad o s.heap V f H locs) {H1 : Heap} (hk : ∀ q : Nat, q < H.size → ¬ gA 47 ad H.size q → H1[q]? = H[q]?) : va_P D vwCl [(o, oE cL f)] H1 := by
  have ho : o < H.size := (hS.2.1 0 _ rfl).lt
  refine hS.2.1.kept (fun k q hq => ?_)
  have hz : k < 1 := (List.getElem?_eq_some_iff.mp hq).1
  rw [show k = 0 by omega] at hq
  cases hq
  exact hk o ho (fun h => h.elim (fun ⟨j, hj, e⟩ => hD.2 j hj e.symm) (fun h => absurd ho (Nat.not_lt.mpr h)))
theorem o_xcalli {post : Int32 → vT → Prop} (hD : oD ad o) (hS : oS D cI cD cL ad o s.heap V f H locs) (hr : vx_Run p l e R s m args below meth c H locs cells slots mc ms (F0 m pc ls st0) rest (va_Qi post (gB D 47 ad (cF cI cD ad)) (gA 47 ad H.size) a) (gX D 47 ad (cF cI cD ad) H.size PX) (gA 47 ad H.size))
    (kx : ∀ (E : String) (ce : Cell) (q9 : Addr) (V1 : vT) (H1 : Heap) (locs1 : List Loc), PX E V1 → oS D cI cD cL ad o s.heap V1 f H1 locs1 → H1[q9]? = some ce → ce.vm = .none → s.vm.findClass E = some ce.cls → vx_W p l e R s m args below meth c H1 locs1 (cells + mc) (slots + ms) Q (F0 m pc ls rest) q9)
    (kk : ∀ (r : Int32) (V1 : vT) (H1 : Heap) (locs1 : List Loc), post r V1 → oS D cI cD cL ad o s.heap V1 f H1 locs1 → W p l e R s m args below meth c H1 locs1 (cells + mc) (slots + ms) Q (F0 m (pc + 3) ls (.int r :: rest))) : W p l e R s m args below meth c H locs cells slots Q (F0 m pc ls st0) :=
  vx_calli hr hS.2.2 (fun _ _ h => oA_of hS.2.2.1 h) (fun _ h => oA_of hS.2.2.1 h) (fun _ _ h => oA_of hS.2.2.1 h) (fun E ce q9 u t H1 locs1 ht _ _ hB _ hk hS1 h1 h2 h3 => kx E ce q9 u H1 locs1 hB.1 ⟨by rw [← ht]; exact hB.2, o_keep hD hS hk, hS1⟩ h1 h2 h3)
    (fun r u t H1 locs1 ht _ hp hB _ hk hS1 => kk r u H1 locs1 hp ⟨by rw [← ht]; exact hB, o_keep hD hS hk, hS1⟩)
theorem o_xcallv {post : vT → Prop} (hD : oD ad o) (hS : oS D cI cD cL ad o s.heap V f H locs) (hr : vx_Run p l e R s m args below meth c H locs cells slots mc ms (F0 m pc ls st0) rest (va_Qv post (gB D 47 ad (cF cI cD ad)) (gA 47 ad H.size) a) (gX D 47 ad (cF cI cD ad) H.size PX) (gA 47 ad H.size))
    (kx : ∀ (E : String) (ce : Cell) (q9 : Addr) (V1 : vT) (H1 : Heap) (locs1 : List Loc), PX E V1 → oS D cI cD cL ad o s.heap V1 f H1 locs1 → H1[q9]? = some ce → ce.vm = .none → s.vm.findClass E = some ce.cls → vx_W p l e R s m args below meth c H1 locs1 (cells + mc) (slots + ms) Q (F0 m pc ls rest) q9)
    (kk : ∀ (V1 : vT) (H1 : Heap) (locs1 : List Loc), post V1 → oS D cI cD cL ad o s.heap V1 f H1 locs1 → W p l e R s m args below meth c H1 locs1 (cells + mc) (slots + ms) Q (F0 m (pc + 3) ls rest)) : W p l e R s m args below meth c H locs cells slots Q (F0 m pc ls st0) :=
  vx_callv hr hS.2.2 (fun _ _ h => oA_of hS.2.2.1 h) (fun _ h => oA_of hS.2.2.1 h) (fun _ _ h => oA_of hS.2.2.1 h) (fun E ce q9 u t H1 locs1 ht _ _ hB _ hk hS1 h1 h2 h3 => kx E ce q9 u H1 locs1 hB.1 ⟨by rw [← ht]; exact hB.2, o_keep hD hS hk, hS1⟩ h1 h2 h3)
    (fun u t H1 locs1 ht _ hp hB _ hk hS1 => kk u H1 locs1 hp ⟨by rw [← ht]; exact hB, o_keep hD hS hk, hS1⟩)
/-- out[0] = x -/
theorem o_last (hexec : p.tables.exec = Jvm.exec) (hb : c.code = cc) (hKL : va_K D vwCl [(cL, .long)] s) (hD : oD ad o) (hS : oS D cI cD cL ad o s.heap V f H locs) {x : Int64} (hdg : decode cc pc = .ok (.lastore, 1))
    (kk : ∀ (H1 : Heap) (locs1 : List Loc), oS D cI cD cL ad o s.heap V (fun _ => x) H1 locs1 → W p l e R s m args below meth c H1 locs1 cells slots Q (F0 m (pc + 1) ls rest)) : W p l e R s m args below meth c H locs cells slots Q (F0 m pc ls (.long x :: .int (nI 0) :: .ref o :: rest)) := by
  have hDD : va_D (oA ad o s.heap.size) (wl 47 ad (fun k => cF cI cD ad k (V k)) ++ [(o, oE cL f)]) := by
    refine va_D.app (wl_Dof hD.1 (fun k hk => Or.inl ⟨k, hk, rfl⟩)) ⟨fun i j p q hi hj _ => ?_, fun k q hk => ?_⟩ (fun i j p q hi hj => ?_)
    · have h1 := (List.getElem?_eq_some_iff.mp hi).1
      have h2 := (List.getElem?_eq_some_iff.mp hj).1
      simp only [List.length_cons, List.length_nil] at h1 h2
      omega
    · have hz : k < 1 := (List.getElem?_eq_some_iff.mp hk).1
      rw [show k = 0 by omega] at hk
      cases hk
      exact Or.inr (Or.inl rfl)
    · obtain ⟨h1, rfl⟩ := wl_of hi
      have hz : j < 1 := (List.getElem?_eq_some_iff.mp hj).1
      rw [show j = 0 by omega] at hj
      cases hj
      exact hD.2 i h1
  have hat : (wl 47 ad (fun k => cF cI cD ad k (V k)) ++ [(o, oE cL f)])[47]? = some (o, oE cL f) := by
    rw [List.getElem?_append_right (by rw [wl_len]; omega), wl_len]
    rfl
  refine va_last hexec hb hKL (hS.1.app hS.2.1) hDD hS.2.2 47 0 hat rfl (i := nI 0) (x := x) (vp_in_nI (by decide) (by decide)) hdg (fun H1 locs1 h1 h2 h3 => kk H1 locs1 ?_)
  have hset : ∀ y : va_E, (wl 47 ad (fun k => cF cI cD ad k (V k)) ++ [(o, oE cL f)]).set 47 (o, y) = wl 47 ad (fun k => cF cI cD ad k (V k)) ++ [(o, y)] := fun y => by
    rw [List.set_append_right _ _ (by rw [wl_len]; omega), wl_len]
    rfl
  rw [hset] at h1
  refine ⟨P_left h1, ?_, h3⟩
  have h9 := P_right h1
  intro k q hk
  have hz : k < 1 := (List.getElem?_eq_some_iff.mp hk).1
  rw [show k = 0 by omega] at hk
  cases hk
  have h8 := h9 0 _ rfl
  have he : ∀ g : Nat → Int64, vp_cell cL (1, .inr (.inl g)) = vp_cell cL (1, .inr (.inl (fun _ => g 0))) := fun g => by
    rw [vp_cell_l, vp_cell_l]
    exact arr_ext (fun j hj => by rw [show j = 0 by omega])
  have h7 : H1[o]? = some (vp_cell cL (1, .inr (.inl (vp_updL f (nI 0).toNatClampNeg x)))) := h8
  show H1[o]? = some (vp_cell cL (1, .inr (.inl (fun _ => x))))
  rw [h7, he]
  rfl
end LawWorld
/-- a wrapper's contract, from the walk of its body -/
theorem o_met {l : Launch} {y : MethodName} {ws ws' : List Cond} {rm : Room} {D : va_G} {cI cD cL : ClassId} {ad : Nat → Nat} {o sz : Nat} {V : vT} {f : Nat → Int64} {av : List Value} {Qc : Array Value → State → Outcome → State → Prop} {mc ms : Nat} {cc : ByteArray} {maxL : Nat} {ret : Option FieldType} {hh : List (Nat × Nat × Nat × Nat)}
    (hy : plainName y.cls = true) (hw : ws = Cond.codeWith y cc maxL ret hh :: ws') (hlen : (lg_sl av).length ≤ maxL)
    (body : ∀ (p : Program) (e : Env) (s : State) (m : MethodId) (below : List Frame) (meth : Method) (c : Code), p.tables.exec = Jvm.exec → c.code = cc → meth.sig.returnType = ret → (∀ w ∈ ws, w.before av.toArray s = true) → s.vm.findClass y.cls = some m.cls → meth.locks = false → c.maxLocals = maxL → s.heap.size = sz → kK D cI cD s → va_K D vwCl [(cL, .long)] s → oD ad o → oS D cI cD cL ad o s.heap V f s.heap [] → kT s → kZ (oA ad o s.heap.size) s s.heap → kN s → c.exceptionTable.toList = tableOf hh → ∀ ls : Array Slot, lv_has ls maxL (lv_args 0 av) →
      W p l e rm s m av.toArray below meth c s.heap [] 0 0 (vx_MQ below Qc (oX ad o sz) av.toArray s mc ms (oA ad o sz)) (F0 m 0 ls [])) :
    vx_Met l y ws rm (oP D cI cD cL ad o sz V f av) Qc (oX ad o sz) mc ms (oA ad o sz) := by
  refine vx_ofWH (cc := cc) (maxL := maxL) (ret := ret) (hh := hh) hy hw ?_
  intro p e s m args below meth c s₁ B hml hv
  obtain ⟨rfl, hsz, hP, hPo, hK, hKL, hD, hT9, hZ, hN⟩ := hv
  have hts := atoms_spec (ws := ws) B.pre
  have htab : c.exceptionTable.toList = tableOf hh := by
    obtain ⟨m9, meth9, c9, hn9, hm9, hc9, -, -, ht9, -⟩ := Cond.codeWith_spec (hts (Cond.codeWith y cc maxL ret hh) (by rw [hw]; exact List.mem_cons_self))
    cases Option.some.inj (hn9.symm.trans B.named)
    have h1 := B.here.code
    rw [State.code?_eq] at h1
    have h2 : s₁.vm.method? m = some meth9 := by rw [B.state]; exact hm9
    rw [h2] at h1
    have h3 : c9 = c := by
      have h4 : meth9.code = some c := by simpa using h1
      exact Option.some.inj (hc9.symm.trans h4)
    rw [← h3, ← ht9, table_eq]
  rw [lg_entry_eq]
  exact body p e s m below meth c B.exec B.bytes B.returns hts (findClass_of_methodNamed B.named) B.notSynchronized hml hsz hK hKL hD ⟨hP, hPo, va_S.rf⟩ hT9 (by rw [hsz]; exact hZ) hN htab _ (lv_entry av hlen)
