/-! methods that may throw, over numbered worlds -/
def kT (U : State) : Prop := (∀ w ∈ thrW, va_Nw w U) ∧ ∀ q ∈ strW, ∃ sa : Nat, vk_R RX2 q.1 q.2 sa U
theorem kT.warm {s U : State} (hW : s.WarmedH U.vm) (h : kT s) : kT U := ⟨thrW_warm hW h.1, fun q hq => (h.2 q hq).imp (fun _ h9 => vk_R.warm hW h9)⟩
theorem kT.blind {U : State} {g : JFrame} {mk : MethodId} {a : Array Value} (h : kT U) : kT (U.calling g mk a) := ⟨fun w hw => va_Nw.same (thrW_tab w hw) (rfl : U.vm = (U.calling g mk a).vm) (h.1 w hw), fun q hq => (h.2 q hq).imp (fun _ h9 => vk_R.same (rfl : (U.calling g mk a).vm = U.vm) h9)⟩
def kZ (A : Nat → Prop) (U : State) (H : Heap) : Prop := vx_Zq Bundle.tN "UNASSIGNED_STACK" Bundle.steD A U H ∧ vx_Zq Bundle.tN "SUPPRESSED_SENTINEL" Bundle.listD A U H
theorem kZ.blind {A : Nat → Prop} {U : State} {H : Heap} {g : JFrame} {mk : MethodId} {a : Array Value} (h : kZ A U H) : kZ A (U.calling g mk a) H := ⟨vx_Zq.moved (u := U) (U := U.calling g mk a) (Vm.Alike.refl U.vm) h.1, vx_Zq.moved (u := U) (U := U.calling g mk a) (Vm.Alike.refl U.vm) h.2⟩
theorem kZ.go {A B : Nat → Prop} {s U : State} {H0 H : Heap} {locs : List Loc} (hW : s.WarmedH U.vm) (hS : va_S A H0 H locs) (hAB : ∀ q, B q → A q) (h : kZ A s H0) : kZ B U H := ⟨vx_Zq.moved hW.alike ((h.1.kept hS.2.1).narrow hAB), vx_Zq.moved hW.alike ((h.2.kept hS.2.1).narrow hAB)⟩
/-- a world as a method that may throw finds it -/
def gPx (D : va_G) (cI cD : ClassId) (N : Nat) (ad : Nat → Nat) (F : vF) (sz : Nat) (V : vT) (av : List Value) : Array Value → State → Prop :=
  va_Pc av (fun U => U.heap.size = sz ∧ va_P D vwCl (wl N ad (fun k => F k (V k))) U.heap ∧ kK D cI cD U ∧ va_D (fun _ => True) (wl N ad (fun k => F k (V k))) ∧ kT U ∧ kZ (gA N ad sz) U U.heap)
theorem gPx_blind {D : va_G} {cI cD : ClassId} {N : Nat} {ad : Nat → Nat} {F : vF} {sz : Nat} {V : vT} {av : List Value} : FrameBlind (gPx D cI cD N ad F sz V av) := by
  intro a U g mk h
  obtain ⟨q0, q1, q2, q3, q4, q5, q6⟩ := h
  exact ⟨q0, q1, q2, q3.blind, q4, q5.blind, q6.blind⟩
/-- what a throwing method leaves: the exception's class, and the world -/
abbrev gX (D : va_G) (N : Nat) (ad : Nat → Nat) (F : vF) (sz : Nat) (PX : String → vT → Prop) : String → State → State → Prop := vx_X (fun _ : vT => True) (fun E V1 t => PX E V1 ∧ gB D N ad F V1 t) (gA N ad sz)
section Rows
variable {p : Program} {l : Launch} {e : Env} {R : Room} {s : State} {m : MethodId} {args : Array Value} {below : List Frame} {meth : Method} {c : Code} {H : Heap} {locs : List Loc} {cells slots : Nat} {Q : State → Prop}
variable {cc : ByteArray} {pc : Nat} {ls : Array Slot} {rest st0 : List Value} {D : va_G} {cI cD : ClassId} {N : Nat} {ad : Nat → Nat} {F : vF} {V : vT} {mc ms : Nat} {a : Array Value} {PX : String → vT → Prop}
theorem w_xpreV (hK : kK D cI cD s) (hT9 : kT s) (hZ : kZ (gA N ad s.heap.size) s s.heap) (hw : wS D N ad F s.heap V H locs) {k : Nat} (hk : k < N) {ci : Nat} {fs : List Value} {q : vw_C} (he : F k (V k) = .inr (ci, fs)) (hc : vwCl[ci]? = some q) (As : List Value) : PreV s H q.1 (ad k) (gPx D cI cD N ad F H.size V (.ref (ad k) :: As)) As :=
  ⟨gPx_blind, va_recv hK.1 hw.1 (q0 := k) hc (by rw [wl_get hk, he]), fun U hU hW => ⟨rfl, by rw [hU], by rw [hU]; exact hw.1, hK.warm hW, hw.2.1.weaken (fun _ _ _ _ => trivial), hT9.warm hW, by rw [hU]; exact hZ.go hW hw.2.2 (fun _ h => gA_sub hw.2.2.1 h)⟩⟩
theorem w_xcallv {post : vT → Prop} (hw : wS D N ad F s.heap V H locs) (hr : vx_Run p l e R s m args below meth c H locs cells slots mc ms (F0 m pc ls st0) rest (va_Qv post (gB D N ad F) (gA N ad H.size) a) (gX D N ad F H.size PX) (gA N ad H.size))
    (kx : ∀ (E : String) (ce : Cell) (q9 : Addr) (V1 : vT) (H1 : Heap) (locs1 : List Loc), PX E V1 → wS D N ad F s.heap V1 H1 locs1 → H1[q9]? = some ce → ce.vm = .none → s.vm.findClass E = some ce.cls → vx_W p l e R s m args below meth c H1 locs1 (cells + mc) (slots + ms) Q (F0 m pc ls rest) q9)
    (kk : ∀ (V1 : vT) (H1 : Heap) (locs1 : List Loc), post V1 → wS D N ad F s.heap V1 H1 locs1 → W p l e R s m args below meth c H1 locs1 (cells + mc) (slots + ms) Q (F0 m (pc + 3) ls rest)) : W p l e R s m args below meth c H locs cells slots Q (F0 m pc ls st0) :=
  vx_callv hr hw.2.2 (fun _ _ h => gA_sub hw.2.2.1 h) (fun _ h => gA_sub hw.2.2.1 h) (fun _ _ h => gA_sub hw.2.2.1 h) (fun E ce q9 u t H1 locs1 ht _ _ hB _ _ hS h1 h2 h3 => kx E ce q9 u H1 locs1 hB.1 ⟨by rw [← ht]; exact hB.2, wl_D hw.2.1, hS⟩ h1 h2 h3)
    (fun u t H1 locs1 ht _ hp hB _ _ hS => kk u H1 locs1 hp ⟨by rw [← ht]; exact hB, wl_D hw.2.1, hS⟩)
theorem w_xcalli {post : Int32 → vT → Prop} (hw : wS D N ad F s.heap V H locs) (hr : vx_Run p l e R s m args below meth c H locs cells slots mc ms (F0 m pc ls st0) rest (va_Qi post (gB D N ad F) (gA N ad H.size) a) (gX D N ad F H.size PX) (gA N ad H.size))
    (kx : ∀ (E : String) (ce : Cell) (q9 : Addr) (V1 : vT) (H1 : Heap) (locs1 : List Loc), PX E V1 → wS D N ad F s.heap V1 H1 locs1 → H1[q9]? = some ce → ce.vm = .none → s.vm.findClass E = some ce.cls → vx_W p l e R s m args below meth c H1 locs1 (cells + mc) (slots + ms) Q (F0 m pc ls rest) q9)
    (kk : ∀ (r : Int32) (V1 : vT) (H1 : Heap) (locs1 : List Loc), post r V1 → wS D N ad F s.heap V1 H1 locs1 → W p l e R s m args below meth c H1 locs1 (cells + mc) (slots + ms) Q (F0 m (pc + 3) ls (.int r :: rest))) : W p l e R s m args below meth c H locs cells slots Q (F0 m pc ls st0) :=
  vx_calli hr hw.2.2 (fun _ _ h => gA_sub hw.2.2.1 h) (fun _ h => gA_sub hw.2.2.1 h) (fun _ _ h => gA_sub hw.2.2.1 h) (fun E ce q9 u t H1 locs1 ht _ _ hB _ _ hS h1 h2 h3 => kx E ce q9 u H1 locs1 hB.1 ⟨by rw [← ht]; exact hB.2, wl_D hw.2.1, hS⟩ h1 h2 h3)
    (fun r u t H1 locs1 ht _ hp hB _ _ hS => kk r u H1 locs1 hp ⟨by rw [← ht]; exact hB, wl_D hw.2.1, hS⟩)
theorem w_xout {Qc : Array Value → State → Outcome → State → Prop} {E : String} {ce : Cell} {q : Addr} (hout : ∀ x ∈ c.exceptionTable.toList, False) (hlocks : meth.locks = false) (hcell : H[q]? = some ce) (hv : ce.vm = .none) (hcl : s.vm.findClass E = some ce.cls) (hw : wS D N ad F s.heap V H locs) (hp : PX E V) (hc : cells ≤ mc) (hs : slots ≤ ms) :
    vx_W p l e R s m args below meth c H locs cells slots (vx_MQ below Qc (gX D N ad F s.heap.size PX) args s mc ms (gA N ad s.heap.size)) (F0 m pc ls rest) q :=
  vx_out (fun x hx => (hout x hx).elim) hlocks hcell hv hcl (fun t ht _ => ⟨V, trivial, ⟨hp, by rw [gB, ht]; exact hw.1⟩, hw.2.2.F ht⟩) hw.2.2.2.2 hc hs
theorem w_throw {Qc : Array Value → State → Outcome → State → Prop} (hexec : p.tables.exec = Jvm.exec) (hb : c.code = cc) (hl : l.stackTraces = false) {own cls text : String} {names : List String} {ik is ic sa : Nat}
    (hown : s.vm.findClass own = some m.cls) (hcls : Bundle.fit cls = true) (hnames : ∀ n ∈ names, Bundle.fit n = true)
    (hk : (Cond.classLink own ik cls).before args s = true) (hini : (Cond.initialized cls).before args s = true) (hstr : vk_R own is text sa s) (hat : ∀ w ∈ vx_atS own ic cls names, w.before args s = true)
    (hgood : ∀ w ∈ Cond.classLink own ik cls :: Cond.initialized cls :: vx_atS own ic cls names, vx_ot w = true)
    (hZ : kZ (gA N ad s.heap.size) s s.heap) (hw : wS D N ad F s.heap V H locs) (hsize : ls.size = c.maxLocals)
    (d0 : decode cc pc = .ok (.new ik, 3)) (d3 : decode cc (pc + 3) = .ok (.dup, 1)) (d4 : decode cc (pc + 4) = .ok (.ldc is, 2)) (d6 : decode cc (pc + 6) = .ok (.invokespecial ic, 3)) (d9 : decode cc (pc + 9) = .ok (.athrow, 1))
    (hout : ∀ x ∈ c.exceptionTable.toList, False)
    (hRframes : names.length + 3 < R.frames) (hRlocals : (rest.map fun v => v.category).sum + (13 * (names.length + 1) + 43) ≤ R.locals) (hRcells : cells + 1 ≤ R.cells) (hRslots : slots + 6 ≤ R.slots) (hlocks : meth.locks = false)
    (hp : PX cls V) (hc : cells + 1 ≤ mc) (hs : slots + 6 ≤ ms) :
    W p l e R s m args below meth c H locs cells slots (vx_MQ below Qc (gX D N ad F s.heap.size PX) args s mc ms (gA N ad s.heap.size)) (F0 m pc ls rest) := by
  refine vx_throwS hexec hb hl hown hcls hnames hk hini hstr hat hgood hZ.1 hZ.2 hw.2.2 hsize d0 d3 d4 d6 d9 (fun x hx => (hout x hx).elim) hRframes hRlocals hRcells hRslots hlocks (fun t _ h1 h2 => ⟨V, trivial, ⟨hp, ?_⟩, ?_⟩) hw.2.2.2.2 hc hs
  · exact hw.1.kept (fun k q hk => h2 _ (vx_lt hw.1 hk))
  · exact ⟨Nat.le_trans hw.2.2.1 h1, fun q hq hA => (h2 q (Nat.lt_of_lt_of_le hq hw.2.2.1)).trans (hw.2.2.2.1 q hq hA)⟩
end Rows
/-- a contract of a method that may throw, from the walk of its body -/
theorem w_xmet {l : Launch} {y : MethodName} {ws ws' : List Cond} {rm : Room} {D : va_G} {cI cD : ClassId} {N : Nat} {ad : Nat → Nat} {F : vF} {sz : Nat} {V : vT} {av : List Value} {Qc : Array Value → State → Outcome → State → Prop} {XC : String → State → State → Prop} {mc ms : Nat} {cc : ByteArray} {maxL : Nat} {ret : Option FieldType}
    (hy : plainName y.cls = true) (hw : ws = Cond.code y cc maxL ret :: ws') (hlen : (lg_sl av).length ≤ maxL)
    (body : ∀ (p : Program) (e : Env) (s : State) (m : MethodId) (below : List Frame) (meth : Method) (c : Code), p.tables.exec = Jvm.exec → c.code = cc → meth.sig.returnType = ret → (∀ w ∈ ws, w.before av.toArray s = true) → s.vm.findClass y.cls = some m.cls → meth.locks = false → c.maxLocals = maxL → s.heap.size = sz → kK D cI cD s → wS D N ad F s.heap V s.heap [] → kT s → kZ (gA N ad s.heap.size) s s.heap → (∀ x ∈ c.exceptionTable.toList, False) → ∀ ls : Array Slot, lv_has ls maxL (lv_args 0 av) →
      W p l e rm s m av.toArray below meth c s.heap [] 0 0 (vx_MQ below Qc XC av.toArray s mc ms (gA N ad sz)) (F0 m 0 ls [])) :
    vx_Met l y ws rm (gPx D cI cD N ad F sz V av) Qc XC mc ms (gA N ad sz) := by
  refine vx_ofW (cc := cc) (maxL := maxL) (ret := ret) hy hw ?_
  intro p e s m args below meth c s₁ B hml hout hv
  obtain ⟨rfl, hsz, hP, hK, hD0, hT9, hZ⟩ := hv
  rw [lg_entry_eq]
  exact body p e s m below meth c B.exec B.bytes B.returns (atoms_spec (ws := ws) B.pre) (findClass_of_methodNamed B.named) B.notSynchronized hml hsz hK ⟨hP, wl_DA hD0, va_S.rf⟩ hT9 (by rw [hsz]; exact hZ) hout _ (lv_entry av hlen)
