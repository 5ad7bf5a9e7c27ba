/-! an exception that is caught by the table of the method called from; the catch types are linked then, or were before -/
section Catch
/-- the search ends so, and leaves these tables -/
def sTo (e : Env) (s : State) (f : JFrame) (a : Addr) (h : Handler) (v : Vm) : Prop :=
  ∀ (Q : Handler → Pre) (E : CtlPost) (d : Bool) (acts : List Action), wp (findHandler f a) Q E e d acts s ↔ Q h d acts (s.setVm v)
/-- one row of the table that covers the place: its class is linked; then it takes the exception, or the search goes on -/
theorem s_row {Q : Handler → Pre} {E : CtlPost} {e : Env} {d : Bool} {acts : List Action} {s : State} {f : JFrame} {a : Addr} {x : ExceptionTableEntry} {t : List ExceptionTableEntry} {k : ClassId} {cell : Cell} {b : Bool} (hx : covers x f.pc = true) (h0 : x.catchType ≠ 0)
    (hl : s.vm.ClassLinks e.platform f.method.cls x.catchType k) (hcell : s.heap[a]? = some cell) (hobj : ∀ z, cell.vm ≠ .statics z) (h1 : ∃ z, s.vm.classes[cell.cls]? = some z) (h2 : ∃ z, s.vm.classes[k]? = some z) (hb : s.vm.assignable cell.cls k = b) :
    wp (findHandler.go f a (x :: t)) Q E e d acts s ↔ (if b = true then Q (.found x.handlerPc) d acts (s.setVm (s.vm.noted f.method.cls x.catchType (.cls k))) else wp (findHandler.go f a t) Q E e d acts (s.setVm (s.vm.noted f.method.cls x.catchType (.cls k)))) := by
  simp only [covers] at hx
  obtain ⟨r1, r2⟩ := (resolveClass_links e.toSetting hl).op (op := VmOp.resolveClass f.method.cls x.catchType) rfl
  have hal : s.vm.Alike (s.vm.noted f.method.cls x.catchType (.cls k)) := (Vm.Alike.refl s.vm).noted _ _ _
  obtain ⟨z1, hz1⟩ := h1
  obtain ⟨z2, hz2⟩ := h2
  obtain ⟨y1, hy1, -⟩ := hal.2.2 _ _ hz1
  obtain ⟨y2, hy2, -⟩ := hal.2.2 _ _ hz2
  have hb' : (s.vm.noted f.method.cls x.catchType (.cls k)).assignable cell.cls k = b := by rw [hal.assignable]; exact hb
  cases b <;> simp [findHandler.go, hx, h0, r1, r2, hcell, hobj, hy1, hy2, hb', VmOp.dirties, VmOp.acts]
/-- the rows ahead don't take it, the row x does -/
theorem s_rows {e : Env} {s0 : State} {f : JFrame} {a : Addr} {cell : Cell} (hobj : ∀ z, cell.vm ≠ .statics z) (h1 : ∃ z, s0.vm.classes[cell.cls]? = some z) {x : ExceptionTableEntry} {suf : List ExceptionTableEntry} (hx : covers x f.pc = true) (h0 : x.catchType ≠ 0) {k : ClassId} (hk : s0.vm.ClassLinks e.platform f.method.cls x.catchType k) (hyes : s0.vm.assignable cell.cls k = true) :
    ∀ (pre : List ExceptionTableEntry) (S : State), s0.WarmedH S.vm → S.heap[a]? = some cell → (∀ z ∈ pre, covers z f.pc = true ∧ z.catchType ≠ 0 ∧ ∃ j, s0.vm.ClassLinks e.platform f.method.cls z.catchType j ∧ s0.vm.assignable cell.cls j = false) →
      ∃ v, s0.WarmedH v ∧ ∀ (Q : Handler → Pre) (E : CtlPost) (d : Bool) (acts : List Action), wp (findHandler.go f a (pre ++ x :: suf)) Q E e d acts S ↔ Q (.found x.handlerPc) d acts (S.setVm v) := by
  have one : ∀ (z : ExceptionTableEntry) (j : ClassId) (S : State), s0.WarmedH S.vm → s0.vm.ClassLinks e.platform f.method.cls z.catchType j → s0.WarmedH (S.vm.noted f.method.cls z.catchType (.cls j)) ∧ (∃ y, S.vm.classes[cell.cls]? = some y) ∧ ∃ y, S.vm.classes[j]? = some y := by
    intro z j S hW hl
    obtain ⟨dk, _, _, kt, hd, _, _, _, _, hkt, _, hopen⟩ := hl.here
    obtain ⟨z1, hz1⟩ := h1
    obtain ⟨y1, hy1, -⟩ := hW.alike.2.2 _ _ hz1
    obtain ⟨y2, hy2, -⟩ := hW.alike.2.2 _ _ hkt
    exact ⟨hW.noted hd hopen (State.rightAt_cls hl), ⟨y1, hy1⟩, ⟨y2, hy2⟩⟩
  intro pre
  induction pre with
  | nil =>
    intro S hW hcell _
    obtain ⟨w1, w2, w3⟩ := one x k S hW hk
    refine ⟨_, w1, fun Q E d acts => ?_⟩
    rw [List.nil_append, s_row hx h0 (hW.classLinks hk) hcell hobj w2 w3 (b := true) (by rw [hW.alike.assignable]; exact hyes), if_pos rfl]
  | cons y ys ih =>
    intro S hW hcell hpre
    obtain ⟨c1, c2, j, c3, c4⟩ := hpre y (List.mem_cons_self ..)
    obtain ⟨w1, w2, w3⟩ := one y j S hW c3
    obtain ⟨v, hv, hq⟩ := ih (S.setVm (S.vm.noted f.method.cls y.catchType (.cls j))) w1 hcell (fun z hz => hpre z (List.mem_cons_of_mem _ hz))
    refine ⟨v, hv, fun Q E d acts => ?_⟩
    rw [List.cons_append, s_row c1 c2 (hW.classLinks c3) hcell hobj w2 w3 (b := false) (by rw [hW.alike.assignable]; exact c4), if_neg (by decide)]
    exact hq Q E d acts
theorem s_step {tb : Tables} {e : Env} {s target : State} {g : JFrame} {c : Code} {below : List Frame} {a : Addr} (h : At s g.method c below) {pc : Nat} {v : Vm}
    (hf : sTo e ((s.setTop g).pushFrame (.throwing a)) g a (.found pc) v) (hrest : Steps tb e below ((s.setVm v).setTop { g with pc := pc, stack := [.ref a] }) target) : Steps tb e below ((s.setTop g).pushFrame (.throwing a)) target := by
  obtain ⟨hgo, hw⟩ := h.throwing a
  refine Steps.head hgo hw ?_
  obtain ⟨g0, hg⟩ := Option.isSome_iff_exists.mp h.top
  obtain ⟨r, hr⟩ := State.topJava?_eq_some.mp hg
  have key : ∀ (S : State) (r : List Frame), sTo e S g a (.found pc) v → (stepThrowing e S a (.java g :: r)).Is ((S.setVm v).setFrames (.java { g with pc := pc, stack := [.ref a] } :: r)) [] := by
    intro S r hS
    simp only [stepThrowing, searchFrame, vmDo]
    generalize hz : Sem.go _ e false [] S = res
    obtain ⟨as, rfl, ha⟩ := Sem.eq_ok_of hz (a := Handler.found pc) (s' := S.setVm v) (acts' := []) (by simp [hS _ _ _ _])
    exact ⟨rfl, ha⟩
  have hfl : ∀ (u : State) (F G : List Frame), ((u.setFrames F).setVm v).setFrames G = (u.setVm v).setFrames G := fun u F G => by
    rw [show (u.setFrames F).setVm v = (u.setVm v).setFrames F from rfl, State.setFrames_setFrames]
  rw [stepThread_throwing (frames_entered h.top _), (key _ _ hf).1]
  rw [State.setTop_of_frames _ (show (s.setVm v).frames = .java g0 :: r from hr)] at hrest
  rw [hr, List.tail_cons, State.pushFrame, hfl, State.setTop_of_frames _ hr, hfl]
  exact hrest
variable {p : Program} {l : Launch} {e : Env} {R : Room} {s : State} {m : MethodId} {args : Array Value} {below : List Frame} {meth : Method} {c : Code} {H : Heap} {locs : List Loc} {cells slots : Nat} {Q : State → Prop} {pc : Nat} {ls : Array Slot} {rest : List Value}
/-- caught here, by the row x; the rows ahead of it name other classes -/
theorem w_catch {own name E : String} {ce : Cell} {q : Addr} (hown : s.vm.findClass own = some m.cls) (pre : List ExceptionTableEntry) (x : ExceptionTableEntry) (suf : List ExceptionTableEntry) (hsplit : c.exceptionTable.toList = pre ++ x :: suf)
    (hpre : ∀ z ∈ pre, covers z pc = true ∧ z.catchType ≠ 0 ∧ ∃ nm : String, (Cond.classLink own z.catchType nm).before args s = true ∧ va_Nc E nm s) (hx : covers x pc = true) (h0 : x.catchType ≠ 0)
    (hlink : (Cond.classLink own x.catchType name).before args s = true) (hcast : (Cond.castable E name).before args s = true) (hcell : H[q]? = some ce) (hv : ce.vm = .none) (hcl : s.vm.findClass E = some ce.cls)
    (kk : W p l e R s m args below meth c H locs cells slots Q (F0 m x.handlerPc ls [.ref q])) : vx_W p l e R s m args below meth c H locs cells slots Q (F0 m pc ls rest) q := by
  intro T hT X
  have hpl : e.platform.magicAccessors = ({} : Platform).magicAccessors := by rw [X.admits.platform]
  obtain ⟨c3, c4, hc3, hc4, hasg⟩ := Cond.castable_spec hcast
  cases Option.some.inj (hc3.symm.trans hcl)
  obtain ⟨c5, hc5, hcl5⟩ := Cond.classLink_spec hown hlink e.platform hpl
  cases Option.some.inj (hc4.symm.trans hc5)
  have hobj : ce.vm.isStatics = false := by rw [hv]; rfl
  obtain ⟨v, hW, hq⟩ := s_rows (e := e) (s0 := s) (f := F0 m pc ls rest) (a := q) (suf := suf) (VmData.ne_statics_of hobj) (by obtain ⟨k9, h9, -⟩ := Vm.findClass_spec hcl; exact ⟨k9, h9⟩) hx h0 hcl5 hasg pre ((T.setTop (F0 m pc ls rest)).pushFrame (.throwing q)) X.warmed (show T.heap[q]? = some ce by rw [hT]; exact hcell)
    (fun z hz => by
      obtain ⟨a1, a2, nm, a3, a8, b8, h1, h2, h3⟩ := hpre z hz
      obtain ⟨c6, hc6, hcl6⟩ := Cond.classLink_spec hown a3 e.platform hpl
      cases Option.some.inj (h1.symm.trans hcl)
      cases Option.some.inj (h2.symm.trans hc6)
      exact ⟨a1, a2, _, hcl6, h3⟩)
  obtain ⟨t, a1, b1⟩ := kk (T.setVm v) hT (X.noted hW)
  refine ⟨t, s_step X.here (v := v) (pc := x.handlerPc) (fun Q E d acts => ?_) a1, b1⟩
  rw [W.findHandler_eq (meth := meth) (code := c) X.method' X.code, hsplit]
  exact hq Q E d acts
end Catch
