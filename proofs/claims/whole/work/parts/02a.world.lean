/-! Worlds over numbered cells: cell k lies at 'ad k'; all that changes is a table V of ints (cell, place); F says what cell k is, given its row of V. -/
section WL
variable {N : Nat} {ad : Nat → Nat} {E E' : Nat → va_E} {A : Nat → Prop} {k : Nat}
def wl (N : Nat) (ad : Nat → Nat) (E : Nat → va_E) : va_W := (List.range N).map (fun k => (ad k, E k))
theorem wl_get (h : k < N) : (wl N ad E)[k]? = some (ad k, E k) := by simp [wl, h]
theorem wl_len : (wl N ad E).length = N := by simp [wl]
theorem wl_of {q : Nat × va_E} (h : (wl N ad E)[k]? = some q) : k < N ∧ q = (ad k, E k) := by
  have hk : k < N := by
    have h1 := (List.getElem?_eq_some_iff.mp h).1
    rw [wl_len] at h1
    exact h1
  rw [wl_get hk] at h
  exact ⟨hk, (Option.some.inj h).symm⟩
theorem wl_no (h : ¬ k < N) : (wl N ad E)[k]? = none := by
  rw [List.getElem?_eq_none_iff, wl_len]
  omega
theorem wl_set {e : va_E} (h : k < N) : (wl N ad E).set k (ad k, e) = wl N ad (va_up E k e) := by
  apply List.ext_getElem?
  intro j
  by_cases hj : j < N
  · rw [wl_get hj, List.getElem?_set]
    by_cases e1 : k = j
    · subst e1
      rw [if_pos rfl, if_pos (by rw [wl_len]; exact h), va_up_self]
    · rw [if_neg e1, wl_get hj, va_up_ne _ _ (Ne.symm e1)]
  · rw [wl_no hj, List.getElem?_eq_none_iff, List.length_set, wl_len]
    omega
theorem wl_D (h : va_D A (wl N ad E)) : va_D A (wl N ad E') := by
  refine ⟨fun i j p q hi hj e => ?_, fun k q hk => ?_⟩
  · obtain ⟨h1, rfl⟩ := wl_of hi
    obtain ⟨h2, rfl⟩ := wl_of hj
    exact h.1 i j (ad i, E i) (ad j, E j) (wl_get h1) (wl_get h2) e
  · obtain ⟨h1, rfl⟩ := wl_of hk
    exact h.2 k (ad k, E k) (wl_get h1)
theorem wl_Dof (h : ∀ i j, i < N → j < N → ad i = ad j → i = j) (hA : ∀ k, k < N → A (ad k)) : va_D A (wl N ad E) := by
  refine ⟨fun i j p q hi hj e => ?_, fun k q hk => ?_⟩
  · obtain ⟨h1, rfl⟩ := wl_of hi
    obtain ⟨h2, rfl⟩ := wl_of hj
    exact h i j h1 h2 e
  · obtain ⟨h1, rfl⟩ := wl_of hk
    exact hA k h1
theorem wl_Dinj (h : va_D A (wl N ad E)) {i j : Nat} (hi : i < N) (hj : j < N) (e : ad i = ad j) : i = j := h.1 i j _ _ (wl_get hi) (wl_get hj) e
/-- the cells of a world, and all that are new -/
def gA (N : Nat) (ad : Nat → Nat) (sz : Nat) : Nat → Prop := fun q => (∃ k, k < N ∧ q = ad k) ∨ sz ≤ q
theorem gA_sub {sz sz' q : Nat} (h : sz ≤ sz') (hq : gA N ad sz' q) : gA N ad sz q := hq.elim Or.inl (fun h2 => Or.inr (Nat.le_trans h h2))
theorem wl_DA {sz : Nat} (h : va_D A (wl N ad E)) : va_D (gA N ad sz) (wl N ad E') := wl_Dof (fun _ _ hi hj e => wl_Dinj h hi hj e) (fun k hk => Or.inl ⟨k, hk, rfl⟩)
end WL
abbrev vT : Type := Nat → Nat → Int32
abbrev vF : Type := Nat → (Nat → Int32) → va_E
/-- the table with one place changed -/
def u2 (V : vT) (k i : Nat) (x : Int32) : vT := va_up V k (upd (V k) i x)
theorem u2_s (V : vT) (k i : Nat) (x : Int32) : u2 V k i x k i = x := by simp [u2, va_up, upd]
theorem u2_n (V : vT) {k i a b : Nat} (x : Int32) (h : a ≠ k ∨ b ≠ i) : u2 V k i x a b = V a b := by
  by_cases e : a = k
  · subst e
    have hb : b ≠ i := h.elim (fun q => absurd rfl q) id
    simp [u2, va_up, upd, hb]
  · simp [u2, va_up, e]
theorem u2_r (V : vT) {k i a : Nat} (x : Int32) (h : a ≠ k) : u2 V k i x a = V a := by simp [u2, va_up, h]
theorem E_up {F : vF} {V : vT} {k : Nat} {g : Nat → Int32} {e : va_E} (h : F k g = e) : va_up (fun j => F j (V j)) k e = fun j => F j (va_up V k g j) := by
  funext j
  by_cases q : j = k
  · subst q
    rw [va_up_self, va_up_self, h]
  · rw [va_up_ne _ _ q, va_up_ne _ _ q]
/-- the words that speak of the nest, and the tables -/
def kK (D : va_G) (cI cD : ClassId) (U : State) : Prop := va_K D vwCl [(cI, .int), (cD, .object RX0)] U ∧ ∀ w ∈ nestW, va_Nw w U
theorem kK.warm {D : va_G} {cI cD : ClassId} {s U : State} (hW : s.WarmedH U.vm) (h : kK D cI cD s) : kK D cI cD U := ⟨va_K.moved hW.alike h.1, nestW_warm hW h.2⟩
theorem kK.blind {D : va_G} {cI cD : ClassId} {U : State} {g : JFrame} {mk : MethodId} {a : Array Value} (h : kK D cI cD U) : kK D cI cD (U.calling g mk a) := ⟨va_K.moved (u := U) (U := U.calling g mk a) (Vm.Alike.refl U.vm) h.1, fun w hw => va_Nw.same (nestW_tab w hw) (rfl : U.vm = (U.calling g mk a).vm) (h.2 w hw)⟩
/-- a world as a method finds it -/
def gP (D : va_G) (cI cD : ClassId) (N : Nat) (ad : Nat → Nat) (F : vF) (sz : Nat) (V : vT) (av : List Value) : Array Value → State → Prop :=
  va_Pc av (fun U => U.heap.size = sz ∧ va_P D vwCl (wl N ad (fun k => F k (V k))) U.heap ∧ kK D cI cD U ∧ va_D (fun _ => True) (wl N ad (fun k => F k (V k))))
theorem gP_blind {D : va_G} {cI cD : ClassId} {N : Nat} {ad : Nat → Nat} {F : vF} {sz : Nat} {V : vT} {av : List Value} : FrameBlind (gP D cI cD N ad F sz V av) := by
  intro a U g mk h
  obtain ⟨q0, q1, q2, q3, q4⟩ := h
  exact ⟨q0, q1, q2, q3.blind, q4⟩
/-- what a method leaves -/
abbrev gB (D : va_G) (N : Nat) (ad : Nat → Nat) (F : vF) (V : vT) (t : State) : Prop := va_P D vwCl (wl N ad (fun k => F k (V k))) t.heap
/-- a world in the midst of a method: it stands, its cells are apart, nothing else has changed -/
def wS (D : va_G) (N : Nat) (ad : Nat → Nat) (F : vF) (H0 : Heap) (V : vT) (H : Heap) (locs : List Loc) : Prop :=
  va_P D vwCl (wl N ad (fun k => F k (V k))) H ∧ va_D (gA N ad H0.size) (wl N ad (fun k => F k (V k))) ∧ va_S (gA N ad H0.size) H0 H locs
section Rows
variable {p : Program} {l : Launch} {e : Env} {R : Room} {s : State} {m : MethodId} {args : Array Value} {below : List Frame} {meth : Method} {c : Code} {H : Heap} {locs : List Loc} {cells slots : Nat} {Q : State → Prop}
variable {cc : ByteArray} {pc : Nat} {ls : Array Slot} {rest st0 : List Value} {D : va_G} {cI cD : ClassId} {N : Nat} {ad : Nat → Nat} {F : vF} {V : vT}
theorem w_get (hexec : p.tables.exec = Jvm.exec) (hb : c.code = cc) {own C : String} {T : u_T} {M ci index : Nat} {Ts : List Cond} (hts : ∀ w ∈ Ts, w.before args s = true) (hin : ∀ w ∈ u_ws C T M, w ∈ Ts) (hown : s.vm.findClass own = some m.cls) (hK : kK D cI cD s) (hw : wS D N ad F s.heap V H locs) (k : Nat) (hk : k < N) (fs : List Value) (he : F k (V k) = .inr (ci, fs)) (hc : vwCl[ci]? = some (C, T, M)) (j : Nat) (hj : j < M) (hlink : (Cond.fieldLink own index (T j).1 (T j).2.1 (T j).2.2.1).before args s = true) {v : Value} (hv : fs[j]? = some v) (hdg : decode cc pc = .ok (.getfield index, 3))
    (kk : W p l e R s m args below meth c H locs cells slots Q (F0 m (pc + 3) ls (v :: rest))) : W p l e R s m args below meth c H locs cells slots Q (F0 m pc ls (.ref (ad k) :: rest)) :=
  va_get hexec hb hts hin hown hK.1 hw.1 k (by rw [wl_get hk, he]) hc j hj hlink (fun _ h => h) hv hdg kk
theorem w_getN (hexec : p.tables.exec = Jvm.exec) (hb : c.code = cc) {own C host : String} {T : u_T} {M ci index : Nat} {Ts : List Cond} (hts : ∀ w ∈ Ts, w.before args s = true) (hin : ∀ w ∈ u_ws C T M, w ∈ Ts) (hown : s.vm.findClass own = some m.cls) (hK : kK D cI cD s) (hw : wS D N ad F s.heap V H locs) (k : Nat) (hk : k < N) (fs : List Value) (he : F k (V k) = .inr (ci, fs)) (hc : vwCl[ci]? = some (C, T, M)) (j : Nat) (hj : j < M) (hlink : (Cond.fieldLinkNest own index (T j).1 (T j).2.1 (T j).2.2.1 host).before args s = true) {v : Value} (hv : fs[j]? = some v) (hdg : decode cc pc = .ok (.getfield index, 3))
    (kk : W p l e R s m args below meth c H locs cells slots Q (F0 m (pc + 3) ls (v :: rest))) : W p l e R s m args below meth c H locs cells slots Q (F0 m pc ls (.ref (ad k) :: rest)) :=
  va_getN hexec hb hts hin hown hK.1 hw.1 k (by rw [wl_get hk, he]) hc j hj hlink (fun _ h => h) hv hdg kk
theorem wS_set {k : Nat} {g : Nat → Int32} {e9 : va_E} {H1 : Heap} {locs1 : List Loc} (hk : k < N) (he : F k g = e9) (h1 : va_P D vwCl ((wl N ad (fun k => F k (V k))).set k (ad k, e9)) H1) (h2 : va_D (gA N ad s.heap.size) ((wl N ad (fun k => F k (V k))).set k (ad k, e9))) (h3 : va_S (gA N ad s.heap.size) s.heap H1 locs1) : wS D N ad F s.heap (va_up V k g) H1 locs1 := by
  rw [wl_set hk, E_up he] at h1 h2
  exact ⟨h1, h2, h3⟩
theorem w_put (hexec : p.tables.exec = Jvm.exec) (hb : c.code = cc) {own C : String} {T : u_T} {M ci index : Nat} {Ts : List Cond} (hts : ∀ w ∈ Ts, w.before args s = true) (hin : ∀ w ∈ u_ws C T M, w ∈ Ts) (ty0 : Nat → FieldType) (hty : ∀ k, k < M → parseFieldDescriptor (T k).2.2.1 = some (ty0 k)) (hnm : ∀ a, a < M → ∀ b, b < M → a ≠ b → (T a).2.1 ≠ (T b).2.1) (hown : s.vm.findClass own = some m.cls) (hK : kK D cI cD s) (hw : wS D N ad F s.heap V H locs) (k : Nat) (hk : k < N) (fs : List Value) (he : F k (V k) = .inr (ci, fs)) (hc : vwCl[ci]? = some (C, T, M)) (j : Nat) (hj : j < M) (hlink : (Cond.fieldLink own index (T j).1 (T j).2.1 (T j).2.2.1).before args s = true) (hfin : (T j).2.2.2 = false) {x : Int32} {ty : FieldType} (hd : parseFieldDescriptor (T j).2.2.1 = some ty) (hn : narrow ty (.int x) = .int x) (hfit : fits ty (.int x) = true) (hl : j < fs.length) (he2 : F k (upd (V k) j x) = .inr (ci, fs.set j (.int x))) (hdg : decode cc pc = .ok (.putfield index, 3))
    (kk : ∀ (H1 : Heap) (locs1 : List Loc), wS D N ad F s.heap (u2 V k j x) H1 locs1 → W p l e R s m args below meth c H1 locs1 cells slots Q (F0 m (pc + 3) ls rest)) : W p l e R s m args below meth c H locs cells slots Q (F0 m pc ls (.int x :: .ref (ad k) :: rest)) :=
  va_put hexec hb hts hin ty0 hty hnm hown hK.1 hw.1 hw.2.1 hw.2.2 k (by rw [wl_get hk, he]) hc j hj hlink (fun _ h => h) hfin hd hn hfit hl hdg (fun H1 locs1 h1 h2 h3 => kk H1 locs1 (wS_set hk he2 h1 h2 h3))
theorem w_putN (hexec : p.tables.exec = Jvm.exec) (hb : c.code = cc) {own C host : String} {T : u_T} {M ci index : Nat} {Ts : List Cond} (hts : ∀ w ∈ Ts, w.before args s = true) (hin : ∀ w ∈ u_ws C T M, w ∈ Ts) (ty0 : Nat → FieldType) (hty : ∀ k, k < M → parseFieldDescriptor (T k).2.2.1 = some (ty0 k)) (hnm : ∀ a, a < M → ∀ b, b < M → a ≠ b → (T a).2.1 ≠ (T b).2.1) (hown : s.vm.findClass own = some m.cls) (hK : kK D cI cD s) (hw : wS D N ad F s.heap V H locs) (k : Nat) (hk : k < N) (fs : List Value) (he : F k (V k) = .inr (ci, fs)) (hc : vwCl[ci]? = some (C, T, M)) (j : Nat) (hj : j < M) (hlink : (Cond.fieldLinkNest own index (T j).1 (T j).2.1 (T j).2.2.1 host).before args s = true) (hfin : (T j).2.2.2 = false) {x : Int32} {ty : FieldType} (hd : parseFieldDescriptor (T j).2.2.1 = some ty) (hn : narrow ty (.int x) = .int x) (hfit : fits ty (.int x) = true) (hl : j < fs.length) (he2 : F k (upd (V k) j x) = .inr (ci, fs.set j (.int x))) (hdg : decode cc pc = .ok (.putfield index, 3))
    (kk : ∀ (H1 : Heap) (locs1 : List Loc), wS D N ad F s.heap (u2 V k j x) H1 locs1 → W p l e R s m args below meth c H1 locs1 cells slots Q (F0 m (pc + 3) ls rest)) : W p l e R s m args below meth c H locs cells slots Q (F0 m pc ls (.int x :: .ref (ad k) :: rest)) :=
  va_putN hexec hb hts hin ty0 hty hnm hown hK.1 hw.1 hw.2.1 hw.2.2 k (by rw [wl_get hk, he]) hc j hj hlink (fun _ h => h) hfin hd hn hfit hl hdg (fun H1 locs1 h1 h2 h3 => kk H1 locs1 (wS_set hk he2 h1 h2 h3))
theorem w_iald (hexec : p.tables.exec = Jvm.exec) (hb : c.code = cc) (hK : kK D cI cD s) (hw : wS D N ad F s.heap V H locs) (k n : Nat) (hk : k < N) (he : ∀ f, F k f = .inl (cI, n, .inl f)) {i : Nat} (hi : i < n) (hn : n < 2 ^ 31) (hdg : decode cc pc = .ok (.iaload, 1))
    (kk : W p l e R s m args below meth c H locs cells slots Q (F0 m (pc + 1) ls (.int (V k i) :: rest))) : W p l e R s m args below meth c H locs cells slots Q (F0 m pc ls (.int (nI i) :: .ref (ad k) :: rest)) := by
  refine va_iald hexec hb hK.1 hw.1 k 0 (by rw [wl_get hk, he]) rfl (vp_in_nI hi hn) hdg ?_
  rw [nI_clamp (by omega)]
  exact kk
theorem w_iast (hexec : p.tables.exec = Jvm.exec) (hb : c.code = cc) (hK : kK D cI cD s) (hw : wS D N ad F s.heap V H locs) (k n : Nat) (hk : k < N) (he : ∀ f, F k f = .inl (cI, n, .inl f)) {i : Nat} (hi : i < n) (hn : n < 2 ^ 31) {x : Int32} (hdg : decode cc pc = .ok (.iastore, 1))
    (kk : ∀ (H1 : Heap) (locs1 : List Loc), wS D N ad F s.heap (u2 V k i x) H1 locs1 → W p l e R s m args below meth c H1 locs1 cells slots Q (F0 m (pc + 1) ls rest)) : W p l e R s m args below meth c H locs cells slots Q (F0 m pc ls (.int x :: .int (nI i) :: .ref (ad k) :: rest)) := by
  refine va_iast hexec hb hK.1 hw.1 hw.2.1 hw.2.2 k 0 (by rw [wl_get hk, he]) rfl (vp_in_nI hi hn) hdg (fun H1 locs1 h1 h2 h3 => kk H1 locs1 ?_)
  rw [nI_clamp (by omega)] at h1 h2
  exact wS_set hk (he _) h1 h2 h3
theorem w_aald (hexec : p.tables.exec = Jvm.exec) (hb : c.code = cc) (hK : kK D cI cD s) (hw : wS D N ad F s.heap V H locs) (k n : Nat) (hk : k < N) {f : Nat → Option Nat} (he : F k (V k) = .inl (cD, n, .inr (.inr (.inr (.inr f))))) {i q : Nat} (hi : i < n) (hn : n < 2 ^ 31) (hq : f i = some q) (hdg : decode cc pc = .ok (.aaload, 1))
    (kk : W p l e R s m args below meth c H locs cells slots Q (F0 m (pc + 1) ls (.ref q :: rest))) : W p l e R s m args below meth c H locs cells slots Q (F0 m pc ls (.int (nI i) :: .ref (ad k) :: rest)) := by
  refine va_aldq hexec hb hK.1 hw.1 k 1 (by rw [wl_get hk, he]) rfl (vp_in_nI hi hn) hdg ?_
  rw [nI_clamp (by omega), hq]
  exact kk
theorem w_copyi (hexec : p.tables.exec = Jvm.exec) (hb : c.code = cc) (hml : c.maxLocals = ls.size) {own : String} {index : Nat} (hown : s.vm.findClass own = some m.cls) (hlink : (Cond.methodLink own index arraycopyName).before args s = true) (hnat : (Cond.native arraycopyName).before args s = true) (hstat : (Cond.static arraycopyName).before args s = true) (hini : (Cond.initialized "java/lang/System").before args s = true) (hK : kK D cI cD s) (hw : wS D N ad F s.heap V H locs) (k0 k1 n0 n1 : Nat) (hk0 : k0 < N) (hk1 : k1 < N) (he0 : ∀ f, F k0 f = .inl (cI, n0, .inl f)) (he1 : ∀ f, F k1 f = .inl (cI, n1, .inl f)) {sp dp n : Nat} (h4 : sp + n ≤ n0) (h5 : dp + n ≤ n1) (hn0 : n0 < 2 ^ 31) (hn1 : n1 < 2 ^ 31)
    (hframes : 1 ≤ R.frames) (hlocals : (rest.map fun v => v.category).sum + (nativeFrameWords "java/lang/System" "arraycopy" 5 + 11) ≤ R.locals) (hdg : decode cc pc = .ok (.invokestatic index, 3))
    (kk : ∀ (H1 : Heap) (locs1 : List Loc), wS D N ad F s.heap (va_up V k1 (va_cpy (V k0) (V k1) sp dp n)) H1 locs1 → W p l e R s m args below meth c H1 locs1 cells slots Q (F0 m (pc + 3) ls rest)) : W p l e R s m args below meth c H locs cells slots Q (F0 m pc ls (.int (nI n) :: .int (nI dp) :: .ref (ad k1) :: .int (nI sp) :: .ref (ad k0) :: rest)) := by
  refine va_copyi hexec hb hml hown hlink hnat hstat hini hK.1 hw.1 hw.2.1 hw.2.2 k0 k1 0 0 (by rw [wl_get hk0, he0]) (by rw [wl_get hk1, he1]) rfl rfl rfl (nI_pos (by omega)) (nI_pos (by omega)) (nI_pos (by omega)) (by rw [nI_clamp (by omega), nI_clamp (by omega)]; exact h4) (by rw [nI_clamp (by omega), nI_clamp (by omega)]; exact h5) (fun _ _ => rfl) hframes hlocals hdg (fun H1 locs1 h1 h2 h3 => kk H1 locs1 ?_)
  rw [nI_clamp (by omega), nI_clamp (by omega), nI_clamp (by omega)] at h1 h2
  exact wS_set hk1 (he1 _) h1 h2 h3
variable {mc ms : Nat} {a : Array Value}
theorem w_calli {post : Int32 → vT → Prop} (hw : wS D N ad F s.heap V H locs) (hr : va_Run p l e R s m args below meth c H locs cells slots mc ms (F0 m pc ls st0) rest (va_Qi post (gB D N ad F) (gA N ad H.size) a) (gA N ad H.size))
    (kk : ∀ (r : Int32) (V1 : vT) (H1 : Heap) (locs1 : List Loc), post r V1 → wS D N ad F s.heap V1 H1 locs1 → W p l e R s m args below meth c H1 locs1 (cells + mc) (slots + ms) Q (F0 m (pc + 3) ls (.int r :: rest))) : W p l e R s m args below meth c H locs cells slots Q (F0 m pc ls st0) :=
  va_calli hr hw.2.2 (fun _ _ h => gA_sub hw.2.2.1 h) (fun _ h => gA_sub hw.2.2.1 h) (fun r u t H1 locs1 ht _ hp hB _ _ hS => kk r u H1 locs1 hp ⟨by rw [← ht]; exact hB, wl_D hw.2.1, hS⟩)
theorem w_callv {post : vT → Prop} (hw : wS D N ad F s.heap V H locs) (hr : va_Run p l e R s m args below meth c H locs cells slots mc ms (F0 m pc ls st0) rest (va_Qv post (gB D N ad F) (gA N ad H.size) a) (gA N ad H.size))
    (kk : ∀ (V1 : vT) (H1 : Heap) (locs1 : List Loc), post V1 → wS D N ad F s.heap V1 H1 locs1 → W p l e R s m args below meth c H1 locs1 (cells + mc) (slots + ms) Q (F0 m (pc + 3) ls rest)) : W p l e R s m args below meth c H locs cells slots Q (F0 m pc ls st0) :=
  va_callv hr hw.2.2 (fun _ _ h => gA_sub hw.2.2.1 h) (fun _ h => gA_sub hw.2.2.1 h) (fun u t H1 locs1 ht _ hp hB _ _ hS => kk u H1 locs1 hp ⟨by rw [← ht]; exact hB, wl_D hw.2.1, hS⟩)
/-- .. that hands back a cell of the world: which one -/
abbrev gBr (D : va_G) (N : Nat) (ad : Nat → Nat) (F : vF) (u : Nat × vT) (q : Nat) (t : State) : Prop := q = ad u.1 ∧ va_P D vwCl (wl N ad (fun k => F k (u.2 k))) t.heap
theorem w_callr {post : Nat × vT → Prop} (hw : wS D N ad F s.heap V H locs) (hr : va_Run p l e R s m args below meth c H locs cells slots mc ms (F0 m pc ls st0) rest (va_Qr post (gBr D N ad F) (gA N ad H.size) a) (gA N ad H.size))
    (kk : ∀ (k : Nat) (V1 : vT) (H1 : Heap) (locs1 : List Loc), post (k, V1) → wS D N ad F s.heap V1 H1 locs1 → W p l e R s m args below meth c H1 locs1 (cells + mc) (slots + ms) Q (F0 m (pc + 3) ls (.ref (ad k) :: rest))) : W p l e R s m args below meth c H locs cells slots Q (F0 m pc ls st0) :=
  va_callr hr hw.2.2 (fun _ _ h => gA_sub hw.2.2.1 h) (fun _ h => gA_sub hw.2.2.1 h) (fun u ra t H1 locs1 ht _ hp hB _ _ hS => by
    obtain ⟨k, V1⟩ := u
    obtain ⟨rfl, hB⟩ := hB
    exact kk k V1 H1 locs1 hp ⟨by rw [← ht]; exact hB, wl_D hw.2.1, hS⟩)
theorem w_preV (hK : kK D cI cD s) (hw : wS D N ad F s.heap V H locs) {k : Nat} (hk : k < N) {ci : Nat} {fs : List Value} {q : vw_C} (he : F k (V k) = .inr (ci, fs)) (hc : vwCl[ci]? = some q) (As : List Value) : PreV s H q.1 (ad k) (gP D cI cD N ad F H.size V (.ref (ad k) :: As)) As :=
  ⟨gP_blind, va_recv hK.1 hw.1 (q0 := k) hc (by rw [wl_get hk, he]), fun U hU hW => ⟨rfl, by rw [hU], by rw [hU]; exact hw.1, hK.warm hW, hw.2.1.weaken (fun _ _ _ _ => trivial)⟩⟩
theorem w_preS (hK : kK D cI cD s) (hw : wS D N ad F s.heap V H locs) (As : List Value) : PreS s H (gP D cI cD N ad F H.size V As) As :=
  ⟨gP_blind, fun U hU hW => ⟨rfl, by rw [hU], by rw [hU]; exact hw.1, hK.warm hW, hw.2.1.weaken (fun _ _ _ _ => trivial)⟩⟩
theorem w_iret {post : Int32 → vT → Prop} (hexec : p.tables.exec = Jvm.exec) (hb : c.code = cc) (hr : meth.sig.returnType = some .int) (hlocks : meth.locks = false) (hw : wS D N ad F s.heap V H locs) {v : Int32} (hp : post v V) (hdg : decode cc pc = .ok (.ireturn, 1)) :
    W p l e R s m args below meth c H locs cells slots (MQ below (va_Qi post (gB D N ad F) (gA N ad s.heap.size)) args s cells slots (gA N ad s.heap.size)) (F0 m pc ls [.int v]) :=
  W.iret hexec hb hr (fun t ht _ => ⟨⟨v, V, rfl, hp, by rw [gB, ht]; exact hw.1⟩, hw.2.2.F ht⟩) hw.2.2.2.2 hdg hlocks
theorem w_zret {post : Int32 → vT → Prop} (hexec : p.tables.exec = Jvm.exec) (hb : c.code = cc) (hr : meth.sig.returnType = some .boolean) (hlocks : meth.locks = false) (hw : wS D N ad F s.heap V H locs) {v : Int32} (hn : narrow .boolean (.int v) = .int v) (hp : post v V) (hdg : decode cc pc = .ok (.ireturn, 1)) :
    W p l e R s m args below meth c H locs cells slots (MQ below (va_Qi post (gB D N ad F) (gA N ad s.heap.size)) args s cells slots (gA N ad s.heap.size)) (F0 m pc ls [.int v]) :=
  W.zret hexec hb hr hn (fun t ht _ => ⟨⟨v, V, rfl, hp, by rw [gB, ht]; exact hw.1⟩, hw.2.2.F ht⟩) hw.2.2.2.2 hdg hlocks
theorem w_vret {post : vT → Prop} (hexec : p.tables.exec = Jvm.exec) (hb : c.code = cc) (hr : meth.sig.returnType = none) (hlocks : meth.locks = false) (hw : wS D N ad F s.heap V H locs) (hp : post V) (hdg : decode cc pc = .ok (.return_, 1)) :
    W p l e R s m args below meth c H locs cells slots (MQ below (va_Qv post (gB D N ad F) (gA N ad s.heap.size)) args s cells slots (gA N ad s.heap.size)) (F0 m pc ls []) :=
  W.vret hexec hb hr (fun t ht _ => ⟨⟨V, rfl, hp, by rw [gB, ht]; exact hw.1⟩, hw.2.2.F ht⟩) hw.2.2.2.2 hdg hlocks
theorem w_aret {post : Nat × vT → Prop} {C : String} (hexec : p.tables.exec = Jvm.exec) (hb : c.code = cc) (hr : meth.sig.returnType = some (.object C)) (hlocks : meth.locks = false) (hw : wS D N ad F s.heap V H locs) {k : Nat} (hp : post (k, V)) (hdg : decode cc pc = .ok (.areturn, 1)) :
    W p l e R s m args below meth c H locs cells slots (MQ below (va_Qr post (gBr D N ad F) (gA N ad s.heap.size)) args s cells slots (gA N ad s.heap.size)) (F0 m pc ls [.ref (ad k)]) :=
  W.aret hexec hb hr (Or.inl ⟨C, rfl⟩) (Or.inr ⟨ad k, rfl⟩) (fun t ht _ => ⟨⟨(k, V), ad k, rfl, hp, rfl, by rw [ht]; exact hw.1⟩, hw.2.2.F ht⟩) hw.2.2.2.2 hdg hlocks
end Rows
/-- a contract over a world, from the walk of its body -/
theorem w_met {l : Launch} {y : MethodName} {ws ws' : List Cond} {rm : Room} {D : va_G} {cI cD : ClassId} {N : Nat} {ad : Nat → Nat} {F : vF} {sz : Nat} {V : vT} {av : List Value} {Qc : Array Value → State → Outcome → State → Prop} {mc ms : Nat} {cc : ByteArray} {maxL : Nat} {ret : Option FieldType}
    (hy : plainName y.cls = true) (hw : ws = Cond.code y cc maxL ret :: ws') (hlen : (lg_sl av).length ≤ maxL)
    (body : ∀ (p : Program) (e : Env) (s : State) (m : MethodId) (below : List Frame) (meth : Method) (c : Code), p.tables.exec = Jvm.exec → c.code = cc → meth.sig.returnType = ret → (∀ w ∈ ws, w.before av.toArray s = true) → s.vm.findClass y.cls = some m.cls → meth.locks = false → c.maxLocals = maxL → s.heap.size = sz → kK D cI cD s → wS D N ad F s.heap V s.heap [] → ∀ ls : Array Slot, lv_has ls maxL (lv_args 0 av) →
      W p l e rm s m av.toArray below meth c s.heap [] 0 0 (MQ below Qc av.toArray s mc ms (gA N ad sz)) (F0 m 0 ls [])) :
    Met l y ws rm (gP D cI cD N ad F sz V av) Qc mc ms (gA N ad sz) := by
  refine Met.ofW (cc := cc) (maxL := maxL) (ret := ret) hy hw ?_
  intro p e s m args below meth c s₁ B hml hv
  obtain ⟨rfl, hsz, hP, hK, hD0⟩ := hv
  rw [lg_entry_eq]
  exact body p e s m below meth c B.exec B.bytes B.returns (atoms_spec (ws := ws) B.pre) (findClass_of_methodNamed B.named) B.notSynchronized hml hsz hK ⟨hP, wl_DA hD0, va_S.rf⟩ _ (lv_entry av hlen)
