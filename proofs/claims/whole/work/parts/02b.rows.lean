/-! rows in numbers: ints that are known naturals -/
section NR
variable {p : Program} {l : Launch} {e : Env} {R : Room} {s : State} {m : MethodId} {args : Array Value} {below : List Frame} {meth : Method} {c : Code} {H : Heap} {locs : List Loc} {cells slots : Nat} {Q : State → Prop}
variable {cc : ByteArray} {pc : Nat} {ls : Array Slot} {rest : List Value}
theorem n_add (hexec : p.tables.exec = Jvm.exec) (hb : c.code = cc) {a b : Nat} (hdg : decode cc pc = .ok (.iadd, 1)) (k : W p l e R s m args below meth c H locs cells slots Q (F0 m (pc + 1) ls (.int (nI (a + b)) :: rest))) : W p l e R s m args below meth c H locs cells slots Q (F0 m pc ls (.int (nI b) :: .int (nI a) :: rest)) := by
  refine lv_iadd hexec hb hdg ?_
  rw [nI_add]
  exact k
theorem n_sub (hexec : p.tables.exec = Jvm.exec) (hb : c.code = cc) {a b : Nat} (hdg : decode cc pc = .ok (.isub, 1)) (h : b ≤ a) (k : W p l e R s m args below meth c H locs cells slots Q (F0 m (pc + 1) ls (.int (nI (a - b)) :: rest))) : W p l e R s m args below meth c H locs cells slots Q (F0 m pc ls (.int (nI b) :: .int (nI a) :: rest)) := by
  refine lv_isub hexec hb hdg ?_
  rw [pk_sub h]
  exact k
theorem n_mul (hexec : p.tables.exec = Jvm.exec) (hb : c.code = cc) {a b : Nat} (hdg : decode cc pc = .ok (.imul, 1)) (k : W p l e R s m args below meth c H locs cells slots Q (F0 m (pc + 1) ls (.int (nI (a * b)) :: rest))) : W p l e R s m args below meth c H locs cells slots Q (F0 m pc ls (.int (nI b) :: .int (nI a) :: rest)) := by
  refine lv_imul hexec hb hdg ?_
  rw [pk_mul]
  exact k
theorem n_div (hexec : p.tables.exec = Jvm.exec) (hb : c.code = cc) {a b : Nat} (hdg : decode cc pc = .ok (.idiv, 1)) (ha : a < 2 ^ 31) (h0 : 0 < b) (hd : b < 2 ^ 31) (k : W p l e R s m args below meth c H locs cells slots Q (F0 m (pc + 1) ls (.int (nI (a / b)) :: rest))) : W p l e R s m args below meth c H locs cells slots Q (F0 m pc ls (.int (nI b) :: .int (nI a) :: rest)) := by
  refine lv_idiv hexec hb hdg (nI_ne0 h0 hd) ?_
  rw [pk_div ha h0 hd]
  exact k
theorem n_rem (hexec : p.tables.exec = Jvm.exec) (hb : c.code = cc) {a b : Nat} (hdg : decode cc pc = .ok (.irem, 1)) (ha : a < 2 ^ 31) (h0 : 0 < b) (hd : b < 2 ^ 31) (k : W p l e R s m args below meth c H locs cells slots Q (F0 m (pc + 1) ls (.int (nI (a % b)) :: rest))) : W p l e R s m args below meth c H locs cells slots Q (F0 m pc ls (.int (nI b) :: .int (nI a) :: rest)) := by
  refine lv_irem hexec hb hdg (nI_ne0 h0 hd) ?_
  rw [pk_rem ha h0 hd]
  exact k
theorem n_icmp_eq (hexec : p.tables.exec = Jvm.exec) (hb : c.code = cc) {a b : Nat} {off : Int} {tgt : Nat} (hdg : decode cc pc = .ok (.if_icmp .eq off, 3)) (ht : (pc : Int) + off = (tgt : Int)) (ha : a < 2 ^ 31) (hb9 : b < 2 ^ 31)
    (kt : a = b → W p l e R s m args below meth c H locs cells slots Q (F0 m tgt ls rest)) (kf : a ≠ b → W p l e R s m args below meth c H locs cells slots Q (F0 m (pc + 3) ls rest)) : W p l e R s m args below meth c H locs cells slots Q (F0 m pc ls (.int (nI b) :: .int (nI a) :: rest)) :=
  lv_icmp_eq hexec hb hdg ht (fun h => kt ((nI_eq ha hb9).mp h)) (fun h => kf (fun q => h ((nI_eq ha hb9).mpr q)))
theorem n_icmp_ne (hexec : p.tables.exec = Jvm.exec) (hb : c.code = cc) {a b : Nat} {off : Int} {tgt : Nat} (hdg : decode cc pc = .ok (.if_icmp .ne off, 3)) (ht : (pc : Int) + off = (tgt : Int)) (ha : a < 2 ^ 31) (hb9 : b < 2 ^ 31)
    (kt : a ≠ b → W p l e R s m args below meth c H locs cells slots Q (F0 m tgt ls rest)) (kf : a = b → W p l e R s m args below meth c H locs cells slots Q (F0 m (pc + 3) ls rest)) : W p l e R s m args below meth c H locs cells slots Q (F0 m pc ls (.int (nI b) :: .int (nI a) :: rest)) :=
  lv_icmp_ne hexec hb hdg ht (fun h => kt (fun q => h ((nI_eq ha hb9).mpr q))) (fun h => kf ((nI_eq ha hb9).mp h))
theorem n_icmp_lt (hexec : p.tables.exec = Jvm.exec) (hb : c.code = cc) {a b : Nat} {off : Int} {tgt : Nat} (hdg : decode cc pc = .ok (.if_icmp .lt off, 3)) (ht : (pc : Int) + off = (tgt : Int)) (ha : a < 2 ^ 31) (hb9 : b < 2 ^ 31)
    (kt : a < b → W p l e R s m args below meth c H locs cells slots Q (F0 m tgt ls rest)) (kf : b ≤ a → W p l e R s m args below meth c H locs cells slots Q (F0 m (pc + 3) ls rest)) : W p l e R s m args below meth c H locs cells slots Q (F0 m pc ls (.int (nI b) :: .int (nI a) :: rest)) :=
  lv_icmp_lt hexec hb hdg ht (fun h => kt ((nI_ltI ha hb9).mp h)) (fun h => kf (Nat.not_lt.mp (fun q => h ((nI_ltI ha hb9).mpr q))))
theorem n_icmp_ge (hexec : p.tables.exec = Jvm.exec) (hb : c.code = cc) {a b : Nat} {off : Int} {tgt : Nat} (hdg : decode cc pc = .ok (.if_icmp .ge off, 3)) (ht : (pc : Int) + off = (tgt : Int)) (ha : a < 2 ^ 31) (hb9 : b < 2 ^ 31)
    (kt : b ≤ a → W p l e R s m args below meth c H locs cells slots Q (F0 m tgt ls rest)) (kf : a < b → W p l e R s m args below meth c H locs cells slots Q (F0 m (pc + 3) ls rest)) : W p l e R s m args below meth c H locs cells slots Q (F0 m pc ls (.int (nI b) :: .int (nI a) :: rest)) :=
  lv_icmp_ge hexec hb hdg ht (fun h => kt ((nI_leI hb9 ha).mp h)) (fun h => kf (Nat.not_le.mp (fun q => h ((nI_leI hb9 ha).mpr q))))
theorem n_icmp_gt (hexec : p.tables.exec = Jvm.exec) (hb : c.code = cc) {a b : Nat} {off : Int} {tgt : Nat} (hdg : decode cc pc = .ok (.if_icmp .gt off, 3)) (ht : (pc : Int) + off = (tgt : Int)) (ha : a < 2 ^ 31) (hb9 : b < 2 ^ 31)
    (kt : b < a → W p l e R s m args below meth c H locs cells slots Q (F0 m tgt ls rest)) (kf : a ≤ b → W p l e R s m args below meth c H locs cells slots Q (F0 m (pc + 3) ls rest)) : W p l e R s m args below meth c H locs cells slots Q (F0 m pc ls (.int (nI b) :: .int (nI a) :: rest)) :=
  lv_icmp_gt hexec hb hdg ht (fun h => kt ((nI_ltI hb9 ha).mp h)) (fun h => kf (Nat.not_lt.mp (fun q => h ((nI_ltI hb9 ha).mpr q))))
theorem n_icmp_le (hexec : p.tables.exec = Jvm.exec) (hb : c.code = cc) {a b : Nat} {off : Int} {tgt : Nat} (hdg : decode cc pc = .ok (.if_icmp .le off, 3)) (ht : (pc : Int) + off = (tgt : Int)) (ha : a < 2 ^ 31) (hb9 : b < 2 ^ 31)
    (kt : a ≤ b → W p l e R s m args below meth c H locs cells slots Q (F0 m tgt ls rest)) (kf : b < a → W p l e R s m args below meth c H locs cells slots Q (F0 m (pc + 3) ls rest)) : W p l e R s m args below meth c H locs cells slots Q (F0 m pc ls (.int (nI b) :: .int (nI a) :: rest)) :=
  lv_icmp_le hexec hb hdg ht (fun h => kt ((nI_leI ha hb9).mp h)) (fun h => kf (Nat.not_le.mp (fun q => h ((nI_leI ha hb9).mpr q))))
/-- the top of the stack by another name -/
theorem n_is {x y : Int32} (h : x = y) (k : W p l e R s m args below meth c H locs cells slots Q (F0 m pc ls (.int y :: rest))) : W p l e R s m args below meth c H locs cells slots Q (F0 m pc ls (.int x :: rest)) := h ▸ k
end NR
theorem nI_c (n : Nat) : nI n = Int32.ofNat n := rfl
/-- truth as the machine has it -/
def bI (b : Bool) : Int32 := if b then 1 else 0
theorem bI_nar (b : Bool) : narrow .boolean (.int (bI b)) = .int (bI b) := by cases b <;> rfl
theorem bI_fit (b : Bool) : fits .boolean (.int (bI b)) = true := by cases b <;> rfl
theorem bI_0 {b : Bool} : bI b = 0 ↔ b = false := by cases b <;> decide
theorem bI_n0 {b : Bool} : ¬ bI b = 0 ↔ b = true := by cases b <;> decide
theorem bI_inj {a b : Bool} (h : bI a = bI b) : a = b := by revert h; cases a <;> cases b <;> decide
/-! the class's cells: 0 the object, 1 its disks, 2 now, 3 data, 4 parity; disk d: 5+7d itself, 6+7d words, 7+7d even marks, 8+7d odd marks, 9+7d waiting rows, 10+7d waiting words, 11+7d waiting marks -/
def cM (f : Nat → Int32) : va_E := .inr (1, [.int (f 0), .int (f 1), .int (f 2), .int (f 3), .int (f 4)])
def cF (cI cD : ClassId) (ad : Nat → Nat) : vF := fun k f =>
  if k = 0 then .inr (2, [.ref (ad 1), .ref (ad 2), .ref (ad 3), .ref (ad 4), .int (f 4), .int (f 5), .int (f 6), .int (f 7), .int (f 8), .int (f 9)])
  else if k = 1 then .inl (cD, 6, .inr (.inr (.inr (.inr (fun j => some (ad (5 + 7 * j)))))))
  else if k = 2 then cM f
  else if k = 3 then .inl (cI, 24, .inl f)
  else if k = 4 then .inl (cI, 4, .inl f)
  else if k % 7 = 5 then .inr (0, [.ref (ad (k + 1)), .ref (ad (k + 2)), .ref (ad (k + 3)), .int (f 3), .ref (ad (k + 4)), .ref (ad (k + 5)), .ref (ad (k + 6))])
  else if k % 7 = 6 then .inl (cI, 160, .inl f)
  else if k % 7 = 0 then cM f
  else if k % 7 = 1 then cM f
  else if k % 7 = 2 then .inl (cI, 8, .inl f)
  else if k % 7 = 3 then .inl (cI, 32, .inl f)
  else cM f
section CF
variable {cI cD : ClassId} {ad : Nat → Nat}
theorem cF_0 (f : Nat → Int32) : cF cI cD ad 0 f = .inr (2, [.ref (ad 1), .ref (ad 2), .ref (ad 3), .ref (ad 4), .int (f 4), .int (f 5), .int (f 6), .int (f 7), .int (f 8), .int (f 9)]) := rfl
theorem cF_1 (f : Nat → Int32) : cF cI cD ad 1 f = .inl (cD, 6, .inr (.inr (.inr (.inr (fun j => some (ad (5 + 7 * j))))))) := rfl
theorem cF_2 (f : Nat → Int32) : cF cI cD ad 2 f = cM f := rfl
theorem cF_3 (f : Nat → Int32) : cF cI cD ad 3 f = .inl (cI, 24, .inl f) := rfl
theorem cF_4 (f : Nat → Int32) : cF cI cD ad 4 f = .inl (cI, 4, .inl f) := rfl
theorem cF_d0 (d : Nat) (f : Nat → Int32) : cF cI cD ad (5 + 7 * d) f = .inr (0, [.ref (ad (6 + 7 * d)), .ref (ad (7 + 7 * d)), .ref (ad (8 + 7 * d)), .int (f 3), .ref (ad (9 + 7 * d)), .ref (ad (10 + 7 * d)), .ref (ad (11 + 7 * d))]) := by
  unfold cF
  rw [if_neg (by omega), if_neg (by omega), if_neg (by omega), if_neg (by omega), if_neg (by omega), if_pos (by omega)]
  rw [show 5 + 7 * d + 1 = 6 + 7 * d by omega, show 5 + 7 * d + 2 = 7 + 7 * d by omega, show 5 + 7 * d + 3 = 8 + 7 * d by omega, show 5 + 7 * d + 4 = 9 + 7 * d by omega, show 5 + 7 * d + 5 = 10 + 7 * d by omega, show 5 + 7 * d + 6 = 11 + 7 * d by omega]
theorem cF_d1 (d : Nat) (f : Nat → Int32) : cF cI cD ad (6 + 7 * d) f = .inl (cI, 160, .inl f) := by
  unfold cF
  rw [if_neg (by omega), if_neg (by omega), if_neg (by omega), if_neg (by omega), if_neg (by omega), if_neg (by omega), if_pos (by omega)]
theorem cF_d2 (d : Nat) (f : Nat → Int32) : cF cI cD ad (7 + 7 * d) f = cM f := by
  unfold cF
  rw [if_neg (by omega), if_neg (by omega), if_neg (by omega), if_neg (by omega), if_neg (by omega), if_neg (by omega), if_neg (by omega), if_pos (by omega)]
theorem cF_d3 (d : Nat) (f : Nat → Int32) : cF cI cD ad (8 + 7 * d) f = cM f := by
  unfold cF
  rw [if_neg (by omega), if_neg (by omega), if_neg (by omega), if_neg (by omega), if_neg (by omega), if_neg (by omega), if_neg (by omega), if_neg (by omega), if_pos (by omega)]
theorem cF_d4 (d : Nat) (f : Nat → Int32) : cF cI cD ad (9 + 7 * d) f = .inl (cI, 8, .inl f) := by
  unfold cF
  rw [if_neg (by omega), if_neg (by omega), if_neg (by omega), if_neg (by omega), if_neg (by omega), if_neg (by omega), if_neg (by omega), if_neg (by omega), if_neg (by omega), if_pos (by omega)]
theorem cF_d5 (d : Nat) (f : Nat → Int32) : cF cI cD ad (10 + 7 * d) f = .inl (cI, 32, .inl f) := by
  unfold cF
  rw [if_neg (by omega), if_neg (by omega), if_neg (by omega), if_neg (by omega), if_neg (by omega), if_neg (by omega), if_neg (by omega), if_neg (by omega), if_neg (by omega), if_neg (by omega), if_pos (by omega)]
theorem cF_d6 (d : Nat) (f : Nat → Int32) : cF cI cD ad (11 + 7 * d) f = cM f := by
  unfold cF
  rw [if_neg (by omega), if_neg (by omega), if_neg (by omega), if_neg (by omega), if_neg (by omega), if_neg (by omega), if_neg (by omega), if_neg (by omega), if_neg (by omega), if_neg (by omega), if_neg (by omega)]
end CF
theorem cM_put (f : Nat → Int32) (x : Int32) : (cM (upd f 0 x) = .inr (1, [.int (f 0), .int (f 1), .int (f 2), .int (f 3), .int (f 4)].set 0 (.int x))) ∧ (cM (upd f 1 x) = .inr (1, [.int (f 0), .int (f 1), .int (f 2), .int (f 3), .int (f 4)].set 1 (.int x))) ∧ (cM (upd f 2 x) = .inr (1, [.int (f 0), .int (f 1), .int (f 2), .int (f 3), .int (f 4)].set 2 (.int x))) ∧ (cM (upd f 3 x) = .inr (1, [.int (f 0), .int (f 1), .int (f 2), .int (f 3), .int (f 4)].set 3 (.int x))) ∧ (cM (upd f 4 x) = .inr (1, [.int (f 0), .int (f 1), .int (f 2), .int (f 3), .int (f 4)].set 4 (.int x))) := ⟨rfl, rfl, rfl, rfl, rfl⟩
/-! the reference's cells: 0 the object, 1 words, 2 marks, 3 toDisk, 4 toRow, 5 what, 6 many, 7 may, 8 block, 9 parity -/
def mF (cI : ClassId) (ad : Nat → Nat) : vF := fun k f =>
  if k = 0 then .inr (3, [.int (f 0), .int (f 1), .int (f 2), .int (f 3), .int (f 4), .int (f 5), .int (f 6), .int (f 7), .int (f 8), .int (f 9), .int (f 10), .int (f 11), .int (f 12), .int (f 13), .ref (ad 1), .ref (ad 2), .int (f 16), .ref (ad 3), .ref (ad 4), .ref (ad 5), .ref (ad 6), .ref (ad 7), .ref (ad 8), .ref (ad 9)])
  else .inl (cI, (if k = 1 then 1120 else if k = 2 then 70 else if k = 3 then 32 else if k = 4 then 32 else if k = 5 then 160 else if k = 6 then 7 else if k = 7 then 7 else 4), .inl f)
