/-! calls that read leave the value -/
section WFo
variable {B : Nat} {a : AS} {x y z v : Int32}
theorem ifS_same {r : RS} (h : r.2.2 = a) : (ifS a r).2.2 = a := by
  unfold ifS
  split
  · exact h
  · rfl
theorem oRead_a : (oRead a x y).2.2 = a := ifS_same (by split <;> rfl)
theorem oLayout_a : (oLayout a x).2.2 = a := ifS_same (by split <;> rfl)
theorem oCell_a : (oCell a x y z).2.2 = a := ifS_same (by split <;> rfl)
theorem oMarks_a : (oMarks a x y).2.2 = a := ifS_same (by split <;> rfl)
theorem oGood_a : (oGood a x).2.2 = a := ifS_same (by split; (· rfl); (· split <;> rfl))
theorem ifS_wf {r : RS} (hWF : WF B a) (h : a.2.1.1 = true → a.2.1.2 = false → WF (B + 2) r.2.2) : WF (B + 2) (ifS a r).2.2 := by
  unfold ifS
  by_cases q : a.2.1.1 = true ∧ a.2.1.2 = false
  · rw [if_pos q]; exact h q.1 q.2
  · rw [if_neg q]; exact hWF.le (by omega)
theorem ab_both {lost fresh : Int32} (h : lost = -1 ∨ fresh = -1) (h2 : ab lost fresh = -1) : lost = -1 ∧ fresh = -1 := by
  unfold ab at h2
  by_cases q : lost = -1
  · rw [if_pos q] at h2; exact ⟨q, h2⟩
  · rw [if_neg q] at h2; exact absurd h2 q
theorem oLose_wf (hWF : WF B a) : WF (B + 2) (oLose a x).2.2 := by
  obtain ⟨c, ⟨md, fd⟩, ⟨n, wide, dn, st, num⟩, ⟨lost, fresh⟩, ⟨fp, sh⟩⟩ := a
  refine ifS_wf hWF (fun e1 e2 => ?_)
  obtain ⟨g1, g2, g3, g4, g5, g6, g7, g8, g9, g10, g11, g12⟩ := hWF.sv e1 e2
  have hk6 := kw_le g2 g3
  split
  · exact hWF.le (by omega)
  · rename_i q
    split
    · exact hWF.le (by omega)
    · rename_i q2
      obtain ⟨dd9, hdd9, e9⟩ := nI_in2 (x := x) (L := kw n wide) (fun h => q (Or.inl h)) (Decidable.not_not.mp (fun h => q (Or.inr h))) (by omega)
      subst e9
      have hab : ab lost fresh = -1 := Decidable.not_not.mp (fun h => q2 (Or.inl h))
      have hb := ab_both g10 hab
      have hfp : fp = 0 := Decidable.not_not.mp (fun h => q2 (Or.inr h))
      refine WF.mk (MK_emp (hWF.MK.le (by omega))) hWF.2.1 (fun e => absurd e (by rw [show md = true from e1]; decide)) (fun e => absurd e (by rw [show fd = false from e2]; decide)) (fun _ _ => ⟨g1, g2, g3, g4, g5, g6, by omega, Or.inr ⟨dd9, hdd9, rfl⟩, Or.inl hb.2, Or.inr hb.2, fun h => absurd hfp h, fun h => absurd h (nI_nm1 (by omega))⟩)
theorem oReplace_wf (hWF : WF B a) : WF (B + 2) (oReplace a).2.2 := by
  obtain ⟨c, ⟨md, fd⟩, ⟨n, wide, dn, st, num⟩, ⟨lost, fresh⟩, ⟨fp, sh⟩⟩ := a
  refine ifS_wf hWF (fun e1 e2 => ?_)
  obtain ⟨g1, g2, g3, g4, g5, g6, g7, g8, g9, g10, g11, g12⟩ := hWF.sv e1 e2
  split
  · exact hWF.le (by omega)
  · rename_i q
    have q : ¬ lost = -1 := q
    refine WF.mk (hWF.MK.le (by omega)) hWF.2.1 (fun e => absurd e (by rw [show md = true from e1]; decide)) (fun e => absurd e (by rw [show fd = false from e2]; decide)) (fun _ _ => ⟨g1, g2, g3, g4, g5, g6, by omega, Or.inl rfl, Or.inr (g8.resolve_left q), Or.inl rfl, fun h => absurd (g11 h).1 q, fun _ h => absurd h q⟩)
theorem oCrash_wf (hWF : WF B a) : WF (B + 2) (oCrash a x y).2.2 := by
  obtain ⟨c, ⟨md, fd⟩, ⟨n, wide, dn, st, num⟩, ⟨lost, fresh⟩, ⟨fp, sh⟩⟩ := a
  refine ifS_wf hWF (fun e1 e2 => ?_)
  obtain ⟨g1, g2, g3, g4, g5, g6, g7, g8, g9, g10, g11, g12⟩ := hWF.sv e1 e2
  split
  · exact hWF.le (by omega)
  · rename_i q
    have hb := ab_both g10 (Decidable.not_not.mp (fun h => q (Or.inr h)))
    obtain ⟨ww, hww, e10⟩ := nI_of (x := x) (fun z => q (Or.inl (Int32.lt_trans z (by decide))))
    subst e10
    refine WF.mk (hWF.MK.le (by omega)) (by rw [nI_clamp hww]; exact hww) (fun e => absurd e (by rw [show md = true from e1]; decide)) (fun e => absurd e (by rw [show fd = false from e2]; decide)) (fun _ _ => ⟨g1, g2, g3, g4, g5, g6, by omega, Or.inl hb.1, Or.inl hb.2, Or.inl hb.1, fun _ => hb, fun z1 z2 => EX.le (B := B) (by omega) (g12 z1 z2)⟩)
theorem oWrite_wf (hWF : WF B a) : WF (B + 2) (oWrite a x y v).2.2 := by
  obtain ⟨c, ⟨md, fd⟩, ⟨n, wide, dn, st, num⟩, ⟨lost, fresh⟩, ⟨fp, sh⟩⟩ := a
  refine ifS_wf hWF (fun e1 e2 => ?_)
  obtain ⟨g1, g2, g3, g4, g5, g6, g7, g8, g9, g10, g11, g12⟩ := hWF.sv e1 e2
  split
  · exact hWF.le (by omega)
  · rename_i q
    split
    · exact hWF.le (by omega)
    · obtain ⟨bb, hbb, e9⟩ := nI_in2 (x := x) (L := 32 * (n - 1)) (fun h => q (Or.inl h)) (Int32.not_le.mp (fun h => q (Or.inr (Or.inl h)))) (by omega)
      subst e9
      rw [nI_clamp (show bb < 2 ^ 31 by omega)]
      have hk9 : 2 ≤ kOf n wide dn st bb - 1 ∧ kOf n wide dn st bb ≤ 6 := plc_k g1 g2 g3
      have hrw : bb / (kOf n wide dn st bb - 1) < 40 := plc_row g1 hbb hk9.1 (by unfold kOf; split <;> omega)
      refine WF.mk (MK_blk (blk_wrQ hrw) (hWF.MK.le (by omega))) (by decide) (fun e => absurd e (by rw [show md = true from e1]; decide)) (fun e => ?_) (fun _ e => ⟨g1, g2, g3, g4, g5, g6, by omega, g8, g9, g10, fun h => absurd rfl h, fun z1 z2 => EX_blk (blk_wrQ hrw) (EX.le (B := B) (by omega) (g12 z1 z2))⟩)
      have hb := g11 (of_decide_eq_true e)
      exact ⟨EX_blk (blk_wrQ hrw) (EX.up (kw_le g2 g3) (EX.le (B := B) (by omega) (g12 hb.1 hb.2))), hb.1, hb.2, rfl⟩
theorem oWiden_wf (hB : B < 10000) (hWF : WF B a) : WF (B + 2) (oWiden a).2.2 := by
  obtain ⟨c, ⟨md, fd⟩, ⟨n, wide, dn, st, num⟩, ⟨lost, fresh⟩, ⟨fp, sh⟩⟩ := a
  refine ifS_wf hWF (fun e1 e2 => ?_)
  obtain ⟨g1, g2, g3, g4, g5, g6, g7, g8, g9, g10, g11, g12⟩ := hWF.sv e1 e2
  split
  · exact hWF.le (by omega)
  · rename_i q
    have ew : wide = false := by
      cases wide
      · rfl
      · exact absurd (Or.inl rfl) q
    subst ew
    have hn5 : n < 6 := by
      have : ¬ n = 6 := fun h => q (Or.inr (Or.inl h))
      omega
    have hb := ab_both g10 (Decidable.not_not.mp (fun h => q (Or.inr (Or.inr h))))
    have hE : EX (B + 2) n (eff (ab lost fresh) (decide (¬ fp = 0)) sh (mkQ (mkb (num + 1) n true 0 false) (n + 1)) (emp c n)) := EX_mk (by omega) (by omega) (by omega) (EX_emp (Nat.le_refl _) (EX.le (B := B) (by omega) (g12 hb.1 hb.2)))
    exact WF.mk (MK_mk (by omega) (by omega) ⟨g1, g2, by decide, fun _ => hn5, fun h => absurd h (by decide)⟩ (Nat.le_refl _) (MK_emp (hWF.MK.le (by omega)))) (by decide) (fun e => absurd e (by rw [show md = true from e1]; decide)) (fun e => ⟨EX.up (by omega) hE, hb.1, hb.2, rfl⟩) (fun _ _ => ⟨g1, g2, fun _ => hn5, by decide, fun h => absurd h (by decide), by omega, by omega, Or.inl hb.1, Or.inl hb.2, Or.inl hb.1, fun h => absurd rfl h, fun _ _ => EX.up (show n ≤ kw n true from Nat.le_succ n) hE⟩)
theorem oFormat_wf (hB : B < 10000) (hWF : WF B a) : WF (B + 2) (oFormat a x).2.2 := by
  unfold oFormat
  split
  · exact hWF.le (by omega)
  · rename_i q
    obtain ⟨xx, hxx, e12⟩ := nI_of (x := x) (fun z => q (Or.inl (Int32.lt_trans z (by decide))))
    subst e12
    have hx3 : 3 ≤ xx := Nat.not_lt.mp (fun z => q (Or.inl (nI_lt z (by decide))))
    have hx6 : xx ≤ 6 := (nI_leI hxx (by decide)).mp (Decidable.not_not.mp (fun z => q (Or.inr z)))
    rw [nI_clamp hxx]
    refine WF.mk (MK_mk (by omega) (by omega) ⟨hx3, hx6, by decide, fun h => absurd h (by decide), fun h => absurd h (by decide)⟩ (Nat.le_refl _) (fun q _ => mOK_0 (fun _ _ => rfl))) (by decide) (fun h => absurd h (by decide)) (fun h => absurd h (by decide)) (fun _ _ => ⟨hx3, hx6, fun h => absurd h (by decide), by decide, fun h => absurd h (by decide), by decide, by omega, Or.inl rfl, Or.inl rfl, Or.inl rfl, fun h => absurd rfl h, fun _ _ => ⟨1, by decide, show 0 < xx by omega, 1, by decide, by omega, ?_⟩⟩)
    show eff (ab (-1) (-1)) false a.2.2.2.2.2 (mkQ (mkb 1 xx false 0 false) xx) (fun _ _ => 0) 0 165 = nI 1
    rw [eff_in (by decide)]
    unfold mkQ
    rw [if_pos (by omega)]
    show apW (none, mkb 1 xx false 0 false) (fun _ => 0) 165 = nI 1
    simp only [apW]
    rw [show mkb 1 xx false 0 false 0 = nI 1 from rfl, mp_nI (by decide), if_pos (by decide)]
    rfl
theorem oRebuild_wf (hB : B < 10000) (hWF : WF B a) : WF (B + 2) (oRebuild a).2.2 := by
  obtain ⟨c, ⟨md, fd⟩, ⟨n, wide, dn, st, num⟩, ⟨lost, fresh⟩, ⟨fp, sh⟩⟩ := a
  refine ifS_wf hWF (fun e1 e2 => ?_)
  obtain ⟨g1, g2, g3, g4, g5, g6, g7, g8, g9, g10, g11, g12⟩ := hWF.sv e1 e2
  have hk6 := kw_le g2 g3
  split
  · exact hWF.le (by omega)
  · rename_i q
    obtain ⟨d, hd, e9⟩ := g9.resolve_left q
    subst e9
    rw [nI_clamp (by omega)]
    have hlo := g10.resolve_right q
    have hr : ∀ j, 160 ≤ j → rbd c n wide dn st d j = c d j := fun j hj => by
      unfold rbd rbw
      rw [if_neg (by omega), if_neg (by omega)]
    have hA : ∀ p j, p < 12 → j < 5 → mkA (rbc c n wide dn st num d) p j = if p / 2 = d ∧ p % 2 = num % 2 then mkb num n wide dn st j else mkA c p j := fun p j hp hj => by
      by_cases z : p / 2 = d
      · rw [mkA_new (c := fun _ => rbd c n wide dn st d) (c' := rbc c n wide dn st num d) (x := num) (b := mkb num n wide dn st) (by omega) rfl hj (fun j => by unfold rbc; rw [if_pos z])]
        by_cases z2 : p % 2 = num % 2
        · rw [if_pos z2, if_pos ⟨z, z2⟩]
        · rw [if_neg z2, if_neg (fun h => z2 h.2)]
          show rbd c n wide dn st d (160 + 5 * (p % 2) + j) = c (p / 2) (160 + 5 * (p % 2) + j)
          rw [hr _ (by omega), z]
      · rw [if_neg (fun h => z h.1)]
        unfold mkA rbc
        rw [if_neg z]
    refine WF.mk (fun p hp => ?_) hWF.2.1 (fun e => absurd e (by rw [show md = true from e1]; decide)) (fun e => absurd e (by rw [show fd = false from e2]; decide)) (fun _ _ => ⟨g1, g2, g3, g4, g5, g6, by omega, Or.inl hlo, Or.inl rfl, Or.inl hlo, fun _ => ⟨hlo, rfl⟩, fun _ _ => ⟨2 * d + num % 2, by omega, by omega, num, by omega, by omega, ?_⟩⟩)
    · by_cases z : p / 2 = d ∧ p % 2 = num % 2
      · exact mOK_congr (fun j hj => by rw [hA p j hp hj, if_pos z]) (mOK_b (d := p / 2) (by omega) ⟨g1, g2, g4, g3, g5, by omega⟩)
      · exact mOK_congr (fun j hj => by rw [hA p j hp hj, if_neg z]) (mOK_le (by omega) (hWF.MK p hp))
    · rw [hA _ 0 (by omega) (by decide), if_pos (by omega)]; rfl
theorem oStart_wf (hB : B < 10000) (hWF : WF B a) : WF (B + 2) (oStart a).2.2 := by
  obtain ⟨c, ⟨md, fd⟩, ⟨n, wide, dn, st, num⟩, ⟨lost, fresh⟩, ⟨fp, sh⟩⟩ := a
  by_cases q : fd = true
  · obtain ⟨x, n', w', dn', st', m0, hx1, hxB, m1, m2, m3, m4, h3, h6, hd, hwn, hsw, hqk⟩ := stq_ok hB hWF.1 (hWF.2.2.2.1 q).1
    rw [oStart_y q m0 m1 m2 m3 m4 (by omega) h6 hd]
    obtain ⟨-, hlo, hfr, hfp⟩ := hWF.EX q
    have hw : ∀ d, d < 6 → ∀ j, 160 ≤ j → j < 170 → mnd c n' w' dn' st' 32 d j = c d j := fun d _ j hj _ => by
      unfold mnd
      rw [if_neg (by omega)]
    refine WF.mk ((hWF.MK.le (by omega)).words hw) hWF.2.1 (fun e => absurd (show fd = false from (hWF.2.2.1 e).1) (by rw [q]; decide)) (fun e => absurd e (by decide)) (fun _ _ => ⟨h3, h6, hwn, hd, hsw, hx1, by omega, Or.inl hlo, Or.inl hfr, Or.inl hlo, fun z => absurd hfp z, fun _ _ => EX.words hw ⟨stq c, stq_lt, hqk, x, by omega, by omega, m0⟩⟩)
  · have e : oStart (c, (md, fd), (n, wide, dn, st, num), (lost, fresh), (fp, sh)) = (1, 0, (c, (md, fd), (n, wide, dn, st, num), (lost, fresh), (fp, sh))) := if_pos (by cases fd; (· rfl); (· exact absurd rfl q))
    rw [e]
    exact hWF.le (by omega)
theorem layR_wf {c c0 : Nat → Nat → Int32} {md fd : Bool} {n dn : Nat} {st : Bool} {num0 num : Nat} {lost fresh : Int32} {fp : Nat} {sh : Int32} {D : Nat → Int32} {f : Nat} (hB : B < 20000) (e1 : md = true) (hn3 : 3 ≤ n) (hn5 : n < 6) (hd : dn < 32) (hnum : num + 1 ≤ B) (hm : MK B c) (g8 : lost = -1 ∨ ∃ d, d < n + 1 ∧ lost = nI d) (g9 : fresh = -1 ∨ ∃ d, d < n + 1 ∧ fresh = nI d) (g10 : lost = -1 ∨ fresh = -1) (hf : f ≠ 0 → lost = -1 ∧ fresh = -1) (hE : lost = -1 → fresh = -1 → EX B (n + 1) c) :
    WF B (layR (c0, (md, fd), (n, true, dn, st, num0), (lost, fresh), (fp, sh)) c D f num).2.2 := by
  have hx : 3 ≤ nx1 n dn ∧ nx1 n dn ≤ 6 ∧ nxd dn < 32 ∧ (nxw true dn = true → nx1 n dn < 6) ∧ kw (nx1 n dn) (nxw true dn) = n + 1 := by
    unfold nx1 nxd nxw
    by_cases q : dn + 1 = 32
    · rw [if_pos q, if_pos q, if_pos q]; exact ⟨by omega, by omega, by decide, fun h => absurd h (by decide), rfl⟩
    · rw [if_neg q, if_neg q, if_neg q]; exact ⟨by omega, by omega, by omega, fun _ => hn5, rfl⟩
  have m1 : ∀ fl, MK B (eff (ab lost fresh) fl sh (lyQQ D n dn) c) := fun fl => MK_blk (blk_lyQQ (by omega)) hm
  have m2 : ∀ fl fl2, MK B (eff (ab lost fresh) fl2 sh (mkQ (mkb (num + 1) (nx1 n dn) (nxw true dn) (nxd dn) false) (kw (nx1 n dn) (nxw true dn))) (eff (ab lost fresh) fl sh (lyQQ D n dn) c)) := fun fl fl2 => MK_mk hnum (by omega) ⟨hx.1, hx.2.1, hx.2.2.1, hx.2.2.2.1, fun h => absurd h (by decide)⟩ (Nat.le_refl _) (m1 fl)
  have hmf : ∀ {P : Prop}, md = false → P := fun e => absurd e (by rw [e1]; decide)
  have hb2 : blk (lyQQ D n dn) := blk_lyQQ (by omega)
  have y1 : ∀ fl K, EX B K c → EX B K (eff (ab lost fresh) fl sh (lyQQ D n dn) c) := fun fl K h => EX_blk hb2 h
  have y2 : ∀ fl fl2 K, EX B K c → EX B K (eff (ab lost fresh) fl2 sh (mkQ (mkb (num + 1) (nx1 n dn) (nxw true dn) (nxd dn) false) (kw (nx1 n dn) (nxw true dn))) (eff (ab lost fresh) fl sh (lyQQ D n dn) c)) := fun fl fl2 K h => EX_mk hnum (by omega) (by omega) (y1 fl K h)
  have u6 : lost = -1 → fresh = -1 → EX B 6 c := fun z1 z2 => EX.up (by omega) (hE z1 z2)
  unfold layR
  split
  · rename_i q
    have hb := hf (by omega)
    exact WF.mk (m1 _) (by decide) (fun e => hmf e) (fun _ => ⟨y1 _ _ (u6 hb.1 hb.2), hb.1, hb.2, rfl⟩) (fun _ e => absurd (show true = false from e) (by decide))
  · split
    · rename_i q
      have hb := hf (by omega)
      exact WF.mk (m2 _ _) (by decide) (fun e => hmf e) (fun _ => ⟨y2 _ _ _ (u6 hb.1 hb.2), hb.1, hb.2, rfl⟩) (fun _ e => absurd (show true = false from e) (by decide))
    · refine WF.mk (m2 _ _) (by decide) (fun e => hmf e) (fun e => absurd (show false = true from e) (by decide)) (fun _ _ => ⟨hx.1, hx.2.1, hx.2.2.2.1, hx.2.2.1, fun h => absurd (show false = true from h) (by decide), by omega, hnum, ?_, ?_, g10, fun h => absurd rfl h, fun z1 z2 => ?_⟩)
      · show lost = -1 ∨ ∃ d, d < kw (nx1 n dn) (nxw true dn) ∧ lost = nI d
        rw [hx.2.2.2.2]; exact g8
      · show fresh = -1 ∨ ∃ d, d < kw (nx1 n dn) (nxw true dn) ∧ fresh = nI d
        rw [hx.2.2.2.2]; exact g9
      · have h9 := y2 (decide (f = 1)) (decide (f - 1 = 1)) (n + 1) (hE z1 z2)
        rw [← hx.2.2.2.2] at h9
        exact h9
theorem oStep_wf (hB : B < 10000) (hWF : WF B a) : WF (B + 2) (oStep a).2.2 := by
  obtain ⟨c, ⟨md, fd⟩, ⟨n, wide, dn, st, num⟩, ⟨lost, fresh⟩, ⟨fp, sh⟩⟩ := a
  refine ifS_wf hWF (fun e1 e2 => ?_)
  have e1 : md = true := e1
  have e2 : fd = false := e2
  obtain ⟨g1, g2, g3, g4, g5, g6, g7, g8, g9, g10, g11, g12⟩ := hWF.sv e1 e2
  have hmf : ∀ {P : Prop}, md = false → P := fun e => absurd e (by rw [e1]; decide)
  cases wide
  · exact hWF.le (by omega)
  · have hn5 := g3 rfl
    have hm : MK (B + 2) c := hWF.MK.le (by omega)
    have hE : lost = -1 → fresh = -1 → EX (B + 2) (n + 1) c := fun z1 z2 => EX.le (B := B) (by omega) (g12 z1 z2)
    have u6 : lost = -1 → fresh = -1 → EX (B + 2) 6 c := fun z1 z2 => EX.up (by omega) (hE z1 z2)
    cases st
    · have m1 : ∀ fl, MK (B + 2) (eff (ab lost fresh) fl sh (stQ (stD (c, (md, fd), (n, true, dn, false, num), (lost, fresh), (fp, sh))) n n) c) := fun fl => MK_blk (blk_stQ (by omega)) hm
      have x1 : ∀ fl K, EX (B + 2) K c → EX (B + 2) K (eff (ab lost fresh) fl sh (stQ (stD (c, (md, fd), (n, true, dn, false, num), (lost, fresh), (fp, sh))) n n) c) := fun fl K h => EX_blk (blk_stQ (by omega)) h
      have m2 : ∀ fl fl2, MK (B + 2) (eff (ab lost fresh) fl2 sh (mkQ (mkb (num + 1) n true dn true) (n + 1)) (eff (ab lost fresh) fl sh (stQ (stD (c, (md, fd), (n, true, dn, false, num), (lost, fresh), (fp, sh))) n n) c)) := fun fl fl2 => MK_mk (by omega) (by omega) ⟨g1, g2, g4, fun _ => hn5, fun _ => rfl⟩ (Nat.le_refl _) (m1 fl)
      have x2 : ∀ fl fl2 K, EX (B + 2) K c → EX (B + 2) K (eff (ab lost fresh) fl2 sh (mkQ (mkb (num + 1) n true dn true) (n + 1)) (eff (ab lost fresh) fl sh (stQ (stD (c, (md, fd), (n, true, dn, false, num), (lost, fresh), (fp, sh))) n n) c)) := fun fl fl2 K h => EX_mk (by omega) (by omega) (by omega) (x1 fl K h)
      have hgo : WF (B + 2) (if min fp 4 = 1 then flA (c, (md, fd), (n, true, dn, false, num), (lost, fresh), (fp, sh)) (stC1 (c, (md, fd), (n, true, dn, false, num), (lost, fresh), (fp, sh)) (stD (c, (md, fd), (n, true, dn, false, num), (lost, fresh), (fp, sh)))) else if min fp 4 - 1 = 1 then flA (c, (md, fd), (n, true, dn, false, num), (lost, fresh), (fp, sh)) (stC2 (c, (md, fd), (n, true, dn, false, num), (lost, fresh), (fp, sh)) (stD (c, (md, fd), (n, true, dn, false, num), (lost, fresh), (fp, sh)))) else layR (c, (md, fd), (n, true, dn, false, num), (lost, fresh), (fp, sh)) (stC2 (c, (md, fd), (n, true, dn, false, num), (lost, fresh), (fp, sh)) (stD (c, (md, fd), (n, true, dn, false, num), (lost, fresh), (fp, sh)))) (stD (c, (md, fd), (n, true, dn, false, num), (lost, fresh), (fp, sh))) (min fp 4 - 2) (num + 1)).2.2 := by
        split
        · rename_i q
          have hb := g11 (by omega)
          exact WF.mk (m1 _) (by decide) (fun e => hmf e) (fun _ => ⟨x1 _ _ (u6 hb.1 hb.2), hb.1, hb.2, rfl⟩) (fun _ e => absurd (show true = false from e) (by decide))
        · split
          · rename_i q
            have hb := g11 (by omega)
            exact WF.mk (m2 _ _) (by decide) (fun e => hmf e) (fun _ => ⟨x2 _ _ _ (u6 hb.1 hb.2), hb.1, hb.2, rfl⟩) (fun _ e => absurd (show true = false from e) (by decide))
          · exact layR_wf (by omega) e1 g1 hn5 g4 (by omega) (m2 _ _) g8 g9 g10 (fun h => g11 (by omega)) (fun z1 z2 => x2 _ _ _ (hE z1 z2))
      exact hgo
    · have hgo : WF (B + 2) (layR (c, (md, fd), (n, true, dn, true, num), (lost, fresh), (fp, sh)) c (stD (c, (md, fd), (n, true, dn, true, num), (lost, fresh), (fp, sh))) (min fp 2) num).2.2 := layR_wf (by omega) e1 g1 hn5 g4 (by omega) hm g8 g9 g10 (fun h => g11 (by omega)) hE
      exact hgo
end WFo
