/-! a scene's copy -/
def SC (L s : Nat) : Prop :=
  (VL (SH L) (s + 1))
  ∧ (∀ M, getf (SH L) M s 0 0 = some (.inr (.inr (some (s + 1)))))
  ∧ (∀ M, getf (SH L) M s 0 1 = some (.inr (.inr (some (s + 3)))))
  ∧ (∀ M, getf (SH L) M s 0 2 = some (.inr (.inr (some (s + 7)))))
  ∧ (∀ M, getf (SH L) M (s + 3) 3 0 = some (.inr (.inr (some (s + 4)))))
  ∧ (∀ M, getf (SH L) M (s + 3) 3 1 = some (.inr (.inr (some (s + 5)))))
  ∧ (∀ M, getf (SH L) M (s + 3) 3 2 = some (.inr (.inr (some (s + 6)))))
  ∧ (∀ M, getf (SH L) M (s + 3) 3 3 = some (.inl (M (s + 3) 3)))
  ∧ (∀ M x, putI (SH L) M (s + 3) 3 3 false x = some (setC M (s + 3) 3 x))
  ∧ (isObj (SH L) (some (.inr (.inr (some (s + 3))))) 3 = true)
  ∧ (AR (SH L) (s + 4) 7)
  ∧ (AR (SH L) (s + 5) 7)
  ∧ (AR (SH L) (s + 6) 7)
  ∧ (∀ M, getf (SH L) M (s + 7) 2 0 = some (.inr (.inr (some (s + 8)))))
  ∧ (∀ M, getf (SH L) M (s + 7) 2 1 = some (.inr (.inr (some (s + 9)))))
  ∧ (∀ M, getf (SH L) M (s + 7) 2 2 = some (.inl (M (s + 7) 2)))
  ∧ (∀ M x, putI (SH L) M (s + 7) 2 2 false x = some (setC M (s + 7) 2 x))
  ∧ (isObj (SH L) (some (.inr (.inr (some (s + 7))))) 2 = true)
  ∧ (AR (SH L) (s + 8) 6)
  ∧ (AR (SH L) (s + 9) 6)
theorem SC_2 {L : Nat} : SC L 2 := ⟨vl_3, fun _ => rfl, fun _ => rfl, fun _ => rfl, fun _ => rfl, fun _ => rfl, fun _ => rfl, fun _ => rfl, fun _ _ => rfl, rfl, ⟨by decide, [], rfl⟩, ⟨by decide, [], rfl⟩, ⟨by decide, [], rfl⟩, fun _ => rfl, fun _ => rfl, fun _ => rfl, fun _ _ => rfl, rfl, ⟨by decide, [], rfl⟩, ⟨by decide, [], rfl⟩⟩
theorem SC_12 {L : Nat} : SC L 12 := ⟨vl_13, fun _ => rfl, fun _ => rfl, fun _ => rfl, fun _ => rfl, fun _ => rfl, fun _ => rfl, fun _ => rfl, fun _ _ => rfl, rfl, ⟨by decide, [], rfl⟩, ⟨by decide, [], rfl⟩, ⟨by decide, [], rfl⟩, fun _ => rfl, fun _ => rfl, fun _ => rfl, fun _ _ => rfl, rfl, ⟨by decide, [], rfl⟩, ⟨by decide, [], rfl⟩⟩
theorem SC_22 {L : Nat} : SC L 22 := ⟨vl_23, fun _ => rfl, fun _ => rfl, fun _ => rfl, fun _ => rfl, fun _ => rfl, fun _ => rfl, fun _ => rfl, fun _ _ => rfl, rfl, ⟨by decide, [], rfl⟩, ⟨by decide, [], rfl⟩, ⟨by decide, [], rfl⟩, fun _ => rfl, fun _ => rfl, fun _ => rfl, fun _ _ => rfl, rfl, ⟨by decide, [], rfl⟩, ⟨by decide, [], rfl⟩⟩
theorem c_tcopy {L s w d : Nat} (hs : SC L s) (hw : SC L w) (hd : s + 10 ≤ w ∨ w + 10 ≤ s) {M : PM} : den (d + 1) 24 [(.inr (.inr (some (s + 3)))), (.inr (.inr (some (w + 3))))] (SH L) M = some (none, SH L, setC (setR (setR (setR M (s + 4) (fil (M (w + 4)) (M (s + 4)) 7)) (s + 5) (fil (M (w + 5)) (M (s + 5)) 7)) (s + 6) (fil (M (w + 6)) (M (s + 6)) 7)) (s + 3) 3 (M (w + 3) 3)) := by
  obtain ⟨sv, sg0, sg1, sg2, st0, st1, st2, st3, stp, sto, sa0, sa1, sa2, ss0, ss1, ss2, ssp, sso, sb0, sb1⟩ := id hs
  obtain ⟨wv, wg0, wg1, wg2, wt0, wt1, wt2, wt3, wtp, wto, wa0, wa1, wa2, ws0, ws1, ws2, wsp, wso, wb0, wb1⟩ := id hw
  unfold den
  rw [show ent 24 [(.inr (.inr (some (s + 3)))), (.inr (.inr (some (w + 3))))] = [some (.inr (.inr (some (s + 3)))), some (.inr (.inr (some (w + 3))))] from rfl]
  have c0 := fun M => c_copyRow d M wa0 sa0 (by omega) (by decide)
  have c1 := fun M => c_copyRow d M wa1 sa1 (by omega) (by decide)
  have c2 := fun M => c_copyRow d M wa2 sa2 (by omega) (by decide)
  simp (disch := first | omega | (exact Nat.le_of_ble_eq_true rfl) | assumption | rfl) only [e24_0, e24_1, e24_4, e24_5, e24_8, e24_11, e24_12, e24_15, e24_16, e24_19, e24_22, e24_23, e24_26, e24_27, e24_30, e24_33, e24_34, e24_35, e24_38, e24_41, st0, st1, st2, wt0, wt1, wt2, wt3, stp, c0, c1, c2, setR_row, bindS, tL0, tL1, app0, app1, if_true, if_false, eq_self, Int.reduceEq, Int.reduceLT, Int.reduceLE, Int.reduceNeg, Int.reduceToNat]
theorem c_scopy {L s w d : Nat} (hs : SC L s) (hw : SC L w) (hd : s + 10 ≤ w ∨ w + 10 ≤ s) {M : PM} : den (d + 1) 15 [(.inr (.inr (some (s + 7)))), (.inr (.inr (some (w + 7))))] (SH L) M = some (none, SH L, setC (setR (setR M (s + 8) (fil (M (w + 8)) (M (s + 8)) 6)) (s + 9) (fil (M (w + 9)) (M (s + 9)) 6)) (s + 7) 2 (M (w + 7) 2)) := by
  obtain ⟨sv, sg0, sg1, sg2, st0, st1, st2, st3, stp, sto, sa0, sa1, sa2, ss0, ss1, ss2, ssp, sso, sb0, sb1⟩ := id hs
  obtain ⟨wv, wg0, wg1, wg2, wt0, wt1, wt2, wt3, wtp, wto, wa0, wa1, wa2, ws0, ws1, ws2, wsp, wso, wb0, wb1⟩ := id hw
  unfold den
  rw [show ent 15 [(.inr (.inr (some (s + 7)))), (.inr (.inr (some (w + 7))))] = [some (.inr (.inr (some (s + 7)))), some (.inr (.inr (some (w + 7))))] from rfl]
  have c0 := fun M => c_copyRow d M wb0 sb0 (by omega) (by decide)
  have c1 := fun M => c_copyRow d M wb1 sb1 (by omega) (by decide)
  simp (disch := first | omega | (exact Nat.le_of_ble_eq_true rfl) | assumption | rfl) only [e15_0, e15_1, e15_4, e15_5, e15_8, e15_11, e15_12, e15_15, e15_16, e15_19, e15_22, e15_23, e15_24, e15_27, e15_30, ss0, ss1, ws0, ws1, ws2, ssp, c0, c1, setR_row, bindS, tL0, tL1, app0, app1, if_true, if_false, eq_self, Int.reduceEq, Int.reduceLT, Int.reduceLE, Int.reduceNeg, Int.reduceToNat]
def cpv (s w : Nat) (M : PM) : PM := setC (setC (vset M (s + 1) (fil (M (w + 1 + 1)) (M (s + 1 + 1)) 6) (M (w + 1) 1)) (s + 1) 2 (M (w + 1) 2)) (s + 1) 3 (M (w + 1) 3)
def cpt (s w : Nat) (M : PM) : PM := setC (setR (setR (setR M (s + 4) (fil (M (w + 4)) (M (s + 4)) 7)) (s + 5) (fil (M (w + 5)) (M (s + 5)) 7)) (s + 6) (fil (M (w + 6)) (M (s + 6)) 7)) (s + 3) 3 (M (w + 3) 3)
def cps (s w : Nat) (M : PM) : PM := setC (setR (setR M (s + 8) (fil (M (w + 8)) (M (s + 8)) 6)) (s + 9) (fil (M (w + 9)) (M (s + 9)) 6)) (s + 7) 2 (M (w + 7) 2)
theorem cpv_row {s w a : Nat} {M : PM} (h : a < s + 1 ∨ s + 2 < a) : cpv s w M a = M a := by
  unfold cpv; rw [setC_row (by omega), setC_row (by omega), vs_row (by omega) (by omega)]
theorem cpt_row {s w a : Nat} {M : PM} (h : a < s + 3 ∨ s + 6 < a) : cpt s w M a = M a := by
  unfold cpt; rw [setC_row (by omega), setR_row (by omega), setR_row (by omega), setR_row (by omega)]
theorem cps_row {s w a : Nat} {M : PM} (h : a < s + 7 ∨ s + 9 < a) : cps s w M a = M a := by
  unfold cps; rw [setC_row (by omega), setR_row (by omega), setR_row (by omega)]
/-- the whole scene w goes into s -/
theorem c_scene {L s w d : Nat} (hs : SC L s) (hw : SC L w) (hd : s + 10 ≤ w ∨ w + 10 ≤ s) {M : PM} : den (d + 2) 1 [(.inr (.inr (some s))), (.inr (.inr (some w)))] (SH L) M = some (none, SH L, cps s w (cpt s w (cpv s w M))) := by
  obtain ⟨sv, sg0, sg1, sg2, st0, st1, st2, st3, stp, sto, sa0, sa1, sa2, ss0, ss1, ss2, ssp, sso, sb0, sb1⟩ := id hs
  obtain ⟨wv, wg0, wg1, wg2, wt0, wt1, wt2, wt3, wtp, wto, wa0, wa1, wa2, ws0, ws1, ws2, wsp, wso, wb0, wb1⟩ := id hw
  have n0 : ∀ M : PM, den (d + 1) 52 [(.inr (.inr (some (s + 1)))), (.inr (.inr (some (w + 1))))] (SH L) M = some (none, SH L, cpv s w M) := fun M => c_vcopy (M := M) (d := d) sv wv (by omega) (by omega) (by omega)
  have n1 : ∀ M : PM, den (d + 1) 24 [(.inr (.inr (some (s + 3)))), (.inr (.inr (some (w + 3))))] (SH L) M = some (none, SH L, cpt s w M) := fun M => c_tcopy (M := M) (d := d) hs hw hd
  have n2 : ∀ M : PM, den (d + 1) 15 [(.inr (.inr (some (s + 7)))), (.inr (.inr (some (w + 7))))] (SH L) M = some (none, SH L, cps s w M) := fun M => c_scopy (M := M) (d := d) hs hw hd
  have vo := vl_o sv
  unfold den
  rw [show ent 1 [(.inr (.inr (some s))), (.inr (.inr (some w)))] = [some (.inr (.inr (some s))), some (.inr (.inr (some w)))] from rfl]
  simp (disch := first | omega | (exact Nat.le_of_ble_eq_true rfl) | assumption | rfl) only [e1_0, e1_1, e1_4, e1_5, e1_8, e1_11, e1_12, e1_15, e1_16, e1_19, e1_22, e1_23, e1_26, e1_27, e1_30, e1_33, sg0, sg1, sg2, wg0, wg1, wg2, n0, n1, n2, bindS, tL0, tL1, app0, app1, if_true, if_false, eq_self, Int.reduceEq, Int.reduceLT, Int.reduceLE, Int.reduceNeg, Int.reduceToNat]
theorem cp_row {s w a : Nat} {M : PM} (h : a < s + 1 ∨ s + 9 < a) : cps s w (cpt s w (cpv s w M)) a = M a := by
  rw [cps_row (by omega), cpt_row (by omega), cpv_row (by omega)]
theorem cp_v {s w : Nat} {M : PM} : (∀ p, p < 6 → cps s w (cpt s w (cpv s w M)) (s + 2) p = M (w + 2) p) ∧ cps s w (cpt s w (cpv s w M)) (s + 1) 1 = M (w + 1) 1 ∧ cps s w (cpt s w (cpv s w M)) (s + 1) 2 = M (w + 1) 2 ∧ cps s w (cpt s w (cpv s w M)) (s + 1) 3 = M (w + 1) 3 := by
  rw [cps_row (a := s + 2) (by omega), cpt_row (a := s + 2) (by omega), cps_row (a := s + 1) (by omega), cpt_row (a := s + 1) (by omega)]
  unfold cpv
  refine ⟨fun p hp => ?_, ?_, ?_, ?_⟩
  · rw [setC_row (by omega), setC_row (by omega), show s + 2 = s + 1 + 1 by omega, vs_G]
    exact fil_lt _ _ hp
  · rw [setC_i (by decide), setC_i (by decide), vs_T]
  · rw [setC_i (by decide), setC_s]
  · rw [setC_s]
theorem cp_t {s w : Nat} {M : PM} (hd : s + 10 ≤ w ∨ w + 10 ≤ s) : cps s w (cpt s w (cpv s w M)) (s + 3) 3 = M (w + 3) 3 ∧ (∀ i, i < 7 → cps s w (cpt s w (cpv s w M)) (s + 4) i = M (w + 4) i ∧ cps s w (cpt s w (cpv s w M)) (s + 5) i = M (w + 5) i ∧ cps s w (cpt s w (cpv s w M)) (s + 6) i = M (w + 6) i) := by
  rw [cps_row (a := s + 3) (by omega), cps_row (a := s + 4) (by omega), cps_row (a := s + 5) (by omega), cps_row (a := s + 6) (by omega)]
  unfold cpt
  refine ⟨?_, fun i hi => ⟨?_, ?_, ?_⟩⟩
  · rw [setC_s, cpv_row (by omega)]
  · rw [setC_row (by omega), setR_row (by omega), setR_row (by omega), setR_s, fil_lt _ _ hi, cpv_row (by omega)]
  · rw [setC_row (by omega), setR_row (by omega), setR_s, fil_lt _ _ hi, cpv_row (by omega)]
  · rw [setC_row (by omega), setR_s, fil_lt _ _ hi, cpv_row (by omega)]
theorem cp_s {s w : Nat} {M : PM} (hd : s + 10 ≤ w ∨ w + 10 ≤ s) : cps s w (cpt s w (cpv s w M)) (s + 7) 2 = M (w + 7) 2 ∧ (∀ i, i < 6 → cps s w (cpt s w (cpv s w M)) (s + 8) i = M (w + 8) i ∧ cps s w (cpt s w (cpv s w M)) (s + 9) i = M (w + 9) i) := by
  unfold cps
  refine ⟨?_, fun i hi => ⟨?_, ?_⟩⟩
  · rw [setC_s, cpt_row (by omega), cpv_row (by omega)]
  · rw [setC_row (by omega), setR_row (by omega), setR_s, fil_lt _ _ hi, cpt_row (by omega), cpv_row (by omega)]
  · rw [setC_row (by omega), setR_s, fil_lt _ _ hi, cpt_row (by omega), cpv_row (by omega)]
