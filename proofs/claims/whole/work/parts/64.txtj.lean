/-! judge -/
theorem ts_inv {K : Int} {M : PM} {S F D : Nat → Int} {p a x : Int} (h : Inv K M) : Inv K (tset M S F D p a x) := Inv_same h Same_ts (by rw [ts_row (by decide)]; exact h.2.2.2.2.2)
theorem c_trial {d L : Nat} {M : PM} : den (d + 1) 52 [(.inr (.inr (some 37))), (.inr (.inr (some 3)))] (SH L) M = some (none, SH L, tri M) := c_tri
theorem op_judge {L : Nat} {K : Int} {M : PM} (h : Inv K M) (hK : K ≤ 100000000) : ∃ r M1 M2, den 1999 59 [(.inr (.inr (some 1)))] (SH L) M = some (some (.inl r), SH L, M1) ∧ M1 0 = M 0 ∧ den 1999 108 [(.inr (.inr (some 63)))] (SH L) M1 = some (some (.inl r), SH L, M2) ∧ Inv K M2 := by
  have o1 := io_1 (L := L)
  have o32 := io_32 (L := L)
  have o37 := io_37 (L := L)
  have o63 := io_63 (L := L)
  obtain ⟨r, S, F, D, P, a, x, q1, q2, q3⟩ := c_read (L := L) h.2.2.2.1
  have cr := c_refuse (d := 1993) (q1 1993)
  have hI := ts_inv (S := S) (F := F) (D := D) (p := P) (a := a) (x := x) h
  have t1 := h.2.2.2.1.1
  have u : ∀ {y}, den 1999 59 [(.inr (.inr (some 1)))] (SH L) M = y ↔ ev 1999 59 0 [some (.inr (.inr (some 1))), none] [] (SH L) M = y := by
    intro y
    unfold den
    rw [show ent 59 [(.inr (.inr (some 1)))] = [some (.inr (.inr (some 1))), none] from rfl]
  have u2 : ∀ {y} {M : PM}, den 1999 108 [(.inr (.inr (some 63)))] (SH L) M = y ↔ ev 1999 108 0 [some (.inr (.inr (some 63)))] [] (SH L) M = y := by
    intro y M
    unfold den
    rw [show ent 108 [(.inr (.inr (some 63)))] = [some (.inr (.inr (some 63)))] from rfl]
  rcases q2 with ⟨rfl, hR⟩ | hr
  rotate_left
  · have cm := q3 1997 (tset M S F D P a x) (by rw [ts_row (by decide)]) (by rw [ts_row (by decide)])
    have hr6 : ¬ r = -6 := by omega
    have hr0 : ¬ r < 0 := by omega
    rw [if_neg hr6] at cr
    exact ⟨-5, tset M S F D P a x, tset M S F D P a x, u.mpr (by simp (disch := first | omega | (exact Nat.le_of_ble_eq_true rfl) | assumption | rfl) only [e59_0, e59_1, e59_4, e59_5, e59_6, e59_9, e59_10, e59_11, e59_12, e59_15, e59_16, e59_19, e59_22, e59_25, e59_26, e59_29, e59_30, e59_33, e59_34, e59_37, e59_40, cr, Nat.reduceAdd, ↓reduceIte, true_and, and_true, false_and, and_false, bindS, tL0, tL1, app0, app1, eq_self, Int.reduceEq, Int.reduceLT, Int.reduceLE, Int.reduceNeg, Int.reduceToNat]), ts_row (by decide), u2.mpr (by simp (disch := first | omega | (exact Nat.le_of_ble_eq_true rfl) | assumption | rfl) only [e108_0, e108_1, e108_4, e108_7, e108_9, e108_10, e108_11, e108_14, e108_17, e108_19, e108_22, e108_23, e108_24, e108_27, cm, hr0, Nat.reduceAdd, ↓reduceIte, true_and, and_true, false_and, and_false, bindS, tL0, tL1, app0, app1, eq_self, Int.reduceEq, Int.reduceLT, Int.reduceLE, Int.reduceNeg, Int.reduceToNat]), hI⟩
  rw [if_pos rfl] at cr
  have hcnt : cnt (M 67) (M 63 8).toNat = a := by obtain ⟨pos, ⟨-, -, -, -, h4, -⟩, -⟩ := hR; exact h4
  have co := fun (MQ : PM) (h8 : MQ 63 8 = M 63 8) (h67 : MQ 67 = M 67) => c_opens (L := L) (n := (M 63 8).toNat) (MQ := MQ) 1998 (by omega) (by rw [h8]; omega)
  by_cases ha : (0 : Int) < (a : Int)
  · have cm := q3 1997 (tset M S F D P a x) (by rw [ts_row (by decide)]) (by rw [ts_row (by decide)])
    have c2 := co (tset M S F D P a x) (by rw [ts_row (by decide)]) (by rw [ts_row (by decide)])
    rw [ts_row (by decide), hcnt] at c2
    have ha2 : ¬ (a : Int) ≤ 0 := by omega
    rw [if_pos ha] at cr
    exact ⟨-3, tset M S F D P a x, tset M S F D P a x, u.mpr (by simp (disch := first | omega | (exact Nat.le_of_ble_eq_true rfl) | assumption | rfl) only [e59_0, e59_1, e59_4, e59_5, e59_6, e59_9, e59_10, e59_11, e59_12, e59_15, e59_16, e59_19, e59_22, e59_25, e59_26, e59_29, e59_30, e59_33, e59_34, e59_37, e59_40, cr, Nat.reduceAdd, ↓reduceIte, true_and, and_true, false_and, and_false, bindS, tL0, tL1, app0, app1, eq_self, Int.reduceEq, Int.reduceLT, Int.reduceLE, Int.reduceNeg, Int.reduceToNat]), ts_row (by decide), u2.mpr (by simp (disch := first | omega | (exact Nat.le_of_ble_eq_true rfl) | assumption | rfl) only [e108_0, e108_1, e108_4, e108_7, e108_9, e108_10, e108_11, e108_14, e108_17, e108_19, e108_22, e108_23, e108_24, e108_27, cm, c2, ha2, Nat.reduceAdd, ↓reduceIte, true_and, and_true, false_and, and_false, bindS, tL0, tL1, app0, app1, eq_self, Int.reduceEq, Int.reduceLT, Int.reduceLE, Int.reduceNeg, Int.reduceToNat]), hI⟩
  · have ha0 : a = 0 := by omega
    subst ha0
    rw [if_neg ha] at cr
    obtain ⟨g1, g2⟩ := txt_go (L := L) hI hK (by rw [ts_row (by decide), ts_row (by decide)]; exact hR) ts_5 ts_34 ts_35 ts_36 rfl (fun i hi => absurd hi (Nat.not_lt_zero i))
    have g1 := g1 1994
    have cT := c_trial (d := 1997) (L := L) (M := tset M S F D P (0 : Nat) x)
    generalize hMt : tset M S F D P (0 : Nat) x = Mt at *
    have e63 : Mt 63 = M 63 := by rw [← hMt, ts_row (by decide)]
    have e67 : Mt 67 = M 67 := by rw [← hMt, ts_row (by decide)]
    have e0 : Mt 0 = M 0 := by rw [← hMt, ts_row (by decide)]
    generalize hM1 : vset (tri Mt) 37 _ _ = M1 at g1
    have r1 : ∀ b, b ≠ 37 → b ≠ 38 → M1 b = Mt b := fun b x y => by rw [← hM1, tri_m x y]
    have cm := q3 1997 M1 (by rw [r1 63 (by decide) (by decide), e63]) (by rw [r1 67 (by decide) (by decide), e67])
    have c2 := co M1 (by rw [r1 63 (by decide) (by decide), e63]) (by rw [r1 67 (by decide) (by decide), e67])
    rw [r1 67 (by decide) (by decide), e67, hcnt] at c2
    obtain ⟨r', G', -, c3⟩ := g2 1995 M1 0 (r1 64 (by decide) (by decide)) (r1 67 (by decide) (by decide)) (by rw [r1 63 (by decide) (by decide)]) (by rw [r1 63 (by decide) (by decide)]) (by rw [r1 63 (by decide) (by decide)]) (by rw [r1 63 (by decide) (by decide)]; exact hI.2.2.2.2.2) (by decide) (fun i hi => absurd hi (Nat.not_lt_zero i))
    have hle : ((0 : Nat) : Int) ≤ 0 := by decide
    generalize fb (canA (Mt 63 0) (Mt 63 1) (Mt 62) S F D (tri Mt 38)) P 0 = rr at g1 c3
    generalize hM2 : gset M1 G' _ _ r' = M2 at c3
    refine ⟨rr, M1, M2, u.mpr (by simp (disch := first | omega | (exact Nat.le_of_ble_eq_true rfl) | assumption | rfl) only [e59_0, e59_1, e59_4, e59_5, e59_6, e59_9, e59_10, e59_11, e59_12, e59_15, e59_16, e59_19, e59_22, e59_25, e59_26, e59_29, e59_30, e59_33, e59_34, e59_37, e59_40, cr, gf_1_0, gf_1_3, gf_1_4, gf_1_6, gf_2_0, cT, g1, Nat.reduceAdd, ↓reduceIte, true_and, and_true, false_and, and_false, bindS, tL0, tL1, app0, app1, eq_self, Int.reduceEq, Int.reduceLT, Int.reduceLE, Int.reduceNeg, Int.reduceToNat]), by rw [r1 0 (by decide) (by decide), e0], u2.mpr (by simp (disch := first | omega | (exact Nat.le_of_ble_eq_true rfl) | assumption | rfl) only [e108_0, e108_1, e108_4, e108_7, e108_9, e108_10, e108_11, e108_14, e108_17, e108_19, e108_22, e108_23, e108_24, e108_27, cm, c2, c3, hle, Nat.reduceAdd, ↓reduceIte, true_and, and_true, false_and, and_false, bindS, tL0, tL1, app0, app1, eq_self, Int.reduceEq, Int.reduceLT, Int.reduceLE, Int.reduceNeg, Int.reduceToNat]), ?_⟩
    rw [← hM2]
    refine Inv_same hI ?_ ?_
    · rw [← hM1]; exact (Same_tri.trans Same_v37).trans Same_gs
    · rw [gs_m (by decide) (by decide) (by decide), r1 63 (by decide) (by decide)]; exact hI.2.2.2.2.2
/-! tryText, barOfText -/
theorem try_bar {L : Nat} {K : Int} {M : PM} (h : Inv K M) (hK : K ≤ 100000000) : ∃ (v : Int) (M1 : PM), (∀ d, den (d + 6) 80 [(.inr (.inr (some 1)))] (SH L) M = some (some (.inl v), SH L, M1)) ∧
    ((v = -5 ∨ v = -3) ∧ Inv K M1 ∧ M1 0 = M 0 ∧ (∀ d, ∃ M2, den (d + 5) 109 [(.inr (.inr (some 63)))] (SH L) M1 = some (some (.inl v), SH L, M2) ∧ Inv K M2)
    ∨ v = 0 ∧ ∃ (Mt : PM) (S F D : Nat → Int) (P : Nat), Inv K Mt ∧ Mt 0 = M 0 ∧ RD (Mt 67) S F D P 0 0 (Mt 63 8).toNat ∧ Mt 32 5 = (P : Int) ∧ Mt 34 = S ∧ Mt 35 = F ∧ Mt 36 = D ∧ (∀ i, i < P → canA (Mt 63 0) (Mt 63 1) (Mt 62) S F D (tri Mt 38) i = true) ∧ M1 = vset (tri Mt) 37 (GA (Mt 63 0) (Mt 63 1) (Mt 62) S F D (tri Mt 38) P) (Mt 3 1 + TA D P)
      ∧ ∀ (d : Nat) (MQ : PM), MQ 63 = Mt 63 → MQ 64 = Mt 64 → MQ 67 = Mt 67 → ∃ (c r' : Int) (G' : Nat → Int), EqG (GA (Mt 63 0) (Mt 63 1) (Mt 62) S F D (tri Mt 38) P) G' ∧ den (d + 5) 109 [(.inr (.inr (some 63)))] (SH L) MQ = some (some (.inl 0), SH L, gset (setC MQ 63 12 (-6)) G' (TA D P) c r')) := by
  have o1 := io_1 (L := L)
  have o32 := io_32 (L := L)
  have o37 := io_37 (L := L)
  have o63 := io_63 (L := L)
  obtain ⟨r, S, F, D, P, a, x, q1, q2, q3⟩ := c_read (L := L) h.2.2.2.1
  have cr := fun d => c_refuse (d := d) (q1 d)
  have hI := ts_inv (S := S) (F := F) (D := D) (p := P) (a := a) (x := x) h
  have t1 := h.2.2.2.1.1
  have u : ∀ {y d}, den (d + 6) 80 [(.inr (.inr (some 1)))] (SH L) M = y ↔ ev (d + 6) 80 0 [some (.inr (.inr (some 1))), none] [] (SH L) M = y := by
    intro y d
    unfold den
    rw [show ent 80 [(.inr (.inr (some 1)))] = [some (.inr (.inr (some 1))), none] from rfl]
  have u2 : ∀ {y d} {M : PM}, den (d + 5) 109 [(.inr (.inr (some 63)))] (SH L) M = y ↔ ev (d + 5) 109 0 [some (.inr (.inr (some 63)))] [] (SH L) M = y := by
    intro y d M
    unfold den
    rw [show ent 109 [(.inr (.inr (some 63)))] = [some (.inr (.inr (some 63)))] from rfl]
  -- the watcher put away
  have wI : ∀ M' : PM, Inv K M' → Inv K (setC M' 63 12 (-6)) := fun M' h' => Inv_same h' ⟨fun b hb => setC_row (by omega), by rw [setC_row (by decide)], fun j hj => setC_i (by omega)⟩ (by rw [setC_s]; decide)
  rcases q2 with ⟨rfl, hR⟩ | hr
  rotate_left
  · have hr6 : ¬ r = -6 := by omega
    have hr0 : ¬ r < 0 := by omega
    simp only [if_neg hr6] at cr
    refine ⟨-5, tset M S F D P a x, fun d => u.mpr (by simp (disch := first | omega | (exact Nat.le_of_ble_eq_true rfl) | assumption | rfl) only [e80_0, e80_1, e80_4, e80_5, e80_6, e80_9, e80_10, e80_11, e80_12, e80_15, e80_16, e80_19, e80_22, e80_25, e80_26, e80_29, e80_30, e80_33, e80_34, e80_37, e80_40, e80_42, e80_45, e80_46, e80_49, e80_51, cr d, Nat.reduceAdd, ↓reduceIte, true_and, and_true, false_and, and_false, bindS, tL0, tL1, app0, app1, eq_self, Int.reduceEq, Int.reduceLT, Int.reduceLE, Int.reduceNeg, Int.reduceToNat]), Or.inl ⟨Or.inl rfl, hI, ts_row (by decide), fun d => ⟨_, u2.mpr ?_, wI _ hI⟩⟩⟩
    have cm := q3 (d + 3) (setC (tset M S F D P a x) 63 12 (-6)) (by rw [setC_i (by decide), ts_row (by decide)]) (by rw [setC_row (by decide), ts_row (by decide)])
    simp (disch := first | omega | (exact Nat.le_of_ble_eq_true rfl) | assumption | rfl) only [e109_0, e109_1, e109_3, e109_6, e109_7, e109_10, e109_13, e109_15, e109_18, e109_19, e109_22, e109_25, e109_27, e109_30, e109_31, e109_32, e109_35, e109_38, e109_40, e109_43, e109_44, pi_63_12, cm, hr0, Nat.reduceAdd, ↓reduceIte, true_and, and_true, false_and, and_false, bindS, tL0, tL1, app0, app1, eq_self, Int.reduceEq, Int.reduceLT, Int.reduceLE, Int.reduceNeg, Int.reduceToNat]
  simp only [if_true] at cr
  have hcnt : cnt (M 67) (M 63 8).toNat = a := by obtain ⟨pos, ⟨-, -, -, -, h4, -⟩, -⟩ := hR; exact h4
  have co := fun (d : Nat) (MQ : PM) (h8 : MQ 63 8 = M 63 8) (h67 : MQ 67 = M 67) => c_opens (L := L) (n := (M 63 8).toNat) (MQ := MQ) (d + 4) (by omega) (by rw [h8]; omega)
  by_cases ha : (0 : Int) < (a : Int)
  · have ha2 : ¬ (a : Int) ≤ 0 := by omega
    simp only [if_pos ha] at cr
    refine ⟨-3, tset M S F D P a x, fun d => u.mpr (by simp (disch := first | omega | (exact Nat.le_of_ble_eq_true rfl) | assumption | rfl) only [e80_0, e80_1, e80_4, e80_5, e80_6, e80_9, e80_10, e80_11, e80_12, e80_15, e80_16, e80_19, e80_22, e80_25, e80_26, e80_29, e80_30, e80_33, e80_34, e80_37, e80_40, e80_42, e80_45, e80_46, e80_49, e80_51, cr d, Nat.reduceAdd, ↓reduceIte, true_and, and_true, false_and, and_false, bindS, tL0, tL1, app0, app1, eq_self, Int.reduceEq, Int.reduceLT, Int.reduceLE, Int.reduceNeg, Int.reduceToNat]), Or.inl ⟨Or.inr rfl, hI, ts_row (by decide), fun d => ⟨_, u2.mpr ?_, wI _ hI⟩⟩⟩
    have cm := q3 (d + 3) (setC (tset M S F D P a x) 63 12 (-6)) (by rw [setC_i (by decide), ts_row (by decide)]) (by rw [setC_row (by decide), ts_row (by decide)])
    have c2 := co d (setC (tset M S F D P a x) 63 12 (-6)) (by rw [setC_i (by decide), ts_row (by decide)]) (by rw [setC_row (by decide), ts_row (by decide)])
    rw [setC_row (by decide), ts_row (by decide), hcnt] at c2
    simp (disch := first | omega | (exact Nat.le_of_ble_eq_true rfl) | assumption | rfl) only [e109_0, e109_1, e109_3, e109_6, e109_7, e109_10, e109_13, e109_15, e109_18, e109_19, e109_22, e109_25, e109_27, e109_30, e109_31, e109_32, e109_35, e109_38, e109_40, e109_43, e109_44, pi_63_12, cm, c2, ha2, Nat.reduceAdd, ↓reduceIte, true_and, and_true, false_and, and_false, bindS, tL0, tL1, app0, app1, eq_self, Int.reduceEq, Int.reduceLT, Int.reduceLE, Int.reduceNeg, Int.reduceToNat]
  · have ha0 : a = 0 := by omega
    subst ha0
    simp only [if_neg ha] at cr
    have hR' : RD (tset M S F D P (0 : Nat) x 67) S F D P 0 0 (tset M S F D P (0 : Nat) x 63 8).toNat := by rw [ts_row (by decide), ts_row (by decide)]; exact hR
    obtain ⟨g1, g2⟩ := txt_go (L := L) hI hK hR' ts_5 ts_34 ts_35 ts_36 rfl (fun i hi => absurd hi (Nat.not_lt_zero i))
    have cT := fun d => c_trial (d := d) (L := L) (M := tset M S F D P (0 : Nat) x)
    have x5 : tset M S F D P (0 : Nat) x 32 5 = (P : Int) := ts_5
    have x34 : tset M S F D P (0 : Nat) x 34 = S := ts_34
    have x35 : tset M S F D P (0 : Nat) x 35 = F := ts_35
    have x36 : tset M S F D P (0 : Nat) x 36 = D := ts_36
    generalize hMt : tset M S F D P (0 : Nat) x = Mt at *
    have e63 : Mt 63 = M 63 := by rw [← hMt, ts_row (by decide)]
    have e67 : Mt 67 = M 67 := by rw [← hMt, ts_row (by decide)]
    have e0 : Mt 0 = M 0 := by rw [← hMt, ts_row (by decide)]
    have hle : ((0 : Nat) : Int) ≤ 0 := by decide
    -- the reference's bar at any memory that is alike
    have bar : ∀ (d : Nat) (MQ : PM), MQ 63 = Mt 63 → MQ 64 = Mt 64 → MQ 67 = Mt 67 → ∃ (c r' : Int) (G' : Nat → Int), EqG (GA (Mt 63 0) (Mt 63 1) (Mt 62) S F D (tri Mt 38) (sp (canA (Mt 63 0) (Mt 63 1) (Mt 62) S F D (tri Mt 38)) P 0)) G' ∧ den (d + 5) 109 [(.inr (.inr (some 63)))] (SH L) MQ = some (some (.inl (if fb (canA (Mt 63 0) (Mt 63 1) (Mt 62) S F D (tri Mt 38)) P 0 < 0 then 0 else -5)), SH L, gset (setC MQ 63 12 (-6)) G' (TA D (sp (canA (Mt 63 0) (Mt 63 1) (Mt 62) S F D (tri Mt 38)) P 0)) c r') := by
      intro d MQ k63 k64 k67
      have j63 : ∀ j, j ≠ 12 → setC MQ 63 12 (-6) 63 j = Mt 63 j := fun j hj => by rw [setC_i hj, k63]
      have j64 : setC MQ 63 12 (-6) 64 = Mt 64 := by rw [setC_row (by decide), k64]
      have j67 : setC MQ 63 12 (-6) 67 = Mt 67 := by rw [setC_row (by decide), k67]
      have cm := q3 (d + 3) (setC MQ 63 12 (-6)) (by rw [j63 8 (by decide), e63]) (j67.trans e67)
      have c2 := co d (setC MQ 63 12 (-6)) (by rw [j63 8 (by decide), e63]) (j67.trans e67)
      rw [j67, e67, hcnt] at c2
      obtain ⟨r', G', hE, c3⟩ := g2 (d + 1) (setC MQ 63 12 (-6)) 0 j64 j67 (j63 0 (by decide)) (j63 1 (by decide)) (j63 8 (by decide)) (by rw [setC_s]; decide) (by decide) (fun i hi => absurd hi (Nat.not_lt_zero i))
      refine ⟨CA (setC MQ 63 12 (-6) 63 12) (Mt 63 0) (Mt 63 1) (Mt 62) S F D (tri Mt 38) (sp (canA (Mt 63 0) (Mt 63 1) (Mt 62) S F D (tri Mt 38)) P 0), r', G', hE, u2.mpr ?_⟩
      by_cases hf : fb (canA (Mt 63 0) (Mt 63 1) (Mt 62) S F D (tri Mt 38)) P 0 < 0
      · simp (disch := first | omega | (exact Nat.le_of_ble_eq_true rfl) | assumption | rfl) only [e109_0, e109_1, e109_3, e109_6, e109_7, e109_10, e109_13, e109_15, e109_18, e109_19, e109_22, e109_25, e109_27, e109_30, e109_31, e109_32, e109_35, e109_38, e109_40, e109_43, e109_44, pi_63_12, cm, c2, c3, hle, hf, Nat.reduceAdd, ↓reduceIte, true_and, and_true, false_and, and_false, bindS, tL0, tL1, app0, app1, eq_self, Int.reduceEq, Int.reduceLT, Int.reduceLE, Int.reduceNeg, Int.reduceToNat]
      · simp (disch := first | omega | (exact Nat.le_of_ble_eq_true rfl) | assumption | rfl) only [e109_0, e109_1, e109_3, e109_6, e109_7, e109_10, e109_13, e109_15, e109_18, e109_19, e109_22, e109_25, e109_27, e109_30, e109_31, e109_32, e109_35, e109_38, e109_40, e109_43, e109_44, pi_63_12, cm, c2, c3, hle, hf, Nat.reduceAdd, ↓reduceIte, true_and, and_true, false_and, and_false, bindS, tL0, tL1, app0, app1, eq_self, Int.reduceEq, Int.reduceLT, Int.reduceLE, Int.reduceNeg, Int.reduceToNat]
    rcases fb_cases (canA (Mt 63 0) (Mt 63 1) (Mt 62) S F D (tri Mt 38)) P 0 with ⟨f1, f2, f3⟩ | f0
    · rw [Nat.zero_add] at f2 f3
      generalize hM1 : vset (tri Mt) 37 _ _ = M1 at g1
      rw [f2] at hM1
      refine ⟨0, M1, fun d => u.mpr ?_, Or.inr ⟨rfl, Mt, S, F, D, P, hI, e0, hR', x5, x34, x35, x36, fun i hi => f3 i (Nat.zero_le _) hi, hM1.symm, fun d MQ k63 k64 k67 => ?_⟩⟩
      · have g := g1 (d + 1)
        rw [f1] at g
        simp (disch := first | omega | (exact Nat.le_of_ble_eq_true rfl) | assumption | rfl) only [e80_0, e80_1, e80_4, e80_5, e80_6, e80_9, e80_10, e80_11, e80_12, e80_15, e80_16, e80_19, e80_22, e80_25, e80_26, e80_29, e80_30, e80_33, e80_34, e80_37, e80_40, e80_42, e80_45, e80_46, e80_49, e80_51, cr d, gf_1_0, gf_1_3, gf_1_4, gf_1_6, gf_2_0, cT (d + 4), g, Nat.reduceAdd, ↓reduceIte, true_and, and_true, false_and, and_false, bindS, tL0, tL1, app0, app1, eq_self, Int.reduceEq, Int.reduceLT, Int.reduceLE, Int.reduceNeg, Int.reduceToNat]
      · obtain ⟨c, r', G', hE, q⟩ := bar d MQ k63 k64 k67
        rw [f1, f2, if_pos (by decide)] at q
        rw [f2] at hE
        exact ⟨c, r', G', hE, q⟩
    · have hn6 : ¬ fb (canA (Mt 63 0) (Mt 63 1) (Mt 62) S F D (tri Mt 38)) P 0 = -6 := by omega
      generalize hM1 : vset (tri Mt) 37 _ _ = M1 at g1
      have r1 : ∀ b, b ≠ 37 → b ≠ 38 → M1 b = Mt b := fun b x y => by rw [← hM1, tri_m x y]
      have hI1 : Inv K M1 := Inv_same hI (by rw [← hM1]; exact Same_tri.trans Same_v37) (by rw [r1 63 (by decide) (by decide)]; exact hI.2.2.2.2.2)
      have g := fun d => g1 (d + 1)
      generalize fb (canA (Mt 63 0) (Mt 63 1) (Mt 62) S F D (tri Mt 38)) P 0 = rr at g hn6
      refine ⟨-5, M1, fun d => u.mpr (by simp (disch := first | omega | (exact Nat.le_of_ble_eq_true rfl) | assumption | rfl) only [e80_0, e80_1, e80_4, e80_5, e80_6, e80_9, e80_10, e80_11, e80_12, e80_15, e80_16, e80_19, e80_22, e80_25, e80_26, e80_29, e80_30, e80_33, e80_34, e80_37, e80_40, e80_42, e80_45, e80_46, e80_49, e80_51, cr d, gf_1_0, gf_1_3, gf_1_4, gf_1_6, gf_2_0, cT (d + 4), g d, hn6, Nat.reduceAdd, ↓reduceIte, true_and, and_true, false_and, and_false, bindS, tL0, tL1, app0, app1, eq_self, Int.reduceEq, Int.reduceLT, Int.reduceLE, Int.reduceNeg, Int.reduceToNat]), Or.inl ⟨Or.inl rfl, hI1, by rw [r1 0 (by decide) (by decide), e0], fun d => ?_⟩⟩
      obtain ⟨c, r', G', hE, q⟩ := bar d M1 (r1 63 (by decide) (by decide)) (r1 64 (by decide) (by decide)) (r1 67 (by decide) (by decide))
      rw [if_neg (by omega)] at q
      exact ⟨_, q, Inv_same (wI _ hI1) Same_gs (by rw [gs_m (by decide) (by decide) (by decide), setC_s]; decide)⟩
