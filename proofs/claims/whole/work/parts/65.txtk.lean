/-! behind, done -/
theorem GA_K {K : Int} {M : PM} {pe S F D : Nat → Int} {P : Nat} (h : Inv K M) (hK : K ≤ 100000000) (ho : ∀ j, j < P → OKP pe (S j) (F j) (D j)) (hP : P ≤ 60) : BG (GA (M 63 0) (M 63 1) pe S F D (tri M 38) P) (K + 24000) ∧ 0 ≤ TA D P ∧ TA D P ≤ 6000 := by
  have hT := tri_t h
  have g := GA_b (b := M 63 0) (f := M 63 1) (G0 := tri M 38) h.1.1.2.1 h.1.1.2.2.1 (B := K) (by omega) ho ((tri_B h).eq (tri_E h)) P (Nat.le_refl _)
  have t := TA_b ho P (Nat.le_refl _)
  exact ⟨g.le (by omega), by omega⟩
theorem op_behind {L : Nat} {K : Int} {M : PM} (h : Inv K M) (hK : K ≤ 100000000) (p : Int) : ∃ r M1 M2, den 1999 61 [(.inr (.inr (some 1))), .inl p] (SH L) M = some (some (.inl r), SH L, M1) ∧ M1 0 = M 0 ∧ den 1999 111 [(.inr (.inr (some 63))), .inl p] (SH L) M1 = some (some (.inl r), SH L, M2) ∧ Inv K M2 := by
  have o1 := io_1 (L := L)
  have o3 := io_3 (L := L)
  have o37 := io_37 (L := L)
  have o63 := io_63 (L := L)
  have u : ∀ {y}, den 1999 61 [(.inr (.inr (some 1))), .inl p] (SH L) M = y ↔ ev 1999 61 0 [some (.inr (.inr (some 1))), some (.inl p), none] [] (SH L) M = y := by
    intro y
    unfold den
    rw [show ent 61 [(.inr (.inr (some 1))), .inl p] = [some (.inr (.inr (some 1))), some (.inl p), none] from rfl]
  have u2 : ∀ {y} {M : PM}, den 1999 111 [(.inr (.inr (some 63))), .inl p] (SH L) M = y ↔ ev 1999 111 0 [some (.inr (.inr (some 63))), some (.inl p), none] [] (SH L) M = y := by
    intro y M
    unfold den
    rw [show ent 111 [(.inr (.inr (some 63))), .inl p] = [some (.inr (.inr (some 63))), some (.inl p), none] from rfl]
  by_cases hp : p = -1 ∨ (0 ≤ p ∧ p ≤ 5)
  rotate_left
  · have h1 : ¬ p = -1 := fun q => hp (Or.inl q)
    have h2 : ¬ (0 ≤ p ∧ p ≤ 5) := fun q => hp (Or.inr q)
    exact ⟨-1, M, M, u.mpr (by simp (disch := first | omega | (exact Nat.le_of_ble_eq_true rfl) | assumption | rfl) only [e61_0, e61_1, e61_2, e61_5, e61_6, e61_9, e61_12, e61_13, e61_14, e61_15, e61_18, e61_19, e61_20, e61_23, e61_24, e61_25, e61_26, e61_27, e61_30, e61_31, e61_34, e61_37, e61_38, e61_41, e61_44, e61_47, e61_48, e61_51, e61_52, e61_55, e61_56, e61_59, e61_62, e61_63, c_person, h1, h2, ↓reduceIte, true_and, and_true, false_and, and_false, bindS, tL0, tL1, app0, app1, eq_self, Int.reduceEq, Int.reduceLT, Int.reduceLE, Int.reduceNeg, Int.reduceToNat]), rfl, u2.mpr (by simp (disch := first | omega | (exact Nat.le_of_ble_eq_true rfl) | assumption | rfl) only [e111_0, e111_1, e111_2, e111_5, e111_6, e111_9, e111_12, e111_13, e111_14, e111_15, e111_18, e111_19, e111_20, e111_23, e111_24, e111_27, e111_28, e111_31, e111_32, e111_35, e111_38, e111_39, e111_42, e111_43, e111_44, e111_47, e111_48, c_mperson, h1, h2, ↓reduceIte, true_and, and_true, false_and, and_false, bindS, tL0, tL1, app0, app1, eq_self, Int.reduceEq, Int.reduceLT, Int.reduceLE, Int.reduceNeg, Int.reduceToNat]), h⟩
  obtain ⟨v, M1, q1, ⟨hv, hI1, e0, q2⟩ | ⟨rfl, Mt, S, F, D, P, hI, e0, hR, x5, x34, x35, x36, hcan, hM1, bar⟩⟩ := try_bar (L := L) h hK
  · obtain ⟨M2, q2, hI2⟩ := q2 1993
    have q1 := q1 1992
    simp only [Nat.reduceAdd] at q1 q2
    have v0 : ¬ v = 0 := by omega
    have v1 : ¬ 0 ≤ v := by omega
    refine ⟨v, M1, M2, u.mpr ?_, e0, u2.mpr ?_, hI2⟩
    · rcases hp with rfl | hp
      · simp (disch := first | omega | (exact Nat.le_of_ble_eq_true rfl) | assumption | rfl) only [e61_0, e61_1, e61_2, e61_5, e61_6, e61_9, e61_12, e61_13, e61_14, e61_15, e61_18, e61_19, e61_20, e61_23, e61_24, e61_25, e61_26, e61_27, e61_30, e61_31, e61_34, e61_37, e61_38, e61_41, e61_44, e61_47, e61_48, e61_51, e61_52, e61_55, e61_56, e61_59, e61_62, e61_63, q1, v0, ↓reduceIte, true_and, and_true, false_and, and_false, bindS, tL0, tL1, app0, app1, eq_self, Int.reduceEq, Int.reduceLT, Int.reduceLE, Int.reduceNeg, Int.reduceToNat]
      · by_cases hp1 : p = -1
        · simp (disch := first | omega | (exact Nat.le_of_ble_eq_true rfl) | assumption | rfl) only [e61_0, e61_1, e61_2, e61_5, e61_6, e61_9, e61_12, e61_13, e61_14, e61_15, e61_18, e61_19, e61_20, e61_23, e61_24, e61_25, e61_26, e61_27, e61_30, e61_31, e61_34, e61_37, e61_38, e61_41, e61_44, e61_47, e61_48, e61_51, e61_52, e61_55, e61_56, e61_59, e61_62, e61_63, c_person, hp, hp1, q1, v0, ↓reduceIte, true_and, and_true, false_and, and_false, bindS, tL0, tL1, app0, app1, eq_self, Int.reduceEq, Int.reduceLT, Int.reduceLE, Int.reduceNeg, Int.reduceToNat]
        · simp (disch := first | omega | (exact Nat.le_of_ble_eq_true rfl) | assumption | rfl) only [e61_0, e61_1, e61_2, e61_5, e61_6, e61_9, e61_12, e61_13, e61_14, e61_15, e61_18, e61_19, e61_20, e61_23, e61_24, e61_25, e61_26, e61_27, e61_30, e61_31, e61_34, e61_37, e61_38, e61_41, e61_44, e61_47, e61_48, e61_51, e61_52, e61_55, e61_56, e61_59, e61_62, e61_63, c_person, hp, hp1, q1, v0, ↓reduceIte, true_and, and_true, false_and, and_false, bindS, tL0, tL1, app0, app1, eq_self, Int.reduceEq, Int.reduceLT, Int.reduceLE, Int.reduceNeg, Int.reduceToNat]
    · rcases hp with rfl | hp
      · simp (disch := first | omega | (exact Nat.le_of_ble_eq_true rfl) | assumption | rfl) only [e111_0, e111_1, e111_2, e111_5, e111_6, e111_9, e111_12, e111_13, e111_14, e111_15, e111_18, e111_19, e111_20, e111_23, e111_24, e111_27, e111_28, e111_31, e111_32, e111_35, e111_38, e111_39, e111_42, e111_43, e111_44, e111_47, e111_48, q2, v1, ↓reduceIte, true_and, and_true, false_and, and_false, bindS, tL0, tL1, app0, app1, eq_self, Int.reduceEq, Int.reduceLT, Int.reduceLE, Int.reduceNeg, Int.reduceToNat]
      · by_cases hp1 : p = -1
        · simp (disch := first | omega | (exact Nat.le_of_ble_eq_true rfl) | assumption | rfl) only [e111_0, e111_1, e111_2, e111_5, e111_6, e111_9, e111_12, e111_13, e111_14, e111_15, e111_18, e111_19, e111_20, e111_23, e111_24, e111_27, e111_28, e111_31, e111_32, e111_35, e111_38, e111_39, e111_42, e111_43, e111_44, e111_47, e111_48, c_mperson, hp, hp1, q2, v1, ↓reduceIte, true_and, and_true, false_and, and_false, bindS, tL0, tL1, app0, app1, eq_self, Int.reduceEq, Int.reduceLT, Int.reduceLE, Int.reduceNeg, Int.reduceToNat]
        · simp (disch := first | omega | (exact Nat.le_of_ble_eq_true rfl) | assumption | rfl) only [e111_0, e111_1, e111_2, e111_5, e111_6, e111_9, e111_12, e111_13, e111_14, e111_15, e111_18, e111_19, e111_20, e111_23, e111_24, e111_27, e111_28, e111_31, e111_32, e111_35, e111_38, e111_39, e111_42, e111_43, e111_44, e111_47, e111_48, c_mperson, hp, hp1, q2, v1, ↓reduceIte, true_and, and_true, false_and, and_false, bindS, tL0, tL1, app0, app1, eq_self, Int.reduceEq, Int.reduceLT, Int.reduceLE, Int.reduceNeg, Int.reduceToNat]
  · have r1 : ∀ b, b ≠ 37 → b ≠ 38 → M1 b = Mt b := fun b x y => by rw [hM1, tri_m x y]
    obtain ⟨c, r', G', hE, q2⟩ := bar 1993 M1 (r1 63 (by decide) (by decide)) (r1 64 (by decide) (by decide)) (r1 67 (by decide) (by decide))
    have q1 := q1 1992
    simp only [Nat.reduceAdd] at q1 q2
    have ho := RD_ok (pe := Mt 62) hR (fun i hi => absurd hi (Nat.not_lt_zero i))
    have hP := (RD_x hR).2.1
    have t1 := hI.2.2.2.1.1
    obtain ⟨gb, tb⟩ := GA_K hI hK ho (by omega)
    have hT := tri_t hI
    have c1 := v_time (L := L) (M := tri Mt) (d := 1998) (G := GA (Mt 63 0) (Mt 63 1) (Mt 62) S F D (tri Mt 38) P) (T := Mt 3 1 + TA D P)
    have c2 := c_time (M := M1) (d := 1998) (vl_3 (L := L))
    rw [r1 3 (by decide) (by decide)] at c2
    rw [← hM1] at c1
    have w : wr (Mt 3 1 + TA D P - Mt 3 1) = TA D P := by rw [wr_id (by omega) (by omega)]; omega
    have hIf : ∀ c r', Inv K (gset (setC M1 63 12 (-6)) G' (TA D P) c r') := by
      intro c r'
      refine Inv_same hI ?_ ?_
      · refine Same.trans (Same.trans (Same_tri.trans (M' := tri Mt) (M'' := M1) (by rw [hM1]; exact Same_v37)) (M' := M1) ⟨fun b hb => setC_row (by omega), by rw [setC_row (by decide)], fun j hj => setC_i (by omega)⟩) Same_gs
      · rw [gs_m (by decide) (by decide) (by decide), setC_s]; decide
    rcases hp with rfl | hp
    · refine ⟨TA D P, M1, gset (setC M1 63 12 (-6)) G' (TA D P) c r', u.mpr ?_, by rw [r1 0 (by decide) (by decide), e0], u2.mpr ?_, hIf _ _⟩
      · simp (disch := first | omega | (exact Nat.le_of_ble_eq_true rfl) | assumption | rfl) only [e61_0, e61_1, e61_2, e61_5, e61_6, e61_9, e61_12, e61_13, e61_14, e61_15, e61_18, e61_19, e61_20, e61_23, e61_24, e61_25, e61_26, e61_27, e61_30, e61_31, e61_34, e61_37, e61_38, e61_41, e61_44, e61_47, e61_48, e61_51, e61_52, e61_55, e61_56, e61_59, e61_62, e61_63, q1, gf_1_0, gf_1_4, gf_2_0, c1, c2, w, ↓reduceIte, true_and, and_true, false_and, and_false, bindS, tL0, tL1, app0, app1, eq_self, Int.reduceEq, Int.reduceLT, Int.reduceLE, Int.reduceNeg, Int.reduceToNat]
      · simp (disch := first | omega | (exact Nat.le_of_ble_eq_true rfl) | assumption | rfl) only [e111_0, e111_1, e111_2, e111_5, e111_6, e111_9, e111_12, e111_13, e111_14, e111_15, e111_18, e111_19, e111_20, e111_23, e111_24, e111_27, e111_28, e111_31, e111_32, e111_35, e111_38, e111_39, e111_42, e111_43, e111_44, e111_47, e111_48, q2, gf_63_11, gs_11, ↓reduceIte, true_and, and_true, false_and, and_false, bindS, tL0, tL1, app0, app1, eq_self, Int.reduceEq, Int.reduceLT, Int.reduceLE, Int.reduceNeg, Int.reduceToNat]
    · have hp1 : ¬ p = -1 := by omega
      have hpn : 0 ≤ p := hp.1
      have hgp := gb p.toNat (by omega)
      have eg := hE p.toNat (by omega)
      have c3 := c_glass_in (M := M1) (d := 1997) (vl_37 (L := L)) (i := p) hp.1 (by omega)
      rw [show M1 (37 + 1) = GA (Mt 63 0) (Mt 63 1) (Mt 62) S F D (tri Mt 38) P by rw [hM1]; exact vs_G] at c3
      have gp := aget_in (M := gset (setC M1 63 12 (-6)) G' (TA D P) c r') (ar_68 (L := L)) (i := p) hp.1 (by omega)
      rw [gs_G, ← eg] at gp
      have w2 : wr (GA (Mt 63 0) (Mt 63 1) (Mt 62) S F D (tri Mt 38) P p.toNat + 1000) = GA (Mt 63 0) (Mt 63 1) (Mt 62) S F D (tri Mt 38) P p.toNat + 1000 := wr_id (by omega) (by omega)
      refine ⟨GA (Mt 63 0) (Mt 63 1) (Mt 62) S F D (tri Mt 38) P p.toNat + 1000, M1, gset (setC M1 63 12 (-6)) G' (TA D P) c r', u.mpr ?_, by rw [r1 0 (by decide) (by decide), e0], u2.mpr ?_, hIf _ _⟩
      · simp (disch := first | omega | (exact Nat.le_of_ble_eq_true rfl) | assumption | rfl) only [e61_0, e61_1, e61_2, e61_5, e61_6, e61_9, e61_12, e61_13, e61_14, e61_15, e61_18, e61_19, e61_20, e61_23, e61_24, e61_25, e61_26, e61_27, e61_30, e61_31, e61_34, e61_37, e61_38, e61_41, e61_44, e61_47, e61_48, e61_51, e61_52, e61_55, e61_56, e61_59, e61_62, e61_63, c_person, hp, hp1, q1, gf_1_4, c3, w2, Nat.reduceAdd, ↓reduceIte, true_and, and_true, false_and, and_false, bindS, tL0, tL1, app0, app1, eq_self, Int.reduceEq, Int.reduceLT, Int.reduceLE, Int.reduceNeg, Int.reduceToNat]
      · simp (disch := first | omega | (exact Nat.le_of_ble_eq_true rfl) | assumption | rfl) only [e111_0, e111_1, e111_2, e111_5, e111_6, e111_9, e111_12, e111_13, e111_14, e111_15, e111_18, e111_19, e111_20, e111_23, e111_24, e111_27, e111_28, e111_31, e111_32, e111_35, e111_38, e111_39, e111_42, e111_43, e111_44, e111_47, e111_48, c_mperson, hp, hp1, hpn, q2, gf_63_10, gp, w2, ↓reduceIte, true_and, and_true, false_and, and_false, bindS, tL0, tL1, app0, app1, eq_self, Int.reduceEq, Int.reduceLT, Int.reduceLE, Int.reduceNeg, Int.reduceToNat]
theorem dn_loop {d L : Nat} {M : PM} {l1 : Option PV} : ∀ (k i : Nat), i + k = 6 →
    ev d 110 13 [some (.inr (.inr (some 63))), l1, some (.inl (i : Int))] [] (SH L) (setR M 64 (fil (M 68) (M 64) i)) = ev d 110 37 [some (.inr (.inr (some 63))), l1, some (.inl 6)] [] (SH L) (setR M 64 (fil (M 68) (M 64) 6)) := by
  intro k
  induction k with
  | zero =>
    intro i hi
    have hi : i = 6 := by omega
    subst hi
    rw [e110_13]
    simp only [e110_0, e110_1, e110_4, e110_5, e110_6, e110_9, e110_10, e110_11, e110_12, e110_14, e110_16, e110_19, e110_20, e110_23, e110_24, e110_25, e110_28, e110_29, e110_30, e110_31, e110_34, e110_38i, e110_38, e110_39, e110_42, e110_43, e110_46, e110_47, e110_50, e110_51, e110_52, e110_55, e110_56, e110_59]
    rw [if_pos (by decide)]
    rfl
  | succ k ih =>
    intro i hi
    have h6 : i < 6 := by omega
    have hle : ¬ (6 : Int) ≤ (i : Int) := by omega
    have g1 := aget_in (M := setR M 64 (fil (M 68) (M 64) i)) (ar_68 (L := L)) (i := (i : Int)) (by omega) (by omega)
    have p1 := fun v => aput_in (M := setR M 64 (fil (M 68) (M 64) i)) (ar_64 (L := L)) (i := (i : Int)) (x := v) (by omega) (by omega)
    rw [setR_row (by decide), tnN] at g1
    simp only [tnN] at p1
    have wi := wr1 i (by omega)
    rw [e110_13]
    simp (disch := first | omega | (exact Nat.le_of_ble_eq_true rfl) | assumption | rfl) only [e110_0, e110_1, e110_4, e110_5, e110_6, e110_9, e110_10, e110_11, e110_12, e110_14, e110_16, e110_19, e110_20, e110_23, e110_24, e110_25, e110_28, e110_29, e110_30, e110_31, e110_34, e110_38i, e110_38, e110_39, e110_42, e110_43, e110_46, e110_47, e110_50, e110_51, e110_52, e110_55, e110_56, e110_59, gf_63_10, gf_63_3, hle, g1, p1, wi, ↓reduceIte, true_and, and_true, false_and, and_false, bindS, tL0, tL1, app0, app1, eq_self, Int.reduceEq, Int.reduceLT, Int.reduceLE, Int.reduceNeg, Int.reduceToNat]
    rw [fil_put rfl]
    exact ih (i + 1) (by omega)
theorem op_done {L : Nat} {K : Int} {M : PM} (h : Inv K M) (hK : K ≤ 100000000) : ∃ r M1 M2, den 1999 60 [(.inr (.inr (some 1)))] (SH L) M = some (some (.inl r), SH L, M1) ∧ M1 0 = M 0 ∧ den 1999 110 [(.inr (.inr (some 63)))] (SH L) M1 = some (some (.inl r), SH L, M2) ∧ Inv (K + 24000) M2 := by
  have o1 := io_1 (L := L)
  have o3 := io_3 (L := L)
  have o32 := io_32 (L := L)
  have o37 := io_37 (L := L)
  have o63 := io_63 (L := L)
  have u : ∀ {y}, den 1999 60 [(.inr (.inr (some 1)))] (SH L) M = y ↔ ev 1999 60 0 [some (.inr (.inr (some 1))), none, none] [] (SH L) M = y := by
    intro y
    unfold den
    rw [show ent 60 [(.inr (.inr (some 1)))] = [some (.inr (.inr (some 1))), none, none] from rfl]
  have u2 : ∀ {y} {M : PM}, den 1999 110 [(.inr (.inr (some 63)))] (SH L) M = y ↔ ev 1999 110 0 [some (.inr (.inr (some 63))), none, none] [] (SH L) M = y := by
    intro y M
    unfold den
    rw [show ent 110 [(.inr (.inr (some 63)))] = [some (.inr (.inr (some 63))), none, none] from rfl]
  obtain ⟨v, M1, q1, ⟨hv, hI1, e0, q2⟩ | ⟨rfl, Mt, S, F, D, P, hI, e0, hR, x5, x34, x35, x36, hcan, hM1, bar⟩⟩ := try_bar (L := L) h hK
  · obtain ⟨M2, q2, hI2⟩ := q2 1993
    have q1 := q1 1992
    simp only [Nat.reduceAdd] at q1 q2
    have v0 : ¬ v = 0 := by omega
    have v1 : ¬ 0 ≤ v := by omega
    exact ⟨v, M1, M2, u.mpr (by simp (disch := first | omega | (exact Nat.le_of_ble_eq_true rfl) | assumption | rfl) only [e60_0, e60_1, e60_4, e60_5, e60_6, e60_9, e60_10, e60_11, e60_12, e60_15, e60_18, e60_19, e60_22, e60_25, e60_28, e60_29, e60_30, e60_31, e60_34, e60_37, e60_38, e60_41, e60_44, e60_45, e60_48, e60_51, e60_52, e60_53, q1, v0, ↓reduceIte, true_and, and_true, false_and, and_false, bindS, tL0, tL1, app0, app1, eq_self, Int.reduceEq, Int.reduceLT, Int.reduceLE, Int.reduceNeg, Int.reduceToNat]), e0, u2.mpr (by simp (disch := first | omega | (exact Nat.le_of_ble_eq_true rfl) | assumption | rfl) only [e110_0, e110_1, e110_4, e110_5, e110_6, e110_9, e110_10, e110_11, e110_12, e110_14, e110_16, e110_19, e110_20, e110_23, e110_24, e110_25, e110_28, e110_29, e110_30, e110_31, e110_34, e110_37, e110_38i, e110_38, e110_39, e110_42, e110_43, e110_46, e110_47, e110_50, e110_51, e110_52, e110_55, e110_56, e110_59, q2, v1, ↓reduceIte, true_and, and_true, false_and, and_false, bindS, tL0, tL1, app0, app1, eq_self, Int.reduceEq, Int.reduceLT, Int.reduceLE, Int.reduceNeg, Int.reduceToNat]), Inv_mono (by omega) hI2⟩
  have ho := RD_ok (pe := Mt 62) hR (fun i hi => absurd hi (Nat.not_lt_zero i))
  have hP := (RD_x hR).2.1
  have t1 := hI.2.2.2.1.1
  obtain ⟨gb, tb⟩ := GA_K hI hK ho (by omega)
  have hT := tri_t hI
  have r1 : ∀ b, b ≠ 37 → b ≠ 38 → M1 b = Mt b := fun b x y => by rw [hM1, tri_m x y]
  have c1 := v_time (L := L) (M := tri Mt) (d := 1998) (G := GA (Mt 63 0) (Mt 63 1) (Mt 62) S F D (tri Mt 38) P) (T := Mt 3 1 + TA D P)
  have c2 := c_time (M := M1) (d := 1998) (vl_3 (L := L))
  rw [r1 3 (by decide) (by decide)] at c2
  rw [← hM1] at c1
  have w : wr (Mt 3 1 + TA D P - Mt 3 1) = TA D P := by rw [wr_id (by omega) (by omega)]; omega
  have m38 : M1 38 = GA (Mt 63 0) (Mt 63 1) (Mt 62) S F D (tri Mt 38) P := by rw [hM1]; exact vs_G (v := 37)
  have m371 : M1 37 1 = Mt 3 1 + TA D P := by rw [hM1]; exact vs_T (v := 37)
  have m372 : M1 37 2 = Mt 63 0 := by rw [hM1, vs_2]; exact tri_b hI
  have m373 : M1 37 3 = Mt 63 1 := by rw [hM1, vs_3]; exact tri_3.trans hI.1.2.2.2.1
  have cC := c_vcopy (M := M1) (d := 1997) (vl_3 (L := L)) (vl_37 (L := L)) (by decide) (by decide) (by decide)
  simp only [Nat.reduceAdd] at cC
  have cl : ∀ M : PM, den 1998 29 [(.inr (.inr (some 32)))] (SH L) M = some (some (.inl (M 32 1)), SH L, setC M 32 1 0) := by
    intro M
    unfold den
    rw [show ent 29 [(.inr (.inr (some 32)))] = [some (.inr (.inr (some 32))), none] from rfl]
    simp only [e29_0, e29_1, e29_4, e29_5, e29_6, e29_7, e29_10, e29_11, gf_32_1, pi_32_1, bindS]
  have q1 := q1 1992
  -- what the class leaves
  generalize hC1 : setC (setC (vset M1 3 (fil (M1 38) (M1 4) 6) (M1 37 1)) 3 2 (M1 37 2)) 3 3 (M1 37 3) = C1 at cC
  have k1 : ∀ b, b ≠ 3 → b ≠ 4 → C1 b = M1 b := fun b x y => by rw [← hC1, setC_row x, setC_row x, vs_row x (by omega)]
  have k31 : C1 3 1 = Mt 3 1 + TA D P := by rw [← hC1, setC_i (by decide), setC_i (by decide), vs_T, m371]
  have k32 : C1 3 2 = Mt 63 0 := by rw [← hC1, setC_i (by decide), setC_s, m372]
  have k33 : C1 3 3 = Mt 63 1 := by rw [← hC1, setC_s, m373]
  have k4 : ∀ q, q < 6 → C1 4 q = GA (Mt 63 0) (Mt 63 1) (Mt 62) S F D (tri Mt 38) P q := fun q hq => by
    rw [← hC1, setC_row (by decide), setC_row (by decide), show vset M1 3 (fil (M1 38) (M1 4) 6) (M1 37 1) 4 = fil (M1 38) (M1 4) 6 from vs_G (v := 3), fil_lt _ _ hq, m38]
  generalize hC2 : setC C1 32 1 0 = C2
  have j : ∀ b, b ≠ 3 → b ≠ 4 → b ≠ 32 → b ≠ 37 → b ≠ 38 → C2 b = Mt b := fun b x1 x2 x3 x4 x5 => by rw [← hC2, setC_row x3, k1 b x1 x2, r1 b x4 x5]
  have j3 : C2 3 = C1 3 := by rw [← hC2, setC_row (by decide)]
  have j4 : C2 4 = C1 4 := by rw [← hC2, setC_row (by decide)]
  have j32 : C2 32 1 = 0 := by rw [← hC2, setC_s]
  obtain ⟨c, r', G', hE, q2⟩ := bar 1993 C2 (j 63 (by decide) (by decide) (by decide) (by decide) (by decide)) (j 64 (by decide) (by decide) (by decide) (by decide) (by decide)) (j 67 (by decide) (by decide) (by decide) (by decide) (by decide))
  simp only [Nat.reduceAdd] at q1 q2
  generalize hN : gset (setC C2 63 12 (-6)) G' (TA D P) c r' = N at q2
  have n68 : N 68 = G' := by rw [← hN, gs_G]
  have n11 : N 63 11 = TA D P := by rw [← hN, gs_11]
  have n63 : ∀ j', j' ≠ 11 → j' ≠ 12 → j' ≠ 13 → j' ≠ 14 → N 63 j' = Mt 63 j' := fun j' x1 x2 x3 x4 => by rw [← hN, gs_m x1 x3 x4, setC_i x2, j 63 (by decide) (by decide) (by decide) (by decide) (by decide)]
  have n12 : N 63 12 = -6 := by rw [← hN, gs_m (by decide) (by decide) (by decide), setC_s]
  have n : ∀ b, b ≠ 63 → b ≠ 68 → N b = C2 b := fun b x1 x2 => by rw [← hN, gs_row x1 x2, setC_row x1]
  have l := dn_loop (d := 1999) (L := L) (M := N) (l1 := some (.inl ((0 : Nat) : Int))) 6 0 (by omega)
  rw [fil_0, setR_same] at l
  generalize hQ : setR N 64 (fil (N 68) (N 64) 6) = Q at l
  have p64 : ∀ q, q < 6 → Q 64 q = G' q := fun q hq => by rw [← hQ, setR_s, fil_lt _ _ hq, n68]
  have pr : ∀ b, b ≠ 64 → Q b = N b := fun b x => by rw [← hQ, setR_row x]
  have p2 : Q 63 2 = Mt 63 2 := by rw [pr 63 (by decide), n63 2 (by decide) (by decide) (by decide) (by decide)]
  have p11 : Q 63 11 = TA D P := by rw [pr 63 (by decide), n11]
  have b4 := hI.1.2.2.2.2.1
  have tb3 := hI.1.1.2.2.2.1
  have w2 : wr (Mt 63 2 + TA D P) = Mt 63 2 + TA D P := wr_id (by omega) (by omega)
  generalize hZ : setC (setC Q 63 2 (Mt 63 2 + TA D P)) 63 8 0 = Z
  have z11 : Z 63 11 = TA D P := by rw [← hZ, setC_i (by decide), setC_i (by decide), p11]
  refine ⟨TA D P, C2, Z, u.mpr ?_, by rw [j 0 (by decide) (by decide) (by decide) (by decide) (by decide), e0], u2.mpr ?_, ?_⟩
  · simp (disch := first | omega | (exact Nat.le_of_ble_eq_true rfl) | assumption | rfl) only [e60_0, e60_1, e60_4, e60_5, e60_6, e60_9, e60_10, e60_11, e60_12, e60_15, e60_18, e60_19, e60_22, e60_25, e60_28, e60_29, e60_30, e60_31, e60_34, e60_37, e60_38, e60_41, e60_44, e60_45, e60_48, e60_51, e60_52, e60_53, q1, gf_1_0, gf_1_3, gf_1_4, gf_2_0, c1, c2, w, cC, cl, hC2, ↓reduceIte, true_and, and_true, false_and, and_false, bindS, tL0, tL1, app0, app1, eq_self, Int.reduceEq, Int.reduceLT, Int.reduceLE, Int.reduceNeg, Int.reduceToNat]
  · simp (disch := first | omega | (exact Nat.le_of_ble_eq_true rfl) | assumption | rfl) only [e110_0, e110_1, e110_4, e110_5, e110_6, e110_9, e110_10, e110_11, e110_12, e110_14, e110_16, e110_19, e110_20, e110_23, e110_24, e110_25, e110_28, e110_29, e110_30, e110_31, e110_34, e110_37, e110_38i, e110_38, e110_39, e110_42, e110_43, e110_46, e110_47, e110_50, e110_51, e110_52, e110_55, e110_56, e110_59, q2, ↓reduceIte, true_and, and_true, false_and, and_false, bindS, tL0, tL1, app0, app1, eq_self, Int.reduceEq, Int.reduceLT, Int.reduceLE, Int.reduceNeg, Int.reduceToNat]
    rw [show ((0 : Int)) = ((0 : Nat) : Int) from rfl, l]
    simp (disch := first | omega | (exact Nat.le_of_ble_eq_true rfl) | assumption | rfl) only [e110_0, e110_1, e110_4, e110_5, e110_6, e110_9, e110_10, e110_11, e110_12, e110_14, e110_16, e110_19, e110_20, e110_23, e110_24, e110_25, e110_28, e110_29, e110_30, e110_31, e110_34, e110_37, e110_38i, e110_38, e110_39, e110_42, e110_43, e110_46, e110_47, e110_50, e110_51, e110_52, e110_55, e110_56, e110_59, gf_63_2, gf_63_11, pi_63_2, pi_63_8, p2, p11, w2, hZ, z11, ↓reduceIte, true_and, and_true, false_and, and_false, bindS, tL0, tL1, app0, app1, eq_self, Int.reduceEq, Int.reduceLT, Int.reduceLE, Int.reduceNeg, Int.reduceToNat]
  · obtain ⟨⟨⟨a1, a2, a3, a4, a5, a6, a7, a8⟩, ⟨b1, b2, b3, b4, b5, b6, b7, b8⟩⟩, h2, h3, ht, h5, h6⟩ := hI
    have s : ∀ b, b ≠ 3 → b ≠ 4 → b ≠ 32 → b ≠ 37 → b ≠ 38 → b ≠ 63 → b ≠ 64 → b ≠ 68 → Z b = Mt b := fun b x1 x2 x3 x4 x5 x6 x7 x8 => by rw [← hZ, setC_row x6, setC_row x6, pr b x7, n b x6 x8, j b x1 x2 x3 x4 x5]
    have s63 : ∀ j', j' ≠ 2 → j' ≠ 8 → j' ≠ 11 → j' ≠ 12 → j' ≠ 13 → j' ≠ 14 → Z 63 j' = Mt 63 j' := fun j' x1 x2 x3 x4 x5 x6 => by rw [← hZ, setC_i x2, setC_i x1, pr 63 (by decide), n63 j' x3 x4 x5 x6]
    have s2 : Z 63 2 = Mt 63 2 + TA D P := by rw [← hZ, setC_i (by decide), setC_s]
    have s8 : Z 63 8 = 0 := by rw [← hZ, setC_s]
    have s12 : Z 63 12 = -6 := by rw [← hZ, setC_i (by decide), setC_i (by decide), pr 63 (by decide), n12]
    have s3 : Z 3 = C1 3 := by rw [← hZ, setC_row (by decide), setC_row (by decide), pr 3 (by decide), n 3 (by decide) (by decide), j3]
    have s4 : Z 4 = C1 4 := by rw [← hZ, setC_row (by decide), setC_row (by decide), pr 4 (by decide), n 4 (by decide) (by decide), j4]
    have s32 : Z 32 1 = 0 := by rw [← hZ, setC_row (by decide), setC_row (by decide), pr 32 (by decide), n 32 (by decide) (by decide), j32]
    have s64 : Z 64 = Q 64 := by rw [← hZ, setC_row (by decide), setC_row (by decide)]
    have img : ∀ b, (12 ≤ b ∧ b ≤ 21 ∨ b = 71 ∨ b = 72) → Z b = Mt b := fun b hb => s b (by omega) (by omega) (by omega) (by omega) (by omega) (by omega) (by omega) (by omega)
    have img2 : ∀ b, (22 ≤ b ∧ b ≤ 31 ∨ b = 71 ∨ b = 72) → Z b = Mt b := fun b hb => s b (by omega) (by omega) (by omega) (by omega) (by omega) (by omega) (by omega) (by omega)
    have hbg : BG (Z 64) (K + 24000) := by
      intro q hq
      rw [s64, p64 q hq, ← hE q hq]; exact gb q hq
    have h4 : ∀ q, q < 6 → Z 4 q = Z 64 q := by
      intro q hq
      rw [s4, k4 q hq, s64, p64 q hq]; exact hE q hq
    have m0 := Img0_same h2 img
    have m1 := Img1_same h3 img2
    refine ⟨⟨⟨hbg, ?_, ?_, ?_, ?_, ?_, ?_, ?_⟩, ⟨h4, ?_, ?_, ?_, ?_, ?_, ?_, ?_⟩⟩, ?_, ?_, ⟨?_, ?_, ?_, ?_⟩, ?_, ?_⟩
    · rw [s63 0 (by decide) (by decide) (by decide) (by decide) (by decide) (by decide)]; exact a2
    · rw [s63 1 (by decide) (by decide) (by decide) (by decide) (by decide) (by decide)]; exact a3
    · rw [s2]; omega
    · rw [s63 4 (by decide) (by decide) (by decide) (by decide) (by decide) (by decide)]; exact a5
    · rw [s63 6 (by decide) (by decide) (by decide) (by decide) (by decide) (by decide)]; exact a6
    · rw [s63 4 (by decide) (by decide) (by decide) (by decide) (by decide) (by decide), s 65 (by decide) (by decide) (by decide) (by decide) (by decide) (by decide) (by decide) (by decide)]; exact a7
    · rw [s63 6 (by decide) (by decide) (by decide) (by decide) (by decide) (by decide), s 66 (by decide) (by decide) (by decide) (by decide) (by decide) (by decide) (by decide) (by decide)]; exact a8
    · rw [s3, k32, s63 0 (by decide) (by decide) (by decide) (by decide) (by decide) (by decide)]
    · rw [s3, k33, s63 1 (by decide) (by decide) (by decide) (by decide) (by decide) (by decide)]
    · rw [s3, k31, s2, b4]
    · rw [s 5 (by decide) (by decide) (by decide) (by decide) (by decide) (by decide) (by decide) (by decide), s63 4 (by decide) (by decide) (by decide) (by decide) (by decide) (by decide)]; exact b5
    · rw [s 9 (by decide) (by decide) (by decide) (by decide) (by decide) (by decide) (by decide) (by decide), s63 6 (by decide) (by decide) (by decide) (by decide) (by decide) (by decide)]; exact b6
    · rw [s 65 (by decide) (by decide) (by decide) (by decide) (by decide) (by decide) (by decide) (by decide), s (5 + 1) (by decide) (by decide) (by decide) (by decide) (by decide) (by decide) (by decide) (by decide), s (5 + 2) (by decide) (by decide) (by decide) (by decide) (by decide) (by decide) (by decide) (by decide), s (5 + 3) (by decide) (by decide) (by decide) (by decide) (by decide) (by decide) (by decide) (by decide)]; exact b7
    · rw [s 66 (by decide) (by decide) (by decide) (by decide) (by decide) (by decide) (by decide) (by decide), s (9 + 1) (by decide) (by decide) (by decide) (by decide) (by decide) (by decide) (by decide) (by decide), s (9 + 2) (by decide) (by decide) (by decide) (by decide) (by decide) (by decide) (by decide) (by decide)]; exact b8
    · exact ⟨m0.1, m0.2.1, fun z => ⟨SV_mono (by omega) (m0.2.2 z).1, (m0.2.2 z).2⟩⟩
    · exact ⟨m1.1, m1.2.1, fun z => ⟨SV_mono (by omega) (m1.2.2 z).1, (m1.2.2 z).2⟩⟩
    · rw [s8]; decide
    · rw [s32, s8]
    · rw [s 33 (by decide) (by decide) (by decide) (by decide) (by decide) (by decide) (by decide) (by decide), s 67 (by decide) (by decide) (by decide) (by decide) (by decide) (by decide) (by decide) (by decide)]; exact ht.2.2.1
    · intro i hi; rw [s8] at hi; omega
    · rw [s 41 (by decide) (by decide) (by decide) (by decide) (by decide) (by decide) (by decide) (by decide)]; exact h5
    · rw [s12]; decide
