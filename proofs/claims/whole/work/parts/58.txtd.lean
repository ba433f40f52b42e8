/-! read; fault agrees -/
theorem c_read {L : Nat} {M : PM} (h : TxtI M) : ∃ (r : Int) (S F D : Nat → Int) (p a : Nat) (x : Int), (∀ d, den (d + 4) 30 [(.inr (.inr (some 32)))] (SH L) M = some (some (.inl r), SH L, tset M S F D (p : Int) (a : Int) x))
    ∧ (r = -6 ∧ RD (M 67) S F D p a 0 (M 63 8).toNat ∨ 0 ≤ r)
    ∧ ∀ (d : Nat) (MQ : PM), MQ 63 8 = M 63 8 → MQ 67 = M 67 → den (d + 1) 98 [(.inr (.inr (some 63)))] (SH L) MQ = some (some (.inl r), SH L, MQ) := by
  obtain ⟨t1, t2, t3, t4⟩ := h
  obtain ⟨n, hn⟩ : ∃ n : Nat, M 63 8 = (n : Int) := ⟨(M 63 8).toNat, by omega⟩
  rw [hn] at t1 t2
  have hR : RD (M 67) (M 34) (M 35) (M 36) 0 0 0 0 := ⟨fun _ => 0, ⟨rfl, Nat.le_refl _, rfl, by decide, rfl, fun j hj => absurd hj (Nat.not_lt_zero j)⟩, Or.inl ⟨rfl, rfl, fun j hj => absurd hj (Nat.not_lt_zero j)⟩⟩
  obtain ⟨r, S, F, D, p, a, x, q1, q2, q3⟩ := read_loop (L := L) (M := M) (Z := M 67) (n := n) (by omega) t2 (fun i hi => t3 i (by omega)) n 0 (M 34) (M 35) (M 36) 0 0 0 (by omega) hR
  refine ⟨r, S, F, D, p, a, x, fun d => ?_, by rw [hn, tnN]; exact q2, fun d MQ h8 h67 => ?_⟩
  · have e : setC (setC (setC M 32 5 0) 32 6 0) 32 7 0 = tset M (M 34) (M 35) (M 36) ((0 : Nat) : Int) ((0 : Nat) : Int) 0 := by
      conv => lhs; rw [← ts_self (M := M)]
      rw [ts_s5, ts_s6, ts_s7]
      rfl
    have w := q1 d
    rw [← e] at w
    unfold den
    rw [show ent 30 [(.inr (.inr (some 32)))] = [some (.inr (.inr (some 32))), none] from rfl]
    simp (disch := first | omega | (exact Nat.le_of_ble_eq_true rfl) | assumption | rfl) only [e30_0, e30_1, e30_2, e30_5, e30_6, e30_7, e30_10, e30_11, e30_12, e30_15, e30_16, e30_18, e30_19, e30_22, e30_25, e30_26, e30_27, e30_30, e30_31, e30_34, e30_37, e30_40, e30_41, e30_42, e30_45, e30_48, e30_49, e30_52, e30_55, e30_56, e30_59, e30_60, e30_63, e30_65, e30_68, e30_69, e30_72, pi_32_5, pi_32_6, pi_32_7, ↓reduceIte, true_and, and_true, false_and, and_false, bindS, tL0, tL1, app0, app1, eq_self, Int.reduceEq, Int.reduceLT, Int.reduceLE, Int.reduceNeg, Int.reduceToNat]
    exact w
  · have w := q3 d MQ none none none (h8.trans hn) (fun i _ => by rw [h67])
    unfold den
    rw [show ent 98 [(.inr (.inr (some 63)))] = [some (.inr (.inr (some 63))), none, none, none, none, none, none] from rfl]
    simp (disch := first | omega | (exact Nat.le_of_ble_eq_true rfl) | assumption | rfl) only [e98_0, e98_1, e98_2, e98_3, e98_4, e98_5, e98_7, e98_8, e98_11, e98_14, e98_15, e98_18, e98_19, e98_20, e98_22, e98_23, e98_24, e98_27, e98_29, e98_31, e98_33, e98_36, e98_39, e98_40, e98_42, e98_43, e98_44, e98_47, e98_48, e98_51, e98_52, e98_53, e98_56, e98_58, e98_60, e98_62, e98_65, e98_68, e98_70, e98_72, e98_75, e98_76, e98_79, e98_80, e98_82, e98_83, e98_85, e98_87, e98_90, e98_91, e98_94, e98_95, e98_96, e98_97, e98_99, e98_101, e98_104, e98_106, e98_108, e98_111, e98_113, e98_116, e98_117, e98_118, e98_121, e98_122, e98_125, e98_126, e98_128, e98_130, e98_133, e98_134, e98_137, e98_139, e98_141, e98_144, e98_145, e98_148, e98_149, e98_150, e98_153, e98_154, e98_155, e98_158, e98_160, e98_162, e98_165, e98_166, e98_168, e98_169, e98_170, e98_173, e98_175, e98_177, e98_179, e98_182, e98_184, e98_185, e98_186, e98_188, e98_191, e98_192, e98_193, e98_196, e98_199, e98_200, e98_203, e98_204, e98_205, e98_208, e98_210, e98_213, e98_214, e98_217, ↓reduceIte, true_and, and_true, false_and, and_false, bindS, tL0, tL1, app0, app1, eq_self, Int.reduceEq, Int.reduceLT, Int.reduceLE, Int.reduceNeg, Int.reduceToNat]
    exact w
theorem Same_ts {M : PM} {S F D : Nat → Int} {p a x : Int} : Same M (tset M S F D p a x) :=
  ⟨fun b hb => ts_row (by omega), ts_32 (by decide), fun j hj => by rw [ts_row (by decide)]⟩
theorem op_fault {L : Nat} {K : Int} {M : PM} (h : Inv K M) : ∃ r M1 M2, den 1999 58 [(.inr (.inr (some 1)))] (SH L) M = some (some (.inl r), SH L, M1) ∧ M1 0 = M 0 ∧ den 1999 99 [(.inr (.inr (some 63)))] (SH L) M1 = some (some (.inl r), SH L, M2) ∧ Inv K M2 := by
  have o := io_32 (L := L)
  have o63 := io_63 (L := L)
  obtain ⟨r, S, F, D, p, a, x, q1, -, q3⟩ := c_read (L := L) h.2.2.2.1
  have c1 := q1 1994
  have c2 := q3 1997 (tset M S F D p a x) (by rw [ts_row (by decide)]) (by rw [ts_row (by decide)])
  refine ⟨r, tset M S F D p a x, tset M S F D p a x, ?_, ts_row (by decide), ?_, Inv_same h Same_ts (by rw [ts_row (by decide)]; exact h.2.2.2.2.2)⟩
  · unfold den
    rw [show ent 58 [(.inr (.inr (some 1)))] = [some (.inr (.inr (some 1)))] from rfl]
    simp (disch := first | omega | (exact Nat.le_of_ble_eq_true rfl) | assumption | rfl) only [e58_0, e58_1, e58_4, e58_7, gf_1_3, c1, Nat.reduceAdd, ↓reduceIte, true_and, and_true, false_and, and_false, bindS, tL0, tL1, app0, app1, eq_self, Int.reduceEq, Int.reduceLT, Int.reduceLE, Int.reduceNeg, Int.reduceToNat]
  · unfold den
    rw [show ent 99 [(.inr (.inr (some 63)))] = [some (.inr (.inr (some 63)))] from rfl]
    simp (disch := first | omega | (exact Nat.le_of_ble_eq_true rfl) | assumption | rfl) only [e99_0, e99_1, e99_4, c2, Nat.reduceAdd, ↓reduceIte, true_and, and_true, false_and, and_false, bindS, tL0, tL1, app0, app1, eq_self, Int.reduceEq, Int.reduceLT, Int.reduceLE, Int.reduceNeg, Int.reduceToNat]
/-! how many are not told; what is refused -/
theorem open_loop {L n : Nat} {MQ : PM} (d : Nat) (hn : n ≤ 60) (h8 : MQ 63 8 = (n : Int)) : ∀ (k i : Nat), i + k = n →
    ev d 100 4 [some (.inr (.inr (some 63))), some (.inl ((cnt (MQ 67) i : Nat) : Int)), some (.inl (i : Int))] [] (SH L) MQ = some (some (.inl ((cnt (MQ 67) n : Nat) : Int)), SH L, MQ) := by
  intro k
  induction k with
  | zero =>
    intro i hi
    have hi : i = n := by omega
    subst hi
    have hle : (i : Int) ≤ (i : Int) := Int.le_refl _
    rw [e100_4]
    simp (disch := first | omega | (exact Nat.le_of_ble_eq_true rfl) | assumption | rfl) only [e100_0, e100_1, e100_2, e100_3, e100_5, e100_6, e100_9, e100_12, e100_13, e100_14, e100_17, e100_18, e100_19, e100_21, e100_24, e100_25, e100_28, e100_29, e100_30, e100_31, e100_34, e100_37, e100_38, gf_63_8, h8, hle, ↓reduceIte, true_and, and_true, false_and, and_false, bindS, tL0, tL1, app0, app1, eq_self, Int.reduceEq, Int.reduceLT, Int.reduceLE, Int.reduceNeg, Int.reduceToNat]
  | succ k ih =>
    intro i hi
    have hin : ¬ (n : Int) ≤ (i : Int) := by omega
    have g := aget_in (M := MQ) (ar_67 (L := L)) (i := (i : Int)) (by omega) (by omega)
    rw [tnN] at g
    have wi := wr1 i (by omega)
    have hc : cnt (MQ 67) i ≤ i := by
      clear ih g wi hin hi
      induction i with
      | zero => exact Nat.le_refl _
      | succ i ih =>
        show cnt (MQ 67) i + (if MQ 67 i = 63 then 1 else 0) ≤ i + 1
        split <;> omega
    have w1 : wr (((cnt (MQ 67) i : Nat) : Int) + 1) = ((cnt (MQ 67) i + 1 : Nat) : Int) := wr1 _ (by omega)
    have w0 : wr (((cnt (MQ 67) i : Nat) : Int) + 0) = ((cnt (MQ 67) i : Nat) : Int) := by rw [Int.add_zero]; exact wr_id (by omega) (by omega)
    have hs := ih (i + 1) (by omega)
    have e : cnt (MQ 67) (i + 1) = cnt (MQ 67) i + (if MQ 67 i = 63 then 1 else 0) := rfl
    rw [e100_4]
    by_cases hz : MQ 67 i = 63
    · rw [if_pos hz] at e
      rw [e] at hs
      simp (disch := first | omega | (exact Nat.le_of_ble_eq_true rfl) | assumption | rfl) only [e100_0, e100_1, e100_2, e100_3, e100_5, e100_6, e100_9, e100_12, e100_13, e100_14, e100_17, e100_18, e100_19, e100_21, e100_24, e100_25, e100_28, e100_29, e100_30, e100_31, e100_34, e100_37, e100_38, gf_63_8, gf_63_9, h8, hin, g, hz, w1, wi, ↓reduceIte, true_and, and_true, false_and, and_false, bindS, tL0, tL1, app0, app1, eq_self, Int.reduceEq, Int.reduceLT, Int.reduceLE, Int.reduceNeg, Int.reduceToNat]
      exact hs
    · rw [if_neg hz] at e
      rw [e] at hs
      simp (disch := first | omega | (exact Nat.le_of_ble_eq_true rfl) | assumption | rfl) only [e100_0, e100_1, e100_2, e100_3, e100_5, e100_6, e100_9, e100_12, e100_13, e100_14, e100_17, e100_18, e100_19, e100_21, e100_24, e100_25, e100_28, e100_29, e100_30, e100_31, e100_34, e100_37, e100_38, gf_63_8, gf_63_9, h8, hin, g, hz, w0, wi, ↓reduceIte, true_and, and_true, false_and, and_false, bindS, tL0, tL1, app0, app1, eq_self, Int.reduceEq, Int.reduceLT, Int.reduceLE, Int.reduceNeg, Int.reduceToNat]
      exact hs
theorem c_opens {L n : Nat} {MQ : PM} (d : Nat) (hn : n ≤ 60) (h8 : MQ 63 8 = (n : Int)) : den d 100 [(.inr (.inr (some 63)))] (SH L) MQ = some (some (.inl ((cnt (MQ 67) n : Nat) : Int)), SH L, MQ) := by
  have h := open_loop (L := L) d hn h8 n 0 (by omega)
  unfold den
  rw [show ent 100 [(.inr (.inr (some 63)))] = [some (.inr (.inr (some 63))), none, none] from rfl]
  simp (disch := first | omega | (exact Nat.le_of_ble_eq_true rfl) | assumption | rfl) only [e100_0, e100_1, e100_2, e100_3, e100_5, e100_6, e100_9, e100_12, e100_13, e100_14, e100_17, e100_18, e100_19, e100_21, e100_24, e100_25, e100_28, e100_29, e100_30, e100_31, e100_34, e100_37, e100_38, ↓reduceIte, true_and, and_true, false_and, and_false, bindS, tL0, tL1, app0, app1, eq_self, Int.reduceEq, Int.reduceLT, Int.reduceLE, Int.reduceNeg, Int.reduceToNat]
  exact h
theorem g32_6 {d L : Nat} {M : PM} : den d 27 [(.inr (.inr (some 32)))] (SH L) M = some (some (.inl (M 32 6)), SH L, M) := by
  unfold den
  rw [show ent 27 [(.inr (.inr (some 32)))] = [some (.inr (.inr (some 32)))] from rfl]
  simp only [e27_0, e27_1, e27_4, gf_32_6, bindS]
theorem c_refuse {d L : Nat} {M : PM} {S F D : Nat → Int} {p a x r : Int} (h : den (d + 4) 30 [(.inr (.inr (some 32)))] (SH L) M = some (some (.inl r), SH L, tset M S F D p a x)) : den (d + 5) 79 [(.inr (.inr (some 1)))] (SH L) M = some (some (.inl (if r = -6 then if 0 < a then -3 else 0 else -5)), SH L, tset M S F D p a x) := by
  have o := io_32 (L := L)
  have g := g32_6 (d := d + 4) (L := L) (M := tset M S F D p a x)
  rw [ts_6] at g
  unfold den
  rw [show ent 79 [(.inr (.inr (some 1)))] = [some (.inr (.inr (some 1)))] from rfl]
  by_cases hr : r = -6
  · by_cases ha : a ≤ 0
    · have ha2 : ¬ 0 < a := by omega
      simp (disch := first | omega | (exact Nat.le_of_ble_eq_true rfl) | assumption | rfl) only [e79_0, e79_1, e79_4, e79_7, e79_9, e79_12, e79_14, e79_15, e79_16, e79_19, e79_22, e79_25, e79_27, e79_30, e79_31, gf_1_3, h, hr, g, ha, ha2, ↓reduceIte, true_and, and_true, false_and, and_false, bindS, tL0, tL1, app0, app1, eq_self, Int.reduceEq, Int.reduceLT, Int.reduceLE, Int.reduceNeg, Int.reduceToNat]
    · have ha2 : 0 < a := by omega
      simp (disch := first | omega | (exact Nat.le_of_ble_eq_true rfl) | assumption | rfl) only [e79_0, e79_1, e79_4, e79_7, e79_9, e79_12, e79_14, e79_15, e79_16, e79_19, e79_22, e79_25, e79_27, e79_30, e79_31, gf_1_3, h, hr, g, ha, ha2, ↓reduceIte, true_and, and_true, false_and, and_false, bindS, tL0, tL1, app0, app1, eq_self, Int.reduceEq, Int.reduceLT, Int.reduceLE, Int.reduceNeg, Int.reduceToNat]
  · simp (disch := first | omega | (exact Nat.le_of_ble_eq_true rfl) | assumption | rfl) only [e79_0, e79_1, e79_4, e79_7, e79_9, e79_12, e79_14, e79_15, e79_16, e79_19, e79_22, e79_25, e79_27, e79_30, e79_31, gf_1_3, h, hr, ↓reduceIte, true_and, and_true, false_and, and_false, bindS, tL0, tL1, app0, app1, eq_self, Int.reduceEq, Int.reduceLT, Int.reduceLE, Int.reduceNeg, Int.reduceToNat]
