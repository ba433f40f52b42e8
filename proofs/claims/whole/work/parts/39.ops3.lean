/-! drop, forget, told, seen, saying -/
theorem op_drop {L : Nat} {K : Int} {M : PM} (h : Inv K M) : ∃ r M1 M2, den 1999 66 [(.inr (.inr (some 1)))] (SH L) M = some (some (.inl r), SH L, M1) ∧ M1 0 = M 0 ∧ den 1999 116 [(.inr (.inr (some 63)))] (SH L) M1 = some (some (.inl r), SH L, M2) ∧ Inv K M2 := by
  obtain ⟨⟨⟨a1, a2, a3, a4, a5, a6, a7, a8⟩, ⟨b1, b2, b3, b4, b5, b6⟩⟩, h2, h3, ht, h5, h6⟩ := id h
  have o := io_5 (L := L)
  refine ⟨M 63 4, setC M 5 3 0, setC (setC M 5 3 0) 63 4 0, ?_, setC_row (by decide), ?_, ?_⟩
  · have e : den 1998 23 [(.inr (.inr (some 5)))] (SH L) M = some (some (.inl (M 5 3)), SH L, setC M 5 3 0) := by
      unfold den
      rw [show ent 23 [(.inr (.inr (some 5)))] = [some (.inr (.inr (some 5))), none] from rfl]
      simp only [e23_0, e23_1, e23_4, e23_5, e23_6, e23_7, e23_10, e23_11, gf_5_3, pi_5_3, bindS]
    unfold den
    rw [show ent 66 [(.inr (.inr (some 1)))] = [some (.inr (.inr (some 1)))] from rfl]
    simp (disch := first | omega | (exact Nat.le_of_ble_eq_true rfl) | assumption | rfl) only [e66_0, e66_1, e66_4, e66_7, e66_10, gf_1_0, gf_2_1, e, bindS, tL0, tL1, app0, app1, if_true, if_false, eq_self, Int.reduceEq, Int.reduceLT, Int.reduceLE, Int.reduceNeg, Int.reduceToNat, b5]
  · unfold den
    rw [show ent 116 [(.inr (.inr (some 63)))] = [some (.inr (.inr (some 63))), none] from rfl]
    simp only [e116_0, e116_1, e116_4, e116_5, e116_6, e116_7, e116_10, e116_11, gf_63_4, pi_63_4, bindS]
    rw [show setC M 5 3 0 63 = M 63 from setC_row (by decide)]
  · have s : ∀ a, a ≠ 5 → a ≠ 63 → setC (setC M 5 3 0) 63 4 0 a = M a := fun a x y => by rw [setC_row y, setC_row x]
    have s3 : ∀ j, j ≠ 4 → setC (setC M 5 3 0) 63 4 0 63 j = M 63 j := fun j x => by rw [setC_i x, setC_row (by decide)]
    have s0 : setC (setC M 5 3 0) 63 4 0 63 4 = 0 := setC_s
    have t0 : setC (setC M 5 3 0) 63 4 0 5 3 = 0 := by rw [setC_row (by decide), setC_s]
    refine ⟨?_, Img0_same h2 (fun a ha => s a (by omega) (by omega)), Img1_same h3 (fun a ha => s a (by omega) (by omega)), TxtI_same ht (fun a ha => s a (by omega) (by omega)) (by rw [s 32 (by decide) (by decide)]) (s3 8 (by decide)), ?_, ?_⟩
    · generalize hM : setC (setC M 5 3 0) 63 4 0 = M' at s s3 s0 t0
      unfold NowI SV CS at *
      simp (disch := decide) only [s, s3, s0, t0, Nat.reduceAdd]
      exact ⟨⟨a1, a2, a3, a4, by decide, a6, fun i hi => by omega, a8⟩, b1, b2, b3, b4, trivial, b6⟩
    · rw [s 41 (by decide) (by decide)]; exact h5
    · rw [s3 12 (by decide)]; exact h6
theorem op_forget {L : Nat} {K : Int} {M : PM} (h : Inv K M) : ∃ r M1 M2, den 1999 72 [(.inr (.inr (some 1)))] (SH L) M = some (some (.inl r), SH L, M1) ∧ M1 0 = M 0 ∧ den 1999 127 [(.inr (.inr (some 63)))] (SH L) M1 = some (some (.inl r), SH L, M2) ∧ Inv K M2 := by
  obtain ⟨⟨⟨a1, a2, a3, a4, a5, a6, a7, a8⟩, ⟨b1, b2, b3, b4, b5, b6, b7⟩⟩, h2, h3, ht, h5, h6⟩ := id h
  have o := io_9 (L := L)
  refine ⟨M 63 6, setC M 9 2 0, setC (setC M 9 2 0) 63 6 0, ?_, setC_row (by decide), ?_, ?_⟩
  · have e : den 1998 13 [(.inr (.inr (some 9)))] (SH L) M = some (some (.inl (M 9 2)), SH L, setC M 9 2 0) := by
      unfold den
      rw [show ent 13 [(.inr (.inr (some 9)))] = [some (.inr (.inr (some 9))), none] from rfl]
      simp only [e13_0, e13_1, e13_4, e13_5, e13_6, e13_7, e13_10, e13_11, gf_9_2, pi_9_2, bindS]
    unfold den
    rw [show ent 72 [(.inr (.inr (some 1)))] = [some (.inr (.inr (some 1)))] from rfl]
    simp (disch := first | omega | (exact Nat.le_of_ble_eq_true rfl) | assumption | rfl) only [e72_0, e72_1, e72_4, e72_7, e72_10, gf_1_0, gf_2_2, e, bindS, tL0, tL1, app0, app1, if_true, if_false, eq_self, Int.reduceEq, Int.reduceLT, Int.reduceLE, Int.reduceNeg, Int.reduceToNat, b6]
  · unfold den
    rw [show ent 127 [(.inr (.inr (some 63)))] = [some (.inr (.inr (some 63))), none] from rfl]
    simp only [e127_0, e127_1, e127_4, e127_5, e127_6, e127_7, e127_10, e127_11, gf_63_6, pi_63_6, bindS]
    rw [show setC M 9 2 0 63 = M 63 from setC_row (by decide)]
  · have s : ∀ a, a ≠ 9 → a ≠ 63 → setC (setC M 9 2 0) 63 6 0 a = M a := fun a x y => by rw [setC_row y, setC_row x]
    have s3 : ∀ j, j ≠ 6 → setC (setC M 9 2 0) 63 6 0 63 j = M 63 j := fun j x => by rw [setC_i x, setC_row (by decide)]
    have s0 : setC (setC M 9 2 0) 63 6 0 63 6 = 0 := setC_s
    have t0 : setC (setC M 9 2 0) 63 6 0 9 2 = 0 := by rw [setC_row (by decide), setC_s]
    refine ⟨?_, Img0_same h2 (fun a ha => s a (by omega) (by omega)), Img1_same h3 (fun a ha => s a (by omega) (by omega)), TxtI_same ht (fun a ha => s a (by omega) (by omega)) (by rw [s 32 (by decide) (by decide)]) (s3 8 (by decide)), ?_, ?_⟩
    · generalize hM : setC (setC M 9 2 0) 63 6 0 = M' at s s3 s0 t0
      unfold NowI SV CS at *
      simp (disch := decide) only [s, s3, s0, t0, Nat.reduceAdd]
      exact ⟨⟨a1, a2, a3, a4, a5, by decide, a7, fun i hi => by omega⟩, b1, b2, b3, b4, b5, trivial, b7⟩
    · rw [s 41 (by decide) (by decide)]; exact h5
    · rw [s3 12 (by decide)]; exact h6
theorem g5_3 {d L : Nat} {M : PM} : den d 17 [(.inr (.inr (some 5)))] (SH L) M = some (some (.inl (M 5 3)), SH L, M) := by
  unfold den
  rw [show ent 17 [(.inr (.inr (some 5)))] = [some (.inr (.inr (some 5)))] from rfl]
  simp only [e17_0, e17_1, e17_4, gf_5_3, bindS]
theorem g9_2 {d L : Nat} {M : PM} : den d 11 [(.inr (.inr (some 9)))] (SH L) M = some (some (.inl (M 9 2)), SH L, M) := by
  unfold den
  rw [show ent 11 [(.inr (.inr (some 9)))] = [some (.inr (.inr (some 9)))] from rfl]
  simp only [e11_0, e11_1, e11_4, gf_9_2, bindS]
theorem g32_1 {d L : Nat} {M : PM} : den d 26 [(.inr (.inr (some 32)))] (SH L) M = some (some (.inl (M 32 1)), SH L, M) := by
  unfold den
  rw [show ent 26 [(.inr (.inr (some 32)))] = [some (.inr (.inr (some 32)))] from rfl]
  simp only [e26_0, e26_1, e26_4, gf_32_1, bindS]
theorem op_told {L : Nat} {K : Int} {M : PM} (h : Inv K M) (hK : K ≤ 100000000) (w : Int) : ∃ r M1 M2, den 1999 78 [(.inr (.inr (some 1))), .inl w] (SH L) M = some (some (.inl r), SH L, M1) ∧ M1 0 = M 0 ∧ den 1999 133 [(.inr (.inr (some 63))), .inl w] (SH L) M1 = some (some (.inl r), SH L, M2) ∧ Inv K M2 := by
  obtain ⟨⟨⟨a1, a2, a3, a4, a5, a6, a7, a8⟩, ⟨b1, b2, b3, b4, b5, b6, b7⟩⟩, h2, h3, ht, h5, h6⟩ := id h
  have o1 := io_32 (L := L)
  have o2 := io_3 (L := L)
  have o3 := io_5 (L := L)
  have o4 := io_9 (L := L)
  have c1 : ∀ M : PM, den 1998 38 [(.inr (.inr (some 3)))] (SH L) M = some (some (.inl (M 3 1)), SH L, M) := fun M => c_time vl_3
  have c2 : ∀ M : PM, den 1998 39 [(.inr (.inr (some 3)))] (SH L) M = some (some (.inl (M 3 2)), SH L, M) := fun M => c_bound vl_3
  have c3 : ∀ M : PM, den 1998 40 [(.inr (.inr (some 3)))] (SH L) M = some (some (.inl (M 3 3)), SH L, M) := fun M => c_fire vl_3
  have key : ∀ r : Int, den 1999 78 [(.inr (.inr (some 1))), .inl w] (SH L) M = some (some (.inl r), SH L, M) → den 1999 133 [(.inr (.inr (some 63))), .inl w] (SH L) M = some (some (.inl r), SH L, M) → ∃ r M1 M2, den 1999 78 [(.inr (.inr (some 1))), .inl w] (SH L) M = some (some (.inl r), SH L, M1) ∧ M1 0 = M 0 ∧ den 1999 133 [(.inr (.inr (some 63))), .inl w] (SH L) M1 = some (some (.inl r), SH L, M2) ∧ Inv K M2 := fun r x y => ⟨r, M, M, x, rfl, y, h⟩
  by_cases w0 : w = 0
  · subst w0
    refine key (M 63 8) ?_ ?_
    · unfold den
      rw [show ent 78 [(.inr (.inr (some 1))), .inl 0] = [some (.inr (.inr (some 1))), some (.inl 0)] from rfl]
      simp (disch := first | omega | (exact Nat.le_of_ble_eq_true rfl) | assumption | rfl) only [e78_0, e78_1, e78_40, e78_41, e78_44, e78_47, e78_48, e78_49, e78_52, e78_55, e78_58, e78_59, e78_60, e78_63, e78_66, e78_69, e78_70, e78_71, e78_74, e78_77, e78_80, e78_81, e78_82, e78_85, e78_88, e78_91, e78_92, e78_93, e78_96, e78_99, e78_102, e78_103, e78_104, e78_106, e78_108, e78_111, e78_114, e78_115, e78_118, e78_121, e78_122, e78_124, e78_125, e78_128, e78_131, e78_132, e78_135, e78_137, gf_1_3, g32_1, bindS, tL0, tL1, app0, app1, if_true, if_false, eq_self, Int.reduceEq, Int.reduceLT, Int.reduceLE, Int.reduceNeg, Int.reduceToNat, ht.2.1]
    · unfold den
      rw [show ent 133 [(.inr (.inr (some 63))), .inl 0] = [some (.inr (.inr (some 63))), some (.inl 0)] from rfl]
      simp (disch := first | omega | (exact Nat.le_of_ble_eq_true rfl) | assumption | rfl) only [e133_0, e133_1, e133_3, e133_5, e133_8, e133_11, e133_12, e133_15, e133_16, e133_18, e133_19, e133_20, e133_23, e133_24, e133_25, e133_26, e133_60, e133_61, e133_64, e133_65, e133_66, e133_69, e133_70, e133_71, e133_74, e133_75, e133_76, e133_79, e133_80, e133_81, e133_84, e133_85, e133_86, e133_87, e133_90, e133_91, e133_94, e133_97, e133_99, c_in, gf_63_8, bindS, tL0, tL1, app0, app1, if_true, if_false, eq_self, Int.reduceEq, Int.reduceLT, Int.reduceLE, Int.reduceNeg, Int.reduceToNat, false_and, and_false]
  by_cases w1 : w = 1
  · subst w1
    refine key (M 63 2) ?_ ?_
    · unfold den
      rw [show ent 78 [(.inr (.inr (some 1))), .inl 1] = [some (.inr (.inr (some 1))), some (.inl 1)] from rfl]
      simp (disch := first | omega | (exact Nat.le_of_ble_eq_true rfl) | assumption | rfl) only [e78_0, e78_1, e78_40, e78_41, e78_44, e78_47, e78_48, e78_49, e78_52, e78_55, e78_58, e78_59, e78_60, e78_63, e78_66, e78_69, e78_70, e78_71, e78_74, e78_77, e78_80, e78_81, e78_82, e78_85, e78_88, e78_91, e78_92, e78_93, e78_96, e78_99, e78_102, e78_103, e78_104, e78_106, e78_108, e78_111, e78_114, e78_115, e78_118, e78_121, e78_122, e78_124, e78_125, e78_128, e78_131, e78_132, e78_135, e78_137, gf_1_0, gf_2_0, c1, bindS, tL0, tL1, app0, app1, if_true, if_false, eq_self, Int.reduceEq, Int.reduceLT, Int.reduceLE, Int.reduceNeg, Int.reduceToNat, b4]
    · unfold den
      rw [show ent 133 [(.inr (.inr (some 63))), .inl 1] = [some (.inr (.inr (some 63))), some (.inl 1)] from rfl]
      simp (disch := first | omega | (exact Nat.le_of_ble_eq_true rfl) | assumption | rfl) only [e133_0, e133_1, e133_3, e133_5, e133_8, e133_11, e133_12, e133_15, e133_16, e133_18, e133_19, e133_20, e133_23, e133_24, e133_25, e133_26, e133_60, e133_61, e133_64, e133_65, e133_66, e133_69, e133_70, e133_71, e133_74, e133_75, e133_76, e133_79, e133_80, e133_81, e133_84, e133_85, e133_86, e133_87, e133_90, e133_91, e133_94, e133_97, e133_99, c_in, gf_63_2, bindS, tL0, tL1, app0, app1, if_true, if_false, eq_self, Int.reduceEq, Int.reduceLT, Int.reduceLE, Int.reduceNeg, Int.reduceToNat, false_and, and_false]
  by_cases w2 : w = 2
  · subst w2
    refine key (M 63 0) ?_ ?_
    · unfold den
      rw [show ent 78 [(.inr (.inr (some 1))), .inl 2] = [some (.inr (.inr (some 1))), some (.inl 2)] from rfl]
      simp (disch := first | omega | (exact Nat.le_of_ble_eq_true rfl) | assumption | rfl) only [e78_0, e78_1, e78_40, e78_41, e78_44, e78_47, e78_48, e78_49, e78_52, e78_55, e78_58, e78_59, e78_60, e78_63, e78_66, e78_69, e78_70, e78_71, e78_74, e78_77, e78_80, e78_81, e78_82, e78_85, e78_88, e78_91, e78_92, e78_93, e78_96, e78_99, e78_102, e78_103, e78_104, e78_106, e78_108, e78_111, e78_114, e78_115, e78_118, e78_121, e78_122, e78_124, e78_125, e78_128, e78_131, e78_132, e78_135, e78_137, gf_1_0, gf_2_0, c2, bindS, tL0, tL1, app0, app1, if_true, if_false, eq_self, Int.reduceEq, Int.reduceLT, Int.reduceLE, Int.reduceNeg, Int.reduceToNat, b2]
    · unfold den
      rw [show ent 133 [(.inr (.inr (some 63))), .inl 2] = [some (.inr (.inr (some 63))), some (.inl 2)] from rfl]
      simp (disch := first | omega | (exact Nat.le_of_ble_eq_true rfl) | assumption | rfl) only [e133_0, e133_1, e133_3, e133_5, e133_8, e133_11, e133_12, e133_15, e133_16, e133_18, e133_19, e133_20, e133_23, e133_24, e133_25, e133_26, e133_60, e133_61, e133_64, e133_65, e133_66, e133_69, e133_70, e133_71, e133_74, e133_75, e133_76, e133_79, e133_80, e133_81, e133_84, e133_85, e133_86, e133_87, e133_90, e133_91, e133_94, e133_97, e133_99, c_in, gf_63_0, bindS, tL0, tL1, app0, app1, if_true, if_false, eq_self, Int.reduceEq, Int.reduceLT, Int.reduceLE, Int.reduceNeg, Int.reduceToNat, false_and, and_false]
  by_cases w3 : w = 3
  · subst w3
    refine key (M 63 1) ?_ ?_
    · unfold den
      rw [show ent 78 [(.inr (.inr (some 1))), .inl 3] = [some (.inr (.inr (some 1))), some (.inl 3)] from rfl]
      simp (disch := first | omega | (exact Nat.le_of_ble_eq_true rfl) | assumption | rfl) only [e78_0, e78_1, e78_40, e78_41, e78_44, e78_47, e78_48, e78_49, e78_52, e78_55, e78_58, e78_59, e78_60, e78_63, e78_66, e78_69, e78_70, e78_71, e78_74, e78_77, e78_80, e78_81, e78_82, e78_85, e78_88, e78_91, e78_92, e78_93, e78_96, e78_99, e78_102, e78_103, e78_104, e78_106, e78_108, e78_111, e78_114, e78_115, e78_118, e78_121, e78_122, e78_124, e78_125, e78_128, e78_131, e78_132, e78_135, e78_137, gf_1_0, gf_2_0, c3, bindS, tL0, tL1, app0, app1, if_true, if_false, eq_self, Int.reduceEq, Int.reduceLT, Int.reduceLE, Int.reduceNeg, Int.reduceToNat, b3]
    · unfold den
      rw [show ent 133 [(.inr (.inr (some 63))), .inl 3] = [some (.inr (.inr (some 63))), some (.inl 3)] from rfl]
      simp (disch := first | omega | (exact Nat.le_of_ble_eq_true rfl) | assumption | rfl) only [e133_0, e133_1, e133_3, e133_5, e133_8, e133_11, e133_12, e133_15, e133_16, e133_18, e133_19, e133_20, e133_23, e133_24, e133_25, e133_26, e133_60, e133_61, e133_64, e133_65, e133_66, e133_69, e133_70, e133_71, e133_74, e133_75, e133_76, e133_79, e133_80, e133_81, e133_84, e133_85, e133_86, e133_87, e133_90, e133_91, e133_94, e133_97, e133_99, c_in, gf_63_1, bindS, tL0, tL1, app0, app1, if_true, if_false, eq_self, Int.reduceEq, Int.reduceLT, Int.reduceLE, Int.reduceNeg, Int.reduceToNat, false_and, and_false]
  by_cases w4 : w = 4
  · subst w4
    refine key (M 63 4) ?_ ?_
    · unfold den
      rw [show ent 78 [(.inr (.inr (some 1))), .inl 4] = [some (.inr (.inr (some 1))), some (.inl 4)] from rfl]
      simp (disch := first | omega | (exact Nat.le_of_ble_eq_true rfl) | assumption | rfl) only [e78_0, e78_1, e78_40, e78_41, e78_44, e78_47, e78_48, e78_49, e78_52, e78_55, e78_58, e78_59, e78_60, e78_63, e78_66, e78_69, e78_70, e78_71, e78_74, e78_77, e78_80, e78_81, e78_82, e78_85, e78_88, e78_91, e78_92, e78_93, e78_96, e78_99, e78_102, e78_103, e78_104, e78_106, e78_108, e78_111, e78_114, e78_115, e78_118, e78_121, e78_122, e78_124, e78_125, e78_128, e78_131, e78_132, e78_135, e78_137, gf_1_0, gf_2_1, g5_3, bindS, tL0, tL1, app0, app1, if_true, if_false, eq_self, Int.reduceEq, Int.reduceLT, Int.reduceLE, Int.reduceNeg, Int.reduceToNat, b5]
    · unfold den
      rw [show ent 133 [(.inr (.inr (some 63))), .inl 4] = [some (.inr (.inr (some 63))), some (.inl 4)] from rfl]
      simp (disch := first | omega | (exact Nat.le_of_ble_eq_true rfl) | assumption | rfl) only [e133_0, e133_1, e133_3, e133_5, e133_8, e133_11, e133_12, e133_15, e133_16, e133_18, e133_19, e133_20, e133_23, e133_24, e133_25, e133_26, e133_60, e133_61, e133_64, e133_65, e133_66, e133_69, e133_70, e133_71, e133_74, e133_75, e133_76, e133_79, e133_80, e133_81, e133_84, e133_85, e133_86, e133_87, e133_90, e133_91, e133_94, e133_97, e133_99, c_in, gf_63_4, bindS, tL0, tL1, app0, app1, if_true, if_false, eq_self, Int.reduceEq, Int.reduceLT, Int.reduceLE, Int.reduceNeg, Int.reduceToNat, false_and, and_false]
  by_cases w5 : w = 5
  · subst w5
    refine key (M 63 6) ?_ ?_
    · unfold den
      rw [show ent 78 [(.inr (.inr (some 1))), .inl 5] = [some (.inr (.inr (some 1))), some (.inl 5)] from rfl]
      simp (disch := first | omega | (exact Nat.le_of_ble_eq_true rfl) | assumption | rfl) only [e78_0, e78_1, e78_40, e78_41, e78_44, e78_47, e78_48, e78_49, e78_52, e78_55, e78_58, e78_59, e78_60, e78_63, e78_66, e78_69, e78_70, e78_71, e78_74, e78_77, e78_80, e78_81, e78_82, e78_85, e78_88, e78_91, e78_92, e78_93, e78_96, e78_99, e78_102, e78_103, e78_104, e78_106, e78_108, e78_111, e78_114, e78_115, e78_118, e78_121, e78_122, e78_124, e78_125, e78_128, e78_131, e78_132, e78_135, e78_137, gf_1_0, gf_2_2, g9_2, bindS, tL0, tL1, app0, app1, if_true, if_false, eq_self, Int.reduceEq, Int.reduceLT, Int.reduceLE, Int.reduceNeg, Int.reduceToNat, b6]
    · unfold den
      rw [show ent 133 [(.inr (.inr (some 63))), .inl 5] = [some (.inr (.inr (some 63))), some (.inl 5)] from rfl]
      simp (disch := first | omega | (exact Nat.le_of_ble_eq_true rfl) | assumption | rfl) only [e133_0, e133_1, e133_3, e133_5, e133_8, e133_11, e133_12, e133_15, e133_16, e133_18, e133_19, e133_20, e133_23, e133_24, e133_25, e133_26, e133_60, e133_61, e133_64, e133_65, e133_66, e133_69, e133_70, e133_71, e133_74, e133_75, e133_76, e133_79, e133_80, e133_81, e133_84, e133_85, e133_86, e133_87, e133_90, e133_91, e133_94, e133_97, e133_99, c_in, gf_63_6, bindS, tL0, tL1, app0, app1, if_true, if_false, eq_self, Int.reduceEq, Int.reduceLT, Int.reduceLE, Int.reduceNeg, Int.reduceToNat, false_and, and_false]
  by_cases hr : 10 ≤ w ∧ w ≤ 15
  · have e1 : wr (w + -10) = w - 10 := by rw [wr_id (by omega) (by omega)]; omega
    have e2 : wr (w - 10) = w - 10 := wr_id (by omega) (by omega)
    have hb := a1 (w - 10).toNat (by omega)
    have e3 : M 4 (w - 10).toNat = M 64 (w - 10).toNat := b1 _ (by omega)
    have e4 : wr (M 64 (w - 10).toNat + 1000) = M 64 (w - 10).toNat + 1000 := wr_id (by omega) (by omega)
    refine key (M 64 (w - 10).toNat + 1000) ?_ ?_
    · unfold den
      rw [show ent 78 [(.inr (.inr (some 1))), .inl w] = [some (.inr (.inr (some 1))), some (.inl w)] from rfl]
      simp (disch := first | omega | (exact Nat.le_of_ble_eq_true rfl) | assumption | rfl) only [e78_0, e78_1, e78_40, e78_41, e78_44, e78_47, e78_48, e78_49, e78_52, e78_55, e78_58, e78_59, e78_60, e78_63, e78_66, e78_69, e78_70, e78_71, e78_74, e78_77, e78_80, e78_81, e78_82, e78_85, e78_88, e78_91, e78_92, e78_93, e78_96, e78_99, e78_102, e78_103, e78_104, e78_106, e78_108, e78_111, e78_114, e78_115, e78_118, e78_121, e78_122, e78_124, e78_125, e78_128, e78_131, e78_132, e78_135, e78_137, gf_1_0, gf_2_0, c_within, if_pos hr, if_neg w0, if_neg w1, if_neg w2, if_neg w3, if_neg w4, if_neg w5, e1, e2, c_glass_in vl_3 (i := w - 10), bindS, tL0, tL1, app0, app1, if_true, if_false, eq_self, Int.reduceEq, Int.reduceLT, Int.reduceLE, Int.reduceNeg, Int.reduceToNat, Nat.reduceAdd, e3, e4]
    · unfold den
      rw [show ent 133 [(.inr (.inr (some 63))), .inl w] = [some (.inr (.inr (some 63))), some (.inl w)] from rfl]
      simp (disch := first | omega | (exact Nat.le_of_ble_eq_true rfl) | assumption | rfl) only [e133_0, e133_1, e133_3, e133_5, e133_8, e133_11, e133_12, e133_15, e133_16, e133_18, e133_19, e133_20, e133_23, e133_24, e133_25, e133_26, e133_60, e133_61, e133_64, e133_65, e133_66, e133_69, e133_70, e133_71, e133_74, e133_75, e133_76, e133_79, e133_80, e133_81, e133_84, e133_85, e133_86, e133_87, e133_90, e133_91, e133_94, e133_97, e133_99, c_in, gf_63_3, if_pos hr, e1, e2, aget_in (ar_64 (L := L)), bindS, tL0, tL1, app0, app1, if_true, if_false, eq_self, Int.reduceEq, Int.reduceLT, Int.reduceLE, Int.reduceNeg, Int.reduceToNat, e4]
  · refine key (-2) ?_ ?_
    · unfold den
      rw [show ent 78 [(.inr (.inr (some 1))), .inl w] = [some (.inr (.inr (some 1))), some (.inl w)] from rfl]
      simp (disch := first | omega | (exact Nat.le_of_ble_eq_true rfl) | assumption | rfl) only [e78_0, e78_1, e78_40, e78_41, e78_44, e78_47, e78_48, e78_49, e78_52, e78_55, e78_58, e78_59, e78_60, e78_63, e78_66, e78_69, e78_70, e78_71, e78_74, e78_77, e78_80, e78_81, e78_82, e78_85, e78_88, e78_91, e78_92, e78_93, e78_96, e78_99, e78_102, e78_103, e78_104, e78_106, e78_108, e78_111, e78_114, e78_115, e78_118, e78_121, e78_122, e78_124, e78_125, e78_128, e78_131, e78_132, e78_135, e78_137, gf_1_0, gf_2_0, c_within, if_neg hr, if_neg w0, if_neg w1, if_neg w2, if_neg w3, if_neg w4, if_neg w5, bindS, tL0, tL1, app0, app1, if_true, if_false, eq_self, Int.reduceEq, Int.reduceLT, Int.reduceLE, Int.reduceNeg, Int.reduceToNat]
    · unfold den
      rw [show ent 133 [(.inr (.inr (some 63))), .inl w] = [some (.inr (.inr (some 63))), some (.inl w)] from rfl]
      simp (disch := first | omega | (exact Nat.le_of_ble_eq_true rfl) | assumption | rfl) only [e133_0, e133_1, e133_3, e133_5, e133_8, e133_11, e133_12, e133_15, e133_16, e133_18, e133_19, e133_20, e133_23, e133_24, e133_25, e133_26, e133_60, e133_61, e133_64, e133_65, e133_66, e133_69, e133_70, e133_71, e133_74, e133_75, e133_76, e133_79, e133_80, e133_81, e133_84, e133_85, e133_86, e133_87, e133_90, e133_91, e133_94, e133_97, e133_99, c_in, gf_63_3, if_neg hr, if_neg w0, if_neg w1, if_neg w2, if_neg w3, if_neg w4, if_neg w5, bindS, tL0, tL1, app0, app1, if_true, if_false, eq_self, Int.reduceEq, Int.reduceLT, Int.reduceLE, Int.reduceNeg, Int.reduceToNat]
