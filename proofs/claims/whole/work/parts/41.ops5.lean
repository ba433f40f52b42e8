/-! saying -/
theorem op_saying {L : Nat} {K : Int} {M : PM} (h : Inv K M) (p v z : Int) : ∃ r M1 M2, den 1999 65 [(.inr (.inr (some 1))), .inl p, .inl v, .inl z] (SH L) M = some (some (.inl r), SH L, M1) ∧ M1 0 = M 0 ∧ den 1999 115 [(.inr (.inr (some 63))), .inl p, .inl v, .inl z] (SH L) M1 = some (some (.inl r), SH L, M2) ∧ Inv K M2 := by
  obtain ⟨⟨⟨a1, a2, a3, a4, a5, a6, a7, a8⟩, ⟨b1, b2, b3, b4, b5, b6, b7, b8⟩⟩, h2, h3, ht, h5, h6⟩ := id h
  have o1 := io_5 (L := L)
  obtain ⟨n, hn⟩ : ∃ n : Nat, M 63 4 = (n : Int) := ⟨(M 63 4).toNat, by omega⟩
  rw [hn] at b5
  have w1 : wr ((n : Int) - 1) = (n : Int) - 1 := wr_id (by omega) (by omega)
  by_cases hp : 0 ≤ p ∧ p ≤ 5
  rotate_left
  · refine ⟨-1, M, M, ?_, rfl, ?_, h⟩
    · unfold den
      rw [show ent 65 [(.inr (.inr (some 1))), .inl p, .inl v, .inl z] = [some (.inr (.inr (some 1))), some (.inl p), some (.inl v), some (.inl z)] from rfl]
      simp (disch := first | omega | (exact Nat.le_of_ble_eq_true rfl) | assumption | rfl) only [e65_0, e65_1, e65_4, e65_7, e65_8, e65_9, e65_12, e65_13, e65_14, e65_15, e65_18, e65_21, e65_24, e65_25, e65_26, e65_29, e65_32, e65_33, e65_34, e65_35, e65_36, e65_38, e65_41, e65_44, e65_46, e65_47, e65_48, e65_51, e65_54, e65_55, e65_56, e65_57, e65_60, e65_63, e65_64, e65_67, e65_70, e65_73, e65_76, e65_78, c_person, if_neg hp, bindS, tL0, tL1, app0, app1, if_true, if_false, eq_self, Int.reduceEq, Int.reduceLT, Int.reduceLE, Int.reduceNeg, Int.reduceToNat]
    · unfold den
      rw [show ent 115 [(.inr (.inr (some 63))), .inl p, .inl v, .inl z] = [some (.inr (.inr (some 63))), some (.inl p), some (.inl v), some (.inl z)] from rfl]
      simp (disch := first | omega | (exact Nat.le_of_ble_eq_true rfl) | assumption | rfl) only [e115_0, e115_1, e115_4, e115_7, e115_8, e115_9, e115_10, e115_13, e115_14, e115_15, e115_18, e115_21, e115_22, e115_23, e115_24, e115_25, e115_27, e115_30, e115_33, e115_35, e115_36, e115_37, e115_40, e115_42, e115_45, e115_47, e115_48, e115_49, e115_52, e115_53, e115_54, e115_57, e115_58, e115_59, e115_60, e115_61, e115_64, e115_65, e115_66, e115_69, e115_70, e115_71, e115_72, e115_73, e115_74, e115_75, e115_78, e115_79, e115_80, e115_83, e115_84, e115_85, e115_86, e115_87, e115_88, e115_89i, e115_89, e115_90, e115_93, e115_94, e115_95, e115_98, e115_99, e115_102, c_mperson, if_neg hp, bindS, tL0, tL1, app0, app1, if_true, if_false, eq_self, Int.reduceEq, Int.reduceLT, Int.reduceLE, Int.reduceNeg, Int.reduceToNat]
  by_cases hz : -1 ≤ z ∧ z ≤ (n : Int) - 1
  rotate_left
  · refine ⟨-1, M, M, ?_, rfl, ?_, h⟩
    · have hz1 : ¬ z = -1 := by omega
      have hz2 : ¬ (0 ≤ z ∧ z ≤ (n : Int) - 1) := by omega
      unfold den
      rw [show ent 65 [(.inr (.inr (some 1))), .inl p, .inl v, .inl z] = [some (.inr (.inr (some 1))), some (.inl p), some (.inl v), some (.inl z)] from rfl]
      simp (disch := first | omega | (exact Nat.le_of_ble_eq_true rfl) | assumption | rfl) only [e65_0, e65_1, e65_4, e65_7, e65_8, e65_9, e65_12, e65_13, e65_14, e65_15, e65_18, e65_21, e65_24, e65_25, e65_26, e65_29, e65_32, e65_33, e65_34, e65_35, e65_36, e65_38, e65_41, e65_44, e65_46, e65_47, e65_48, e65_51, e65_54, e65_55, e65_56, e65_57, e65_60, e65_63, e65_64, e65_67, e65_70, e65_73, e65_76, e65_78, c_person, c_within, if_pos hp, if_neg hz1, gf_1_0, gf_2_1, g5_3, b5, w1, if_neg hz2, bindS, tL0, tL1, app0, app1, if_true, if_false, eq_self, Int.reduceEq, Int.reduceLT, Int.reduceLE, Int.reduceNeg, Int.reduceToNat]
    · unfold den
      rw [show ent 115 [(.inr (.inr (some 63))), .inl p, .inl v, .inl z] = [some (.inr (.inr (some 63))), some (.inl p), some (.inl v), some (.inl z)] from rfl]
      simp (disch := first | omega | (exact Nat.le_of_ble_eq_true rfl) | assumption | rfl) only [e115_0, e115_1, e115_4, e115_7, e115_8, e115_9, e115_10, e115_13, e115_14, e115_15, e115_18, e115_21, e115_22, e115_23, e115_24, e115_25, e115_27, e115_30, e115_33, e115_35, e115_36, e115_37, e115_40, e115_42, e115_45, e115_47, e115_48, e115_49, e115_52, e115_53, e115_54, e115_57, e115_58, e115_59, e115_60, e115_61, e115_64, e115_65, e115_66, e115_69, e115_70, e115_71, e115_72, e115_73, e115_74, e115_75, e115_78, e115_79, e115_80, e115_83, e115_84, e115_85, e115_86, e115_87, e115_88, e115_89i, e115_89, e115_90, e115_93, e115_94, e115_95, e115_98, e115_99, e115_102, c_mperson, c_in, if_pos hp, gf_63_4, hn, w1, if_neg hz, bindS, tL0, tL1, app0, app1, if_true, if_false, eq_self, Int.reduceEq, Int.reduceLT, Int.reduceLE, Int.reduceNeg, Int.reduceToNat]
  -- the class's test of what it stands behind
  have cz : ∀ (st : List PV), mSum st ≤ 8 → True := fun _ _ => trivial
  by_cases hv : 1 ≤ v ∧ v ≤ 99
  rotate_left
  · refine ⟨-2, M, M, ?_, rfl, ?_, h⟩
    · unfold den
      rw [show ent 65 [(.inr (.inr (some 1))), .inl p, .inl v, .inl z] = [some (.inr (.inr (some 1))), some (.inl p), some (.inl v), some (.inl z)] from rfl]
      by_cases hz1 : z = -1
      · simp (disch := first | omega | (exact Nat.le_of_ble_eq_true rfl) | assumption | rfl) only [e65_0, e65_1, e65_4, e65_7, e65_8, e65_9, e65_12, e65_13, e65_14, e65_15, e65_18, e65_21, e65_24, e65_25, e65_26, e65_29, e65_32, e65_33, e65_34, e65_35, e65_36, e65_38, e65_41, e65_44, e65_46, e65_47, e65_48, e65_51, e65_54, e65_55, e65_56, e65_57, e65_60, e65_63, e65_64, e65_67, e65_70, e65_73, e65_76, e65_78, c_person, c_within, if_pos hp, if_pos hz1, if_neg hv, bindS, tL0, tL1, app0, app1, if_true, if_false, eq_self, Int.reduceEq, Int.reduceLT, Int.reduceLE, Int.reduceNeg, Int.reduceToNat]
      · have hz2 : 0 ≤ z ∧ z ≤ (n : Int) - 1 := by omega
        simp (disch := first | omega | (exact Nat.le_of_ble_eq_true rfl) | assumption | rfl) only [e65_0, e65_1, e65_4, e65_7, e65_8, e65_9, e65_12, e65_13, e65_14, e65_15, e65_18, e65_21, e65_24, e65_25, e65_26, e65_29, e65_32, e65_33, e65_34, e65_35, e65_36, e65_38, e65_41, e65_44, e65_46, e65_47, e65_48, e65_51, e65_54, e65_55, e65_56, e65_57, e65_60, e65_63, e65_64, e65_67, e65_70, e65_73, e65_76, e65_78, c_person, c_within, if_pos hp, if_neg hz1, gf_1_0, gf_2_1, g5_3, b5, w1, if_pos hz2, if_neg hv, bindS, tL0, tL1, app0, app1, if_true, if_false, eq_self, Int.reduceEq, Int.reduceLT, Int.reduceLE, Int.reduceNeg, Int.reduceToNat]
    · unfold den
      rw [show ent 115 [(.inr (.inr (some 63))), .inl p, .inl v, .inl z] = [some (.inr (.inr (some 63))), some (.inl p), some (.inl v), some (.inl z)] from rfl]
      simp (disch := first | omega | (exact Nat.le_of_ble_eq_true rfl) | assumption | rfl) only [e115_0, e115_1, e115_4, e115_7, e115_8, e115_9, e115_10, e115_13, e115_14, e115_15, e115_18, e115_21, e115_22, e115_23, e115_24, e115_25, e115_27, e115_30, e115_33, e115_35, e115_36, e115_37, e115_40, e115_42, e115_45, e115_47, e115_48, e115_49, e115_52, e115_53, e115_54, e115_57, e115_58, e115_59, e115_60, e115_61, e115_64, e115_65, e115_66, e115_69, e115_70, e115_71, e115_72, e115_73, e115_74, e115_75, e115_78, e115_79, e115_80, e115_83, e115_84, e115_85, e115_86, e115_87, e115_88, e115_89i, e115_89, e115_90, e115_93, e115_94, e115_95, e115_98, e115_99, e115_102, c_mperson, c_in, if_pos hp, gf_63_4, hn, w1, if_pos hz, if_neg hv, bindS, tL0, tL1, app0, app1, if_true, if_false, eq_self, Int.reduceEq, Int.reduceLT, Int.reduceLE, Int.reduceNeg, Int.reduceToNat]
  by_cases h7f : n = 7
  · subst h7f
    refine ⟨-4, M, M, ?_, rfl, ?_, h⟩
    · have e : den 1998 22 [(.inr (.inr (some 5))), .inl p, .inl v, .inl z] (SH L) M = some (some (.inl 0), SH L, M) := by
        unfold den
        rw [show ent 22 [(.inr (.inr (some 5))), .inl p, .inl v, .inl z] = [some (.inr (.inr (some 5))), some (.inl p), some (.inl v), some (.inl z)] from rfl]
        simp (disch := first | omega | (exact Nat.le_of_ble_eq_true rfl) | assumption | rfl) only [e22_0, e22_1, e22_4, e22_6, e22_9, e22_10z, e22_10o, e22_10, e22_11, e22_12, e22_15, e22_16, e22_19, e22_20, e22_23, e22_24, e22_27, e22_28, e22_31, e22_32, e22_35, e22_36, e22_39, e22_40, e22_43, e22_44, e22_47, e22_48i, e22_48, e22_49, e22_52, e22_53, e22_54, e22_57, e22_58z, e22_58o, e22_58, gf_5_3, b5, bindS, tL0, tL1, app0, app1, if_true, if_false, eq_self, Int.reduceEq, Int.reduceLT, Int.reduceLE, Int.reduceNeg, Int.reduceToNat]
        rw [if_neg (by decide)]
      unfold den
      rw [show ent 65 [(.inr (.inr (some 1))), .inl p, .inl v, .inl z] = [some (.inr (.inr (some 1))), some (.inl p), some (.inl v), some (.inl z)] from rfl]
      by_cases hz1 : z = -1
      · simp (disch := first | omega | (exact Nat.le_of_ble_eq_true rfl) | assumption | rfl) only [e65_0, e65_1, e65_4, e65_7, e65_8, e65_9, e65_12, e65_13, e65_14, e65_15, e65_18, e65_21, e65_24, e65_25, e65_26, e65_29, e65_32, e65_33, e65_34, e65_35, e65_36, e65_38, e65_41, e65_44, e65_46, e65_47, e65_48, e65_51, e65_54, e65_55, e65_56, e65_57, e65_60, e65_63, e65_64, e65_67, e65_70, e65_73, e65_76, e65_78, c_person, c_within, if_pos hp, if_pos hz1, if_pos hv, gf_1_0, gf_2_1, e, bindS, tL0, tL1, app0, app1, if_true, if_false, eq_self, Int.reduceEq, Int.reduceLT, Int.reduceLE, Int.reduceNeg, Int.reduceToNat]
      · have hz2 : 0 ≤ z ∧ z ≤ ((7 : Nat) : Int) - 1 := by omega
        simp (disch := first | omega | (exact Nat.le_of_ble_eq_true rfl) | assumption | rfl) only [e65_0, e65_1, e65_4, e65_7, e65_8, e65_9, e65_12, e65_13, e65_14, e65_15, e65_18, e65_21, e65_24, e65_25, e65_26, e65_29, e65_32, e65_33, e65_34, e65_35, e65_36, e65_38, e65_41, e65_44, e65_46, e65_47, e65_48, e65_51, e65_54, e65_55, e65_56, e65_57, e65_60, e65_63, e65_64, e65_67, e65_70, e65_73, e65_76, e65_78, c_person, c_within, if_pos hp, if_neg hz1, gf_1_0, gf_2_1, g5_3, b5, w1, if_pos hz2, if_pos hv, e, bindS, tL0, tL1, app0, app1, if_true, if_false, eq_self, Int.reduceEq, Int.reduceLT, Int.reduceLE, Int.reduceNeg, Int.reduceToNat]
    · unfold den
      rw [show ent 115 [(.inr (.inr (some 63))), .inl p, .inl v, .inl z] = [some (.inr (.inr (some 63))), some (.inl p), some (.inl v), some (.inl z)] from rfl]
      simp (disch := first | omega | (exact Nat.le_of_ble_eq_true rfl) | assumption | rfl) only [e115_0, e115_1, e115_4, e115_7, e115_8, e115_9, e115_10, e115_13, e115_14, e115_15, e115_18, e115_21, e115_22, e115_23, e115_24, e115_25, e115_27, e115_30, e115_33, e115_35, e115_36, e115_37, e115_40, e115_42, e115_45, e115_47, e115_48, e115_49, e115_52, e115_53, e115_54, e115_57, e115_58, e115_59, e115_60, e115_61, e115_64, e115_65, e115_66, e115_69, e115_70, e115_71, e115_72, e115_73, e115_74, e115_75, e115_78, e115_79, e115_80, e115_83, e115_84, e115_85, e115_86, e115_87, e115_88, e115_89i, e115_89, e115_90, e115_93, e115_94, e115_95, e115_98, e115_99, e115_102, c_mperson, c_in, if_pos hp, if_pos hz, if_pos hv, gf_63_4, hn, w1, bindS, tL0, tL1, app0, app1, if_true, if_false, eq_self, Int.reduceEq, Int.reduceLT, Int.reduceLE, Int.reduceNeg, Int.reduceToNat]
      rw [if_pos (by decide)]
  · have hn7 : n < 7 := by omega
    have hnn : ¬ (n : Int) = 7 := by omega
    have e1 : wr ((n : Int) + 1) = (n : Int) + 1 := wr_id (by omega) (by omega)
    have e2 : wr (3 * (n : Int)) = 3 * (n : Int) := wr_id (by omega) (by omega)
    have e3 : wr (3 * (n : Int) + 1) = 3 * (n : Int) + 1 := wr_id (by omega) (by omega)
    have e4 : wr (3 * (n : Int) + 2) = 3 * (n : Int) + 2 := wr_id (by omega) (by omega)
    have t1 : (3 * (n : Int)).toNat = 3 * n := by omega
    have t2 : (3 * (n : Int) + 1).toNat = 3 * n + 1 := by omega
    have t3 : (3 * (n : Int) + 2).toNat = 3 * n + 2 := by omega
    generalize hM1 : setC (setC (setC (setC M 6 n p) 7 n v) 8 n z) 5 3 ((n : Int) + 1) = M1
    generalize hM2 : setC (setC (setC (setC M1 65 (3 * n) p) 65 (3 * n + 1) v) 65 (3 * n + 2) z) 63 4 ((n : Int) + 1) = M2
    have r1 : ∀ a, a ≠ 5 → a ≠ 6 → a ≠ 7 → a ≠ 8 → M1 a = M a := fun a x1 x2 x3 x4 => by rw [← hM1, setC_row x1, setC_row x4, setC_row x3, setC_row x2]
    refine ⟨(n : Int) + 1, M1, M2, ?_, r1 0 (by decide) (by decide) (by decide) (by decide), ?_, ?_⟩
    · have e : den 1998 22 [(.inr (.inr (some 5))), .inl p, .inl v, .inl z] (SH L) M = some (some (.inl 1), SH L, M1) := by
        have c1 : setC M 6 n p 5 3 = (n : Int) := by rw [setC_row (by decide)]; exact b5
        have c2 : setC (setC M 6 n p) 7 n v 5 3 = (n : Int) := by rw [setC_row (by decide)]; exact c1
        have c3 : setC (setC (setC M 6 n p) 7 n v) 8 n z 5 3 = (n : Int) := by rw [setC_row (by decide)]; exact c2
        unfold den
        rw [show ent 22 [(.inr (.inr (some 5))), .inl p, .inl v, .inl z] = [some (.inr (.inr (some 5))), some (.inl p), some (.inl v), some (.inl z)] from rfl]
        simp (disch := first | omega | (exact Nat.le_of_ble_eq_true rfl) | assumption | rfl) only [e22_0, e22_1, e22_4, e22_6, e22_9, e22_10z, e22_10o, e22_10, e22_11, e22_12, e22_15, e22_16, e22_19, e22_20, e22_23, e22_24, e22_27, e22_28, e22_31, e22_32, e22_35, e22_36, e22_39, e22_40, e22_43, e22_44, e22_47, e22_48i, e22_48, e22_49, e22_52, e22_53, e22_54, e22_57, e22_58z, e22_58o, e22_58, gf_5_3, b5, bindS, tL0, tL1, app0, app1, if_true, if_false, eq_self, Int.reduceEq, Int.reduceLT, Int.reduceLE, Int.reduceNeg, Int.reduceToNat]
        rw [if_pos (by omega)]
        simp (disch := first | omega | (exact Nat.le_of_ble_eq_true rfl) | assumption | rfl) only [e22_0, e22_1, e22_4, e22_6, e22_9, e22_10z, e22_10o, e22_10, e22_11, e22_12, e22_15, e22_16, e22_19, e22_20, e22_23, e22_24, e22_27, e22_28, e22_31, e22_32, e22_35, e22_36, e22_39, e22_40, e22_43, e22_44, e22_47, e22_48i, e22_48, e22_49, e22_52, e22_53, e22_54, e22_57, e22_58z, e22_58o, e22_58, gf_5_0, gf_5_1, gf_5_2, gf_5_3, b5, c_put_in (ar_6 (L := L)), c_put_in (ar_7 (L := L)), c_put_in (ar_8 (L := L)), bindS, tL0, tL1, app0, app1, if_true, if_false, eq_self, Int.reduceEq, Int.reduceLT, Int.reduceLE, Int.reduceNeg, Int.reduceToNat, tnN, c1, c2, c3, pi_5_3, e1, hM1]
      have c0 : M1 5 3 = (n : Int) + 1 := by rw [← hM1]; exact setC_s
      unfold den
      rw [show ent 65 [(.inr (.inr (some 1))), .inl p, .inl v, .inl z] = [some (.inr (.inr (some 1))), some (.inl p), some (.inl v), some (.inl z)] from rfl]
      by_cases hz1 : z = -1
      · simp (disch := first | omega | (exact Nat.le_of_ble_eq_true rfl) | assumption | rfl) only [e65_0, e65_1, e65_4, e65_7, e65_8, e65_9, e65_12, e65_13, e65_14, e65_15, e65_18, e65_21, e65_24, e65_25, e65_26, e65_29, e65_32, e65_33, e65_34, e65_35, e65_36, e65_38, e65_41, e65_44, e65_46, e65_47, e65_48, e65_51, e65_54, e65_55, e65_56, e65_57, e65_60, e65_63, e65_64, e65_67, e65_70, e65_73, e65_76, e65_78, c_person, c_within, if_pos hp, if_pos hz1, if_pos hv, gf_1_0, gf_2_1, e, bindS, tL0, tL1, app0, app1, if_true, if_false, eq_self, Int.reduceEq, Int.reduceLT, Int.reduceLE, Int.reduceNeg, Int.reduceToNat, g5_3, c0]
      · have hz2 : 0 ≤ z ∧ z ≤ (n : Int) - 1 := by omega
        simp (disch := first | omega | (exact Nat.le_of_ble_eq_true rfl) | assumption | rfl) only [e65_0, e65_1, e65_4, e65_7, e65_8, e65_9, e65_12, e65_13, e65_14, e65_15, e65_18, e65_21, e65_24, e65_25, e65_26, e65_29, e65_32, e65_33, e65_34, e65_35, e65_36, e65_38, e65_41, e65_44, e65_46, e65_47, e65_48, e65_51, e65_54, e65_55, e65_56, e65_57, e65_60, e65_63, e65_64, e65_67, e65_70, e65_73, e65_76, e65_78, c_person, c_within, if_pos hp, if_neg hz1, gf_1_0, gf_2_1, g5_3, b5, w1, if_pos hz2, if_pos hv, e, bindS, tL0, tL1, app0, app1, if_true, if_false, eq_self, Int.reduceEq, Int.reduceLT, Int.reduceLE, Int.reduceNeg, Int.reduceToNat, c0]
    · have c1 : M1 63 4 = (n : Int) := by rw [r1 63 (by decide) (by decide) (by decide) (by decide)]; exact hn
      have c2 : setC M1 65 (3 * n) p 63 4 = (n : Int) := by rw [setC_row (by decide)]; exact c1
      have c3 : setC (setC M1 65 (3 * n) p) 65 (3 * n + 1) v 63 4 = (n : Int) := by rw [setC_row (by decide)]; exact c2
      have c4 : setC (setC (setC M1 65 (3 * n) p) 65 (3 * n + 1) v) 65 (3 * n + 2) z 63 4 = (n : Int) := by rw [setC_row (by decide)]; exact c3
      have c5 : M2 63 4 = (n : Int) + 1 := by rw [← hM2]; exact setC_s
      unfold den
      rw [show ent 115 [(.inr (.inr (some 63))), .inl p, .inl v, .inl z] = [some (.inr (.inr (some 63))), some (.inl p), some (.inl v), some (.inl z)] from rfl]
      simp (disch := first | omega | (exact Nat.le_of_ble_eq_true rfl) | assumption | rfl) only [e115_0, e115_1, e115_4, e115_7, e115_8, e115_9, e115_10, e115_13, e115_14, e115_15, e115_18, e115_21, e115_22, e115_23, e115_24, e115_25, e115_27, e115_30, e115_33, e115_35, e115_36, e115_37, e115_40, e115_42, e115_45, e115_47, e115_48, e115_49, e115_52, e115_53, e115_54, e115_57, e115_58, e115_59, e115_60, e115_61, e115_64, e115_65, e115_66, e115_69, e115_70, e115_71, e115_72, e115_73, e115_74, e115_75, e115_78, e115_79, e115_80, e115_83, e115_84, e115_85, e115_86, e115_87, e115_88, e115_89i, e115_89, e115_90, e115_93, e115_94, e115_95, e115_98, e115_99, e115_102, c_mperson, c_in, if_pos hp, if_pos hz, if_pos hv, gf_63_4, gf_63_5, c1, w1, if_neg hnn, e2, e3, e4, aput_in (ar_65 (L := L)), t1, t2, t3, c2, c3, c4, pi_63_4, e1, hM2, c5, bindS, tL0, tL1, app0, app1, if_true, if_false, eq_self, Int.reduceEq, Int.reduceLT, Int.reduceLE, Int.reduceNeg, Int.reduceToNat]
    · have s : ∀ a, a ≠ 5 → a ≠ 6 → a ≠ 7 → a ≠ 8 → a ≠ 63 → a ≠ 65 → M2 a = M a := fun a x1 x2 x3 x4 x5 x6 => by
        rw [← hM2, setC_row x5, setC_row x6, setC_row x6, setC_row x6]; exact r1 a x1 x2 x3 x4
      have s3 : ∀ j, j ≠ 4 → M2 63 j = M 63 j := fun j x => by
        rw [← hM2, setC_i x, setC_row (by decide), setC_row (by decide), setC_row (by decide), r1 63 (by decide) (by decide) (by decide) (by decide)]
      have s0 : M2 63 4 = (n : Int) + 1 := by rw [← hM2]; exact setC_s
      have sB : ∀ a, a ≠ 63 → a ≠ 65 → M2 a = M1 a := fun a x y => by rw [← hM2, setC_row x, setC_row y, setC_row y, setC_row y]
      have u5 : M2 5 3 = (n : Int) + 1 := by rw [sB 5 (by decide) (by decide), ← hM1, setC_s]
      have u6 : M2 6 = setC M 6 n p 6 := by
        rw [sB 6 (by decide) (by decide), ← hM1, setC_row (by decide), setC_row (by decide), setC_row (by decide)]
      have u7 : M2 7 = setC M 7 n v 7 := by
        rw [sB 7 (by decide) (by decide), ← hM1, setC_row (by decide), setC_row (by decide)]
        funext j
        simp only [setC]
        simp
      have u8 : M2 8 = setC M 8 n z 8 := by
        rw [sB 8 (by decide) (by decide), ← hM1, setC_row (by decide)]
        funext j
        simp only [setC]
        simp
      have u65 : M2 65 = fun k => if k = 3 * n + 2 then z else if k = 3 * n + 1 then v else if k = 3 * n then p else M 65 k := by
        rw [← hM2, setC_row (by decide)]
        have := r1 65 (by decide) (by decide) (by decide) (by decide)
        funext j
        simp only [setC]
        simp [this]
      refine ⟨⟨⟨?_, ?_, ?_, ?_, ?_, ?_, ?_, ?_⟩, ⟨?_, ?_, ?_, ?_, ?_, ?_, ?_, ?_⟩⟩, Img0_same h2 (fun a ha => s a (by omega) (by omega) (by omega) (by omega) (by omega) (by omega)), Img1_same h3 (fun a ha => s a (by omega) (by omega) (by omega) (by omega) (by omega) (by omega)), TxtI_same ht (fun a ha => s a (by omega) (by omega) (by omega) (by omega) (by omega) (by omega)) (by rw [s 32 (by decide) (by decide) (by decide) (by decide) (by decide) (by decide)]) (s3 8 (by decide)), ?_, ?_⟩
      · rw [s 64 (by decide) (by decide) (by decide) (by decide) (by decide) (by decide)]; exact a1
      · rw [s3 0 (by decide)]; exact a2
      · rw [s3 1 (by decide)]; exact a3
      · rw [s3 2 (by decide)]; exact a4
      · rw [s0]; omega
      · rw [s3 6 (by decide)]; exact a6
      · rw [s0, u65]
        intro i hi
        by_cases hin : i = n
        · subst hin
          simp only [if_neg (show ¬ 3 * i = 3 * i + 1 by omega), if_neg (show ¬ 3 * i = 3 * i + 2 by omega), if_neg (show ¬ 3 * i + 1 = 3 * i + 2 by omega), if_true]
          exact ⟨hp, hv, by omega⟩
        · simp only [if_neg (show ¬ 3 * i = 3 * n by omega), if_neg (show ¬ 3 * i = 3 * n + 1 by omega), if_neg (show ¬ 3 * i = 3 * n + 2 by omega), if_neg (show ¬ 3 * i + 1 = 3 * n by omega), if_neg (show ¬ 3 * i + 1 = 3 * n + 1 by omega), if_neg (show ¬ 3 * i + 1 = 3 * n + 2 by omega), if_neg (show ¬ 3 * i + 2 = 3 * n by omega), if_neg (show ¬ 3 * i + 2 = 3 * n + 1 by omega), if_neg (show ¬ 3 * i + 2 = 3 * n + 2 by omega)]
          exact a7 i (by omega)
      · rw [s3 6 (by decide), s 66 (by decide) (by decide) (by decide) (by decide) (by decide) (by decide)]; exact a8
      · intro q hq
        rw [s 64 (by decide) (by decide) (by decide) (by decide) (by decide) (by decide), s 4 (by decide) (by decide) (by decide) (by decide) (by decide) (by decide)]
        exact b1 q hq
      · rw [s 3 (by decide) (by decide) (by decide) (by decide) (by decide) (by decide), s3 0 (by decide)]; exact b2
      · rw [s 3 (by decide) (by decide) (by decide) (by decide) (by decide) (by decide), s3 1 (by decide)]; exact b3
      · rw [s 3 (by decide) (by decide) (by decide) (by decide) (by decide) (by decide), s3 2 (by decide)]; exact b4
      · rw [u5, s0]
      · rw [s 9 (by decide) (by decide) (by decide) (by decide) (by decide) (by decide), s3 6 (by decide)]; exact b6
      · intro i hi
        show M2 6 i = _ ∧ M2 7 i = _ ∧ M2 8 i = _
        rw [u6, u7, u8, u65]
        by_cases hin : i = n
        · subst hin
          rw [setC_s, setC_s, setC_s]
          simp only [if_neg (show ¬ 3 * i = 3 * i + 1 by omega), if_neg (show ¬ 3 * i = 3 * i + 2 by omega), if_neg (show ¬ 3 * i + 1 = 3 * i + 2 by omega), if_true]
          exact ⟨trivial, trivial, trivial⟩
        · rw [setC_i hin, setC_i hin, setC_i hin]
          simp only [if_neg (show ¬ 3 * i = 3 * n by omega), if_neg (show ¬ 3 * i = 3 * n + 1 by omega), if_neg (show ¬ 3 * i = 3 * n + 2 by omega), if_neg (show ¬ 3 * i + 1 = 3 * n by omega), if_neg (show ¬ 3 * i + 1 = 3 * n + 1 by omega), if_neg (show ¬ 3 * i + 1 = 3 * n + 2 by omega), if_neg (show ¬ 3 * i + 2 = 3 * n by omega), if_neg (show ¬ 3 * i + 2 = 3 * n + 1 by omega), if_neg (show ¬ 3 * i + 2 = 3 * n + 2 by omega)]
          exact b7 i hi
      · intro i hi
        rw [s 66 (by decide) (by decide) (by decide) (by decide) (by decide) (by decide)]
        show M2 10 i = _ ∧ M2 11 i = _
        rw [s 10 (by decide) (by decide) (by decide) (by decide) (by decide) (by decide), s 11 (by decide) (by decide) (by decide) (by decide) (by decide) (by decide)]
        exact b8 i hi
      · rw [s 41 (by decide) (by decide) (by decide) (by decide) (by decide) (by decide)]; exact h5
      · rw [s3 12 (by decide)]; exact h6
