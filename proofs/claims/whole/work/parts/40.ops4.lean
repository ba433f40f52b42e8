/-! seen, saying -/
theorem op_seen {L : Nat} {K : Int} {M : PM} (h : Inv K M) (p v : Int) : ∃ r M1 M2, den 1999 71 [(.inr (.inr (some 1))), .inl p, .inl v] (SH L) M = some (some (.inl r), SH L, M1) ∧ M1 0 = M 0 ∧ den 1999 126 [(.inr (.inr (some 63))), .inl p, .inl v] (SH L) M1 = some (some (.inl r), SH L, M2) ∧ Inv K M2 := by
  obtain ⟨⟨⟨a1, a2, a3, a4, a5, a6, a7, a8⟩, ⟨b1, b2, b3, b4, b5, b6, b7, b8⟩⟩, h2, h3, ht, h5, h6⟩ := id h
  have o1 := io_9 (L := L)
  by_cases hp : 0 ≤ p ∧ p ≤ 5
  rotate_left
  · refine ⟨-1, M, M, ?_, rfl, ?_, h⟩
    · unfold den
      rw [show ent 71 [(.inr (.inr (some 1))), .inl p, .inl v] = [some (.inr (.inr (some 1))), some (.inl p), some (.inl v)] from rfl]
      simp (disch := first | omega | (exact Nat.le_of_ble_eq_true rfl) | assumption | rfl) only [e71_0, e71_1, e71_4, e71_7, e71_8, e71_9, e71_10, e71_12, e71_15, e71_18, e71_21, e71_23, e71_24, e71_25, e71_28, e71_31, e71_32, e71_33, e71_36, e71_39, e71_40, e71_43, e71_46, e71_49, e71_52, e71_54, c_person, if_neg hp, bindS, tL0, tL1, app0, app1, if_true, if_false, eq_self, Int.reduceEq, Int.reduceLT, Int.reduceLE, Int.reduceNeg, Int.reduceToNat]
    · unfold den
      rw [show ent 126 [(.inr (.inr (some 63))), .inl p, .inl v] = [some (.inr (.inr (some 63))), some (.inl p), some (.inl v)] from rfl]
      simp (disch := first | omega | (exact Nat.le_of_ble_eq_true rfl) | assumption | rfl) only [e126_0, e126_1, e126_4, e126_7, e126_8, e126_9, e126_10, e126_12, e126_15, e126_18, e126_21, e126_23, e126_24, e126_25, e126_28, e126_30, e126_33, e126_35, e126_36, e126_37, e126_40, e126_41, e126_42, e126_45, e126_46, e126_47, e126_48, e126_49, e126_52, e126_53, e126_54, e126_57, e126_58, e126_59, e126_60, e126_61, e126_62, e126_63i, e126_63, e126_64, e126_67, e126_68, e126_69, e126_72, e126_73, e126_76, c_mperson, if_neg hp, bindS, tL0, tL1, app0, app1, if_true, if_false, eq_self, Int.reduceEq, Int.reduceLT, Int.reduceLE, Int.reduceNeg, Int.reduceToNat]
  by_cases hv : -99 ≤ v ∧ v ≤ 999
  rotate_left
  · refine ⟨-2, M, M, ?_, rfl, ?_, h⟩
    · unfold den
      rw [show ent 71 [(.inr (.inr (some 1))), .inl p, .inl v] = [some (.inr (.inr (some 1))), some (.inl p), some (.inl v)] from rfl]
      simp (disch := first | omega | (exact Nat.le_of_ble_eq_true rfl) | assumption | rfl) only [e71_0, e71_1, e71_4, e71_7, e71_8, e71_9, e71_10, e71_12, e71_15, e71_18, e71_21, e71_23, e71_24, e71_25, e71_28, e71_31, e71_32, e71_33, e71_36, e71_39, e71_40, e71_43, e71_46, e71_49, e71_52, e71_54, c_person, c_within, if_pos hp, if_neg hv, bindS, tL0, tL1, app0, app1, if_true, if_false, eq_self, Int.reduceEq, Int.reduceLT, Int.reduceLE, Int.reduceNeg, Int.reduceToNat]
    · unfold den
      rw [show ent 126 [(.inr (.inr (some 63))), .inl p, .inl v] = [some (.inr (.inr (some 63))), some (.inl p), some (.inl v)] from rfl]
      simp (disch := first | omega | (exact Nat.le_of_ble_eq_true rfl) | assumption | rfl) only [e126_0, e126_1, e126_4, e126_7, e126_8, e126_9, e126_10, e126_12, e126_15, e126_18, e126_21, e126_23, e126_24, e126_25, e126_28, e126_30, e126_33, e126_35, e126_36, e126_37, e126_40, e126_41, e126_42, e126_45, e126_46, e126_47, e126_48, e126_49, e126_52, e126_53, e126_54, e126_57, e126_58, e126_59, e126_60, e126_61, e126_62, e126_63i, e126_63, e126_64, e126_67, e126_68, e126_69, e126_72, e126_73, e126_76, c_mperson, c_in, if_pos hp, if_neg hv, bindS, tL0, tL1, app0, app1, if_true, if_false, eq_self, Int.reduceEq, Int.reduceLT, Int.reduceLE, Int.reduceNeg, Int.reduceToNat]
  obtain ⟨n, hn⟩ : ∃ n : Nat, M 63 6 = (n : Int) := ⟨(M 63 6).toNat, by omega⟩
  rw [hn] at b6
  by_cases h6f : n = 6
  · subst h6f
    refine ⟨-4, M, M, ?_, rfl, ?_, h⟩
    · have e : den 1998 12 [(.inr (.inr (some 9))), .inl p, .inl v] (SH L) M = some (some (.inl 0), SH L, M) := by
        unfold den
        rw [show ent 12 [(.inr (.inr (some 9))), .inl p, .inl v] = [some (.inr (.inr (some 9))), some (.inl p), some (.inl v)] from rfl]
        simp (disch := first | omega | (exact Nat.le_of_ble_eq_true rfl) | assumption | rfl) only [e12_0, e12_1, e12_4, e12_6, e12_9, e12_10z, e12_10o, e12_10, e12_11, e12_12, e12_15, e12_16, e12_19, e12_20, e12_23, e12_24, e12_27, e12_28, e12_31, e12_32, e12_35, e12_36i, e12_36, e12_37, e12_40, e12_41, e12_42, e12_45, e12_46z, e12_46o, e12_46, gf_9_2, b6, bindS, tL0, tL1, app0, app1, if_true, if_false, eq_self, Int.reduceEq, Int.reduceLT, Int.reduceLE, Int.reduceNeg, Int.reduceToNat]
        rw [if_neg (by decide)]
      unfold den
      rw [show ent 71 [(.inr (.inr (some 1))), .inl p, .inl v] = [some (.inr (.inr (some 1))), some (.inl p), some (.inl v)] from rfl]
      simp (disch := first | omega | (exact Nat.le_of_ble_eq_true rfl) | assumption | rfl) only [e71_0, e71_1, e71_4, e71_7, e71_8, e71_9, e71_10, e71_12, e71_15, e71_18, e71_21, e71_23, e71_24, e71_25, e71_28, e71_31, e71_32, e71_33, e71_36, e71_39, e71_40, e71_43, e71_46, e71_49, e71_52, e71_54, c_person, c_within, if_pos hp, if_pos hv, gf_1_0, gf_2_2, e, bindS, tL0, tL1, app0, app1, if_true, if_false, eq_self, Int.reduceEq, Int.reduceLT, Int.reduceLE, Int.reduceNeg, Int.reduceToNat]
    · unfold den
      rw [show ent 126 [(.inr (.inr (some 63))), .inl p, .inl v] = [some (.inr (.inr (some 63))), some (.inl p), some (.inl v)] from rfl]
      simp (disch := first | omega | (exact Nat.le_of_ble_eq_true rfl) | assumption | rfl) only [e126_0, e126_1, e126_4, e126_7, e126_8, e126_9, e126_10, e126_12, e126_15, e126_18, e126_21, e126_23, e126_24, e126_25, e126_28, e126_30, e126_33, e126_35, e126_36, e126_37, e126_40, e126_41, e126_42, e126_45, e126_46, e126_47, e126_48, e126_49, e126_52, e126_53, e126_54, e126_57, e126_58, e126_59, e126_60, e126_61, e126_62, e126_63i, e126_63, e126_64, e126_67, e126_68, e126_69, e126_72, e126_73, e126_76, c_mperson, c_in, if_pos hp, if_pos hv, gf_63_6, hn, bindS, tL0, tL1, app0, app1, if_true, if_false, eq_self, Int.reduceEq, Int.reduceLT, Int.reduceLE, Int.reduceNeg, Int.reduceToNat]
      rw [if_pos (by decide)]
  · have hn6 : n < 6 := by omega
    have hn7 : ¬ (n : Int) = 6 := by omega
    have e1 : wr ((n : Int) + 1) = (n : Int) + 1 := wr_id (by omega) (by omega)
    have e2 : wr (2 * (n : Int)) = 2 * (n : Int) := wr_id (by omega) (by omega)
    have e3 : wr (2 * (n : Int) + 1) = 2 * (n : Int) + 1 := wr_id (by omega) (by omega)
    have t1 : (2 * (n : Int)).toNat = 2 * n := by omega
    have t2 : (2 * (n : Int) + 1).toNat = 2 * n + 1 := by omega
    refine ⟨(n : Int) + 1, setC (setC (setC M 10 n p) 11 n v) 9 2 ((n : Int) + 1), setC (setC (setC (setC (setC (setC M 10 n p) 11 n v) 9 2 ((n : Int) + 1)) 66 (2 * n) p) 66 (2 * n + 1) v) 63 6 ((n : Int) + 1), ?_, ?_, ?_, ?_⟩
    · have e : den 1998 12 [(.inr (.inr (some 9))), .inl p, .inl v] (SH L) M = some (some (.inl 1), SH L, setC (setC (setC M 10 n p) 11 n v) 9 2 ((n : Int) + 1)) := by
        have c1 : setC M 10 n p 9 2 = (n : Int) := by rw [setC_row (by decide)]; exact b6
        have c2 : setC (setC M 10 n p) 11 n v 9 2 = (n : Int) := by rw [setC_row (by decide)]; exact c1
        unfold den
        rw [show ent 12 [(.inr (.inr (some 9))), .inl p, .inl v] = [some (.inr (.inr (some 9))), some (.inl p), some (.inl v)] from rfl]
        simp (disch := first | omega | (exact Nat.le_of_ble_eq_true rfl) | assumption | rfl) only [e12_0, e12_1, e12_4, e12_6, e12_9, e12_10z, e12_10o, e12_10, e12_11, e12_12, e12_15, e12_16, e12_19, e12_20, e12_23, e12_24, e12_27, e12_28, e12_31, e12_32, e12_35, e12_36i, e12_36, e12_37, e12_40, e12_41, e12_42, e12_45, e12_46z, e12_46o, e12_46, gf_9_2, b6, bindS, tL0, tL1, app0, app1, if_true, if_false, eq_self, Int.reduceEq, Int.reduceLT, Int.reduceLE, Int.reduceNeg, Int.reduceToNat]
        rw [if_pos (by omega)]
        simp (disch := first | omega | (exact Nat.le_of_ble_eq_true rfl) | assumption | rfl) only [e12_0, e12_1, e12_4, e12_6, e12_9, e12_10z, e12_10o, e12_10, e12_11, e12_12, e12_15, e12_16, e12_19, e12_20, e12_23, e12_24, e12_27, e12_28, e12_31, e12_32, e12_35, e12_36i, e12_36, e12_37, e12_40, e12_41, e12_42, e12_45, e12_46z, e12_46o, e12_46, gf_9_0, gf_9_1, gf_9_2, b6, c_put_in (ar_10 (L := L)), c_put_in (ar_11 (L := L)), bindS, tL0, tL1, app0, app1, if_true, if_false, eq_self, Int.reduceEq, Int.reduceLT, Int.reduceLE, Int.reduceNeg, Int.reduceToNat, tnN, c1, c2, pi_9_2, e1]
      have c0 : setC (setC (setC M 10 n p) 11 n v) 9 2 ((n : Int) + 1) 9 2 = (n : Int) + 1 := setC_s
      unfold den
      rw [show ent 71 [(.inr (.inr (some 1))), .inl p, .inl v] = [some (.inr (.inr (some 1))), some (.inl p), some (.inl v)] from rfl]
      simp (disch := first | omega | (exact Nat.le_of_ble_eq_true rfl) | assumption | rfl) only [e71_0, e71_1, e71_4, e71_7, e71_8, e71_9, e71_10, e71_12, e71_15, e71_18, e71_21, e71_23, e71_24, e71_25, e71_28, e71_31, e71_32, e71_33, e71_36, e71_39, e71_40, e71_43, e71_46, e71_49, e71_52, e71_54, c_person, c_within, if_pos hp, if_pos hv, gf_1_0, gf_2_2, e, bindS, tL0, tL1, app0, app1, if_true, if_false, eq_self, Int.reduceEq, Int.reduceLT, Int.reduceLE, Int.reduceNeg, Int.reduceToNat, g9_2, c0]
    · rw [setC_row (by decide), setC_row (by decide), setC_row (by decide)]
    · have c1 : setC (setC (setC M 10 n p) 11 n v) 9 2 ((n : Int) + 1) 63 6 = (n : Int) := by rw [setC_row (by decide), setC_row (by decide), setC_row (by decide)]; exact hn
      generalize setC (setC (setC M 10 n p) 11 n v) 9 2 ((n : Int) + 1) = M1 at c1
      have c2 : setC M1 66 (2 * n) p 63 6 = (n : Int) := by rw [setC_row (by decide)]; exact c1
      have c3 : setC (setC M1 66 (2 * n) p) 66 (2 * n + 1) v 63 6 = (n : Int) := by rw [setC_row (by decide)]; exact c2
      have c4 : setC (setC (setC M1 66 (2 * n) p) 66 (2 * n + 1) v) 63 6 ((n : Int) + 1) 63 6 = (n : Int) + 1 := setC_s
      unfold den
      rw [show ent 126 [(.inr (.inr (some 63))), .inl p, .inl v] = [some (.inr (.inr (some 63))), some (.inl p), some (.inl v)] from rfl]
      simp (disch := first | omega | (exact Nat.le_of_ble_eq_true rfl) | assumption | rfl) only [e126_0, e126_1, e126_4, e126_7, e126_8, e126_9, e126_10, e126_12, e126_15, e126_18, e126_21, e126_23, e126_24, e126_25, e126_28, e126_30, e126_33, e126_35, e126_36, e126_37, e126_40, e126_41, e126_42, e126_45, e126_46, e126_47, e126_48, e126_49, e126_52, e126_53, e126_54, e126_57, e126_58, e126_59, e126_60, e126_61, e126_62, e126_63i, e126_63, e126_64, e126_67, e126_68, e126_69, e126_72, e126_73, e126_76, c_mperson, c_in, if_pos hp, if_pos hv, gf_63_6, gf_63_7, c1, if_neg hn7, e2, e3, aput_in (ar_66 (L := L)), t1, t2, c2, c3, c4, pi_63_6, e1, bindS, tL0, tL1, app0, app1, if_true, if_false, eq_self, Int.reduceEq, Int.reduceLT, Int.reduceLE, Int.reduceNeg, Int.reduceToNat]
    · have s : ∀ a, a ≠ 9 → a ≠ 10 → a ≠ 11 → a ≠ 63 → a ≠ 66 → setC (setC (setC (setC (setC (setC M 10 n p) 11 n v) 9 2 ((n : Int) + 1)) 66 (2 * n) p) 66 (2 * n + 1) v) 63 6 ((n : Int) + 1) a = M a := fun a x1 x2 x3 x4 x5 => by
        rw [setC_row x4, setC_row x5, setC_row x5, setC_row x1, setC_row x3, setC_row x2]
      have s3 : ∀ j, j ≠ 6 → setC (setC (setC (setC (setC (setC M 10 n p) 11 n v) 9 2 ((n : Int) + 1)) 66 (2 * n) p) 66 (2 * n + 1) v) 63 6 ((n : Int) + 1) 63 j = M 63 j := fun j x => by
        rw [setC_i x, setC_row (by decide), setC_row (by decide), setC_row (by decide), setC_row (by decide), setC_row (by decide)]
      have s0 : setC (setC (setC (setC (setC (setC M 10 n p) 11 n v) 9 2 ((n : Int) + 1)) 66 (2 * n) p) 66 (2 * n + 1) v) 63 6 ((n : Int) + 1) 63 6 = (n : Int) + 1 := setC_s
      have u9 : setC (setC (setC (setC (setC (setC M 10 n p) 11 n v) 9 2 ((n : Int) + 1)) 66 (2 * n) p) 66 (2 * n + 1) v) 63 6 ((n : Int) + 1) 9 2 = (n : Int) + 1 := by rw [setC_row (by decide), setC_row (by decide), setC_row (by decide), setC_s]
      have u10 : setC (setC (setC (setC (setC (setC M 10 n p) 11 n v) 9 2 ((n : Int) + 1)) 66 (2 * n) p) 66 (2 * n + 1) v) 63 6 ((n : Int) + 1) 10 = setC M 10 n p 10 := by rw [setC_row (by decide), setC_row (by decide), setC_row (by decide), setC_row (by decide), setC_row (by decide)]
      have u11 : setC (setC (setC (setC (setC (setC M 10 n p) 11 n v) 9 2 ((n : Int) + 1)) 66 (2 * n) p) 66 (2 * n + 1) v) 63 6 ((n : Int) + 1) 11 = setC M 11 n v 11 := by
        rw [setC_row (by decide), setC_row (by decide), setC_row (by decide), setC_row (by decide)]
        funext j
        simp only [setC]
        simp
      have u66 : setC (setC (setC (setC (setC (setC M 10 n p) 11 n v) 9 2 ((n : Int) + 1)) 66 (2 * n) p) 66 (2 * n + 1) v) 63 6 ((n : Int) + 1) 66 = fun k => if k = 2 * n + 1 then v else if k = 2 * n then p else M 66 k := by
        rw [setC_row (by decide)]
        funext j
        simp only [setC]
        simp
      refine ⟨?_, Img0_same h2 (fun a ha => s a (by omega) (by omega) (by omega) (by omega) (by omega)), Img1_same h3 (fun a ha => s a (by omega) (by omega) (by omega) (by omega) (by omega)), TxtI_same ht (fun a ha => s a (by omega) (by omega) (by omega) (by omega) (by omega)) (by rw [s 32 (by decide) (by decide) (by decide) (by decide) (by decide)]) (s3 8 (by decide)), ?_, ?_⟩
      · generalize setC (setC (setC (setC (setC (setC M 10 n p) 11 n v) 9 2 ((n : Int) + 1)) 66 (2 * n) p) 66 (2 * n + 1) v) 63 6 ((n : Int) + 1) = M' at s s3 s0 u9 u10 u11 u66
        refine ⟨⟨?_, ?_, ?_, ?_, ?_, ?_, ?_, ?_⟩, ⟨?_, ?_, ?_, ?_, ?_, ?_, ?_, ?_⟩⟩
        · rw [s 64 (by decide) (by decide) (by decide) (by decide) (by decide)]; exact a1
        · rw [s3 0 (by decide)]; exact a2
        · rw [s3 1 (by decide)]; exact a3
        · rw [s3 2 (by decide)]; exact a4
        · rw [s3 4 (by decide)]; exact a5
        · rw [s0]; omega
        · rw [s3 4 (by decide), s 65 (by decide) (by decide) (by decide) (by decide) (by decide)]; exact a7
        · rw [s0, u66]
          intro i hi
          by_cases hin : i = n
          · subst hin
            simp only [if_neg (show ¬ 2 * i = 2 * i + 1 by omega), if_true]
            exact hp
          · simp only [if_neg (show ¬ 2 * i = 2 * n + 1 by omega), if_neg (show ¬ 2 * i = 2 * n by omega)]
            exact a8 i (by omega)
        · intro q hq
          rw [s 64 (by decide) (by decide) (by decide) (by decide) (by decide), s 4 (by decide) (by decide) (by decide) (by decide) (by decide)]
          exact b1 q hq
        · rw [s 3 (by decide) (by decide) (by decide) (by decide) (by decide), s3 0 (by decide)]; exact b2
        · rw [s 3 (by decide) (by decide) (by decide) (by decide) (by decide), s3 1 (by decide)]; exact b3
        · rw [s 3 (by decide) (by decide) (by decide) (by decide) (by decide), s3 2 (by decide)]; exact b4
        · rw [s 5 (by decide) (by decide) (by decide) (by decide) (by decide), s3 4 (by decide)]; exact b5
        · rw [u9, s0]
        · intro i hi
          rw [s 65 (by decide) (by decide) (by decide) (by decide) (by decide)]
          show M' 6 i = _ ∧ M' 7 i = _ ∧ M' 8 i = _
          rw [s 6 (by decide) (by decide) (by decide) (by decide) (by decide), s 7 (by decide) (by decide) (by decide) (by decide) (by decide), s 8 (by decide) (by decide) (by decide) (by decide) (by decide)]
          exact b7 i hi
        · intro i hi
          show M' 10 i = _ ∧ M' 11 i = _
          rw [u10, u11, u66]
          by_cases hin : i = n
          · subst hin
            rw [setC_s, setC_s]
            simp only [if_neg (show ¬ 2 * i = 2 * i + 1 by omega), if_true]
            exact ⟨trivial, trivial⟩
          · rw [setC_i hin, setC_i hin]
            simp only [if_neg (show ¬ 2 * i = 2 * n + 1 by omega), if_neg (show ¬ 2 * i = 2 * n by omega), if_neg (show ¬ 2 * i + 1 = 2 * n + 1 by omega), if_neg (show ¬ 2 * i + 1 = 2 * n by omega)]
            exact b8 i hi
      · rw [s 41 (by decide) (by decide) (by decide) (by decide) (by decide)]; exact h5
      · rw [s3 12 (by decide)]; exact h6
