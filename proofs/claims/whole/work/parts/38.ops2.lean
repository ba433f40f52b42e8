/-! set, free, drop, forget, told -/
theorem op_set {L : Nat} {K : Int} {M : PM} (h : Inv K M) (w v : Int) : ∃ r M1 M2, den 1999 55 [(.inr (.inr (some 1))), .inl w, .inl v] (SH L) M = some (some (.inl r), SH L, M1) ∧ M1 0 = M 0 ∧ den 1999 95 [(.inr (.inr (some 63))), .inl w, .inl v] (SH L) M1 = some (some (.inl r), SH L, M2) ∧ Inv K M2 := by
  obtain ⟨⟨⟨a1, a2, a3, a4⟩, ⟨b1, b2, b3, b4⟩⟩, h2, h3, ht, h5, h6⟩ := id h
  have o2 := io_3 (L := L)
  by_cases hw : w = 0 ∧ (0 ≤ v ∧ v ≤ 99)
  · obtain ⟨rfl, hv⟩ := hw
    refine ⟨M 63 0, setC M 3 2 v, setC (setC (setC M 3 2 v) 63 0 v) 63 1 (M 63 1), ?_, setC_row (by decide), ?_, ?_⟩
    · unfold den
      rw [show ent 55 [(.inr (.inr (some 1))), .inl 0, .inl v] = [some (.inr (.inr (some 1))), some (.inl 0), some (.inl v)] from rfl]
      simp (disch := first | omega | (exact Nat.le_of_ble_eq_true rfl) | assumption | rfl) only [e55_0, e55_1, e55_4, e55_5, e55_6, e55_8, e55_11, e55_14, e55_15, e55_18, e55_21, e55_22, e55_25, e55_26, e55_27, e55_28, e55_31, e55_32, e55_33, e55_34, e55_37, e55_40, e55_41, e55_44, e55_47, e55_48, e55_51, e55_52, e55_54, c_within, bindS, tL0, tL1, app0, app1, if_true, if_false, eq_self, Int.reduceEq, Int.reduceLT, Int.reduceLE, Int.reduceNeg, Int.reduceToNat, if_pos hv, gf_1_0, gf_2_0, c_chB vl_3, b2]
    · have e3 : ∀ j, setC M 3 2 v 63 j = M 63 j := fun j => by rw [setC_row (by decide)]
      unfold den
      rw [show ent 95 [(.inr (.inr (some 63))), .inl 0, .inl v] = [some (.inr (.inr (some 63))), some (.inl 0), some (.inl v), none, none] from rfl]
      have e4 : setC (setC M 3 2 v) 63 0 v 63 1 = M 63 1 := by rw [setC_i (by decide), e3]
      simp (disch := first | omega | (exact Nat.le_of_ble_eq_true rfl) | assumption | rfl) only [e95_0, e95_1, e95_4, e95_5, e95_6, e95_8, e95_11, e95_14, e95_15, e95_16, e95_19, e95_20, e95_21, e95_22, e95_25, e95_28, e95_29, e95_32, e95_33, e95_34, e95_35, e95_38, e95_40, e95_41, e95_42, e95_45, e95_46, e95_49, e95_52, e95_53, e95_56, e95_58, e95_59, e95_60, e95_63, e95_64, e95_67, e95_68, e95_71, e95_74, e95_75, e95_76, e95_77, e95_80, e95_81, e95_84, e95_85, e95_88, e95_91, e95_93, c_in, bindS, tL0, tL1, app0, app1, if_true, if_false, eq_self, Int.reduceEq, Int.reduceLT, Int.reduceLE, Int.reduceNeg, Int.reduceToNat, if_pos hv, gf_63_0, gf_63_1, pi_63_0, pi_63_1, e3, e4]
    · have s : ∀ a, a ≠ 3 → a ≠ 63 → setC (setC (setC M 3 2 v) 63 0 v) 63 1 (M 63 1) a = M a := fun a x y => by rw [setC_row y, setC_row y, setC_row x]
      have s3 : ∀ j, j ≠ 0 → setC (setC (setC M 3 2 v) 63 0 v) 63 1 (M 63 1) 63 j = M 63 j := fun j x => by
        by_cases hj : j = 1
        · subst hj; rw [setC_s]
        · rw [setC_i hj, setC_i x, setC_row (by decide)]
      have s0 : setC (setC (setC M 3 2 v) 63 0 v) 63 1 (M 63 1) 63 0 = v := by rw [setC_i (by decide), setC_s]
      have t3 : ∀ j, j ≠ 2 → setC (setC (setC M 3 2 v) 63 0 v) 63 1 (M 63 1) 3 j = M 3 j := fun j x => by rw [setC_row (by decide), setC_row (by decide), setC_i x]
      have t2 : setC (setC (setC M 3 2 v) 63 0 v) 63 1 (M 63 1) 3 2 = v := by rw [setC_row (by decide), setC_row (by decide), setC_s]
      refine ⟨?_, Img0_same h2 (fun a ha => s a (by omega) (by omega)), Img1_same h3 (fun a ha => s a (by omega) (by omega)), TxtI_same ht (fun a ha => s a (by omega) (by omega)) (by rw [s 32 (by decide) (by decide)]) (s3 8 (by decide)), ?_, ?_⟩
      · generalize hM : setC (setC (setC M 3 2 v) 63 0 v) 63 1 (M 63 1) = M' at s s3 s0 t3 t2
        unfold NowI SV CS at *
        simp (disch := decide) only [s, s3, s0, t3, t2, Nat.reduceAdd]
        exact ⟨⟨a1, hv, a3, a4⟩, b1, trivial, b3, b4⟩
      · rw [s 41 (by decide) (by decide)]; exact h5
      · rw [s3 12 (by decide)]; exact h6
  · by_cases hw2 : w = 1 ∧ (1 ≤ v ∧ v ≤ 4)
    · obtain ⟨rfl, hv⟩ := hw2
      refine ⟨M 63 1, setC M 3 3 v, setC (setC (setC M 3 3 v) 63 0 (M 63 0)) 63 1 v, ?_, setC_row (by decide), ?_, ?_⟩
      · unfold den
        rw [show ent 55 [(.inr (.inr (some 1))), .inl 1, .inl v] = [some (.inr (.inr (some 1))), some (.inl 1), some (.inl v)] from rfl]
        simp (disch := first | omega | (exact Nat.le_of_ble_eq_true rfl) | assumption | rfl) only [e55_0, e55_1, e55_4, e55_5, e55_6, e55_8, e55_11, e55_14, e55_15, e55_18, e55_21, e55_22, e55_25, e55_26, e55_27, e55_28, e55_31, e55_32, e55_33, e55_34, e55_37, e55_40, e55_41, e55_44, e55_47, e55_48, e55_51, e55_52, e55_54, c_within, bindS, tL0, tL1, app0, app1, if_true, if_false, eq_self, Int.reduceEq, Int.reduceLT, Int.reduceLE, Int.reduceNeg, Int.reduceToNat, if_pos hv, gf_1_0, gf_2_0, c_chF vl_3, b3]
      · have e3 : ∀ j, setC M 3 3 v 63 j = M 63 j := fun j => by rw [setC_row (by decide)]
        unfold den
        rw [show ent 95 [(.inr (.inr (some 63))), .inl 1, .inl v] = [some (.inr (.inr (some 63))), some (.inl 1), some (.inl v), none, none] from rfl]
        simp (disch := first | omega | (exact Nat.le_of_ble_eq_true rfl) | assumption | rfl) only [e95_0, e95_1, e95_4, e95_5, e95_6, e95_8, e95_11, e95_14, e95_15, e95_16, e95_19, e95_20, e95_21, e95_22, e95_25, e95_28, e95_29, e95_32, e95_33, e95_34, e95_35, e95_38, e95_40, e95_41, e95_42, e95_45, e95_46, e95_49, e95_52, e95_53, e95_56, e95_58, e95_59, e95_60, e95_63, e95_64, e95_67, e95_68, e95_71, e95_74, e95_75, e95_76, e95_77, e95_80, e95_81, e95_84, e95_85, e95_88, e95_91, e95_93, c_in, bindS, tL0, tL1, app0, app1, if_true, if_false, eq_self, Int.reduceEq, Int.reduceLT, Int.reduceLE, Int.reduceNeg, Int.reduceToNat, if_pos hv, gf_63_0, gf_63_1, pi_63_0, pi_63_1, e3]
      · have s : ∀ a, a ≠ 3 → a ≠ 63 → setC (setC (setC M 3 3 v) 63 0 (M 63 0)) 63 1 v a = M a := fun a x y => by rw [setC_row y, setC_row y, setC_row x]
        have s3 : ∀ j, j ≠ 1 → setC (setC (setC M 3 3 v) 63 0 (M 63 0)) 63 1 v 63 j = M 63 j := fun j x => by
          by_cases hj : j = 0
          · subst hj; rw [setC_i (by decide), setC_s]
          · rw [setC_i x, setC_i hj, setC_row (by decide)]
        have s0 : setC (setC (setC M 3 3 v) 63 0 (M 63 0)) 63 1 v 63 1 = v := by rw [setC_s]
        have t3 : ∀ j, j ≠ 3 → setC (setC (setC M 3 3 v) 63 0 (M 63 0)) 63 1 v 3 j = M 3 j := fun j x => by rw [setC_row (by decide), setC_row (by decide), setC_i x]
        have t2 : setC (setC (setC M 3 3 v) 63 0 (M 63 0)) 63 1 v 3 3 = v := by rw [setC_row (by decide), setC_row (by decide), setC_s]
        refine ⟨?_, Img0_same h2 (fun a ha => s a (by omega) (by omega)), Img1_same h3 (fun a ha => s a (by omega) (by omega)), TxtI_same ht (fun a ha => s a (by omega) (by omega)) (by rw [s 32 (by decide) (by decide)]) (s3 8 (by decide)), ?_, ?_⟩
        · generalize hM : setC (setC (setC M 3 3 v) 63 0 (M 63 0)) 63 1 v = M' at s s3 s0 t3 t2
          unfold NowI SV CS at *
          simp (disch := decide) only [s, s3, s0, t3, t2, Nat.reduceAdd]
          exact ⟨⟨a1, a2, hv, a4⟩, b1, b2, trivial, b4⟩
        · rw [s 41 (by decide) (by decide)]; exact h5
        · rw [s3 12 (by decide)]; exact h6
    · refine ⟨-2, M, M, ?_, rfl, ?_, h⟩
      · unfold den
        rw [show ent 55 [(.inr (.inr (some 1))), .inl w, .inl v] = [some (.inr (.inr (some 1))), some (.inl w), some (.inl v)] from rfl]
        by_cases hw0 : w = 0
        · subst hw0
          have hv : ¬ (0 ≤ v ∧ v ≤ 99) := fun q => hw ⟨rfl, q⟩
          simp (disch := first | omega | (exact Nat.le_of_ble_eq_true rfl) | assumption | rfl) only [e55_0, e55_1, e55_4, e55_5, e55_6, e55_8, e55_11, e55_14, e55_15, e55_18, e55_21, e55_22, e55_25, e55_26, e55_27, e55_28, e55_31, e55_32, e55_33, e55_34, e55_37, e55_40, e55_41, e55_44, e55_47, e55_48, e55_51, e55_52, e55_54, c_within, bindS, tL0, tL1, app0, app1, if_true, if_false, eq_self, Int.reduceEq, Int.reduceLT, Int.reduceLE, Int.reduceNeg, Int.reduceToNat, if_neg hv]
        · by_cases hw1 : w = 1
          · subst hw1
            have hv : ¬ (1 ≤ v ∧ v ≤ 4) := fun q => hw2 ⟨rfl, q⟩
            simp (disch := first | omega | (exact Nat.le_of_ble_eq_true rfl) | assumption | rfl) only [e55_0, e55_1, e55_4, e55_5, e55_6, e55_8, e55_11, e55_14, e55_15, e55_18, e55_21, e55_22, e55_25, e55_26, e55_27, e55_28, e55_31, e55_32, e55_33, e55_34, e55_37, e55_40, e55_41, e55_44, e55_47, e55_48, e55_51, e55_52, e55_54, c_within, bindS, tL0, tL1, app0, app1, if_true, if_false, eq_self, Int.reduceEq, Int.reduceLT, Int.reduceLE, Int.reduceNeg, Int.reduceToNat, if_neg hv]
          · simp (disch := first | omega | (exact Nat.le_of_ble_eq_true rfl) | assumption | rfl) only [e55_0, e55_1, e55_4, e55_5, e55_6, e55_8, e55_11, e55_14, e55_15, e55_18, e55_21, e55_22, e55_25, e55_26, e55_27, e55_28, e55_31, e55_32, e55_33, e55_34, e55_37, e55_40, e55_41, e55_44, e55_47, e55_48, e55_51, e55_52, e55_54, c_within, bindS, tL0, tL1, app0, app1, if_true, if_false, eq_self, Int.reduceEq, Int.reduceLT, Int.reduceLE, Int.reduceNeg, Int.reduceToNat, if_neg hw0, if_neg hw1]
      · unfold den
        rw [show ent 95 [(.inr (.inr (some 63))), .inl w, .inl v] = [some (.inr (.inr (some 63))), some (.inl w), some (.inl v), none, none] from rfl]
        by_cases hw0 : w = 0
        · subst hw0
          have hv : ¬ (0 ≤ v ∧ v ≤ 99) := fun q => hw ⟨rfl, q⟩
          simp (disch := first | omega | (exact Nat.le_of_ble_eq_true rfl) | assumption | rfl) only [e95_0, e95_1, e95_4, e95_5, e95_6, e95_8, e95_11, e95_14, e95_15, e95_16, e95_19, e95_20, e95_21, e95_22, e95_25, e95_28, e95_29, e95_32, e95_33, e95_34, e95_35, e95_38, e95_40, e95_41, e95_42, e95_45, e95_46, e95_49, e95_52, e95_53, e95_56, e95_58, e95_59, e95_60, e95_63, e95_64, e95_67, e95_68, e95_71, e95_74, e95_75, e95_76, e95_77, e95_80, e95_81, e95_84, e95_85, e95_88, e95_91, e95_93, c_in, bindS, tL0, tL1, app0, app1, if_true, if_false, eq_self, Int.reduceEq, Int.reduceLT, Int.reduceLE, Int.reduceNeg, Int.reduceToNat, if_neg hv]
        · by_cases hw1 : w = 1
          · subst hw1
            have hv : ¬ (1 ≤ v ∧ v ≤ 4) := fun q => hw2 ⟨rfl, q⟩
            simp (disch := first | omega | (exact Nat.le_of_ble_eq_true rfl) | assumption | rfl) only [e95_0, e95_1, e95_4, e95_5, e95_6, e95_8, e95_11, e95_14, e95_15, e95_16, e95_19, e95_20, e95_21, e95_22, e95_25, e95_28, e95_29, e95_32, e95_33, e95_34, e95_35, e95_38, e95_40, e95_41, e95_42, e95_45, e95_46, e95_49, e95_52, e95_53, e95_56, e95_58, e95_59, e95_60, e95_63, e95_64, e95_67, e95_68, e95_71, e95_74, e95_75, e95_76, e95_77, e95_80, e95_81, e95_84, e95_85, e95_88, e95_91, e95_93, c_in, bindS, tL0, tL1, app0, app1, if_true, if_false, eq_self, Int.reduceEq, Int.reduceLT, Int.reduceLE, Int.reduceNeg, Int.reduceToNat, if_neg hv]
          · simp (disch := first | omega | (exact Nat.le_of_ble_eq_true rfl) | assumption | rfl) only [e95_0, e95_1, e95_4, e95_5, e95_6, e95_8, e95_11, e95_14, e95_15, e95_16, e95_19, e95_20, e95_21, e95_22, e95_25, e95_28, e95_29, e95_32, e95_33, e95_34, e95_35, e95_38, e95_40, e95_41, e95_42, e95_45, e95_46, e95_49, e95_52, e95_53, e95_56, e95_58, e95_59, e95_60, e95_63, e95_64, e95_67, e95_68, e95_71, e95_74, e95_75, e95_76, e95_77, e95_80, e95_81, e95_84, e95_85, e95_88, e95_91, e95_93, c_in, bindS, tL0, tL1, app0, app1, if_true, if_false, eq_self, Int.reduceEq, Int.reduceLT, Int.reduceLE, Int.reduceNeg, Int.reduceToNat, if_neg hw0, if_neg hw1]
theorem op_free {L : Nat} {K : Int} {M : PM} (h : Inv K M) (p : Int) : ∃ r M1 M2, den 1999 62 [(.inr (.inr (some 1))), .inl p] (SH L) M = some (some (.inl r), SH L, M1) ∧ M1 0 = M 0 ∧ den 1999 112 [(.inr (.inr (some 63))), .inl p] (SH L) M1 = some (some (.inl r), SH L, M2) ∧ Inv K M2 := by
  have o2 := io_3 (L := L)
  by_cases hp : 0 ≤ p ∧ p ≤ 5
  · have e : M 4 p.toNat = M 64 p.toNat := h.1.2.1 p.toNat (by omega)
    refine ⟨if 0 < M 64 p.toNat then M 64 p.toNat else 0, M, M, ?_, rfl, ?_, h⟩
    · unfold den
      rw [show ent 62 [(.inr (.inr (some 1))), .inl p] = [some (.inr (.inr (some 1))), some (.inl p)] from rfl]
      simp (disch := first | omega | (exact Nat.le_of_ble_eq_true rfl) | assumption | rfl) only [e62_0, e62_1, e62_4, e62_7, e62_8, e62_11, e62_14, e62_15, e62_18, e62_21, e62_22, c_person, bindS, tL1, app1, if_pos hp, gf_1_0, gf_2_0, c_wait vl_3 hp.1 (Int.lt_of_le_of_lt hp.2 (by decide)), bindS, tL0, tL1, app0, app1, if_true, if_false, eq_self, Int.reduceEq, Int.reduceLT, Int.reduceLE, Int.reduceNeg, Int.reduceToNat, e, Nat.reduceAdd]
    · unfold den
      rw [show ent 112 [(.inr (.inr (some 63))), .inl p] = [some (.inr (.inr (some 63))), some (.inl p)] from rfl]
      simp (disch := first | omega | (exact Nat.le_of_ble_eq_true rfl) | assumption | rfl) only [e112_0, e112_1, e112_4, e112_7, e112_8, e112_11, e112_12, e112_15, e112_16, e112_17, e112_20, e112_21, e112_24, e112_25, e112_26, e112_29, e112_30, c_mperson, bindS, tL1, app1, if_pos hp, gf_63_3, aget_in (M := M) (ar_64 (L := L)) hp.1 (Int.lt_of_le_of_lt hp.2 (by decide)), bindS, tL0, tL1, app0, app1, if_true, if_false, eq_self, Int.reduceEq, Int.reduceLT, Int.reduceLE, Int.reduceNeg, Int.reduceToNat]
      by_cases h0 : 0 < M 64 p.toNat
      · rw [if_neg (by omega), if_pos h0]
      · rw [if_pos (by omega), if_neg h0]
  · refine ⟨-1, M, M, ?_, rfl, ?_, h⟩
    · unfold den
      rw [show ent 62 [(.inr (.inr (some 1))), .inl p] = [some (.inr (.inr (some 1))), some (.inl p)] from rfl]
      simp (disch := first | omega | (exact Nat.le_of_ble_eq_true rfl) | assumption | rfl) only [e62_0, e62_1, e62_4, e62_7, e62_8, e62_11, e62_14, e62_15, e62_18, e62_21, e62_22, c_person, bindS, tL1, app1, if_neg hp]
      rfl
    · unfold den
      rw [show ent 112 [(.inr (.inr (some 63))), .inl p] = [some (.inr (.inr (some 63))), some (.inl p)] from rfl]
      simp (disch := first | omega | (exact Nat.le_of_ble_eq_true rfl) | assumption | rfl) only [e112_0, e112_1, e112_4, e112_7, e112_8, e112_11, e112_12, e112_15, e112_16, e112_17, e112_20, e112_21, e112_24, e112_25, e112_26, e112_29, e112_30, c_mperson, bindS, tL1, app1, if_neg hp]
      rfl
