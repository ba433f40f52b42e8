/-! the plain calls: wipe, say, set, drop, forget, free, told -/
theorem mw_case {α : Type} {c : Prop} [Decidable c] {a b x : α} (h1 : c → a = x) (h2 : ¬ c → b = x) : (if c then a else b) = x := by
  by_cases h : c
  · rw [if_pos h]; exact h1 h
  · rw [if_neg h]; exact h2 h
theorem op_wipe {L : Nat} {K : Int} {M : PM} (h : Inv K M) : ∃ r M1 M2, den 1999 57 [(.inr (.inr (some 1)))] (SH L) M = some (some (.inl r), SH L, M1) ∧ M1 0 = M 0 ∧ den 1999 97 [(.inr (.inr (some 63)))] (SH L) M1 = some (some (.inl r), SH L, M2) ∧ Inv K M2 := by
  refine ⟨M 63 8, setC M 32 1 0, setC (setC M 32 1 0) 63 8 0, ?_, setC_row (by decide), ?_, ?_⟩
  · have o := io_32 (L := L)
    have e : den 1998 29 [(.inr (.inr (some 32)))] (SH L) M = some (some (.inl (M 32 1)), SH L, setC M 32 1 0) := by
      unfold den
      rw [show ent 29 [(.inr (.inr (some 32)))] = [some (.inr (.inr (some 32))), none] from rfl]
      simp only [e29_0, e29_1, e29_4, e29_5, e29_6, e29_7, e29_10, e29_11, gf_32_1, pi_32_1, bindS]
    unfold den
    rw [show ent 57 [(.inr (.inr (some 1)))] = [some (.inr (.inr (some 1)))] from rfl]
    simp (disch := first | omega | (exact Nat.le_of_ble_eq_true rfl) | assumption | rfl) only [e57_0, e57_1, e57_4, e57_7, gf_1_3, bindS, e, tL1, app1]
    rw [h.2.2.2.1.2.1]
  · unfold den
    rw [show ent 97 [(.inr (.inr (some 63)))] = [some (.inr (.inr (some 63))), none] from rfl]
    simp only [e97_0, e97_1, e97_4, e97_5, e97_6, e97_7, e97_10, e97_11, gf_63_8, pi_63_8, bindS]
    rw [show setC M 32 1 0 63 = M 63 from setC_row (by decide)]
  · obtain ⟨h1, h2, h3, ⟨t1, t2, t3, t4⟩, h5, h6⟩ := h
    have s : ∀ a, a ≠ 32 → a ≠ 63 → setC (setC M 32 1 0) 63 8 0 a = M a := fun a x y => by rw [setC_row y, setC_row x]
    have s3 : ∀ j, j ≠ 8 → setC (setC M 32 1 0) 63 8 0 63 j = M 63 j := fun j x => by rw [setC_i x, setC_row (by decide)]
    refine ⟨NowI_same h1 (fun a ha => s a (by omega) (by omega)) (fun j hj => s3 j (by omega)), Img0_same h2 (fun a ha => s a (by omega) (by omega)), Img1_same h3 (fun a ha => s a (by omega) (by omega)), ⟨?_, ?_, ?_, ?_⟩, ?_, ?_⟩
    · rw [setC_s]; decide
    · rw [setC_row (by decide), setC_s, setC_s]
    · rw [s 33 (by decide) (by decide), s 67 (by decide) (by decide)]; exact t3
    · rw [setC_s]; intro i hi; omega
    · rw [s 41 (by decide) (by decide)]; exact h5
    · rw [s3 12 (by decide)]; exact h6
theorem op_say {L : Nat} {K : Int} {M : PM} (h : Inv K M) (x : Int) : ∃ r M1 M2, den 1999 56 [(.inr (.inr (some 1))), .inl x] (SH L) M = some (some (.inl r), SH L, M1) ∧ M1 0 = M 0 ∧ den 1999 96 [(.inr (.inr (some 63))), .inl x] (SH L) M1 = some (some (.inl r), SH L, M2) ∧ Inv K M2 := by
  obtain ⟨h1, h2, h3, ⟨t1, t2, t3, t4⟩, h5, h6⟩ := id h
  have o := io_32 (L := L)
  by_cases hx : 33 ≤ x ∧ x ≤ 126
  · by_cases hf : M 63 8 = 60
    · refine ⟨-4, M, M, ?_, rfl, ?_, h⟩
      · have e : den 1998 28 [(.inr (.inr (some 32))), .inl x] (SH L) M = some (some (.inl 0), SH L, M) := by
          unfold den
          rw [show ent 28 [(.inr (.inr (some 32))), .inl x] = [some (.inr (.inr (some 32))), some (.inl x)] from rfl]
          simp only [e28_0, e28_1, e28_4, e28_6, e28_9, e28_10z, e28_10o, e28_10, e28_11, e28_12, e28_15, e28_16, e28_19, e28_20, e28_23, e28_24i, e28_24, e28_25, e28_28, e28_29, e28_30, e28_33, e28_34z, e28_34o, e28_34, gf_32_1, bindS, t2, hf]
          rw [if_neg (by decide)]
        unfold den
        rw [show ent 56 [(.inr (.inr (some 1))), .inl x] = [some (.inr (.inr (some 1))), some (.inl x)] from rfl]
        simp (disch := first | omega | (exact Nat.le_of_ble_eq_true rfl) | assumption | rfl) only [e56_0, e56_1, e56_3, e56_5, e56_8, e56_11, e56_13, e56_14, e56_15, e56_18, e56_19, e56_22, e56_25, e56_26, e56_29, e56_32, e56_35, e56_37, c_within, gf_1_3, bindS, e, tL1, app1, if_pos hx]
        rfl
      · unfold den
        rw [show ent 96 [(.inr (.inr (some 63))), .inl x] = [some (.inr (.inr (some 63))), some (.inl x)] from rfl]
        simp (disch := first | omega | (exact Nat.le_of_ble_eq_true rfl) | assumption | rfl) only [e96_0, e96_1, e96_3, e96_5, e96_8, e96_11, e96_13, e96_14, e96_15, e96_18, e96_20, e96_23, e96_25, e96_26, e96_27, e96_30, e96_31, e96_34, e96_35, e96_36, e96_37i, e96_37, e96_38, e96_41, e96_42, e96_43, e96_46, e96_47, e96_50, c_in, gf_63_8, bindS, tL1, app1, if_pos hx, hf]
        rfl
    · have hn : M 63 8 < 60 := by omega
      have eT : ((M 63 8).toNat : Int) = M 63 8 := by omega
      refine ⟨M 63 8 + 1, setC (setC M 33 (M 63 8).toNat x) 32 1 (M 63 8 + 1), setC (setC (setC (setC M 33 (M 63 8).toNat x) 32 1 (M 63 8 + 1)) 67 (M 63 8).toNat x) 63 8 (M 63 8 + 1), ?_, ?_, ?_, ?_⟩
      · have e : den 1998 28 [(.inr (.inr (some 32))), .inl x] (SH L) M = some (some (.inl 1), SH L, setC (setC M 33 (M 63 8).toNat x) 32 1 (M 63 8 + 1)) := by
          unfold den
          rw [show ent 28 [(.inr (.inr (some 32))), .inl x] = [some (.inr (.inr (some 32))), some (.inl x)] from rfl]
          simp only [e28_0, e28_1, e28_4, e28_6, e28_9, e28_10z, e28_10o, e28_10, e28_11, e28_12, e28_15, e28_16, e28_19, e28_20, e28_23, e28_24i, e28_24, e28_25, e28_28, e28_29, e28_30, e28_33, e28_34z, e28_34o, e28_34, gf_32_1, bindS, t2]
          rw [if_pos hn]
          simp (disch := first | omega | (exact Nat.le_of_ble_eq_true rfl) | assumption | rfl) only [e28_0, e28_1, e28_4, e28_6, e28_9, e28_10z, e28_10o, e28_10, e28_11, e28_12, e28_15, e28_16, e28_19, e28_20, e28_23, e28_24i, e28_24, e28_25, e28_28, e28_29, e28_30, e28_33, e28_34z, e28_34o, e28_34, gf_32_0, gf_32_1, bindS, t2, c_put_in ar_33 t1.1 hn, tL0, app0, pi_32_1]
          rw [show setC M 33 (M 63 8).toNat x 32 1 = M 63 8 by rw [setC_row (by decide)]; exact t2, wr_id (by omega) (by omega)]
        have e2 : ∀ M : PM, den 1998 26 [(.inr (.inr (some 32)))] (SH L) M = some (some (.inl (M 32 1)), SH L, M) := by
          intro M
          unfold den
          rw [show ent 26 [(.inr (.inr (some 32)))] = [some (.inr (.inr (some 32)))] from rfl]
          simp only [e26_0, e26_1, e26_4, gf_32_1, bindS]
        unfold den
        rw [show ent 56 [(.inr (.inr (some 1))), .inl x] = [some (.inr (.inr (some 1))), some (.inl x)] from rfl]
        simp (disch := first | omega | (exact Nat.le_of_ble_eq_true rfl) | assumption | rfl) only [e56_0, e56_1, e56_3, e56_5, e56_8, e56_11, e56_13, e56_14, e56_15, e56_18, e56_19, e56_22, e56_25, e56_26, e56_29, e56_32, e56_35, e56_37, c_within, gf_1_3, bindS, e, e2, tL1, app1, if_pos hx]
        rw [if_neg (by decide)]
        simp (disch := first | omega | (exact Nat.le_of_ble_eq_true rfl) | assumption | rfl) only [e56_0, e56_1, e56_3, e56_5, e56_8, e56_11, e56_13, e56_14, e56_15, e56_18, e56_19, e56_22, e56_25, e56_26, e56_29, e56_32, e56_35, e56_37, c_within, gf_1_3, bindS, e, e2, tL1, app1, if_pos hx, setC_s]
        rfl
      · rw [setC_row (by decide), setC_row (by decide)]
      · have e3 : ∀ j, setC (setC M 33 (M 63 8).toNat x) 32 1 (M 63 8 + 1) 63 j = M 63 j := fun j => by rw [setC_row (by decide), setC_row (by decide)]
        unfold den
        rw [show ent 96 [(.inr (.inr (some 63))), .inl x] = [some (.inr (.inr (some 63))), some (.inl x)] from rfl]
        simp (disch := first | omega | (exact Nat.le_of_ble_eq_true rfl) | assumption | rfl) only [e96_0, e96_1, e96_3, e96_5, e96_8, e96_11, e96_13, e96_14, e96_15, e96_18, e96_20, e96_23, e96_25, e96_26, e96_27, e96_30, e96_31, e96_34, e96_35, e96_36, e96_37i, e96_37, e96_38, e96_41, e96_42, e96_43, e96_46, e96_47, e96_50, c_in, gf_63_8, gf_63_9, bindS, tL1, app1, if_pos hx, e3]
        rw [if_neg (by decide), if_neg hf]
        simp (disch := first | omega | (exact Nat.le_of_ble_eq_true rfl) | assumption | rfl) only [e96_0, e96_1, e96_3, e96_5, e96_8, e96_11, e96_13, e96_14, e96_15, e96_18, e96_20, e96_23, e96_25, e96_26, e96_27, e96_30, e96_31, e96_34, e96_35, e96_36, e96_37i, e96_37, e96_38, e96_41, e96_42, e96_43, e96_46, e96_47, e96_50, gf_63_8, gf_63_9, bindS, e3, aput_in ar_67 t1.1 hn, pi_63_8]
        rw [show setC (setC (setC M 33 (M 63 8).toNat x) 32 1 (M 63 8 + 1)) 67 (M 63 8).toNat x 63 8 = M 63 8 by rw [setC_row (by decide)]; exact e3 8, wr_id (by omega) (by omega), setC_s]
      · have s : ∀ a, a ≠ 32 → a ≠ 63 → a ≠ 33 → a ≠ 67 → setC (setC (setC (setC M 33 (M 63 8).toNat x) 32 1 (M 63 8 + 1)) 67 (M 63 8).toNat x) 63 8 (M 63 8 + 1) a = M a := fun a y1 y2 y3 y4 => by rw [setC_row y2, setC_row y4, setC_row y1, setC_row y3]
        have s3 : ∀ j, j ≠ 8 → setC (setC (setC (setC M 33 (M 63 8).toNat x) 32 1 (M 63 8 + 1)) 67 (M 63 8).toNat x) 63 8 (M 63 8 + 1) 63 j = M 63 j := fun j y => by rw [setC_i y, setC_row (by decide), setC_row (by decide), setC_row (by decide)]
        refine ⟨NowI_same h1 (fun a ha => s a (by omega) (by omega) (by omega) (by omega)) (fun j hj => s3 j (by omega)), Img0_same h2 (fun a ha => s a (by omega) (by omega) (by omega) (by omega)), Img1_same h3 (fun a ha => s a (by omega) (by omega) (by omega) (by omega)), ⟨?_, ?_, ?_, ?_⟩, ?_, ?_⟩
        · rw [setC_s]; omega
        · rw [setC_row (by decide), setC_row (by decide), setC_s, setC_s]
        · intro i hi
          rw [setC_row (by decide), setC_row (by decide), setC_row (by decide)]
          rw [show setC (setC (setC (setC M 33 (M 63 8).toNat x) 32 1 (M 63 8 + 1)) 67 (M 63 8).toNat x) 63 8 (M 63 8 + 1) 67 i = setC (setC (setC M 33 (M 63 8).toNat x) 32 1 (M 63 8 + 1)) 67 (M 63 8).toNat x 67 i by rw [setC_row (by decide)]]
          by_cases hi2 : i = (M 63 8).toNat
          · subst hi2; rw [setC_s, setC_s]
          · rw [setC_i hi2, setC_i hi2, setC_row (by decide), setC_row (by decide)]; exact t3 i hi
        · intro i hi
          rw [setC_s] at hi
          rw [setC_row (by decide)]
          by_cases hi2 : i = (M 63 8).toNat
          · subst hi2; rw [setC_s]; exact hx
          · rw [setC_i hi2, setC_row (by decide), setC_row (by decide)]; exact t4 i (by omega)
        · rw [s 41 (by decide) (by decide) (by decide) (by decide)]; exact h5
        · rw [s3 12 (by decide)]; exact h6
  · refine ⟨-2, M, M, ?_, rfl, ?_, h⟩
    · unfold den
      rw [show ent 56 [(.inr (.inr (some 1))), .inl x] = [some (.inr (.inr (some 1))), some (.inl x)] from rfl]
      simp (disch := first | omega | (exact Nat.le_of_ble_eq_true rfl) | assumption | rfl) only [e56_0, e56_1, e56_3, e56_5, e56_8, e56_11, e56_13, e56_14, e56_15, e56_18, e56_19, e56_22, e56_25, e56_26, e56_29, e56_32, e56_35, e56_37, c_within, bindS, tL1, app1, if_neg hx]
      rfl
    · unfold den
      rw [show ent 96 [(.inr (.inr (some 63))), .inl x] = [some (.inr (.inr (some 63))), some (.inl x)] from rfl]
      simp (disch := first | omega | (exact Nat.le_of_ble_eq_true rfl) | assumption | rfl) only [e96_0, e96_1, e96_3, e96_5, e96_8, e96_11, e96_13, e96_14, e96_15, e96_18, e96_20, e96_23, e96_25, e96_26, e96_27, e96_30, e96_31, e96_34, e96_35, e96_36, e96_37i, e96_37, e96_38, e96_41, e96_42, e96_43, e96_46, e96_47, e96_50, c_in, bindS, tL1, app1, if_neg hx]
      rfl
