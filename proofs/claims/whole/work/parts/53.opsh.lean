/-! image, restore: the invariant; image agrees -/
theorem Img_keep {K : Int} {M M2 : PM} {c n : Nat} (h : ImgI K M c n) (hc : ∀ a, c ≤ a → a ≤ c + 9 → M2 a = M a) (h71 : ∀ j, 48 * n ≤ j → j < 48 * n + 44 → M2 71 j = M 71 j) (h72 : M2 72 n = M 72 n) : ImgI K M2 c n := by
  obtain ⟨i1, i2, i3⟩ := h
  refine ⟨by rw [hc c (by omega) (by omega), h72]; exact i1, by rw [h72]; exact i2, fun z => ?_⟩
  rw [h72] at z
  obtain ⟨⟨a1, a2, a3, a4, a5, a6, a7, a8⟩, ⟨b1, b2, b3, b4, b5, b6, b7, b8⟩⟩ := i3 z
  unfold SV CS
  rw [h71 (48 * n + 39) (by omega) (by omega), h71 (48 * n + 40) (by omega) (by omega), h71 (48 * n + 41) (by omega) (by omega), h71 (48 * n + 42) (by omega) (by omega), h71 (48 * n + 43) (by omega) (by omega),
    hc (c + 1) (by omega) (by omega), hc (c + 3) (by omega) (by omega), hc (c + 7) (by omega) (by omega)]
  refine ⟨⟨fun p hp => ?_, a2, a3, a4, a5, a6, fun i hi => ?_, fun i hi => ?_⟩, fun p hp => ?_, b2, b3, b4, b5, b6, fun i hi => ?_, fun i hi => ?_⟩
  · dsimp only; rw [h71 (48 * n + p) (by omega) (by omega)]; exact a1 p hp
  · dsimp only; rw [h71 (48 * n + 6 + 3 * i) (by omega) (by omega), h71 (48 * n + 6 + (3 * i + 1)) (by omega) (by omega), h71 (48 * n + 6 + (3 * i + 2)) (by omega) (by omega)]; exact a7 i hi
  · dsimp only; rw [h71 (48 * n + 27 + 2 * i) (by omega) (by omega)]; exact a8 i hi
  · dsimp only; rw [hc (c + 1 + 1) (by omega) (by omega), h71 (48 * n + p) (by omega) (by omega)]; exact b1 p hp
  · dsimp only; rw [hc (c + 3 + 1) (by omega) (by omega), hc (c + 3 + 2) (by omega) (by omega), hc (c + 3 + 3) (by omega) (by omega), h71 (48 * n + 6 + 3 * i) (by omega) (by omega), h71 (48 * n + 6 + (3 * i + 1)) (by omega) (by omega), h71 (48 * n + 6 + (3 * i + 2)) (by omega) (by omega)]; exact b7 i hi
  · dsimp only; rw [hc (c + 7 + 1) (by omega) (by omega), hc (c + 7 + 2) (by omega) (by omega), h71 (48 * n + 27 + 2 * i) (by omega) (by omega), h71 (48 * n + 27 + (2 * i + 1)) (by omega) (by omega)]; exact b8 i hi
theorem image_inv {K : Int} {M : PM} {s n : Nat} (h : Inv K M) (hs : s = 12 ∧ n = 0 ∨ s = 22 ∧ n = 1) : Inv K (setC (imgM (48 * n) (setC (cps s 2 (cpt s 2 (cpv s 2 M))) s 3 1)) 72 n 1) := by
  obtain ⟨h1, h2, h3, ht, h5, h6⟩ := id h
  have cv := cp_v (s := s) (w := 2) (M := M)
  have ct := cp_t (s := s) (w := 2) (M := M) (by omega)
  have cs := cp_s (s := s) (w := 2) (M := M) (by omega)
  have cr : ∀ a, a < s + 1 ∨ s + 9 < a → cps s 2 (cpt s 2 (cpv s 2 M)) a = M a := fun a ha => cp_row ha
  generalize cps s 2 (cpt s 2 (cpv s 2 M)) = C at *
  have r1 : ∀ a, a < s ∨ s + 9 < a → setC C s 3 1 a = M a := fun a ha => by rw [setC_row (by omega)]; exact cr a (by omega)
  have q1 : ∀ a, a ≠ s → setC C s 3 1 a = C a := fun a ha => setC_row ha
  have q3 : setC C s 3 1 s 3 = 1 := setC_s
  generalize setC C s 3 1 = M1 at *
  have r2 : ∀ a, a ≠ 71 → a ≠ 72 → setC (imgM (48 * n) M1) 72 n 1 a = M1 a := fun a x y => by rw [setC_row y, imgM_row x]
  have m71 : setC (imgM (48 * n) M1) 72 n 1 71 = imgM (48 * n) M1 71 := setC_row (by decide)
  have m72 : setC (imgM (48 * n) M1) 72 n 1 72 n = 1 := setC_s
  have m72' : ∀ j, j ≠ n → setC (imgM (48 * n) M1) 72 n 1 72 j = M 72 j := fun j hj => by rw [setC_i hj, imgM_row (by decide), r1 72 (by omega)]
  generalize hM2 : setC (imgM (48 * n) M1) 72 n 1 = M2 at *
  have r : ∀ a, a < s ∨ s + 9 < a → a ≠ 71 → a ≠ 72 → M2 a = M a := fun a x y z => by rw [r2 a y z, r1 a x]
  have n1 : NowI K M1 := NowI_same h1 (fun a ha => r1 a (by omega)) (fun j hj => by rw [r1 63 (by omega)])
  have new : ImgI K M2 s n := ImgI_new n1 (by rw [r2 s (by omega) (by omega)]; exact q3) m72
    (fun p hp => by rw [r2 _ (by omega) (by omega), q1 _ (by omega), r1 4 (by omega)]; exact cv.1 p hp)
    (by rw [r2 _ (by omega) (by omega), q1 _ (by omega), r1 3 (by omega)]; exact cv.2.1)
    (by rw [r2 _ (by omega) (by omega), q1 _ (by omega), r1 3 (by omega)]; exact cv.2.2.1)
    (by rw [r2 _ (by omega) (by omega), q1 _ (by omega), r1 3 (by omega)]; exact cv.2.2.2)
    (by rw [r2 _ (by omega) (by omega), q1 _ (by omega), r1 5 (by omega)]; exact ct.1)
    (fun i hi => by rw [r2 _ (by omega) (by omega), q1 _ (by omega), r1 6 (by omega), r2 (s + 5) (by omega) (by omega), q1 (s + 5) (by omega), r1 7 (by omega), r2 (s + 6) (by omega) (by omega), q1 (s + 6) (by omega), r1 8 (by omega)]; exact ct.2 i hi)
    (by rw [r2 _ (by omega) (by omega), q1 _ (by omega), r1 9 (by omega)]; exact cs.1)
    (fun i hi => by rw [r2 _ (by omega) (by omega), q1 _ (by omega), r1 10 (by omega), r2 (s + 9) (by omega) (by omega), q1 (s + 9) (by omega), r1 11 (by omega)]; exact cs.2 i hi)
    m71
  refine ⟨NowI_same h1 (fun a ha => r a (by omega) (by omega) (by omega)) (fun j hj => by rw [r 63 (by omega) (by decide) (by decide)]), ?_, ?_, TxtI_same ht (fun a ha => r a (by omega) (by omega) (by omega)) (by rw [r 32 (by omega) (by decide) (by decide)]) (by rw [r 63 (by omega) (by decide) (by decide)]), ?_, ?_⟩
  · rcases hs with ⟨rfl, rfl⟩ | ⟨rfl, rfl⟩
    · exact new
    · exact Img_keep h2 (fun a x y => r a (by omega) (by omega) (by omega)) (fun j x y => by rw [m71, imgM_no (by omega), r1 71 (by decide)]) (m72' 0 (by decide))
  · rcases hs with ⟨rfl, rfl⟩ | ⟨rfl, rfl⟩
    · exact Img_keep h3 (fun a x y => r a (by omega) (by omega) (by omega)) (fun j x y => by rw [m71, imgM_no (by omega), r1 71 (by decide)]) (m72' 1 (by decide))
    · exact new
  · rw [r 41 (by omega) (by decide) (by decide)]; exact h5
  · rw [r 63 (by omega) (by decide) (by decide)]; exact h6
theorem op_image {L : Nat} {K : Int} {M : PM} (h : Inv K M) (n : Int) : ∃ r M1 M2, den 1999 76 [(.inr (.inr (some 1))), .inl n] (SH L) M = some (some (.inl r), SH L, M1) ∧ M1 0 = M 0 ∧ den 1999 131 [(.inr (.inr (some 63))), .inl n] (SH L) M1 = some (some (.inl r), SH L, M2) ∧ Inv K M2 := by
  have o1 := io_1 (L := L)
  have o2 := io_2 (L := L)
  have u : ∀ {x}, den 1999 76 [(.inr (.inr (some 1))), .inl n] (SH L) M = x ↔ ev 1999 76 0 [some (.inr (.inr (some 1))), some (.inl n)] [] (SH L) M = x := by
    intro x
    unfold den
    rw [show ent 76 [(.inr (.inr (some 1))), .inl n] = [some (.inr (.inr (some 1))), some (.inl n)] from rfl]
  have u2 : ∀ {x} {M : PM}, den 1999 131 [(.inr (.inr (some 63))), .inl n] (SH L) M = x ↔ ev 1999 131 0 [some (.inr (.inr (some 63))), some (.inl n), none, none] [] (SH L) M = x := by
    intro x M
    unfold den
    rw [show ent 131 [(.inr (.inr (some 63))), .inl n] = [some (.inr (.inr (some 63))), some (.inl n), none, none] from rfl]
  by_cases hn : 0 ≤ n ∧ n ≤ 1
  rotate_left
  · exact ⟨-2, M, M, u.mpr (by simp (disch := first | omega | (exact Nat.le_of_ble_eq_true rfl) | assumption | rfl) only [e76_0, e76_1, e76_2, e76_3, e76_6, e76_9, e76_11, e76_12, e76_13, e76_14, e76_17, e76_18, e76_21, e76_24, e76_25, e76_26, e76_29, e76_30, e76_33, e76_34, c_within, if_neg hn, bindS, tL0, tL1, app0, app1, if_true, if_false, eq_self, Int.reduceEq, Int.reduceLT, Int.reduceLE, Int.reduceNeg, Int.reduceToNat]), rfl, u2.mpr (by simp (disch := first | omega | (exact Nat.le_of_ble_eq_true rfl) | assumption | rfl) only [e131_0, e131_1, e131_2, e131_3, e131_6, e131_9, e131_11, e131_12, e131_14, e131_15, e131_16, e131_17, e131_18, e131_20, e131_22, e131_25, e131_26, e131_29, e131_30, e131_31, e131_32, e131_33, e131_36, e131_37, e131_38, e131_39, e131_42, e131_45, e131_46, e131_48, e131_50, e131_53, e131_54, e131_57, e131_58, e131_60, e131_61, e131_62, e131_63, e131_64, e131_67, e131_68, e131_69, e131_70, e131_73, e131_76, e131_77, e131_79, e131_81, e131_84, e131_85, e131_88, e131_89, e131_91, e131_92, e131_93, e131_94, e131_95, e131_98, e131_99, e131_100, e131_101, e131_104, e131_107, e131_108, e131_111, e131_112, e131_114, e131_115, e131_116, e131_119, e131_120, e131_121, e131_124, e131_125, e131_127, e131_128, e131_129, e131_132, e131_133, e131_134, e131_137, e131_138, e131_140, e131_141, e131_142, e131_145, e131_146, e131_147, e131_150, e131_151, e131_153, e131_154, e131_155, e131_158, e131_159, e131_160, e131_163, e131_164, e131_166, e131_167, e131_168, e131_171, e131_172, e131_173, e131_176, e131_177, e131_178, e131_179, e131_180, c_in, if_neg hn, bindS, tL0, tL1, app0, app1, if_true, if_false, eq_self, Int.reduceEq, Int.reduceLT, Int.reduceLE, Int.reduceNeg, Int.reduceToNat]), h⟩
  obtain ⟨m, rfl⟩ : ∃ m : Nat, n = (m : Int) := ⟨n.toNat, by omega⟩
  have hm : m < 2 := by omega
  have cI : ∀ M : PM, den 1998 85 [(.inr (.inr (some 1))), .inl (m : Int)] (SH L) M = some (some (.inr (.inr (some (if m = 0 then 12 else 22)))), SH L, M) := fun M => c_imageOf hm
  rcases Nat.lt_or_ge m 1 with hm0 | hm1
  · have : m = 0 := by omega
    subst this
    have o12 := io_12 (L := L)
    have cS := c_scene (M := M) (d := 1996) (SC_12 (L := L)) (SC_2 (L := L)) (by decide)
    rw [if_pos rfl] at cI
    refine ⟨1, setC (cps 12 2 (cpt 12 2 (cpv 12 2 M))) 12 3 1, _, u.mpr ?_, by rw [setC_row (by decide), cp_row (by decide)], u2.mpr (mimage (by decide)), image_inv h (Or.inl ⟨rfl, rfl⟩)⟩
    simp (disch := first | omega | (exact Nat.le_of_ble_eq_true rfl) | assumption | rfl) only [e76_0, e76_1, e76_2, e76_3, e76_6, e76_9, e76_11, e76_12, e76_13, e76_14, e76_17, e76_18, e76_21, e76_24, e76_25, e76_26, e76_29, e76_30, e76_33, e76_34, c_within, if_pos hn, gf_1_0, cI, cS, pi_12_3, Nat.reduceAdd, bindS, tL0, tL1, app0, app1, if_true, if_false, eq_self, Int.reduceEq, Int.reduceLT, Int.reduceLE, Int.reduceNeg, Int.reduceToNat]
  · have : m = 1 := by omega
    subst this
    have o22 := io_22 (L := L)
    have cS := c_scene (M := M) (d := 1996) (SC_22 (L := L)) (SC_2 (L := L)) (by decide)
    rw [if_neg (by decide)] at cI
    refine ⟨1, setC (cps 22 2 (cpt 22 2 (cpv 22 2 M))) 22 3 1, _, u.mpr ?_, by rw [setC_row (by decide), cp_row (by decide)], u2.mpr (mimage (by decide)), image_inv h (Or.inr ⟨rfl, rfl⟩)⟩
    simp (disch := first | omega | (exact Nat.le_of_ble_eq_true rfl) | assumption | rfl) only [e76_0, e76_1, e76_2, e76_3, e76_6, e76_9, e76_11, e76_12, e76_13, e76_14, e76_17, e76_18, e76_21, e76_24, e76_25, e76_26, e76_29, e76_30, e76_33, e76_34, c_within, if_pos hn, gf_1_0, cI, cS, pi_22_3, Nat.reduceAdd, bindS, tL0, tL1, app0, app1, if_true, if_false, eq_self, Int.reduceEq, Int.reduceLT, Int.reduceLE, Int.reduceNeg, Int.reduceToNat]
