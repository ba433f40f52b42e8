/-! filled -/
def hbB (G sg : Nat → Int) : Nat → Nat → Bool
  | 0, _ => true
  | k + 1, i => if G (sg (2 * i)).toNat = sg (2 * i + 1) then hbB G sg k (i + 1) else false
theorem hb_E {G G' sg : Nat → Int} {n : Nat} (h : EqG G G') (hs : ∀ i, i < n → 0 ≤ sg (2 * i) ∧ sg (2 * i) ≤ 5) : ∀ k i, i + k = n → hbB G sg k i = hbB G' sg k i := by
  intro k
  induction k with
  | zero => intro i _; rfl
  | succ k ih =>
    intro i hi
    have := hs i (by omega)
    unfold hbB
    rw [h _ (by omega), ih (i + 1) (by omega)]
theorem hold_loop {L n : Nat} {M : PM} {sg : Nat → Int} (d : Nat) (hn : n ≤ 6) (h9 : M 9 2 = (n : Int)) (h10 : ∀ i, i < 6 → M 10 i = sg (2 * i) ∧ M 11 i = sg (2 * i + 1)) (hs : ∀ i, i < n → 0 ≤ sg (2 * i) ∧ sg (2 * i) ≤ 5) : ∀ k i, i + k = n →
    ev (d + 2) 14 2 [some (.inr (.inr (some 9))), some (.inr (.inr (some 37))), some (.inl (i : Int))] [] (SH L) M = some (some (.inl (if hbB (M 38) sg k i = true then 1 else 0)), SH L, M) := by
  intro k
  have o37 := io_37 (L := L)
  induction k with
  | zero =>
    intro i hi
    have hi : i = n := by omega
    subst hi
    have hle : (i : Int) ≤ (i : Int) := Int.le_refl _
    have e : hbB (M 38) sg 0 i = true := rfl
    rw [e14_2, e]
    simp (disch := first | omega | (exact Nat.le_of_ble_eq_true rfl) | assumption | rfl) only [e14_0, e14_1, e14_3, e14_4, e14_7, e14_10, e14_11, e14_12, e14_15, e14_16, e14_19, e14_22, e14_23, e14_26, e14_27, e14_30, e14_33, e14_34z, e14_34o, e14_34, e14_35, e14_38, e14_41, e14_42z, e14_42o, e14_42, gf_9_2, h9, hle, ↓reduceIte, true_and, and_true, false_and, and_false, bindS, tL0, tL1, app0, app1, eq_self, Int.reduceEq, Int.reduceLT, Int.reduceLE, Int.reduceNeg, Int.reduceToNat]
  | succ k ih =>
    intro i hi
    have hlt : ¬ (n : Int) ≤ (i : Int) := by omega
    have hsi := hs i (by omega)
    obtain ⟨q1, q2⟩ := h10 i (by omega)
    have g10 := c_at_in (M := M) (d := d + 1) (ar_10 (L := L)) (i := (i : Int)) (by omega) (by omega)
    have g11 := c_at_in (M := M) (d := d + 1) (ar_11 (L := L)) (i := (i : Int)) (by omega) (by omega)
    rw [tnN, q1] at g10
    rw [tnN, q2] at g11
    have cg := c_glass_in (M := M) (d := d) (vl_37 (L := L)) (i := sg (2 * i)) (by omega) (by omega)
    rw [show (37 + 1) = 38 from rfl] at cg
    have wi := wr1 i (by omega)
    unfold hbB
    rw [e14_2]
    by_cases hg : M 38 (sg (2 * i)).toNat = sg (2 * i + 1)
    · have h := ih (i + 1) (by omega)
      simp only [if_pos hg]
      simp (disch := first | omega | (exact Nat.le_of_ble_eq_true rfl) | assumption | rfl) only [e14_0, e14_1, e14_3, e14_4, e14_7, e14_10, e14_11, e14_12, e14_15, e14_16, e14_19, e14_22, e14_23, e14_26, e14_27, e14_30, e14_33, e14_34z, e14_34o, e14_34, e14_35, e14_38, e14_41, e14_42z, e14_42o, e14_42, gf_9_0, gf_9_1, gf_9_2, h9, hlt, g10, g11, cg, hg, wi, ↓reduceIte, true_and, and_true, false_and, and_false, bindS, tL0, tL1, app0, app1, eq_self, Int.reduceEq, Int.reduceLT, Int.reduceLE, Int.reduceNeg, Int.reduceToNat]
      exact h
    · simp only [if_neg hg]
      simp (disch := first | omega | (exact Nat.le_of_ble_eq_true rfl) | assumption | rfl) only [e14_0, e14_1, e14_3, e14_4, e14_7, e14_10, e14_11, e14_12, e14_15, e14_16, e14_19, e14_22, e14_23, e14_26, e14_27, e14_30, e14_33, e14_34z, e14_34o, e14_34, e14_35, e14_38, e14_41, e14_42z, e14_42o, e14_42, gf_9_0, gf_9_1, gf_9_2, h9, hlt, g10, g11, cg, hg, wi, ↓reduceIte, true_and, and_true, false_and, and_false, bindS, tL0, tL1, app0, app1, eq_self, Int.reduceEq, Int.reduceLT, Int.reduceLE, Int.reduceNeg, Int.reduceToNat]
      rfl
theorem mhold_loop {L n d : Nat} {MQ : PM} {sg G : Nat → Int} {l1 l2 l3 l4 l5 : Option PV} (hn : n ≤ 6) (h6 : MQ 63 6 = (n : Int)) (h66 : MQ 66 = sg) (h68 : MQ 68 = G) (hs : ∀ i, i < n → 0 ≤ sg (2 * i) ∧ sg (2 * i) ≤ 5) : ∀ k i, i + k = n → ∃ l7',
    ev d 128 73 [some (.inr (.inr (some 63))), l1, l2, l3, l4, l5, some (.inl 1), some (.inl (i : Int))] [] (SH L) MQ = ev d 128 128 [some (.inr (.inr (some 63))), l1, l2, l3, l4, l5, some (.inl (if hbB G sg k i = true then 1 else 0)), l7'] [] (SH L) MQ := by
  intro k
  induction k with
  | zero =>
    intro i hi
    have hi : i = n := by omega
    subst hi
    have hle : (i : Int) ≤ (i : Int) := Int.le_refl _
    refine ⟨some (.inl (i : Int)), ?_⟩
    have e : hbB G sg 0 i = true := rfl
    rw [e128_73, e]
    simp (disch := first | omega | (exact Nat.le_of_ble_eq_true rfl) | assumption | rfl) only [e128_0, e128_1, e128_4, e128_7, e128_9, e128_10, e128_11, e128_13, e128_16, e128_17, e128_18, e128_19, e128_20, e128_21, e128_22, e128_25, e128_28, e128_29, e128_31, e128_32, e128_33, e128_36, e128_39, e128_40, e128_41, e128_43, e128_45, e128_46, e128_48, e128_50, e128_51, e128_54, e128_55, e128_57, e128_60, e128_63, e128_64, e128_67, e128_68, e128_70, e128_71, e128_75, e128_76, e128_79, e128_82, e128_84, e128_87, e128_88, e128_91, e128_92, e128_95, e128_96, e128_98, e128_99, e128_100, e128_101, e128_102, e128_105, e128_106, e128_108, e128_109, e128_110, e128_111, e128_112, e128_115, e128_116, e128_119, e128_120, e128_122, e128_125, e128_130, e128_133, e128_135, e128_138, e128_140, e128_143, e128_145, e128_147, e128_150, e128_153, e128_156, e128_157, e128_158, e128_161, e128_162, e128_163, e128_165, e128_168, e128_169, e128_170, e128_171, e128_174, e128_175, e128_176, e128_179, e128_182, e128_184, e128_185, e128_187, e128_189, e128_190, e128_193, e128_194, e128_195, e128_197, e128_199, e128_200, e128_203, e128_205, e128_207, e128_208, e128_210, e128_213, e128_216, e128_218, e128_220, e128_221, gf_63_6, h6, hle, ↓reduceIte, true_and, and_true, false_and, and_false, bindS, tL0, tL1, app0, app1, eq_self, Int.reduceEq, Int.reduceLT, Int.reduceLE, Int.reduceNeg, Int.reduceToNat]
  | succ k ih =>
    intro i hi
    have hlt : ¬ (n : Int) ≤ (i : Int) := by omega
    have hsi := hs i (by omega)
    have w2 : wr (2 * (i : Int)) = ((2 * i : Nat) : Int) := by rw [wr_id (by omega) (by omega)]; omega
    have w3 : wr (((2 * i : Nat) : Int) + 1) = ((2 * i + 1 : Nat) : Int) := by rw [wr_id (by omega) (by omega)]; omega
    have g1 := aget_in (M := MQ) (ar_66 (L := L)) (i := ((2 * i : Nat) : Int)) (by omega) (by omega)
    have g2 := aget_in (M := MQ) (ar_66 (L := L)) (i := ((2 * i + 1 : Nat) : Int)) (by omega) (by omega)
    rw [tnN, h66] at g1 g2
    have g3 := aget_in (M := MQ) (ar_68 (L := L)) (i := sg (2 * i)) (by omega) (by omega)
    rw [h68] at g3
    have wi := wr1 i (by omega)
    unfold hbB
    by_cases hg : G (sg (2 * i)).toNat = sg (2 * i + 1)
    · obtain ⟨l7', h⟩ := ih (i + 1) (by omega)
      refine ⟨l7', ?_⟩
      simp only [if_pos hg]
      rw [e128_73]
      simp (disch := first | omega | (exact Nat.le_of_ble_eq_true rfl) | assumption | rfl) only [e128_0, e128_1, e128_4, e128_7, e128_9, e128_10, e128_11, e128_13, e128_16, e128_17, e128_18, e128_19, e128_20, e128_21, e128_22, e128_25, e128_28, e128_29, e128_31, e128_32, e128_33, e128_36, e128_39, e128_40, e128_41, e128_43, e128_45, e128_46, e128_48, e128_50, e128_51, e128_54, e128_55, e128_57, e128_60, e128_63, e128_64, e128_67, e128_68, e128_70, e128_71, e128_75, e128_76, e128_79, e128_82, e128_84, e128_87, e128_88, e128_91, e128_92, e128_95, e128_96, e128_98, e128_99, e128_100, e128_101, e128_102, e128_105, e128_106, e128_108, e128_109, e128_110, e128_111, e128_112, e128_115, e128_116, e128_119, e128_120, e128_122, e128_125, e128_130, e128_133, e128_135, e128_138, e128_140, e128_143, e128_145, e128_147, e128_150, e128_153, e128_156, e128_157, e128_158, e128_161, e128_162, e128_163, e128_165, e128_168, e128_169, e128_170, e128_171, e128_174, e128_175, e128_176, e128_179, e128_182, e128_184, e128_185, e128_187, e128_189, e128_190, e128_193, e128_194, e128_195, e128_197, e128_199, e128_200, e128_203, e128_205, e128_207, e128_208, e128_210, e128_213, e128_216, e128_218, e128_220, e128_221, gf_63_6, gf_63_7, gf_63_10, h6, hlt, w2, w3, g1, g2, g3, hg, wi, ↓reduceIte, true_and, and_true, false_and, and_false, bindS, tL0, tL1, app0, app1, eq_self, Int.reduceEq, Int.reduceLT, Int.reduceLE, Int.reduceNeg, Int.reduceToNat]
      exact h
    · refine ⟨some (.inl ((i + 1 : Nat) : Int)), ?_⟩
      simp only [if_neg hg]
      rw [e128_73]
      simp (disch := first | omega | (exact Nat.le_of_ble_eq_true rfl) | assumption | rfl) only [e128_0, e128_1, e128_4, e128_7, e128_9, e128_10, e128_11, e128_13, e128_16, e128_17, e128_18, e128_19, e128_20, e128_21, e128_22, e128_25, e128_28, e128_29, e128_31, e128_32, e128_33, e128_36, e128_39, e128_40, e128_41, e128_43, e128_45, e128_46, e128_48, e128_50, e128_51, e128_54, e128_55, e128_57, e128_60, e128_63, e128_64, e128_67, e128_68, e128_70, e128_71, e128_75, e128_76, e128_79, e128_82, e128_84, e128_87, e128_88, e128_91, e128_92, e128_95, e128_96, e128_98, e128_99, e128_100, e128_101, e128_102, e128_105, e128_106, e128_108, e128_109, e128_110, e128_111, e128_112, e128_115, e128_116, e128_119, e128_120, e128_122, e128_125, e128_130, e128_133, e128_135, e128_138, e128_140, e128_143, e128_145, e128_147, e128_150, e128_153, e128_156, e128_157, e128_158, e128_161, e128_162, e128_163, e128_165, e128_168, e128_169, e128_170, e128_171, e128_174, e128_175, e128_176, e128_179, e128_182, e128_184, e128_185, e128_187, e128_189, e128_190, e128_193, e128_194, e128_195, e128_197, e128_199, e128_200, e128_203, e128_205, e128_207, e128_208, e128_210, e128_213, e128_216, e128_218, e128_220, e128_221, gf_63_6, gf_63_7, gf_63_10, h6, hlt, w2, w3, g1, g2, g3, hg, wi, ↓reduceIte, true_and, and_true, false_and, and_false, bindS, tL0, tL1, app0, app1, eq_self, Int.reduceEq, Int.reduceLT, Int.reduceLE, Int.reduceNeg, Int.reduceToNat]
      rw [e128_73]
      by_cases hlt2 : (n : Int) ≤ ((i + 1 : Nat) : Int)
      · simp (disch := first | omega | (exact Nat.le_of_ble_eq_true rfl) | assumption | rfl) only [e128_0, e128_1, e128_4, e128_7, e128_9, e128_10, e128_11, e128_13, e128_16, e128_17, e128_18, e128_19, e128_20, e128_21, e128_22, e128_25, e128_28, e128_29, e128_31, e128_32, e128_33, e128_36, e128_39, e128_40, e128_41, e128_43, e128_45, e128_46, e128_48, e128_50, e128_51, e128_54, e128_55, e128_57, e128_60, e128_63, e128_64, e128_67, e128_68, e128_70, e128_71, e128_75, e128_76, e128_79, e128_82, e128_84, e128_87, e128_88, e128_91, e128_92, e128_95, e128_96, e128_98, e128_99, e128_100, e128_101, e128_102, e128_105, e128_106, e128_108, e128_109, e128_110, e128_111, e128_112, e128_115, e128_116, e128_119, e128_120, e128_122, e128_125, e128_130, e128_133, e128_135, e128_138, e128_140, e128_143, e128_145, e128_147, e128_150, e128_153, e128_156, e128_157, e128_158, e128_161, e128_162, e128_163, e128_165, e128_168, e128_169, e128_170, e128_171, e128_174, e128_175, e128_176, e128_179, e128_182, e128_184, e128_185, e128_187, e128_189, e128_190, e128_193, e128_194, e128_195, e128_197, e128_199, e128_200, e128_203, e128_205, e128_207, e128_208, e128_210, e128_213, e128_216, e128_218, e128_220, e128_221, gf_63_6, h6, hlt2, ↓reduceIte, true_and, and_true, false_and, and_false, bindS, tL0, tL1, app0, app1, eq_self, Int.reduceEq, Int.reduceLT, Int.reduceLE, Int.reduceNeg, Int.reduceToNat]
        rfl
      · simp (disch := first | omega | (exact Nat.le_of_ble_eq_true rfl) | assumption | rfl) only [e128_0, e128_1, e128_4, e128_7, e128_9, e128_10, e128_11, e128_13, e128_16, e128_17, e128_18, e128_19, e128_20, e128_21, e128_22, e128_25, e128_28, e128_29, e128_31, e128_32, e128_33, e128_36, e128_39, e128_40, e128_41, e128_43, e128_45, e128_46, e128_48, e128_50, e128_51, e128_54, e128_55, e128_57, e128_60, e128_63, e128_64, e128_67, e128_68, e128_70, e128_71, e128_75, e128_76, e128_79, e128_82, e128_84, e128_87, e128_88, e128_91, e128_92, e128_95, e128_96, e128_98, e128_99, e128_100, e128_101, e128_102, e128_105, e128_106, e128_108, e128_109, e128_110, e128_111, e128_112, e128_115, e128_116, e128_119, e128_120, e128_122, e128_125, e128_130, e128_133, e128_135, e128_138, e128_140, e128_143, e128_145, e128_147, e128_150, e128_153, e128_156, e128_157, e128_158, e128_161, e128_162, e128_163, e128_165, e128_168, e128_169, e128_170, e128_171, e128_174, e128_175, e128_176, e128_179, e128_182, e128_184, e128_185, e128_187, e128_189, e128_190, e128_193, e128_194, e128_195, e128_197, e128_199, e128_200, e128_203, e128_205, e128_207, e128_208, e128_210, e128_213, e128_216, e128_218, e128_220, e128_221, gf_63_6, h6, hlt2, ↓reduceIte, true_and, and_true, false_and, and_false, bindS, tL0, tL1, app0, app1, eq_self, Int.reduceEq, Int.reduceLT, Int.reduceLE, Int.reduceNeg, Int.reduceToNat]
        rfl
theorem c_wp {L A d : Nat} {M : PM} {way : Int} (hA : A ≤ 3) (hw : 0 ≤ way ∧ way ≤ 1000) : den (d + 1) 82 [(.inr (.inr (some 1))), .inl way, .inl (A : Int)] (SH L) M = some (none, SH L, setR M 62 (fun i => if i < A then way / byq A i % 6 else M 62 i)) := by
  have p62 := fun (M : PM) (i : Int) v (h0 : 0 ≤ i) (h1 : i < 3) => c_put_in (M := M) (d := d) (ar_62 (L := L)) (i := i) (x := v) h0 h1
  have d6 : ∀ x : Int, 0 ≤ x → x ≤ 1000 → wr (x.tdiv 6) = x / 6 := fun x h0 h1 => div_w h0 (by omega) (by decide)
  have r6 : ∀ x : Int, 0 ≤ x → x ≤ 1000 → wr (x - x.tdiv 6 * 6) = x % 6 := fun x h0 h1 => rem_w h0 (by omega) (by decide)
  have e1 := d6 way hw.1 hw.2
  have e2 := d6 (way / 6) (by omega) (by omega)
  have e3 := d6 (way / 6 / 6) (by omega) (by omega)
  have f1 := r6 way hw.1 hw.2
  have f2 := r6 (way / 6) (by omega) (by omega)
  have f3 := r6 (way / 6 / 6) (by omega) (by omega)
  have w1 : wr (((0 : Nat) : Int) - 1) = -1 := rfl
  have w2 : wr (((1 : Nat) : Int) - 1) = 0 := rfl
  have w3 : wr (((2 : Nat) : Int) - 1) = 1 := rfl
  have w4 : wr (((3 : Nat) : Int) - 1) = 2 := rfl
  have w5 : wr (0 + -1) = -1 := rfl
  have w6 : wr (1 + -1) = 0 := rfl
  have w7 : wr (2 + -1) = 1 := rfl
  have p0 := fun (M : PM) v => p62 M 0 v (by decide) (by decide)
  have p1 := fun (M : PM) v => p62 M 1 v (by decide) (by decide)
  have p2 := fun (M : PM) v => p62 M 2 v (by decide) (by decide)
  unfold den
  rw [show ent 82 [(.inr (.inr (some 1))), .inl way, .inl (A : Int)] = [some (.inr (.inr (some 1))), some (.inl way), some (.inl (A : Int)), none, none] from rfl]
  have hA4 : A = 0 ∨ A = 1 ∨ A = 2 ∨ A = 3 := by omega
  rcases hA4 with rfl | rfl | rfl | rfl
  · simp (disch := first | omega | (exact Nat.le_of_ble_eq_true rfl) | assumption | rfl) only [e82_0, e82_1, e82_2, e82_3, e82_4, e82_5, e82_7, e82_9, e82_12, e82_13, e82_16, e82_18, e82_19, e82_21, e82_22, e82_25, e82_26, e82_28, e82_29, e82_30, e82_33, e82_36, w1, ↓reduceIte, true_and, and_true, false_and, and_false, bindS, tL0, tL1, app0, app1, eq_self, Int.reduceEq, Int.reduceLT, Int.reduceLE, Int.reduceNeg, Int.reduceToNat]
    congr 3
    funext b j
    simp only [setR]
    by_cases hb : b = 62
    · subst hb; simp
    · simp [hb]
  · simp (disch := first | omega | (exact Nat.le_of_ble_eq_true rfl) | assumption | rfl) only [e82_0, e82_1, e82_2, e82_3, e82_4, e82_5, e82_7, e82_9, e82_12, e82_13, e82_16, e82_18, e82_19, e82_21, e82_22, e82_25, e82_26, e82_28, e82_29, e82_30, e82_33, e82_36, gf_1_6, w2, w5, e1, f1, p0, ↓reduceIte, true_and, and_true, false_and, and_false, bindS, tL0, tL1, app0, app1, eq_self, Int.reduceEq, Int.reduceLT, Int.reduceLE, Int.reduceNeg, Int.reduceToNat]
    congr 3
    funext b j
    simp only [setR, setC]
    by_cases hb : b = 62
    · subst hb
      by_cases h0 : j = 0
      · subst h0; simp [byq]
      · simp [h0]
    · simp [hb]
  · simp (disch := first | omega | (exact Nat.le_of_ble_eq_true rfl) | assumption | rfl) only [e82_0, e82_1, e82_2, e82_3, e82_4, e82_5, e82_7, e82_9, e82_12, e82_13, e82_16, e82_18, e82_19, e82_21, e82_22, e82_25, e82_26, e82_28, e82_29, e82_30, e82_33, e82_36, gf_1_6, w3, w5, w6, e1, e2, f1, f2, p0, p1, ↓reduceIte, true_and, and_true, false_and, and_false, bindS, tL0, tL1, app0, app1, eq_self, Int.reduceEq, Int.reduceLT, Int.reduceLE, Int.reduceNeg, Int.reduceToNat]
    congr 3
    funext b j
    simp only [setR, setC]
    by_cases hb : b = 62
    · subst hb
      by_cases h0 : j = 0
      · subst h0; simp [byq]
      · by_cases h1 : j = 1
        · subst h1; simp [byq]
        · have : ¬ j < 2 := by omega
          simp [h0, h1, this]
    · simp [hb]
  · simp (disch := first | omega | (exact Nat.le_of_ble_eq_true rfl) | assumption | rfl) only [e82_0, e82_1, e82_2, e82_3, e82_4, e82_5, e82_7, e82_9, e82_12, e82_13, e82_16, e82_18, e82_19, e82_21, e82_22, e82_25, e82_26, e82_28, e82_29, e82_30, e82_33, e82_36, gf_1_6, w4, w5, w6, w7, e1, e2, e3, f1, f2, f3, p0, p1, p2, ↓reduceIte, true_and, and_true, false_and, and_false, bindS, tL0, tL1, app0, app1, eq_self, Int.reduceEq, Int.reduceLT, Int.reduceLE, Int.reduceNeg, Int.reduceToNat]
    congr 3
    funext b j
    simp only [setR, setC]
    by_cases hb : b = 62
    · subst hb
      by_cases h0 : j = 0
      · subst h0
        have : way / 6 / 6 = way / 36 := by omega
        simp [byq, this]
      · by_cases h1 : j = 1
        · subst h1; simp [byq]
        · by_cases h2 : j = 2
          · subst h2; simp [byq]
          · have : ¬ j < 3 := by omega
            simp [h0, h1, h2, this]
    · simp [hb]
def FRel (A : Nat) (i ways first fcode : Int) : Prop := (ways = 0 ∧ first = -6 ∧ fcode = -6) ∨ (0 < ways ∧ ways ≤ 1000 ∧ 0 ≤ fcode ∧ fcode ≤ 216 ∧ first = if 0 ≤ i ∧ i ≤ (A : Int) - 1 then fcode / byq A i.toNat % 6 else -6)
