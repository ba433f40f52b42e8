/-! filled agrees -/
def Al (Mt Mi : PM) : Prop := ∀ b, b ≠ 37 → b ≠ 38 → b ≠ 62 → Mi b = Mt b
theorem Al_same {Mt Mi : PM} (h : Al Mt Mi) : Same Mt Mi := ⟨fun a ha => h a (by omega) (by omega) (by omega), by rw [h 32 (by decide) (by decide) (by decide)], fun j _ => by rw [h 63 (by decide) (by decide) (by decide)]⟩
theorem c_right {L : Nat} {M : PM} {r : Int} {M1 : PM} {hh : Bool} (h1 : den 1997 31 [(.inr (.inr (some 32))), (.inr (.inr (some 37))), (.inr (.inr (some 62)))] (SH L) (tri M) = some (some (.inl r), SH L, M1)) (h2 : den 1997 14 [(.inr (.inr (some 9))), (.inr (.inr (some 37)))] (SH L) M1 = some (some (.inl (if hh = true then 1 else 0)), SH L, M1)) :
    den 1998 81 [(.inr (.inr (some 1)))] (SH L) M = some (some (.inl (if r = -6 ∧ hh = true then 1 else 0)), SH L, M1) := by
  have o9 := io_9 (L := L)
  have o32 := io_32 (L := L)
  have o37 := io_37 (L := L)
  have cT := c_trial (d := 1996) (L := L) (M := M)
  unfold den
  rw [show ent 81 [(.inr (.inr (some 1)))] = [some (.inr (.inr (some 1)))] from rfl]
  by_cases hr : r = -6
  · by_cases hh1 : hh = true
    · simp only [hh1, if_true] at h2
      simp (disch := first | omega | (exact Nat.le_of_ble_eq_true rfl) | assumption | rfl) only [e81_0, e81_1, e81_4, e81_5, e81_8, e81_11, e81_14, e81_15, e81_18, e81_19, e81_22, e81_23, e81_26, e81_29, e81_31, e81_34, e81_35, e81_38, e81_41, e81_42, e81_45, e81_48, e81_51, e81_52, e81_55, e81_56z, e81_56o, e81_56, gf_1_0, gf_1_3, gf_1_4, gf_1_6, gf_2_0, gf_2_2, cT, h1, h2, hr, hh1, ↓reduceIte, true_and, and_true, false_and, and_false, bindS, tL0, tL1, app0, app1, eq_self, Int.reduceEq, Int.reduceLT, Int.reduceLE, Int.reduceNeg, Int.reduceToNat]
    · simp only [if_neg hh1] at h2
      simp (disch := first | omega | (exact Nat.le_of_ble_eq_true rfl) | assumption | rfl) only [e81_0, e81_1, e81_4, e81_5, e81_8, e81_11, e81_14, e81_15, e81_18, e81_19, e81_22, e81_23, e81_26, e81_29, e81_31, e81_34, e81_35, e81_38, e81_41, e81_42, e81_45, e81_48, e81_51, e81_52, e81_55, e81_56z, e81_56o, e81_56, gf_1_0, gf_1_3, gf_1_4, gf_1_6, gf_2_0, gf_2_2, cT, h1, h2, hr, hh1, ↓reduceIte, true_and, and_true, false_and, and_false, bindS, tL0, tL1, app0, app1, eq_self, Int.reduceEq, Int.reduceLT, Int.reduceLE, Int.reduceNeg, Int.reduceToNat]
      rfl
  · simp (disch := first | omega | (exact Nat.le_of_ble_eq_true rfl) | assumption | rfl) only [e81_0, e81_1, e81_4, e81_5, e81_8, e81_11, e81_14, e81_15, e81_18, e81_19, e81_22, e81_23, e81_26, e81_29, e81_31, e81_34, e81_35, e81_38, e81_41, e81_42, e81_45, e81_48, e81_51, e81_52, e81_55, e81_56z, e81_56o, e81_56, gf_1_0, gf_1_3, gf_1_4, gf_1_6, gf_2_0, cT, h1, hr, ↓reduceIte, true_and, and_true, false_and, and_false, bindS, tL0, tL1, app0, app1, eq_self, Int.reduceEq, Int.reduceLT, Int.reduceLE, Int.reduceNeg, Int.reduceToNat]
theorem fl_loop {L P A : Nat} {K i all : Int} {Mt : PM} {S F D : Nat → Int} (hI : Inv K Mt) (hK : K ≤ 100000000) (hR : RD (Mt 67) S F D P A 0 (Mt 63 8).toNat) (x5 : Mt 32 5 = (P : Int)) (x34 : Mt 34 = S) (x35 : Mt 35 = F) (x36 : Mt 36 = D) (hall : all ≤ 216) : ∀ (k way : Nat) (ways first fcode : Int), (way : Int) + k = all → ways ≤ way → FRel A i ways first fcode →
    ∀ Mi : PM, Al Mt Mi → ∃ (r : Int) (M1 : PM), Al Mt M1 ∧ ev 1999 73 38 [some (.inr (.inr (some 1))), some (.inl i), some (.inl (A : Int)), some (.inl all), some (.inl ways), some (.inl first), some (.inl (way : Int))] [] (SH L) Mi = some (some (.inl r), SH L, M1)
    ∧ ∀ (MQ : PM) (l6 l7 : Option PV), Same Mt MQ → MQ 63 12 = -6 → ∃ M2 : PM, Same Mt M2 ∧ M2 63 12 = -6 ∧ ev 1999 128 48 [some (.inr (.inr (some 63))), some (.inl i), some (.inl all), some (.inl ways), some (.inl fcode), some (.inl (way : Int)), l6, l7] [] (SH L) MQ = some (some (.inl r), SH L, M2) := by
  have o1 := io_1 (L := L)
  have o63 := io_63 (L := L)
  have hA3 : A ≤ 3 := (RD_x hR).2.2
  have t1 := hI.2.2.2.1.1
  intro k
  induction k with
  | zero =>
    intro way ways first fcode hk hwy hF Mi hAl
    have hle : all ≤ (way : Int) := by omega
    have hcnt : cnt (Mt 67) (Mt 63 8).toNat = A := by obtain ⟨pos, ⟨-, -, -, -, h4, -⟩, -⟩ := hR; exact h4
    refine ⟨if i = -1 then ways else first, Mi, hAl, ?_, fun MQ l6 l7 hS hw => ⟨MQ, hS, hw, ?_⟩⟩
    · rw [e73_38]
      by_cases hi : i = -1
      · simp (disch := first | omega | (exact Nat.le_of_ble_eq_true rfl) | assumption | rfl) only [e73_0, e73_1, e73_4, e73_7, e73_9, e73_12, e73_14, e73_15, e73_16, e73_19, e73_22, e73_23, e73_24, e73_27, e73_28, e73_29, e73_31, e73_33, e73_35, e73_36, e73_40, e73_41, e73_44, e73_45, e73_47, e73_48, e73_51, e73_52, e73_55, e73_58, e73_61, e73_63, e73_66, e73_67, e73_68, e73_69, e73_70, e73_71, e73_74, e73_77, e73_78, e73_81, e73_82, e73_85, e73_87, e73_90, e73_93, e73_96, e73_97, e73_98, e73_101, e73_103, e73_106, e73_108, hle, hi, ↓reduceIte, true_and, and_true, false_and, and_false, bindS, tL0, tL1, app0, app1, eq_self, Int.reduceEq, Int.reduceLT, Int.reduceLE, Int.reduceNeg, Int.reduceToNat]
      · simp (disch := first | omega | (exact Nat.le_of_ble_eq_true rfl) | assumption | rfl) only [e73_0, e73_1, e73_4, e73_7, e73_9, e73_12, e73_14, e73_15, e73_16, e73_19, e73_22, e73_23, e73_24, e73_27, e73_28, e73_29, e73_31, e73_33, e73_35, e73_36, e73_40, e73_41, e73_44, e73_45, e73_47, e73_48, e73_51, e73_52, e73_55, e73_58, e73_61, e73_63, e73_66, e73_67, e73_68, e73_69, e73_70, e73_71, e73_74, e73_77, e73_78, e73_81, e73_82, e73_85, e73_87, e73_90, e73_93, e73_96, e73_97, e73_98, e73_101, e73_103, e73_106, e73_108, hle, hi, ↓reduceIte, true_and, and_true, false_and, and_false, bindS, tL0, tL1, app0, app1, eq_self, Int.reduceEq, Int.reduceLT, Int.reduceLE, Int.reduceNeg, Int.reduceToNat]
    · have m67 := hS.1 67 (by decide)
      have m8 := hS.2.2 8 (by decide)
      have co := c_opens (L := L) (n := (Mt 63 8).toNat) (MQ := MQ) 1998 (by omega) (by rw [m8]; omega)
      rw [m67, hcnt] at co
      have wA : wr ((A : Int) - 1) = (A : Int) - 1 := wr_id (by omega) (by omega)
      rw [e128_48]
      by_cases hi : i = -1
      · simp (disch := first | omega | (exact Nat.le_of_ble_eq_true rfl) | assumption | rfl) only [e128_0, e128_1, e128_4, e128_7, e128_9, e128_10, e128_11, e128_13, e128_16, e128_17, e128_18, e128_19, e128_20, e128_21, e128_22, e128_25, e128_28, e128_29, e128_31, e128_32, e128_33, e128_36, e128_39, e128_40, e128_41, e128_43, e128_45, e128_46, e128_50, e128_51, e128_54, e128_55, e128_57, e128_60, e128_63, e128_64, e128_67, e128_68, e128_70, e128_71, e128_75, e128_76, e128_79, e128_82, e128_84, e128_87, e128_88, e128_91, e128_92, e128_95, e128_96, e128_98, e128_99, e128_100, e128_101, e128_102, e128_105, e128_106, e128_108, e128_109, e128_110, e128_111, e128_112, e128_115, e128_116, e128_119, e128_120, e128_122, e128_125, e128_128, e128_130, e128_133, e128_135, e128_138, e128_140, e128_143, e128_145, e128_147, e128_150, e128_153, e128_156, e128_157, e128_158, e128_161, e128_162, e128_163, e128_165, e128_168, e128_169, e128_170, e128_171, e128_174, e128_175, e128_176, e128_179, e128_182, e128_184, e128_185, e128_187, e128_189, e128_190, e128_193, e128_194, e128_195, e128_197, e128_199, e128_200, e128_203, e128_205, e128_207, e128_208, e128_210, e128_213, e128_216, e128_218, e128_220, e128_221, hle, hi, ↓reduceIte, true_and, and_true, false_and, and_false, bindS, tL0, tL1, app0, app1, eq_self, Int.reduceEq, Int.reduceLT, Int.reduceLE, Int.reduceNeg, Int.reduceToNat]
      rcases hF with ⟨-, rfl, rfl⟩ | ⟨h0, h0', h1, h2, rfl⟩
      · simp (disch := first | omega | (exact Nat.le_of_ble_eq_true rfl) | assumption | rfl) only [e128_0, e128_1, e128_4, e128_7, e128_9, e128_10, e128_11, e128_13, e128_16, e128_17, e128_18, e128_19, e128_20, e128_21, e128_22, e128_25, e128_28, e128_29, e128_31, e128_32, e128_33, e128_36, e128_39, e128_40, e128_41, e128_43, e128_45, e128_46, e128_50, e128_51, e128_54, e128_55, e128_57, e128_60, e128_63, e128_64, e128_67, e128_68, e128_70, e128_71, e128_75, e128_76, e128_79, e128_82, e128_84, e128_87, e128_88, e128_91, e128_92, e128_95, e128_96, e128_98, e128_99, e128_100, e128_101, e128_102, e128_105, e128_106, e128_108, e128_109, e128_110, e128_111, e128_112, e128_115, e128_116, e128_119, e128_120, e128_122, e128_125, e128_128, e128_130, e128_133, e128_135, e128_138, e128_140, e128_143, e128_145, e128_147, e128_150, e128_153, e128_156, e128_157, e128_158, e128_161, e128_162, e128_163, e128_165, e128_168, e128_169, e128_170, e128_171, e128_174, e128_175, e128_176, e128_179, e128_182, e128_184, e128_185, e128_187, e128_189, e128_190, e128_193, e128_194, e128_195, e128_197, e128_199, e128_200, e128_203, e128_205, e128_207, e128_208, e128_210, e128_213, e128_216, e128_218, e128_220, e128_221, hle, hi, ↓reduceIte, true_and, and_true, false_and, and_false, bindS, tL0, tL1, app0, app1, eq_self, Int.reduceEq, Int.reduceLT, Int.reduceLE, Int.reduceNeg, Int.reduceToNat]
      · have hneg : ¬ fcode < 0 := by omega
        by_cases hin : 0 ≤ i ∧ i ≤ (A : Int) - 1
        · have d6 : ∀ x : Int, 0 ≤ x → x ≤ 1000 → wr (x.tdiv 6) = x / 6 := fun x h0 h1 => div_w h0 (by omega) (by decide)
          have r6 : ∀ x : Int, 0 ≤ x → x ≤ 1000 → wr (x - x.tdiv 6 * 6) = x % 6 := fun x h0 h1 => rem_w h0 (by omega) (by decide)
          have e1 := d6 fcode h1 (by omega)
          have e2 := d6 (fcode / 6) (by omega) (by omega)
          have f0 := r6 fcode h1 (by omega)
          have f1 := r6 (fcode / 6) (by omega) (by omega)
          have f2 := r6 (fcode / 6 / 6) (by omega) (by omega)
          have w6 : wr (1 + -1) = 0 := rfl
          have w7 : wr (2 + -1) = 1 := rfl
          have hA4 : A = 1 ∨ A = 2 ∨ A = 3 := by omega
          rw [if_neg hi, if_pos hin]
          rcases hA4 with rfl | rfl | rfl
          · have hi3 : i = 0 := by omega
            subst hi3
            have wB : wr (((1 : Nat) : Int) - 1) = 0 := rfl
            simp (disch := first | omega | (exact Nat.le_of_ble_eq_true rfl) | assumption | rfl) only [e128_0, e128_1, e128_4, e128_7, e128_9, e128_10, e128_11, e128_13, e128_16, e128_17, e128_18, e128_19, e128_20, e128_21, e128_22, e128_25, e128_28, e128_29, e128_31, e128_32, e128_33, e128_36, e128_39, e128_40, e128_41, e128_43, e128_45, e128_46, e128_50, e128_51, e128_54, e128_55, e128_57, e128_60, e128_63, e128_64, e128_67, e128_68, e128_70, e128_71, e128_75, e128_76, e128_79, e128_82, e128_84, e128_87, e128_88, e128_91, e128_92, e128_95, e128_96, e128_98, e128_99, e128_100, e128_101, e128_102, e128_105, e128_106, e128_108, e128_109, e128_110, e128_111, e128_112, e128_115, e128_116, e128_119, e128_120, e128_122, e128_125, e128_128, e128_130, e128_133, e128_135, e128_138, e128_140, e128_143, e128_145, e128_147, e128_150, e128_153, e128_156, e128_157, e128_158, e128_161, e128_162, e128_163, e128_165, e128_168, e128_169, e128_170, e128_171, e128_174, e128_175, e128_176, e128_179, e128_182, e128_184, e128_185, e128_187, e128_189, e128_190, e128_193, e128_194, e128_195, e128_197, e128_199, e128_200, e128_203, e128_205, e128_207, e128_208, e128_210, e128_213, e128_216, e128_218, e128_220, e128_221, hle, hneg, co, c_in, wB, f0, Int.le_refl, ↓reduceIte, true_and, and_true, false_and, and_false, bindS, tL0, tL1, app0, app1, eq_self, Int.reduceEq, Int.reduceLT, Int.reduceLE, Int.reduceNeg, Int.reduceToNat]
            simp [byq]
          · have hi3 : i = 0 ∨ i = 1 := by omega
            have wB : wr (((2 : Nat) : Int) - 1) = 1 := rfl
            rcases hi3 with rfl | rfl
            · simp (disch := first | omega | (exact Nat.le_of_ble_eq_true rfl) | assumption | rfl) only [e128_0, e128_1, e128_4, e128_7, e128_9, e128_10, e128_11, e128_13, e128_16, e128_17, e128_18, e128_19, e128_20, e128_21, e128_22, e128_25, e128_28, e128_29, e128_31, e128_32, e128_33, e128_36, e128_39, e128_40, e128_41, e128_43, e128_45, e128_46, e128_50, e128_51, e128_54, e128_55, e128_57, e128_60, e128_63, e128_64, e128_67, e128_68, e128_70, e128_71, e128_75, e128_76, e128_79, e128_82, e128_84, e128_87, e128_88, e128_91, e128_92, e128_95, e128_96, e128_98, e128_99, e128_100, e128_101, e128_102, e128_105, e128_106, e128_108, e128_109, e128_110, e128_111, e128_112, e128_115, e128_116, e128_119, e128_120, e128_122, e128_125, e128_128, e128_130, e128_133, e128_135, e128_138, e128_140, e128_143, e128_145, e128_147, e128_150, e128_153, e128_156, e128_157, e128_158, e128_161, e128_162, e128_163, e128_165, e128_168, e128_169, e128_170, e128_171, e128_174, e128_175, e128_176, e128_179, e128_182, e128_184, e128_185, e128_187, e128_189, e128_190, e128_193, e128_194, e128_195, e128_197, e128_199, e128_200, e128_203, e128_205, e128_207, e128_208, e128_210, e128_213, e128_216, e128_218, e128_220, e128_221, hle, hneg, co, c_in, wB, w6, e1, f1, Int.le_refl, ↓reduceIte, true_and, and_true, false_and, and_false, bindS, tL0, tL1, app0, app1, eq_self, Int.reduceEq, Int.reduceLT, Int.reduceLE, Int.reduceNeg, Int.reduceToNat]
              simp [byq]
            · simp (disch := first | omega | (exact Nat.le_of_ble_eq_true rfl) | assumption | rfl) only [e128_0, e128_1, e128_4, e128_7, e128_9, e128_10, e128_11, e128_13, e128_16, e128_17, e128_18, e128_19, e128_20, e128_21, e128_22, e128_25, e128_28, e128_29, e128_31, e128_32, e128_33, e128_36, e128_39, e128_40, e128_41, e128_43, e128_45, e128_46, e128_50, e128_51, e128_54, e128_55, e128_57, e128_60, e128_63, e128_64, e128_67, e128_68, e128_70, e128_71, e128_75, e128_76, e128_79, e128_82, e128_84, e128_87, e128_88, e128_91, e128_92, e128_95, e128_96, e128_98, e128_99, e128_100, e128_101, e128_102, e128_105, e128_106, e128_108, e128_109, e128_110, e128_111, e128_112, e128_115, e128_116, e128_119, e128_120, e128_122, e128_125, e128_128, e128_130, e128_133, e128_135, e128_138, e128_140, e128_143, e128_145, e128_147, e128_150, e128_153, e128_156, e128_157, e128_158, e128_161, e128_162, e128_163, e128_165, e128_168, e128_169, e128_170, e128_171, e128_174, e128_175, e128_176, e128_179, e128_182, e128_184, e128_185, e128_187, e128_189, e128_190, e128_193, e128_194, e128_195, e128_197, e128_199, e128_200, e128_203, e128_205, e128_207, e128_208, e128_210, e128_213, e128_216, e128_218, e128_220, e128_221, hle, hneg, co, c_in, wB, f0, Int.le_refl, ↓reduceIte, true_and, and_true, false_and, and_false, bindS, tL0, tL1, app0, app1, eq_self, Int.reduceEq, Int.reduceLT, Int.reduceLE, Int.reduceNeg, Int.reduceToNat]
              simp [byq]
          · have hi3 : i = 0 ∨ i = 1 ∨ i = 2 := by omega
            have wB : wr (((3 : Nat) : Int) - 1) = 2 := rfl
            rcases hi3 with rfl | rfl | rfl
            · simp (disch := first | omega | (exact Nat.le_of_ble_eq_true rfl) | assumption | rfl) only [e128_0, e128_1, e128_4, e128_7, e128_9, e128_10, e128_11, e128_13, e128_16, e128_17, e128_18, e128_19, e128_20, e128_21, e128_22, e128_25, e128_28, e128_29, e128_31, e128_32, e128_33, e128_36, e128_39, e128_40, e128_41, e128_43, e128_45, e128_46, e128_50, e128_51, e128_54, e128_55, e128_57, e128_60, e128_63, e128_64, e128_67, e128_68, e128_70, e128_71, e128_75, e128_76, e128_79, e128_82, e128_84, e128_87, e128_88, e128_91, e128_92, e128_95, e128_96, e128_98, e128_99, e128_100, e128_101, e128_102, e128_105, e128_106, e128_108, e128_109, e128_110, e128_111, e128_112, e128_115, e128_116, e128_119, e128_120, e128_122, e128_125, e128_128, e128_130, e128_133, e128_135, e128_138, e128_140, e128_143, e128_145, e128_147, e128_150, e128_153, e128_156, e128_157, e128_158, e128_161, e128_162, e128_163, e128_165, e128_168, e128_169, e128_170, e128_171, e128_174, e128_175, e128_176, e128_179, e128_182, e128_184, e128_185, e128_187, e128_189, e128_190, e128_193, e128_194, e128_195, e128_197, e128_199, e128_200, e128_203, e128_205, e128_207, e128_208, e128_210, e128_213, e128_216, e128_218, e128_220, e128_221, hle, hneg, co, c_in, wB, w6, w7, e1, e2, f2, Int.le_refl, ↓reduceIte, true_and, and_true, false_and, and_false, bindS, tL0, tL1, app0, app1, eq_self, Int.reduceEq, Int.reduceLT, Int.reduceLE, Int.reduceNeg, Int.reduceToNat]
              have : fcode / 6 / 6 = fcode / 36 := by omega
              simp [byq, this]
            · simp (disch := first | omega | (exact Nat.le_of_ble_eq_true rfl) | assumption | rfl) only [e128_0, e128_1, e128_4, e128_7, e128_9, e128_10, e128_11, e128_13, e128_16, e128_17, e128_18, e128_19, e128_20, e128_21, e128_22, e128_25, e128_28, e128_29, e128_31, e128_32, e128_33, e128_36, e128_39, e128_40, e128_41, e128_43, e128_45, e128_46, e128_50, e128_51, e128_54, e128_55, e128_57, e128_60, e128_63, e128_64, e128_67, e128_68, e128_70, e128_71, e128_75, e128_76, e128_79, e128_82, e128_84, e128_87, e128_88, e128_91, e128_92, e128_95, e128_96, e128_98, e128_99, e128_100, e128_101, e128_102, e128_105, e128_106, e128_108, e128_109, e128_110, e128_111, e128_112, e128_115, e128_116, e128_119, e128_120, e128_122, e128_125, e128_128, e128_130, e128_133, e128_135, e128_138, e128_140, e128_143, e128_145, e128_147, e128_150, e128_153, e128_156, e128_157, e128_158, e128_161, e128_162, e128_163, e128_165, e128_168, e128_169, e128_170, e128_171, e128_174, e128_175, e128_176, e128_179, e128_182, e128_184, e128_185, e128_187, e128_189, e128_190, e128_193, e128_194, e128_195, e128_197, e128_199, e128_200, e128_203, e128_205, e128_207, e128_208, e128_210, e128_213, e128_216, e128_218, e128_220, e128_221, hle, hneg, co, c_in, wB, w7, e1, f1, Int.le_refl, ↓reduceIte, true_and, and_true, false_and, and_false, bindS, tL0, tL1, app0, app1, eq_self, Int.reduceEq, Int.reduceLT, Int.reduceLE, Int.reduceNeg, Int.reduceToNat]
              simp [byq]
            · simp (disch := first | omega | (exact Nat.le_of_ble_eq_true rfl) | assumption | rfl) only [e128_0, e128_1, e128_4, e128_7, e128_9, e128_10, e128_11, e128_13, e128_16, e128_17, e128_18, e128_19, e128_20, e128_21, e128_22, e128_25, e128_28, e128_29, e128_31, e128_32, e128_33, e128_36, e128_39, e128_40, e128_41, e128_43, e128_45, e128_46, e128_50, e128_51, e128_54, e128_55, e128_57, e128_60, e128_63, e128_64, e128_67, e128_68, e128_70, e128_71, e128_75, e128_76, e128_79, e128_82, e128_84, e128_87, e128_88, e128_91, e128_92, e128_95, e128_96, e128_98, e128_99, e128_100, e128_101, e128_102, e128_105, e128_106, e128_108, e128_109, e128_110, e128_111, e128_112, e128_115, e128_116, e128_119, e128_120, e128_122, e128_125, e128_128, e128_130, e128_133, e128_135, e128_138, e128_140, e128_143, e128_145, e128_147, e128_150, e128_153, e128_156, e128_157, e128_158, e128_161, e128_162, e128_163, e128_165, e128_168, e128_169, e128_170, e128_171, e128_174, e128_175, e128_176, e128_179, e128_182, e128_184, e128_185, e128_187, e128_189, e128_190, e128_193, e128_194, e128_195, e128_197, e128_199, e128_200, e128_203, e128_205, e128_207, e128_208, e128_210, e128_213, e128_216, e128_218, e128_220, e128_221, hle, hneg, co, c_in, wB, f0, Int.le_refl, ↓reduceIte, true_and, and_true, false_and, and_false, bindS, tL0, tL1, app0, app1, eq_self, Int.reduceEq, Int.reduceLT, Int.reduceLE, Int.reduceNeg, Int.reduceToNat]
              simp [byq]
        · rw [if_neg hi, if_neg hin]
          simp (disch := first | omega | (exact Nat.le_of_ble_eq_true rfl) | assumption | rfl) only [e128_0, e128_1, e128_4, e128_7, e128_9, e128_10, e128_11, e128_13, e128_16, e128_17, e128_18, e128_19, e128_20, e128_21, e128_22, e128_25, e128_28, e128_29, e128_31, e128_32, e128_33, e128_36, e128_39, e128_40, e128_41, e128_43, e128_45, e128_46, e128_50, e128_51, e128_54, e128_55, e128_57, e128_60, e128_63, e128_64, e128_67, e128_68, e128_70, e128_71, e128_75, e128_76, e128_79, e128_82, e128_84, e128_87, e128_88, e128_91, e128_92, e128_95, e128_96, e128_98, e128_99, e128_100, e128_101, e128_102, e128_105, e128_106, e128_108, e128_109, e128_110, e128_111, e128_112, e128_115, e128_116, e128_119, e128_120, e128_122, e128_125, e128_128, e128_130, e128_133, e128_135, e128_138, e128_140, e128_143, e128_145, e128_147, e128_150, e128_153, e128_156, e128_157, e128_158, e128_161, e128_162, e128_163, e128_165, e128_168, e128_169, e128_170, e128_171, e128_174, e128_175, e128_176, e128_179, e128_182, e128_184, e128_185, e128_187, e128_189, e128_190, e128_193, e128_194, e128_195, e128_197, e128_199, e128_200, e128_203, e128_205, e128_207, e128_208, e128_210, e128_213, e128_216, e128_218, e128_220, e128_221, hle, hi, hneg, co, c_in, wA, hin, ↓reduceIte, true_and, and_true, false_and, and_false, bindS, tL0, tL1, app0, app1, eq_self, Int.reduceEq, Int.reduceLT, Int.reduceLE, Int.reduceNeg, Int.reduceToNat]
  | succ k ih =>
    intro way ways first fcode hk hwy hF Mi hAl
    have hlt : ¬ all ≤ (way : Int) := by omega
    have cw := c_wp (L := L) (A := A) (d := 1997) (M := Mi) (way := (way : Int)) hA3 (by omega)
    generalize hMp : setR Mi 62 (fun i => if i < A then (way : Int) / byq A i % 6 else Mi 62 i) = Mp at cw
    have hp62 : ∀ j, j < A → Mp 62 j = (way : Int) / byq A j % 6 := fun j hj => by rw [← hMp, setR_s]; exact if_pos hj
    have hpr : ∀ b, b ≠ 37 → b ≠ 38 → b ≠ 62 → Mp b = Mt b := fun b x y z => by rw [← hMp, setR_row z]; exact hAl b x y z
    have hIp : Inv K Mp := Inv_same hI (Al_same hpr) (by rw [hpr 63 (by decide) (by decide) (by decide)]; exact hI.2.2.2.2.2)
    have e63 := hpr 63 (by decide) (by decide) (by decide)
    have e67 := hpr 67 (by decide) (by decide) (by decide)
    have e64 := hpr 64 (by decide) (by decide) (by decide)
    have e66 := hpr 66 (by decide) (by decide) (by decide)
    obtain ⟨g1, g2⟩ := txt_go (L := L) (P := P) (A := A) (pe := Mp 62) (S := S) (F := F) (D := D) hIp hK (by rw [e67, e63]; exact hR) (by rw [hpr 32 (by decide) (by decide) (by decide)]; exact x5) (by rw [hpr 34 (by decide) (by decide) (by decide)]; exact x34) (by rw [hpr 35 (by decide) (by decide) (by decide)]; exact x35) (by rw [hpr 36 (by decide) (by decide) (by decide)]; exact x36) rfl (fun j hj => by rw [hp62 j hj]; omega)
    have g1 := g1 1993
    generalize hfb : fb (canA (Mp 63 0) (Mp 63 1) (Mp 62) S F D (tri Mp 38)) P 0 = rr at g1 g2
    generalize hG1 : GA (Mp 63 0) (Mp 63 1) (Mp 62) S F D (tri Mp 38) (sp (canA (Mp 63 0) (Mp 63 1) (Mp 62) S F D (tri Mp 38)) P 0) = G1 at g1 g2
    generalize hM1 : vset (tri Mp) 37 G1 _ = M1 at g1
    have r1 : ∀ b, b ≠ 37 → b ≠ 38 → M1 b = Mp b := fun b x y => by rw [← hM1, tri_m x y]
    have hAl1 : Al Mt M1 := fun b x y z => by rw [r1 b x y, hpr b x y z]
    have m38 : M1 38 = G1 := by rw [← hM1]; exact vs_G (v := 37)
    -- the sights
    obtain ⟨n, hn⟩ : ∃ n : Nat, Mt 63 6 = (n : Int) := ⟨(Mt 63 6).toNat, by have := hI.1.1.2.2.2.2.2.1; omega⟩
    have hn6 : n ≤ 6 := by have := hI.1.1.2.2.2.2.2.1; omega
    have hsg : ∀ i, i < n → 0 ≤ Mt 66 (2 * i) ∧ Mt 66 (2 * i) ≤ 5 := fun i hi => hI.1.1.2.2.2.2.2.2.2 i (by omega)
    have h10 : ∀ i, i < 6 → Mt 10 i = Mt 66 (2 * i) ∧ Mt 11 i = Mt 66 (2 * i + 1) := hI.1.2.2.2.2.2.2.2.2
    have h9 : Mt 9 2 = (n : Int) := hI.1.2.2.2.2.2.2.1.trans hn
    have ch : den 1997 14 [(.inr (.inr (some 9))), (.inr (.inr (some 37)))] (SH L) M1 = some (some (.inl (if hbB G1 (Mt 66) n 0 = true then 1 else 0)), SH L, M1) := by
      have h := hold_loop (L := L) (n := n) (M := M1) (sg := Mt 66) 1995 hn6 (by rw [hAl1 9 (by decide) (by decide) (by decide)]; exact h9) (by rw [hAl1 10 (by decide) (by decide) (by decide), hAl1 11 (by decide) (by decide) (by decide)]; exact h10) hsg n 0 (by omega)
      rw [m38] at h
      unfold den
      rw [show ent 14 [(.inr (.inr (some 9))), (.inr (.inr (some 37)))] = [some (.inr (.inr (some 9))), some (.inr (.inr (some 37))), none] from rfl]
      simp (disch := first | omega | (exact Nat.le_of_ble_eq_true rfl) | assumption | rfl) only [e14_0, e14_1, e14_3, e14_4, e14_7, e14_10, e14_11, e14_12, e14_15, e14_16, e14_19, e14_22, e14_23, e14_26, e14_27, e14_30, e14_33, e14_34z, e14_34o, e14_34, e14_35, e14_38, e14_41, e14_42z, e14_42o, e14_42, ↓reduceIte, true_and, and_true, false_and, and_false, bindS, tL0, tL1, app0, app1, eq_self, Int.reduceEq, Int.reduceLT, Int.reduceLE, Int.reduceNeg, Int.reduceToNat]
      exact h
    have cR := c_right (L := L) g1 ch
    have hrr : rr = -6 ∨ 0 ≤ rr := by
      rw [← hfb]
      rcases fb_cases (canA (Mp 63 0) (Mp 63 1) (Mp 62) S F D (tri Mp 38)) P 0 with h | h
      · exact Or.inl h.1
      · exact Or.inr h
    -- the reference's step
    have mstep : ∀ (MQ : PM) (l6 l7 : Option PV), Same Mt MQ → MQ 63 12 = -6 → ∃ (M2 : PM) (l7' : Option PV), Same Mt M2 ∧ M2 63 12 = -6 ∧ ev 1999 128 48 [some (.inr (.inr (some 63))), some (.inl i), some (.inl all), some (.inl ways), some (.inl fcode), some (.inl (way : Int)), l6, l7] [] (SH L) MQ = ev 1999 128 128 [some (.inr (.inr (some 63))), some (.inl i), some (.inl all), some (.inl ways), some (.inl fcode), some (.inl (way : Int)), some (.inl (if rr = -6 ∧ hbB G1 (Mt 66) n 0 = true then 1 else 0)), l7'] [] (SH L) M2 := by
      intro MQ l6 l7 hS hw
      obtain ⟨r', G', hE, q⟩ := g2 1995 MQ (way : Int) (by rw [hS.1 64 (by decide), e64]) (by rw [hS.1 67 (by decide), e67]) (by rw [hS.2.2 0 (by decide), e63]) (by rw [hS.2.2 1 (by decide), e63]) (by rw [hS.2.2 8 (by decide), e63]) (by rw [hw]; decide) (by omega) hp62
      generalize hM2 : gset MQ G' _ _ r' = M2 at q
      have hS2 : Same Mt M2 := by rw [← hM2]; exact hS.trans Same_gs
      have hw2 : M2 63 12 = -6 := by rw [← hM2, gs_m (by decide) (by decide) (by decide)]; exact hw
      simp only [Nat.reduceAdd] at q
      rcases hrr with h6 | h0
      · subst h6
        obtain ⟨l7', h⟩ := mhold_loop (L := L) (d := 1999) (MQ := M2) (n := n) (sg := Mt 66) (G := G') (l1 := some (.inl i)) (l2 := some (.inl all)) (l3 := some (.inl ways)) (l4 := some (.inl fcode)) (l5 := some (.inl (way : Int))) hn6 ((hS2.2.2 6 (by decide)).trans hn) (hS2.1 66 (by decide)) (by rw [← hM2, gs_G]) hsg n 0 (by omega)
        rw [← hb_E hE hsg n 0 (by omega)] at h
        refine ⟨M2, l7', hS2, hw2, ?_⟩
        rw [e128_48]
        simp (disch := first | omega | (exact Nat.le_of_ble_eq_true rfl) | assumption | rfl) only [e128_0, e128_1, e128_4, e128_7, e128_9, e128_10, e128_11, e128_13, e128_16, e128_17, e128_18, e128_19, e128_20, e128_21, e128_22, e128_25, e128_28, e128_29, e128_31, e128_32, e128_33, e128_36, e128_39, e128_40, e128_41, e128_43, e128_45, e128_46, e128_50, e128_51, e128_54, e128_55, e128_57, e128_60, e128_63, e128_64, e128_67, e128_68, e128_70, e128_71, e128_75, e128_76, e128_79, e128_82, e128_84, e128_87, e128_88, e128_91, e128_92, e128_95, e128_96, e128_98, e128_99, e128_100, e128_101, e128_102, e128_105, e128_106, e128_108, e128_109, e128_110, e128_111, e128_112, e128_115, e128_116, e128_119, e128_120, e128_122, e128_125, e128_130, e128_133, e128_135, e128_138, e128_140, e128_143, e128_145, e128_147, e128_150, e128_153, e128_156, e128_157, e128_158, e128_161, e128_162, e128_163, e128_165, e128_168, e128_169, e128_170, e128_171, e128_174, e128_175, e128_176, e128_179, e128_182, e128_184, e128_185, e128_187, e128_189, e128_190, e128_193, e128_194, e128_195, e128_197, e128_199, e128_200, e128_203, e128_205, e128_207, e128_208, e128_210, e128_213, e128_216, e128_218, e128_220, e128_221, hlt, q, ↓reduceIte, true_and, and_true, false_and, and_false, bindS, tL0, tL1, app0, app1, eq_self, Int.reduceEq, Int.reduceLT, Int.reduceLE, Int.reduceNeg, Int.reduceToNat]
        exact h
      · have hn6' : ¬ rr = -6 := by omega
        refine ⟨M2, some (.inl 0), hS2, hw2, ?_⟩
        rw [e128_48]
        simp (disch := first | omega | (exact Nat.le_of_ble_eq_true rfl) | assumption | rfl) only [e128_0, e128_1, e128_4, e128_7, e128_9, e128_10, e128_11, e128_13, e128_16, e128_17, e128_18, e128_19, e128_20, e128_21, e128_22, e128_25, e128_28, e128_29, e128_31, e128_32, e128_33, e128_36, e128_39, e128_40, e128_41, e128_43, e128_45, e128_46, e128_50, e128_51, e128_54, e128_55, e128_57, e128_60, e128_63, e128_64, e128_67, e128_68, e128_70, e128_71, e128_75, e128_76, e128_79, e128_82, e128_84, e128_87, e128_88, e128_91, e128_92, e128_95, e128_96, e128_98, e128_99, e128_100, e128_101, e128_102, e128_105, e128_106, e128_108, e128_109, e128_110, e128_111, e128_112, e128_115, e128_116, e128_119, e128_120, e128_122, e128_125, e128_130, e128_133, e128_135, e128_138, e128_140, e128_143, e128_145, e128_147, e128_150, e128_153, e128_156, e128_157, e128_158, e128_161, e128_162, e128_163, e128_165, e128_168, e128_169, e128_170, e128_171, e128_174, e128_175, e128_176, e128_179, e128_182, e128_184, e128_185, e128_187, e128_189, e128_190, e128_193, e128_194, e128_195, e128_197, e128_199, e128_200, e128_203, e128_205, e128_207, e128_208, e128_210, e128_213, e128_216, e128_218, e128_220, e128_221, hlt, q, h0, hn6', ↓reduceIte, true_and, and_true, false_and, and_false, bindS, tL0, tL1, app0, app1, eq_self, Int.reduceEq, Int.reduceLT, Int.reduceLE, Int.reduceNeg, Int.reduceToNat]
        rw [e128_73]
        have m6 := (hS2.2.2 6 (by decide)).trans hn
        by_cases hnz : (n : Int) ≤ 0
        · simp (disch := first | omega | (exact Nat.le_of_ble_eq_true rfl) | assumption | rfl) only [e128_0, e128_1, e128_4, e128_7, e128_9, e128_10, e128_11, e128_13, e128_16, e128_17, e128_18, e128_19, e128_20, e128_21, e128_22, e128_25, e128_28, e128_29, e128_31, e128_32, e128_33, e128_36, e128_39, e128_40, e128_41, e128_43, e128_45, e128_46, e128_50, e128_51, e128_54, e128_55, e128_57, e128_60, e128_63, e128_64, e128_67, e128_68, e128_70, e128_71, e128_75, e128_76, e128_79, e128_82, e128_84, e128_87, e128_88, e128_91, e128_92, e128_95, e128_96, e128_98, e128_99, e128_100, e128_101, e128_102, e128_105, e128_106, e128_108, e128_109, e128_110, e128_111, e128_112, e128_115, e128_116, e128_119, e128_120, e128_122, e128_125, e128_130, e128_133, e128_135, e128_138, e128_140, e128_143, e128_145, e128_147, e128_150, e128_153, e128_156, e128_157, e128_158, e128_161, e128_162, e128_163, e128_165, e128_168, e128_169, e128_170, e128_171, e128_174, e128_175, e128_176, e128_179, e128_182, e128_184, e128_185, e128_187, e128_189, e128_190, e128_193, e128_194, e128_195, e128_197, e128_199, e128_200, e128_203, e128_205, e128_207, e128_208, e128_210, e128_213, e128_216, e128_218, e128_220, e128_221, gf_63_6, m6, hnz, ↓reduceIte, true_and, and_true, false_and, and_false, bindS, tL0, tL1, app0, app1, eq_self, Int.reduceEq, Int.reduceLT, Int.reduceLE, Int.reduceNeg, Int.reduceToNat]
        · simp (disch := first | omega | (exact Nat.le_of_ble_eq_true rfl) | assumption | rfl) only [e128_0, e128_1, e128_4, e128_7, e128_9, e128_10, e128_11, e128_13, e128_16, e128_17, e128_18, e128_19, e128_20, e128_21, e128_22, e128_25, e128_28, e128_29, e128_31, e128_32, e128_33, e128_36, e128_39, e128_40, e128_41, e128_43, e128_45, e128_46, e128_50, e128_51, e128_54, e128_55, e128_57, e128_60, e128_63, e128_64, e128_67, e128_68, e128_70, e128_71, e128_75, e128_76, e128_79, e128_82, e128_84, e128_87, e128_88, e128_91, e128_92, e128_95, e128_96, e128_98, e128_99, e128_100, e128_101, e128_102, e128_105, e128_106, e128_108, e128_109, e128_110, e128_111, e128_112, e128_115, e128_116, e128_119, e128_120, e128_122, e128_125, e128_130, e128_133, e128_135, e128_138, e128_140, e128_143, e128_145, e128_147, e128_150, e128_153, e128_156, e128_157, e128_158, e128_161, e128_162, e128_163, e128_165, e128_168, e128_169, e128_170, e128_171, e128_174, e128_175, e128_176, e128_179, e128_182, e128_184, e128_185, e128_187, e128_189, e128_190, e128_193, e128_194, e128_195, e128_197, e128_199, e128_200, e128_203, e128_205, e128_207, e128_208, e128_210, e128_213, e128_216, e128_218, e128_220, e128_221, gf_63_6, m6, hnz, ↓reduceIte, true_and, and_true, false_and, and_false, bindS, tL0, tL1, app0, app1, eq_self, Int.reduceEq, Int.reduceLT, Int.reduceLE, Int.reduceNeg, Int.reduceToNat]
    have wway := wr1 way (by omega)
    have hways : 0 ≤ ways := by rcases hF with h | h <;> omega
    have ww : wr (ways + 1) = ways + 1 := wr_id (by omega) (by omega)
    generalize (if rr = -6 ∧ hbB G1 (Mt 66) n 0 = true then (1 : Int) else 0) = ok at *
    by_cases hok : ok = 0
    · obtain ⟨r, M3, a1, a2, a3⟩ := ih (way + 1) ways first fcode (by omega) (by omega) hF M1 hAl1
      refine ⟨r, M3, a1, ?_, fun MQ l6 l7 hS hw => ?_⟩
      · rw [e73_38]
        simp (disch := first | omega | (exact Nat.le_of_ble_eq_true rfl) | assumption | rfl) only [e73_0, e73_1, e73_4, e73_7, e73_9, e73_12, e73_14, e73_15, e73_16, e73_19, e73_22, e73_23, e73_24, e73_27, e73_28, e73_29, e73_31, e73_33, e73_35, e73_36, e73_40, e73_41, e73_44, e73_45, e73_47, e73_48, e73_51, e73_52, e73_55, e73_58, e73_61, e73_63, e73_66, e73_67, e73_68, e73_69, e73_70, e73_71, e73_74, e73_77, e73_78, e73_81, e73_82, e73_85, e73_87, e73_90, e73_93, e73_96, e73_97, e73_98, e73_101, e73_103, e73_106, e73_108, hlt, cw, cR, hok, wway, ↓reduceIte, true_and, and_true, false_and, and_false, bindS, tL0, tL1, app0, app1, eq_self, Int.reduceEq, Int.reduceLT, Int.reduceLE, Int.reduceNeg, Int.reduceToNat]
        exact a2
      · obtain ⟨M2, l7', hS2, hw2, q⟩ := mstep MQ l6 l7 hS hw
        obtain ⟨M4, b1, b2, b3⟩ := a3 M2 (some (.inl ok)) l7' hS2 hw2
        refine ⟨M4, b1, b2, ?_⟩
        rw [q, e128_128]
        simp (disch := first | omega | (exact Nat.le_of_ble_eq_true rfl) | assumption | rfl) only [e128_0, e128_1, e128_4, e128_7, e128_9, e128_10, e128_11, e128_13, e128_16, e128_17, e128_18, e128_19, e128_20, e128_21, e128_22, e128_25, e128_28, e128_29, e128_31, e128_32, e128_33, e128_36, e128_39, e128_40, e128_41, e128_43, e128_45, e128_46, e128_50, e128_51, e128_54, e128_55, e128_57, e128_60, e128_63, e128_64, e128_67, e128_68, e128_70, e128_71, e128_75, e128_76, e128_79, e128_82, e128_84, e128_87, e128_88, e128_91, e128_92, e128_95, e128_96, e128_98, e128_99, e128_100, e128_101, e128_102, e128_105, e128_106, e128_108, e128_109, e128_110, e128_111, e128_112, e128_115, e128_116, e128_119, e128_120, e128_122, e128_125, e128_130, e128_133, e128_135, e128_138, e128_140, e128_143, e128_145, e128_147, e128_150, e128_153, e128_156, e128_157, e128_158, e128_161, e128_162, e128_163, e128_165, e128_168, e128_169, e128_170, e128_171, e128_174, e128_175, e128_176, e128_179, e128_182, e128_184, e128_185, e128_187, e128_189, e128_190, e128_193, e128_194, e128_195, e128_197, e128_199, e128_200, e128_203, e128_205, e128_207, e128_208, e128_210, e128_213, e128_216, e128_218, e128_220, e128_221, hok, wway, ↓reduceIte, true_and, and_true, false_and, and_false, bindS, tL0, tL1, app0, app1, eq_self, Int.reduceEq, Int.reduceLT, Int.reduceLE, Int.reduceNeg, Int.reduceToNat]
        rw [hok] at b3
        exact b3
    · -- a way more
      have hF' : FRel A i (ways + 1) (if ways = 0 then (if 0 ≤ i ∧ i ≤ (A : Int) - 1 then (way : Int) / byq A i.toNat % 6 else first) else first) (if fcode < 0 then (way : Int) else fcode) := by
        rcases hF with ⟨rfl, rfl, rfl⟩ | ⟨h0, h0', h1, h2, rfl⟩
        · have e1 : (if (-6 : Int) < 0 then (way : Int) else -6) = (way : Int) := if_pos (by decide)
          rw [e1]
          exact Or.inr ⟨by decide, by decide, by omega, by omega, if_pos rfl⟩
        · have e1 : (if fcode < 0 then (way : Int) else fcode) = fcode := if_neg (by omega)
          have e2 : ¬ ways = 0 := by omega
          rw [e1, if_neg e2]
          exact Or.inr ⟨by omega, by omega, h1, h2, rfl⟩
      obtain ⟨r, M3, a1, a2, a3⟩ := ih (way + 1) (ways + 1) _ _ (by omega) (by omega) hF' M1 hAl1
      have wA : wr ((A : Int) - 1) = (A : Int) - 1 := wr_id (by omega) (by omega)
      refine ⟨r, M3, a1, ?_, fun MQ l6 l7 hS hw => ?_⟩
      · rw [e73_38]
        by_cases hw0 : ways = 0
        · by_cases hin : 0 ≤ i ∧ i ≤ (A : Int) - 1
          · have g62 := c_at_in (M := M1) (d := 1998) (ar_62 (L := L)) (i := i) hin.1 (by omega)
            rw [r1 62 (by decide) (by decide), hp62 i.toNat (by omega)] at g62
            rw [if_pos hw0, if_pos hin] at a2
            subst hw0
            simp (disch := first | omega | (exact Nat.le_of_ble_eq_true rfl) | assumption | rfl) only [e73_0, e73_1, e73_4, e73_7, e73_9, e73_12, e73_14, e73_15, e73_16, e73_19, e73_22, e73_23, e73_24, e73_27, e73_28, e73_29, e73_31, e73_33, e73_35, e73_36, e73_40, e73_41, e73_44, e73_45, e73_47, e73_48, e73_51, e73_52, e73_55, e73_58, e73_61, e73_63, e73_66, e73_67, e73_68, e73_69, e73_70, e73_71, e73_74, e73_77, e73_78, e73_81, e73_82, e73_85, e73_87, e73_90, e73_93, e73_96, e73_97, e73_98, e73_101, e73_103, e73_106, e73_108, hlt, cw, cR, hok, wway, ww, wA, c_within, hin, gf_1_6, g62, ↓reduceIte, true_and, and_true, false_and, and_false, bindS, tL0, tL1, app0, app1, eq_self, Int.reduceEq, Int.reduceLT, Int.reduceLE, Int.reduceNeg, Int.reduceToNat]
            exact a2
          · rw [if_pos hw0, if_neg hin] at a2
            subst hw0
            simp (disch := first | omega | (exact Nat.le_of_ble_eq_true rfl) | assumption | rfl) only [e73_0, e73_1, e73_4, e73_7, e73_9, e73_12, e73_14, e73_15, e73_16, e73_19, e73_22, e73_23, e73_24, e73_27, e73_28, e73_29, e73_31, e73_33, e73_35, e73_36, e73_40, e73_41, e73_44, e73_45, e73_47, e73_48, e73_51, e73_52, e73_55, e73_58, e73_61, e73_63, e73_66, e73_67, e73_68, e73_69, e73_70, e73_71, e73_74, e73_77, e73_78, e73_81, e73_82, e73_85, e73_87, e73_90, e73_93, e73_96, e73_97, e73_98, e73_101, e73_103, e73_106, e73_108, hlt, cw, cR, hok, wway, ww, wA, c_within, hin, ↓reduceIte, true_and, and_true, false_and, and_false, bindS, tL0, tL1, app0, app1, eq_self, Int.reduceEq, Int.reduceLT, Int.reduceLE, Int.reduceNeg, Int.reduceToNat]
            exact a2
        · rw [if_neg hw0] at a2
          simp (disch := first | omega | (exact Nat.le_of_ble_eq_true rfl) | assumption | rfl) only [e73_0, e73_1, e73_4, e73_7, e73_9, e73_12, e73_14, e73_15, e73_16, e73_19, e73_22, e73_23, e73_24, e73_27, e73_28, e73_29, e73_31, e73_33, e73_35, e73_36, e73_40, e73_41, e73_44, e73_45, e73_47, e73_48, e73_51, e73_52, e73_55, e73_58, e73_61, e73_63, e73_66, e73_67, e73_68, e73_69, e73_70, e73_71, e73_74, e73_77, e73_78, e73_81, e73_82, e73_85, e73_87, e73_90, e73_93, e73_96, e73_97, e73_98, e73_101, e73_103, e73_106, e73_108, hlt, cw, cR, hok, hw0, wway, ww, ↓reduceIte, true_and, and_true, false_and, and_false, bindS, tL0, tL1, app0, app1, eq_self, Int.reduceEq, Int.reduceLT, Int.reduceLE, Int.reduceNeg, Int.reduceToNat]
          exact a2
      · obtain ⟨M2, l7', hS2, hw2, q⟩ := mstep MQ l6 l7 hS hw
        obtain ⟨M4, b1, b2, b3⟩ := a3 M2 (some (.inl ok)) l7' hS2 hw2
        refine ⟨M4, b1, b2, ?_⟩
        rw [q, e128_128]
        by_cases hc : fcode < 0
        · have hc2 : ¬ 0 ≤ fcode := by omega
          rw [if_pos hc] at b3
          simp (disch := first | omega | (exact Nat.le_of_ble_eq_true rfl) | assumption | rfl) only [e128_0, e128_1, e128_4, e128_7, e128_9, e128_10, e128_11, e128_13, e128_16, e128_17, e128_18, e128_19, e128_20, e128_21, e128_22, e128_25, e128_28, e128_29, e128_31, e128_32, e128_33, e128_36, e128_39, e128_40, e128_41, e128_43, e128_45, e128_46, e128_50, e128_51, e128_54, e128_55, e128_57, e128_60, e128_63, e128_64, e128_67, e128_68, e128_70, e128_71, e128_75, e128_76, e128_79, e128_82, e128_84, e128_87, e128_88, e128_91, e128_92, e128_95, e128_96, e128_98, e128_99, e128_100, e128_101, e128_102, e128_105, e128_106, e128_108, e128_109, e128_110, e128_111, e128_112, e128_115, e128_116, e128_119, e128_120, e128_122, e128_125, e128_130, e128_133, e128_135, e128_138, e128_140, e128_143, e128_145, e128_147, e128_150, e128_153, e128_156, e128_157, e128_158, e128_161, e128_162, e128_163, e128_165, e128_168, e128_169, e128_170, e128_171, e128_174, e128_175, e128_176, e128_179, e128_182, e128_184, e128_185, e128_187, e128_189, e128_190, e128_193, e128_194, e128_195, e128_197, e128_199, e128_200, e128_203, e128_205, e128_207, e128_208, e128_210, e128_213, e128_216, e128_218, e128_220, e128_221, hok, hc2, wway, ww, ↓reduceIte, true_and, and_true, false_and, and_false, bindS, tL0, tL1, app0, app1, eq_self, Int.reduceEq, Int.reduceLT, Int.reduceLE, Int.reduceNeg, Int.reduceToNat]
          exact b3
        · have hc2 : 0 ≤ fcode := by omega
          rw [if_neg hc] at b3
          simp (disch := first | omega | (exact Nat.le_of_ble_eq_true rfl) | assumption | rfl) only [e128_0, e128_1, e128_4, e128_7, e128_9, e128_10, e128_11, e128_13, e128_16, e128_17, e128_18, e128_19, e128_20, e128_21, e128_22, e128_25, e128_28, e128_29, e128_31, e128_32, e128_33, e128_36, e128_39, e128_40, e128_41, e128_43, e128_45, e128_46, e128_50, e128_51, e128_54, e128_55, e128_57, e128_60, e128_63, e128_64, e128_67, e128_68, e128_70, e128_71, e128_75, e128_76, e128_79, e128_82, e128_84, e128_87, e128_88, e128_91, e128_92, e128_95, e128_96, e128_98, e128_99, e128_100, e128_101, e128_102, e128_105, e128_106, e128_108, e128_109, e128_110, e128_111, e128_112, e128_115, e128_116, e128_119, e128_120, e128_122, e128_125, e128_130, e128_133, e128_135, e128_138, e128_140, e128_143, e128_145, e128_147, e128_150, e128_153, e128_156, e128_157, e128_158, e128_161, e128_162, e128_163, e128_165, e128_168, e128_169, e128_170, e128_171, e128_174, e128_175, e128_176, e128_179, e128_182, e128_184, e128_185, e128_187, e128_189, e128_190, e128_193, e128_194, e128_195, e128_197, e128_199, e128_200, e128_203, e128_205, e128_207, e128_208, e128_210, e128_213, e128_216, e128_218, e128_220, e128_221, hok, hc2, wway, ww, ↓reduceIte, true_and, and_true, false_and, and_false, bindS, tL0, tL1, app0, app1, eq_self, Int.reduceEq, Int.reduceLT, Int.reduceLE, Int.reduceNeg, Int.reduceToNat]
          exact b3
