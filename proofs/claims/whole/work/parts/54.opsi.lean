/-! restore -/
theorem res_loop1 {d L : Nat} {M : PM} {l1 : Option PV} {o : Nat} (ho : o ≤ 48) : ∀ (k i : Nat), i + k = 6 →
    ev d 132 31 [some (.inr (.inr (some 63))), l1, some (.inl (o : Int)), some (.inl (i : Int))] [] (SH L) (setR M 64 (fil (fun q => M 71 (o + q)) (M 64) i)) = ev d 132 57 [some (.inr (.inr (some 63))), l1, some (.inl (o : Int)), some (.inl 6)] [] (SH L) (setR M 64 (fil (fun q => M 71 (o + q)) (M 64) 6)) := by
  intro k
  induction k with
  | zero =>
    intro i hi
    have hi : i = 6 := by omega
    subst hi
    rw [e132_31]
    simp only [e132_0, e132_1, e132_2, e132_3, e132_6, e132_9, e132_11, e132_12, e132_13, e132_16, e132_17, e132_18, e132_21, e132_23, e132_24, e132_26, e132_27, e132_28, e132_29, e132_30, e132_32, e132_34, e132_37, e132_38, e132_41, e132_42, e132_43, e132_46, e132_47, e132_48, e132_49, e132_50, e132_51, e132_54, e132_58, e132_59, e132_60, e132_62, e132_65, e132_66, e132_69, e132_70, e132_71, e132_74, e132_75, e132_77, e132_78, e132_79, e132_80, e132_81, e132_82, e132_85, e132_88, e132_89, e132_90, e132_91, e132_93, e132_96, e132_97, e132_100, e132_101, e132_102, e132_105, e132_106, e132_108, e132_109, e132_110, e132_111, e132_112, e132_113, e132_116, e132_119, e132_120, e132_121, e132_124, e132_125, e132_127, e132_128, e132_129, e132_132, e132_133, e132_134, e132_137, e132_138, e132_140, e132_141, e132_142, e132_145, e132_146, e132_147, e132_150, e132_151, e132_153, e132_154, e132_155, e132_158, e132_159, e132_160, e132_163, e132_164, e132_166, e132_167, e132_168, e132_171, e132_172, e132_173, e132_176, e132_177, e132_179, e132_180, e132_181, e132_184, e132_185]
    rw [if_pos (by decide)]
    rfl
  | succ k ih =>
    intro i hi
    have h6 : i < 6 := by omega
    have n1 : ¬ (6 : Int) ≤ (i : Int) := by omega
    have w2 : wr ((o : Int) + (i : Int)) = ((o + i : Nat) : Int) := by rw [wr_id (by omega) (by omega)]; omega
    have w3 : wr ((i : Int) + 1) = ((i + 1 : Nat) : Int) := wr1 i (by omega)
    have g1 := fun M : PM => aget_in (M := M) (ar_71 (L := L)) (i := ((o + i : Nat) : Int)) (by omega) (by omega)
    have p1 := fun (M : PM) x => aput_in (M := M) (ar_64 (L := L)) (i := (i : Int)) (x := x) (by omega) (by omega)
    have e1 : setR M 64 (fil (fun q => M 71 (o + q)) (M 64) i) 71 = M 71 := setR_row (by decide)
    rw [e132_31]
    simp only [e132_0, e132_1, e132_2, e132_3, e132_6, e132_9, e132_11, e132_12, e132_13, e132_16, e132_17, e132_18, e132_21, e132_23, e132_24, e132_26, e132_27, e132_28, e132_29, e132_30, e132_32, e132_34, e132_37, e132_38, e132_41, e132_42, e132_43, e132_46, e132_47, e132_48, e132_49, e132_50, e132_51, e132_54, e132_58, e132_59, e132_60, e132_62, e132_65, e132_66, e132_69, e132_70, e132_71, e132_74, e132_75, e132_77, e132_78, e132_79, e132_80, e132_81, e132_82, e132_85, e132_88, e132_89, e132_90, e132_91, e132_93, e132_96, e132_97, e132_100, e132_101, e132_102, e132_105, e132_106, e132_108, e132_109, e132_110, e132_111, e132_112, e132_113, e132_116, e132_119, e132_120, e132_121, e132_124, e132_125, e132_127, e132_128, e132_129, e132_132, e132_133, e132_134, e132_137, e132_138, e132_140, e132_141, e132_142, e132_145, e132_146, e132_147, e132_150, e132_151, e132_153, e132_154, e132_155, e132_158, e132_159, e132_160, e132_163, e132_164, e132_166, e132_167, e132_168, e132_171, e132_172, e132_173, e132_176, e132_177, e132_179, e132_180, e132_181, e132_184, e132_185, if_neg n1, gf_63_18, gf_63_3, g1, w2, w3, p1, bindS, e1, tnN]
    rw [fil_put rfl]
    exact ih (i + 1) (by omega)
theorem res_loop2 {d L : Nat} {M : PM} {l1 : Option PV} {o : Nat} (ho : o ≤ 48) : ∀ (k i : Nat), i + k = 21 →
    ev d 132 59 [some (.inr (.inr (some 63))), l1, some (.inl (o : Int)), some (.inl (i : Int))] [] (SH L) (setR M 65 (fil (fun q => M 71 (o + 6 + q)) (M 65) i)) = ev d 132 88 [some (.inr (.inr (some 63))), l1, some (.inl (o : Int)), some (.inl 21)] [] (SH L) (setR M 65 (fil (fun q => M 71 (o + 6 + q)) (M 65) 21)) := by
  intro k
  induction k with
  | zero =>
    intro i hi
    have hi : i = 21 := by omega
    subst hi
    rw [e132_59]
    simp only [e132_0, e132_1, e132_2, e132_3, e132_6, e132_9, e132_11, e132_12, e132_13, e132_16, e132_17, e132_18, e132_21, e132_23, e132_24, e132_26, e132_27, e132_28, e132_29, e132_30, e132_31, e132_32, e132_34, e132_37, e132_38, e132_41, e132_42, e132_43, e132_46, e132_47, e132_48, e132_49, e132_50, e132_51, e132_54, e132_57, e132_58, e132_60, e132_62, e132_65, e132_66, e132_69, e132_70, e132_71, e132_74, e132_75, e132_77, e132_78, e132_79, e132_80, e132_81, e132_82, e132_85, e132_89, e132_90, e132_91, e132_93, e132_96, e132_97, e132_100, e132_101, e132_102, e132_105, e132_106, e132_108, e132_109, e132_110, e132_111, e132_112, e132_113, e132_116, e132_119, e132_120, e132_121, e132_124, e132_125, e132_127, e132_128, e132_129, e132_132, e132_133, e132_134, e132_137, e132_138, e132_140, e132_141, e132_142, e132_145, e132_146, e132_147, e132_150, e132_151, e132_153, e132_154, e132_155, e132_158, e132_159, e132_160, e132_163, e132_164, e132_166, e132_167, e132_168, e132_171, e132_172, e132_173, e132_176, e132_177, e132_179, e132_180, e132_181, e132_184, e132_185]
    rw [if_pos (by decide)]
    rfl
  | succ k ih =>
    intro i hi
    have h6 : i < 21 := by omega
    have n1 : ¬ (21 : Int) ≤ (i : Int) := by omega
    have w1 : wr ((o : Int) + 6) = ((o + 6 : Nat) : Int) := by rw [wr_id (by omega) (by omega)]; omega
    have w2 : wr (((o + 6 : Nat) : Int) + (i : Int)) = ((o + 6 + i : Nat) : Int) := by rw [wr_id (by omega) (by omega)]; omega
    have w3 : wr ((i : Int) + 1) = ((i + 1 : Nat) : Int) := wr1 i (by omega)
    have g1 := fun M : PM => aget_in (M := M) (ar_71 (L := L)) (i := ((o + 6 + i : Nat) : Int)) (by omega) (by omega)
    have p1 := fun (M : PM) x => aput_in (M := M) (ar_65 (L := L)) (i := (i : Int)) (x := x) (by omega) (by omega)
    have e1 : setR M 65 (fil (fun q => M 71 (o + 6 + q)) (M 65) i) 71 = M 71 := setR_row (by decide)
    rw [e132_59]
    simp only [e132_0, e132_1, e132_2, e132_3, e132_6, e132_9, e132_11, e132_12, e132_13, e132_16, e132_17, e132_18, e132_21, e132_23, e132_24, e132_26, e132_27, e132_28, e132_29, e132_30, e132_31, e132_32, e132_34, e132_37, e132_38, e132_41, e132_42, e132_43, e132_46, e132_47, e132_48, e132_49, e132_50, e132_51, e132_54, e132_57, e132_58, e132_60, e132_62, e132_65, e132_66, e132_69, e132_70, e132_71, e132_74, e132_75, e132_77, e132_78, e132_79, e132_80, e132_81, e132_82, e132_85, e132_89, e132_90, e132_91, e132_93, e132_96, e132_97, e132_100, e132_101, e132_102, e132_105, e132_106, e132_108, e132_109, e132_110, e132_111, e132_112, e132_113, e132_116, e132_119, e132_120, e132_121, e132_124, e132_125, e132_127, e132_128, e132_129, e132_132, e132_133, e132_134, e132_137, e132_138, e132_140, e132_141, e132_142, e132_145, e132_146, e132_147, e132_150, e132_151, e132_153, e132_154, e132_155, e132_158, e132_159, e132_160, e132_163, e132_164, e132_166, e132_167, e132_168, e132_171, e132_172, e132_173, e132_176, e132_177, e132_179, e132_180, e132_181, e132_184, e132_185, if_neg n1, gf_63_18, gf_63_5, g1, w1, w2, w3, p1, bindS, e1, tnN]
    rw [fil_put rfl]
    exact ih (i + 1) (by omega)
theorem res_loop3 {d L : Nat} {M : PM} {l1 : Option PV} {o : Nat} (ho : o ≤ 48) : ∀ (k i : Nat), i + k = 12 →
    ev d 132 90 [some (.inr (.inr (some 63))), l1, some (.inl (o : Int)), some (.inl (i : Int))] [] (SH L) (setR M 66 (fil (fun q => M 71 (o + 27 + q)) (M 66) i)) = ev d 132 119 [some (.inr (.inr (some 63))), l1, some (.inl (o : Int)), some (.inl 12)] [] (SH L) (setR M 66 (fil (fun q => M 71 (o + 27 + q)) (M 66) 12)) := by
  intro k
  induction k with
  | zero =>
    intro i hi
    have hi : i = 12 := by omega
    subst hi
    rw [e132_90]
    simp only [e132_0, e132_1, e132_2, e132_3, e132_6, e132_9, e132_11, e132_12, e132_13, e132_16, e132_17, e132_18, e132_21, e132_23, e132_24, e132_26, e132_27, e132_28, e132_29, e132_30, e132_31, e132_32, e132_34, e132_37, e132_38, e132_41, e132_42, e132_43, e132_46, e132_47, e132_48, e132_49, e132_50, e132_51, e132_54, e132_57, e132_58, e132_59, e132_60, e132_62, e132_65, e132_66, e132_69, e132_70, e132_71, e132_74, e132_75, e132_77, e132_78, e132_79, e132_80, e132_81, e132_82, e132_85, e132_88, e132_89, e132_91, e132_93, e132_96, e132_97, e132_100, e132_101, e132_102, e132_105, e132_106, e132_108, e132_109, e132_110, e132_111, e132_112, e132_113, e132_116, e132_120, e132_121, e132_124, e132_125, e132_127, e132_128, e132_129, e132_132, e132_133, e132_134, e132_137, e132_138, e132_140, e132_141, e132_142, e132_145, e132_146, e132_147, e132_150, e132_151, e132_153, e132_154, e132_155, e132_158, e132_159, e132_160, e132_163, e132_164, e132_166, e132_167, e132_168, e132_171, e132_172, e132_173, e132_176, e132_177, e132_179, e132_180, e132_181, e132_184, e132_185]
    rw [if_pos (by decide)]
    rfl
  | succ k ih =>
    intro i hi
    have h6 : i < 12 := by omega
    have n1 : ¬ (12 : Int) ≤ (i : Int) := by omega
    have w1 : wr ((o : Int) + 27) = ((o + 27 : Nat) : Int) := by rw [wr_id (by omega) (by omega)]; omega
    have w2 : wr (((o + 27 : Nat) : Int) + (i : Int)) = ((o + 27 + i : Nat) : Int) := by rw [wr_id (by omega) (by omega)]; omega
    have w3 : wr ((i : Int) + 1) = ((i + 1 : Nat) : Int) := wr1 i (by omega)
    have g1 := fun M : PM => aget_in (M := M) (ar_71 (L := L)) (i := ((o + 27 + i : Nat) : Int)) (by omega) (by omega)
    have p1 := fun (M : PM) x => aput_in (M := M) (ar_66 (L := L)) (i := (i : Int)) (x := x) (by omega) (by omega)
    have e1 : setR M 66 (fil (fun q => M 71 (o + 27 + q)) (M 66) i) 71 = M 71 := setR_row (by decide)
    rw [e132_90]
    simp only [e132_0, e132_1, e132_2, e132_3, e132_6, e132_9, e132_11, e132_12, e132_13, e132_16, e132_17, e132_18, e132_21, e132_23, e132_24, e132_26, e132_27, e132_28, e132_29, e132_30, e132_31, e132_32, e132_34, e132_37, e132_38, e132_41, e132_42, e132_43, e132_46, e132_47, e132_48, e132_49, e132_50, e132_51, e132_54, e132_57, e132_58, e132_59, e132_60, e132_62, e132_65, e132_66, e132_69, e132_70, e132_71, e132_74, e132_75, e132_77, e132_78, e132_79, e132_80, e132_81, e132_82, e132_85, e132_88, e132_89, e132_91, e132_93, e132_96, e132_97, e132_100, e132_101, e132_102, e132_105, e132_106, e132_108, e132_109, e132_110, e132_111, e132_112, e132_113, e132_116, e132_120, e132_121, e132_124, e132_125, e132_127, e132_128, e132_129, e132_132, e132_133, e132_134, e132_137, e132_138, e132_140, e132_141, e132_142, e132_145, e132_146, e132_147, e132_150, e132_151, e132_153, e132_154, e132_155, e132_158, e132_159, e132_160, e132_163, e132_164, e132_166, e132_167, e132_168, e132_171, e132_172, e132_173, e132_176, e132_177, e132_179, e132_180, e132_181, e132_184, e132_185, if_neg n1, gf_63_18, gf_63_7, g1, w1, w2, w3, p1, bindS, e1, tnN]
    rw [fil_put rfl]
    exact ih (i + 1) (by omega)
/-- the reference behind restore n -/
def resA (o : Nat) (M : PM) : PM := setR (setR (setR M 64 (fil (fun q => M 71 (o + q)) (M 64) 6)) 65 (fil (fun q => M 71 (o + 6 + q)) (M 65) 21)) 66 (fil (fun q => M 71 (o + 27 + q)) (M 66) 12)
def resM (o : Nat) (M : PM) : PM := setC (setC (setC (setC (setC (resA o M) 63 0 (M 71 (o + 39))) 63 1 (M 71 (o + 40))) 63 2 (M 71 (o + 41))) 63 4 (M 71 (o + 42))) 63 6 (M 71 (o + 43))
theorem resA_row {o a : Nat} {M : PM} (h : a < 64 ∨ 66 < a) : resA o M a = M a := by
  unfold resA
  rw [setR_row (by omega), setR_row (by omega), setR_row (by omega)]
theorem mrestore {L n : Nat} {M : PM} (hn : n < 2) (hk : M 72 n = 1) : ev 1999 132 0 [some (.inr (.inr (some 63))), some (.inl (n : Int)), none, none] [] (SH L) M = some (some (.inl 1), SH L, resM (48 * n) M) := by
  have w0 : wr (48 * (n : Int)) = ((48 * n : Nat) : Int) := by rw [wr_id (by omega) (by omega)]; omega
  have hin : 0 ≤ (n : Int) ∧ (n : Int) ≤ 1 := by omega
  have l1 := res_loop1 (d := 1999) (L := L) (M := M) (l1 := some (.inl (n : Int))) (o := 48 * n) (by omega) 6 0 (by omega)
  rw [fil_0, setR_same] at l1
  generalize hA : setR M 64 (fil (fun q => M 71 (48 * n + q)) (M 64) 6) = A at l1
  have l2 := res_loop2 (d := 1999) (L := L) (M := A) (l1 := some (.inl (n : Int))) (o := 48 * n) (by omega) 21 0 (by omega)
  rw [fil_0, setR_same] at l2
  generalize hB : setR A 65 (fil (fun q => A 71 (48 * n + 6 + q)) (A 65) 21) = B at l2
  have l3 := res_loop3 (d := 1999) (L := L) (M := B) (l1 := some (.inl (n : Int))) (o := 48 * n) (by omega) 12 0 (by omega)
  rw [fil_0, setR_same] at l3
  have eA : ∀ a, a ≠ 64 → A a = M a := fun a ha => by rw [← hA, setR_row ha]
  have eB : ∀ a, a ≠ 65 → B a = A a := fun a ha => by rw [← hB, setR_row ha]
  have hC : setR B 66 (fil (fun q => B 71 (48 * n + 27 + q)) (B 66) 12) = resA (48 * n) M := by
    unfold resA
    rw [eB 71 (by decide), eB 66 (by decide), eA 71 (by decide), eA 66 (by decide), ← hB, eA 71 (by decide), eA 65 (by decide), ← hA]
  rw [hC] at l3
  have z := zg_72 (L := L) (M := M) (i := (n : Int)) (by omega) (by omega)
  rw [tnN, hk] at z
  have e71 : resA (48 * n) M 71 = M 71 := resA_row (by decide)
  have g := fun (M : PM) (j : Nat) (hj : j ≤ 47) => aget_in (M := M) (ar_71 (L := L)) (i := ((48 * n + j : Nat) : Int)) (by omega) (by omega)
  have w39 : wr (((48 * n : Nat) : Int) + 39) = ((48 * n + 39 : Nat) : Int) := by rw [wr_id (by omega) (by omega)]; omega
  have w40 : wr (((48 * n : Nat) : Int) + 40) = ((48 * n + 40 : Nat) : Int) := by rw [wr_id (by omega) (by omega)]; omega
  have w41 : wr (((48 * n : Nat) : Int) + 41) = ((48 * n + 41 : Nat) : Int) := by rw [wr_id (by omega) (by omega)]; omega
  have w42 : wr (((48 * n : Nat) : Int) + 42) = ((48 * n + 42 : Nat) : Int) := by rw [wr_id (by omega) (by omega)]; omega
  have w43 : wr (((48 * n : Nat) : Int) + 43) = ((48 * n + 43 : Nat) : Int) := by rw [wr_id (by omega) (by omega)]; omega
  have g39 := fun (M : PM) => g M 39 (by decide)
  have g40 := fun (M : PM) => g M 40 (by decide)
  have g41 := fun (M : PM) => g M 41 (by decide)
  have g42 := fun (M : PM) => g M 42 (by decide)
  have g43 := fun (M : PM) => g M 43 (by decide)
  simp only [tnN] at g39 g40 g41 g42 g43
  simp (disch := first | omega | (exact Nat.le_of_ble_eq_true rfl) | assumption | rfl) only [e132_0, e132_1, e132_2, e132_3, e132_6, e132_9, e132_11, e132_12, e132_13, e132_16, e132_17, e132_18, e132_21, e132_23, e132_24, e132_26, e132_27, e132_28, e132_29, e132_30, e132_32, e132_34, e132_37, e132_38, e132_41, e132_42, e132_43, e132_46, e132_47, e132_48, e132_49, e132_50, e132_51, e132_54, e132_57, e132_58, e132_60, e132_62, e132_65, e132_66, e132_69, e132_70, e132_71, e132_74, e132_75, e132_77, e132_78, e132_79, e132_80, e132_81, e132_82, e132_85, e132_88, e132_89, e132_91, e132_93, e132_96, e132_97, e132_100, e132_101, e132_102, e132_105, e132_106, e132_108, e132_109, e132_110, e132_111, e132_112, e132_113, e132_116, e132_119, e132_120, e132_121, e132_124, e132_125, e132_127, e132_128, e132_129, e132_132, e132_133, e132_134, e132_137, e132_138, e132_140, e132_141, e132_142, e132_145, e132_146, e132_147, e132_150, e132_151, e132_153, e132_154, e132_155, e132_158, e132_159, e132_160, e132_163, e132_164, e132_166, e132_167, e132_168, e132_171, e132_172, e132_173, e132_176, e132_177, e132_179, e132_180, e132_181, e132_184, e132_185, c_in, if_pos hin, w0, gf_63_19, z, bindS, tL0, tL1, app0, app1, if_true, if_false, eq_self, Int.reduceEq, Int.reduceLT, Int.reduceLE, Int.reduceNeg, Int.reduceToNat]
  rw [show ((0 : Int)) = ((0 : Nat) : Int) from rfl, l1]
  simp only [e132_0, e132_1, e132_2, e132_3, e132_6, e132_9, e132_11, e132_12, e132_13, e132_16, e132_17, e132_18, e132_21, e132_23, e132_24, e132_26, e132_27, e132_28, e132_29, e132_30, e132_32, e132_34, e132_37, e132_38, e132_41, e132_42, e132_43, e132_46, e132_47, e132_48, e132_49, e132_50, e132_51, e132_54, e132_57, e132_58, e132_60, e132_62, e132_65, e132_66, e132_69, e132_70, e132_71, e132_74, e132_75, e132_77, e132_78, e132_79, e132_80, e132_81, e132_82, e132_85, e132_88, e132_89, e132_91, e132_93, e132_96, e132_97, e132_100, e132_101, e132_102, e132_105, e132_106, e132_108, e132_109, e132_110, e132_111, e132_112, e132_113, e132_116, e132_119, e132_120, e132_121, e132_124, e132_125, e132_127, e132_128, e132_129, e132_132, e132_133, e132_134, e132_137, e132_138, e132_140, e132_141, e132_142, e132_145, e132_146, e132_147, e132_150, e132_151, e132_153, e132_154, e132_155, e132_158, e132_159, e132_160, e132_163, e132_164, e132_166, e132_167, e132_168, e132_171, e132_172, e132_173, e132_176, e132_177, e132_179, e132_180, e132_181, e132_184, e132_185]
  rw [show ((0 : Int)) = ((0 : Nat) : Int) from rfl, l2]
  simp only [e132_0, e132_1, e132_2, e132_3, e132_6, e132_9, e132_11, e132_12, e132_13, e132_16, e132_17, e132_18, e132_21, e132_23, e132_24, e132_26, e132_27, e132_28, e132_29, e132_30, e132_32, e132_34, e132_37, e132_38, e132_41, e132_42, e132_43, e132_46, e132_47, e132_48, e132_49, e132_50, e132_51, e132_54, e132_57, e132_58, e132_60, e132_62, e132_65, e132_66, e132_69, e132_70, e132_71, e132_74, e132_75, e132_77, e132_78, e132_79, e132_80, e132_81, e132_82, e132_85, e132_88, e132_89, e132_91, e132_93, e132_96, e132_97, e132_100, e132_101, e132_102, e132_105, e132_106, e132_108, e132_109, e132_110, e132_111, e132_112, e132_113, e132_116, e132_119, e132_120, e132_121, e132_124, e132_125, e132_127, e132_128, e132_129, e132_132, e132_133, e132_134, e132_137, e132_138, e132_140, e132_141, e132_142, e132_145, e132_146, e132_147, e132_150, e132_151, e132_153, e132_154, e132_155, e132_158, e132_159, e132_160, e132_163, e132_164, e132_166, e132_167, e132_168, e132_171, e132_172, e132_173, e132_176, e132_177, e132_179, e132_180, e132_181, e132_184, e132_185]
  rw [show ((0 : Int)) = ((0 : Nat) : Int) from rfl, l3]
  simp (disch := decide) only [e132_0, e132_1, e132_2, e132_3, e132_6, e132_9, e132_11, e132_12, e132_13, e132_16, e132_17, e132_18, e132_21, e132_23, e132_24, e132_26, e132_27, e132_28, e132_29, e132_30, e132_32, e132_34, e132_37, e132_38, e132_41, e132_42, e132_43, e132_46, e132_47, e132_48, e132_49, e132_50, e132_51, e132_54, e132_57, e132_58, e132_60, e132_62, e132_65, e132_66, e132_69, e132_70, e132_71, e132_74, e132_75, e132_77, e132_78, e132_79, e132_80, e132_81, e132_82, e132_85, e132_88, e132_89, e132_91, e132_93, e132_96, e132_97, e132_100, e132_101, e132_102, e132_105, e132_106, e132_108, e132_109, e132_110, e132_111, e132_112, e132_113, e132_116, e132_119, e132_120, e132_121, e132_124, e132_125, e132_127, e132_128, e132_129, e132_132, e132_133, e132_134, e132_137, e132_138, e132_140, e132_141, e132_142, e132_145, e132_146, e132_147, e132_150, e132_151, e132_153, e132_154, e132_155, e132_158, e132_159, e132_160, e132_163, e132_164, e132_166, e132_167, e132_168, e132_171, e132_172, e132_173, e132_176, e132_177, e132_179, e132_180, e132_181, e132_184, e132_185, gf_63_18, w39, w40, w41, w42, w43, g39, g40, g41, g42, g43, pi_63_0, pi_63_1, pi_63_2, pi_63_4, pi_63_6, setC_row, e71, bindS]
  rfl
theorem restore_inv {K : Int} {M : PM} {s n : Nat} (h : Inv K M) (hs : s = 12 ∧ n = 0 ∨ s = 22 ∧ n = 1) (hk : M 72 n = 1) : Inv K (resM (48 * n) (cps 2 s (cpt 2 s (cpv 2 s M)))) := by
  obtain ⟨h1, h2, h3, ht, h5, h6⟩ := id h
  have hI : ImgI K M s n := by rcases hs with ⟨rfl, rfl⟩ | ⟨rfl, rfl⟩ <;> assumption
  obtain ⟨i1, i2, i3⟩ := hI
  obtain ⟨⟨a1, a2, a3, a4, a5, a6, a7, a8⟩, ⟨b1, b2, b3, b4, b5, b6, b7, b8⟩⟩ := i3 hk
  have cv := cp_v (s := 2) (w := s) (M := M)
  have ct := cp_t (s := 2) (w := s) (M := M) (by omega)
  have cs := cp_s (s := 2) (w := s) (M := M) (by omega)
  have cr : ∀ a, a < 2 + 1 ∨ 2 + 9 < a → cps 2 s (cpt 2 s (cpv 2 s M)) a = M a := fun a ha => cp_row ha
  generalize cps 2 s (cpt 2 s (cpv 2 s M)) = C at *
  have c71 : C 71 = M 71 := cr 71 (by decide)
  have r : ∀ a, a ≠ 63 → a ≠ 64 → a ≠ 65 → a ≠ 66 → resM (48 * n) C a = C a := fun a x1 x2 x3 x4 => by
    unfold resM
    rw [setC_row x1, setC_row x1, setC_row x1, setC_row x1, setC_row x1, resA_row (by omega)]
  have r3 : ∀ j, j ≠ 0 → j ≠ 1 → j ≠ 2 → j ≠ 4 → j ≠ 6 → resM (48 * n) C 63 j = M 63 j := fun j x0 x1 x2 x4 x6 => by
    unfold resM
    rw [setC_i x6, setC_i x4, setC_i x2, setC_i x1, setC_i x0, resA_row (by omega), cr 63 (by decide)]
  have m0 : resM (48 * n) C 63 0 = M 71 (48 * n + 39) := by
    unfold resM
    rw [setC_i (by decide), setC_i (by decide), setC_i (by decide), setC_i (by decide), setC_s, c71]
  have m1 : resM (48 * n) C 63 1 = M 71 (48 * n + 40) := by
    unfold resM
    rw [setC_i (by decide), setC_i (by decide), setC_i (by decide), setC_s, c71]
  have m2 : resM (48 * n) C 63 2 = M 71 (48 * n + 41) := by
    unfold resM
    rw [setC_i (by decide), setC_i (by decide), setC_s, c71]
  have m4 : resM (48 * n) C 63 4 = M 71 (48 * n + 42) := by
    unfold resM
    rw [setC_i (by decide), setC_s, c71]
  have m6 : resM (48 * n) C 63 6 = M 71 (48 * n + 43) := by
    unfold resM
    rw [setC_s, c71]
  have m64 : ∀ p, p < 6 → resM (48 * n) C 64 p = M 71 (48 * n + p) := fun p hp => by
    unfold resM resA
    rw [setC_row (by decide), setC_row (by decide), setC_row (by decide), setC_row (by decide), setC_row (by decide), setR_row (by decide), setR_row (by decide), setR_s, fil_lt _ _ hp, c71]
  have m65 : ∀ k, k < 21 → resM (48 * n) C 65 k = M 71 (48 * n + 6 + k) := fun p hp => by
    unfold resM resA
    rw [setC_row (by decide), setC_row (by decide), setC_row (by decide), setC_row (by decide), setC_row (by decide), setR_row (by decide), setR_s, fil_lt _ _ hp, c71]
  have m66 : ∀ k, k < 12 → resM (48 * n) C 66 k = M 71 (48 * n + 27 + k) := fun p hp => by
    unfold resM resA
    rw [setC_row (by decide), setC_row (by decide), setC_row (by decide), setC_row (by decide), setC_row (by decide), setR_s, fil_lt _ _ hp, c71]
  generalize hM2 : resM (48 * n) C = M2 at *
  have q : ∀ a, 11 < a → a ≠ 63 → a ≠ 64 → a ≠ 65 → a ≠ 66 → M2 a = M a := fun a x0 x1 x2 x3 x4 => by rw [r a x1 x2 x3 x4, cr a (by omega)]
  refine ⟨⟨⟨?_, ?_, ?_, ?_, ?_, ?_, ?_, ?_⟩, ⟨?_, ?_, ?_, ?_, ?_, ?_, ?_, ?_⟩⟩, Img0_same h2 (fun a ha => q a (by omega) (by omega) (by omega) (by omega) (by omega)), Img1_same h3 (fun a ha => q a (by omega) (by omega) (by omega) (by omega) (by omega)), TxtI_same ht (fun a ha => q a (by omega) (by omega) (by omega) (by omega) (by omega)) (by rw [q 32 (by decide) (by decide) (by decide) (by decide) (by decide)]) (r3 8 (by decide) (by decide) (by decide) (by decide) (by decide)), ?_, ?_⟩
  · intro p hp
    rw [m64 p hp]; exact a1 p hp
  · rw [m0]; exact a2
  · rw [m1]; exact a3
  · rw [m2]; exact a4
  · rw [m4]; exact a5
  · rw [m6]; exact a6
  · rw [m4]
    intro i hi
    rw [m65 _ (by omega), m65 _ (by omega), m65 _ (by omega)]; exact a7 i hi
  · rw [m6]
    intro i hi
    rw [m66 _ (by omega)]; exact a8 i hi
  · intro p hp
    rw [m64 p hp, r _ (by decide) (by decide) (by decide) (by decide)]; exact (cv.1 p hp).trans (b1 p hp)
  · rw [m0, r _ (by decide) (by decide) (by decide) (by decide)]; exact cv.2.2.1.trans b2
  · rw [m1, r _ (by decide) (by decide) (by decide) (by decide)]; exact cv.2.2.2.trans b3
  · rw [m2, r _ (by decide) (by decide) (by decide) (by decide)]; exact cv.2.1.trans b4
  · rw [m4, r _ (by decide) (by decide) (by decide) (by decide)]; exact ct.1.trans b5
  · rw [m6, r _ (by decide) (by decide) (by decide) (by decide)]; exact cs.1.trans b6
  · intro i hi
    rw [m65 _ (by omega), m65 _ (by omega), m65 _ (by omega), r _ (by decide) (by decide) (by decide) (by decide), r (5 + 2) (by decide) (by decide) (by decide) (by decide), r (5 + 3) (by decide) (by decide) (by decide) (by decide)]
    have t := ct.2 i hi
    have b := b7 i hi
    exact ⟨t.1.trans b.1, t.2.1.trans b.2.1, t.2.2.trans b.2.2⟩
  · intro i hi
    rw [m66 _ (by omega), m66 _ (by omega), r _ (by decide) (by decide) (by decide) (by decide), r (9 + 2) (by decide) (by decide) (by decide) (by decide)]
    have t := cs.2 i hi
    have b := b8 i hi
    exact ⟨t.1.trans b.1, t.2.trans b.2⟩
  · rw [q 41 (by decide) (by decide) (by decide) (by decide) (by decide)]; exact h5
  · rw [r3 12 (by decide) (by decide) (by decide) (by decide) (by decide)]; exact h6
theorem op_restore {L : Nat} {K : Int} {M : PM} (h : Inv K M) (n : Int) : ∃ r M1 M2, den 1999 77 [(.inr (.inr (some 1))), .inl n] (SH L) M = some (some (.inl r), SH L, M1) ∧ M1 0 = M 0 ∧ den 1999 132 [(.inr (.inr (some 63))), .inl n] (SH L) M1 = some (some (.inl r), SH L, M2) ∧ Inv K M2 := by
  have o1 := io_1 (L := L)
  have o2 := io_2 (L := L)
  have u : ∀ {x}, den 1999 77 [(.inr (.inr (some 1))), .inl n] (SH L) M = x ↔ ev 1999 77 0 [some (.inr (.inr (some 1))), some (.inl n)] [] (SH L) M = x := by
    intro x
    unfold den
    rw [show ent 77 [(.inr (.inr (some 1))), .inl n] = [some (.inr (.inr (some 1))), some (.inl n)] from rfl]
  have u2 : ∀ {x} {M : PM}, den 1999 132 [(.inr (.inr (some 63))), .inl n] (SH L) M = x ↔ ev 1999 132 0 [some (.inr (.inr (some 63))), some (.inl n), none, none] [] (SH L) M = x := by
    intro x M
    unfold den
    rw [show ent 132 [(.inr (.inr (some 63))), .inl n] = [some (.inr (.inr (some 63))), some (.inl n), none, none] from rfl]
  by_cases hn : 0 ≤ n ∧ n ≤ 1
  rotate_left
  · exact ⟨-2, M, M, u.mpr (by simp (disch := first | omega | (exact Nat.le_of_ble_eq_true rfl) | assumption | rfl) only [e77_0, e77_1, e77_2, e77_3, e77_6, e77_9, e77_11, e77_12, e77_13, e77_14, e77_17, e77_20, e77_23, e77_25, e77_26, e77_27, e77_30, e77_31, e77_32, e77_35, e77_38, e77_39, c_within, if_neg hn, bindS, tL0, tL1, app0, app1, if_true, if_false, eq_self, Int.reduceEq, Int.reduceLT, Int.reduceLE, Int.reduceNeg, Int.reduceToNat]), rfl, u2.mpr (by simp (disch := first | omega | (exact Nat.le_of_ble_eq_true rfl) | assumption | rfl) only [e132_0, e132_1, e132_2, e132_3, e132_6, e132_9, e132_11, e132_12, e132_13, e132_16, e132_17, e132_18, e132_21, e132_23, e132_24, e132_26, e132_27, e132_28, e132_29, e132_30, e132_32, e132_34, e132_37, e132_38, e132_41, e132_42, e132_43, e132_46, e132_47, e132_48, e132_49, e132_50, e132_51, e132_54, e132_57, e132_58, e132_60, e132_62, e132_65, e132_66, e132_69, e132_70, e132_71, e132_74, e132_75, e132_77, e132_78, e132_79, e132_80, e132_81, e132_82, e132_85, e132_88, e132_89, e132_91, e132_93, e132_96, e132_97, e132_100, e132_101, e132_102, e132_105, e132_106, e132_108, e132_109, e132_110, e132_111, e132_112, e132_113, e132_116, e132_119, e132_120, e132_121, e132_124, e132_125, e132_127, e132_128, e132_129, e132_132, e132_133, e132_134, e132_137, e132_138, e132_140, e132_141, e132_142, e132_145, e132_146, e132_147, e132_150, e132_151, e132_153, e132_154, e132_155, e132_158, e132_159, e132_160, e132_163, e132_164, e132_166, e132_167, e132_168, e132_171, e132_172, e132_173, e132_176, e132_177, e132_179, e132_180, e132_181, e132_184, e132_185, c_in, if_neg hn, bindS, tL0, tL1, app0, app1, if_true, if_false, eq_self, Int.reduceEq, Int.reduceLT, Int.reduceLE, Int.reduceNeg, Int.reduceToNat]), h⟩
  obtain ⟨m, rfl⟩ : ∃ m : Nat, n = (m : Int) := ⟨n.toNat, by omega⟩
  have hm : m < 2 := by omega
  have cI : ∀ M : PM, den 1998 85 [(.inr (.inr (some 1))), .inl (m : Int)] (SH L) M = some (some (.inr (.inr (some (if m = 0 then 12 else 22)))), SH L, M) := fun M => c_imageOf hm
  have z := zg_72 (L := L) (M := M) (i := (m : Int)) (by omega) (by omega)
  rw [tnN] at z
  rcases Nat.lt_or_ge m 1 with hm0 | hm1
  · have : m = 0 := by omega
    subst this
    have o12 := io_12 (L := L)
    have cS := c_scene (M := M) (d := 1996) (SC_2 (L := L)) (SC_12 (L := L)) (by decide)
    rw [if_pos rfl] at cI
    have hi := h.2.1
    rcases hi.2.1 with h0 | h0
    · have k0 : M 12 3 = 0 := hi.1.trans h0
      rw [h0] at z
      exact ⟨-3, M, M, u.mpr (by simp (disch := first | omega | (exact Nat.le_of_ble_eq_true rfl) | assumption | rfl) only [e77_0, e77_1, e77_2, e77_3, e77_6, e77_9, e77_11, e77_12, e77_13, e77_14, e77_17, e77_20, e77_23, e77_25, e77_26, e77_27, e77_30, e77_31, e77_32, e77_35, e77_38, e77_39, c_within, if_pos hn, cI, gf_12_3, k0, bindS, tL0, tL1, app0, app1, if_true, if_false, eq_self, Int.reduceEq, Int.reduceLT, Int.reduceLE, Int.reduceNeg, Int.reduceToNat]), rfl, u2.mpr (by simp (disch := first | omega | (exact Nat.le_of_ble_eq_true rfl) | assumption | rfl) only [e132_0, e132_1, e132_2, e132_3, e132_6, e132_9, e132_11, e132_12, e132_13, e132_16, e132_17, e132_18, e132_21, e132_23, e132_24, e132_26, e132_27, e132_28, e132_29, e132_30, e132_32, e132_34, e132_37, e132_38, e132_41, e132_42, e132_43, e132_46, e132_47, e132_48, e132_49, e132_50, e132_51, e132_54, e132_57, e132_58, e132_60, e132_62, e132_65, e132_66, e132_69, e132_70, e132_71, e132_74, e132_75, e132_77, e132_78, e132_79, e132_80, e132_81, e132_82, e132_85, e132_88, e132_89, e132_91, e132_93, e132_96, e132_97, e132_100, e132_101, e132_102, e132_105, e132_106, e132_108, e132_109, e132_110, e132_111, e132_112, e132_113, e132_116, e132_119, e132_120, e132_121, e132_124, e132_125, e132_127, e132_128, e132_129, e132_132, e132_133, e132_134, e132_137, e132_138, e132_140, e132_141, e132_142, e132_145, e132_146, e132_147, e132_150, e132_151, e132_153, e132_154, e132_155, e132_158, e132_159, e132_160, e132_163, e132_164, e132_166, e132_167, e132_168, e132_171, e132_172, e132_173, e132_176, e132_177, e132_179, e132_180, e132_181, e132_184, e132_185, c_in, if_pos hn, gf_63_19, z, bindS, tL0, tL1, app0, app1, if_true, if_false, eq_self, Int.reduceEq, Int.reduceLT, Int.reduceLE, Int.reduceNeg, Int.reduceToNat]), h⟩
    · have k0 : M 12 3 = 1 := hi.1.trans h0
      refine ⟨1, cps 2 12 (cpt 2 12 (cpv 2 12 M)), _, u.mpr ?_, by rw [cp_row (by decide)], u2.mpr (mrestore (by decide) (by rw [cp_row (by decide)]; exact h0)), restore_inv h (Or.inl ⟨rfl, rfl⟩) h0⟩
      simp (disch := first | omega | (exact Nat.le_of_ble_eq_true rfl) | assumption | rfl) only [e77_0, e77_1, e77_2, e77_3, e77_6, e77_9, e77_11, e77_12, e77_13, e77_14, e77_17, e77_20, e77_23, e77_25, e77_26, e77_27, e77_30, e77_31, e77_32, e77_35, e77_38, e77_39, c_within, if_pos hn, gf_1_0, cI, gf_12_3, k0, cS, Nat.reduceAdd, bindS, tL0, tL1, app0, app1, if_true, if_false, eq_self, Int.reduceEq, Int.reduceLT, Int.reduceLE, Int.reduceNeg, Int.reduceToNat]
  · have : m = 1 := by omega
    subst this
    have o22 := io_22 (L := L)
    have cS := c_scene (M := M) (d := 1996) (SC_2 (L := L)) (SC_22 (L := L)) (by decide)
    rw [if_neg (by decide)] at cI
    have hi := h.2.2.1
    rcases hi.2.1 with h0 | h0
    · have k0 : M 22 3 = 0 := hi.1.trans h0
      rw [h0] at z
      exact ⟨-3, M, M, u.mpr (by simp (disch := first | omega | (exact Nat.le_of_ble_eq_true rfl) | assumption | rfl) only [e77_0, e77_1, e77_2, e77_3, e77_6, e77_9, e77_11, e77_12, e77_13, e77_14, e77_17, e77_20, e77_23, e77_25, e77_26, e77_27, e77_30, e77_31, e77_32, e77_35, e77_38, e77_39, c_within, if_pos hn, cI, gf_22_3, k0, bindS, tL0, tL1, app0, app1, if_true, if_false, eq_self, Int.reduceEq, Int.reduceLT, Int.reduceLE, Int.reduceNeg, Int.reduceToNat]), rfl, u2.mpr (by simp (disch := first | omega | (exact Nat.le_of_ble_eq_true rfl) | assumption | rfl) only [e132_0, e132_1, e132_2, e132_3, e132_6, e132_9, e132_11, e132_12, e132_13, e132_16, e132_17, e132_18, e132_21, e132_23, e132_24, e132_26, e132_27, e132_28, e132_29, e132_30, e132_32, e132_34, e132_37, e132_38, e132_41, e132_42, e132_43, e132_46, e132_47, e132_48, e132_49, e132_50, e132_51, e132_54, e132_57, e132_58, e132_60, e132_62, e132_65, e132_66, e132_69, e132_70, e132_71, e132_74, e132_75, e132_77, e132_78, e132_79, e132_80, e132_81, e132_82, e132_85, e132_88, e132_89, e132_91, e132_93, e132_96, e132_97, e132_100, e132_101, e132_102, e132_105, e132_106, e132_108, e132_109, e132_110, e132_111, e132_112, e132_113, e132_116, e132_119, e132_120, e132_121, e132_124, e132_125, e132_127, e132_128, e132_129, e132_132, e132_133, e132_134, e132_137, e132_138, e132_140, e132_141, e132_142, e132_145, e132_146, e132_147, e132_150, e132_151, e132_153, e132_154, e132_155, e132_158, e132_159, e132_160, e132_163, e132_164, e132_166, e132_167, e132_168, e132_171, e132_172, e132_173, e132_176, e132_177, e132_179, e132_180, e132_181, e132_184, e132_185, c_in, if_pos hn, gf_63_19, z, bindS, tL0, tL1, app0, app1, if_true, if_false, eq_self, Int.reduceEq, Int.reduceLT, Int.reduceLE, Int.reduceNeg, Int.reduceToNat]), h⟩
    · have k0 : M 22 3 = 1 := hi.1.trans h0
      refine ⟨1, cps 2 22 (cpt 2 22 (cpv 2 22 M)), _, u.mpr ?_, by rw [cp_row (by decide)], u2.mpr (mrestore (by decide) (by rw [cp_row (by decide)]; exact h0)), restore_inv h (Or.inr ⟨rfl, rfl⟩) h0⟩
      simp (disch := first | omega | (exact Nat.le_of_ble_eq_true rfl) | assumption | rfl) only [e77_0, e77_1, e77_2, e77_3, e77_6, e77_9, e77_11, e77_12, e77_13, e77_14, e77_17, e77_20, e77_23, e77_25, e77_26, e77_27, e77_30, e77_31, e77_32, e77_35, e77_38, e77_39, c_within, if_pos hn, gf_1_0, cI, gf_22_3, k0, cS, Nat.reduceAdd, bindS, tL0, tL1, app0, app1, if_true, if_false, eq_self, Int.reduceEq, Int.reduceLT, Int.reduceLE, Int.reduceNeg, Int.reduceToNat]
