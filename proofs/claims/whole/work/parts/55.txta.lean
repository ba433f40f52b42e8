/-! the class's text: its parts; a sign taken -/
def up (S : Nat → Int) (i : Nat) (v : Int) : Nat → Int := fun q => if q = i then v else S q
theorem up_s {S : Nat → Int} {i : Nat} {v : Int} : up S i v i = v := by unfold up; rw [if_pos rfl]
theorem up_i {S : Nat → Int} {i q : Nat} {v : Int} (h : q ≠ i) : up S i v q = S q := by unfold up; rw [if_neg h]
def tset (M : PM) (S F D : Nat → Int) (p a x : Int) : PM := setC (setC (setC (setR (setR (setR M 34 S) 35 F) 36 D) 32 5 p) 32 6 a) 32 7 x
section
variable {M : PM} {S F D : Nat → Int} {p a x v : Int} {i b j : Nat}
theorem ts_5 : tset M S F D p a x 32 5 = p := by unfold tset; rw [setC_i (by decide), setC_i (by decide), setC_s]
theorem ts_6 : tset M S F D p a x 32 6 = a := by unfold tset; rw [setC_i (by decide), setC_s]
theorem ts_7 : tset M S F D p a x 32 7 = x := by unfold tset; rw [setC_s]
theorem ts_34 : tset M S F D p a x 34 = S := by unfold tset; rw [setC_row (by decide), setC_row (by decide), setC_row (by decide), setR_row (by decide), setR_row (by decide), setR_s]
theorem ts_35 : tset M S F D p a x 35 = F := by unfold tset; rw [setC_row (by decide), setC_row (by decide), setC_row (by decide), setR_row (by decide), setR_s]
theorem ts_36 : tset M S F D p a x 36 = D := by unfold tset; rw [setC_row (by decide), setC_row (by decide), setC_row (by decide), setR_s]
theorem ts_row (h1 : b < 32 ∨ b = 33 ∨ 36 < b) : tset M S F D p a x b = M b := by
  unfold tset
  rw [setC_row (by omega), setC_row (by omega), setC_row (by omega), setR_row (by omega), setR_row (by omega), setR_row (by omega)]
theorem ts_32 (h1 : j < 5 ∨ 7 < j) : tset M S F D p a x 32 j = M 32 j := by
  unfold tset
  rw [setC_i (by omega), setC_i (by omega), setC_i (by omega), setR_row (by omega), setR_row (by omega), setR_row (by omega)]
theorem ts_p34 : setC (tset M S F D p a x) 34 i v = tset M (up S i v) F D p a x := by
  funext b j
  simp only [tset, setC, setR, up]
  by_cases hb : b = 34
  · subst hb; simp
  · simp [hb]
theorem ts_p35 : setC (tset M S F D p a x) 35 i v = tset M S (up F i v) D p a x := by
  funext b j
  simp only [tset, setC, setR, up]
  by_cases hb : b = 35
  · subst hb; simp
  · simp [hb]
theorem ts_p36 : setC (tset M S F D p a x) 36 i v = tset M S F (up D i v) p a x := by
  funext b j
  simp only [tset, setC, setR, up]
  by_cases hb : b = 36
  · subst hb; simp
  · simp [hb]
theorem ts_s5 : setC (tset M S F D p a x) 32 5 v = tset M S F D v a x := by
  funext b j
  simp only [tset, setC, setR]
  by_cases hb : b = 32
  · subst hb
    by_cases h : j = 5
    · subst h; simp
    · simp [h]
  · simp [hb]
theorem ts_s6 : setC (tset M S F D p a x) 32 6 v = tset M S F D p v x := by
  funext b j
  simp only [tset, setC, setR]
  by_cases hb : b = 32
  · subst hb
    by_cases h : j = 6
    · subst h; simp
    · simp [h]
  · simp [hb]
theorem ts_s7 : setC (tset M S F D p a x) 32 7 v = tset M S F D p a v := by
  funext b j
  simp only [tset, setC, setR]
  by_cases hb : b = 32
  · subst hb
    by_cases h : j = 7
    · subst h; simp
    · simp [h]
  · simp [hb]
end
theorem ts_self {M : PM} : tset M (M 34) (M 35) (M 36) (M 32 5) (M 32 6) (M 32 7) = M := by
  unfold tset
  rw [setR_same, setR_same, setR_same, setC_same, setC_same, setC_same]
section
variable {M : PM} {S F D : Nat → Int} {x s : Int} {p a d L : Nat}
theorem c_addPart {sp th : Int} {a : Int} (hp : p < 60) : den (d + 1) 36 [(.inr (.inr (some 32))), .inl sp, .inl th] (SH L) (tset M S F D p a x) = some (none, SH L, tset M (up S p sp) (up F p 0) (up D p 0) ((p + 1 : Nat) : Int) a th) := by
  have p34 := fun (M : PM) v => c_put_in (M := M) (d := d) (ar_34 (L := L)) (i := (p : Int)) (x := v) (by omega) (by omega)
  have p35 := fun (M : PM) v => c_put_in (M := M) (d := d) (ar_35 (L := L)) (i := (p : Int)) (x := v) (by omega) (by omega)
  have p36 := fun (M : PM) v => c_put_in (M := M) (d := d) (ar_36 (L := L)) (i := (p : Int)) (x := v) (by omega) (by omega)
  simp only [tnN] at p34 p35 p36
  have w : wr ((p : Int) + 1) = ((p + 1 : Nat) : Int) := wr1 p (by omega)
  unfold den
  rw [show ent 36 [(.inr (.inr (some 32))), .inl sp, .inl th] = [some (.inr (.inr (some 32))), some (.inl sp), some (.inl th)] from rfl]
  simp (disch := first | omega | (exact Nat.le_of_ble_eq_true rfl) | assumption | rfl) only [e36_0, e36_1, e36_4, e36_5, e36_8, e36_9, e36_12, e36_13, e36_16, e36_17, e36_20, e36_21, e36_24, e36_25, e36_28, e36_29, e36_32, e36_33, e36_36, e36_37i, e36_37, e36_38, e36_41, e36_42, e36_43, e36_46, e36_47, e36_48, e36_51, gf_32_2, gf_32_3, gf_32_4, gf_32_5, p34, p35, p36, ts_5, ts_p34, ts_p35, ts_p36, ts_s5, ts_s7, pi_32_5, pi_32_7, w, bindS, tL0, tL1, app0, app1, if_true, if_false, eq_self, Int.reduceEq, Int.reduceLT, Int.reduceLE, Int.reduceNeg, Int.reduceToNat]
theorem b_letter {a : Int} (hp : p < 60) (hs : 65 ≤ s ∧ s ≤ 70) : den (d + 2) 35 [(.inr (.inr (some 32))), .inl s] (SH L) (tset M S F D p a x) = some (some (.inl 1), SH L, tset M (up S p (s - 65)) (up F p 0) (up D p 0) ((p + 1 : Nat) : Int) a 2) := by
  have o := io_32 (L := L)
  have c := c_addPart (M := M) (S := S) (F := F) (D := D) (x := x) (a := a) (d := d) (L := L) (sp := s - 65) (th := 2) hp
  have w : wr (s - 65) = s - 65 := wr_id (by omega) (by omega)
  unfold den
  rw [show ent 35 [(.inr (.inr (some 32))), .inl s] = [some (.inr (.inr (some 32))), some (.inl s)] from rfl]
  simp (disch := first | omega | (exact Nat.le_of_ble_eq_true rfl) | assumption | rfl) only [e35_0, e35_1, e35_3, e35_5, e35_8, e35_11, e35_12, e35_13, e35_15, e35_16, e35_17, e35_20, e35_21z, e35_21o, e35_21, e35_22, e35_23, e35_25, e35_28, e35_29, e35_32, e35_33, e35_36, e35_37, e35_39, e35_40, e35_43, e35_44, e35_45, e35_48, e35_49i, e35_49, e35_50, e35_53, e35_54, e35_55, e35_58, e35_59z, e35_59o, e35_59, e35_60, e35_61, e35_63, e35_66, e35_67, e35_68, e35_69, e35_72, e35_73z, e35_73o, e35_73, e35_74, e35_75, e35_77, e35_80, e35_81, e35_83, e35_84, e35_87, e35_88z, e35_88o, e35_88, e35_89, e35_90z, e35_90o, e35_90, c_within, if_pos hs, w, c, bindS, tL0, tL1, app0, app1, if_true, if_false, eq_self, Int.reduceEq, Int.reduceLT, Int.reduceLE, Int.reduceNeg, Int.reduceToNat]
theorem b_q (hp : p < 60) (ha : a < 3) : den (d + 2) 35 [(.inr (.inr (some 32))), .inl 63] (SH L) (tset M S F D p a x) = some (some (.inl 1), SH L, tset M (up S p (6 + (a : Int))) (up F p 0) (up D p 0) ((p + 1 : Nat) : Int) ((a + 1 : Nat) : Int) 2) := by
  have o := io_32 (L := L)
  have c := c_addPart (M := M) (S := S) (F := F) (D := D) (x := x) (a := a) (d := d) (L := L) (sp := 6 + (a : Int)) (th := 2) hp
  have w : wr (6 + (a : Int)) = 6 + (a : Int) := wr_id (by omega) (by omega)
  have w2 : wr ((a : Int) + 1) = ((a + 1 : Nat) : Int) := wr1 a (by omega)
  have h : ¬ (3 : Int) ≤ (a : Int) := by omega
  unfold den
  rw [show ent 35 [(.inr (.inr (some 32))), .inl 63] = [some (.inr (.inr (some 32))), some (.inl 63)] from rfl]
  simp (disch := first | omega | (exact Nat.le_of_ble_eq_true rfl) | assumption | rfl) only [e35_0, e35_1, e35_3, e35_5, e35_8, e35_11, e35_12, e35_13, e35_15, e35_16, e35_17, e35_20, e35_21z, e35_21o, e35_21, e35_22, e35_23, e35_25, e35_28, e35_29, e35_32, e35_33, e35_36, e35_37, e35_39, e35_40, e35_43, e35_44, e35_45, e35_48, e35_49i, e35_49, e35_50, e35_53, e35_54, e35_55, e35_58, e35_59z, e35_59o, e35_59, e35_60, e35_61, e35_63, e35_66, e35_67, e35_68, e35_69, e35_72, e35_73z, e35_73o, e35_73, e35_74, e35_75, e35_77, e35_80, e35_81, e35_83, e35_84, e35_87, e35_88z, e35_88o, e35_88, e35_89, e35_90z, e35_90o, e35_90, c_within, gf_32_6, ts_6, w, if_neg h, c, pi_32_6, ts_s6, w2, false_and, and_false, bindS, tL0, tL1, app0, app1, if_true, if_false, eq_self, Int.reduceEq, Int.reduceLT, Int.reduceLE, Int.reduceNeg, Int.reduceToNat]
theorem b_dot {a : Int} (hp : p < 60) : den (d + 2) 35 [(.inr (.inr (some 32))), .inl 46] (SH L) (tset M S F D p a x) = some (some (.inl 1), SH L, tset M (up S p (-1)) (up F p 0) (up D p 0) ((p + 1 : Nat) : Int) a 3) := by
  have o := io_32 (L := L)
  have c := c_addPart (M := M) (S := S) (F := F) (D := D) (x := x) (a := a) (d := d) (L := L) (sp := -1) (th := 3) hp
  unfold den
  rw [show ent 35 [(.inr (.inr (some 32))), .inl 46] = [some (.inr (.inr (some 32))), some (.inl 46)] from rfl]
  simp (disch := first | omega | (exact Nat.le_of_ble_eq_true rfl) | assumption | rfl) only [e35_0, e35_1, e35_3, e35_5, e35_8, e35_11, e35_12, e35_13, e35_15, e35_16, e35_17, e35_20, e35_21z, e35_21o, e35_21, e35_22, e35_23, e35_25, e35_28, e35_29, e35_32, e35_33, e35_36, e35_37, e35_39, e35_40, e35_43, e35_44, e35_45, e35_48, e35_49i, e35_49, e35_50, e35_53, e35_54, e35_55, e35_58, e35_59z, e35_59o, e35_59, e35_60, e35_61, e35_63, e35_66, e35_67, e35_68, e35_69, e35_72, e35_73z, e35_73o, e35_73, e35_74, e35_75, e35_77, e35_80, e35_81, e35_83, e35_84, e35_87, e35_88z, e35_88o, e35_88, e35_89, e35_90z, e35_90o, e35_90, c_within, c, false_and, and_false, bindS, tL0, tL1, app0, app1, if_true, if_false, eq_self, Int.reduceEq, Int.reduceLT, Int.reduceLE, Int.reduceNeg, Int.reduceToNat]
theorem b_comma {a : Int} (hp : p < 60) : den (d + 2) 35 [(.inr (.inr (some 32))), .inl 44] (SH L) (tset M S F D p a x) = some (some (.inl 1), SH L, tset M (up S p (-2)) (up F p 0) (up D p 0) ((p + 1 : Nat) : Int) a 0) := by
  have o := io_32 (L := L)
  have c := c_addPart (M := M) (S := S) (F := F) (D := D) (x := x) (a := a) (d := d) (L := L) (sp := -2) (th := 0) hp
  unfold den
  rw [show ent 35 [(.inr (.inr (some 32))), .inl 44] = [some (.inr (.inr (some 32))), some (.inl 44)] from rfl]
  simp (disch := first | omega | (exact Nat.le_of_ble_eq_true rfl) | assumption | rfl) only [e35_0, e35_1, e35_3, e35_5, e35_8, e35_11, e35_12, e35_13, e35_15, e35_16, e35_17, e35_20, e35_21z, e35_21o, e35_21, e35_22, e35_23, e35_25, e35_28, e35_29, e35_32, e35_33, e35_36, e35_37, e35_39, e35_40, e35_43, e35_44, e35_45, e35_48, e35_49i, e35_49, e35_50, e35_53, e35_54, e35_55, e35_58, e35_59z, e35_59o, e35_59, e35_60, e35_61, e35_63, e35_66, e35_67, e35_68, e35_69, e35_72, e35_73z, e35_73o, e35_73, e35_74, e35_75, e35_77, e35_80, e35_81, e35_83, e35_84, e35_87, e35_88z, e35_88o, e35_88, e35_89, e35_90z, e35_90o, e35_90, c_within, c, false_and, and_false, bindS, tL0, tL1, app0, app1, if_true, if_false, eq_self, Int.reduceEq, Int.reduceLT, Int.reduceLE, Int.reduceNeg, Int.reduceToNat]
theorem b_no {p a : Int} (hs : ¬ (65 ≤ s ∧ s ≤ 70)) (h46 : ¬ s = 46) (h44 : ¬ s = 44) (h63 : ¬ (s = 63 ∧ a < 3)) : den (d + 2) 35 [(.inr (.inr (some 32))), .inl s] (SH L) (tset M S F D p a x) = some (some (.inl 0), SH L, tset M S F D p a x) := by
  unfold den
  rw [show ent 35 [(.inr (.inr (some 32))), .inl s] = [some (.inr (.inr (some 32))), some (.inl s)] from rfl]
  by_cases h : s = 63
  · have h2 : 3 ≤ a := by omega
    simp (disch := first | omega | (exact Nat.le_of_ble_eq_true rfl) | assumption | rfl) only [e35_0, e35_1, e35_3, e35_5, e35_8, e35_11, e35_12, e35_13, e35_15, e35_16, e35_17, e35_20, e35_21z, e35_21o, e35_21, e35_22, e35_23, e35_25, e35_28, e35_29, e35_32, e35_33, e35_36, e35_37, e35_39, e35_40, e35_43, e35_44, e35_45, e35_48, e35_49i, e35_49, e35_50, e35_53, e35_54, e35_55, e35_58, e35_59z, e35_59o, e35_59, e35_60, e35_61, e35_63, e35_66, e35_67, e35_68, e35_69, e35_72, e35_73z, e35_73o, e35_73, e35_74, e35_75, e35_77, e35_80, e35_81, e35_83, e35_84, e35_87, e35_88z, e35_88o, e35_88, e35_89, e35_90z, e35_90o, e35_90, c_within, if_neg hs, if_pos h, gf_32_6, ts_6, if_pos h2, if_neg h46, if_neg h44, bindS, tL0, tL1, app0, app1, if_true, if_false, eq_self, Int.reduceEq, Int.reduceLT, Int.reduceLE, Int.reduceNeg, Int.reduceToNat]
  · simp (disch := first | omega | (exact Nat.le_of_ble_eq_true rfl) | assumption | rfl) only [e35_0, e35_1, e35_3, e35_5, e35_8, e35_11, e35_12, e35_13, e35_15, e35_16, e35_17, e35_20, e35_21z, e35_21o, e35_21, e35_22, e35_23, e35_25, e35_28, e35_29, e35_32, e35_33, e35_36, e35_37, e35_39, e35_40, e35_43, e35_44, e35_45, e35_48, e35_49i, e35_49, e35_50, e35_53, e35_54, e35_55, e35_58, e35_59z, e35_59o, e35_59, e35_60, e35_61, e35_63, e35_66, e35_67, e35_68, e35_69, e35_72, e35_73z, e35_73o, e35_73, e35_74, e35_75, e35_77, e35_80, e35_81, e35_83, e35_84, e35_87, e35_88z, e35_88o, e35_88, e35_89, e35_90z, e35_90o, e35_90, c_within, if_neg hs, if_neg h, if_neg h46, if_neg h44, bindS, tL0, tL1, app0, app1, if_true, if_false, eq_self, Int.reduceEq, Int.reduceLT, Int.reduceLE, Int.reduceNeg, Int.reduceToNat]
theorem t_A {a : Int} (hp : p < 60) (hs : 48 ≤ s ∧ s ≤ 57) (hD : 0 ≤ D p ∧ D p ≤ 9) : den (d + 3) 34 [(.inr (.inr (some 32))), .inl s] (SH L) (tset M S F D ((p + 1 : Nat) : Int) a 1) = some (some (.inl 1), SH L, tset M S F (up D p (10 * D p + s - 48)) ((p + 1 : Nat) : Int) a 0) := by
  have w0 : wr (((p + 1 : Nat) : Int) - 1) = (p : Int) := by rw [wr_id (by omega) (by omega)]; omega
  have w1 : wr (10 * D p) = 10 * D p := wr_id (by omega) (by omega)
  have w2 : wr (10 * D p + s) = 10 * D p + s := wr_id (by omega) (by omega)
  have w3 : wr (10 * D p + s - 48) = 10 * D p + s - 48 := wr_id (by omega) (by omega)
  have p36 := fun (M : PM) v => c_put_in (M := M) (d := d + 2) (ar_36 (L := L)) (i := (p : Int)) (x := v) (by omega) (by omega)
  have g36 := fun (M : PM) => c_at_in (M := M) (d := d + 2) (ar_36 (L := L)) (i := (p : Int)) (by omega) (by omega)
  simp only [tnN] at p36 g36
  unfold den
  rw [show ent 34 [(.inr (.inr (some 32))), .inl s] = [some (.inr (.inr (some 32))), some (.inl s)] from rfl]
  simp (disch := first | omega | (exact Nat.le_of_ble_eq_true rfl) | assumption | rfl) only [e34_0, e34_1, e34_4, e34_5, e34_8, e34_9, e34_11, e34_13, e34_16, e34_19, e34_20, e34_23, e34_24, e34_27, e34_28, e34_29, e34_31, e34_32, e34_35, e34_36, e34_39, e34_40, e34_41, e34_44, e34_45, e34_46, e34_47, e34_49, e34_50, e34_53, e34_54, e34_55, e34_58, e34_59z, e34_59o, e34_59, e34_60, e34_61, e34_64, e34_67, e34_68, e34_71, e34_72, e34_75, e34_76, e34_77, e34_80z, e34_80o, e34_80, e34_81, e34_82, e34_85, e34_86, e34_89, e34_90, e34_92, e34_95, e34_96, e34_99, e34_100, e34_103, e34_104, e34_105, e34_106, e34_109, e34_110, e34_111, e34_114, e34_115z, e34_115o, e34_115, e34_116, e34_117, e34_119, e34_121, e34_124, e34_127, e34_128z, e34_128o, e34_128, e34_129, e34_130, e34_133, e34_134, e34_137, e34_138, e34_139, e34_140, e34_142, e34_143, e34_146, e34_147, e34_148, e34_151, e34_152z, e34_152o, e34_152, c_within, if_pos hs, gf_32_4, gf_32_5, gf_32_7, ts_5, ts_7, ts_36, w0, w1, w2, w3, p36, g36, ts_p36, pi_32_7, ts_s7, bindS, tL0, tL1, app0, app1, if_true, if_false, eq_self, Int.reduceEq, Int.reduceLT, Int.reduceLE, Int.reduceNeg, Int.reduceToNat]
theorem t_B {p a r : Int} {M' : PM} (hx : x = 0 ∨ x = 1 ∧ ¬ (48 ≤ s ∧ s ≤ 57)) (hr : r = 0 ∨ r = 1) (hb : den (d + 2) 35 [(.inr (.inr (some 32))), .inl s] (SH L) (tset M S F D p a x) = some (some (.inl r), SH L, M')) : den (d + 3) 34 [(.inr (.inr (some 32))), .inl s] (SH L) (tset M S F D p a x) = some (some (.inl r), SH L, M') := by
  have o := io_32 (L := L)
  unfold den
  rw [show ent 34 [(.inr (.inr (some 32))), .inl s] = [some (.inr (.inr (some 32))), some (.inl s)] from rfl]
  rcases hx with rfl | ⟨rfl, hs⟩
  · simp (disch := first | omega | (exact Nat.le_of_ble_eq_true rfl) | assumption | rfl) only [e34_0, e34_1, e34_4, e34_5, e34_8, e34_9, e34_11, e34_13, e34_16, e34_19, e34_20, e34_23, e34_24, e34_27, e34_28, e34_29, e34_31, e34_32, e34_35, e34_36, e34_39, e34_40, e34_41, e34_44, e34_45, e34_46, e34_47, e34_49, e34_50, e34_53, e34_54, e34_55, e34_58, e34_59z, e34_59o, e34_59, e34_60, e34_61, e34_64, e34_67, e34_68, e34_71, e34_72, e34_75, e34_76, e34_77, e34_80z, e34_80o, e34_80, e34_81, e34_82, e34_85, e34_86, e34_89, e34_90, e34_92, e34_95, e34_96, e34_99, e34_100, e34_103, e34_104, e34_105, e34_106, e34_109, e34_110, e34_111, e34_114, e34_115z, e34_115o, e34_115, e34_116, e34_117, e34_119, e34_121, e34_124, e34_127, e34_128z, e34_128o, e34_128, e34_129, e34_130, e34_133, e34_134, e34_137, e34_138, e34_139, e34_140, e34_142, e34_143, e34_146, e34_147, e34_148, e34_151, e34_152z, e34_152o, e34_152, gf_32_7, ts_7, hb, bindS, tL0, tL1, app0, app1, if_true, if_false, eq_self, Int.reduceEq, Int.reduceLT, Int.reduceLE, Int.reduceNeg, Int.reduceToNat]
  · simp (disch := first | omega | (exact Nat.le_of_ble_eq_true rfl) | assumption | rfl) only [e34_0, e34_1, e34_4, e34_5, e34_8, e34_9, e34_11, e34_13, e34_16, e34_19, e34_20, e34_23, e34_24, e34_27, e34_28, e34_29, e34_31, e34_32, e34_35, e34_36, e34_39, e34_40, e34_41, e34_44, e34_45, e34_46, e34_47, e34_49, e34_50, e34_53, e34_54, e34_55, e34_58, e34_59z, e34_59o, e34_59, e34_60, e34_61, e34_64, e34_67, e34_68, e34_71, e34_72, e34_75, e34_76, e34_77, e34_80z, e34_80o, e34_80, e34_81, e34_82, e34_85, e34_86, e34_89, e34_90, e34_92, e34_95, e34_96, e34_99, e34_100, e34_103, e34_104, e34_105, e34_106, e34_109, e34_110, e34_111, e34_114, e34_115z, e34_115o, e34_115, e34_116, e34_117, e34_119, e34_121, e34_124, e34_127, e34_128z, e34_128o, e34_128, e34_129, e34_130, e34_133, e34_134, e34_137, e34_138, e34_139, e34_140, e34_142, e34_143, e34_146, e34_147, e34_148, e34_151, e34_152z, e34_152o, e34_152, c_within, if_neg hs, gf_32_7, ts_7, hb, bindS, tL0, tL1, app0, app1, if_true, if_false, eq_self, Int.reduceEq, Int.reduceLT, Int.reduceLE, Int.reduceNeg, Int.reduceToNat]
theorem t_C {a : Int} (hp : p < 60) : den (d + 3) 34 [(.inr (.inr (some 32))), .inl 33] (SH L) (tset M S F D ((p + 1 : Nat) : Int) a 2) = some (some (.inl 1), SH L, tset M S (up F p 1) D ((p + 1 : Nat) : Int) a 3) := by
  have w0 : wr (((p + 1 : Nat) : Int) - 1) = (p : Int) := by rw [wr_id (by omega) (by omega)]; omega
  have p35 := fun (M : PM) v => c_put_in (M := M) (d := d + 2) (ar_35 (L := L)) (i := (p : Int)) (x := v) (by omega) (by omega)
  simp only [tnN] at p35
  unfold den
  rw [show ent 34 [(.inr (.inr (some 32))), .inl 33] = [some (.inr (.inr (some 32))), some (.inl 33)] from rfl]
  simp (disch := first | omega | (exact Nat.le_of_ble_eq_true rfl) | assumption | rfl) only [e34_0, e34_1, e34_4, e34_5, e34_8, e34_9, e34_11, e34_13, e34_16, e34_19, e34_20, e34_23, e34_24, e34_27, e34_28, e34_29, e34_31, e34_32, e34_35, e34_36, e34_39, e34_40, e34_41, e34_44, e34_45, e34_46, e34_47, e34_49, e34_50, e34_53, e34_54, e34_55, e34_58, e34_59z, e34_59o, e34_59, e34_60, e34_61, e34_64, e34_67, e34_68, e34_71, e34_72, e34_75, e34_76, e34_77, e34_80z, e34_80o, e34_80, e34_81, e34_82, e34_85, e34_86, e34_89, e34_90, e34_92, e34_95, e34_96, e34_99, e34_100, e34_103, e34_104, e34_105, e34_106, e34_109, e34_110, e34_111, e34_114, e34_115z, e34_115o, e34_115, e34_116, e34_117, e34_119, e34_121, e34_124, e34_127, e34_128z, e34_128o, e34_128, e34_129, e34_130, e34_133, e34_134, e34_137, e34_138, e34_139, e34_140, e34_142, e34_143, e34_146, e34_147, e34_148, e34_151, e34_152z, e34_152o, e34_152, gf_32_3, gf_32_5, gf_32_7, ts_5, ts_7, w0, p35, ts_p35, pi_32_7, ts_s7, bindS, tL0, tL1, app0, app1, if_true, if_false, eq_self, Int.reduceEq, Int.reduceLT, Int.reduceLE, Int.reduceNeg, Int.reduceToNat]
theorem t_D {a : Int} (hp : p < 60) (hx : x = 3 ∨ x = 2 ∧ ¬ s = 33) (hs : 49 ≤ s ∧ s ≤ 57) : den (d + 3) 34 [(.inr (.inr (some 32))), .inl s] (SH L) (tset M S F D ((p + 1 : Nat) : Int) a x) = some (some (.inl 1), SH L, tset M S F (up D p (s - 48)) ((p + 1 : Nat) : Int) a 1) := by
  have w0 : wr (((p + 1 : Nat) : Int) - 1) = (p : Int) := by rw [wr_id (by omega) (by omega)]; omega
  have w3 : wr (s - 48) = s - 48 := wr_id (by omega) (by omega)
  have p36 := fun (M : PM) v => c_put_in (M := M) (d := d + 2) (ar_36 (L := L)) (i := (p : Int)) (x := v) (by omega) (by omega)
  simp only [tnN] at p36
  unfold den
  rw [show ent 34 [(.inr (.inr (some 32))), .inl s] = [some (.inr (.inr (some 32))), some (.inl s)] from rfl]
  rcases hx with rfl | ⟨rfl, h33⟩
  · simp (disch := first | omega | (exact Nat.le_of_ble_eq_true rfl) | assumption | rfl) only [e34_0, e34_1, e34_4, e34_5, e34_8, e34_9, e34_11, e34_13, e34_16, e34_19, e34_20, e34_23, e34_24, e34_27, e34_28, e34_29, e34_31, e34_32, e34_35, e34_36, e34_39, e34_40, e34_41, e34_44, e34_45, e34_46, e34_47, e34_49, e34_50, e34_53, e34_54, e34_55, e34_58, e34_59z, e34_59o, e34_59, e34_60, e34_61, e34_64, e34_67, e34_68, e34_71, e34_72, e34_75, e34_76, e34_77, e34_80z, e34_80o, e34_80, e34_81, e34_82, e34_85, e34_86, e34_89, e34_90, e34_92, e34_95, e34_96, e34_99, e34_100, e34_103, e34_104, e34_105, e34_106, e34_109, e34_110, e34_111, e34_114, e34_115z, e34_115o, e34_115, e34_116, e34_117, e34_119, e34_121, e34_124, e34_127, e34_128z, e34_128o, e34_128, e34_129, e34_130, e34_133, e34_134, e34_137, e34_138, e34_139, e34_140, e34_142, e34_143, e34_146, e34_147, e34_148, e34_151, e34_152z, e34_152o, e34_152, c_within, if_pos hs, gf_32_4, gf_32_5, gf_32_7, ts_5, ts_7, w0, w3, p36, ts_p36, pi_32_7, ts_s7, bindS, tL0, tL1, app0, app1, if_true, if_false, eq_self, Int.reduceEq, Int.reduceLT, Int.reduceLE, Int.reduceNeg, Int.reduceToNat]
  · simp (disch := first | omega | (exact Nat.le_of_ble_eq_true rfl) | assumption | rfl) only [e34_0, e34_1, e34_4, e34_5, e34_8, e34_9, e34_11, e34_13, e34_16, e34_19, e34_20, e34_23, e34_24, e34_27, e34_28, e34_29, e34_31, e34_32, e34_35, e34_36, e34_39, e34_40, e34_41, e34_44, e34_45, e34_46, e34_47, e34_49, e34_50, e34_53, e34_54, e34_55, e34_58, e34_59z, e34_59o, e34_59, e34_60, e34_61, e34_64, e34_67, e34_68, e34_71, e34_72, e34_75, e34_76, e34_77, e34_80z, e34_80o, e34_80, e34_81, e34_82, e34_85, e34_86, e34_89, e34_90, e34_92, e34_95, e34_96, e34_99, e34_100, e34_103, e34_104, e34_105, e34_106, e34_109, e34_110, e34_111, e34_114, e34_115z, e34_115o, e34_115, e34_116, e34_117, e34_119, e34_121, e34_124, e34_127, e34_128z, e34_128o, e34_128, e34_129, e34_130, e34_133, e34_134, e34_137, e34_138, e34_139, e34_140, e34_142, e34_143, e34_146, e34_147, e34_148, e34_151, e34_152z, e34_152o, e34_152, c_within, if_pos hs, if_neg h33, gf_32_4, gf_32_5, gf_32_7, ts_5, ts_7, w0, w3, p36, ts_p36, pi_32_7, ts_s7, bindS, tL0, tL1, app0, app1, if_true, if_false, eq_self, Int.reduceEq, Int.reduceLT, Int.reduceLE, Int.reduceNeg, Int.reduceToNat]
theorem t_Dno {p a : Int} (hx : x = 3 ∨ x = 2 ∧ ¬ s = 33) (hs : ¬ (49 ≤ s ∧ s ≤ 57)) : den (d + 3) 34 [(.inr (.inr (some 32))), .inl s] (SH L) (tset M S F D p a x) = some (some (.inl 0), SH L, tset M S F D p a x) := by
  unfold den
  rw [show ent 34 [(.inr (.inr (some 32))), .inl s] = [some (.inr (.inr (some 32))), some (.inl s)] from rfl]
  rcases hx with rfl | ⟨rfl, h33⟩
  · simp (disch := first | omega | (exact Nat.le_of_ble_eq_true rfl) | assumption | rfl) only [e34_0, e34_1, e34_4, e34_5, e34_8, e34_9, e34_11, e34_13, e34_16, e34_19, e34_20, e34_23, e34_24, e34_27, e34_28, e34_29, e34_31, e34_32, e34_35, e34_36, e34_39, e34_40, e34_41, e34_44, e34_45, e34_46, e34_47, e34_49, e34_50, e34_53, e34_54, e34_55, e34_58, e34_59z, e34_59o, e34_59, e34_60, e34_61, e34_64, e34_67, e34_68, e34_71, e34_72, e34_75, e34_76, e34_77, e34_80z, e34_80o, e34_80, e34_81, e34_82, e34_85, e34_86, e34_89, e34_90, e34_92, e34_95, e34_96, e34_99, e34_100, e34_103, e34_104, e34_105, e34_106, e34_109, e34_110, e34_111, e34_114, e34_115z, e34_115o, e34_115, e34_116, e34_117, e34_119, e34_121, e34_124, e34_127, e34_128z, e34_128o, e34_128, e34_129, e34_130, e34_133, e34_134, e34_137, e34_138, e34_139, e34_140, e34_142, e34_143, e34_146, e34_147, e34_148, e34_151, e34_152z, e34_152o, e34_152, c_within, if_neg hs, gf_32_7, ts_7, bindS, tL0, tL1, app0, app1, if_true, if_false, eq_self, Int.reduceEq, Int.reduceLT, Int.reduceLE, Int.reduceNeg, Int.reduceToNat]
  · simp (disch := first | omega | (exact Nat.le_of_ble_eq_true rfl) | assumption | rfl) only [e34_0, e34_1, e34_4, e34_5, e34_8, e34_9, e34_11, e34_13, e34_16, e34_19, e34_20, e34_23, e34_24, e34_27, e34_28, e34_29, e34_31, e34_32, e34_35, e34_36, e34_39, e34_40, e34_41, e34_44, e34_45, e34_46, e34_47, e34_49, e34_50, e34_53, e34_54, e34_55, e34_58, e34_59z, e34_59o, e34_59, e34_60, e34_61, e34_64, e34_67, e34_68, e34_71, e34_72, e34_75, e34_76, e34_77, e34_80z, e34_80o, e34_80, e34_81, e34_82, e34_85, e34_86, e34_89, e34_90, e34_92, e34_95, e34_96, e34_99, e34_100, e34_103, e34_104, e34_105, e34_106, e34_109, e34_110, e34_111, e34_114, e34_115z, e34_115o, e34_115, e34_116, e34_117, e34_119, e34_121, e34_124, e34_127, e34_128z, e34_128o, e34_128, e34_129, e34_130, e34_133, e34_134, e34_137, e34_138, e34_139, e34_140, e34_142, e34_143, e34_146, e34_147, e34_148, e34_151, e34_152z, e34_152o, e34_152, c_within, if_neg hs, if_neg h33, gf_32_7, ts_7, bindS, tL0, tL1, app0, app1, if_true, if_false, eq_self, Int.reduceEq, Int.reduceLT, Int.reduceLE, Int.reduceNeg, Int.reduceToNat]
end
