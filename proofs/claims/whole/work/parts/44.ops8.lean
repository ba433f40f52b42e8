/-! year -/
theorem rem_w {a y : Int} (h0 : 0 ≤ a) (h1 : a ≤ 2147483647) (hy : 0 < y) : wr (a - a.tdiv y * y) = a % y := by
  rw [Int.tdiv_eq_ediv_of_nonneg h0]
  have e := Int.emod_def a y
  rw [Int.mul_comm y] at e
  rw [← e]
  have := Int.emod_nonneg a (Int.ne_of_gt hy)
  have h2 : a % y ≤ a := by
    rw [e]
    have : 0 ≤ a / y * y := Int.mul_nonneg (Int.ediv_nonneg h0 (Int.le_of_lt hy)) (Int.le_of_lt hy)
    omega
  exact wr_id (by omega) (by omega)
theorem div_w {a y : Int} (h0 : 0 ≤ a) (h1 : a ≤ 2147483647) (hy : 0 < y) : wr (a.tdiv y) = a / y := by
  rw [Int.tdiv_eq_ediv_of_nonneg h0]
  have := Int.ediv_nonneg h0 (Int.le_of_lt hy)
  have h2 : a / y ≤ a := Int.ediv_le_self y h0
  exact wr_id (by omega) (by omega)
theorem year_loop {L : Nat} {MT : PM} {n p : Int} {s1 : Option PV} (hb : 0 ≤ MT 37 2 ∧ MT 37 2 ≤ 99) (hn : 1 ≤ n ∧ n ≤ 99) : ∀ (k i : Nat) (x c T T' : Int) (G G' : Nat → Int) (l7 : Option PV), (i : Int) + k = n → (0 ≤ x ∧ x ≤ 65536) → (0 ≤ c ∧ c ≤ i) → EqG G G' → BG G' (100000000 + 9 * i) → (0 ≤ T ∧ T ≤ 100000000 + 9 * i) → (0 ≤ T' ∧ T' ≤ 9 * i) →
    ∃ r G1 T1, ev 1999 75 56 [some (.inr (.inr (some 1))), s1, some (.inl n), some (.inl p), some (.inl x), some (.inl c), some (.inl (i : Int)), l7] [] (SH L) (vset MT 37 G T) = some (some (.inl r), SH L, vset MT 37 G1 T1)
    ∧ ∀ (MQ : PM) (l7' : Option PV), MQ 63 0 = MT 37 2 → ∃ G2 T2, ev 1999 130 46 [some (.inr (.inr (some 63))), s1, some (.inl n), some (.inl p), some (.inl x), some (.inl c), some (.inl (i : Int)), l7'] [] (SH L) (nset MQ G' T') = some (some (.inl r), SH L, nset MQ G2 T2) := by
  have o37 := io_37 (L := L)
  have o63 := io_63 (L := L)
  intro k
  induction k with
  | zero =>
    intro i x c T T' G G' l7 hi hx hc hE hB hT hT'
    refine ⟨c, G, T, ?_, fun MQ l7' hM => ⟨G', T', ?_⟩⟩
    · rw [e75_56]
      simp only [e75_0, e75_1, e75_4, e75_7, e75_8, e75_9, e75_10, e75_11, e75_14, e75_17, e75_20, e75_21, e75_22, e75_24, e75_27, e75_30, e75_32, e75_33, e75_34, e75_37, e75_38, e75_41, e75_44, e75_47, e75_48, e75_50, e75_51, e75_53, e75_54, e75_58, e75_59, e75_62, e75_64, e75_66, e75_67, e75_69, e75_70, e75_72, e75_73, e75_75, e75_77, e75_79, e75_80, e75_82, e75_83, e75_86, e75_88, e75_91, e75_94, e75_95, e75_98, e75_99, e75_102, e75_105, e75_106, e75_109, e75_111, e75_112, e75_114, e75_116, e75_117, e75_119, e75_120, e75_121, e75_124, e75_126, e75_127, e75_130, e75_133, e75_136, e75_139, e75_141]
      rw [if_pos (by omega)]
    · rw [e130_46]
      simp only [e130_0, e130_1, e130_4, e130_7, e130_8, e130_9, e130_10, e130_11, e130_14, e130_17, e130_20, e130_21, e130_22, e130_24, e130_27, e130_30, e130_32, e130_33, e130_34, e130_37, e130_38, e130_40, e130_41, e130_43, e130_44, e130_48, e130_49, e130_52, e130_54, e130_56, e130_57, e130_59, e130_60, e130_62, e130_63, e130_65, e130_67, e130_69, e130_70, e130_72, e130_73, e130_76, e130_78, e130_79, e130_82, e130_83, e130_85, e130_86, e130_88, e130_90, e130_91, e130_93, e130_94, e130_95, e130_96, e130_99, e130_101, e130_103, e130_104, e130_107, e130_108, e130_111, e130_112, e130_113, e130_115, e130_118, e130_119, e130_120, e130_122, e130_125, e130_128, e130_131, e130_133]
      rw [if_pos (by omega)]
  | succ k ih =>
    intro i x c T T' G G' l7 hi hx hc hE hB hT hT'
    have hw1 : wr (75 * x) = 75 * x := wr_id (by omega) (by omega)
    have hw2 : wr (75 * x + 74) = 75 * x + 74 := wr_id (by omega) (by omega)
    have hw3 := rem_w (a := 75 * x + 74) (y := 65537) (by omega) (by omega) (by decide)
    generalize hX : (75 * x + 74) % 65537 = X at hw3
    have hXb : 0 ≤ X ∧ X ≤ 65536 := by omega
    have hw4 := rem_w (a := X) (y := 6) (by omega) (by omega) (by decide)
    generalize hS : X % 6 = S at hw4
    have hSb : 0 ≤ S ∧ S < 6 := by omega
    have hw5 := div_w (a := X) (y := 6) (by omega) (by omega) (by decide)
    have hw6 := rem_w (a := X / 6) (y := 9) (by omega) (by omega) (by decide)
    have hw7 : wr (1 + X / 6 % 9) = 1 + X / 6 % 9 := wr_id (by omega) (by omega)
    generalize hD : 1 + X / 6 % 9 = D at hw7
    have hDb : 1 ≤ D ∧ D ≤ 9 := by omega
    have n1 : ¬ n ≤ (i : Int) := by omega
    have wi : wr ((i : Int) + 1) = ((i + 1 : Nat) : Int) := wr1 i (by omega)
    have wc : wr (c + 1) = c + 1 := wr_id (by omega) (by omega)
    have wc0 : wr (c + 0) = c := by rw [Int.add_zero]; exact wr_id (by omega) (by omega)
    have eS := hE S.toNat (by omega)
    have bG : BG G 500000000 := (hB.le (by omega)).eq hE
    have bG' : BG G' 500000000 := hB.le (by omega)
    have cF := v_free (L := L) (M := MT) (d := 1996) (G := G) (T := T) hSb.1 hSb.2
    by_cases hg : G' S.toNat ≤ 0
    · have hg2 : ¬ 0 < G' S.toNat := by omega
      have cs := v_speak (L := L) (M := MT) (d := 1996) (G := G) (T := T) (i := S) (x := D) hSb.1 hSb.2 hb (by omega) (by omega) bG
      have hE' : EqG (speakG (MT 37 2) D S.toNat G) (fireG (MT 37 2) D 1 S.toNat G') := EqG.speak (by omega) hE
      have hB' : BG (fireG (MT 37 2) D 1 S.toNat G') (100000000 + 9 * (i + 1 : Nat)) := by
        have hz := (speakG_b (b := MT 37 2) (d := D) (i := S.toNat) (G := G') hb (by omega) hB).le (B' := 100000000 + 9 * (i + 1 : Nat)) (by omega)
        exact hz.eq (EqG.speak (G := G') (by omega) (fun _ _ => rfl)).sym
      by_cases hp : S = p
      · obtain ⟨r, G1, T1, q1, q2⟩ := ih (i + 1) X (c + 1) (T + D) (T' + D) _ _ (some (.inl S)) (by omega) hXb (by omega) hE' hB' (by omega) (by omega)
        refine ⟨r, G1, T1, ?_, fun MQ l7' hM => ?_⟩
        · rw [e75_56]
          simp (disch := first | omega | (exact Nat.le_of_ble_eq_true rfl) | assumption | rfl) only [e75_0, e75_1, e75_4, e75_7, e75_8, e75_9, e75_10, e75_11, e75_14, e75_17, e75_20, e75_21, e75_22, e75_24, e75_27, e75_30, e75_32, e75_33, e75_34, e75_37, e75_38, e75_41, e75_44, e75_47, e75_48, e75_50, e75_51, e75_53, e75_54, e75_58, e75_59, e75_62, e75_64, e75_66, e75_67, e75_69, e75_70, e75_72, e75_73, e75_75, e75_77, e75_79, e75_80, e75_82, e75_83, e75_86, e75_88, e75_91, e75_94, e75_95, e75_98, e75_99, e75_102, e75_105, e75_106, e75_109, e75_111, e75_112, e75_114, e75_116, e75_117, e75_119, e75_120, e75_121, e75_124, e75_126, e75_127, e75_130, e75_133, e75_136, e75_139, e75_141, if_neg n1, hw1, hw2, hw3, hw4, hw5, hw6, hw7, hD, gf_1_4, cF, eS, if_pos hg, cs, if_pos hp, wc, wi, Nat.reduceAdd, bindS, tL0, tL1, app0, app1, if_true, if_false, eq_self, Int.reduceEq, Int.reduceLT, Int.reduceLE, Int.reduceNeg, Int.reduceToNat]
          exact q1
        · obtain ⟨G2, T2, q3⟩ := q2 MQ (some (.inl S)) hM
          refine ⟨G2, T2, ?_⟩
          have cn := n_speak (L := L) (M := MQ) (d := 1996) (G := G') (T := T') (i := S) (s := D) (f := 1) hSb.1 hSb.2 (by decide) (by rw [hM]; exact hb) (by omega) (by omega) bG'
          rw [hM] at cn
          rw [e130_46]
          simp (disch := first | omega | (exact Nat.le_of_ble_eq_true rfl) | assumption | rfl) only [e130_0, e130_1, e130_4, e130_7, e130_8, e130_9, e130_10, e130_11, e130_14, e130_17, e130_20, e130_21, e130_22, e130_24, e130_27, e130_30, e130_32, e130_33, e130_34, e130_37, e130_38, e130_40, e130_41, e130_43, e130_44, e130_48, e130_49, e130_52, e130_54, e130_56, e130_57, e130_59, e130_60, e130_62, e130_63, e130_65, e130_67, e130_69, e130_70, e130_72, e130_73, e130_76, e130_78, e130_79, e130_82, e130_83, e130_85, e130_86, e130_88, e130_90, e130_91, e130_93, e130_94, e130_95, e130_96, e130_99, e130_101, e130_103, e130_104, e130_107, e130_108, e130_111, e130_112, e130_113, e130_115, e130_118, e130_119, e130_120, e130_122, e130_125, e130_128, e130_131, e130_133, if_neg n1, hw1, hw2, hw3, hw4, hw5, hw6, hw7, hD, gf_63_10, n_get hSb.1 hSb.2, if_neg hg2, cn, if_pos hp, wc, wi, Nat.reduceAdd, bindS, tL0, tL1, app0, app1, if_true, if_false, eq_self, Int.reduceEq, Int.reduceLT, Int.reduceLE, Int.reduceNeg, Int.reduceToNat]
          exact q3
      · obtain ⟨r, G1, T1, q1, q2⟩ := ih (i + 1) X c (T + D) (T' + D) _ _ (some (.inl S)) (by omega) hXb (by omega) hE' hB' (by omega) (by omega)
        refine ⟨r, G1, T1, ?_, fun MQ l7' hM => ?_⟩
        · rw [e75_56]
          simp (disch := first | omega | (exact Nat.le_of_ble_eq_true rfl) | assumption | rfl) only [e75_0, e75_1, e75_4, e75_7, e75_8, e75_9, e75_10, e75_11, e75_14, e75_17, e75_20, e75_21, e75_22, e75_24, e75_27, e75_30, e75_32, e75_33, e75_34, e75_37, e75_38, e75_41, e75_44, e75_47, e75_48, e75_50, e75_51, e75_53, e75_54, e75_58, e75_59, e75_62, e75_64, e75_66, e75_67, e75_69, e75_70, e75_72, e75_73, e75_75, e75_77, e75_79, e75_80, e75_82, e75_83, e75_86, e75_88, e75_91, e75_94, e75_95, e75_98, e75_99, e75_102, e75_105, e75_106, e75_109, e75_111, e75_112, e75_114, e75_116, e75_117, e75_119, e75_120, e75_121, e75_124, e75_126, e75_127, e75_130, e75_133, e75_136, e75_139, e75_141, if_neg n1, hw1, hw2, hw3, hw4, hw5, hw6, hw7, hD, gf_1_4, cF, eS, if_pos hg, cs, if_neg hp, wi, Nat.reduceAdd, bindS, tL0, tL1, app0, app1, if_true, if_false, eq_self, Int.reduceEq, Int.reduceLT, Int.reduceLE, Int.reduceNeg, Int.reduceToNat]
          exact q1
        · obtain ⟨G2, T2, q3⟩ := q2 MQ (some (.inl S)) hM
          refine ⟨G2, T2, ?_⟩
          have cn := n_speak (L := L) (M := MQ) (d := 1996) (G := G') (T := T') (i := S) (s := D) (f := 1) hSb.1 hSb.2 (by decide) (by rw [hM]; exact hb) (by omega) (by omega) bG'
          rw [hM] at cn
          rw [e130_46]
          simp (disch := first | omega | (exact Nat.le_of_ble_eq_true rfl) | assumption | rfl) only [e130_0, e130_1, e130_4, e130_7, e130_8, e130_9, e130_10, e130_11, e130_14, e130_17, e130_20, e130_21, e130_22, e130_24, e130_27, e130_30, e130_32, e130_33, e130_34, e130_37, e130_38, e130_40, e130_41, e130_43, e130_44, e130_48, e130_49, e130_52, e130_54, e130_56, e130_57, e130_59, e130_60, e130_62, e130_63, e130_65, e130_67, e130_69, e130_70, e130_72, e130_73, e130_76, e130_78, e130_79, e130_82, e130_83, e130_85, e130_86, e130_88, e130_90, e130_91, e130_93, e130_94, e130_95, e130_96, e130_99, e130_101, e130_103, e130_104, e130_107, e130_108, e130_111, e130_112, e130_113, e130_115, e130_118, e130_119, e130_120, e130_122, e130_125, e130_128, e130_131, e130_133, if_neg n1, hw1, hw2, hw3, hw4, hw5, hw6, hw7, hD, gf_63_10, n_get hSb.1 hSb.2, if_neg hg2, cn, if_neg hp, wc0, wi, Nat.reduceAdd, bindS, tL0, tL1, app0, app1, if_true, if_false, eq_self, Int.reduceEq, Int.reduceLT, Int.reduceLE, Int.reduceNeg, Int.reduceToNat]
          exact q3
    · have hg2 : 0 < G' S.toNat := by omega
      have cs := v_silence (L := L) (M := MT) (d := 1996) (G := G) (T := T) (x := 1) hb (by omega) (by omega) bG
      obtain ⟨r, G1, T1, q1, q2⟩ := ih (i + 1) X c (T + 1) (T' + 1) _ _ (some (.inl S)) (by omega) hXb (by omega) (EqG.passN (b := MT 37 2) (s := 1) (p := -1) (q := -6) (by decide) (by decide) hE) ((passG_b hb (by decide) hB).le (by omega)) (by omega) (by omega)
      refine ⟨r, G1, T1, ?_, fun MQ l7' hM => ?_⟩
      · rw [e75_56]
        simp (disch := first | omega | (exact Nat.le_of_ble_eq_true rfl) | assumption | rfl) only [e75_0, e75_1, e75_4, e75_7, e75_8, e75_9, e75_10, e75_11, e75_14, e75_17, e75_20, e75_21, e75_22, e75_24, e75_27, e75_30, e75_32, e75_33, e75_34, e75_37, e75_38, e75_41, e75_44, e75_47, e75_48, e75_50, e75_51, e75_53, e75_54, e75_58, e75_59, e75_62, e75_64, e75_66, e75_67, e75_69, e75_70, e75_72, e75_73, e75_75, e75_77, e75_79, e75_80, e75_82, e75_83, e75_86, e75_88, e75_91, e75_94, e75_95, e75_98, e75_99, e75_102, e75_105, e75_106, e75_109, e75_111, e75_112, e75_114, e75_116, e75_117, e75_119, e75_120, e75_121, e75_124, e75_126, e75_127, e75_130, e75_133, e75_136, e75_139, e75_141, if_neg n1, hw1, hw2, hw3, hw4, gf_1_4, cF, eS, if_neg hg, cs, wi, Nat.reduceAdd, bindS, tL0, tL1, app0, app1, if_true, if_false, eq_self, Int.reduceEq, Int.reduceLT, Int.reduceLE, Int.reduceNeg, Int.reduceToNat]
        exact q1
      · obtain ⟨G2, T2, q3⟩ := q2 MQ (some (.inl S)) hM
        refine ⟨G2, T2, ?_⟩
        have cn := n_pass (L := L) (M := MQ) (d := 1997) (G := G') (T := T') (s := 1) (sp := -6) (by rw [hM]; exact hb) (by omega) (by omega) bG'
        rw [hM] at cn
        rw [e130_46]
        simp (disch := first | omega | (exact Nat.le_of_ble_eq_true rfl) | assumption | rfl) only [e130_0, e130_1, e130_4, e130_7, e130_8, e130_9, e130_10, e130_11, e130_14, e130_17, e130_20, e130_21, e130_22, e130_24, e130_27, e130_30, e130_32, e130_33, e130_34, e130_37, e130_38, e130_40, e130_41, e130_43, e130_44, e130_48, e130_49, e130_52, e130_54, e130_56, e130_57, e130_59, e130_60, e130_62, e130_63, e130_65, e130_67, e130_69, e130_70, e130_72, e130_73, e130_76, e130_78, e130_79, e130_82, e130_83, e130_85, e130_86, e130_88, e130_90, e130_91, e130_93, e130_94, e130_95, e130_96, e130_99, e130_101, e130_103, e130_104, e130_107, e130_108, e130_111, e130_112, e130_113, e130_115, e130_118, e130_119, e130_120, e130_122, e130_125, e130_128, e130_131, e130_133, if_neg n1, hw1, hw2, hw3, hw4, gf_63_10, n_get hSb.1 hSb.2, if_pos hg2, cn, wi, Nat.reduceAdd, bindS, tL0, tL1, app0, app1, if_true, if_false, eq_self, Int.reduceEq, Int.reduceLT, Int.reduceLE, Int.reduceNeg, Int.reduceToNat]
        exact q3
theorem tri_self {M : PM} : vset (tri M) 37 (tri M 38) (M 3 1) = tri M := by
  have h := vs_self (M := tri M) (v := 37)
  rw [tri_1] at h
  exact h
theorem tri_E {K : Int} {M : PM} (h : Inv K M) : EqG (tri M 38) (fil (M 64) (M 68) 6) := by
  rw [tri_G]
  exact (EqG.fil.tr h.1.2.1).tr EqG.fil.sym
theorem tri_B {K : Int} {M : PM} (h : Inv K M) : BG (fil (M 64) (M 68) 6) K := BG.eq h.1.1.1 EqG.fil
theorem tri_b {K : Int} {M : PM} (h : Inv K M) : tri M 37 2 = M 63 0 := tri_2.trans h.1.2.2.1
theorem tri_t {K : Int} {M : PM} (h : Inv K M) : 0 ≤ M 3 1 ∧ M 3 1 ≤ K := by
  rw [h.1.2.2.2.2.1]; exact h.1.1.2.2.2.1
theorem v_row {M : PM} {G : Nat → Int} {T : Int} {a : Nat} (h1 : a ≠ 37) (h2 : a ≠ 38) : vset M 37 G T a = M a := vs_row h1 h2
theorem asNow_v {d L : Nat} {M : PM} {G : Nat → Int} {T : Int} : den d 101 [(.inr (.inr (some 63)))] (SH L) (vset (tri M) 37 G T) = some (none, SH L, nset (vset (tri M) 37 G T) (fil (M 64) (M 68) 6) 0) := by
  rw [c_asNow, v_row (a := 64) (by decide) (by decide), v_row (a := 68) (by decide) (by decide), tri_row (by decide) (by decide), tri_row (by decide) (by decide)]
theorem tri_m {M : PM} {G : Nat → Int} {T : Int} {a : Nat} (h1 : a ≠ 37) (h2 : a ≠ 38) : vset (tri M) 37 G T a = M a := by rw [v_row h1 h2, tri_row h1 h2]
theorem Inv_vn {K : Int} {M : PM} (h : Inv K M) {G G' : Nat → Int} {T T' : Int} : Inv K (nset (vset (tri M) 37 G T) G' T') :=
  Inv_same h ((Same_tri.trans Same_v37).trans Same_ns) (by rw [ns_m (by decide), tri_m (by decide) (by decide)]; exact h.2.2.2.2.2)
theorem op_year {L : Nat} {K : Int} {M : PM} (h : Inv K M) (hK : K ≤ 100000000) (s n p : Int) : ∃ r M1 M2, den 1999 75 [(.inr (.inr (some 1))), .inl s, .inl n, .inl p] (SH L) M = some (some (.inl r), SH L, M1) ∧ M1 0 = M 0 ∧ den 1999 130 [(.inr (.inr (some 63))), .inl s, .inl n, .inl p] (SH L) M1 = some (some (.inl r), SH L, M2) ∧ Inv K M2 := by
  have o3 := io_3 (L := L)
  have o37 := io_37 (L := L)
  have o63 := io_63 (L := L)
  have u : ∀ {x}, den 1999 75 [(.inr (.inr (some 1))), .inl s, .inl n, .inl p] (SH L) M = x ↔ ev 1999 75 0 [some (.inr (.inr (some 1))), some (.inl s), some (.inl n), some (.inl p), none, none, none, none] [] (SH L) M = x := by
    intro x
    unfold den
    rw [show ent 75 [(.inr (.inr (some 1))), .inl s, .inl n, .inl p] = [some (.inr (.inr (some 1))), some (.inl s), some (.inl n), some (.inl p), none, none, none, none] from rfl]
  have u2 : ∀ {x} {M : PM}, den 1999 130 [(.inr (.inr (some 63))), .inl s, .inl n, .inl p] (SH L) M = x ↔ ev 1999 130 0 [some (.inr (.inr (some 63))), some (.inl s), some (.inl n), some (.inl p), none, none, none, none] [] (SH L) M = x := by
    intro x M
    unfold den
    rw [show ent 130 [(.inr (.inr (some 63))), .inl s, .inl n, .inl p] = [some (.inr (.inr (some 63))), some (.inl s), some (.inl n), some (.inl p), none, none, none, none] from rfl]
  by_cases hp : 0 ≤ p ∧ p ≤ 5
  rotate_left
  · exact ⟨-1, M, M, u.mpr (by simp (disch := first | omega | (exact Nat.le_of_ble_eq_true rfl) | assumption | rfl) only [e75_0, e75_1, e75_4, e75_7, e75_8, e75_9, e75_10, e75_11, e75_14, e75_17, e75_20, e75_21, e75_22, e75_24, e75_27, e75_30, e75_32, e75_33, e75_34, e75_37, e75_38, e75_41, e75_44, e75_47, e75_48, e75_50, e75_51, e75_53, e75_54, e75_58, e75_59, e75_62, e75_64, e75_66, e75_67, e75_69, e75_70, e75_72, e75_73, e75_75, e75_77, e75_79, e75_80, e75_82, e75_83, e75_86, e75_88, e75_91, e75_94, e75_95, e75_98, e75_99, e75_102, e75_105, e75_106, e75_109, e75_111, e75_112, e75_114, e75_116, e75_117, e75_119, e75_120, e75_121, e75_124, e75_126, e75_127, e75_130, e75_133, e75_136, e75_139, e75_141, c_person, if_neg hp, bindS, tL0, tL1, app0, app1, if_true, if_false, eq_self, Int.reduceEq, Int.reduceLT, Int.reduceLE, Int.reduceNeg, Int.reduceToNat]), rfl, u2.mpr (by simp (disch := first | omega | (exact Nat.le_of_ble_eq_true rfl) | assumption | rfl) only [e130_0, e130_1, e130_4, e130_7, e130_8, e130_9, e130_10, e130_11, e130_14, e130_17, e130_20, e130_21, e130_22, e130_24, e130_27, e130_30, e130_32, e130_33, e130_34, e130_37, e130_38, e130_40, e130_41, e130_43, e130_44, e130_48, e130_49, e130_52, e130_54, e130_56, e130_57, e130_59, e130_60, e130_62, e130_63, e130_65, e130_67, e130_69, e130_70, e130_72, e130_73, e130_76, e130_78, e130_79, e130_82, e130_83, e130_85, e130_86, e130_88, e130_90, e130_91, e130_93, e130_94, e130_95, e130_96, e130_99, e130_101, e130_103, e130_104, e130_107, e130_108, e130_111, e130_112, e130_113, e130_115, e130_118, e130_119, e130_120, e130_122, e130_125, e130_128, e130_131, e130_133, c_mperson, if_neg hp, bindS, tL0, tL1, app0, app1, if_true, if_false, eq_self, Int.reduceEq, Int.reduceLT, Int.reduceLE, Int.reduceNeg, Int.reduceToNat]), h⟩
  by_cases hs : 0 ≤ s ∧ s ≤ 9999
  rotate_left
  · exact ⟨-2, M, M, u.mpr (by simp (disch := first | omega | (exact Nat.le_of_ble_eq_true rfl) | assumption | rfl) only [e75_0, e75_1, e75_4, e75_7, e75_8, e75_9, e75_10, e75_11, e75_14, e75_17, e75_20, e75_21, e75_22, e75_24, e75_27, e75_30, e75_32, e75_33, e75_34, e75_37, e75_38, e75_41, e75_44, e75_47, e75_48, e75_50, e75_51, e75_53, e75_54, e75_58, e75_59, e75_62, e75_64, e75_66, e75_67, e75_69, e75_70, e75_72, e75_73, e75_75, e75_77, e75_79, e75_80, e75_82, e75_83, e75_86, e75_88, e75_91, e75_94, e75_95, e75_98, e75_99, e75_102, e75_105, e75_106, e75_109, e75_111, e75_112, e75_114, e75_116, e75_117, e75_119, e75_120, e75_121, e75_124, e75_126, e75_127, e75_130, e75_133, e75_136, e75_139, e75_141, c_person, c_within, if_pos hp, if_neg hs, bindS, tL0, tL1, app0, app1, if_true, if_false, eq_self, Int.reduceEq, Int.reduceLT, Int.reduceLE, Int.reduceNeg, Int.reduceToNat]), rfl, u2.mpr (by simp (disch := first | omega | (exact Nat.le_of_ble_eq_true rfl) | assumption | rfl) only [e130_0, e130_1, e130_4, e130_7, e130_8, e130_9, e130_10, e130_11, e130_14, e130_17, e130_20, e130_21, e130_22, e130_24, e130_27, e130_30, e130_32, e130_33, e130_34, e130_37, e130_38, e130_40, e130_41, e130_43, e130_44, e130_48, e130_49, e130_52, e130_54, e130_56, e130_57, e130_59, e130_60, e130_62, e130_63, e130_65, e130_67, e130_69, e130_70, e130_72, e130_73, e130_76, e130_78, e130_79, e130_82, e130_83, e130_85, e130_86, e130_88, e130_90, e130_91, e130_93, e130_94, e130_95, e130_96, e130_99, e130_101, e130_103, e130_104, e130_107, e130_108, e130_111, e130_112, e130_113, e130_115, e130_118, e130_119, e130_120, e130_122, e130_125, e130_128, e130_131, e130_133, c_mperson, c_in, if_pos hp, if_neg hs, bindS, tL0, tL1, app0, app1, if_true, if_false, eq_self, Int.reduceEq, Int.reduceLT, Int.reduceLE, Int.reduceNeg, Int.reduceToNat]), h⟩
  by_cases hn : 1 ≤ n ∧ n ≤ 99
  rotate_left
  · exact ⟨-2, M, M, u.mpr (by simp (disch := first | omega | (exact Nat.le_of_ble_eq_true rfl) | assumption | rfl) only [e75_0, e75_1, e75_4, e75_7, e75_8, e75_9, e75_10, e75_11, e75_14, e75_17, e75_20, e75_21, e75_22, e75_24, e75_27, e75_30, e75_32, e75_33, e75_34, e75_37, e75_38, e75_41, e75_44, e75_47, e75_48, e75_50, e75_51, e75_53, e75_54, e75_58, e75_59, e75_62, e75_64, e75_66, e75_67, e75_69, e75_70, e75_72, e75_73, e75_75, e75_77, e75_79, e75_80, e75_82, e75_83, e75_86, e75_88, e75_91, e75_94, e75_95, e75_98, e75_99, e75_102, e75_105, e75_106, e75_109, e75_111, e75_112, e75_114, e75_116, e75_117, e75_119, e75_120, e75_121, e75_124, e75_126, e75_127, e75_130, e75_133, e75_136, e75_139, e75_141, c_person, c_within, if_pos hp, if_pos hs, if_neg hn, bindS, tL0, tL1, app0, app1, if_true, if_false, eq_self, Int.reduceEq, Int.reduceLT, Int.reduceLE, Int.reduceNeg, Int.reduceToNat]), rfl, u2.mpr (by simp (disch := first | omega | (exact Nat.le_of_ble_eq_true rfl) | assumption | rfl) only [e130_0, e130_1, e130_4, e130_7, e130_8, e130_9, e130_10, e130_11, e130_14, e130_17, e130_20, e130_21, e130_22, e130_24, e130_27, e130_30, e130_32, e130_33, e130_34, e130_37, e130_38, e130_40, e130_41, e130_43, e130_44, e130_48, e130_49, e130_52, e130_54, e130_56, e130_57, e130_59, e130_60, e130_62, e130_63, e130_65, e130_67, e130_69, e130_70, e130_72, e130_73, e130_76, e130_78, e130_79, e130_82, e130_83, e130_85, e130_86, e130_88, e130_90, e130_91, e130_93, e130_94, e130_95, e130_96, e130_99, e130_101, e130_103, e130_104, e130_107, e130_108, e130_111, e130_112, e130_113, e130_115, e130_118, e130_119, e130_120, e130_122, e130_125, e130_128, e130_131, e130_133, c_mperson, c_in, if_pos hp, if_pos hs, if_neg hn, bindS, tL0, tL1, app0, app1, if_true, if_false, eq_self, Int.reduceEq, Int.reduceLT, Int.reduceLE, Int.reduceNeg, Int.reduceToNat]), h⟩
  have ht := tri_t h
  have hb := h.1.1.2.1
  obtain ⟨r, G1, T1, q1, q2⟩ := year_loop (L := L) (MT := tri M) (n := n) (p := p) (s1 := some (.inl s)) (by rw [tri_b h]; exact hb) hn n.toNat 0 s 0 (M 3 1) 0 (tri M 38) (fil (M 64) (M 68) 6) none (by omega) (by omega) (by omega) (tri_E h) ((tri_B h).le (by omega)) (by omega) (by omega)
  obtain ⟨G2, T2, q3⟩ := q2 (vset (tri M) 37 G1 T1) none (by rw [tri_m (by decide) (by decide), tri_b h])
  rw [tri_self] at q1
  refine ⟨r, vset (tri M) 37 G1 T1, nset (vset (tri M) 37 G1 T1) G2 T2, u.mpr ?_, tri_m (by decide) (by decide), u2.mpr ?_, Inv_vn h⟩
  · simp (disch := first | omega | (exact Nat.le_of_ble_eq_true rfl) | assumption | rfl) only [e75_0, e75_1, e75_4, e75_7, e75_8, e75_9, e75_10, e75_11, e75_14, e75_17, e75_20, e75_21, e75_22, e75_24, e75_27, e75_30, e75_32, e75_33, e75_34, e75_37, e75_38, e75_41, e75_44, e75_47, e75_48, e75_50, e75_51, e75_53, e75_54, e75_58, e75_59, e75_62, e75_64, e75_66, e75_67, e75_69, e75_70, e75_72, e75_73, e75_75, e75_77, e75_79, e75_80, e75_82, e75_83, e75_86, e75_88, e75_91, e75_94, e75_95, e75_98, e75_99, e75_102, e75_105, e75_106, e75_109, e75_111, e75_112, e75_114, e75_116, e75_117, e75_119, e75_120, e75_121, e75_124, e75_126, e75_127, e75_130, e75_133, e75_136, e75_139, e75_141, c_person, c_within, if_pos hp, if_pos hs, if_pos hn, gf_1_0, gf_1_4, gf_2_0, c_tri, bindS, tL0, tL1, app0, app1, if_true, if_false, eq_self, Int.reduceEq, Int.reduceLT, Int.reduceLE, Int.reduceNeg, Int.reduceToNat]
    exact q1
  · simp (disch := first | omega | (exact Nat.le_of_ble_eq_true rfl) | assumption | rfl) only [e130_0, e130_1, e130_4, e130_7, e130_8, e130_9, e130_10, e130_11, e130_14, e130_17, e130_20, e130_21, e130_22, e130_24, e130_27, e130_30, e130_32, e130_33, e130_34, e130_37, e130_38, e130_40, e130_41, e130_43, e130_44, e130_48, e130_49, e130_52, e130_54, e130_56, e130_57, e130_59, e130_60, e130_62, e130_63, e130_65, e130_67, e130_69, e130_70, e130_72, e130_73, e130_76, e130_78, e130_79, e130_82, e130_83, e130_85, e130_86, e130_88, e130_90, e130_91, e130_93, e130_94, e130_95, e130_96, e130_99, e130_101, e130_103, e130_104, e130_107, e130_108, e130_111, e130_112, e130_113, e130_115, e130_118, e130_119, e130_120, e130_122, e130_125, e130_128, e130_131, e130_133, c_mperson, c_in, if_pos hp, if_pos hs, if_pos hn, asNow_v, bindS, tL0, tL1, app0, app1, if_true, if_false, eq_self, Int.reduceEq, Int.reduceLT, Int.reduceLE, Int.reduceNeg, Int.reduceToNat]
    exact q3
