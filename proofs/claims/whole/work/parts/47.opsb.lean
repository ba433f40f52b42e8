/-! length -/
theorem runG_at {b w : Int} {G : Nat → Int} {i : Nat} (hi : i < 6) (hb : 0 ≤ b ∧ b ≤ 99) (hw : waitI (G i) = w) : runG b w G i = G i - w := by
  unfold runG waitI at *
  by_cases h0 : 0 < G i
  · rw [if_pos h0] at hw
    subst hw
    rw [if_pos h0]
    unfold passG
    have h1 : ¬ (i : Int) = -6 := by omega
    have h2 : -b < G i := by omega
    rw [if_pos (And.intro hi (And.intro h1 h2)), if_neg (by omega)]
  · rw [if_neg h0] at hw
    subst hw
    rw [if_neg (by decide)]
    omega
theorem fireG_at {b d f : Int} {G : Nat → Int} {i : Nat} : fireG b d f i G i = G i + f * d := by
  unfold fireG addG
  rw [if_pos rfl, passG_no rfl]
section
variable {L : Nat} {p t wh f m d : Int}
theorem mlen_run {MQ : PM} {G : Nat → Int} {g sp w : Int} (hb : 0 ≤ MQ 63 0 ∧ MQ 63 0 ≤ 99) (hp : 0 ≤ p ∧ p ≤ 5) (hw : waitI (G p.toNat) = w) (hg : 0 ≤ g ∧ g ≤ 999) (hB : BG G 200000000) (hgt : g < t) :
    ev 1999 125 56 [some (.inr (.inr (some 63))), some (.inl p), some (.inl t), some (.inl wh), some (.inl f), some (.inl m), some (.inl d), some (.inl sp)] [] (SH L) (nset MQ G g)
    = ev 1999 125 85 [some (.inr (.inr (some 63))), some (.inl p), some (.inl t), some (.inl wh), some (.inl f), some (.inl m), some (.inl d), some (.inl sp)] [] (SH L) (nset MQ (runG (MQ 63 0) w G) (g + w)) := by
  have o63 := io_63 (L := L)
  have h1 : ¬ t ≤ g := by omega
  have hgp := hB p.toNat (by omega)
  unfold runG waitI at *
  rw [e125_56]
  by_cases h0 : 0 < G p.toNat
  · rw [if_pos h0] at hw
    subst hw
    have h2 : ¬ G p.toNat ≤ 0 := by omega
    have cn := n_pass (L := L) (M := MQ) (d := 1997) (G := G) (T := g) (s := G p.toNat) (sp := -6) hb (by omega) (by omega) (hB.le (by omega))
    simp (disch := first | omega | (exact Nat.le_of_ble_eq_true rfl) | assumption | rfl) only [e125_0, e125_1, e125_4, e125_7, e125_8, e125_9, e125_10, e125_11, e125_14, e125_17, e125_20, e125_21, e125_22, e125_23, e125_26, e125_29, e125_31, e125_32, e125_34, e125_36, e125_37, e125_39, e125_40, e125_42, e125_44, e125_46, e125_49, e125_50, e125_53, e125_54, e125_57, e125_60, e125_61, e125_64, e125_65, e125_68, e125_69, e125_70, e125_73, e125_74, e125_75, e125_78, e125_79, e125_80, e125_82, e125_86, e125_87, e125_89, e125_90, e125_93, e125_95, e125_96, e125_99, e125_100, e125_103, e125_105, e125_108, e125_109, e125_110, e125_112, e125_115, e125_117, e125_119, e125_122, e125_124, e125_126, e125_128, e125_130, e125_133, e125_136, e125_137, e125_140, e125_142, e125_145, e125_147, gf_63_11, gf_63_10, ns_T, n_get hp.1 (Int.lt_of_le_of_lt hp.2 (by decide)), if_neg h1, if_neg h2, if_pos h0, cn, Nat.reduceAdd, bindS, tL0, tL1, app0, app1, if_true, if_false, eq_self, Int.reduceEq, Int.reduceLT, Int.reduceLE, Int.reduceNeg, Int.reduceToNat]
  · rw [if_neg h0] at hw
    subst hw
    have h2 : G p.toNat ≤ 0 := by omega
    simp (disch := first | omega | (exact Nat.le_of_ble_eq_true rfl) | assumption | rfl) only [e125_0, e125_1, e125_4, e125_7, e125_8, e125_9, e125_10, e125_11, e125_14, e125_17, e125_20, e125_21, e125_22, e125_23, e125_26, e125_29, e125_31, e125_32, e125_34, e125_36, e125_37, e125_39, e125_40, e125_42, e125_44, e125_46, e125_49, e125_50, e125_53, e125_54, e125_57, e125_60, e125_61, e125_64, e125_65, e125_68, e125_69, e125_70, e125_73, e125_74, e125_75, e125_78, e125_79, e125_80, e125_82, e125_86, e125_87, e125_89, e125_90, e125_93, e125_95, e125_96, e125_99, e125_100, e125_103, e125_105, e125_108, e125_109, e125_110, e125_112, e125_115, e125_117, e125_119, e125_122, e125_124, e125_126, e125_128, e125_130, e125_133, e125_136, e125_137, e125_140, e125_142, e125_145, e125_147, gf_63_11, gf_63_10, ns_T, n_get hp.1 (Int.lt_of_le_of_lt hp.2 (by decide)), if_neg h1, if_pos h2, Int.add_zero, Int.lt_irrefl, bindS, tL0, tL1, app0, app1, if_true, if_false, eq_self, Int.reduceEq, Int.reduceLT, Int.reduceLE, Int.reduceNeg, Int.reduceToNat]
theorem mlen_say {MQ : PM} {G : Nat → Int} {g sp : Int} (hb : 0 ≤ MQ 63 0 ∧ MQ 63 0 ≤ 99) (hp : 0 ≤ p ∧ p ≤ 5) (hd : 1 ≤ d ∧ d ≤ 99) (hg : 0 ≤ g ∧ g ≤ 300000000) (hs : 0 ≤ sp ∧ sp ≤ 999) (hB : BG G 200000000) :
    ev 1999 125 85 [some (.inr (.inr (some 63))), some (.inl p), some (.inl t), some (.inl wh), some (.inl f), some (.inl m), some (.inl d), some (.inl sp)] [] (SH L) (nset MQ G g)
    = ev 1999 125 56 [some (.inr (.inr (some 63))), some (.inl p), some (.inl t), some (.inl wh), some (.inl f), some (.inl m), some (.inl d), some (.inl (if t < g + d then sp else sp + d))] [] (SH L) (nset MQ (fireG (MQ 63 0) d 1 p.toNat G) (g + d)) := by
  have o63 := io_63 (L := L)
  have w1 : wr (sp + 0) = sp := by rw [Int.add_zero]; exact wr_id (by omega) (by omega)
  have w2 : wr (sp + d) = sp + d := wr_id (by omega) (by omega)
  have cn := n_speak (L := L) (M := MQ) (d := 1996) (G := G) (T := g) (i := p) (s := d) (f := 1) hp.1 (by omega) (by decide) hb (by omega) (by omega) (hB.le (by omega))
  by_cases h1 : t < g + d
  · simp (disch := first | omega | (exact Nat.le_of_ble_eq_true rfl) | assumption | rfl) only [e125_0, e125_1, e125_4, e125_7, e125_8, e125_9, e125_10, e125_11, e125_14, e125_17, e125_20, e125_21, e125_22, e125_23, e125_26, e125_29, e125_31, e125_32, e125_34, e125_36, e125_37, e125_39, e125_40, e125_42, e125_44, e125_46, e125_49, e125_50, e125_53, e125_54, e125_57, e125_60, e125_61, e125_64, e125_65, e125_68, e125_69, e125_70, e125_73, e125_74, e125_75, e125_78, e125_79, e125_80, e125_82, e125_85, e125_86, e125_87, e125_89, e125_90, e125_93, e125_95, e125_96, e125_99, e125_100, e125_103, e125_105, e125_108, e125_109, e125_110, e125_112, e125_115, e125_117, e125_119, e125_122, e125_124, e125_126, e125_128, e125_130, e125_133, e125_136, e125_137, e125_140, e125_142, e125_145, e125_147, gf_63_11, ns_T, w1, if_pos h1, cn, Nat.reduceAdd, bindS, tL0, tL1, app0, app1, if_true, if_false, eq_self, Int.reduceEq, Int.reduceLT, Int.reduceLE, Int.reduceNeg, Int.reduceToNat]
  · simp (disch := first | omega | (exact Nat.le_of_ble_eq_true rfl) | assumption | rfl) only [e125_0, e125_1, e125_4, e125_7, e125_8, e125_9, e125_10, e125_11, e125_14, e125_17, e125_20, e125_21, e125_22, e125_23, e125_26, e125_29, e125_31, e125_32, e125_34, e125_36, e125_37, e125_39, e125_40, e125_42, e125_44, e125_46, e125_49, e125_50, e125_53, e125_54, e125_57, e125_60, e125_61, e125_64, e125_65, e125_68, e125_69, e125_70, e125_73, e125_74, e125_75, e125_78, e125_79, e125_80, e125_82, e125_85, e125_86, e125_87, e125_89, e125_90, e125_93, e125_95, e125_96, e125_99, e125_100, e125_103, e125_105, e125_108, e125_109, e125_110, e125_112, e125_115, e125_117, e125_119, e125_122, e125_124, e125_126, e125_128, e125_130, e125_133, e125_136, e125_137, e125_140, e125_142, e125_145, e125_147, gf_63_11, ns_T, w2, if_neg h1, cn, Nat.reduceAdd, bindS, tL0, tL1, app0, app1, if_true, if_false, eq_self, Int.reduceEq, Int.reduceLT, Int.reduceLE, Int.reduceNeg, Int.reduceToNat]
theorem mlen_out {MQ : PM} {G : Nat → Int} {g sp : Int} (h : t ≤ g) :
    ev 1999 125 56 [some (.inr (.inr (some 63))), some (.inl p), some (.inl t), some (.inl wh), some (.inl f), some (.inl m), some (.inl d), some (.inl sp)] [] (SH L) (nset MQ G g)
    = ev 1999 125 115 [some (.inr (.inr (some 63))), some (.inl p), some (.inl t), some (.inl wh), some (.inl f), some (.inl m), some (.inl d), some (.inl sp)] [] (SH L) (nset MQ G g) := by
  rw [e125_56]
  simp (disch := first | omega | (exact Nat.le_of_ble_eq_true rfl) | assumption | rfl) only [e125_0, e125_1, e125_4, e125_7, e125_8, e125_9, e125_10, e125_11, e125_14, e125_17, e125_20, e125_21, e125_22, e125_23, e125_26, e125_29, e125_31, e125_32, e125_34, e125_36, e125_37, e125_39, e125_40, e125_42, e125_44, e125_46, e125_49, e125_50, e125_53, e125_54, e125_57, e125_60, e125_61, e125_64, e125_65, e125_68, e125_69, e125_70, e125_73, e125_74, e125_75, e125_78, e125_79, e125_80, e125_82, e125_85, e125_86, e125_87, e125_89, e125_90, e125_93, e125_95, e125_96, e125_99, e125_100, e125_103, e125_105, e125_108, e125_109, e125_110, e125_112, e125_117, e125_119, e125_122, e125_124, e125_126, e125_128, e125_130, e125_133, e125_136, e125_137, e125_140, e125_142, e125_145, e125_147, gf_63_11, ns_T, if_pos h, bindS, tL0, tL1, app0, app1, if_true, if_false, eq_self, Int.reduceEq, Int.reduceLT, Int.reduceLE, Int.reduceNeg, Int.reduceToNat]
theorem al_loop {M : PM} {gl : Option PV} {dd : Nat} {b : Int} (hb : 0 ≤ b ∧ b ≤ 99) (hp : 0 ≤ p ∧ p ≤ 5) (hd : 1 ≤ d ∧ d ≤ 99) (ht : t ≤ 999) : ∀ (k i : Nat) (g sp ow : Int) (G : Nat → Int) (l7 : Option PV), (i : Int) + k = t → (0 ≤ g ∧ g ≤ t) → (i : Int) ≤ g → (0 ≤ sp ∧ sp ≤ g) → G p.toNat = ow → BG G (100000000 + g) →
    ∃ s, (0 ≤ s ∧ s ≤ 999) ∧ ev (dd + 1) 84 11 [gl, some (.inl d), some (.inl t), some (.inl ow), some (.inl g), some (.inl sp), some (.inl (i : Int)), l7] [] (SH L) M = some (some (.inl s), SH L, M)
    ∧ ∀ (MQ : PM) (f m : Int), MQ 63 0 = b → ∃ G2 T2, ev 1999 125 56 [some (.inr (.inr (some 63))), some (.inl p), some (.inl t), some (.inl wh), some (.inl f), some (.inl m), some (.inl d), some (.inl sp)] [] (SH L) (nset MQ G g)
      = ev 1999 125 115 [some (.inr (.inr (some 63))), some (.inl p), some (.inl t), some (.inl wh), some (.inl f), some (.inl m), some (.inl d), some (.inl s)] [] (SH L) (nset MQ G2 T2) := by
  intro k
  induction k with
  | zero =>
    intro i g sp ow G l7 hi hg hig hs hG hB
    refine ⟨sp, by omega, ?_, fun MQ f m hM => ⟨G, g, mlen_out (by omega)⟩⟩
    rw [e84_11]
    simp only [e84_0, e84_1, e84_2, e84_3, e84_5, e84_6, e84_8, e84_9, e84_13, e84_14, e84_17, e84_18, e84_19, e84_22, e84_24, e84_26, e84_28, e84_29, e84_30, e84_31, e84_32, e84_35, e84_38, e84_40, e84_42, e84_43, e84_44, e84_45, e84_47, e84_48, e84_49, e84_51, e84_52, e84_53, e84_54, e84_56, e84_57, e84_58, e84_60, e84_63, e84_66, e84_68]
    rw [if_pos (by omega)]
  | succ k ih =>
    intro i g sp ow G l7 hi hg hig hs hG hB
    have hgp := hB p.toNat (by omega)
    rw [hG] at hgp
    have hwb := waitI_b hgp.2 (by omega)
    have hmx : (if ow < 0 then 0 else ow) = waitI ow := by unfold waitI; repeat' split; all_goals omega
    generalize hw : waitI ow = w at *
    have hwG : waitI (G p.toNat) = w := by rw [hG]; exact hw
    have n1 : ¬ t ≤ (i : Int) := by omega
    have w1 : wr (g + w) = g + w := wr_id (by omega) (by omega)
    have w2 : wr (g + w + d) = g + w + d := wr_id (by omega) (by omega)
    by_cases hgo : g + w + d ≤ t
    · have w3 : wr (w + d) = w + d := wr_id (by omega) (by omega)
      have w4 : wr (g + (w + d)) = g + w + d := by rw [wr_id (by omega) (by omega)]; omega
      have w5 : wr (d - w) = d - w := wr_id (by omega) (by omega)
      have w6 : wr (ow + (d - w)) = ow + (d - w) := wr_id (by omega) (by omega)
      have w7 : wr (sp + d) = sp + d := wr_id (by omega) (by omega)
      have w8 : wr ((i : Int) + 1) = ((i + 1 : Nat) : Int) := wr1 i (by omega)
      have k1 : fireG b d 1 p.toNat (runG b w G) p.toNat = ow + (d - w) := by
        rw [fireG_at, runG_at (by omega) hb hwG, hG]
        omega
      have k2 : BG (fireG b d 1 p.toNat (runG b w G)) (100000000 + (g + w + d)) := (fire1_b (by omega) hb (by omega) (runG_b hb (by omega) hB)).le (by omega)
      obtain ⟨s, hs2, q1, q2⟩ := ih (i + 1) (g + w + d) (sp + d) (ow + (d - w)) _ (some (.inl w)) (by omega) (by omega) (by omega) (by omega) k1 k2
      refine ⟨s, hs2, ?_, fun MQ f m hM => ?_⟩
      · rw [e84_11]
        simp (disch := first | omega | (exact Nat.le_of_ble_eq_true rfl) | assumption | rfl) only [e84_0, e84_1, e84_2, e84_3, e84_5, e84_6, e84_8, e84_9, e84_13, e84_14, e84_17, e84_18, e84_19, e84_22, e84_24, e84_26, e84_28, e84_29, e84_30, e84_31, e84_32, e84_35, e84_38, e84_40, e84_42, e84_43, e84_44, e84_45, e84_47, e84_48, e84_49, e84_51, e84_52, e84_53, e84_54, e84_56, e84_57, e84_58, e84_60, e84_63, e84_66, e84_68, hmx, w1, w2, w3, w4, w5, w6, w7, w8, if_neg n1, if_pos hgo, bindS, tL0, tL1, app0, app1, if_true, if_false, eq_self, Int.reduceEq, Int.reduceLT, Int.reduceLE, Int.reduceNeg, Int.reduceToNat]
        exact q1
      · obtain ⟨G2, T2, q3⟩ := q2 MQ f m hM
        have m1 := mlen_run (L := L) (p := p) (t := t) (wh := wh) (f := f) (m := m) (d := d) (MQ := MQ) (G := G) (g := g) (sp := sp) (by rw [hM]; exact hb) hp hwG (by omega) (hB.le (by omega)) (by omega)
        have m2 := mlen_say (L := L) (p := p) (t := t) (wh := wh) (f := f) (m := m) (d := d) (MQ := MQ) (G := runG (MQ 63 0) w G) (g := g + w) (sp := sp) (by rw [hM]; exact hb) hp hd (by omega) (by omega) ((runG_b (by rw [hM]; exact hb) (by omega) hB).le (by omega))
        rw [if_neg (by omega)] at m2
        rw [hM] at m1 m2
        exact ⟨G2, T2, m1.trans (m2.trans q3)⟩
    · refine ⟨sp, by omega, ?_, fun MQ f m hM => ?_⟩
      · rw [e84_11]
        simp (disch := first | omega | (exact Nat.le_of_ble_eq_true rfl) | assumption | rfl) only [e84_0, e84_1, e84_2, e84_3, e84_5, e84_6, e84_8, e84_9, e84_13, e84_14, e84_17, e84_18, e84_19, e84_22, e84_24, e84_26, e84_28, e84_29, e84_30, e84_31, e84_32, e84_35, e84_38, e84_40, e84_42, e84_43, e84_44, e84_45, e84_47, e84_48, e84_49, e84_51, e84_52, e84_53, e84_54, e84_56, e84_57, e84_58, e84_60, e84_63, e84_66, e84_68, hmx, w1, w2, if_neg n1, if_neg hgo, bindS, tL0, tL1, app0, app1, if_true, if_false, eq_self, Int.reduceEq, Int.reduceLT, Int.reduceLE, Int.reduceNeg, Int.reduceToNat]
      · have hb : 0 ≤ MQ 63 0 ∧ MQ 63 0 ≤ 99 := by rw [hM]; exact hb
        by_cases hgt : g < t
        · have m1 := mlen_run (L := L) (p := p) (t := t) (wh := wh) (f := f) (m := m) (d := d) (MQ := MQ) (G := G) (g := g) (sp := sp) hb hp hwG (by omega) (hB.le (by omega)) hgt
          have m2 := mlen_say (L := L) (p := p) (t := t) (wh := wh) (f := f) (m := m) (d := d) (MQ := MQ) (G := runG (MQ 63 0) w G) (g := g + w) (sp := sp) hb hp hd (by omega) (by omega) ((runG_b hb (by omega) hB).le (by omega))
          rw [if_pos (by omega)] at m2
          exact ⟨_, _, m1.trans (m2.trans (mlen_out (by omega)))⟩
        · exact ⟨_, _, mlen_out (by omega)⟩
end
