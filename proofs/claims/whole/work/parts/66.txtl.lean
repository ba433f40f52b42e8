/-! burns -/
theorem RD_lt6 {Z S F D : Nat → Int} {P n : Nat} (h : RD Z S F D P 0 0 n) : ∀ j, j < P → S j < 6 := by
  obtain ⟨pos, ⟨h0, h1, h2, h3, h4, h5⟩, -⟩ := h
  intro j hj
  rcases Int.lt_or_le (S j) 6 with h | h
  · exact h
  · have hm := qA_mono (S := S) (P - (j + 1)) (j + 1)
    rw [show j + 1 + (P - (j + 1)) = P by omega, ← h2] at hm
    have : qA S (j + 1) = qA S j + (if 6 ≤ S j then 1 else 0) := rfl
    rw [if_pos h] at this
    omega
theorem CA_le {w b f : Int} {pe S F D G0 : Nat → Int} {P : Nat} (ho : ∀ j, j < P → OKP pe (S j) (F j) (D j)) : ∀ j, j ≤ P → CA w b f pe S F D G0 j ≤ TA D j := by
  intro j
  induction j with
  | zero => intro _; exact Int.le_refl _
  | succ j ih =>
    intro hj
    have h1 := ih (by omega)
    have h2 := (ho j (by omega)).2.1
    have h3 := watI_b (w := w) (G := GA b f pe S F D G0 j) (sp := if S j = -1 then -6 else spk pe (S j)) h2.1
    show CA w b f pe S F D G0 j + _ ≤ TA D j + D j
    split <;> omega
section
variable {d L P : Nat} {MT : PM} {b f w : Int} {pe S F D G0 : Nat → Int}
theorem rs_loop {T0 B : Int} (hP : P ≤ 60) (h5 : MT 32 5 = (P : Int)) (hb : MT 37 2 = b) (hf : MT 37 3 = f) (bb : 0 ≤ b ∧ b ≤ 99) (bf : 1 ≤ f ∧ f ≤ 4) (hpe : MT 62 = pe) (hS : MT 34 = S) (hF : MT 35 = F) (hD : MT 36 = D) (ho : ∀ j, j < P → OKP pe (S j) (F j) (D j)) (h6 : ∀ j, j < P → S j < 6) (hT : 0 ≤ T0 ∧ T0 ≤ 300000000) (hB : 0 ≤ B ∧ B ≤ 300000000) (hg : BG G0 B) (hw : 0 ≤ w ∧ w ≤ 5) (hcan : ∀ i, i < P → canA b f pe S F D G0 i = true) : ∀ (k j : Nat), j + k = P →
    ev (d + 4) 32 6 [some (.inr (.inr (some 32))), some (.inl w), some (.inr (.inr (some 37))), some (.inr (.inr (some 62))), some (.inl (CA w b f pe S F D G0 j)), some (.inl (j : Int))] [] (SH L) (vset MT 37 (GA b f pe S F D G0 j) (T0 + TA D j)) = some (some (.inl (CA w b f pe S F D G0 P)), SH L, vset MT 37 (GA b f pe S F D G0 P) (T0 + TA D P)) := by
  intro k
  have o := io_32 (L := L)
  have o37 := io_37 (L := L)
  induction k with
  | zero =>
    intro j hj
    have hj : j = P := by omega
    subst hj
    have hle : (j : Int) ≤ (j : Int) := Int.le_refl _
    rw [e32_6]
    simp (disch := first | omega | (exact Nat.le_of_ble_eq_true rfl) | assumption | rfl) only [e32_0, e32_1, e32_3, e32_4, e32_8, e32_9, e32_12, e32_15, e32_16, e32_19, e32_21, e32_24, e32_25, e32_28, e32_30, e32_31, e32_34, e32_36, e32_39, e32_40, e32_41, e32_44, e32_45, e32_46, e32_49, e32_50, e32_52, e32_53, e32_55, e32_56, e32_57, e32_60, e32_61, e32_64, e32_67, e32_69, gf_32_5, v_row, h5, hle, ↓reduceIte, true_and, and_true, false_and, and_false, bindS, tL0, tL1, app0, app1, eq_self, Int.reduceEq, Int.reduceLT, Int.reduceLE, Int.reduceNeg, Int.reduceToNat]
  | succ k ih =>
    intro j hj
    have hlt : ¬ (P : Int) ≤ (j : Int) := by omega
    have hjP : j < P := by omega
    have hTA := TA_b ho j (by omega)
    have hCA := CA_b (w := w) (b := b) (f := f) (G0 := G0) ho j (by omega)
    have hGA := GA_b (b := b) (f := f) bb bf hB.1 ho hg j (by omega)
    have c := c_part (d := d) (L := L) (MT := MT) (G := GA b f pe S F D G0 j) (T := T0 + TA D j) (j := j) (by omega) hb hf bb bf hpe hS hF hD (ho j (by omega)) (by omega) (hGA.le (by omega))
    have wj := wr1 j (by omega)
    rw [show can pe (S j) (F j) (GA b f pe S F D G0 j) = canA b f pe S F D G0 j from rfl, hcan j hjP] at c
    simp only [if_true] at c
    have g34 := c_at_in (M := vset MT 37 (GA b f pe S F D G0 j) (T0 + TA D j)) (d := d + 3) (ar_34 (L := L)) (i := (j : Int)) (by omega) (by omega)
    have g36 := c_at_in (M := vset MT 37 (GA b f pe S F D G0 j) (T0 + TA D j)) (d := d + 3) (ar_36 (L := L)) (i := (j : Int)) (by omega) (by omega)
    rw [tnN, v_row (by decide) (by decide), hS] at g34
    rw [tnN, v_row (by decide) (by decide), hD] at g36
    have cw := v_wait (L := L) (M := MT) (d := d + 1) (G := GA b f pe S F D G0 j) (T := T0 + TA D j) (i := w) hw.1 (by omega)
    rw [show (if 0 < GA b f pe S F D G0 j w.toNat then GA b f pe S F D G0 j w.toNat else 0) = waitI (GA b f pe S F D G0 j w.toNat) from rfl] at cw
    have hgw := hGA w.toNat (by omega)
    have hwb := waitI_b hgw.2 (by omega)
    obtain ⟨o1, o2, o3, o4⟩ := ho j hjP
    have hs6 := h6 j hjP
    have h := ih (j + 1) (by omega)
    rw [show GA b f pe S F D G0 (j + 1) = stG b f pe (S j) (F j) (D j) (GA b f pe S F D G0 j) from rfl, show TA D (j + 1) = TA D j + D j from rfl, ← Int.add_assoc] at h
    have eC : CA w b f pe S F D G0 (j + 1) = CA w b f pe S F D G0 j + (if S j = -2 then 0 else watI w (GA b f pe S F D G0 j) (D j) (if S j = -1 then -6 else spk pe (S j))) := rfl
    have espk : spk pe (S j) = S j := by unfold spk; rw [if_neg (by omega)]
    rw [e32_6]
    by_cases hsw : S j = w
    · have e0 : (if S j = -2 then 0 else watI w (GA b f pe S F D G0 j) (D j) (if S j = -1 then -6 else spk pe (S j))) = 0 := by
        rw [if_neg (by omega), if_neg (by omega), espk]
        unfold watI
        rw [if_pos (Or.inr hsw.symm)]
      rw [eC, e0, Int.add_zero] at h
      rw [hsw] at h
      simp (disch := first | omega | (exact Nat.le_of_ble_eq_true rfl) | assumption | rfl) only [e32_0, e32_1, e32_3, e32_4, e32_8, e32_9, e32_12, e32_15, e32_16, e32_19, e32_21, e32_24, e32_25, e32_28, e32_30, e32_31, e32_34, e32_36, e32_39, e32_40, e32_41, e32_44, e32_45, e32_46, e32_49, e32_50, e32_52, e32_53, e32_55, e32_56, e32_57, e32_60, e32_61, e32_64, e32_67, e32_69, gf_32_2, gf_32_5, v_row, h5, hlt, g34, hsw, c, wj, ↓reduceIte, true_and, and_true, false_and, and_false, bindS, tL0, tL1, app0, app1, eq_self, Int.reduceEq, Int.reduceLT, Int.reduceLE, Int.reduceNeg, Int.reduceToNat]
      exact h
    · have w1 : wr (D j - waitI (GA b f pe S F D G0 j w.toNat)) = D j - waitI (GA b f pe S F D G0 j w.toNat) := wr_id (by omega) (by omega)
      have e0 : (if S j = -2 then 0 else watI w (GA b f pe S F D G0 j) (D j) (if S j = -1 then -6 else spk pe (S j))) = if D j - waitI (GA b f pe S F D G0 j w.toNat) < 0 then 0 else D j - waitI (GA b f pe S F D G0 j w.toNat) := by
        by_cases h2 : S j = -2
        · rw [if_pos h2, o3 h2]; split <;> omega
        · rw [if_neg h2]
          unfold watI
          rw [if_neg (by rw [espk]; split <;> omega)]
          split <;> split <;> omega
      rw [eC, e0] at h
      have w2 : wr (CA w b f pe S F D G0 j + (if D j - waitI (GA b f pe S F D G0 j w.toNat) < 0 then 0 else D j - waitI (GA b f pe S F D G0 j w.toNat))) = CA w b f pe S F D G0 j + (if D j - waitI (GA b f pe S F D G0 j w.toNat) < 0 then 0 else D j - waitI (GA b f pe S F D G0 j w.toNat)) := by
        rw [wr_id]
        · split <;> omega
        · split <;> omega
      by_cases hneg : D j - waitI (GA b f pe S F D G0 j w.toNat) < 0
      · simp only [if_pos hneg] at h w2
        simp (disch := first | omega | (exact Nat.le_of_ble_eq_true rfl) | assumption | rfl) only [e32_0, e32_1, e32_3, e32_4, e32_8, e32_9, e32_12, e32_15, e32_16, e32_19, e32_21, e32_24, e32_25, e32_28, e32_30, e32_31, e32_34, e32_36, e32_39, e32_40, e32_41, e32_44, e32_45, e32_46, e32_49, e32_50, e32_52, e32_53, e32_55, e32_56, e32_57, e32_60, e32_61, e32_64, e32_67, e32_69, gf_32_2, gf_32_4, gf_32_5, v_row, h5, hlt, g34, g36, hsw, cw, w1, hneg, w2, c, wj, ↓reduceIte, true_and, and_true, false_and, and_false, bindS, tL0, tL1, app0, app1, eq_self, Int.reduceEq, Int.reduceLT, Int.reduceLE, Int.reduceNeg, Int.reduceToNat]
        exact h
      · simp only [if_neg hneg] at h w2
        simp (disch := first | omega | (exact Nat.le_of_ble_eq_true rfl) | assumption | rfl) only [e32_0, e32_1, e32_3, e32_4, e32_8, e32_9, e32_12, e32_15, e32_16, e32_19, e32_21, e32_24, e32_25, e32_28, e32_30, e32_31, e32_34, e32_36, e32_39, e32_40, e32_41, e32_44, e32_45, e32_46, e32_49, e32_50, e32_52, e32_53, e32_55, e32_56, e32_57, e32_60, e32_61, e32_64, e32_67, e32_69, gf_32_2, gf_32_4, gf_32_5, v_row, h5, hlt, g34, g36, hsw, cw, w1, hneg, w2, c, wj, ↓reduceIte, true_and, and_true, false_and, and_false, bindS, tL0, tL1, app0, app1, eq_self, Int.reduceEq, Int.reduceLT, Int.reduceLE, Int.reduceNeg, Int.reduceToNat]
        exact h
end
theorem gcd_loop {L : Nat} : ∀ (m : Nat) (a b : Int) (t : Nat) (l5 : Option PV), 0 ≤ b → b ≤ m → b ≤ 100000 → (0 ≤ a ∧ a ≤ 100000) → t + m ≤ 200000 → ∃ g : Int, (0 ≤ g ∧ g ≤ 100000) ∧ (g = 0 → a = 0 ∧ b = 0) ∧
    (∀ (d : Nat) (l0 l1 : Option PV) (M : PM), ev d 86 7 [l0, l1, some (.inl a), some (.inl b), some (.inl (t : Int)), l5] [] (SH L) M = some (some (.inl g), SH L, M)) ∧
    (∀ (d : Nat) (l0 l1 l2 l3 l4 l7 : Option PV) (M : PM), ∃ l7', ev d 129 84 [l0, l1, l2, l3, l4, some (.inl a), some (.inl b), l7] [] (SH L) M = ev d 129 107 [l0, l1, l2, l3, l4, some (.inl g), some (.inl 0), l7'] [] (SH L) M) := by
  intro m
  induction m with
  | zero =>
    intro a b t l5 h0 h1 h2 h3 ht
    have hb : b = 0 := by omega
    subst hb
    have hle : ¬ (1000000 : Int) ≤ (t : Int) := by omega
    refine ⟨a, h3, fun h => ⟨h, rfl⟩, fun d l0 l1 M => ?_, fun d l0 l1 l2 l3 l4 l7 M => ⟨l7, ?_⟩⟩
    · rw [e86_7]
      simp (disch := first | omega | (exact Nat.le_of_ble_eq_true rfl) | assumption | rfl) only [e86_0, e86_1, e86_2, e86_3, e86_4, e86_5, e86_9, e86_11, e86_14, e86_15, e86_18, e86_19, e86_20, e86_21, e86_23, e86_24, e86_25, e86_27, e86_28, e86_31, e86_34, e86_35, hle, ↓reduceIte, true_and, and_true, false_and, and_false, bindS, tL0, tL1, app0, app1, eq_self, Int.reduceEq, Int.reduceLT, Int.reduceLE, Int.reduceNeg, Int.reduceToNat]
    · rw [e129_84]
      simp (disch := first | omega | (exact Nat.le_of_ble_eq_true rfl) | assumption | rfl) only [e129_0, e129_1, e129_4, e129_7, e129_10, e129_11, e129_12, e129_13, e129_14, e129_17, e129_20, e129_23, e129_24, e129_25, e129_28, e129_29, e129_30, e129_33, e129_36, e129_37, e129_38, e129_39, e129_40, e129_41, e129_44, e129_47, e129_50, e129_51, e129_52, e129_53, e129_56, e129_57, e129_58, e129_61, e129_63, e129_65, e129_68, e129_69, e129_72, e129_75, e129_76, e129_78, e129_79, e129_82, e129_86, e129_89, e129_91, e129_93, e129_94, e129_96, e129_98, e129_100, e129_102, e129_104, e129_108, e129_111, e129_112, e129_115, e129_117, e129_118, e129_119, e129_122, e129_123, e129_126, e129_128, e129_129, e129_130, ↓reduceIte, true_and, and_true, false_and, and_false, bindS, tL0, tL1, app0, app1, eq_self, Int.reduceEq, Int.reduceLT, Int.reduceLE, Int.reduceNeg, Int.reduceToNat]
  | succ m ih =>
    intro a b t l5 h0 h1 h2 h3 ht
    by_cases hb : b = 0
    · subst hb
      have hle : ¬ (1000000 : Int) ≤ (t : Int) := by omega
      refine ⟨a, h3, fun h => ⟨h, rfl⟩, fun d l0 l1 M => ?_, fun d l0 l1 l2 l3 l4 l7 M => ⟨l7, ?_⟩⟩
      · rw [e86_7]
        simp (disch := first | omega | (exact Nat.le_of_ble_eq_true rfl) | assumption | rfl) only [e86_0, e86_1, e86_2, e86_3, e86_4, e86_5, e86_9, e86_11, e86_14, e86_15, e86_18, e86_19, e86_20, e86_21, e86_23, e86_24, e86_25, e86_27, e86_28, e86_31, e86_34, e86_35, hle, ↓reduceIte, true_and, and_true, false_and, and_false, bindS, tL0, tL1, app0, app1, eq_self, Int.reduceEq, Int.reduceLT, Int.reduceLE, Int.reduceNeg, Int.reduceToNat]
      · rw [e129_84]
        simp (disch := first | omega | (exact Nat.le_of_ble_eq_true rfl) | assumption | rfl) only [e129_0, e129_1, e129_4, e129_7, e129_10, e129_11, e129_12, e129_13, e129_14, e129_17, e129_20, e129_23, e129_24, e129_25, e129_28, e129_29, e129_30, e129_33, e129_36, e129_37, e129_38, e129_39, e129_40, e129_41, e129_44, e129_47, e129_50, e129_51, e129_52, e129_53, e129_56, e129_57, e129_58, e129_61, e129_63, e129_65, e129_68, e129_69, e129_72, e129_75, e129_76, e129_78, e129_79, e129_82, e129_86, e129_89, e129_91, e129_93, e129_94, e129_96, e129_98, e129_100, e129_102, e129_104, e129_108, e129_111, e129_112, e129_115, e129_117, e129_118, e129_119, e129_122, e129_123, e129_126, e129_128, e129_129, e129_130, ↓reduceIte, true_and, and_true, false_and, and_false, bindS, tL0, tL1, app0, app1, eq_self, Int.reduceEq, Int.reduceLT, Int.reduceLE, Int.reduceNeg, Int.reduceToNat]
    · have hr := rem_w (a := a) (y := b) h3.1 (by omega) (by omega)
      have q1 := Int.emod_nonneg a hb
      have q2 := Int.emod_lt_of_pos a (b := b) (by omega)
      have hle : ¬ (1000000 : Int) ≤ (t : Int) := by omega
      have hb2 : ¬ b ≤ 0 := by omega
      have wt := wr1 t (by omega)
      obtain ⟨g, g1, g2, g3, g4⟩ := ih b (a % b) (t + 1) (some (.inl (a % b))) q1 (by omega) (by omega) (by omega) (by omega)
      refine ⟨g, g1, fun h => by have := (g2 h).1; omega, fun d l0 l1 M => ?_, fun d l0 l1 l2 l3 l4 l7 M => ?_⟩
      · rw [e86_7]
        simp (disch := first | omega | (exact Nat.le_of_ble_eq_true rfl) | assumption | rfl) only [e86_0, e86_1, e86_2, e86_3, e86_4, e86_5, e86_9, e86_11, e86_14, e86_15, e86_18, e86_19, e86_20, e86_21, e86_23, e86_24, e86_25, e86_27, e86_28, e86_31, e86_34, e86_35, hle, hb, hb2, hr, wt, ↓reduceIte, true_and, and_true, false_and, and_false, bindS, tL0, tL1, app0, app1, eq_self, Int.reduceEq, Int.reduceLT, Int.reduceLE, Int.reduceNeg, Int.reduceToNat]
        exact g3 d l0 l1 M
      · obtain ⟨l7', q⟩ := g4 d l0 l1 l2 l3 l4 (some (.inl (a % b))) M
        refine ⟨l7', ?_⟩
        rw [e129_84]
        simp (disch := first | omega | (exact Nat.le_of_ble_eq_true rfl) | assumption | rfl) only [e129_0, e129_1, e129_4, e129_7, e129_10, e129_11, e129_12, e129_13, e129_14, e129_17, e129_20, e129_23, e129_24, e129_25, e129_28, e129_29, e129_30, e129_33, e129_36, e129_37, e129_38, e129_39, e129_40, e129_41, e129_44, e129_47, e129_50, e129_51, e129_52, e129_53, e129_56, e129_57, e129_58, e129_61, e129_63, e129_65, e129_68, e129_69, e129_72, e129_75, e129_76, e129_78, e129_79, e129_82, e129_86, e129_89, e129_91, e129_93, e129_94, e129_96, e129_98, e129_100, e129_102, e129_104, e129_108, e129_111, e129_112, e129_115, e129_117, e129_118, e129_119, e129_122, e129_123, e129_126, e129_128, e129_129, e129_130, hb, hr, ↓reduceIte, true_and, and_true, false_and, and_false, bindS, tL0, tL1, app0, app1, eq_self, Int.reduceEq, Int.reduceLT, Int.reduceLE, Int.reduceNeg, Int.reduceToNat]
        exact q
theorem op_burns {L : Nat} {K : Int} {M : PM} (h : Inv K M) (hK : K ≤ 100000000) (p w : Int) : ∃ r M1 M2, den 1999 74 [(.inr (.inr (some 1))), .inl p, .inl w] (SH L) M = some (some (.inr (.inl r)), SH L, M1) ∧ M1 0 = M 0 ∧ den 1999 129 [(.inr (.inr (some 63))), .inl p, .inl w] (SH L) M1 = some (some (.inr (.inl r)), SH L, M2) ∧ Inv K M2 := by
  have o1 := io_1 (L := L)
  have o3 := io_3 (L := L)
  have o32 := io_32 (L := L)
  have o37 := io_37 (L := L)
  have o63 := io_63 (L := L)
  have u : ∀ {y}, den 1999 74 [(.inr (.inr (some 1))), .inl p, .inl w] (SH L) M = y ↔ ev 1999 74 0 [some (.inr (.inr (some 1))), some (.inl p), some (.inl w), none, none, none, none] [] (SH L) M = y := by
    intro y
    unfold den
    rw [show ent 74 [(.inr (.inr (some 1))), .inl p, .inl w] = [some (.inr (.inr (some 1))), some (.inl p), some (.inl w), none, none, none, none] from rfl]
  have u2 : ∀ {y} {M : PM}, den 1999 129 [(.inr (.inr (some 63))), .inl p, .inl w] (SH L) M = y ↔ ev 1999 129 0 [some (.inr (.inr (some 63))), some (.inl p), some (.inl w), none, none, none, none, none] [] (SH L) M = y := by
    intro y M
    unfold den
    rw [show ent 129 [(.inr (.inr (some 63))), .inl p, .inl w] = [some (.inr (.inr (some 63))), some (.inl p), some (.inl w), none, none, none, none, none] from rfl]
  by_cases hp : 0 ≤ p ∧ p ≤ 5
  rotate_left
  · exact ⟨-1000000000000000001, M, M, u.mpr (by simp (disch := first | omega | (exact Nat.le_of_ble_eq_true rfl) | assumption | rfl) only [e74_0, e74_1, e74_4, e74_7, e74_10, e74_11, e74_12, e74_13, e74_14, e74_17, e74_20, e74_23, e74_24, e74_25, e74_28, e74_29, e74_30, e74_33, e74_36, e74_37, e74_38, e74_39, e74_40, e74_41, e74_44, e74_47, e74_48, e74_51, e74_54, e74_57, e74_58, e74_60, e74_61, e74_64, e74_65, e74_68, e74_71, e74_74, e74_75, e74_78, e74_79, e74_80, e74_83, e74_84, e74_87, e74_90, e74_92, e74_94, e74_96, e74_99, e74_101, e74_103, e74_106, e74_109, e74_110, e74_111, e74_114, e74_116, e74_119, e74_121, e74_123, e74_124, e74_125, c_person, hp, ↓reduceIte, true_and, and_true, false_and, and_false, bindS, tL0, tL1, app0, app1, eq_self, Int.reduceEq, Int.reduceLT, Int.reduceLE, Int.reduceNeg, Int.reduceToNat]), rfl, u2.mpr (by simp (disch := first | omega | (exact Nat.le_of_ble_eq_true rfl) | assumption | rfl) only [e129_0, e129_1, e129_4, e129_7, e129_10, e129_11, e129_12, e129_13, e129_14, e129_17, e129_20, e129_23, e129_24, e129_25, e129_28, e129_29, e129_30, e129_33, e129_36, e129_37, e129_38, e129_39, e129_40, e129_41, e129_44, e129_47, e129_50, e129_51, e129_52, e129_53, e129_56, e129_57, e129_58, e129_61, e129_63, e129_65, e129_68, e129_69, e129_72, e129_75, e129_76, e129_78, e129_79, e129_82, e129_86, e129_89, e129_91, e129_93, e129_94, e129_96, e129_98, e129_100, e129_102, e129_104, e129_108, e129_111, e129_112, e129_115, e129_117, e129_118, e129_119, e129_122, e129_123, e129_126, e129_128, e129_129, e129_130, c_mperson, hp, ↓reduceIte, true_and, and_true, false_and, and_false, bindS, tL0, tL1, app0, app1, eq_self, Int.reduceEq, Int.reduceLT, Int.reduceLE, Int.reduceNeg, Int.reduceToNat]), h⟩
  by_cases hw : 0 ≤ w ∧ w ≤ 1
  rotate_left
  · exact ⟨-1000000000000000002, M, M, u.mpr (by simp (disch := first | omega | (exact Nat.le_of_ble_eq_true rfl) | assumption | rfl) only [e74_0, e74_1, e74_4, e74_7, e74_10, e74_11, e74_12, e74_13, e74_14, e74_17, e74_20, e74_23, e74_24, e74_25, e74_28, e74_29, e74_30, e74_33, e74_36, e74_37, e74_38, e74_39, e74_40, e74_41, e74_44, e74_47, e74_48, e74_51, e74_54, e74_57, e74_58, e74_60, e74_61, e74_64, e74_65, e74_68, e74_71, e74_74, e74_75, e74_78, e74_79, e74_80, e74_83, e74_84, e74_87, e74_90, e74_92, e74_94, e74_96, e74_99, e74_101, e74_103, e74_106, e74_109, e74_110, e74_111, e74_114, e74_116, e74_119, e74_121, e74_123, e74_124, e74_125, c_person, c_within, hp, hw, ↓reduceIte, true_and, and_true, false_and, and_false, bindS, tL0, tL1, app0, app1, eq_self, Int.reduceEq, Int.reduceLT, Int.reduceLE, Int.reduceNeg, Int.reduceToNat]), rfl, u2.mpr (by simp (disch := first | omega | (exact Nat.le_of_ble_eq_true rfl) | assumption | rfl) only [e129_0, e129_1, e129_4, e129_7, e129_10, e129_11, e129_12, e129_13, e129_14, e129_17, e129_20, e129_23, e129_24, e129_25, e129_28, e129_29, e129_30, e129_33, e129_36, e129_37, e129_38, e129_39, e129_40, e129_41, e129_44, e129_47, e129_50, e129_51, e129_52, e129_53, e129_56, e129_57, e129_58, e129_61, e129_63, e129_65, e129_68, e129_69, e129_72, e129_75, e129_76, e129_78, e129_79, e129_82, e129_86, e129_89, e129_91, e129_93, e129_94, e129_96, e129_98, e129_100, e129_102, e129_104, e129_108, e129_111, e129_112, e129_115, e129_117, e129_118, e129_119, e129_122, e129_123, e129_126, e129_128, e129_129, e129_130, c_mperson, c_in, hp, hw, ↓reduceIte, true_and, and_true, false_and, and_false, bindS, tL0, tL1, app0, app1, eq_self, Int.reduceEq, Int.reduceLT, Int.reduceLE, Int.reduceNeg, Int.reduceToNat]), h⟩
  obtain ⟨v, M1, q1, ⟨hv, hI1, e0, q2⟩ | ⟨rfl, Mt, S, F, D, P, hI, e0, hR, x5, x34, x35, x36, hcan, hM1, bar⟩⟩ := try_bar (L := L) h hK
  · obtain ⟨M2, q2, hI2⟩ := q2 1993
    have q1 := q1 1992
    simp only [Nat.reduceAdd] at q1 q2
    have v0 : ¬ v = 0 := by omega
    have v1 : ¬ 0 ≤ v := by omega
    exact ⟨wl (-1000000000000000000 + v), M1, M2, u.mpr (by simp (disch := first | omega | (exact Nat.le_of_ble_eq_true rfl) | assumption | rfl) only [e74_0, e74_1, e74_4, e74_7, e74_10, e74_11, e74_12, e74_13, e74_14, e74_17, e74_20, e74_23, e74_24, e74_25, e74_28, e74_29, e74_30, e74_33, e74_36, e74_37, e74_38, e74_39, e74_40, e74_41, e74_44, e74_47, e74_48, e74_51, e74_54, e74_57, e74_58, e74_60, e74_61, e74_64, e74_65, e74_68, e74_71, e74_74, e74_75, e74_78, e74_79, e74_80, e74_83, e74_84, e74_87, e74_90, e74_92, e74_94, e74_96, e74_99, e74_101, e74_103, e74_106, e74_109, e74_110, e74_111, e74_114, e74_116, e74_119, e74_121, e74_123, e74_124, e74_125, c_person, c_within, hp, hw, q1, v0, ↓reduceIte, true_and, and_true, false_and, and_false, bindS, tL0, tL1, app0, app1, eq_self, Int.reduceEq, Int.reduceLT, Int.reduceLE, Int.reduceNeg, Int.reduceToNat]), e0, u2.mpr (by simp (disch := first | omega | (exact Nat.le_of_ble_eq_true rfl) | assumption | rfl) only [e129_0, e129_1, e129_4, e129_7, e129_10, e129_11, e129_12, e129_13, e129_14, e129_17, e129_20, e129_23, e129_24, e129_25, e129_28, e129_29, e129_30, e129_33, e129_36, e129_37, e129_38, e129_39, e129_40, e129_41, e129_44, e129_47, e129_50, e129_51, e129_52, e129_53, e129_56, e129_57, e129_58, e129_61, e129_63, e129_65, e129_68, e129_69, e129_72, e129_75, e129_76, e129_78, e129_79, e129_82, e129_86, e129_89, e129_91, e129_93, e129_94, e129_96, e129_98, e129_100, e129_102, e129_104, e129_108, e129_111, e129_112, e129_115, e129_117, e129_118, e129_119, e129_122, e129_123, e129_126, e129_128, e129_129, e129_130, c_mperson, c_in, hp, hw, q2, v1, ↓reduceIte, true_and, and_true, false_and, and_false, bindS, tL0, tL1, app0, app1, eq_self, Int.reduceEq, Int.reduceLT, Int.reduceLE, Int.reduceNeg, Int.reduceToNat]), hI2⟩
  have ho := RD_ok (pe := Mt 62) hR (fun i hi => absurd hi (Nat.not_lt_zero i))
  have h6 := RD_lt6 hR
  have hP := (RD_x hR).2.1
  have t1 := hI.2.2.2.1.1
  obtain ⟨gb, tb⟩ := GA_K hI hK ho (by omega)
  have hT := tri_t hI
  have bb := hI.1.1.2.1
  have bf := hI.1.1.2.2.1
  have r1 : ∀ b, b ≠ 37 → b ≠ 38 → M1 b = Mt b := fun b x y => by rw [hM1, tri_m x y]
  have c1 := v_time (L := L) (M := tri Mt) (d := 1998) (G := GA (Mt 63 0) (Mt 63 1) (Mt 62) S F D (tri Mt 38) P) (T := Mt 3 1 + TA D P)
  have c2 := c_time (M := M1) (d := 1998) (vl_3 (L := L))
  rw [r1 3 (by decide) (by decide)] at c2
  rw [← hM1] at c1
  have wt : wr (Mt 3 1 + TA D P - Mt 3 1) = TA D P := by rw [wr_id (by omega) (by omega)]; omega
  have cT := c_trial (d := 1997) (L := L) (M := M1)
  -- the trial valley once more
  have hI1 : Inv K M1 := Inv_same hI (by rw [hM1]; exact Same_tri.trans Same_v37) (by rw [r1 63 (by decide) (by decide)]; exact hI.2.2.2.2.2)
  have hT1 := tri_t hI1
  have rsl := rs_loop (d := 1994) (L := L) (P := P) (MT := tri M1) (b := Mt 63 0) (f := Mt 63 1) (w := p) (pe := Mt 62) (S := S) (F := F) (D := D) (G0 := tri M1 38) (T0 := M1 3 1) (B := K) (by omega) (by rw [tri_row (by decide) (by decide), r1 32 (by decide) (by decide)]; exact x5) ((tri_b hI1).trans (by rw [r1 63 (by decide) (by decide)])) (tri_3.trans (hI1.1.2.2.2.1.trans (by rw [r1 63 (by decide) (by decide)]))) bb bf (by rw [tri_row (by decide) (by decide), r1 62 (by decide) (by decide)]) (by rw [tri_row (by decide) (by decide), r1 34 (by decide) (by decide)]; exact x34) (by rw [tri_row (by decide) (by decide), r1 35 (by decide) (by decide)]; exact x35) (by rw [tri_row (by decide) (by decide), r1 36 (by decide) (by decide)]; exact x36) ho h6 (by omega) (by omega) ((tri_B hI1).eq (tri_E hI1)) hp
  have hE1 : EqG (tri M1 38) (tri Mt 38) := ((tri_E hI1).tr EqG.fil).tr (by rw [r1 64 (by decide) (by decide)]; exact (((tri_E hI).tr EqG.fil).sym))
  have rsl := rsl (fun i hi => by rw [canA_E ho hE1 i hi]; exact hcan i hi) P 0 (by omega)
  rw [show TA D 0 = 0 from rfl, Int.add_zero, show CA p (Mt 63 0) (Mt 63 1) (Mt 62) S F D (tri M1 38) 0 = 0 from rfl, show GA (Mt 63 0) (Mt 63 1) (Mt 62) S F D (tri M1 38) 0 = tri M1 38 from rfl, tri_self, CA_E (by omega) ho hE1 P (Nat.le_refl _)] at rsl
  have hCA := CA_b (w := p) (b := Mt 63 0) (f := Mt 63 1) (G0 := tri Mt 38) ho P (Nat.le_refl _)
  have hCT := CA_le (w := p) (b := Mt 63 0) (f := Mt 63 1) (G0 := tri Mt 38) ho P (Nat.le_refl _)
  generalize hM2 : vset (tri M1) 37 _ _ = M2 at rsl
  have r2 : ∀ b, b ≠ 37 → b ≠ 38 → M2 b = Mt b := fun b x y => by rw [← hM2, tri_m x y, r1 b x y]
  have crs : den 1998 32 [(.inr (.inr (some 32))), .inl p, (.inr (.inr (some 37))), (.inr (.inr (some 62)))] (SH L) (tri M1) = some (some (.inl (CA p (Mt 63 0) (Mt 63 1) (Mt 62) S F D (tri Mt 38) P)), SH L, M2) := by
    unfold den
    rw [show ent 32 [(.inr (.inr (some 32))), .inl p, (.inr (.inr (some 37))), (.inr (.inr (some 62)))] = [some (.inr (.inr (some 32))), some (.inl p), some (.inr (.inr (some 37))), some (.inr (.inr (some 62))), none, none] from rfl]
    simp (disch := first | omega | (exact Nat.le_of_ble_eq_true rfl) | assumption | rfl) only [e32_0, e32_1, e32_3, e32_4, e32_8, e32_9, e32_12, e32_15, e32_16, e32_19, e32_21, e32_24, e32_25, e32_28, e32_30, e32_31, e32_34, e32_36, e32_39, e32_40, e32_41, e32_44, e32_45, e32_46, e32_49, e32_50, e32_52, e32_53, e32_55, e32_56, e32_57, e32_60, e32_61, e32_64, e32_67, e32_69, ↓reduceIte, true_and, and_true, false_and, and_false, bindS, tL0, tL1, app0, app1, eq_self, Int.reduceEq, Int.reduceLT, Int.reduceLE, Int.reduceNeg, Int.reduceToNat]
    exact rsl
  have hsame : Same Mt M2 := by
    rw [← hM2]
    exact Same.trans (M' := M1) (by rw [hM1]; exact Same_tri.trans Same_v37) (Same_tri.trans Same_v37)
  obtain ⟨c, r', G', hE, q2⟩ := bar 1993 M2 (r2 63 (by decide) (by decide)) (r2 64 (by decide) (by decide)) (r2 67 (by decide) (by decide))
  have q1 := q1 1992
  simp only [Nat.reduceAdd] at q1 q2
  generalize hN : gset (setC M2 63 12 (-6)) G' (TA D P) c r' = N at q2
  have n11 : N 63 11 = TA D P := by rw [← hN, gs_11]
  have nr : ∀ b, b ≠ 63 → b ≠ 68 → N b = M2 b := fun b x y => by rw [← hN, gs_row x y, setC_row x]
  have n63 : ∀ j', j' ≠ 11 → j' ≠ 12 → j' ≠ 13 → j' ≠ 14 → N 63 j' = Mt 63 j' := fun j' x1 x2 x3 x4 => by rw [← hN, gs_m x1 x3 x4, setC_i x2, r2 63 (by decide) (by decide)]
  have hNS : Same Mt N := by
    rw [← hN]
    exact (hsame.trans (M'' := setC M2 63 12 (-6)) ⟨fun b hb => setC_row (by omega), by rw [setC_row (by decide)], fun j hj => setC_i (by omega)⟩).trans Same_gs
  have hNI : Inv K N := Inv_same hI hNS (by rw [← hN, gs_m (by decide) (by decide) (by decide), setC_s]; decide)
  generalize hreq : CA p (Mt 63 0) (Mt 63 1) (Mt 62) S F D (tri Mt 38) P = rd at *
  obtain ⟨g, g1, g2, g3, g4⟩ := gcd_loop (L := L) 100000 rd (TA D P) 0 none (by omega) (by omega) (by omega) (by omega) (by omega)
  have cg : den 1998 86 [.inl rd, .inl (TA D P)] (SH L) M2 = some (some (.inl g), SH L, M2) := by
    have := g3 1998 (some (.inl rd)) (some (.inl (TA D P))) M2
    unfold den
    rw [show ent 86 [.inl rd, .inl (TA D P)] = [some (.inl rd), some (.inl (TA D P)), none, none, none, none] from rfl]
    simp (disch := first | omega | (exact Nat.le_of_ble_eq_true rfl) | assumption | rfl) only [e86_0, e86_1, e86_2, e86_3, e86_4, e86_5, e86_9, e86_11, e86_14, e86_15, e86_18, e86_19, e86_20, e86_21, e86_23, e86_24, e86_25, e86_27, e86_28, e86_31, e86_34, e86_35, ↓reduceIte, true_and, and_true, false_and, and_false, bindS, tL0, tL1, app0, app1, eq_self, Int.reduceEq, Int.reduceLT, Int.reduceLE, Int.reduceNeg, Int.reduceToNat]
    exact this
  by_cases hz : TA D P = 0
  · have hg0 : ¬ 0 < g := by
      have := gcd_loop (L := L) 0 rd 0 0 none (by omega) (by omega) (by omega) (by omega) (by omega)
      obtain ⟨g', -, -, e3, -⟩ := this
      have e := g3 1998 none none M2
      have e' := e3 1998 none none M2
      have hrd : rd = 0 := by omega
      have hle : ¬ (1000000 : Int) ≤ ((0 : Nat) : Int) := by decide
      rw [hz, e86_7] at e
      simp (disch := first | omega | (exact Nat.le_of_ble_eq_true rfl) | assumption | rfl) only [e86_0, e86_1, e86_2, e86_3, e86_4, e86_5, e86_9, e86_11, e86_14, e86_15, e86_18, e86_19, e86_20, e86_21, e86_23, e86_24, e86_25, e86_27, e86_28, e86_31, e86_34, e86_35, hle, hrd, ↓reduceIte, true_and, and_true, false_and, and_false, bindS, tL0, tL1, app0, app1, eq_self, Int.reduceEq, Int.reduceLT, Int.reduceLE, Int.reduceNeg, Int.reduceToNat] at e
      simp only [Option.some.injEq, Prod.mk.injEq, Sum.inl.injEq] at e
      omega
    refine ⟨-1000000000000000004, M2, N, u.mpr ?_, by rw [r2 0 (by decide) (by decide), e0], u2.mpr ?_, hNI⟩
    · simp (disch := first | omega | (exact Nat.le_of_ble_eq_true rfl) | assumption | rfl) only [e74_0, e74_1, e74_4, e74_7, e74_10, e74_11, e74_12, e74_13, e74_14, e74_17, e74_20, e74_23, e74_24, e74_25, e74_28, e74_29, e74_30, e74_33, e74_36, e74_37, e74_38, e74_39, e74_40, e74_41, e74_44, e74_47, e74_48, e74_51, e74_54, e74_57, e74_58, e74_60, e74_61, e74_64, e74_65, e74_68, e74_71, e74_74, e74_75, e74_78, e74_79, e74_80, e74_83, e74_84, e74_87, e74_90, e74_92, e74_94, e74_96, e74_99, e74_101, e74_103, e74_106, e74_109, e74_110, e74_111, e74_114, e74_116, e74_119, e74_121, e74_123, e74_124, e74_125, c_person, c_within, hp, hw, q1, gf_1_0, gf_1_3, gf_1_4, gf_1_6, gf_2_0, c1, c2, wt, cT, crs, cg, hg0, ↓reduceIte, true_and, and_true, false_and, and_false, bindS, tL0, tL1, app0, app1, eq_self, Int.reduceEq, Int.reduceLT, Int.reduceLE, Int.reduceNeg, Int.reduceToNat]
    · simp (disch := first | omega | (exact Nat.le_of_ble_eq_true rfl) | assumption | rfl) only [e129_0, e129_1, e129_4, e129_7, e129_10, e129_11, e129_12, e129_13, e129_14, e129_17, e129_20, e129_23, e129_24, e129_25, e129_28, e129_29, e129_30, e129_33, e129_36, e129_37, e129_38, e129_39, e129_40, e129_41, e129_44, e129_47, e129_50, e129_51, e129_52, e129_53, e129_56, e129_57, e129_58, e129_61, e129_63, e129_65, e129_68, e129_69, e129_72, e129_75, e129_76, e129_78, e129_79, e129_82, e129_86, e129_89, e129_91, e129_93, e129_94, e129_96, e129_98, e129_100, e129_102, e129_104, e129_108, e129_111, e129_112, e129_115, e129_117, e129_118, e129_119, e129_122, e129_123, e129_126, e129_128, e129_129, e129_130, c_mperson, c_in, hp, hw, q2, gf_63_11, n11, hz, ↓reduceIte, true_and, and_true, false_and, and_false, bindS, tL0, tL1, app0, app1, eq_self, Int.reduceEq, Int.reduceLT, Int.reduceLE, Int.reduceNeg, Int.reduceToNat]
  · have hg0 : 0 < g := by
      rcases Int.lt_or_le 0 g with h | h
      · exact h
      · exact absurd (g2 (by omega)).2 hz
    have hgn : ¬ g = 0 := by omega
    -- the reference's second time
    generalize hN2 : setC N 63 12 p = N2
    have n2r : ∀ b, b ≠ 63 → N2 b = N b := fun b x => by rw [← hN2, setC_row x]
    have n2j : ∀ j', j' ≠ 12 → N2 63 j' = N 63 j' := fun j' x => by rw [← hN2, setC_i x]
    have n2w : N2 63 12 = p := by rw [← hN2, setC_s]
    obtain ⟨-, tg⟩ := txt_go (L := L) hI hK hR x5 x34 x35 x36 rfl (fun i hi => absurd hi (Nat.not_lt_zero i))
    obtain ⟨r3, G3, -, q3⟩ := tg 1995 N2 0 (by rw [n2r 64 (by decide), nr 64 (by decide) (by decide), r2 64 (by decide) (by decide)]) (by rw [n2r 67 (by decide), nr 67 (by decide) (by decide), r2 67 (by decide) (by decide)]) (by rw [n2j 0 (by decide), n63 0 (by decide) (by decide) (by decide) (by decide)]) (by rw [n2j 1 (by decide), n63 1 (by decide) (by decide) (by decide) (by decide)]) (by rw [n2j 8 (by decide), n63 8 (by decide) (by decide) (by decide) (by decide)]) (by omega) (by decide) (fun i hi => absurd hi (Nat.not_lt_zero i))
    have hfb : fb (canA (Mt 63 0) (Mt 63 1) (Mt 62) S F D (tri Mt 38)) P 0 = -6 ∧ sp (canA (Mt 63 0) (Mt 63 1) (Mt 62) S F D (tri Mt 38)) P 0 = P := by
      have e := fb_congr (c := canA (Mt 63 0) (Mt 63 1) (Mt 62) S F D (tri Mt 38)) (c' := fun _ => true) P 0 (fun i hi => hcan i (by omega))
      have e2 : ∀ k j, fb (fun _ => true) k j = -6 ∧ sp (fun _ => true) k j = j + k := by
        intro k
        induction k with
        | zero => intro j; exact ⟨rfl, rfl⟩
        | succ k ih =>
          intro j
          have := ih (j + 1)
          unfold fb sp
          rw [if_pos rfl, if_pos rfl]
          exact ⟨this.1, by rw [this.2]; omega⟩
      rw [e.1, e.2, (e2 P 0).1, (e2 P 0).2]
      exact ⟨rfl, by omega⟩
    rw [hfb.1, hfb.2, n2w, hreq] at q3
    generalize hN3 : gset N2 G3 (TA D P) rd r3 = N3 at q3
    have n311 : N3 63 11 = TA D P := by rw [← hN3, gs_11]
    have n313 : N3 63 13 = rd := by rw [← hN3, gs_13]
    have hN3I : Inv K N3 := by
      refine Inv_same hNI ?_ ?_
      · rw [← hN3]
        exact Same.trans (M' := N2) (by rw [← hN2]; exact ⟨fun b hb => setC_row (by omega), by rw [setC_row (by decide)], fun j hj => setC_i (by omega)⟩) Same_gs
      · rw [← hN3, gs_m (by decide) (by decide) (by decide), n2w]; omega
    have g4 := fun l7 => g4 1999 (some (.inr (.inr (some 63)))) (some (.inl p)) (some (.inl w)) (some (.inl 0)) (some (.inl (-6))) l7 N3
    obtain ⟨l7', g4⟩ := g4 none
    simp only [Nat.reduceAdd] at q3
    refine ⟨wr ((if w = 0 then rd else TA D P).tdiv g), M2, N3, u.mpr ?_, by rw [r2 0 (by decide) (by decide), e0], u2.mpr ?_, hN3I⟩
    · by_cases hw0 : w = 0
      · simp (disch := first | omega | (exact Nat.le_of_ble_eq_true rfl) | assumption | rfl) only [e74_0, e74_1, e74_4, e74_7, e74_10, e74_11, e74_12, e74_13, e74_14, e74_17, e74_20, e74_23, e74_24, e74_25, e74_28, e74_29, e74_30, e74_33, e74_36, e74_37, e74_38, e74_39, e74_40, e74_41, e74_44, e74_47, e74_48, e74_51, e74_54, e74_57, e74_58, e74_60, e74_61, e74_64, e74_65, e74_68, e74_71, e74_74, e74_75, e74_78, e74_79, e74_80, e74_83, e74_84, e74_87, e74_90, e74_92, e74_94, e74_96, e74_99, e74_101, e74_103, e74_106, e74_109, e74_110, e74_111, e74_114, e74_116, e74_119, e74_121, e74_123, e74_124, e74_125, c_person, c_within, hp, hw, hw0, q1, gf_1_0, gf_1_3, gf_1_4, gf_1_6, gf_2_0, c1, c2, wt, cT, crs, cg, hg0, hgn, ↓reduceIte, true_and, and_true, false_and, and_false, bindS, tL0, tL1, app0, app1, eq_self, Int.reduceEq, Int.reduceLT, Int.reduceLE, Int.reduceNeg, Int.reduceToNat]
      · simp (disch := first | omega | (exact Nat.le_of_ble_eq_true rfl) | assumption | rfl) only [e74_0, e74_1, e74_4, e74_7, e74_10, e74_11, e74_12, e74_13, e74_14, e74_17, e74_20, e74_23, e74_24, e74_25, e74_28, e74_29, e74_30, e74_33, e74_36, e74_37, e74_38, e74_39, e74_40, e74_41, e74_44, e74_47, e74_48, e74_51, e74_54, e74_57, e74_58, e74_60, e74_61, e74_64, e74_65, e74_68, e74_71, e74_74, e74_75, e74_78, e74_79, e74_80, e74_83, e74_84, e74_87, e74_90, e74_92, e74_94, e74_96, e74_99, e74_101, e74_103, e74_106, e74_109, e74_110, e74_111, e74_114, e74_116, e74_119, e74_121, e74_123, e74_124, e74_125, c_person, c_within, hp, hw, hw0, q1, gf_1_0, gf_1_3, gf_1_4, gf_1_6, gf_2_0, c1, c2, wt, cT, crs, cg, hg0, hgn, ↓reduceIte, true_and, and_true, false_and, and_false, bindS, tL0, tL1, app0, app1, eq_self, Int.reduceEq, Int.reduceLT, Int.reduceLE, Int.reduceNeg, Int.reduceToNat]
    · by_cases hw0 : w = 0
      · simp (disch := first | omega | (exact Nat.le_of_ble_eq_true rfl) | assumption | rfl) only [e129_0, e129_1, e129_4, e129_7, e129_10, e129_11, e129_12, e129_13, e129_14, e129_17, e129_20, e129_23, e129_24, e129_25, e129_28, e129_29, e129_30, e129_33, e129_36, e129_37, e129_38, e129_39, e129_40, e129_41, e129_44, e129_47, e129_50, e129_51, e129_52, e129_53, e129_56, e129_57, e129_58, e129_61, e129_63, e129_65, e129_68, e129_69, e129_72, e129_75, e129_76, e129_78, e129_79, e129_82, e129_86, e129_89, e129_91, e129_93, e129_94, e129_96, e129_98, e129_100, e129_102, e129_104, e129_108, e129_111, e129_112, e129_115, e129_117, e129_118, e129_119, e129_122, e129_123, e129_126, e129_128, e129_129, e129_130, c_mperson, c_in, hp, hw, q2, gf_63_11, gf_63_13, n11, hz, pi_63_12, hN2, q3, n311, n313, ↓reduceIte, true_and, and_true, false_and, and_false, bindS, tL0, tL1, app0, app1, eq_self, Int.reduceEq, Int.reduceLT, Int.reduceLE, Int.reduceNeg, Int.reduceToNat]
        rw [g4]
        simp (disch := first | omega | (exact Nat.le_of_ble_eq_true rfl) | assumption | rfl) only [e129_0, e129_1, e129_4, e129_7, e129_10, e129_11, e129_12, e129_13, e129_14, e129_17, e129_20, e129_23, e129_24, e129_25, e129_28, e129_29, e129_30, e129_33, e129_36, e129_37, e129_38, e129_39, e129_40, e129_41, e129_44, e129_47, e129_50, e129_51, e129_52, e129_53, e129_56, e129_57, e129_58, e129_61, e129_63, e129_65, e129_68, e129_69, e129_72, e129_75, e129_76, e129_78, e129_79, e129_82, e129_86, e129_89, e129_91, e129_93, e129_94, e129_96, e129_98, e129_100, e129_102, e129_104, e129_107, e129_108, e129_111, e129_112, e129_115, e129_117, e129_118, e129_119, e129_122, e129_123, e129_126, e129_128, e129_129, e129_130, gf_63_11, gf_63_13, n311, n313, hw0, hgn, ↓reduceIte, true_and, and_true, false_and, and_false, bindS, tL0, tL1, app0, app1, eq_self, Int.reduceEq, Int.reduceLT, Int.reduceLE, Int.reduceNeg, Int.reduceToNat]
      · simp (disch := first | omega | (exact Nat.le_of_ble_eq_true rfl) | assumption | rfl) only [e129_0, e129_1, e129_4, e129_7, e129_10, e129_11, e129_12, e129_13, e129_14, e129_17, e129_20, e129_23, e129_24, e129_25, e129_28, e129_29, e129_30, e129_33, e129_36, e129_37, e129_38, e129_39, e129_40, e129_41, e129_44, e129_47, e129_50, e129_51, e129_52, e129_53, e129_56, e129_57, e129_58, e129_61, e129_63, e129_65, e129_68, e129_69, e129_72, e129_75, e129_76, e129_78, e129_79, e129_82, e129_86, e129_89, e129_91, e129_93, e129_94, e129_96, e129_98, e129_100, e129_102, e129_104, e129_108, e129_111, e129_112, e129_115, e129_117, e129_118, e129_119, e129_122, e129_123, e129_126, e129_128, e129_129, e129_130, c_mperson, c_in, hp, hw, q2, gf_63_11, gf_63_13, n11, hz, pi_63_12, hN2, q3, n311, n313, ↓reduceIte, true_and, and_true, false_and, and_false, bindS, tL0, tL1, app0, app1, eq_self, Int.reduceEq, Int.reduceLT, Int.reduceLE, Int.reduceNeg, Int.reduceToNat]
        rw [g4]
        simp (disch := first | omega | (exact Nat.le_of_ble_eq_true rfl) | assumption | rfl) only [e129_0, e129_1, e129_4, e129_7, e129_10, e129_11, e129_12, e129_13, e129_14, e129_17, e129_20, e129_23, e129_24, e129_25, e129_28, e129_29, e129_30, e129_33, e129_36, e129_37, e129_38, e129_39, e129_40, e129_41, e129_44, e129_47, e129_50, e129_51, e129_52, e129_53, e129_56, e129_57, e129_58, e129_61, e129_63, e129_65, e129_68, e129_69, e129_72, e129_75, e129_76, e129_78, e129_79, e129_82, e129_86, e129_89, e129_91, e129_93, e129_94, e129_96, e129_98, e129_100, e129_102, e129_104, e129_107, e129_108, e129_111, e129_112, e129_115, e129_117, e129_118, e129_119, e129_122, e129_123, e129_126, e129_128, e129_129, e129_130, gf_63_11, gf_63_13, n311, n313, hw0, hgn, ↓reduceIte, true_and, and_true, false_and, and_false, bindS, tL0, tL1, app0, app1, eq_self, Int.reduceEq, Int.reduceLT, Int.reduceLE, Int.reduceNeg, Int.reduceToNat]
