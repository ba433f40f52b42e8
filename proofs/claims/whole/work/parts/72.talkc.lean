/-! the class's search: small methods -/
/-- the class's talk holds tk, n sayings -/
def CT (M : PM) (tk : Nat → Int) (n : Nat) : Prop := M 5 3 = (n : Int) ∧ ∀ i, i < 7 → M 6 i = tk (3 * i) ∧ M 7 i = tk (3 * i + 1) ∧ M 8 i = tk (3 * i + 2)
section
variable {d L n i j : Nat} {M : PM} {tk : Nat → Int}
theorem c_sp (h : CT M tk n) (hi : i < 7) : den (d + 1) 18 [(.inr (.inr (some 5))), .inl (i : Int)] (SH L) M = some (some (.inl (tk (3 * i))), SH L, M) := by
  have g := c_at_in (M := M) (d := d) (ar_6 (L := L)) (i := (i : Int)) (by omega) (by omega)
  rw [tnN, (h.2 i hi).1] at g
  unfold den
  rw [show ent 18 [(.inr (.inr (some 5))), .inl (i : Int)] = [some (.inr (.inr (some 5))), some (.inl (i : Int))] from rfl]
  simp (disch := first | omega | (exact Nat.le_of_ble_eq_true rfl) | assumption | rfl) only [e18_0, e18_1, e18_4, e18_5, e18_8, gf_5_0, g, ↓reduceIte, true_and, and_true, false_and, and_false, bindS, tL0, tL1, app0, app1, eq_self, Int.reduceEq, Int.reduceLT, Int.reduceLE, Int.reduceNeg, Int.reduceToNat]
theorem c_du (h : CT M tk n) (hi : i < 7) : den (d + 1) 19 [(.inr (.inr (some 5))), .inl (i : Int)] (SH L) M = some (some (.inl (duT tk i)), SH L, M) := by
  have g := c_at_in (M := M) (d := d) (ar_7 (L := L)) (i := (i : Int)) (by omega) (by omega)
  rw [tnN, (h.2 i hi).2.1] at g
  unfold den
  rw [show ent 19 [(.inr (.inr (some 5))), .inl (i : Int)] = [some (.inr (.inr (some 5))), some (.inl (i : Int))] from rfl]
  simp (disch := first | omega | (exact Nat.le_of_ble_eq_true rfl) | assumption | rfl) only [e19_0, e19_1, e19_4, e19_5, e19_8, gf_5_1, g, ↓reduceIte, true_and, and_true, false_and, and_false, bindS, tL0, tL1, app0, app1, eq_self, Int.reduceEq, Int.reduceLT, Int.reduceLE, Int.reduceNeg, Int.reduceToNat]
  rfl
theorem c_ah (h : CT M tk n) (hi : i < 7) : den (d + 1) 20 [(.inr (.inr (some 5))), .inl (i : Int)] (SH L) M = some (some (.inl (ahT tk i)), SH L, M) := by
  have g := c_at_in (M := M) (d := d) (ar_8 (L := L)) (i := (i : Int)) (by omega) (by omega)
  rw [tnN, (h.2 i hi).2.2] at g
  unfold den
  rw [show ent 20 [(.inr (.inr (some 5))), .inl (i : Int)] = [some (.inr (.inr (some 5))), some (.inl (i : Int))] from rfl]
  simp (disch := first | omega | (exact Nat.le_of_ble_eq_true rfl) | assumption | rfl) only [e20_0, e20_1, e20_4, e20_5, e20_8, gf_5_2, g, ↓reduceIte, true_and, and_true, false_and, and_false, bindS, tL0, tL1, app0, app1, eq_self, Int.reduceEq, Int.reduceLT, Int.reduceLE, Int.reduceNeg, Int.reduceToNat]
  rfl
theorem c_cnt (h : CT M tk n) : den d 17 [(.inr (.inr (some 5)))] (SH L) M = some (some (.inl (n : Int)), SH L, M) := by
  have g := g5_3 (d := d) (L := L) (M := M)
  rw [h.1] at g
  exact g
theorem vlj (hj : j < 8) : VL (SH L) (46 + 2 * j) := by
  have h : j = 0 ∨ j = 1 ∨ j = 2 ∨ j = 3 ∨ j = 4 ∨ j = 5 ∨ j = 6 ∨ j = 7 := by omega
  rcases h with rfl | rfl | rfl | rfl | rfl | rfl | rfl | rfl
  · exact vl_46
  · exact vl_48
  · exact vl_50
  · exact vl_52
  · exact vl_54
  · exact vl_56
  · exact vl_58
  · exact vl_60
theorem rg_40 (hj : j < 8) : rget (SH L) 40 (j : Int) = some (.inr (.inr (some (46 + 2 * j)))) := by
  have h : j = 0 ∨ j = 1 ∨ j = 2 ∨ j = 3 ∨ j = 4 ∨ j = 5 ∨ j = 6 ∨ j = 7 := by omega
  rcases h with rfl | rfl | rfl | rfl | rfl | rfl | rfl | rfl <;> rfl
theorem al_40 : alen (SH L) 40 = some (.inl 8) := rfl
theorem c_valleyAt (hj : j < 8) : den d 7 [(.inr (.inr (some 39))), .inl (j : Int)] (SH L) M = some (some (.inr (.inr (some (46 + 2 * j)))), SH L, M) := by
  have h0 : ¬ (j : Int) < 0 := by omega
  have h8 : ¬ (8 : Int) ≤ (j : Int) := by omega
  unfold den
  rw [show ent 7 [(.inr (.inr (some 39))), .inl (j : Int)] = [some (.inr (.inr (some 39))), some (.inl (j : Int))] from rfl]
  simp (disch := first | omega | (exact Nat.le_of_ble_eq_true rfl) | assumption | rfl) only [e7_0, e7_1, e7_4, e7_5, e7_6, e7_9, e7_10, e7_13, e7_14, e7_17, e7_18, e7_19, e7_22, e7_23, gf_39_0, al_40, rg_40 hj, h0, h8, ↓reduceIte, true_and, and_true, false_and, and_false, bindS, tL0, tL1, app0, app1, eq_self, Int.reduceEq, Int.reduceLT, Int.reduceLE, Int.reduceNeg, Int.reduceToNat]
theorem c_may {pre : List Nat} (h : CT M tk n) (ht : TKo tk n) (hn : n ≤ 7) (hi : i < n) (h41 : ∀ q, q < 7 → M 41 q = inU pre q) : den (d + 2) 8 [(.inr (.inr (some 39))), (.inr (.inr (some 5))), .inl (i : Int)] (SH L) M = some (some (.inl (if meL i pre = false ∧ okY tk pre i = true then 1 else 0)), SH L, M) := by
  have o5 := io_5 (L := L)
  have ha := (ht i hi).2.2
  have ca := c_ah (d := d) (L := L) h (i := i) (by omega)
  have g1 := c_at_in (M := M) (d := d + 1) (ar_41 (L := L)) (i := (i : Int)) (by omega) (by omega)
  rw [tnN, h41 i (by omega)] at g1
  have u : inU pre i = if meL i pre = true then 1 else 0 := rfl
  unfold den
  rw [show ent 8 [(.inr (.inr (some 39))), (.inr (.inr (some 5))), .inl (i : Int)] = [some (.inr (.inr (some 39))), some (.inr (.inr (some 5))), some (.inl (i : Int)), none] from rfl]
  by_cases hm : meL i pre = true
  · rw [if_pos hm] at u
    rw [u] at g1
    rw [if_neg (fun z => by rw [hm] at z; exact absurd z.1 (by decide))]
    simp (disch := first | omega | (exact Nat.le_of_ble_eq_true rfl) | assumption | rfl) only [e8_0, e8_1, e8_2, e8_5, e8_6, e8_7, e8_10, e8_11, e8_14, e8_17, e8_18, e8_19, e8_22, e8_23, e8_26, e8_27, e8_30, e8_31, e8_34, e8_35, e8_38, e8_39z, e8_39o, e8_39, gf_39_1, ca, g1, ↓reduceIte, true_and, and_true, false_and, and_false, bindS, tL0, tL1, app0, app1, eq_self, Int.reduceEq, Int.reduceLT, Int.reduceLE, Int.reduceNeg, Int.reduceToNat]
  · rw [if_neg hm] at u
    rw [u] at g1
    have hmf : meL i pre = false := by simpa using hm
    by_cases h1 : ahT tk i = -1
    · have e : okY tk pre i = true := by unfold okY; rw [h1]; rfl
      rw [if_pos ⟨hmf, e⟩]
      simp (disch := first | omega | (exact Nat.le_of_ble_eq_true rfl) | assumption | rfl) only [e8_0, e8_1, e8_2, e8_5, e8_6, e8_7, e8_10, e8_11, e8_14, e8_17, e8_18, e8_19, e8_22, e8_23, e8_26, e8_27, e8_30, e8_31, e8_34, e8_35, e8_38, e8_39z, e8_39o, e8_39, gf_39_1, ca, g1, h1, ↓reduceIte, true_and, and_true, false_and, and_false, bindS, tL0, tL1, app0, app1, eq_self, Int.reduceEq, Int.reduceLT, Int.reduceLE, Int.reduceNeg, Int.reduceToNat]
    · have g2 := c_at_in (M := M) (d := d + 1) (ar_41 (L := L)) (i := ahT tk i) (by omega) (by omega)
      rw [h41 _ (by omega)] at g2
      have u2 : inU pre (ahT tk i).toNat = if meL (ahT tk i).toNat pre = true then 1 else 0 := rfl
      have e : okY tk pre i = meL (ahT tk i).toNat pre := by unfold okY; rw [decide_eq_false (by omega)]; rfl
      by_cases h2 : meL (ahT tk i).toNat pre = true
      · rw [if_pos h2] at u2
        rw [u2] at g2
        rw [if_pos ⟨hmf, e.trans h2⟩]
        simp (disch := first | omega | (exact Nat.le_of_ble_eq_true rfl) | assumption | rfl) only [e8_0, e8_1, e8_2, e8_5, e8_6, e8_7, e8_10, e8_11, e8_14, e8_17, e8_18, e8_19, e8_22, e8_23, e8_26, e8_27, e8_30, e8_31, e8_34, e8_35, e8_38, e8_39z, e8_39o, e8_39, gf_39_1, ca, g1, g2, h1, ↓reduceIte, true_and, and_true, false_and, and_false, bindS, tL0, tL1, app0, app1, eq_self, Int.reduceEq, Int.reduceLT, Int.reduceLE, Int.reduceNeg, Int.reduceToNat]
      · rw [if_neg h2] at u2
        rw [u2] at g2
        rw [if_neg (fun z => h2 (by rw [← e]; exact z.2))]
        simp (disch := first | omega | (exact Nat.le_of_ble_eq_true rfl) | assumption | rfl) only [e8_0, e8_1, e8_2, e8_5, e8_6, e8_7, e8_10, e8_11, e8_14, e8_17, e8_18, e8_19, e8_22, e8_23, e8_26, e8_27, e8_30, e8_31, e8_34, e8_35, e8_38, e8_39z, e8_39o, e8_39, gf_39_1, ca, g1, g2, h1, ↓reduceIte, true_and, and_true, false_and, and_false, bindS, tL0, tL1, app0, app1, eq_self, Int.reduceEq, Int.reduceLT, Int.reduceLE, Int.reduceNeg, Int.reduceToNat]
end
def lset (M : PM) (f g : Nat → Int) : PM := setR (setR M 44 f) 45 g
section
variable {M : PM} {f g : Nat → Int} {a i : Nat} {v : Int}
theorem ls_44 : lset M f g 44 = f := by unfold lset; rw [setR_row (by decide), setR_s]
theorem ls_45 : lset M f g 45 = g := by unfold lset; rw [setR_s]
theorem ls_row (h : a < 44 ∨ 45 < a) : lset M f g a = M a := by unfold lset; rw [setR_row (by omega), setR_row (by omega)]
theorem ls_p44 : setC (lset M f g) 44 i v = lset M (up f i v) g := by
  funext b j
  simp only [lset, setC, setR, up]
  by_cases hb : b = 44
  · subst hb; simp
  · simp [hb]
theorem ls_p45 : setC (lset M f g) 45 i v = lset M f (up g i v) := by
  funext b j
  simp only [lset, setC, setR, up]
  by_cases hb : b = 45
  · subst hb; simp
  · simp [hb]
theorem ls_self : lset M (M 44) (M 45) = M := by unfold lset; rw [setR_same, setR_same]
end
section
variable {d L n : Nat} {M : PM} {tk U : Nat → Int} {v : Nat} {l3 l4 l5 l6 : Option PV}
theorem lt_loop1 : ∀ (k i : Nat) (f g : Nat → Int), i + k = 6 → (∀ p, p < i → f p = 0 ∧ g p = 0) → ∃ f' g', (∀ p, p < 6 → f' p = 0 ∧ g' p = 0) ∧
    ev (d + 1) 9 2 [some (.inr (.inr (some 39))), some (.inr (.inr (some 5))), some (.inr (.inr (some v))), some (.inl (i : Int)), l4, l5, l6] [] (SH L) (lset M f g) = ev (d + 1) 9 32 [some (.inr (.inr (some 39))), some (.inr (.inr (some 5))), some (.inr (.inr (some v))), some (.inl 6), l4, l5, l6] [] (SH L) (lset M f' g') := by
  intro k
  induction k with
  | zero =>
    intro i f g hi h
    have hi : i = 6 := by omega
    subst hi
    refine ⟨f, g, h, ?_⟩
    rw [e9_2]
    simp only [e9_0, e9_1, e9_3, e9_5, e9_8, e9_9, e9_12, e9_13, e9_14, e9_17, e9_18, e9_21, e9_22, e9_23, e9_26, e9_29, e9_33, e9_34, e9_35, e9_37, e9_39, e9_40, e9_43, e9_46, e9_47, e9_50, e9_52, e9_55, e9_58, e9_59, e9_61, e9_64, e9_66, e9_67, e9_69, e9_72, e9_74, e9_75, e9_78, e9_80, e9_81, e9_84, e9_86, e9_89, e9_91, e9_92, e9_95, e9_96, e9_99, e9_101, e9_102, e9_105, e9_107, e9_110, e9_112, e9_115, e9_118, e9_119, e9_121, e9_122, e9_123, e9_126, e9_129, e9_130, e9_132, e9_134, e9_136, e9_139, e9_140, e9_143, e9_145, e9_148, e9_151, e9_152, e9_154, e9_157, e9_158, e9_161, e9_163, e9_166, e9_167, e9_168, e9_171, e9_173, e9_176, e9_177, e9_179, e9_180, e9_181, e9_184, e9_186, e9_189, e9_191, e9_192, e9_195, e9_196, e9_199, e9_200, e9_203, e9_206, e9_207, e9_210, e9_211, e9_214, e9_215, e9_216, e9_217]
    rw [if_pos (by decide)]
    rfl
  | succ k ih =>
    intro i f g hi h
    have hle : ¬ (6 : Int) ≤ (i : Int) := by omega
    have p1 := fun (M : PM) v => c_put_in (M := M) (d := d) (ar_44 (L := L)) (i := (i : Int)) (x := v) (by omega) (by omega)
    have p2 := fun (M : PM) v => c_put_in (M := M) (d := d) (ar_45 (L := L)) (i := (i : Int)) (x := v) (by omega) (by omega)
    simp only [tnN] at p1 p2
    have wi := wr1 i (by omega)
    obtain ⟨f', g', q1, q2⟩ := ih (i + 1) (up f i 0) (up g i 0) (by omega) (fun p hp => by
      by_cases hpi : p = i
      · subst hpi; rw [up_s, up_s]; exact ⟨rfl, rfl⟩
      · rw [up_i hpi, up_i hpi]; exact h p (by omega))
    refine ⟨f', g', q1, ?_⟩
    rw [e9_2]
    simp (disch := first | omega | (exact Nat.le_of_ble_eq_true rfl) | assumption | rfl) only [e9_0, e9_1, e9_3, e9_5, e9_8, e9_9, e9_12, e9_13, e9_14, e9_17, e9_18, e9_21, e9_22, e9_23, e9_26, e9_29, e9_33, e9_34, e9_35, e9_37, e9_39, e9_40, e9_43, e9_46, e9_47, e9_50, e9_52, e9_55, e9_58, e9_59, e9_61, e9_64, e9_66, e9_67, e9_69, e9_72, e9_74, e9_75, e9_78, e9_80, e9_81, e9_84, e9_86, e9_89, e9_91, e9_92, e9_95, e9_96, e9_99, e9_101, e9_102, e9_105, e9_107, e9_110, e9_112, e9_115, e9_118, e9_119, e9_121, e9_122, e9_123, e9_126, e9_129, e9_130, e9_132, e9_134, e9_136, e9_139, e9_140, e9_143, e9_145, e9_148, e9_151, e9_152, e9_154, e9_157, e9_158, e9_161, e9_163, e9_166, e9_167, e9_168, e9_171, e9_173, e9_176, e9_177, e9_179, e9_180, e9_181, e9_184, e9_186, e9_189, e9_191, e9_192, e9_195, e9_196, e9_199, e9_200, e9_203, e9_206, e9_207, e9_210, e9_211, e9_214, e9_215, e9_216, e9_217, gf_39_4, gf_39_5, hle, p1, p2, ls_p44, ls_p45, wi, ↓reduceIte, true_and, and_true, false_and, and_false, bindS, tL0, tL1, app0, app1, eq_self, Int.reduceEq, Int.reduceLT, Int.reduceLE, Int.reduceNeg, Int.reduceToNat]
    exact q2
theorem lf_b {p : Nat} : ∀ {i : Nat}, TKo tk i → 0 ≤ lfU tk U p i ∧ lfU tk U p i ≤ 99 * i
  | 0, _ => ⟨Int.le_refl _, Int.le_refl _⟩
  | i + 1, h => by
    have ih := lf_b (p := p) (i := i) (fun q hq => h q (by omega))
    have hd := (h i (by omega)).2.1
    show 0 ≤ lfU tk U p i + _ ∧ lfU tk U p i + _ ≤ 99 * ((i + 1 : Nat) : Int)
    split <;> omega
theorem ls_b : ∀ {i : Nat}, TKo tk i → 0 ≤ lsU tk U i ∧ lsU tk U i ≤ 99 * i
  | 0, _ => ⟨Int.le_refl _, Int.le_refl _⟩
  | i + 1, h => by
    have ih := ls_b (i := i) (fun q hq => h q (by omega))
    have hd := (h i (by omega)).2.1
    show 0 ≤ lsU tk U i + _ ∧ lsU tk U i + _ ≤ 99 * ((i + 1 : Nat) : Int)
    split <;> omega
theorem lt_loop2 (h : CT M tk n) (ht : TKo tk n) (hn : n ≤ 7) (h41 : ∀ q, q < 7 → M 41 q = U q) : ∀ (k i : Nat) (f g : Nat → Int) (l5 l6 : Option PV), i + k = n → (∀ p, p < 6 → f p = lfU tk U p i ∧ g p = lgU tk U p i) → ∃ f' g' m5 m6 m4, (∀ p, p < 6 → f' p = lfU tk U p n ∧ g' p = lgU tk U p n) ∧
    ev (d + 2) 9 37 [some (.inr (.inr (some 39))), some (.inr (.inr (some 5))), some (.inr (.inr (some v))), some (.inl (lsU tk U i)), some (.inl (i : Int)), l5, l6] [] (SH L) (lset M f g) = ev (d + 2) 9 129 [some (.inr (.inr (some 39))), some (.inr (.inr (some 5))), some (.inr (.inr (some v))), some (.inl (lsU tk U n)), m4, m5, m6] [] (SH L) (lset M f' g') := by
  have o5 := io_5 (L := L)
  have hC : ∀ f g, CT (lset M f g) tk n := fun f g => by
    unfold CT
    rw [ls_row (by decide), ls_row (by decide), ls_row (by decide), ls_row (by decide)]
    exact h
  intro k
  induction k with
  | zero =>
    intro i f g l5 l6 hi hfg
    have hi : i = n := by omega
    subst hi
    have hle : (i : Int) ≤ (i : Int) := Int.le_refl _
    refine ⟨f, g, l5, l6, some (.inl (i : Int)), hfg, ?_⟩
    rw [e9_37]
    simp (disch := first | omega | (exact Nat.le_of_ble_eq_true rfl) | assumption | rfl) only [e9_0, e9_1, e9_2, e9_3, e9_5, e9_8, e9_9, e9_12, e9_13, e9_14, e9_17, e9_18, e9_21, e9_22, e9_23, e9_26, e9_29, e9_32, e9_33, e9_34, e9_35, e9_39, e9_40, e9_43, e9_46, e9_47, e9_50, e9_52, e9_55, e9_58, e9_59, e9_61, e9_64, e9_66, e9_67, e9_69, e9_72, e9_74, e9_75, e9_78, e9_80, e9_81, e9_84, e9_86, e9_89, e9_91, e9_92, e9_95, e9_96, e9_99, e9_101, e9_102, e9_105, e9_107, e9_110, e9_112, e9_115, e9_118, e9_119, e9_121, e9_122, e9_123, e9_126, e9_130, e9_132, e9_134, e9_136, e9_139, e9_140, e9_143, e9_145, e9_148, e9_151, e9_152, e9_154, e9_157, e9_158, e9_161, e9_163, e9_166, e9_167, e9_168, e9_171, e9_173, e9_176, e9_177, e9_179, e9_180, e9_181, e9_184, e9_186, e9_189, e9_191, e9_192, e9_195, e9_196, e9_199, e9_200, e9_203, e9_206, e9_207, e9_210, e9_211, e9_214, e9_215, e9_216, e9_217, c_cnt (hC f g), hle, ↓reduceIte, true_and, and_true, false_and, and_false, bindS, tL0, tL1, app0, app1, eq_self, Int.reduceEq, Int.reduceLT, Int.reduceLE, Int.reduceNeg, Int.reduceToNat]
  | succ k ih =>
    intro i f g l5 l6 hi hfg
    have hle : ¬ (n : Int) ≤ (i : Int) := by omega
    have hti := ht i (by omega)
    have wi := wr1 i (by omega)
    have g41 := c_at_in (M := lset M f g) (d := d + 1) (ar_41 (L := L)) (i := (i : Int)) (by omega) (by omega)
    rw [tnN, ls_row (by decide), h41 i (by omega)] at g41
    have e1 : lsU tk U (i + 1) = lsU tk U i + (if U i = 0 then duT tk i else 0) := rfl
    have e2 : ∀ p, lfU tk U p (i + 1) = lfU tk U p i + (if U i = 0 ∧ spT tk i = p then duT tk i else 0) := fun _ => rfl
    have e3 : ∀ p, lgU tk U p (i + 1) = if U i = 0 ∧ spT tk i = p then mxI (lgU tk U p i) (duT tk i) else lgU tk U p i := fun _ => rfl
    by_cases hU : U i = 0
    · have cs := c_sp (d := d) (L := L) (hC f g) (i := i) (by omega)
      have cd := c_du (d := d) (L := L) (hC f g) (i := i) (by omega)
      have hsp : ((spT tk i : Nat) : Int) = tk (3 * i) := by unfold spT; omega
      have hs6 : spT tk i < 6 := by unfold spT; omega
      rw [← hsp] at cs
      have p44 := fun (M : PM) v => c_put_in (M := M) (d := d + 1) (ar_44 (L := L)) (i := ((spT tk i : Nat) : Int)) (x := v) (by omega) (by omega)
      have p45 := fun (M : PM) v => c_put_in (M := M) (d := d + 1) (ar_45 (L := L)) (i := ((spT tk i : Nat) : Int)) (x := v) (by omega) (by omega)
      have g44 := c_at_in (M := lset M f g) (d := d + 1) (ar_44 (L := L)) (i := ((spT tk i : Nat) : Int)) (by omega) (by omega)
      have g45 := fun f => c_at_in (M := lset M f g) (d := d + 1) (ar_45 (L := L)) (i := ((spT tk i : Nat) : Int)) (by omega) (by omega)
      rw [tnN, ls_44] at g44
      simp only [tnN, ls_45] at g45 p44 p45
      obtain ⟨hf, hg⟩ := hfg (spT tk i) hs6
      have lb := lf_b (tk := tk) (U := U) (p := spT tk i) (i := i) (fun q hq => ht q (by omega))
      have lb2 := ls_b (tk := tk) (U := U) (i := i) (fun q hq => ht q (by omega))
      have w1 : wr (f (spT tk i) + duT tk i) = f (spT tk i) + duT tk i := by rw [hf]; exact wr_id (by omega) (by omega)
      have w2 : wr (lsU tk U i + duT tk i) = lsU tk U i + duT tk i := wr_id (by omega) (by omega)
      obtain ⟨f', g', m5, m6, m4, q1, q2⟩ := ih (i + 1) (up f (spT tk i) (f (spT tk i) + duT tk i)) (up g (spT tk i) (if g (spT tk i) < duT tk i then duT tk i else g (spT tk i))) (some (.inl ((spT tk i : Nat) : Int))) (some (.inl (duT tk i))) (by omega) (fun p hp => by
        rw [e2, e3]
        by_cases hpi : p = spT tk i
        · subst hpi
          have eT : U i = 0 ∧ spT tk i = spT tk i := ⟨hU, rfl⟩
          rw [up_s, up_s, if_pos eT, if_pos eT, hf, hg]
          exact ⟨rfl, rfl⟩
        · rw [up_i hpi, up_i hpi, if_neg (fun z => hpi z.2.symm), if_neg (fun z => hpi z.2.symm), Int.add_zero]
          exact hfg p hp)
      rw [e1, if_pos hU] at q2
      refine ⟨f', g', m5, m6, m4, q1, ?_⟩
      rw [e9_37]
      by_cases hgd : g (spT tk i) < duT tk i
      · simp only [if_pos hgd] at q2
        simp (disch := first | omega | (exact Nat.le_of_ble_eq_true rfl) | assumption | rfl) only [e9_0, e9_1, e9_2, e9_3, e9_5, e9_8, e9_9, e9_12, e9_13, e9_14, e9_17, e9_18, e9_21, e9_22, e9_23, e9_26, e9_29, e9_32, e9_33, e9_34, e9_35, e9_39, e9_40, e9_43, e9_46, e9_47, e9_50, e9_52, e9_55, e9_58, e9_59, e9_61, e9_64, e9_66, e9_67, e9_69, e9_72, e9_74, e9_75, e9_78, e9_80, e9_81, e9_84, e9_86, e9_89, e9_91, e9_92, e9_95, e9_96, e9_99, e9_101, e9_102, e9_105, e9_107, e9_110, e9_112, e9_115, e9_118, e9_119, e9_121, e9_122, e9_123, e9_126, e9_130, e9_132, e9_134, e9_136, e9_139, e9_140, e9_143, e9_145, e9_148, e9_151, e9_152, e9_154, e9_157, e9_158, e9_161, e9_163, e9_166, e9_167, e9_168, e9_171, e9_173, e9_176, e9_177, e9_179, e9_180, e9_181, e9_184, e9_186, e9_189, e9_191, e9_192, e9_195, e9_196, e9_199, e9_200, e9_203, e9_206, e9_207, e9_210, e9_211, e9_214, e9_215, e9_216, e9_217, c_cnt (hC f g), hle, gf_39_1, gf_39_4, gf_39_5, g41, hU, cs, cd, g44, g45, p44, p45, ls_p44, ls_p45, w1, w2, wi, hgd, ↓reduceIte, true_and, and_true, false_and, and_false, bindS, tL0, tL1, app0, app1, eq_self, Int.reduceEq, Int.reduceLT, Int.reduceLE, Int.reduceNeg, Int.reduceToNat]
        exact q2
      · simp only [if_neg hgd] at q2
        simp (disch := first | omega | (exact Nat.le_of_ble_eq_true rfl) | assumption | rfl) only [e9_0, e9_1, e9_2, e9_3, e9_5, e9_8, e9_9, e9_12, e9_13, e9_14, e9_17, e9_18, e9_21, e9_22, e9_23, e9_26, e9_29, e9_32, e9_33, e9_34, e9_35, e9_39, e9_40, e9_43, e9_46, e9_47, e9_50, e9_52, e9_55, e9_58, e9_59, e9_61, e9_64, e9_66, e9_67, e9_69, e9_72, e9_74, e9_75, e9_78, e9_80, e9_81, e9_84, e9_86, e9_89, e9_91, e9_92, e9_95, e9_96, e9_99, e9_101, e9_102, e9_105, e9_107, e9_110, e9_112, e9_115, e9_118, e9_119, e9_121, e9_122, e9_123, e9_126, e9_130, e9_132, e9_134, e9_136, e9_139, e9_140, e9_143, e9_145, e9_148, e9_151, e9_152, e9_154, e9_157, e9_158, e9_161, e9_163, e9_166, e9_167, e9_168, e9_171, e9_173, e9_176, e9_177, e9_179, e9_180, e9_181, e9_184, e9_186, e9_189, e9_191, e9_192, e9_195, e9_196, e9_199, e9_200, e9_203, e9_206, e9_207, e9_210, e9_211, e9_214, e9_215, e9_216, e9_217, c_cnt (hC f g), hle, gf_39_1, gf_39_4, gf_39_5, g41, hU, cs, cd, g44, g45, p44, p45, ls_p44, ls_p45, w1, w2, wi, hgd, ↓reduceIte, true_and, and_true, false_and, and_false, bindS, tL0, tL1, app0, app1, eq_self, Int.reduceEq, Int.reduceLT, Int.reduceLE, Int.reduceNeg, Int.reduceToNat]
        exact q2
    · obtain ⟨f', g', m5, m6, m4, q1, q2⟩ := ih (i + 1) f g l5 l6 (by omega) (fun p hp => by
        rw [e2, e3, if_neg (fun z => hU z.1), if_neg (fun z => hU z.1), Int.add_zero]
        exact hfg p hp)
      rw [e1, if_neg hU, Int.add_zero] at q2
      refine ⟨f', g', m5, m6, m4, q1, ?_⟩
      rw [e9_37]
      simp (disch := first | omega | (exact Nat.le_of_ble_eq_true rfl) | assumption | rfl) only [e9_0, e9_1, e9_2, e9_3, e9_5, e9_8, e9_9, e9_12, e9_13, e9_14, e9_17, e9_18, e9_21, e9_22, e9_23, e9_26, e9_29, e9_32, e9_33, e9_34, e9_35, e9_39, e9_40, e9_43, e9_46, e9_47, e9_50, e9_52, e9_55, e9_58, e9_59, e9_61, e9_64, e9_66, e9_67, e9_69, e9_72, e9_74, e9_75, e9_78, e9_80, e9_81, e9_84, e9_86, e9_89, e9_91, e9_92, e9_95, e9_96, e9_99, e9_101, e9_102, e9_105, e9_107, e9_110, e9_112, e9_115, e9_118, e9_119, e9_121, e9_122, e9_123, e9_126, e9_130, e9_132, e9_134, e9_136, e9_139, e9_140, e9_143, e9_145, e9_148, e9_151, e9_152, e9_154, e9_157, e9_158, e9_161, e9_163, e9_166, e9_167, e9_168, e9_171, e9_173, e9_176, e9_177, e9_179, e9_180, e9_181, e9_184, e9_186, e9_189, e9_191, e9_192, e9_195, e9_196, e9_199, e9_200, e9_203, e9_206, e9_207, e9_210, e9_211, e9_214, e9_215, e9_216, e9_217, c_cnt (hC f g), hle, gf_39_1, g41, hU, wi, ↓reduceIte, true_and, and_true, false_and, and_false, bindS, tL0, tL1, app0, app1, eq_self, Int.reduceEq, Int.reduceLT, Int.reduceLE, Int.reduceNeg, Int.reduceToNat]
      exact q2
theorem lm_b {G : Nat → Int} (ht : TKo tk n) (hn : n ≤ 7) (hG : BG G 400000000) : ∀ p, p ≤ 6 → 0 ≤ lmU tk U n G p ∧ lmU tk U n G p ≤ 400002000
  | 0, _ => by have := ls_b (U := U) ht; show 0 ≤ lsU tk U n ∧ lsU tk U n ≤ _; omega
  | p + 1, hp => by
    have ih := lm_b (G := G) ht hn hG p (by omega)
    have lb := lf_b (U := U) (p := p) ht
    have lg := lg_lf (U := U) (p := p) ht
    have g := hG p (by omega)
    show 0 ≤ (if 0 < lfU tk U p n then mxI (lmU tk U n G p) (lfU tk U p n + mxI (G p + lfU tk U p n - lgU tk U p n) 0) else lmU tk U n G p) ∧ (if 0 < lfU tk U p n then mxI (lmU tk U n G p) (lfU tk U p n + mxI (G p + lfU tk U p n - lgU tk U p n) 0) else lmU tk U n G p) ≤ _
    split
    · unfold mxI
      split <;> split <;> omega
    · exact ih
theorem lt_loop3 {f g G : Nat → Int} (hv : VL (SH L) v) (hv45 : 45 < v) (ht : TKo tk n) (hn : n ≤ 7) (hG : BG G 400000000) (hMG : M (v + 1) = G) (hfg : ∀ p, p < 6 → f p = lfU tk U p n ∧ g p = lgU tk U p n) : ∀ (k p : Nat) (l5 l6 : Option PV), p + k = 6 → ∃ m4 m5 m6,
    ev (d + 2) 9 132 [some (.inr (.inr (some 39))), some (.inr (.inr (some 5))), some (.inr (.inr (some v))), some (.inl (lmU tk U n G p)), some (.inl (p : Int)), l5, l6] [] (SH L) (lset M f g) = ev (d + 2) 9 206 [some (.inr (.inr (some 39))), some (.inr (.inr (some 5))), some (.inr (.inr (some v))), some (.inl (lmU tk U n G 6)), m4, m5, m6] [] (SH L) (lset M f g) := by
  have ov := vl_o hv
  intro k
  induction k with
  | zero =>
    intro p l5 l6 hp
    have hp : p = 6 := by omega
    subst hp
    refine ⟨some (.inl 6), l5, l6, ?_⟩
    rw [e9_132]
    simp only [e9_0, e9_1, e9_2, e9_3, e9_5, e9_8, e9_9, e9_12, e9_13, e9_14, e9_17, e9_18, e9_21, e9_22, e9_23, e9_26, e9_29, e9_32, e9_33, e9_34, e9_35, e9_37, e9_39, e9_40, e9_43, e9_46, e9_47, e9_50, e9_52, e9_55, e9_58, e9_59, e9_61, e9_64, e9_66, e9_67, e9_69, e9_72, e9_74, e9_75, e9_78, e9_80, e9_81, e9_84, e9_86, e9_89, e9_91, e9_92, e9_95, e9_96, e9_99, e9_101, e9_102, e9_105, e9_107, e9_110, e9_112, e9_115, e9_118, e9_119, e9_121, e9_122, e9_123, e9_126, e9_129, e9_130, e9_134, e9_136, e9_139, e9_140, e9_143, e9_145, e9_148, e9_151, e9_152, e9_154, e9_157, e9_158, e9_161, e9_163, e9_166, e9_167, e9_168, e9_171, e9_173, e9_176, e9_177, e9_179, e9_180, e9_181, e9_184, e9_186, e9_189, e9_191, e9_192, e9_195, e9_196, e9_199, e9_200, e9_203, e9_207, e9_210, e9_211, e9_214, e9_215, e9_216, e9_217]
    rw [if_pos (by decide)]
    rfl
  | succ k ih =>
    intro p l5 l6 hp
    have hle : ¬ (6 : Int) ≤ (p : Int) := by omega
    have wp := wr1 p (by omega)
    obtain ⟨hf, hgg⟩ := hfg p (by omega)
    have g44 := c_at_in (M := lset M f g) (d := d + 1) (ar_44 (L := L)) (i := (p : Int)) (by omega) (by omega)
    have g45 := c_at_in (M := lset M f g) (d := d + 1) (ar_45 (L := L)) (i := (p : Int)) (by omega) (by omega)
    rw [tnN, ls_44, hf] at g44
    rw [tnN, ls_45, hgg] at g45
    have cg := c_glass_in (M := lset M f g) (d := d) hv (i := (p : Int)) (by omega) (by omega)
    rw [tnN, ls_row (by omega), hMG] at cg
    have lb := lf_b (U := U) (p := p) ht
    have lg := lg_lf (U := U) (p := p) ht
    have hgp := hG p (by omega)
    have lmb := lm_b (U := U) (G := G) ht hn hG p (by omega)
    have e : lmU tk U n G (p + 1) = if 0 < lfU tk U p n then mxI (lmU tk U n G p) (lfU tk U p n + mxI (G p + lfU tk U p n - lgU tk U p n) 0) else lmU tk U n G p := rfl
    by_cases h0 : 0 < lfU tk U p n
    · have h1 : ¬ lfU tk U p n ≤ 0 := by omega
      have w1 : wr (G p + lfU tk U p n) = G p + lfU tk U p n := wr_id (by omega) (by omega)
      have w2 : wr (G p + lfU tk U p n - lgU tk U p n) = G p + lfU tk U p n - lgU tk U p n := wr_id (by omega) (by omega)
      have w3 : wr (lfU tk U p n + mxI (G p + lfU tk U p n - lgU tk U p n) 0) = lfU tk U p n + mxI (G p + lfU tk U p n - lgU tk U p n) 0 := by
        refine wr_id ?_ ?_
        · unfold mxI; split <;> omega
        · unfold mxI; split <;> omega
      have m0 : ∀ x y : Int, (if x < y then y else x) = mxI x y := fun _ _ => rfl
      obtain ⟨m4, m5, m6, q⟩ := ih (p + 1) (some (.inl (G p + lfU tk U p n - lgU tk U p n))) l6 (by omega)
      rw [e, if_pos h0] at q
      refine ⟨m4, m5, m6, ?_⟩
      rw [e9_132]
      simp (disch := first | omega | (exact Nat.le_of_ble_eq_true rfl) | assumption | rfl) only [e9_0, e9_1, e9_2, e9_3, e9_5, e9_8, e9_9, e9_12, e9_13, e9_14, e9_17, e9_18, e9_21, e9_22, e9_23, e9_26, e9_29, e9_32, e9_33, e9_34, e9_35, e9_37, e9_39, e9_40, e9_43, e9_46, e9_47, e9_50, e9_52, e9_55, e9_58, e9_59, e9_61, e9_64, e9_66, e9_67, e9_69, e9_72, e9_74, e9_75, e9_78, e9_80, e9_81, e9_84, e9_86, e9_89, e9_91, e9_92, e9_95, e9_96, e9_99, e9_101, e9_102, e9_105, e9_107, e9_110, e9_112, e9_115, e9_118, e9_119, e9_121, e9_122, e9_123, e9_126, e9_129, e9_130, e9_134, e9_136, e9_139, e9_140, e9_143, e9_145, e9_148, e9_151, e9_152, e9_154, e9_157, e9_158, e9_161, e9_163, e9_166, e9_167, e9_168, e9_171, e9_173, e9_176, e9_177, e9_179, e9_180, e9_181, e9_184, e9_186, e9_189, e9_191, e9_195, e9_199, e9_200, e9_203, e9_207, e9_210, e9_211, e9_214, e9_215, e9_216, e9_217, e9_192, e9_196, hle, gf_39_4, gf_39_5, g44, g45, cg, h1, w1, w2, m0, w3, wp, ↓reduceIte, true_and, and_true, false_and, and_false, bindS, tL0, tL1, app0, app1, eq_self, Int.reduceEq, Int.reduceLT, Int.reduceLE, Int.reduceNeg, Int.reduceToNat]
      exact q
    · have h1 : lfU tk U p n ≤ 0 := by omega
      obtain ⟨m4, m5, m6, q⟩ := ih (p + 1) l5 l6 (by omega)
      rw [e, if_neg h0] at q
      refine ⟨m4, m5, m6, ?_⟩
      rw [e9_132]
      simp (disch := first | omega | (exact Nat.le_of_ble_eq_true rfl) | assumption | rfl) only [e9_0, e9_1, e9_2, e9_3, e9_5, e9_8, e9_9, e9_12, e9_13, e9_14, e9_17, e9_18, e9_21, e9_22, e9_23, e9_26, e9_29, e9_32, e9_33, e9_34, e9_35, e9_37, e9_39, e9_40, e9_43, e9_46, e9_47, e9_50, e9_52, e9_55, e9_58, e9_59, e9_61, e9_64, e9_66, e9_67, e9_69, e9_72, e9_74, e9_75, e9_78, e9_80, e9_81, e9_84, e9_86, e9_89, e9_91, e9_92, e9_95, e9_96, e9_99, e9_101, e9_102, e9_105, e9_107, e9_110, e9_112, e9_115, e9_118, e9_119, e9_121, e9_122, e9_123, e9_126, e9_129, e9_130, e9_134, e9_136, e9_139, e9_140, e9_143, e9_145, e9_148, e9_151, e9_152, e9_154, e9_157, e9_158, e9_161, e9_163, e9_166, e9_167, e9_168, e9_171, e9_173, e9_176, e9_177, e9_179, e9_180, e9_181, e9_184, e9_186, e9_189, e9_191, e9_195, e9_199, e9_200, e9_203, e9_207, e9_210, e9_211, e9_214, e9_215, e9_216, e9_217, hle, gf_39_4, g44, h1, wp, ↓reduceIte, true_and, and_true, false_and, and_false, bindS, tL0, tL1, app0, app1, eq_self, Int.reduceEq, Int.reduceLT, Int.reduceLE, Int.reduceNeg, Int.reduceToNat]
      exact q
/-- no order of what is left can be over before this -/
theorem c_least {G : Nat → Int} (hv : VL (SH L) v) (hv45 : 45 < v) (h : CT M tk n) (ht : TKo tk n) (hn : n ≤ 7) (h41 : ∀ q, q < 7 → M 41 q = U q) (hMG : M (v + 1) = G) (hG : BG G 400000000) (hT : 0 ≤ M v 1 - M 39 6 ∧ M v 1 - M 39 6 ≤ 400000000) (hs : 0 ≤ M 39 6 ∧ M 39 6 ≤ 400000000) : ∃ f g,
    den (d + 2) 9 [(.inr (.inr (some 39))), (.inr (.inr (some 5))), (.inr (.inr (some v)))] (SH L) M = some (some (.inl (M v 1 - M 39 6 + lmU tk U n G 6)), SH L, lset M f g) := by
  have ov := vl_o hv
  obtain ⟨f1, g1, a1, a2⟩ := lt_loop1 (d := d + 1) (L := L) (M := M) (v := v) (l4 := none) (l5 := none) (l6 := none) 6 0 (M 44) (M 45) (by omega) (fun p hp => absurd hp (Nat.not_lt_zero p))
  rw [ls_self] at a2
  obtain ⟨f2, g2, m5, m6, m4, b1, b2⟩ := lt_loop2 (d := d) (L := L) (v := v) h ht hn h41 n 0 f1 g1 none none (by omega) (fun p hp => a1 p hp)
  obtain ⟨k4, k5, k6, c⟩ := lt_loop3 (d := d) (L := L) (M := M) (f := f2) (g := g2) hv hv45 ht hn hG hMG b1 6 0 m5 m6 (by omega)
  have lmb := lm_b (U := U) (G := G) ht hn hG 6 (by omega)
  have w1 : wr (M v 1 - M 39 6) = M v 1 - M 39 6 := wr_id (by omega) (by omega)
  have w2 : wr (M v 1 - M 39 6 + lmU tk U n G 6) = M v 1 - M 39 6 + lmU tk U n G 6 := wr_id (by omega) (by omega)
  have ct := c_time (M := lset M f2 g2) (d := d + 1) hv
  rw [ls_row (by omega)] at ct
  refine ⟨f2, g2, ?_⟩
  unfold den
  rw [show ent 9 [(.inr (.inr (some 39))), (.inr (.inr (some 5))), (.inr (.inr (some v)))] = [some (.inr (.inr (some 39))), some (.inr (.inr (some 5))), some (.inr (.inr (some v))), none, none, none, none] from rfl]
  simp (disch := first | omega | (exact Nat.le_of_ble_eq_true rfl) | assumption | rfl) only [e9_0, e9_1]
  rw [show ((0 : Int)) = ((0 : Nat) : Int) from rfl, a2]
  simp (disch := first | omega | (exact Nat.le_of_ble_eq_true rfl) | assumption | rfl) only [e9_32, e9_33, e9_34, e9_35]
  have b2' := b2
  rw [show lsU tk U 0 = 0 from rfl] at b2'
  rw [show (some (.inl ((0 : Nat) : Int)) : Option PV) = some (.inl (0 : Int)) from rfl] at b2'
  rw [b2']
  simp (disch := first | omega | (exact Nat.le_of_ble_eq_true rfl) | assumption | rfl) only [e9_129, e9_130]
  have c' := c
  rw [show lmU tk U n G 0 = lsU tk U n from rfl] at c'
  rw [show (some (.inl ((0 : Nat) : Int)) : Option PV) = some (.inl (0 : Int)) from rfl] at c'
  rw [c']
  simp (disch := first | omega | (exact Nat.le_of_ble_eq_true rfl) | assumption | rfl) only [e9_0, e9_1, e9_3, e9_5, e9_8, e9_9, e9_12, e9_13, e9_14, e9_17, e9_18, e9_21, e9_22, e9_23, e9_26, e9_29, e9_32, e9_33, e9_34, e9_35, e9_39, e9_40, e9_43, e9_46, e9_47, e9_50, e9_52, e9_55, e9_58, e9_59, e9_61, e9_64, e9_66, e9_67, e9_69, e9_72, e9_74, e9_75, e9_78, e9_80, e9_81, e9_84, e9_86, e9_89, e9_91, e9_92, e9_95, e9_96, e9_99, e9_101, e9_102, e9_105, e9_107, e9_110, e9_112, e9_115, e9_118, e9_119, e9_121, e9_122, e9_123, e9_126, e9_129, e9_130, e9_134, e9_136, e9_139, e9_140, e9_143, e9_145, e9_148, e9_151, e9_152, e9_154, e9_157, e9_158, e9_161, e9_163, e9_166, e9_167, e9_168, e9_171, e9_173, e9_176, e9_177, e9_179, e9_180, e9_181, e9_184, e9_186, e9_189, e9_191, e9_192, e9_195, e9_196, e9_199, e9_200, e9_203, e9_206, e9_207, e9_210, e9_211, e9_214, e9_215, e9_216, e9_217, ct, gf_39_6, ls_row, w1, w2, ↓reduceIte, true_and, and_true, false_and, and_false, bindS, tL0, tL1, app0, app1, eq_self, Int.reduceEq, Int.reduceLT, Int.reduceLE, Int.reduceNeg, Int.reduceToNat]
end
