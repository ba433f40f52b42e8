/-! the reference lays a talk: all orders -/
def MRs (n : Nat) (st : Int × List Nat) (M : PM) : Prop := (st.1 = 1000000000 ∧ M 63 17 = -6 ∨ (0 ≤ st.1 ∧ st.1 < 1000000000) ∧ M 63 17 = st.1) ∧ (st.2 = [] ∨ ∀ j, j < n → M 70 j = (gtL st.2 j : Int))
def FQs (M M' : PM) : Prop := (∀ a, a ≠ 63 → a ≠ 68 → a ≠ 69 → a ≠ 70 → M' a = M a) ∧ ∀ j, j ≠ 11 → j ≠ 17 → M' 63 j = M 63 j
theorem FQs.rf {M : PM} : FQs M M := ⟨fun _ _ _ _ _ => rfl, fun _ _ _ => rfl⟩
theorem FQs.tr {M M' M'' : PM} (h : FQs M M') (h' : FQs M' M'') : FQs M M'' := ⟨fun a x y z w => (h'.1 a x y z w).trans (h.1 a x y z w), fun j x y => (h'.2 j x y).trans (h.2 j x y)⟩
theorem noB_n {n : Nat} {l : List Nat} (h : noB n l = true) : nxL n l = none := by
  unfold noB at h
  split at h
  · assumption
  · cases h
theorem nxB_n {n : Nat} {l l' : List Nat} (h : nxB n l l' = true) : nxL n l = some l' := by
  unfold nxB at h
  split at h
  · cases h
  · rename_i s he
    rw [he, eqL_eq h]
theorem less_b {b g s B : Int} (hb : 0 ≤ b ∧ b ≤ 99) (hs : 0 ≤ s) (hg : -100 ≤ g ∧ g ≤ B) (hB : 0 ≤ B) : -100 ≤ lessI b g s ∧ lessI b g s ≤ B := by
  unfold lessI
  repeat' split
  all_goals omega
/-- the glasses from which the talk is laid -/
def gvG (b given sv : Int) (G : Nat → Int) : Nat → Int := if 0 ≤ given then up G given.toNat (lessI b (G given.toNat) sv) else G
theorem gv_E {b given sv : Int} {G G' : Nat → Int} (hg : given < 6) (h : EqG G G') : EqG (gvG b given sv G) (gvG b given sv G') := by
  unfold gvG
  by_cases h0 : 0 ≤ given
  · rw [if_pos h0, if_pos h0, h given.toNat (by omega)]
    intro p hp
    by_cases hpg : p = given.toNat
    · subst hpg; rw [up_s, up_s]
    · rw [up_i hpg, up_i hpg]; exact h p hp
  · rw [if_neg h0, if_neg h0]; exact h
theorem gv_b {b given sv B : Int} {G : Nat → Int} (hb : 0 ≤ b ∧ b ≤ 99) (hs : 0 ≤ sv) (hg : given < 6) (hB : 0 ≤ B) (h : BG G B) : BG (gvG b given sv G) B := by
  unfold gvG
  by_cases h0 : 0 ≤ given
  · rw [if_pos h0]
    intro p hp
    by_cases hpg : p = given.toNat
    · subst hpg; rw [up_s]; exact less_b hb hs (h _ hp) hB
    · rw [up_i hpg]; exact h p hp
  · rw [if_neg h0]; exact h
section
variable {L n d : Nat} {tk gl : Nat → Int} {b given sv : Int}
/-- one order: from the check to the next row -/
theorem lay_one {r : List Nat} {st : Int × List Nat} {M : PM} {B : Int} {l3 l4 l5 : Option PV} (hn : n ≤ 7) (ht : TKo tk n) (hb : 0 ≤ b ∧ b ≤ 99) (hsv : 0 ≤ sv ∧ sv ≤ 99) (hgv : given < 6) (hB : 0 ≤ B ∧ B ≤ 100000000) (hgl : BG gl B) (h4 : M 63 4 = (n : Int)) (h65 : M 65 = tk) (h64 : M 64 = gl) (h0 : M 63 0 = b) (hR : RWs M (exL n r)) (hlen : r.length = n) (hsm : ∀ x ∈ r, x < n) (hM : MRs n st M) :
    ∃ M' m4 m5, ev (d + 3) 120 29 [some (.inr (.inr (some 63))), some (.inl given), some (.inl sv), some (.inl 1), l4, l5] [] (SH L) M = ev (d + 3) 120 201 [some (.inr (.inr (some 63))), some (.inl given), some (.inl sv), some (.inl 1), m4, m5] [] (SH L) M' ∧ FQs M M' ∧ M' 69 = M 69 ∧ MRs n (if vlL tk [] r = true ∧ 0 + csL b tk r (gvG b given sv gl) < st.1 then (0 + csL b tk r (gvG b given sv gl), [] ++ r) else st) M' := by
  have o63 := io_63 (L := L)
  have ck := c_keeps (L := L) (d := d + 2) hn h4 h65 ht hR hlen hsm
  by_cases hv : vlL tk [] r = true
  rotate_left
  · rw [if_neg hv] at ck
    rw [if_neg (fun z => hv z.1)]
    refine ⟨M, l4, l5, ?_, FQs.rf, rfl, hM⟩
    rw [e120_29]
    simp (disch := first | omega | (exact Nat.le_of_ble_eq_true rfl) | assumption | rfl) only [e120_0, e120_1, e120_3, e120_6, e120_7, e120_8, e120_9, e120_11, e120_14, e120_15, e120_18, e120_19, e120_20, e120_21, e120_24, e120_27, e120_28, e120_30, e120_33, e120_34, e120_37, e120_40, e120_41, e120_44, e120_45, e120_48, e120_49, e120_52, e120_53, e120_54, e120_55, e120_58, e120_59, e120_60, e120_61, e120_64, e120_65, e120_66, e120_70, e120_71, e120_74, e120_77, e120_78, e120_81, e120_82, e120_83, e120_86, e120_88, e120_89, e120_90, e120_91, e120_93, e120_94, e120_97, e120_99, e120_100, e120_103, e120_104, e120_105, e120_108, e120_110, e120_111, e120_113, e120_116, e120_117, e120_119, e120_120, e120_123, e120_124, e120_125, e120_128, e120_130, e120_131, e120_132, e120_133, e120_134, e120_135, e120_136, e120_139, e120_142, e120_146, e120_149, e120_152, e120_153, e120_156, e120_157, e120_160, e120_163, e120_164, e120_165, e120_168, e120_171, e120_172, e120_176, e120_178, e120_181, e120_182, e120_185, e120_187, e120_188, e120_191, e120_193, e120_194, e120_195, e120_198, e120_202, e120_203, e120_206, e120_209, e120_210, e120_213, ck, ↓reduceIte, true_and, and_true, false_and, and_false, bindS, tL0, tL1, app0, app1, eq_self, Int.reduceEq, Int.reduceLT, Int.reduceLE, Int.reduceNeg, Int.reduceToNat]
  rw [if_pos hv] at ck
  have cn := c_asNow (d := d + 2) (L := L) (M := M)
  rw [h64] at cn
  have hE0 : EqG (fil gl (M 68) 6) gl := EqG.fil
  have hb0 : BG (fil gl (M 68) 6) B := hgl.eq hE0
  -- up to the sayings
  have pre : ∃ G1, EqG G1 (gvG b given sv gl) ∧ ev (d + 3) 120 29 [some (.inr (.inr (some 63))), some (.inl given), some (.inl sv), some (.inl 1), l4, l5] [] (SH L) M = ev (d + 3) 120 68 [some (.inr (.inr (some 63))), some (.inl given), some (.inl sv), some (.inl 1), some (.inl 0), l5] [] (SH L) (nset M G1 0) := by
    refine ⟨gvG b given sv (fil gl (M 68) 6), gv_E hgv hE0, ?_⟩
    unfold gvG
    by_cases hg0 : 0 ≤ given
    · have hg1 : ¬ given < 0 := by omega
      have gp := n_get (L := L) (M := M) (G := fil gl (M 68) 6) (T := 0) (i := given) hg0 hgv
      have hbg := hb0 given.toNat (by omega)
      have cl := c_less (L := L) (d := d + 2) (M := nset M (fil gl (M 68) 6) 0) (g := fil gl (M 68) 6 given.toNat) (s := sv) (by rw [ns_m (by decide), h0]; exact hb) (by omega) (by omega)
      rw [ns_m (by decide), h0] at cl
      have pp := fun v => aput_in (M := nset M (fil gl (M 68) 6) 0) (ar_68 (L := L)) (i := given) (x := v) hg0 (by omega)
      simp only [ns_put] at pp
      rw [if_pos hg0, e120_29]
      simp (disch := first | omega | (exact Nat.le_of_ble_eq_true rfl) | assumption | rfl) only [e120_0, e120_1, e120_3, e120_6, e120_7, e120_8, e120_9, e120_11, e120_14, e120_15, e120_18, e120_19, e120_20, e120_21, e120_24, e120_27, e120_28, e120_30, e120_33, e120_34, e120_37, e120_40, e120_41, e120_44, e120_45, e120_48, e120_49, e120_52, e120_53, e120_54, e120_55, e120_58, e120_59, e120_60, e120_61, e120_64, e120_65, e120_66, e120_70, e120_71, e120_74, e120_77, e120_78, e120_81, e120_82, e120_83, e120_86, e120_88, e120_89, e120_90, e120_91, e120_93, e120_94, e120_97, e120_99, e120_100, e120_103, e120_104, e120_105, e120_108, e120_110, e120_111, e120_113, e120_116, e120_117, e120_119, e120_120, e120_123, e120_124, e120_125, e120_128, e120_130, e120_131, e120_132, e120_133, e120_134, e120_135, e120_136, e120_139, e120_142, e120_146, e120_149, e120_152, e120_153, e120_156, e120_157, e120_160, e120_163, e120_164, e120_165, e120_168, e120_171, e120_172, e120_176, e120_178, e120_181, e120_182, e120_185, e120_187, e120_188, e120_191, e120_193, e120_194, e120_195, e120_198, e120_202, e120_203, e120_206, e120_209, e120_210, e120_213, ck, cn, hg1, gf_63_10, gp, cl, pp, ↓reduceIte, true_and, and_true, false_and, and_false, bindS, tL0, tL1, app0, app1, eq_self, Int.reduceEq, Int.reduceLT, Int.reduceLE, Int.reduceNeg, Int.reduceToNat]
      rfl
    · have hg1 : given < 0 := by omega
      rw [if_neg hg0, e120_29]
      simp (disch := first | omega | (exact Nat.le_of_ble_eq_true rfl) | assumption | rfl) only [e120_0, e120_1, e120_3, e120_6, e120_7, e120_8, e120_9, e120_11, e120_14, e120_15, e120_18, e120_19, e120_20, e120_21, e120_24, e120_27, e120_28, e120_30, e120_33, e120_34, e120_37, e120_40, e120_41, e120_44, e120_45, e120_48, e120_49, e120_52, e120_53, e120_54, e120_55, e120_58, e120_59, e120_60, e120_61, e120_64, e120_65, e120_66, e120_70, e120_71, e120_74, e120_77, e120_78, e120_81, e120_82, e120_83, e120_86, e120_88, e120_89, e120_90, e120_91, e120_93, e120_94, e120_97, e120_99, e120_100, e120_103, e120_104, e120_105, e120_108, e120_110, e120_111, e120_113, e120_116, e120_117, e120_119, e120_120, e120_123, e120_124, e120_125, e120_128, e120_130, e120_131, e120_132, e120_133, e120_134, e120_135, e120_136, e120_139, e120_142, e120_146, e120_149, e120_152, e120_153, e120_156, e120_157, e120_160, e120_163, e120_164, e120_165, e120_168, e120_171, e120_172, e120_176, e120_178, e120_181, e120_182, e120_185, e120_187, e120_188, e120_191, e120_193, e120_194, e120_195, e120_198, e120_202, e120_203, e120_206, e120_209, e120_210, e120_213, ck, cn, hg1, ↓reduceIte, true_and, and_true, false_and, and_false, bindS, tL0, tL1, app0, app1, eq_self, Int.reduceEq, Int.reduceLT, Int.reduceLE, Int.reduceNeg, Int.reduceToNat]
  obtain ⟨G1, hG1, pre⟩ := pre
  have hbg : BG G1 B := (gv_b hb hsv.1 hgv hB.1 hgl).eq hG1
  have hsp : ∀ i ∈ r, spT tk i < 6 := fun i hi => by have := (ht i (hsm i hi)).1; unfold spT; omega
  obtain ⟨⟨c1, c2⟩, G', m4, m5, q⟩ := lay_loop (L := L) (d := d) (b := b) (MQ := M) (l1 := some (.inl given)) (l2 := some (.inl sv)) (l3 := some (.inl 1)) hn h4 h65 h0 hb ht hR hlen hsm r [] G1 0 B l5 rfl ⟨hB.1, hbg, by decide, by simp; omega⟩
  rw [cs_E hsp hG1] at c1 c2 q
  rw [show (some (.inl (([] : List Nat).length : Int)) : Option PV) = some (.inl 0) from rfl] at q
  generalize hc : (0 : Int) + csL b tk r (gvG b given sv gl) = c at *
  generalize hN : nset M G' c = N at q
  have n11 : N 63 11 = c := by rw [← hN, ns_T]
  have nj : ∀ j, j ≠ 11 → N 63 j = M 63 j := fun j hj => by rw [← hN, ns_m hj]
  have nr : ∀ a, a ≠ 63 → a ≠ 68 → N a = M a := fun a x y => by rw [← hN, ns_row x y]
  have hF : FQs M N := ⟨fun a x y _ _ => nr a x y, fun j x _ => nj j x⟩
  obtain ⟨hMa, hMb⟩ := hM
  by_cases hlt : c < st.1
  · rw [if_pos ⟨hv, hlt⟩]
    generalize hP : setC N 63 17 c = P
    have l := bs_loop (L := L) (d := d + 3) (M := P) (l1 := some (.inl given)) (l2 := some (.inl sv)) (l3 := some (.inl 1)) (l5 := m5) 7 0 (by omega)
    rw [fil_0, setR_same] at l
    refine ⟨setR P 70 (fil (P 69) (P 70) 7), some (.inl 7), m5, ?_, hF.tr ⟨fun a x y z w => ?_, fun j x y => ?_⟩, ?_, ⟨Or.inr ⟨⟨c1, by dsimp only; omega⟩, ?_⟩, Or.inr fun j hj => ?_⟩⟩
    · rw [pre, q]
      have l' := l
      rw [show (some (.inl ((0 : Nat) : Int)) : Option PV) = some (.inl (0 : Int)) from rfl] at l'
      rw [e120_145]
      rcases hMa with ⟨h1, h2⟩ | ⟨h1, h2⟩
      · have n17 : N 63 17 = -6 := by rw [nj 17 (by decide)]; exact h2
        simp (disch := first | omega | (exact Nat.le_of_ble_eq_true rfl) | assumption | rfl) only [e120_0, e120_1, e120_3, e120_6, e120_7, e120_8, e120_9, e120_11, e120_14, e120_15, e120_18, e120_19, e120_20, e120_21, e120_24, e120_27, e120_28, e120_30, e120_33, e120_34, e120_37, e120_40, e120_41, e120_44, e120_45, e120_48, e120_49, e120_52, e120_53, e120_54, e120_55, e120_58, e120_59, e120_60, e120_61, e120_64, e120_65, e120_66, e120_70, e120_71, e120_74, e120_77, e120_78, e120_81, e120_82, e120_83, e120_86, e120_88, e120_89, e120_90, e120_91, e120_93, e120_94, e120_97, e120_99, e120_100, e120_103, e120_104, e120_105, e120_108, e120_110, e120_111, e120_113, e120_116, e120_117, e120_119, e120_120, e120_123, e120_124, e120_125, e120_128, e120_130, e120_131, e120_132, e120_133, e120_134, e120_135, e120_136, e120_139, e120_142, e120_146, e120_149, e120_152, e120_153, e120_156, e120_157, e120_160, e120_163, e120_164, e120_165, e120_168, e120_171, e120_172, e120_176, e120_178, e120_181, e120_182, e120_185, e120_187, e120_188, e120_191, e120_193, e120_194, e120_195, e120_198, e120_202, e120_203, e120_206, e120_209, e120_210, e120_213, gf_63_11, gf_63_17, n11, n17, pi_63_17, hP, ↓reduceIte, true_and, and_true, false_and, and_false, bindS, tL0, tL1, app0, app1, eq_self, Int.reduceEq, Int.reduceLT, Int.reduceLE, Int.reduceNeg, Int.reduceToNat]
        exact l'
      · have n17 : N 63 17 = st.1 := by rw [nj 17 (by decide)]; exact h2
        have h3 : ¬ st.1 < 0 := by omega
        have h4 : ¬ st.1 ≤ c := by omega
        simp (disch := first | omega | (exact Nat.le_of_ble_eq_true rfl) | assumption | rfl) only [e120_0, e120_1, e120_3, e120_6, e120_7, e120_8, e120_9, e120_11, e120_14, e120_15, e120_18, e120_19, e120_20, e120_21, e120_24, e120_27, e120_28, e120_30, e120_33, e120_34, e120_37, e120_40, e120_41, e120_44, e120_45, e120_48, e120_49, e120_52, e120_53, e120_54, e120_55, e120_58, e120_59, e120_60, e120_61, e120_64, e120_65, e120_66, e120_70, e120_71, e120_74, e120_77, e120_78, e120_81, e120_82, e120_83, e120_86, e120_88, e120_89, e120_90, e120_91, e120_93, e120_94, e120_97, e120_99, e120_100, e120_103, e120_104, e120_105, e120_108, e120_110, e120_111, e120_113, e120_116, e120_117, e120_119, e120_120, e120_123, e120_124, e120_125, e120_128, e120_130, e120_131, e120_132, e120_133, e120_134, e120_135, e120_136, e120_139, e120_142, e120_146, e120_149, e120_152, e120_153, e120_156, e120_157, e120_160, e120_163, e120_164, e120_165, e120_168, e120_171, e120_172, e120_176, e120_178, e120_181, e120_182, e120_185, e120_187, e120_188, e120_191, e120_193, e120_194, e120_195, e120_198, e120_202, e120_203, e120_206, e120_209, e120_210, e120_213, gf_63_11, gf_63_17, n11, n17, h3, h4, pi_63_17, hP, ↓reduceIte, true_and, and_true, false_and, and_false, bindS, tL0, tL1, app0, app1, eq_self, Int.reduceEq, Int.reduceLT, Int.reduceLE, Int.reduceNeg, Int.reduceToNat]
        exact l'
    · rw [setR_row w, ← hP, setC_row x]
    · rw [setR_row (by decide), ← hP, setC_i y]
    · rw [setR_row (by decide), ← hP, setC_row (by decide), nr 69 (by decide) (by decide)]
    · rw [setR_row (by decide), ← hP, setC_s]
    · rw [setR_s, fil_lt _ _ (by omega), ← hP, setC_row (by decide), nr 69 (by decide) (by decide), hR.2 j (by omega)]
      unfold exL
      rw [gtL_app (by omega)]
      rfl
  · rw [if_neg (fun z => hlt z.2)]
    refine ⟨N, m4, m5, ?_, hF, nr 69 (by decide) (by decide), ⟨?_, ?_⟩⟩
    · rw [pre, q, e120_145]
      rcases hMa with ⟨h1, h2⟩ | ⟨h1, h2⟩
      · omega
      · have n17 : N 63 17 = st.1 := by rw [nj 17 (by decide)]; exact h2
        have h3 : ¬ st.1 < 0 := by omega
        have h4 : st.1 ≤ c := by omega
        simp (disch := first | omega | (exact Nat.le_of_ble_eq_true rfl) | assumption | rfl) only [e120_0, e120_1, e120_3, e120_6, e120_7, e120_8, e120_9, e120_11, e120_14, e120_15, e120_18, e120_19, e120_20, e120_21, e120_24, e120_27, e120_28, e120_30, e120_33, e120_34, e120_37, e120_40, e120_41, e120_44, e120_45, e120_48, e120_49, e120_52, e120_53, e120_54, e120_55, e120_58, e120_59, e120_60, e120_61, e120_64, e120_65, e120_66, e120_70, e120_71, e120_74, e120_77, e120_78, e120_81, e120_82, e120_83, e120_86, e120_88, e120_89, e120_90, e120_91, e120_93, e120_94, e120_97, e120_99, e120_100, e120_103, e120_104, e120_105, e120_108, e120_110, e120_111, e120_113, e120_116, e120_117, e120_119, e120_120, e120_123, e120_124, e120_125, e120_128, e120_130, e120_131, e120_132, e120_133, e120_134, e120_135, e120_136, e120_139, e120_142, e120_146, e120_149, e120_152, e120_153, e120_156, e120_157, e120_160, e120_163, e120_164, e120_165, e120_168, e120_171, e120_172, e120_176, e120_178, e120_181, e120_182, e120_185, e120_187, e120_188, e120_191, e120_193, e120_194, e120_195, e120_198, e120_202, e120_203, e120_206, e120_209, e120_210, e120_213, gf_63_11, gf_63_17, n11, n17, h3, h4, ↓reduceIte, true_and, and_true, false_and, and_false, bindS, tL0, tL1, app0, app1, eq_self, Int.reduceEq, Int.reduceLT, Int.reduceLE, Int.reduceNeg, Int.reduceToNat]
    · rw [nj 17 (by decide)]; exact hMa
    · rw [nr 70 (by decide) (by decide)]; exact hMb
theorem lay_all {B : Int} (hn : n ≤ 7) (ht : TKo tk n) (hb : 0 ≤ b ∧ b ≤ 99) (hsv : 0 ≤ sv ∧ sv ≤ 99) (hgv : given < 6) (hB : 0 ≤ B ∧ B ≤ 100000000) (hgl : BG gl B) : ∀ (ps : List (List Nat)) (r : List Nat) (st : Int × List Nat) (M : PM) (l4 l5 : Option PV), CHL n r ps = true → okNL n (r :: ps) = true → M 63 4 = (n : Int) → M 65 = tk → M 64 = gl → M 63 0 = b → RWs M (exL n r) → MRs n st M →
    ∃ M', ev (d + 3) 120 29 [some (.inr (.inr (some 63))), some (.inl given), some (.inl sv), some (.inl 1), l4, l5] [] (SH L) M = some (none, SH L, M') ∧ FQs M M' ∧ MRs n (foL b tk [] (gvG b given sv gl) 0 st (r :: ps)) M' := by
  have o63 := io_63 (L := L)
  intro ps
  induction ps with
  | nil =>
    intro r st M l4 l5 hch hok h4 h65 h64 h0 hR hM
    obtain ⟨k1, k2⟩ := okNL_mem hok r List.mem_cons_self
    obtain ⟨M1, m4, m5, q1, q2, q3, q4⟩ := lay_one (L := L) (d := d) (l3 := none) (l4 := l4) (l5 := l5) hn ht hb hsv hgv hB hgl h4 h65 h64 h0 hR k1 (smL_mem k2) hM
    have hR1 : RWs M1 (exL n r) := ⟨hR.1, fun j hj => by rw [q3]; exact hR.2 j hj⟩
    have cx := c_nextRow (L := L) (d := d + 1) hn hR1
    rw [noB_n (show noB n (exL n r) = true from hch)] at cx
    dsimp only at cx
    have h41 : M1 63 4 = (n : Int) := by rw [q2.2 4 (by decide) (by decide)]; exact h4
    refine ⟨M1, ?_, q2, q4⟩
    rw [q1, e120_201]
    simp (disch := first | omega | (exact Nat.le_of_ble_eq_true rfl) | assumption | rfl) only [e120_0, e120_1, e120_3, e120_6, e120_7, e120_8, e120_9, e120_11, e120_14, e120_15, e120_18, e120_19, e120_20, e120_21, e120_24, e120_27, e120_28, e120_30, e120_33, e120_34, e120_37, e120_40, e120_41, e120_44, e120_45, e120_48, e120_49, e120_52, e120_53, e120_54, e120_55, e120_58, e120_59, e120_60, e120_61, e120_64, e120_65, e120_66, e120_68, e120_70, e120_71, e120_74, e120_77, e120_78, e120_81, e120_82, e120_83, e120_86, e120_88, e120_89, e120_90, e120_91, e120_93, e120_94, e120_97, e120_99, e120_100, e120_103, e120_104, e120_105, e120_108, e120_110, e120_111, e120_113, e120_116, e120_117, e120_119, e120_120, e120_123, e120_124, e120_125, e120_128, e120_130, e120_131, e120_132, e120_133, e120_134, e120_135, e120_136, e120_139, e120_142, e120_145, e120_146, e120_149, e120_152, e120_153, e120_156, e120_157, e120_160, e120_163, e120_164, e120_165, e120_168, e120_171, e120_172, e120_174, e120_176, e120_178, e120_181, e120_182, e120_185, e120_187, e120_188, e120_191, e120_193, e120_194, e120_195, e120_198, e120_202, e120_203, e120_206, e120_209, e120_210, e120_213, gf_63_4, h41, cx, ↓reduceIte, true_and, and_true, false_and, and_false, bindS, tL0, tL1, app0, app1, eq_self, Int.reduceEq, Int.reduceLT, Int.reduceLE, Int.reduceNeg, Int.reduceToNat]
    rw [e120_29]
    simp (disch := first | omega | (exact Nat.le_of_ble_eq_true rfl) | assumption | rfl) only [e120_0, e120_1, e120_3, e120_6, e120_7, e120_8, e120_9, e120_11, e120_14, e120_15, e120_18, e120_19, e120_20, e120_21, e120_24, e120_27, e120_28, e120_30, e120_33, e120_34, e120_37, e120_40, e120_41, e120_44, e120_45, e120_48, e120_49, e120_52, e120_53, e120_54, e120_55, e120_58, e120_59, e120_60, e120_61, e120_64, e120_65, e120_66, e120_68, e120_70, e120_71, e120_74, e120_77, e120_78, e120_81, e120_82, e120_83, e120_86, e120_88, e120_89, e120_90, e120_91, e120_93, e120_94, e120_97, e120_99, e120_100, e120_103, e120_104, e120_105, e120_108, e120_110, e120_111, e120_113, e120_116, e120_117, e120_119, e120_120, e120_123, e120_124, e120_125, e120_128, e120_130, e120_131, e120_132, e120_133, e120_134, e120_135, e120_136, e120_139, e120_142, e120_145, e120_146, e120_149, e120_152, e120_153, e120_156, e120_157, e120_160, e120_163, e120_164, e120_165, e120_168, e120_171, e120_172, e120_174, e120_176, e120_178, e120_181, e120_182, e120_185, e120_187, e120_188, e120_191, e120_193, e120_194, e120_195, e120_198, e120_202, e120_203, e120_206, e120_209, e120_210, e120_213, ↓reduceIte, true_and, and_true, false_and, and_false, bindS, tL0, tL1, app0, app1, eq_self, Int.reduceEq, Int.reduceLT, Int.reduceLE, Int.reduceNeg, Int.reduceToNat]
  | cons r' ps ih =>
    intro r st M l4 l5 hch hok h4 h65 h64 h0 hR hM
    have hch : (nxB n (exL n r) (exL n r') && CHL n r' ps) = true := hch
    rw [Bool.and_eq_true] at hch
    have hok2 : okNL n (r' :: ps) = true := by
      have h : (Nat.beq r.length n && smL n r && okNL n (r' :: ps)) = true := hok
      rw [Bool.and_eq_true] at h
      exact h.2
    obtain ⟨k1, k2⟩ := okNL_mem hok r List.mem_cons_self
    obtain ⟨M1, m4, m5, q1, q2, q3, q4⟩ := lay_one (L := L) (d := d) (l3 := none) (l4 := l4) (l5 := l5) hn ht hb hsv hgv hB hgl h4 h65 h64 h0 hR k1 (smL_mem k2) hM
    have hR1 : RWs M1 (exL n r) := ⟨hR.1, fun j hj => by rw [q3]; exact hR.2 j hj⟩
    have cx := c_nextRow (L := L) (d := d + 1) hn hR1
    rw [nxB_n hch.1] at cx
    dsimp only at cx
    obtain ⟨M2, x1, x2, x3⟩ := cx
    have h41 : M1 63 4 = (n : Int) := by rw [q2.2 4 (by decide) (by decide)]; exact h4
    have hF2 : FQs M1 M2 := ⟨fun a _ _ z _ => x3 a z, fun j _ _ => by rw [x3 63 (by decide)]⟩
    have hF := q2.tr hF2
    have hM2 : MRs n (if vlL tk [] r = true ∧ 0 + csL b tk r (gvG b given sv gl) < st.1 then (0 + csL b tk r (gvG b given sv gl), [] ++ r) else st) M2 := by
      unfold MRs at q4 ⊢
      rw [x3 63 (by decide), x3 70 (by decide)]
      exact q4
    obtain ⟨M3, y1, y2, y3⟩ := ih r' _ M2 m4 m5 hch.2 hok2 (by rw [hF.2 4 (by decide) (by decide)]; exact h4) (by rw [hF.1 65 (by decide) (by decide) (by decide) (by decide)]; exact h65) (by rw [hF.1 64 (by decide) (by decide) (by decide) (by decide)]; exact h64) (by rw [hF.2 0 (by decide) (by decide)]; exact h0) x2 hM2
    refine ⟨M3, ?_, hF.tr y2, y3⟩
    rw [q1, e120_201]
    simp (disch := first | omega | (exact Nat.le_of_ble_eq_true rfl) | assumption | rfl) only [e120_0, e120_1, e120_3, e120_6, e120_7, e120_8, e120_9, e120_11, e120_14, e120_15, e120_18, e120_19, e120_20, e120_21, e120_24, e120_27, e120_28, e120_30, e120_33, e120_34, e120_37, e120_40, e120_41, e120_44, e120_45, e120_48, e120_49, e120_52, e120_53, e120_54, e120_55, e120_58, e120_59, e120_60, e120_61, e120_64, e120_65, e120_66, e120_68, e120_70, e120_71, e120_74, e120_77, e120_78, e120_81, e120_82, e120_83, e120_86, e120_88, e120_89, e120_90, e120_91, e120_93, e120_94, e120_97, e120_99, e120_100, e120_103, e120_104, e120_105, e120_108, e120_110, e120_111, e120_113, e120_116, e120_117, e120_119, e120_120, e120_123, e120_124, e120_125, e120_128, e120_130, e120_131, e120_132, e120_133, e120_134, e120_135, e120_136, e120_139, e120_142, e120_145, e120_146, e120_149, e120_152, e120_153, e120_156, e120_157, e120_160, e120_163, e120_164, e120_165, e120_168, e120_171, e120_172, e120_174, e120_176, e120_178, e120_181, e120_182, e120_185, e120_187, e120_188, e120_191, e120_193, e120_194, e120_195, e120_198, e120_202, e120_203, e120_206, e120_209, e120_210, e120_213, gf_63_4, h41, x1, ↓reduceIte, true_and, and_true, false_and, and_false, bindS, tL0, tL1, app0, app1, eq_self, Int.reduceEq, Int.reduceLT, Int.reduceLE, Int.reduceNeg, Int.reduceToNat]
    exact y1
theorem id_loop {l1 l2 l5 : Option PV} {l4 : Option PV} : ∀ (k i : Nat) (M : PM), i + k = 7 → (∀ j, j < i → M 69 j = (j : Int)) → ∃ M' m3, (∀ j : Nat, j < 7 → M' 69 j = (j : Int)) ∧ (∀ a, a ≠ 69 → M' a = M a) ∧ ev d 120 8 [some (.inr (.inr (some 63))), l1, l2, some (.inl (i : Int)), l4, l5] [] (SH L) M = ev d 120 27 [some (.inr (.inr (some 63))), l1, l2, m3, l4, l5] [] (SH L) M' := by
  intro k
  induction k with
  | zero =>
    intro i M hi h
    have hi : i = 7 := by omega
    subst hi
    refine ⟨M, some (.inl ((7 : Nat) : Int)), h, fun _ _ => rfl, ?_⟩
    rw [e120_8]
    simp only [e120_0, e120_1, e120_3, e120_6, e120_7, e120_9, e120_11, e120_14, e120_15, e120_18, e120_19, e120_20, e120_21, e120_24, e120_28, e120_29, e120_30, e120_33, e120_34, e120_37, e120_40, e120_41, e120_44, e120_45, e120_48, e120_49, e120_52, e120_53, e120_54, e120_55, e120_58, e120_59, e120_60, e120_61, e120_64, e120_65, e120_66, e120_68, e120_70, e120_71, e120_74, e120_77, e120_78, e120_81, e120_82, e120_83, e120_86, e120_88, e120_89, e120_90, e120_91, e120_93, e120_94, e120_97, e120_99, e120_100, e120_103, e120_104, e120_105, e120_108, e120_110, e120_111, e120_113, e120_116, e120_117, e120_119, e120_120, e120_123, e120_124, e120_125, e120_128, e120_130, e120_131, e120_132, e120_133, e120_134, e120_135, e120_136, e120_139, e120_142, e120_145, e120_146, e120_149, e120_152, e120_153, e120_156, e120_157, e120_160, e120_163, e120_164, e120_165, e120_168, e120_171, e120_172, e120_174, e120_176, e120_178, e120_181, e120_182, e120_185, e120_187, e120_188, e120_191, e120_193, e120_194, e120_195, e120_198, e120_201, e120_202, e120_203, e120_206, e120_209, e120_210, e120_213]
    rw [if_pos (by decide)]
  | succ k ih =>
    intro i M hi h
    have hle : ¬ (7 : Int) ≤ (i : Int) := by omega
    have p1 := fun v => aput_in (M := M) (ar_69 (L := L)) (i := (i : Int)) (x := v) (by omega) (by omega)
    simp only [tnN] at p1
    have wi := wr1 i (by omega)
    obtain ⟨M', m3, q1, q2, q3⟩ := ih (i + 1) (setC M 69 i (i : Int)) (by omega) (fun j hj => by
      by_cases hji : j = i
      · subst hji; rw [setC_s]
      · rw [setC_i hji]; exact h j (by omega))
    refine ⟨M', m3, q1, fun a ha => by rw [q2 a ha, setC_row ha], ?_⟩
    rw [e120_8]
    simp (disch := first | omega | (exact Nat.le_of_ble_eq_true rfl) | assumption | rfl) only [e120_0, e120_1, e120_3, e120_6, e120_7, e120_9, e120_11, e120_14, e120_15, e120_18, e120_19, e120_20, e120_21, e120_24, e120_28, e120_29, e120_30, e120_33, e120_34, e120_37, e120_40, e120_41, e120_44, e120_45, e120_48, e120_49, e120_52, e120_53, e120_54, e120_55, e120_58, e120_59, e120_60, e120_61, e120_64, e120_65, e120_66, e120_68, e120_70, e120_71, e120_74, e120_77, e120_78, e120_81, e120_82, e120_83, e120_86, e120_88, e120_89, e120_90, e120_91, e120_93, e120_94, e120_97, e120_99, e120_100, e120_103, e120_104, e120_105, e120_108, e120_110, e120_111, e120_113, e120_116, e120_117, e120_119, e120_120, e120_123, e120_124, e120_125, e120_128, e120_130, e120_131, e120_132, e120_133, e120_134, e120_135, e120_136, e120_139, e120_142, e120_145, e120_146, e120_149, e120_152, e120_153, e120_156, e120_157, e120_160, e120_163, e120_164, e120_165, e120_168, e120_171, e120_172, e120_174, e120_176, e120_178, e120_181, e120_182, e120_185, e120_187, e120_188, e120_191, e120_193, e120_194, e120_195, e120_198, e120_201, e120_202, e120_203, e120_206, e120_209, e120_210, e120_213, gf_63_15, hle, p1, wi, ↓reduceIte, true_and, and_true, false_and, and_false, bindS, tL0, tL1, app0, app1, eq_self, Int.reduceEq, Int.reduceLT, Int.reduceLE, Int.reduceNeg, Int.reduceToNat]
    exact q3
/-- the reference's layTalk: the best of all orders -/
theorem c_lay {B : Int} {M : PM} (hn : n ≤ 7) (ht : TKo tk n) (hb : 0 ≤ b ∧ b ≤ 99) (hsv : 0 ≤ sv ∧ sv ≤ 99) (hgv : given < 6) (hB : 0 ≤ B ∧ B ≤ 100000000) (hgl : BG gl B) (h4 : M 63 4 = (n : Int)) (h65 : M 65 = tk) (h64 : M 64 = gl) (h0 : M 63 0 = b) :
    ∃ M', den (d + 3) 120 [(.inr (.inr (some 63))), .inl given, .inl sv] (SH L) M = some (none, SH L, M') ∧ FQs M M' ∧ MRs n (foL b tk [] (gvG b given sv gl) 0 (1000000000, []) (pfL n n [])) M' := by
  obtain ⟨r, ps, o1, o2, o3, o4⟩ := orders hn
  generalize hP : setC M 63 17 (-6) = P
  have pj : ∀ j, j ≠ 17 → P 63 j = M 63 j := fun j hj => by rw [← hP, setC_i hj]
  have pr : ∀ a, a ≠ 63 → P a = M a := fun a ha => by rw [← hP, setC_row ha]
  have p17 : P 63 17 = -6 := by rw [← hP, setC_s]
  obtain ⟨N, m3, i1, i2, i3⟩ := id_loop (L := L) (d := d + 3) (l1 := some (.inl given)) (l2 := some (.inl sv)) (l4 := none) (l5 := none) 7 0 P (by omega) (fun j hj => absurd hj (Nat.not_lt_zero j))
  have hRN : RWs N (exL n r) := by
    rw [o2]
    refine ⟨rfl, fun j hj => ?_⟩
    rw [i1 j hj]
    have h : j = 0 ∨ j = 1 ∨ j = 2 ∨ j = 3 ∨ j = 4 ∨ j = 5 ∨ j = 6 := by omega
    rcases h with rfl | rfl | rfl | rfl | rfl | rfl | rfl <;> rfl
  have hMN : MRs n (1000000000, []) N := ⟨Or.inl ⟨rfl, by rw [i2 63 (by decide)]; exact p17⟩, Or.inl rfl⟩
  obtain ⟨M', q1, q2, q3⟩ := lay_all (L := L) (d := d) hn ht hb hsv hgv hB hgl ps r (1000000000, []) N none none o3 o4 (by rw [i2 63 (by decide), pj 4 (by decide)]; exact h4) (by rw [i2 65 (by decide), pr 65 (by decide)]; exact h65) (by rw [i2 64 (by decide), pr 64 (by decide)]; exact h64) (by rw [i2 63 (by decide), pj 0 (by decide)]; exact h0) hRN hMN
  rw [o1]
  have hF : FQs M N := ⟨fun a x _ z _ => by rw [i2 a z, pr a x], fun j _ y => by rw [i2 63 (by decide), pj j y]⟩
  refine ⟨M', ?_, hF.tr q2, q3⟩
  unfold den
  rw [show ent 120 [(.inr (.inr (some 63))), .inl given, .inl sv] = [some (.inr (.inr (some 63))), some (.inl given), some (.inl sv), none, none, none] from rfl]
  simp (disch := first | omega | (exact Nat.le_of_ble_eq_true rfl) | assumption | rfl) only [e120_0, e120_1, e120_3, e120_6, e120_7, e120_9, e120_11, e120_14, e120_15, e120_18, e120_19, e120_20, e120_21, e120_24, e120_28, e120_30, e120_33, e120_34, e120_37, e120_40, e120_41, e120_44, e120_45, e120_48, e120_49, e120_52, e120_53, e120_54, e120_55, e120_58, e120_59, e120_60, e120_61, e120_64, e120_65, e120_66, e120_70, e120_71, e120_74, e120_77, e120_78, e120_81, e120_82, e120_83, e120_86, e120_88, e120_89, e120_90, e120_91, e120_93, e120_94, e120_97, e120_99, e120_100, e120_103, e120_104, e120_105, e120_108, e120_110, e120_111, e120_113, e120_116, e120_117, e120_119, e120_120, e120_123, e120_124, e120_125, e120_128, e120_130, e120_131, e120_132, e120_133, e120_134, e120_135, e120_136, e120_139, e120_142, e120_146, e120_149, e120_152, e120_153, e120_156, e120_157, e120_160, e120_163, e120_164, e120_165, e120_168, e120_171, e120_172, e120_176, e120_178, e120_181, e120_182, e120_185, e120_187, e120_188, e120_191, e120_193, e120_194, e120_195, e120_198, e120_202, e120_203, e120_206, e120_209, e120_210, e120_213, pi_63_17, hP, ↓reduceIte, true_and, and_true, false_and, and_false, bindS, tL0, tL1, app0, app1, eq_self, Int.reduceEq, Int.reduceLT, Int.reduceLE, Int.reduceNeg, Int.reduceToNat]
  rw [show (some (.inl (0 : Int)) : Option PV) = some (.inl ((0 : Nat) : Int)) from rfl, i3]
  rw [e120_27, e120_28]
  exact q1
end
