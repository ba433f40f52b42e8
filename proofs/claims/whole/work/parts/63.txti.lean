/-! both let the text go by -/
theorem RD_ok {Z S F D pe : Nat → Int} {P A n : Nat} (h : RD Z S F D P A 0 n) (hpe : ∀ i, i < A → 0 ≤ pe i ∧ pe i < 6) : ∀ j, j < P → OKP pe (S j) (F j) (D j) := by
  obtain ⟨pos, ⟨h0, h1, h2, h3, h4, h5⟩, ⟨-, hk, hp⟩ | ⟨u, -, -, ⟨h, -⟩ | ⟨h, -⟩ | ⟨h, -⟩⟩⟩ := h
  · intro j hj
    refine PK_ok (fun h6 => ?_) (hp j hj)
    have hq : qA S j < A := by
      have h := qA_mono (S := S) (P - (j + 1)) (j + 1)
      rw [show j + 1 + (P - (j + 1)) = P by omega, ← h2] at h
      have : qA S (j + 1) = qA S j + (if 6 ≤ S j then 1 else 0) := rfl
      rw [if_pos h6] at this
      omega
    rw [show (S j - 6).toNat = qA S j by have := h5 j hj h6; omega]
    exact hpe _ hq
  · exact absurd h (by decide)
  · exact absurd h (by decide)
  · exact absurd h (by decide)
theorem CA_E {w b f : Int} {pe S F D G0 G0' : Nat → Int} {P : Nat} (hw : w < 6) (ho : ∀ j, j < P → OKP pe (S j) (F j) (D j)) (h : EqG G0 G0') : ∀ j, j ≤ P → CA w b f pe S F D G0 j = CA w b f pe S F D G0' j := by
  intro j
  induction j with
  | zero => intro _; rfl
  | succ j ih =>
    intro hj
    show CA w b f pe S F D G0 j + _ = CA w b f pe S F D G0' j + _
    rw [ih (by omega)]
    have hE := GA_E (b := b) (f := f) ho h j (by omega)
    have e : watI w (GA b f pe S F D G0 j) (D j) (if S j = -1 then -6 else spk pe (S j)) = watI w (GA b f pe S F D G0' j) (D j) (if S j = -1 then -6 else spk pe (S j)) := by
      unfold watI
      by_cases h0 : w < 0
      · rw [if_pos (Or.inl h0), if_pos (Or.inl h0)]
      · rw [hE w.toNat (by omega)]
    rw [e]
theorem c_goText {d L n P A : Nat} {MQ : PM} {code b f B : Int} {pe S F D : Nat → Int} (hn : n ≤ 60) (h8 : MQ 63 8 = (n : Int)) (hR : RD (MQ 67) S F D P A 0 n) (hc : 0 ≤ code ∧ code ≤ 1000) (ho : ∀ j, j < P → OKP pe (S j) (F j) (D j)) (hcode : ∀ i, i < A → pe i = code / byq A i % 6) (hb : MQ 63 0 = b) (hf : MQ 63 1 = f) (bb : 0 ≤ b ∧ b ≤ 99) (bf : 1 ≤ f ∧ f ≤ 4) (hw : MQ 63 12 < 6) (hB : 0 ≤ B ∧ B ≤ 300000000) (hg : BG (fil (MQ 64) (MQ 68) 6) B) : ∃ r' : Int,
    den (d + 3) 107 [(.inr (.inr (some 63))), .inl code] (SH L) MQ = some (some (.inl (fb (canA b f pe S F D (fil (MQ 64) (MQ 68) 6)) P 0)), SH L, gset MQ (GA b f pe S F D (fil (MQ 64) (MQ 68) 6) (sp (canA b f pe S F D (fil (MQ 64) (MQ 68) 6)) P 0)) (TA D (sp (canA b f pe S F D (fil (MQ 64) (MQ 68) 6)) P 0)) (CA (MQ 63 12) b f pe S F D (fil (MQ 64) (MQ 68) 6) (sp (canA b f pe S F D (fil (MQ 64) (MQ 68) 6)) P 0)) r') := by
  obtain ⟨pos, ⟨h0, h1, h2, h3, h4, h5⟩, ⟨-, hk, hp⟩ | ⟨u, -, -, ⟨h, -⟩ | ⟨h, -⟩ | ⟨h, -⟩⟩⟩ := hR
  · obtain ⟨r', q⟩ := gt_loop (d := d) (L := L) hn (by omega) h8 hk hp h5 h2 h3 hc ho hcode hb hf bb bf hw hB hg P 0 (by omega) (MQ 63 14) none none none
    refine ⟨r', ?_⟩
    rw [show TA D 0 = 0 from rfl, show qA S 0 = 0 from rfl, show CA (MQ 63 12) b f pe S F D (fil (MQ 64) (MQ 68) 6) 0 = 0 from rfl, show GA b f pe S F D (fil (MQ 64) (MQ 68) 6) 0 = fil (MQ 64) (MQ 68) 6 from rfl, h0] at q
    have o := io_63 (L := L)
    have cn := c_asNow (d := d + 2) (L := L) (M := MQ)
    rw [gs_ns (G' := fil (MQ 64) (MQ 68) 6) (g' := 0)] at cn
    have cz := fun M' (h8' : M' 63 8 = (n : Int)) => c_opens (L := L) (MQ := M') (d + 2) hn h8'
    have co := cz (gset MQ (fil (MQ 64) (MQ 68) 6) 0 0 (MQ 63 14)) (by rw [gs_m (by decide) (by decide) (by decide)]; exact h8)
    rw [gs_row (by decide) (by decide), h4] at co
    have w1 : wr (1 * 6) = 6 := rfl
    have w2 : wr (6 * 6) = 36 := rfl
    have w3 : wr (1 + 1) = 2 := rfl
    have w4 : wr (2 + 1) = 3 := rfl
    unfold den
    rw [show ent 107 [(.inr (.inr (some 63))), .inl code] = [some (.inr (.inr (some 63))), some (.inl code), none, none, none, none, none, none] from rfl]
    have hA4 : A = 0 ∨ A = 1 ∨ A = 2 ∨ A = 3 := by omega
    rcases hA4 with rfl | rfl | rfl | rfl
    · simp (disch := first | omega | (exact Nat.le_of_ble_eq_true rfl) | assumption | rfl) only [e107_0, e107_1, e107_4, e107_5, e107_6, e107_9, e107_10, e107_11, e107_12, e107_13, e107_14, e107_15, e107_18, e107_21, e107_22, e107_24, e107_25, e107_26, e107_29, e107_32, e107_33, e107_34, e107_35, e107_39, e107_40, e107_43, e107_46, e107_47, e107_50, e107_52, e107_53, e107_55, e107_58, e107_59, e107_63, e107_65, e107_68, e107_69, e107_72, e107_74, e107_75, e107_78, e107_80, e107_81, e107_84, e107_85, e107_88, e107_89, e107_92, e107_94, e107_95, e107_96, e107_99, e107_102, e107_105, e107_108, e107_109, e107_112, e107_114, e107_115, e107_117, e107_120, e107_121, e107_123, e107_124, e107_125, e107_128, e107_130, e107_131, e107_134, e107_136, e107_137, e107_139, e107_141, e107_144, e107_145, e107_147, e107_149, e107_152, e107_155, e107_156, e107_159, e107_161, e107_162, e107_164, e107_167, e107_168, e107_169, e107_170, e107_172, e107_173, e107_176, e107_177, e107_180, e107_182, e107_183, e107_185, e107_186, e107_188, e107_189, e107_192, e107_194, e107_195, e107_197, e107_200, e107_201, e107_202, e107_205, e107_206, e107_208, e107_209, e107_212, e107_213, e107_214, e107_215, e107_218, e107_220, e107_221, e107_222, e107_223, e107_225, e107_228, e107_229, e107_232, e107_233, e107_235, e107_236, e107_238, e107_241, e107_243, e107_244, e107_245, e107_248, e107_250, e107_251, e107_252, e107_255, e107_257, e107_258, e107_261, e107_263, e107_265, e107_268, e107_269, e107_272, e107_274, e107_275, e107_278, e107_279, e107_280, e107_281, e107_283, e107_285, e107_288, e107_289, e107_291, e107_293, e107_295, e107_298, e107_299, e107_302, e107_305, e107_306, e107_309, e107_312, e107_315, e107_317, cn, pi_63_13, gs_s13, co, show ((0 : Nat) : Int) ≤ 1 from by decide, w1, w2, w3, w4, ↓reduceIte, true_and, and_true, false_and, and_false, bindS, tL0, tL1, app0, app1, eq_self, Int.reduceEq, Int.reduceLT, Int.reduceLE, Int.reduceNeg, Int.reduceToNat]
      exact q
    · simp (disch := first | omega | (exact Nat.le_of_ble_eq_true rfl) | assumption | rfl) only [e107_0, e107_1, e107_4, e107_5, e107_6, e107_9, e107_10, e107_11, e107_12, e107_13, e107_14, e107_15, e107_18, e107_21, e107_22, e107_24, e107_25, e107_26, e107_29, e107_32, e107_33, e107_34, e107_35, e107_39, e107_40, e107_43, e107_46, e107_47, e107_50, e107_52, e107_53, e107_55, e107_58, e107_59, e107_63, e107_65, e107_68, e107_69, e107_72, e107_74, e107_75, e107_78, e107_80, e107_81, e107_84, e107_85, e107_88, e107_89, e107_92, e107_94, e107_95, e107_96, e107_99, e107_102, e107_105, e107_108, e107_109, e107_112, e107_114, e107_115, e107_117, e107_120, e107_121, e107_123, e107_124, e107_125, e107_128, e107_130, e107_131, e107_134, e107_136, e107_137, e107_139, e107_141, e107_144, e107_145, e107_147, e107_149, e107_152, e107_155, e107_156, e107_159, e107_161, e107_162, e107_164, e107_167, e107_168, e107_169, e107_170, e107_172, e107_173, e107_176, e107_177, e107_180, e107_182, e107_183, e107_185, e107_186, e107_188, e107_189, e107_192, e107_194, e107_195, e107_197, e107_200, e107_201, e107_202, e107_205, e107_206, e107_208, e107_209, e107_212, e107_213, e107_214, e107_215, e107_218, e107_220, e107_221, e107_222, e107_223, e107_225, e107_228, e107_229, e107_232, e107_233, e107_235, e107_236, e107_238, e107_241, e107_243, e107_244, e107_245, e107_248, e107_250, e107_251, e107_252, e107_255, e107_257, e107_258, e107_261, e107_263, e107_265, e107_268, e107_269, e107_272, e107_274, e107_275, e107_278, e107_279, e107_280, e107_281, e107_283, e107_285, e107_288, e107_289, e107_291, e107_293, e107_295, e107_298, e107_299, e107_302, e107_305, e107_306, e107_309, e107_312, e107_315, e107_317, cn, pi_63_13, gs_s13, co, show ((1 : Nat) : Int) ≤ 1 from by decide, w1, w2, w3, w4, ↓reduceIte, true_and, and_true, false_and, and_false, bindS, tL0, tL1, app0, app1, eq_self, Int.reduceEq, Int.reduceLT, Int.reduceLE, Int.reduceNeg, Int.reduceToNat]
      exact q
    · simp (disch := first | omega | (exact Nat.le_of_ble_eq_true rfl) | assumption | rfl) only [e107_0, e107_1, e107_4, e107_5, e107_6, e107_9, e107_10, e107_11, e107_12, e107_13, e107_14, e107_15, e107_18, e107_21, e107_22, e107_24, e107_25, e107_26, e107_29, e107_32, e107_33, e107_34, e107_35, e107_39, e107_40, e107_43, e107_46, e107_47, e107_50, e107_52, e107_53, e107_55, e107_58, e107_59, e107_63, e107_65, e107_68, e107_69, e107_72, e107_74, e107_75, e107_78, e107_80, e107_81, e107_84, e107_85, e107_88, e107_89, e107_92, e107_94, e107_95, e107_96, e107_99, e107_102, e107_105, e107_108, e107_109, e107_112, e107_114, e107_115, e107_117, e107_120, e107_121, e107_123, e107_124, e107_125, e107_128, e107_130, e107_131, e107_134, e107_136, e107_137, e107_139, e107_141, e107_144, e107_145, e107_147, e107_149, e107_152, e107_155, e107_156, e107_159, e107_161, e107_162, e107_164, e107_167, e107_168, e107_169, e107_170, e107_172, e107_173, e107_176, e107_177, e107_180, e107_182, e107_183, e107_185, e107_186, e107_188, e107_189, e107_192, e107_194, e107_195, e107_197, e107_200, e107_201, e107_202, e107_205, e107_206, e107_208, e107_209, e107_212, e107_213, e107_214, e107_215, e107_218, e107_220, e107_221, e107_222, e107_223, e107_225, e107_228, e107_229, e107_232, e107_233, e107_235, e107_236, e107_238, e107_241, e107_243, e107_244, e107_245, e107_248, e107_250, e107_251, e107_252, e107_255, e107_257, e107_258, e107_261, e107_263, e107_265, e107_268, e107_269, e107_272, e107_274, e107_275, e107_278, e107_279, e107_280, e107_281, e107_283, e107_285, e107_288, e107_289, e107_291, e107_293, e107_295, e107_298, e107_299, e107_302, e107_305, e107_306, e107_309, e107_312, e107_315, e107_317, cn, pi_63_13, gs_s13, co, show ¬ ((2 : Nat) : Int) ≤ 1 from by decide, show ((2 : Nat) : Int) ≤ 2 from by decide, w1, w2, w3, w4, ↓reduceIte, true_and, and_true, false_and, and_false, bindS, tL0, tL1, app0, app1, eq_self, Int.reduceEq, Int.reduceLT, Int.reduceLE, Int.reduceNeg, Int.reduceToNat]
      exact q
    · simp (disch := first | omega | (exact Nat.le_of_ble_eq_true rfl) | assumption | rfl) only [e107_0, e107_1, e107_4, e107_5, e107_6, e107_9, e107_10, e107_11, e107_12, e107_13, e107_14, e107_15, e107_18, e107_21, e107_22, e107_24, e107_25, e107_26, e107_29, e107_32, e107_33, e107_34, e107_35, e107_39, e107_40, e107_43, e107_46, e107_47, e107_50, e107_52, e107_53, e107_55, e107_58, e107_59, e107_63, e107_65, e107_68, e107_69, e107_72, e107_74, e107_75, e107_78, e107_80, e107_81, e107_84, e107_85, e107_88, e107_89, e107_92, e107_94, e107_95, e107_96, e107_99, e107_102, e107_105, e107_108, e107_109, e107_112, e107_114, e107_115, e107_117, e107_120, e107_121, e107_123, e107_124, e107_125, e107_128, e107_130, e107_131, e107_134, e107_136, e107_137, e107_139, e107_141, e107_144, e107_145, e107_147, e107_149, e107_152, e107_155, e107_156, e107_159, e107_161, e107_162, e107_164, e107_167, e107_168, e107_169, e107_170, e107_172, e107_173, e107_176, e107_177, e107_180, e107_182, e107_183, e107_185, e107_186, e107_188, e107_189, e107_192, e107_194, e107_195, e107_197, e107_200, e107_201, e107_202, e107_205, e107_206, e107_208, e107_209, e107_212, e107_213, e107_214, e107_215, e107_218, e107_220, e107_221, e107_222, e107_223, e107_225, e107_228, e107_229, e107_232, e107_233, e107_235, e107_236, e107_238, e107_241, e107_243, e107_244, e107_245, e107_248, e107_250, e107_251, e107_252, e107_255, e107_257, e107_258, e107_261, e107_263, e107_265, e107_268, e107_269, e107_272, e107_274, e107_275, e107_278, e107_279, e107_280, e107_281, e107_283, e107_285, e107_288, e107_289, e107_291, e107_293, e107_295, e107_298, e107_299, e107_302, e107_305, e107_306, e107_309, e107_312, e107_315, e107_317, cn, pi_63_13, gs_s13, co, show ¬ ((3 : Nat) : Int) ≤ 1 from by decide, show ¬ ((3 : Nat) : Int) ≤ 2 from by decide, show ((3 : Nat) : Int) ≤ 3 from by decide, w1, w2, w3, w4, ↓reduceIte, true_and, and_true, false_and, and_false, bindS, tL0, tL1, app0, app1, eq_self, Int.reduceEq, Int.reduceLT, Int.reduceLE, Int.reduceNeg, Int.reduceToNat]
      exact q
  · exact absurd h (by decide)
  · exact absurd h (by decide)
  · exact absurd h (by decide)
/-- the class's text goes by on the trial valley, the reference's likewise -/
theorem txt_go {L P A : Nat} {K : Int} {M : PM} {pe S F D : Nat → Int} (h : Inv K M) (hK : K ≤ 100000000) (hR : RD (M 67) S F D P A 0 (M 63 8).toNat) (h5 : M 32 5 = (P : Int)) (hS : M 34 = S) (hF : M 35 = F) (hD : M 36 = D) (hpe : M 62 = pe) (hA : ∀ i, i < A → 0 ≤ pe i ∧ pe i < 6) :
    (∀ d, den (d + 4) 31 [(.inr (.inr (some 32))), (.inr (.inr (some 37))), (.inr (.inr (some 62)))] (SH L) (tri M) = some (some (.inl (fb (canA (M 63 0) (M 63 1) pe S F D (tri M 38)) P 0)), SH L, vset (tri M) 37 (GA (M 63 0) (M 63 1) pe S F D (tri M 38) (sp (canA (M 63 0) (M 63 1) pe S F D (tri M 38)) P 0)) (M 3 1 + TA D (sp (canA (M 63 0) (M 63 1) pe S F D (tri M 38)) P 0))))
    ∧ ∀ (d : Nat) (MQ : PM) (code : Int), MQ 64 = M 64 → MQ 67 = M 67 → MQ 63 0 = M 63 0 → MQ 63 1 = M 63 1 → MQ 63 8 = M 63 8 → MQ 63 12 < 6 → (0 ≤ code ∧ code ≤ 1000) → (∀ i, i < A → pe i = code / byq A i % 6) → ∃ (r' : Int) (G' : Nat → Int), EqG (GA (M 63 0) (M 63 1) pe S F D (tri M 38) (sp (canA (M 63 0) (M 63 1) pe S F D (tri M 38)) P 0)) G' ∧ den (d + 3) 107 [(.inr (.inr (some 63))), .inl code] (SH L) MQ = some (some (.inl (fb (canA (M 63 0) (M 63 1) pe S F D (tri M 38)) P 0)), SH L, gset MQ G' (TA D (sp (canA (M 63 0) (M 63 1) pe S F D (tri M 38)) P 0)) (CA (MQ 63 12) (M 63 0) (M 63 1) pe S F D (tri M 38) (sp (canA (M 63 0) (M 63 1) pe S F D (tri M 38)) P 0)) r') := by
  have ho := RD_ok hR hA
  have hP : P ≤ (M 63 8).toNat := (RD_x hR).2.1
  have t1 := h.2.2.2.1.1
  have bb := h.1.1.2.1
  have bf := h.1.1.2.2.1
  have hT := tri_t h
  have hB0 : 0 ≤ K := by omega
  have hb64 : BG (tri M 38) K := (tri_B h).eq (tri_E h)
  refine ⟨fun d => ?_, fun d MQ code m64 m67 m0 m1 m8 mw hc hcode => ?_⟩
  · have g := c_goes (d := d) (L := L) (P := P) (MT := tri M) (b := M 63 0) (f := M 63 1) (pe := pe) (S := S) (F := F) (D := D) (G0 := tri M 38) (T0 := M 3 1) (B := K) (by omega) (by rw [tri_row (by decide) (by decide)]; exact h5) (tri_b h) (tri_3.trans h.1.2.2.2.1) bb bf (by rw [tri_row (by decide) (by decide)]; exact hpe) (by rw [tri_row (by decide) (by decide)]; exact hS) (by rw [tri_row (by decide) (by decide)]; exact hF) (by rw [tri_row (by decide) (by decide)]; exact hD) ho (by omega) (by omega) hb64
    rw [tri_self] at g
    exact g
  · have hE : EqG (tri M 38) (fil (MQ 64) (MQ 68) 6) := ((tri_E h).tr EqG.fil).tr (by rw [← m64]; exact EqG.fil.sym)
    obtain ⟨r', q⟩ := c_goText (d := d) (L := L) (n := (M 63 8).toNat) (P := P) (A := A) (MQ := MQ) (code := code) (b := M 63 0) (f := M 63 1) (B := K) (pe := pe) (S := S) (F := F) (D := D) (by omega) (by rw [m8]; omega) (by rw [m67]; exact hR) hc ho hcode m0 m1 bb bf mw (by omega) (hb64.eq hE.sym)
    have hcan := canA_E (b := M 63 0) (f := M 63 1) ho hE
    have hfb := fb_congr (c := canA (M 63 0) (M 63 1) pe S F D (tri M 38)) (c' := canA (M 63 0) (M 63 1) pe S F D (fil (MQ 64) (MQ 68) 6)) P 0 (fun i hi => hcan i (by omega))
    rw [← hfb.1, ← hfb.2] at q
    have hsp := sp_le (canA (M 63 0) (M 63 1) pe S F D (tri M 38)) P 0
    rw [← CA_E mw ho hE _ (by omega)] at q
    exact ⟨r', _, GA_E ho hE _ (by omega), q⟩
