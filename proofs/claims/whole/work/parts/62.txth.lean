/-! the reference's text goes by -/
def byq (A i : Nat) : Int := if A = i + 3 then 36 else if A = i + 2 then 6 else 1
theorem byq_next {A i : Nat} (hA : A ≤ 3) (hi : i < A) : (if 1 < byq A i then byq A i / 6 else byq A i) = byq A (i + 1) := by
  unfold byq
  repeat' split
  all_goals omega
theorem byq_c {A i : Nat} : byq A i = 36 ∨ byq A i = 6 ∨ byq A i = 1 := by
  unfold byq
  repeat' split
  all_goals simp
def CA (w b f : Int) (pe S F D G0 : Nat → Int) : Nat → Int
  | 0 => 0
  | j + 1 => CA w b f pe S F D G0 j + (if S j = -2 then 0 else watI w (GA b f pe S F D G0 j) (D j) (if S j = -1 then -6 else spk pe (S j)))
theorem PK_ok {Z pe : Nat → Int} {s f d : Int} {q e : Nat} (hpe : 6 ≤ s → 0 ≤ pe (s - 6).toNat ∧ pe (s - 6).toNat < 6) (h : PK Z s f d q e) : OKP pe s f d := by
  rcases h with ⟨rfl, -, -, rfl⟩ | ⟨m, h1, h2, h3⟩
  · exact ⟨by decide, by decide, fun _ => rfl, fun h => absurd h (by decide)⟩
  · rcases h1 with ⟨rfl, -, -⟩ | ⟨hw, hf⟩
    · exact ⟨by decide, by omega, fun h => absurd h (by decide), fun h => absurd h (by decide)⟩
    · refine ⟨by omega, by omega, fun h => by omega, fun _ => ⟨by omega, ?_⟩⟩
      unfold spk
      by_cases h6 : 6 ≤ s
      · rw [if_pos h6]; exact hpe h6
      · rw [if_neg h6]; omega
theorem PK_first {Z : Nat → Int} {s f d : Int} {q e : Nat} (h : PK Z s f d q e) : ¬ (48 ≤ Z q ∧ Z q ≤ 57) := by
  rcases h with ⟨-, h, -, -⟩ | ⟨m, h1, -⟩
  · omega
  · rcases h1 with ⟨-, h, -⟩ | ⟨hw, -⟩
    · omega
    · omega
theorem PK_lt {Z : Nat → Int} {s f d : Int} {q e : Nat} (h : PK Z s f d q e) : q < e := by
  rcases h with ⟨-, -, h, -⟩ | ⟨m, h1, h2, h3⟩
  · omega
  · rcases h1 with ⟨-, -, h⟩ | ⟨-, h⟩
    · omega
    · omega
theorem pos_le {Z S F D : Nat → Int} {P n : Nat} {pos : Nat → Nat} (hp : pos P = n) (h : RP Z S F D P pos) : ∀ k j, j + k = P → pos j + k ≤ n := by
  intro k
  induction k with
  | zero =>
    intro j hj
    have hj : j = P := by omega
    rw [hj, hp]; exact Nat.le_refl _
  | succ k ih =>
    intro j hj
    have h1 := ih (j + 1) (by omega)
    have h2 := PK_lt (h j (by omega))
    omega
theorem qA_mono {S : Nat → Int} : ∀ k j, qA S j ≤ qA S (j + k) := by
  intro k
  induction k with
  | zero => intro j; exact Nat.le_refl _
  | succ k ih =>
    intro j
    have := ih j
    show qA S j ≤ qA S (j + k) + (if 6 ≤ S (j + k) then 1 else 0)
    omega
theorem CA_b {w b f : Int} {pe S F D G0 : Nat → Int} {P : Nat} (ho : ∀ j, j < P → OKP pe (S j) (F j) (D j)) : ∀ j, j ≤ P → 0 ≤ CA w b f pe S F D G0 j ∧ CA w b f pe S F D G0 j ≤ 99 * j := by
  intro j
  induction j with
  | zero => intro _; exact ⟨Int.le_refl _, by simp [CA]⟩
  | succ j ih =>
    intro hj
    have h1 := ih (by omega)
    have h2 := (ho j (by omega)).2.1
    have h3 := watI_b (w := w) (G := GA b f pe S F D G0 j) (sp := if S j = -1 then -6 else spk pe (S j)) h2.1
    show 0 ≤ CA w b f pe S F D G0 j + _ ∧ CA w b f pe S F D G0 j + _ ≤ 99 * ((j + 1 : Nat) : Int)
    split <;> omega
section
variable {d L n P A : Nat} {MQ : PM} {code b f : Int} {pe S F D G0 : Nat → Int} {pos : Nat → Nat}
theorem gt_loop {B : Int} (hn : n ≤ 60) (hP : P ≤ 60) (h8 : MQ 63 8 = (n : Int)) (hpn : pos P = n) (hR : RP (MQ 67) S F D P pos) (hq : ∀ j, j < P → 6 ≤ S j → S j = 6 + (qA S j : Int)) (hA : A = qA S P) (hA3 : A ≤ 3) (hc : 0 ≤ code ∧ code ≤ 1000) (ho : ∀ j, j < P → OKP pe (S j) (F j) (D j)) (hcode : ∀ i, i < A → pe i = code / byq A i % 6) (hb : MQ 63 0 = b) (hf : MQ 63 1 = f) (bb : 0 ≤ b ∧ b ≤ 99) (bf : 1 ≤ f ∧ f ≤ 4) (hw : MQ 63 12 < 6) (hB : 0 ≤ B ∧ B ≤ 300000000) (hg : BG G0 B) : ∀ (k j : Nat), j + k = P → ∀ (r : Int) (l5 l6 l7 : Option PV), ∃ r' : Int,
    ev (d + 3) 107 37 [some (.inr (.inr (some 63))), some (.inl code), some (.inl (byq A (qA S j))), some (.inl (j : Int)), some (.inl (pos j : Int)), l5, l6, l7] [] (SH L) (gset MQ (GA b f pe S F D G0 j) (TA D j) (CA (MQ 63 12) b f pe S F D G0 j) r) = some (some (.inl (fb (canA b f pe S F D G0) k j)), SH L, gset MQ (GA b f pe S F D G0 (sp (canA b f pe S F D G0) k j)) (TA D (sp (canA b f pe S F D G0) k j)) (CA (MQ 63 12) b f pe S F D G0 (sp (canA b f pe S F D G0) k j)) r') := by
  intro k
  induction k with
  | zero =>
    intro j hj r l5 l6 l7
    have hj : j = P := by omega
    subst hj
    refine ⟨r, ?_⟩
    have hle : (n : Int) ≤ (n : Int) := Int.le_refl _
    rw [hpn, e107_37]
    simp (disch := first | omega | (exact Nat.le_of_ble_eq_true rfl) | assumption | rfl) only [e107_0, e107_1, e107_4, e107_5, e107_6, e107_9, e107_10, e107_11, e107_12, e107_13, e107_14, e107_15, e107_18, e107_21, e107_22, e107_24, e107_25, e107_26, e107_29, e107_32, e107_33, e107_34, e107_35, e107_39, e107_40, e107_43, e107_46, e107_47, e107_50, e107_52, e107_53, e107_55, e107_58, e107_59, e107_63, e107_65, e107_68, e107_69, e107_72, e107_74, e107_75, e107_78, e107_80, e107_81, e107_84, e107_85, e107_88, e107_89, e107_92, e107_94, e107_95, e107_96, e107_99, e107_102, e107_105, e107_108, e107_109, e107_112, e107_114, e107_115, e107_117, e107_120, e107_121, e107_123, e107_124, e107_125, e107_128, e107_130, e107_131, e107_134, e107_136, e107_137, e107_139, e107_141, e107_144, e107_145, e107_147, e107_149, e107_152, e107_155, e107_156, e107_159, e107_161, e107_162, e107_164, e107_167, e107_168, e107_169, e107_170, e107_172, e107_173, e107_176, e107_177, e107_180, e107_182, e107_183, e107_185, e107_186, e107_188, e107_189, e107_192, e107_194, e107_195, e107_197, e107_200, e107_201, e107_202, e107_205, e107_206, e107_208, e107_209, e107_212, e107_213, e107_214, e107_215, e107_218, e107_220, e107_221, e107_222, e107_223, e107_225, e107_228, e107_229, e107_232, e107_233, e107_235, e107_236, e107_238, e107_241, e107_243, e107_244, e107_245, e107_248, e107_250, e107_251, e107_252, e107_255, e107_257, e107_258, e107_261, e107_263, e107_265, e107_268, e107_269, e107_272, e107_274, e107_275, e107_278, e107_279, e107_280, e107_281, e107_283, e107_285, e107_288, e107_289, e107_291, e107_293, e107_295, e107_298, e107_299, e107_302, e107_305, e107_306, e107_309, e107_312, e107_315, e107_317, gf_63_8, gs_m, h8, hle, ↓reduceIte, true_and, and_true, false_and, and_false, bindS, tL0, tL1, app0, app1, eq_self, Int.reduceEq, Int.reduceLT, Int.reduceLE, Int.reduceNeg, Int.reduceToNat]
    rfl
  | succ k ih =>
    intro j hj r l5 l6 l7
    have hjP : j < P := by omega
    have hK := hR j hjP
    obtain ⟨o1, o2, o3, o4⟩ := ho j hjP
    have hlt := PK_lt hK
    have hle := pos_le hpn hR k (j + 1) (by omega)
    have hx : pos (j + 1) < n → ¬ (48 ≤ MQ 67 (pos (j + 1)) ∧ MQ 67 (pos (j + 1)) ≤ 57) := by
      intro h
      by_cases hj1 : j + 1 < P
      · exact PK_first (hR (j + 1) hj1)
      · have : j + 1 = P := by omega
        rw [this, hpn] at h
        omega
    have hTA := TA_b ho j (by omega)
    have hCA := CA_b (w := MQ 63 12) (b := b) (f := f) (G0 := G0) ho j (by omega)
    have hGA := (GA_b bb bf hB.1 ho hg j (by omega)).le (B' := 400000000) (by omega)
    have ih' := ih (j + 1) (by omega)
    have eG : GA b f pe S F D G0 (j + 1) = stG b f pe (S j) (F j) (D j) (GA b f pe S F D G0 j) := rfl
    have eT : TA D (j + 1) = TA D j + D j := rfl
    have eC : CA (MQ 63 12) b f pe S F D G0 (j + 1) = CA (MQ 63 12) b f pe S F D G0 j + (if S j = -2 then 0 else watI (MQ 63 12) (GA b f pe S F D G0 j) (D j) (if S j = -1 then -6 else spk pe (S j))) := rfl
    have eQ : qA S (j + 1) = qA S j + (if 6 ≤ S j then 1 else 0) := rfl
    unfold fb sp
    rcases hK with ⟨h1, h2, h3, h4⟩ | ⟨m, h1, h2⟩
    · have hcan : canA b f pe S F D G0 j = true := by unfold canA can; rw [h1]; rfl
      rw [if_neg (by omega), Nat.add_zero] at eQ
      rw [show stG b f pe (S j) (F j) (D j) (GA b f pe S F D G0 j) = sleepG (GA b f pe S F D G0 j) by unfold stG; rw [if_pos h1]] at eG
      rw [if_pos h1, Int.add_zero] at eC
      rw [h4, Int.add_zero] at eT
      rw [if_pos hcan, if_pos hcan]
      obtain ⟨r', q⟩ := ih' r (some (.inl 6)) l6 l7
      refine ⟨r', ?_⟩
      rw [x_night (n := n) (by omega) hn h8 h2 (by omega)]
      rw [eG, eT, eC, eQ, h3] at q
      exact q
    rcases h1 with ⟨h1, h3, rfl⟩ | ⟨hwh, hfi⟩
    · have hcan : canA b f pe S F D G0 j = true := by unfold canA can; rw [h1]; rfl
      rw [if_neg (by omega), Nat.add_zero] at eQ
      rw [show stG b f pe (S j) (F j) (D j) (GA b f pe S F D G0 j) = passG b (D j) (-6) (GA b f pe S F D G0 j) by unfold stG; rw [if_neg (by omega), if_pos h1]; exact pass_neg (by decide) (by decide)] at eG
      rw [if_neg (by omega), if_pos h1] at eC
      rw [if_pos hcan, if_pos hcan]
      obtain ⟨r', q⟩ := ih' (pos (j + 1) : Int) (some (.inl (D j))) l6 l7
      refine ⟨r', ?_⟩
      rw [x_dot (n := n) (by omega) hn h8 h3 (by omega) (by omega) h2 hx (by rw [hb]; exact bb) hw o2 (by omega) (by omega) hGA, hb]
      rw [eG, eT, eC, eQ] at q
      exact q
    · have hs0 : 0 ≤ S j := by omega
      obtain ⟨-, hp0, hp6⟩ := o4 hs0
      rw [if_neg (by omega), if_neg (by omega)] at eC
      have eG' : stG b f pe (S j) (F j) (D j) (GA b f pe S F D G0 j) = fireG b (D j) (if F j = 1 then f else 1) (spk pe (S j)).toNat (GA b f pe S F D G0 j) := by unfold stG; rw [if_neg (by omega), if_neg (by omega)]
      rw [eG'] at eG
      have hqn : pos j < n := by omega
      have ph : ev (d + 3) 107 37 [some (.inr (.inr (some 63))), some (.inl code), some (.inl (byq A (qA S j))), some (.inl (j : Int)), some (.inl (pos j : Int)), l5, l6, l7] [] (SH L) (gset MQ (GA b f pe S F D G0 j) (TA D j) (CA (MQ 63 12) b f pe S F D G0 j) r) = ev (d + 3) 107 214 [some (.inr (.inr (some 63))), some (.inl code), some (.inl (byq A (qA S (j + 1)))), some (.inl (j : Int)), some (.inl (pos j : Int)), some (.inl (spk pe (S j))), l6, l7] [] (SH L) (gset MQ (GA b f pe S F D G0 j) (TA D j) (CA (MQ 63 12) b f pe S F D G0 j) r) := by
        rcases hwh with ⟨a1, a2, a3⟩ | ⟨a1, a2, a3⟩
        · rw [if_neg (by omega), Nat.add_zero] at eQ
          rw [x_letter (n := n) hqn hn h8 (by omega), eQ, show spk pe (S j) = MQ 67 (pos j) - 65 by unfold spk; rw [if_neg (by omega)]; omega]
          rfl
        · rw [if_pos (by omega)] at eQ
          have hqA : qA S j < A := by
            have h := qA_mono (S := S) k (j + 1)
            rw [show j + 1 + k = P by omega] at h
            omega
          rw [x_q (n := n) hqn hn h8 a3 hc byq_c, byq_next hA3 hqA, eQ, ← hcode _ hqA, show spk pe (S j) = pe (qA S j) by unfold spk; rw [if_pos a1, hq j hjP a1]; congr 1; omega]
      rw [ph]
      rcases hfi with ⟨f0, rfl⟩ | ⟨f1, f2, rfl⟩
      · have hcan : canA b f pe S F D G0 j = decide (GA b f pe S F D G0 j (spk pe (S j)).toNat ≤ 0) := by
          unfold canA can
          rw [decide_eq_false (by omega : ¬ S j < 0), decide_eq_false (by omega : ¬ F j = 1)]
          rfl
        have x := x_say (d := d) (L := L) (n := n) (M := MQ) (G := GA b f pe S F D G0 j) (g := TA D j) (c := CA (MQ 63 12) b f pe S F D G0 j) (r := r) (code := code) (bq := byq A (qA S (j + 1))) (j := j) (q := pos j) (dd := D j) (l6 := l6) (l7 := l7) (e := pos (j + 1)) (p := spk pe (S j)) (by have := PK_lt (Or.inr ⟨pos j + 1, Or.inr ⟨hwh, Or.inl ⟨f0, rfl⟩⟩, h2⟩ : PK (MQ 67) (S j) (F j) (D j) (pos j) (pos (j + 1))); have := h2.2; omega) hn h8 ⟨hp0, hp6⟩ (by omega) (by omega) h2 hx (by rw [hb]; exact bb) hw o2 (by omega) (by omega) hGA
        rw [x]
        by_cases hg0 : GA b f pe S F D G0 j (spk pe (S j)).toNat ≤ 0
        · have hct : canA b f pe S F D G0 j = true := by rw [hcan]; exact decide_eq_true hg0
          rw [if_pos hct, if_pos hct, if_pos hg0]
          obtain ⟨r', q⟩ := ih' (pos (j + 1) : Int) (some (.inl (spk pe (S j)))) (some (.inl 0)) (some (.inl (D j)))
          refine ⟨r', ?_⟩
          rw [if_neg (by omega)] at eG
          rw [eG, eT, eC] at q
          rw [hb]
          exact q
        · have hct : ¬ canA b f pe S F D G0 j = true := by rw [hcan]; simp [hg0]
          rw [if_neg hct, if_neg hct, if_neg hg0]
          exact ⟨_, rfl⟩
      · have hct : canA b f pe S F D G0 j = true := by unfold canA can; simp [f1]
        have x := x_fire (d := d) (L := L) (n := n) (M := MQ) (G := GA b f pe S F D G0 j) (g := TA D j) (c := CA (MQ 63 12) b f pe S F D G0 j) (r := r) (code := code) (bq := byq A (qA S (j + 1))) (j := j) (q := pos j) (dd := D j) (l6 := l6) (l7 := l7) (e := pos (j + 1)) (p := spk pe (S j)) (by have := h2.2; omega) hn h8 ⟨hp0, hp6⟩ f2 (by omega) (by omega) h2 hx (by rw [hb]; exact bb) (by rw [hf]; exact bf) hw o2 (by omega) (by omega) hGA
        rw [x, if_pos hct, if_pos hct]
        obtain ⟨r', q⟩ := ih' (pos (j + 1) : Int) (some (.inl (spk pe (S j)))) (some (.inl 1)) (some (.inl (D j)))
        refine ⟨r', ?_⟩
        rw [if_pos f1] at eG
        rw [eG, eT, eC] at q
        rw [hb, hf]
        exact q
end
