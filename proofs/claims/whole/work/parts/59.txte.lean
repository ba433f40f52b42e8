/-! a text goes by: pure -/
def spk (pe : Nat → Int) (s : Int) : Int := if 6 ≤ s then pe (s - 6).toNat else s
def stG (b f : Int) (pe : Nat → Int) (s fi d : Int) (G : Nat → Int) : Nat → Int := if s = -2 then sleepG G else if s = -1 then passG b d (-1) G else fireG b d (if fi = 1 then f else 1) (spk pe s).toNat G
def can (pe : Nat → Int) (s fi : Int) (G : Nat → Int) : Bool := decide (s < 0) || decide (fi = 1) || decide (G (spk pe s).toNat ≤ 0)
def GA (b f : Int) (pe S F D G0 : Nat → Int) : Nat → (Nat → Int)
  | 0 => G0
  | j + 1 => stG b f pe (S j) (F j) (D j) (GA b f pe S F D G0 j)
def TA (D : Nat → Int) : Nat → Int
  | 0 => 0
  | j + 1 => TA D j + D j
def fb (c : Nat → Bool) : Nat → Nat → Int
  | 0, _ => -6
  | k + 1, j => if c j = true then fb c k (j + 1) else (j : Int)
def sp (c : Nat → Bool) : Nat → Nat → Nat
  | 0, j => j
  | k + 1, j => if c j = true then sp c k (j + 1) else j
def canA (b f : Int) (pe S F D G0 : Nat → Int) (j : Nat) : Bool := can pe (S j) (F j) (GA b f pe S F D G0 j)
/-- a part is sound -/
def OKP (pe : Nat → Int) (s fi d : Int) : Prop := (-2 ≤ s ∧ s ≤ 8) ∧ (0 ≤ d ∧ d ≤ 99) ∧ (s = -2 → d = 0) ∧ (0 ≤ s → (fi = 0 ∨ fi = 1) ∧ 0 ≤ spk pe s ∧ spk pe s < 6)
theorem fb_cases (c : Nat → Bool) : ∀ k j, fb c k j = -6 ∧ sp c k j = j + k ∧ (∀ i, j ≤ i → i < j + k → c i = true) ∨ 0 ≤ fb c k j := by
  intro k
  induction k with
  | zero => intro j; exact Or.inl ⟨rfl, rfl, fun i h1 h2 => by omega⟩
  | succ k ih =>
    intro j
    unfold fb sp
    by_cases h : c j = true
    · rw [if_pos h, if_pos h]
      rcases ih (j + 1) with ⟨q1, q2, q3⟩ | q
      · refine Or.inl ⟨q1, by omega, fun i h1 h2 => ?_⟩
        by_cases hi : i = j
        · rw [hi]; exact h
        · exact q3 i (by omega) (by omega)
      · exact Or.inr q
    · rw [if_neg h, if_neg h]
      exact Or.inr (by omega)
theorem sp_le (c : Nat → Bool) : ∀ k j, sp c k j ≤ j + k := by
  intro k
  induction k with
  | zero => intro j; exact Nat.le_refl _
  | succ k ih =>
    intro j
    unfold sp
    split
    · have := ih (j + 1); omega
    · omega
theorem fb_congr {c c' : Nat → Bool} : ∀ k j, (∀ i, i < j + k → c i = c' i) → fb c k j = fb c' k j ∧ sp c k j = sp c' k j := by
  intro k
  induction k with
  | zero => intro j _; exact ⟨rfl, rfl⟩
  | succ k ih =>
    intro j h
    have h2 := ih (j + 1) (fun i hi => h i (by omega))
    unfold fb sp
    rw [h j (by omega), h2.1, h2.2]
    exact ⟨rfl, rfl⟩
theorem speak_fire {b d : Int} {i : Nat} {G : Nat → Int} : speakG b d i G = fireG b d 1 i G := by
  unfold speakG fireG
  rw [Int.one_mul]
theorem pass_neg {b s p q : Int} {G : Nat → Int} (hp : p < 0) (hq : q < 0) : passG b s p G = passG b s q G := by
  funext i
  unfold passG
  have hp' : ¬ (i : Int) = p := by omega
  have hq' : ¬ (i : Int) = q := by omega
  by_cases c : i < 6 ∧ -b < G i
  · have e1 : i < 6 ∧ ¬ (i : Int) = p ∧ -b < G i := ⟨c.1, hp', c.2⟩
    have e2 : i < 6 ∧ ¬ (i : Int) = q ∧ -b < G i := ⟨c.1, hq', c.2⟩
    rw [if_pos e1, if_pos e2]
  · rw [if_neg (fun z => c ⟨z.1, z.2.2⟩), if_neg (fun z => c ⟨z.1, z.2.2⟩)]
theorem EqG.sleep {G G' : Nat → Int} (h : EqG G G') : EqG (sleepG G) (sleepG G') := fun p hp => by
  unfold sleepG
  rw [h p hp]
theorem EqG.st {b f : Int} {pe : Nat → Int} {s fi d : Int} {G G' : Nat → Int} (ho : OKP pe s fi d) (h : EqG G G') : EqG (stG b f pe s fi d G) (stG b f pe s fi d G') := by
  unfold stG
  by_cases h1 : s = -2
  · rw [if_pos h1, if_pos h1]; exact h.sleep
  · rw [if_neg h1, if_neg h1]
    by_cases h2 : s = -1
    · rw [if_pos h2, if_pos h2]; exact h.pass
    · rw [if_neg h2, if_neg h2]
      have := (ho.2.2.2 (by have := ho.1; omega)).2
      exact EqG.fire (by omega) h
theorem can_eq {pe : Nat → Int} {s fi d : Int} {G G' : Nat → Int} (ho : OKP pe s fi d) (h : EqG G G') : can pe s fi G = can pe s fi G' := by
  unfold can
  by_cases hs : s < 0
  · rw [decide_eq_true hs]; rfl
  · have := (ho.2.2.2 (by omega)).2
    rw [h _ (by omega)]
theorem sleep_b {B : Int} {G : Nat → Int} (hB : 0 ≤ B) (h : BG G B) : BG (sleepG G) B := by
  intro p hp
  have := h p hp
  unfold sleepG
  split <;> omega
theorem fire_b {b d f B : Int} {i : Nat} {G : Nat → Int} (hb : 0 ≤ b ∧ b ≤ 99) (hd : 0 ≤ d ∧ d ≤ 99) (hf : 1 ≤ f ∧ f ≤ 4) (h : BG G B) : BG (fireG b d f i G) (B + 400) := by
  intro p hp
  have hm : 0 ≤ f * d ∧ f * d ≤ 396 := by
    constructor
    · exact Int.mul_nonneg (by omega) (by omega)
    · calc f * d ≤ 4 * d := Int.mul_le_mul_of_nonneg_right hf.2 hd.1
        _ ≤ 396 := by omega
  have hz := passG_b (sp := (i : Int)) hb hd.1 h
  have h1 := hz p hp
  unfold fireG addG
  split
  · rename_i he
    subst he
    omega
  · omega
theorem st_b {b f B : Int} {pe : Nat → Int} {s fi d : Int} {G : Nat → Int} (hb : 0 ≤ b ∧ b ≤ 99) (hf : 1 ≤ f ∧ f ≤ 4) (hB : 0 ≤ B) (ho : OKP pe s fi d) (h : BG G B) : BG (stG b f pe s fi d G) (B + 400) := by
  unfold stG
  split
  · exact (sleep_b hB h).le (by omega)
  · split
    · exact (passG_b hb ho.2.1.1 h).le (by omega)
    · exact fire_b hb ho.2.1 (by split <;> omega) h
section
variable {b f : Int} {pe S F D G0 G0' : Nat → Int} {P : Nat}
theorem GA_b {B : Int} (hb : 0 ≤ b ∧ b ≤ 99) (hf : 1 ≤ f ∧ f ≤ 4) (hB : 0 ≤ B) (ho : ∀ j, j < P → OKP pe (S j) (F j) (D j)) (h : BG G0 B) : ∀ j, j ≤ P → BG (GA b f pe S F D G0 j) (B + 400 * j) := by
  intro j
  induction j with
  | zero => intro _; exact h.le (by omega)
  | succ j ih =>
    intro hj
    exact (st_b hb hf (by omega) (ho j (by omega)) (ih (by omega))).le (by omega)
theorem TA_b (ho : ∀ j, j < P → OKP pe (S j) (F j) (D j)) : ∀ j, j ≤ P → 0 ≤ TA D j ∧ TA D j ≤ 99 * j := by
  intro j
  induction j with
  | zero => intro _; exact ⟨Int.le_refl _, by simp [TA]⟩
  | succ j ih =>
    intro hj
    have h1 := ih (by omega)
    have h2 := (ho j (by omega)).2.1
    show 0 ≤ TA D j + D j ∧ TA D j + D j ≤ 99 * ((j + 1 : Nat) : Int)
    omega
theorem GA_E (ho : ∀ j, j < P → OKP pe (S j) (F j) (D j)) (h : EqG G0 G0') : ∀ j, j ≤ P → EqG (GA b f pe S F D G0 j) (GA b f pe S F D G0' j) := by
  intro j
  induction j with
  | zero => intro _; exact h
  | succ j ih =>
    intro hj
    exact EqG.st (ho j (by omega)) (ih (by omega))
theorem canA_E (ho : ∀ j, j < P → OKP pe (S j) (F j) (D j)) (h : EqG G0 G0') : ∀ j, j < P → canA b f pe S F D G0 j = canA b f pe S F D G0' j := by
  intro j hj
  exact can_eq (ho j hj) (GA_E ho h j (by omega))
end
/-! the class: a part goes by -/
theorem v_fire {d L : Nat} {M : PM} {G : Nat → Int} {T i x : Int} (h0 : 0 ≤ i) (h1 : i < 6) (hb : 0 ≤ M 37 2 ∧ M 37 2 ≤ 99) (hf : 1 ≤ M 37 3 ∧ M 37 3 ≤ 4) (hs : 0 ≤ x ∧ x ≤ 1000) (ht : 0 ≤ T ∧ T ≤ 500000000) (hg : BG G 500000000) : den (d + 2) 47 [(.inr (.inr (some 37))), .inl i, .inl x] (SH L) (vset M 37 G T) = some (none, SH L, vset M 37 (fireG (M 37 2) x (M 37 3) i.toNat G) (T + x)) := by
  have h := c_callFire (M := vset M 37 G T) (d := d) (vl_37 (L := L)) (i := i) (x := x) h0 h1 (by rw [vs_2]; exact hb) (by rw [vs_3]; exact hf) hs (by rw [vs_T]; exact ht) (by rw [vs_G]; exact hg)
  rw [vs_G, vs_T, vs_2, vs_3, vs_vs] at h
  exact h
theorem v_sleep {d L : Nat} {M : PM} {G : Nat → Int} {T : Int} : den (d + 1) 49 [(.inr (.inr (some 37)))] (SH L) (vset M 37 G T) = some (none, SH L, vset M 37 (sleepG G) T) := by
  have h := c_sleep (M := vset M 37 G T) (d := d) (vl_37 (L := L))
  rw [vs_G, vs_T, vs_vs] at h
  exact h
section
variable {d L P : Nat} {MT : PM} {b f : Int} {pe S F D G0 : Nat → Int}
theorem c_part {G : Nat → Int} {T : Int} {j : Nat} (hj : j < 60) (hb : MT 37 2 = b) (hf : MT 37 3 = f) (bb : 0 ≤ b ∧ b ≤ 99) (bf : 1 ≤ f ∧ f ≤ 4) (hpe : MT 62 = pe) (hS : MT 34 = S) (hF : MT 35 = F) (hD : MT 36 = D) (ho : OKP pe (S j) (F j) (D j)) (ht : 0 ≤ T ∧ T ≤ 400000000) (hg : BG G 400000000) :
    den (d + 3) 33 [(.inr (.inr (some 32))), .inl (j : Int), (.inr (.inr (some 37))), (.inr (.inr (some 62)))] (SH L) (vset MT 37 G T) = some (some (.inl (if can pe (S j) (F j) G = true then 1 else 0)), SH L, if can pe (S j) (F j) G = true then vset MT 37 (stG b f pe (S j) (F j) (D j) G) (T + D j) else vset MT 37 G T) := by
  obtain ⟨o1, o2, o3, o4⟩ := ho
  have o37 := io_37 (L := L)
  have g34 := c_at_in (M := vset MT 37 G T) (d := d + 2) (ar_34 (L := L)) (i := (j : Int)) (by omega) (by omega)
  have g35 := c_at_in (M := vset MT 37 G T) (d := d + 2) (ar_35 (L := L)) (i := (j : Int)) (by omega) (by omega)
  have g36 := c_at_in (M := vset MT 37 G T) (d := d + 2) (ar_36 (L := L)) (i := (j : Int)) (by omega) (by omega)
  rw [tnN, v_row (by decide) (by decide), hS] at g34
  rw [tnN, v_row (by decide) (by decide), hF] at g35
  rw [tnN, v_row (by decide) (by decide), hD] at g36
  generalize S j = s at *
  generalize F j = fi at *
  generalize D j = dd at *
  unfold den
  rw [show ent 33 [(.inr (.inr (some 32))), .inl (j : Int), (.inr (.inr (some 37))), (.inr (.inr (some 62)))] = [some (.inr (.inr (some 32))), some (.inl (j : Int)), some (.inr (.inr (some 37))), some (.inr (.inr (some 62))), none, none, none] from rfl]
  by_cases s2 : s = -2
  · have hd0 := o3 s2
    subst s2
    have c := v_sleep (d := d + 1) (L := L) (M := MT) (G := G) (T := T)
    have e : can pe (-2) fi G = true := by unfold can; simp
    simp (disch := first | omega | (exact Nat.le_of_ble_eq_true rfl) | assumption | rfl) only [e33_0, e33_1, e33_4, e33_5, e33_8, e33_10, e33_11, e33_14, e33_15, e33_18, e33_20, e33_22, e33_24, e33_27, e33_28, e33_31, e33_32z, e33_32o, e33_32, e33_33, e33_35, e33_36, e33_39, e33_40, e33_42, e33_45, e33_46z, e33_46o, e33_46, e33_47, e33_49, e33_51, e33_54, e33_55, e33_57, e33_59, e33_60, e33_63, e33_66, e33_68, e33_70, e33_71, e33_74, e33_75, e33_78, e33_79, e33_82, e33_83, e33_85, e33_87, e33_90, e33_91z, e33_91o, e33_91, e33_92, e33_93, e33_95, e33_98, e33_101, e33_102z, e33_102o, e33_102, e33_103, e33_104, e33_106, e33_108, e33_111, e33_112z, e33_112o, e33_112, gf_32_2, gf_32_4, g34, g36, c, ↓reduceIte, true_and, and_true, false_and, and_false, bindS, tL0, tL1, app0, app1, eq_self, Int.reduceEq, Int.reduceLT, Int.reduceLE, Int.reduceNeg, Int.reduceToNat]
    rw [e, if_pos rfl, if_pos rfl, hd0, Int.add_zero]
    rfl
  by_cases s1 : s = -1
  · subst s1
    have c := v_silence (d := d) (L := L) (M := MT) (G := G) (T := T) (x := dd) (by rw [hb]; exact bb) (by omega) (by omega) (hg.le (by omega))
    rw [hb] at c
    have e : can pe (-1) fi G = true := by unfold can; simp
    simp (disch := first | omega | (exact Nat.le_of_ble_eq_true rfl) | assumption | rfl) only [e33_0, e33_1, e33_4, e33_5, e33_8, e33_10, e33_11, e33_14, e33_15, e33_18, e33_20, e33_22, e33_24, e33_27, e33_28, e33_31, e33_32z, e33_32o, e33_32, e33_33, e33_35, e33_36, e33_39, e33_40, e33_42, e33_45, e33_46z, e33_46o, e33_46, e33_47, e33_49, e33_51, e33_54, e33_55, e33_57, e33_59, e33_60, e33_63, e33_66, e33_68, e33_70, e33_71, e33_74, e33_75, e33_78, e33_79, e33_82, e33_83, e33_85, e33_87, e33_90, e33_91z, e33_91o, e33_91, e33_92, e33_93, e33_95, e33_98, e33_101, e33_102z, e33_102o, e33_102, e33_103, e33_104, e33_106, e33_108, e33_111, e33_112z, e33_112o, e33_112, gf_32_2, gf_32_4, g34, g36, c, ↓reduceIte, true_and, and_true, false_and, and_false, bindS, tL0, tL1, app0, app1, eq_self, Int.reduceEq, Int.reduceLT, Int.reduceLE, Int.reduceNeg, Int.reduceToNat]
    rw [e, if_pos rfl, if_pos rfl]
    rfl
  obtain ⟨hfi, hp0, hp6⟩ := o4 (by omega)
  have est : stG b f pe s fi dd G = fireG b dd (if fi = 1 then f else 1) (spk pe s).toNat G := by
    unfold stG; rw [if_neg s2, if_neg s1]
  have ecan : can pe s fi G = (decide (fi = 1) || decide (G (spk pe s).toNat ≤ 0)) := by
    unfold can; rw [decide_eq_false (by omega : ¬ s < 0)]; rfl
  have cF := v_fire (d := d) (L := L) (M := MT) (G := G) (T := T) (i := spk pe s) (x := dd) hp0 hp6 (by rw [hb]; exact bb) (by rw [hf]; exact bf) (by omega) (by omega) (hg.le (by omega))
  have cS := v_speak (d := d) (L := L) (M := MT) (G := G) (T := T) (i := spk pe s) (x := dd) hp0 hp6 (by rw [hb]; exact bb) (by omega) (by omega) (hg.le (by omega))
  have cI := v_free (d := d) (L := L) (M := MT) (G := G) (T := T) (i := spk pe s) hp0 hp6
  rw [hb, hf] at cF
  rw [hb, speak_fire] at cS
  rw [est, ecan]
  by_cases h6 : 6 ≤ s
  · have hl : ¬ s < 6 := by omega
    have w : wr (s - 6) = s - 6 := wr_id (by omega) (by omega)
    have g62 := c_at_in (M := vset MT 37 G T) (d := d + 2) (ar_62 (L := L)) (i := s - 6) (by omega) (by omega)
    rw [v_row (by decide) (by decide), hpe, show pe (s - 6).toNat = spk pe s from (if_pos h6).symm] at g62
    rcases hfi with rfl | rfl
    · by_cases hg0 : G (spk pe s).toNat ≤ 0
      · simp (disch := first | omega | (exact Nat.le_of_ble_eq_true rfl) | assumption | rfl) only [e33_0, e33_1, e33_4, e33_5, e33_8, e33_10, e33_11, e33_14, e33_15, e33_18, e33_20, e33_22, e33_24, e33_27, e33_28, e33_31, e33_32z, e33_32o, e33_32, e33_33, e33_35, e33_36, e33_39, e33_40, e33_42, e33_45, e33_46z, e33_46o, e33_46, e33_47, e33_49, e33_51, e33_54, e33_55, e33_57, e33_59, e33_60, e33_63, e33_66, e33_68, e33_70, e33_71, e33_74, e33_75, e33_78, e33_79, e33_82, e33_83, e33_85, e33_87, e33_90, e33_91z, e33_91o, e33_91, e33_92, e33_93, e33_95, e33_98, e33_101, e33_102z, e33_102o, e33_102, e33_103, e33_104, e33_106, e33_108, e33_111, e33_112z, e33_112o, e33_112, gf_32_2, gf_32_3, gf_32_4, g34, g35, g36, g62, s1, s2, hl, w, cI, cS, hg0, ↓reduceIte, true_and, and_true, false_and, and_false, bindS, tL0, tL1, app0, app1, eq_self, Int.reduceEq, Int.reduceLT, Int.reduceLE, Int.reduceNeg, Int.reduceToNat]
        simp
      · simp (disch := first | omega | (exact Nat.le_of_ble_eq_true rfl) | assumption | rfl) only [e33_0, e33_1, e33_4, e33_5, e33_8, e33_10, e33_11, e33_14, e33_15, e33_18, e33_20, e33_22, e33_24, e33_27, e33_28, e33_31, e33_32z, e33_32o, e33_32, e33_33, e33_35, e33_36, e33_39, e33_40, e33_42, e33_45, e33_46z, e33_46o, e33_46, e33_47, e33_49, e33_51, e33_54, e33_55, e33_57, e33_59, e33_60, e33_63, e33_66, e33_68, e33_70, e33_71, e33_74, e33_75, e33_78, e33_79, e33_82, e33_83, e33_85, e33_87, e33_90, e33_91z, e33_91o, e33_91, e33_92, e33_93, e33_95, e33_98, e33_101, e33_102z, e33_102o, e33_102, e33_103, e33_104, e33_106, e33_108, e33_111, e33_112z, e33_112o, e33_112, gf_32_2, gf_32_3, gf_32_4, g34, g35, g36, g62, s1, s2, hl, w, cI, cS, hg0, ↓reduceIte, true_and, and_true, false_and, and_false, bindS, tL0, tL1, app0, app1, eq_self, Int.reduceEq, Int.reduceLT, Int.reduceLE, Int.reduceNeg, Int.reduceToNat]
        simp
    · simp (disch := first | omega | (exact Nat.le_of_ble_eq_true rfl) | assumption | rfl) only [e33_0, e33_1, e33_4, e33_5, e33_8, e33_10, e33_11, e33_14, e33_15, e33_18, e33_20, e33_22, e33_24, e33_27, e33_28, e33_31, e33_32z, e33_32o, e33_32, e33_33, e33_35, e33_36, e33_39, e33_40, e33_42, e33_45, e33_46z, e33_46o, e33_46, e33_47, e33_49, e33_51, e33_54, e33_55, e33_57, e33_59, e33_60, e33_63, e33_66, e33_68, e33_70, e33_71, e33_74, e33_75, e33_78, e33_79, e33_82, e33_83, e33_85, e33_87, e33_90, e33_91z, e33_91o, e33_91, e33_92, e33_93, e33_95, e33_98, e33_101, e33_102z, e33_102o, e33_102, e33_103, e33_104, e33_106, e33_108, e33_111, e33_112z, e33_112o, e33_112, gf_32_2, gf_32_3, gf_32_4, g34, g35, g36, g62, s1, s2, hl, w, cF, ↓reduceIte, true_and, and_true, false_and, and_false, bindS, tL0, tL1, app0, app1, eq_self, Int.reduceEq, Int.reduceLT, Int.reduceLE, Int.reduceNeg, Int.reduceToNat]
      simp
  · have hl : s < 6 := by omega
    rw [show spk pe s = s from if_neg h6] at *
    rcases hfi with rfl | rfl
    · by_cases hg0 : G s.toNat ≤ 0
      · simp (disch := first | omega | (exact Nat.le_of_ble_eq_true rfl) | assumption | rfl) only [e33_0, e33_1, e33_4, e33_5, e33_8, e33_10, e33_11, e33_14, e33_15, e33_18, e33_20, e33_22, e33_24, e33_27, e33_28, e33_31, e33_32z, e33_32o, e33_32, e33_33, e33_35, e33_36, e33_39, e33_40, e33_42, e33_45, e33_46z, e33_46o, e33_46, e33_47, e33_49, e33_51, e33_54, e33_55, e33_57, e33_59, e33_60, e33_63, e33_66, e33_68, e33_70, e33_71, e33_74, e33_75, e33_78, e33_79, e33_82, e33_83, e33_85, e33_87, e33_90, e33_91z, e33_91o, e33_91, e33_92, e33_93, e33_95, e33_98, e33_101, e33_102z, e33_102o, e33_102, e33_103, e33_104, e33_106, e33_108, e33_111, e33_112z, e33_112o, e33_112, gf_32_2, gf_32_3, gf_32_4, g34, g35, g36, s1, s2, hl, cI, cS, hg0, ↓reduceIte, true_and, and_true, false_and, and_false, bindS, tL0, tL1, app0, app1, eq_self, Int.reduceEq, Int.reduceLT, Int.reduceLE, Int.reduceNeg, Int.reduceToNat]
        simp
      · simp (disch := first | omega | (exact Nat.le_of_ble_eq_true rfl) | assumption | rfl) only [e33_0, e33_1, e33_4, e33_5, e33_8, e33_10, e33_11, e33_14, e33_15, e33_18, e33_20, e33_22, e33_24, e33_27, e33_28, e33_31, e33_32z, e33_32o, e33_32, e33_33, e33_35, e33_36, e33_39, e33_40, e33_42, e33_45, e33_46z, e33_46o, e33_46, e33_47, e33_49, e33_51, e33_54, e33_55, e33_57, e33_59, e33_60, e33_63, e33_66, e33_68, e33_70, e33_71, e33_74, e33_75, e33_78, e33_79, e33_82, e33_83, e33_85, e33_87, e33_90, e33_91z, e33_91o, e33_91, e33_92, e33_93, e33_95, e33_98, e33_101, e33_102z, e33_102o, e33_102, e33_103, e33_104, e33_106, e33_108, e33_111, e33_112z, e33_112o, e33_112, gf_32_2, gf_32_3, gf_32_4, g34, g35, g36, s1, s2, hl, cI, cS, hg0, ↓reduceIte, true_and, and_true, false_and, and_false, bindS, tL0, tL1, app0, app1, eq_self, Int.reduceEq, Int.reduceLT, Int.reduceLE, Int.reduceNeg, Int.reduceToNat]
        simp
    · simp (disch := first | omega | (exact Nat.le_of_ble_eq_true rfl) | assumption | rfl) only [e33_0, e33_1, e33_4, e33_5, e33_8, e33_10, e33_11, e33_14, e33_15, e33_18, e33_20, e33_22, e33_24, e33_27, e33_28, e33_31, e33_32z, e33_32o, e33_32, e33_33, e33_35, e33_36, e33_39, e33_40, e33_42, e33_45, e33_46z, e33_46o, e33_46, e33_47, e33_49, e33_51, e33_54, e33_55, e33_57, e33_59, e33_60, e33_63, e33_66, e33_68, e33_70, e33_71, e33_74, e33_75, e33_78, e33_79, e33_82, e33_83, e33_85, e33_87, e33_90, e33_91z, e33_91o, e33_91, e33_92, e33_93, e33_95, e33_98, e33_101, e33_102z, e33_102o, e33_102, e33_103, e33_104, e33_106, e33_108, e33_111, e33_112z, e33_112o, e33_112, gf_32_2, gf_32_3, gf_32_4, g34, g35, g36, s1, s2, hl, cF, ↓reduceIte, true_and, and_true, false_and, and_false, bindS, tL0, tL1, app0, app1, eq_self, Int.reduceEq, Int.reduceLT, Int.reduceLE, Int.reduceNeg, Int.reduceToNat]
      simp
theorem go_loop {T0 B : Int} (hP : P ≤ 60) (h5 : MT 32 5 = (P : Int)) (hb : MT 37 2 = b) (hf : MT 37 3 = f) (bb : 0 ≤ b ∧ b ≤ 99) (bf : 1 ≤ f ∧ f ≤ 4) (hpe : MT 62 = pe) (hS : MT 34 = S) (hF : MT 35 = F) (hD : MT 36 = D) (ho : ∀ j, j < P → OKP pe (S j) (F j) (D j)) (hT : 0 ≤ T0 ∧ T0 ≤ 300000000) (hB : 0 ≤ B ∧ B ≤ 300000000) (hg : BG G0 B) : ∀ (k j : Nat), j + k = P →
    ev (d + 4) 31 2 [some (.inr (.inr (some 32))), some (.inr (.inr (some 37))), some (.inr (.inr (some 62))), some (.inl (j : Int))] [] (SH L) (vset MT 37 (GA b f pe S F D G0 j) (T0 + TA D j)) = some (some (.inl (fb (canA b f pe S F D G0) k j)), SH L, vset MT 37 (GA b f pe S F D G0 (sp (canA b f pe S F D G0) k j)) (T0 + TA D (sp (canA b f pe S F D G0) k j))) := by
  intro k
  have o := io_32 (L := L)
  induction k with
  | zero =>
    intro j hj
    have hj : j = P := by omega
    subst hj
    have hle : (j : Int) ≤ (j : Int) := Int.le_refl _
    rw [e31_2]
    simp (disch := first | omega | (exact Nat.le_of_ble_eq_true rfl) | assumption | rfl) only [e31_0, e31_1, e31_3, e31_4, e31_7, e31_10, e31_11, e31_12, e31_13, e31_14, e31_17, e31_20, e31_21, e31_22, e31_25, e31_28, e31_30, gf_32_5, v_row, h5, hle, ↓reduceIte, true_and, and_true, false_and, and_false, bindS, tL0, tL1, app0, app1, eq_self, Int.reduceEq, Int.reduceLT, Int.reduceLE, Int.reduceNeg, Int.reduceToNat]
    rfl
  | succ k ih =>
    intro j hj
    have hlt : ¬ (P : Int) ≤ (j : Int) := by omega
    have hTA := TA_b ho j (by omega)
    have c := c_part (d := d) (L := L) (MT := MT) (G := GA b f pe S F D G0 j) (T := T0 + TA D j) (j := j) (by omega) hb hf bb bf hpe hS hF hD (ho j (by omega)) (by omega) ((GA_b bb bf hB.1 ho hg j (by omega)).le (by omega))
    have w := wr1 j (by omega)
    rw [show can pe (S j) (F j) (GA b f pe S F D G0 j) = canA b f pe S F D G0 j from rfl] at c
    unfold fb sp
    rw [e31_2]
    by_cases hc : canA b f pe S F D G0 j = true
    · simp only [if_pos hc] at c ⊢
      simp (disch := first | omega | (exact Nat.le_of_ble_eq_true rfl) | assumption | rfl) only [e31_0, e31_1, e31_3, e31_4, e31_7, e31_10, e31_11, e31_12, e31_13, e31_14, e31_17, e31_20, e31_21, e31_22, e31_25, e31_28, e31_30, gf_32_5, v_row, h5, hlt, c, w, ↓reduceIte, true_and, and_true, false_and, and_false, bindS, tL0, tL1, app0, app1, eq_self, Int.reduceEq, Int.reduceLT, Int.reduceLE, Int.reduceNeg, Int.reduceToNat]
      have h := ih (j + 1) (by omega)
      rw [show GA b f pe S F D G0 (j + 1) = stG b f pe (S j) (F j) (D j) (GA b f pe S F D G0 j) from rfl, show TA D (j + 1) = TA D j + D j from rfl, ← Int.add_assoc] at h
      exact h
    · simp only [if_neg hc] at c ⊢
      simp (disch := first | omega | (exact Nat.le_of_ble_eq_true rfl) | assumption | rfl) only [e31_0, e31_1, e31_3, e31_4, e31_7, e31_10, e31_11, e31_12, e31_13, e31_14, e31_17, e31_20, e31_21, e31_22, e31_25, e31_28, e31_30, gf_32_5, v_row, h5, hlt, c, ↓reduceIte, true_and, and_true, false_and, and_false, bindS, tL0, tL1, app0, app1, eq_self, Int.reduceEq, Int.reduceLT, Int.reduceLE, Int.reduceNeg, Int.reduceToNat]
theorem c_goes {T0 B : Int} (hP : P ≤ 60) (h5 : MT 32 5 = (P : Int)) (hb : MT 37 2 = b) (hf : MT 37 3 = f) (bb : 0 ≤ b ∧ b ≤ 99) (bf : 1 ≤ f ∧ f ≤ 4) (hpe : MT 62 = pe) (hS : MT 34 = S) (hF : MT 35 = F) (hD : MT 36 = D) (ho : ∀ j, j < P → OKP pe (S j) (F j) (D j)) (hT : 0 ≤ T0 ∧ T0 ≤ 300000000) (hB : 0 ≤ B ∧ B ≤ 300000000) (hg : BG G0 B) :
    den (d + 4) 31 [(.inr (.inr (some 32))), (.inr (.inr (some 37))), (.inr (.inr (some 62)))] (SH L) (vset MT 37 G0 T0) = some (some (.inl (fb (canA b f pe S F D G0) P 0)), SH L, vset MT 37 (GA b f pe S F D G0 (sp (canA b f pe S F D G0) P 0)) (T0 + TA D (sp (canA b f pe S F D G0) P 0))) := by
  have h := go_loop (d := d) (L := L) hP h5 hb hf bb bf hpe hS hF hD ho hT hB hg P 0 (by omega)
  rw [show TA D 0 = 0 from rfl, Int.add_zero, show GA b f pe S F D G0 0 = G0 from rfl] at h
  unfold den
  rw [show ent 31 [(.inr (.inr (some 32))), (.inr (.inr (some 37))), (.inr (.inr (some 62)))] = [some (.inr (.inr (some 32))), some (.inr (.inr (some 37))), some (.inr (.inr (some 62))), none] from rfl]
  simp (disch := first | omega | (exact Nat.le_of_ble_eq_true rfl) | assumption | rfl) only [e31_0, e31_1, e31_3, e31_4, e31_7, e31_10, e31_11, e31_12, e31_13, e31_14, e31_17, e31_20, e31_21, e31_22, e31_25, e31_28, e31_30, ↓reduceIte, true_and, and_true, false_and, and_false, bindS, tL0, tL1, app0, app1, eq_self, Int.reduceEq, Int.reduceLT, Int.reduceLE, Int.reduceNeg, Int.reduceToNat]
  exact h
end
