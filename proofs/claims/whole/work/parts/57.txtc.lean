/-! what has been read: parts and signs -/
def qA (S : Nat → Int) : Nat → Nat
  | 0 => 0
  | j + 1 => qA S j + (if 6 ≤ S j then 1 else 0)
def cnt (Z : Nat → Int) : Nat → Nat
  | 0 => 0
  | j + 1 => cnt Z j + (if Z j = 63 then 1 else 0)
/-- the head of a part that has seconds -/
def HD (Z : Nat → Int) (s f : Int) (q e : Nat) : Prop := (s = -1 ∧ Z q = 46 ∧ e = q + 1) ∨ ((0 ≤ s ∧ s ≤ 5 ∧ Z q = 65 + s ∨ 6 ≤ s ∧ s ≤ 8 ∧ Z q = 63) ∧ (f = 0 ∧ e = q + 1 ∨ f = 1 ∧ Z (q + 1) = 33 ∧ e = q + 2))
def NB (Z : Nat → Int) (d : Int) (q e : Nat) : Prop := (49 ≤ Z q ∧ Z q ≤ 57) ∧ (e = q + 1 ∧ d = Z q - 48 ∨ e = q + 2 ∧ (48 ≤ Z (q + 1) ∧ Z (q + 1) ≤ 57) ∧ d = 10 * (Z q - 48) + Z (q + 1) - 48)
def PK (Z : Nat → Int) (s f d : Int) (q e : Nat) : Prop := (s = -2 ∧ Z q = 44 ∧ e = q + 1 ∧ d = 0) ∨ ∃ m, HD Z s f q m ∧ NB Z d m e
def WH (Z : Nat → Int) (s : Int) (q : Nat) : Prop := 0 ≤ s ∧ s ≤ 5 ∧ Z q = 65 + s ∨ 6 ≤ s ∧ s ≤ 8 ∧ Z q = 63
def R0 (Z : Nat → Int) (S F D : Nat → Int) (p a k : Nat) (pos : Nat → Nat) : Prop := pos 0 = 0 ∧ p ≤ k ∧ a = qA S p ∧ a ≤ 3 ∧ cnt Z k = a ∧ (∀ j, j < p → 6 ≤ S j → S j = 6 + (qA S j : Int))
def RP (Z : Nat → Int) (S F D : Nat → Int) (p : Nat) (pos : Nat → Nat) : Prop := ∀ j, j < p → PK Z (S j) (F j) (D j) (pos j) (pos (j + 1))
def RD (Z : Nat → Int) (S F D : Nat → Int) (p a : Nat) (x : Int) (k : Nat) : Prop := ∃ pos : Nat → Nat, R0 Z S F D p a k pos ∧
  (x = 0 ∧ pos p = k ∧ RP Z S F D p pos ∨ ∃ u, p = u + 1 ∧ RP Z S F D u pos ∧
    (x = 1 ∧ (∃ m, HD Z (S u) (F u) (pos u) m ∧ (49 ≤ Z m ∧ Z m ≤ 57) ∧ k = m + 1 ∧ D u = Z m - 48)
    ∨ x = 2 ∧ WH Z (S u) (pos u) ∧ F u = 0 ∧ k = pos u + 1
    ∨ x = 3 ∧ HD Z (S u) (F u) (pos u) k))
theorem qA_up {S : Nat → Int} {p : Nat} {v : Int} : ∀ j, j ≤ p → qA (up S p v) j = qA S j := by
  intro j
  induction j with
  | zero => intro _; rfl
  | succ j ih =>
    intro h
    show qA (up S p v) j + (if 6 ≤ up S p v j then 1 else 0) = qA S j + (if 6 ≤ S j then 1 else 0)
    rw [ih (by omega), up_i (by omega)]
section
variable {Z : Nat → Int} {S F D : Nat → Int} {p a k : Nat}
theorem RD_x {x : Int} (h : RD Z S F D p a x k) : (x = 0 ∨ x = 1 ∨ x = 2 ∨ x = 3) ∧ p ≤ k ∧ a ≤ 3 := by
  obtain ⟨pos, ⟨h0, h1, h2, h3, -⟩, ⟨rfl, -⟩ | ⟨u, -, -, ⟨rfl, -⟩ | ⟨rfl, -⟩ | ⟨rfl, -⟩⟩⟩ := h
  · exact ⟨Or.inl rfl, h1, h3⟩
  · exact ⟨Or.inr (Or.inl rfl), h1, h3⟩
  · exact ⟨Or.inr (Or.inr (Or.inl rfl)), h1, h3⟩
  · exact ⟨Or.inr (Or.inr (Or.inr rfl)), h1, h3⟩
theorem RD_u {x : Int} (h : RD Z S F D p a x k) (hx : ¬ x = 0) : ∃ u, p = u + 1 := by
  obtain ⟨pos, -, ⟨h, -⟩ | ⟨u, h, -⟩⟩ := h
  · exact absurd h hx
  · exact ⟨u, h⟩
theorem RP_pos {pos : Nat → Nat} {e : Nat} (h : RP Z S F D p pos) : RP Z S F D p (fun q => if q = p + 1 then e else pos q) := by
  intro j hj
  dsimp only
  rw [if_neg (by omega), if_neg (by omega)]
  exact h j hj
theorem RP_up {pos : Nat → Nat} {s f d : Int} (h : RP Z S F D p pos) : RP Z (up S p s) (up F p f) (up D p d) p pos := by
  intro j hj
  rw [up_i (by omega), up_i (by omega), up_i (by omega)]
  exact h j hj
theorem RP_upF {pos : Nat → Nat} {f : Int} (h : RP Z S F D p pos) : RP Z S (up F p f) D p pos := by
  intro j hj
  rw [up_i (by omega)]
  exact h j hj
theorem RP_upD {pos : Nat → Nat} {d : Int} (h : RP Z S F D p pos) : RP Z S F (up D p d) p pos := by
  intro j hj
  rw [up_i (by omega)]
  exact h j hj
theorem RP_end {pos : Nat → Nat} {e : Nat} (h : RP Z S F D p pos) (h2 : PK Z (S p) (F p) (D p) (pos p) e) : RP Z S F D (p + 1) (fun q => if q = p + 1 then e else pos q) := by
  intro j hj
  by_cases hjp : j = p
  · subst hjp
    dsimp only
    rw [if_neg (by omega), if_pos rfl]
    exact h2
  · exact RP_pos h j (by omega)
theorem RD_fin (h : RD Z S F D p a 1 k) : RD Z S F D p a 0 k := by
  obtain ⟨pos, ⟨h0, h1, h2, h3, h4, h5⟩, ⟨h, -⟩ | ⟨u, rfl, hp, ⟨-, m, m1, m2, rfl, m3⟩ | ⟨h, -⟩ | ⟨h, -⟩⟩⟩ := h
  · exact absurd h (by decide)
  · refine ⟨fun q => if q = u + 1 then m + 1 else pos q, ⟨?_, h1, h2, h3, h4, h5⟩, Or.inl ⟨rfl, ?_, RP_end hp (Or.inr ⟨m, m1, m2, Or.inl ⟨rfl, m3⟩⟩)⟩⟩
    · dsimp only; rw [if_neg (by omega)]; exact h0
    · dsimp only; rw [if_pos rfl]
  · exact absurd h (by decide)
  · exact absurd h (by decide)
theorem cnt_no (h : ¬ Z k = 63) : cnt Z (k + 1) = cnt Z k := by
  show cnt Z k + (if Z k = 63 then 1 else 0) = _
  rw [if_neg h]; rfl
theorem RD_A (h : RD Z S F D (p + 1) a 1 k) (hs : 48 ≤ Z k ∧ Z k ≤ 57) : (0 ≤ D p ∧ D p ≤ 9) ∧ RD Z S F (up D p (10 * D p + Z k - 48)) (p + 1) a 0 (k + 1) := by
  obtain ⟨pos, ⟨h0, h1, h2, h3, h4, h5⟩, ⟨h, -⟩ | ⟨u, hu, hp, ⟨-, m, m1, m2, rfl, m3⟩ | ⟨h, -⟩ | ⟨h, -⟩⟩⟩ := h
  · exact absurd h (by decide)
  · have : u = p := by omega
    subst this
    refine ⟨by omega, fun q => if q = u + 1 then m + 1 + 1 else pos q, ⟨?_, by omega, h2, h3, ?_, h5⟩, Or.inl ⟨rfl, ?_, RP_end (RP_upD hp) (Or.inr ⟨m, m1, m2, Or.inr ⟨rfl, hs, ?_⟩⟩)⟩⟩
    · dsimp only; rw [if_neg (by omega)]; exact h0
    · rw [cnt_no (by omega)]; exact h4
    · dsimp only; rw [if_pos rfl]
    · rw [up_s, m3]
  · exact absurd h (by decide)
  · exact absurd h (by decide)
/-- a part that begins: what the first sign leaves -/
theorem RD_new {s : Int} {x : Int} {b : Nat} (h : RD Z S F D p a 0 k) (hs : (b = a ∧ s < 6 ∧ ¬ Z k = 63 ∨ b = a + 1 ∧ s = 6 + (a : Int) ∧ a < 3 ∧ Z k = 63)) (hx : x = 0 ∧ s = -2 ∧ Z k = 44 ∨ x = 2 ∧ WH Z s k ∨ x = 3 ∧ s = -1 ∧ Z k = 46) : RD Z (up S p s) (up F p 0) (up D p 0) (p + 1) b x (k + 1) := by
  obtain ⟨pos, ⟨h0, h1, h2, h3, h4, h5⟩, ⟨-, hk, hp⟩ | ⟨u, -, -, ⟨h, -⟩ | ⟨h, -⟩ | ⟨h, -⟩⟩⟩ := h
  · have hq : qA (up S p s) (p + 1) = qA S p + (if 6 ≤ s then 1 else 0) := by
      show qA (up S p s) p + (if 6 ≤ up S p s p then 1 else 0) = _
      rw [qA_up p (Nat.le_refl _), up_s]
    have hc : cnt Z (k + 1) = cnt Z k + (if Z k = 63 then 1 else 0) := rfl
    have e0 : b = qA (up S p s) (p + 1) := by
      rw [hq]
      rcases hs with ⟨q1, q2, q3⟩ | ⟨q1, q2, q3, q4⟩
      · rw [if_neg (by omega)]; omega
      · rw [if_pos (by omega)]; omega
    have e1 : cnt Z (k + 1) = b := by
      rw [hc]
      rcases hs with ⟨q1, q2, q3⟩ | ⟨q1, q2, q3, q4⟩
      · rw [if_neg q3]; omega
      · rw [if_pos q4]; omega
    have e2 : ∀ j, j < p + 1 → 6 ≤ up S p s j → up S p s j = 6 + (qA (up S p s) j : Int) := by
      intro j hj h6
      rw [qA_up j (by omega)]
      by_cases hjp : j = p
      · subst hjp
        rw [up_s] at h6 ⊢
        rcases hs with ⟨q1, q2, q3⟩ | ⟨q1, q2, q3, q4⟩
        · omega
        · rw [q2, h2]
      · rw [up_i hjp] at h6 ⊢
        exact h5 j (by omega) h6
    have e3 : b ≤ 3 := by omega
    rcases hx with ⟨rfl, q2, q3⟩ | ⟨rfl, q2⟩ | ⟨rfl, q2, q3⟩
    · refine ⟨fun q => if q = p + 1 then k + 1 else pos q, ⟨?_, by omega, e0, e3, e1, e2⟩, Or.inl ⟨rfl, ?_, RP_end (RP_up hp) (Or.inl ⟨?_, ?_, ?_, ?_⟩)⟩⟩
      · dsimp only; rw [if_neg (by omega)]; exact h0
      · dsimp only; rw [if_pos rfl]
      · rw [up_s]; exact q2
      · rw [hk]; exact q3
      · rw [hk]
      · rw [up_s]
    · refine ⟨pos, ⟨h0, by omega, e0, e3, e1, e2⟩, Or.inr ⟨p, rfl, RP_up hp, Or.inr (Or.inl ⟨rfl, ?_, ?_, ?_⟩)⟩⟩
      · rw [up_s, hk]; exact q2
      · rw [up_s]
      · rw [hk]
    · refine ⟨pos, ⟨h0, by omega, e0, e3, e1, e2⟩, Or.inr ⟨p, rfl, RP_up hp, Or.inr (Or.inr ⟨rfl, Or.inl ⟨?_, ?_, ?_⟩⟩)⟩⟩
      · rw [up_s]; exact q2
      · rw [hk]; exact q3
      · rw [hk]
  · exact absurd h (by decide)
  · exact absurd h (by decide)
  · exact absurd h (by decide)
theorem RD_C (h : RD Z S F D (p + 1) a 2 k) (hs : Z k = 33) : RD Z S (up F p 1) D (p + 1) a 3 (k + 1) := by
  obtain ⟨pos, ⟨h0, h1, h2, h3, h4, h5⟩, ⟨h, -⟩ | ⟨u, hu, hp, ⟨h, -⟩ | ⟨-, m1, m2, m3⟩ | ⟨h, -⟩⟩⟩ := h
  · exact absurd h (by decide)
  · exact absurd h (by decide)
  · have : u = p := by omega
    subst this
    refine ⟨pos, ⟨h0, by omega, h2, h3, by rw [cnt_no (by omega)]; exact h4, h5⟩, Or.inr ⟨u, rfl, RP_upF hp, Or.inr (Or.inr ⟨rfl, Or.inr ⟨m1, Or.inr ⟨up_s, ?_, ?_⟩⟩⟩)⟩⟩
    · rw [← m3]; exact hs
    · omega
  · exact absurd h (by decide)
theorem RD_D {x : Int} (h : RD Z S F D (p + 1) a x k) (hx : x = 2 ∨ x = 3) (hs : 49 ≤ Z k ∧ Z k ≤ 57) : RD Z S F (up D p (Z k - 48)) (p + 1) a 1 (k + 1) := by
  obtain ⟨pos, ⟨h0, h1, h2, h3, h4, h5⟩, ⟨h, -⟩ | ⟨u, hu, hp, ⟨h, -⟩ | ⟨-, m1, m2, m3⟩ | ⟨-, m1⟩⟩⟩ := h
  · omega
  · omega
  · have : u = p := by omega
    subst this
    exact ⟨pos, ⟨h0, by omega, h2, h3, by rw [cnt_no (by omega)]; exact h4, h5⟩, Or.inr ⟨u, rfl, RP_upD hp, Or.inl ⟨rfl, k, Or.inr ⟨m1, Or.inl ⟨m2, m3⟩⟩, hs, rfl, up_s⟩⟩⟩
  · have : u = p := by omega
    subst this
    exact ⟨pos, ⟨h0, by omega, h2, h3, by rw [cnt_no (by omega)]; exact h4, h5⟩, Or.inr ⟨u, rfl, RP_upD hp, Or.inl ⟨rfl, k, m1, hs, rfl, up_s⟩⟩⟩
end
/-! both read alike -/
def mst (x : Int) : Int := if x = 0 then 0 else if x = 1 then 3 else if x = 2 then 1 else 2
theorem read_step {L n i : Nat} {M M' : PM} {p a x r : Int} {S F D : Nat → Int} (d : Nat) (hi : i < n) (hn : n ≤ 60) (h1 : M 32 1 = (n : Int)) (hr : r = 0 ∨ r = 1) (hc : den (d + 3) 34 [(.inr (.inr (some 32))), .inl (M 33 i)] (SH L) (tset M S F D p a x) = some (some (.inl r), SH L, M')) :
    ev (d + 4) 30 17 [some (.inr (.inr (some 32))), some (.inl (i : Int))] [] (SH L) (tset M S F D p a x) = if r = 0 then some (some (.inl (i : Int)), SH L, M') else ev (d + 4) 30 17 [some (.inr (.inr (some 32))), some (.inl ((i + 1 : Nat) : Int))] [] (SH L) M' := by
  have o := io_32 (L := L)
  have hin : ¬ (n : Int) ≤ (i : Int) := by omega
  have g := c_at_in (M := tset M S F D p a x) (d := d + 3) (ar_33 (L := L)) (i := (i : Int)) (by omega) (by omega)
  rw [tnN, ts_row (by decide)] at g
  have w := wr1 i (by omega)
  rw [e30_17]
  rcases hr with rfl | rfl
  · simp (disch := first | omega | (exact Nat.le_of_ble_eq_true rfl) | assumption | rfl) only [e30_0, e30_1, e30_2, e30_5, e30_6, e30_7, e30_10, e30_11, e30_12, e30_15, e30_16, e30_18, e30_19, e30_22, e30_25, e30_26, e30_27, e30_30, e30_31, e30_34, e30_37, e30_40, e30_41, e30_42, e30_45, e30_48, e30_49, e30_52, e30_55, e30_56, e30_59, e30_60, e30_63, e30_65, e30_68, e30_69, e30_72, gf_32_0, gf_32_1, ts_32, h1, hin, g, hc, w, ↓reduceIte, true_and, and_true, false_and, and_false, bindS, tL0, tL1, app0, app1, eq_self, Int.reduceEq, Int.reduceLT, Int.reduceLE, Int.reduceNeg, Int.reduceToNat]
  · simp (disch := first | omega | (exact Nat.le_of_ble_eq_true rfl) | assumption | rfl) only [e30_0, e30_1, e30_2, e30_5, e30_6, e30_7, e30_10, e30_11, e30_12, e30_15, e30_16, e30_18, e30_19, e30_22, e30_25, e30_26, e30_27, e30_30, e30_31, e30_34, e30_37, e30_40, e30_41, e30_42, e30_45, e30_48, e30_49, e30_52, e30_55, e30_56, e30_59, e30_60, e30_63, e30_65, e30_68, e30_69, e30_72, gf_32_0, gf_32_1, ts_32, h1, hin, g, hc, w, ↓reduceIte, true_and, and_true, false_and, and_false, bindS, tL0, tL1, app0, app1, eq_self, Int.reduceEq, Int.reduceLT, Int.reduceLE, Int.reduceNeg, Int.reduceToNat]
theorem read_end {L n : Nat} {M : PM} {p a x : Int} {S F D : Nat → Int} (d : Nat) (h1 : M 32 1 = (n : Int)) (hx : x = 0 ∨ x = 1 ∨ x = 2 ∨ x = 3) :
    ev (d + 4) 30 17 [some (.inr (.inr (some 32))), some (.inl (n : Int))] [] (SH L) (tset M S F D p a x) = some (some (.inl (if x = 0 ∨ x = 1 then -6 else (n : Int))), SH L, tset M S F D p a x) := by
  have hin : (n : Int) ≤ (n : Int) := Int.le_refl _
  rw [e30_17]
  rcases hx with rfl | rfl | rfl | rfl
  · simp (disch := first | omega | (exact Nat.le_of_ble_eq_true rfl) | assumption | rfl) only [e30_0, e30_1, e30_2, e30_5, e30_6, e30_7, e30_10, e30_11, e30_12, e30_15, e30_16, e30_18, e30_19, e30_22, e30_25, e30_26, e30_27, e30_30, e30_31, e30_34, e30_37, e30_40, e30_41, e30_42, e30_45, e30_48, e30_49, e30_52, e30_55, e30_56, e30_59, e30_60, e30_63, e30_65, e30_68, e30_69, e30_72, gf_32_1, gf_32_7, ts_32, ts_7, h1, hin, true_or, ↓reduceIte, true_and, and_true, false_and, and_false, bindS, tL0, tL1, app0, app1, eq_self, Int.reduceEq, Int.reduceLT, Int.reduceLE, Int.reduceNeg, Int.reduceToNat]
  · simp (disch := first | omega | (exact Nat.le_of_ble_eq_true rfl) | assumption | rfl) only [e30_0, e30_1, e30_2, e30_5, e30_6, e30_7, e30_10, e30_11, e30_12, e30_15, e30_16, e30_18, e30_19, e30_22, e30_25, e30_26, e30_27, e30_30, e30_31, e30_34, e30_37, e30_40, e30_41, e30_42, e30_45, e30_48, e30_49, e30_52, e30_55, e30_56, e30_59, e30_60, e30_63, e30_65, e30_68, e30_69, e30_72, gf_32_1, gf_32_7, ts_32, ts_7, h1, hin, or_true, ↓reduceIte, true_and, and_true, false_and, and_false, bindS, tL0, tL1, app0, app1, eq_self, Int.reduceEq, Int.reduceLT, Int.reduceLE, Int.reduceNeg, Int.reduceToNat]
  · simp (disch := first | omega | (exact Nat.le_of_ble_eq_true rfl) | assumption | rfl) only [e30_0, e30_1, e30_2, e30_5, e30_6, e30_7, e30_10, e30_11, e30_12, e30_15, e30_16, e30_18, e30_19, e30_22, e30_25, e30_26, e30_27, e30_30, e30_31, e30_34, e30_37, e30_40, e30_41, e30_42, e30_45, e30_48, e30_49, e30_52, e30_55, e30_56, e30_59, e30_60, e30_63, e30_65, e30_68, e30_69, e30_72, gf_32_1, gf_32_7, ts_32, ts_7, h1, hin, or_self, ↓reduceIte, true_and, and_true, false_and, and_false, bindS, tL0, tL1, app0, app1, eq_self, Int.reduceEq, Int.reduceLT, Int.reduceLE, Int.reduceNeg, Int.reduceToNat]
  · simp (disch := first | omega | (exact Nat.le_of_ble_eq_true rfl) | assumption | rfl) only [e30_0, e30_1, e30_2, e30_5, e30_6, e30_7, e30_10, e30_11, e30_12, e30_15, e30_16, e30_18, e30_19, e30_22, e30_25, e30_26, e30_27, e30_30, e30_31, e30_34, e30_37, e30_40, e30_41, e30_42, e30_45, e30_48, e30_49, e30_52, e30_55, e30_56, e30_59, e30_60, e30_63, e30_65, e30_68, e30_69, e30_72, gf_32_1, gf_32_7, ts_32, ts_7, h1, hin, or_self, ↓reduceIte, true_and, and_true, false_and, and_false, bindS, tL0, tL1, app0, app1, eq_self, Int.reduceEq, Int.reduceLT, Int.reduceLE, Int.reduceNeg, Int.reduceToNat]
theorem read_loop {L n : Nat} {M : PM} {Z : Nat → Int} (hn : n ≤ 60) (h1 : M 32 1 = (n : Int)) (hZ : ∀ i, i < n → M 33 i = Z i) : ∀ (k i : Nat) (S F D : Nat → Int) (p a : Nat) (x : Int), i + k = n → RD Z S F D p a x i →
    ∃ (r : Int) (S' F' D' : Nat → Int) (p' a' : Nat) (x' : Int), (∀ d, ev (d + 4) 30 17 [some (.inr (.inr (some 32))), some (.inl (i : Int))] [] (SH L) (tset M S F D (p : Int) (a : Int) x) = some (some (.inl r), SH L, tset M S' F' D' (p' : Int) (a' : Int) x'))
    ∧ (r = -6 ∧ RD Z S' F' D' p' a' 0 n ∨ 0 ≤ r)
    ∧ ∀ (d : Nat) (MQ : PM) (l4 l5 l6 : Option PV), MQ 63 8 = (n : Int) → (∀ i, i < n → MQ 67 i = Z i) → ev (d + 1) 98 6 [some (.inr (.inr (some 63))), some (.inl (mst x)), some (.inl (a : Int)), some (.inl (i : Int)), l4, l5, l6] [] (SH L) MQ = some (some (.inl r), SH L, MQ) := by
  intro k
  induction k with
  | zero =>
    intro i S F D p a x hi hR
    have hi : i = n := by omega
    subst hi
    have hx := (RD_x hR).1
    have me := fun (d : Nat) (MQ : PM) (l4 l5 l6 : Option PV) (h8 : MQ 63 8 = (i : Int)) (hy : mst x = 0 ∨ mst x = 1 ∨ mst x = 2 ∨ mst x = 3) => fo_end (L := L) (d := d) (MQ := MQ) (o := (a : Int)) (l4 := l4) (l5 := l5) (l6 := l6) h8 hy
    refine ⟨_, S, F, D, p, a, x, fun d => read_end d h1 hx, ?_, fun d MQ l4 l5 l6 h8 hq => ?_⟩
    · rcases hx with rfl | rfl | rfl | rfl
      · exact Or.inl ⟨rfl, hR⟩
      · exact Or.inl ⟨rfl, RD_fin hR⟩
      · exact Or.inr (by rw [if_neg (by decide)]; omega)
      · exact Or.inr (by rw [if_neg (by decide)]; omega)
    · rcases hx with rfl | rfl | rfl | rfl
      · exact me d MQ l4 l5 l6 h8 (by decide)
      · exact me d MQ l4 l5 l6 h8 (by decide)
      · exact me d MQ l4 l5 l6 h8 (by decide)
      · exact me d MQ l4 l5 l6 h8 (by decide)
  | succ k ih =>
    intro i S F D p a x hi hR
    obtain ⟨hx, hp, ha⟩ := RD_x hR
    have hin : i < n := by omega
    have hzi : M 33 i = Z i := hZ i hin
    -- a sign that fits
    have good : ∀ (S1 F1 D1 : Nat → Int) (p1 a1 : Nat) (x1 : Int), (∀ d, den (d + 3) 34 [(.inr (.inr (some 32))), .inl (Z i)] (SH L) (tset M S F D (p : Int) (a : Int) x) = some (some (.inl 1), SH L, tset M S1 F1 D1 (p1 : Int) (a1 : Int) x1)) → RD Z S1 F1 D1 p1 a1 x1 (i + 1) →
        (∀ (d : Nat) (MQ : PM) (l4 l5 l6 : Option PV), MQ 63 8 = (n : Int) → MQ 67 i = Z i → ∃ m4 m5 m6 : Option PV, ev (d + 1) 98 6 [some (.inr (.inr (some 63))), some (.inl (mst x)), some (.inl (a : Int)), some (.inl (i : Int)), l4, l5, l6] [] (SH L) MQ = ev (d + 1) 98 6 [some (.inr (.inr (some 63))), some (.inl (mst x1)), some (.inl (a1 : Int)), some (.inl ((i + 1 : Nat) : Int)), m4, m5, m6] [] (SH L) MQ) →
        ∃ (r : Int) (S' F' D' : Nat → Int) (p' a' : Nat) (x' : Int), (∀ d, ev (d + 4) 30 17 [some (.inr (.inr (some 32))), some (.inl (i : Int))] [] (SH L) (tset M S F D (p : Int) (a : Int) x) = some (some (.inl r), SH L, tset M S' F' D' (p' : Int) (a' : Int) x'))
        ∧ (r = -6 ∧ RD Z S' F' D' p' a' 0 n ∨ 0 ≤ r)
        ∧ ∀ (d : Nat) (MQ : PM) (l4 l5 l6 : Option PV), MQ 63 8 = (n : Int) → (∀ i, i < n → MQ 67 i = Z i) → ev (d + 1) 98 6 [some (.inr (.inr (some 63))), some (.inl (mst x)), some (.inl (a : Int)), some (.inl (i : Int)), l4, l5, l6] [] (SH L) MQ = some (some (.inl r), SH L, MQ) := by
      intro S1 F1 D1 p1 a1 x1 hc hR1 hm
      obtain ⟨r, S', F', D', p', a', x', q1, q2, q3⟩ := ih (i + 1) S1 F1 D1 p1 a1 x1 (by omega) hR1
      refine ⟨r, S', F', D', p', a', x', fun d => ?_, q2, fun d MQ l4 l5 l6 h8 hq => ?_⟩
      · rw [read_step d hin hn h1 (Or.inr rfl) (by rw [hzi]; exact hc d), if_neg (by decide)]
        exact q1 d
      · obtain ⟨m4, m5, m6, hm⟩ := hm d MQ l4 l5 l6 h8 (hq i hin)
        rw [hm]
        exact q3 d MQ m4 m5 m6 h8 hq
    -- one that does not
    have bad : (∀ d, den (d + 3) 34 [(.inr (.inr (some 32))), .inl (Z i)] (SH L) (tset M S F D (p : Int) (a : Int) x) = some (some (.inl 0), SH L, tset M S F D (p : Int) (a : Int) x)) →
        (∀ (d : Nat) (MQ : PM) (l4 l5 l6 : Option PV), MQ 63 8 = (n : Int) → MQ 67 i = Z i → ev (d + 1) 98 6 [some (.inr (.inr (some 63))), some (.inl (mst x)), some (.inl (a : Int)), some (.inl (i : Int)), l4, l5, l6] [] (SH L) MQ = some (some (.inl (i : Int)), SH L, MQ)) →
        ∃ (r : Int) (S' F' D' : Nat → Int) (p' a' : Nat) (x' : Int), (∀ d, ev (d + 4) 30 17 [some (.inr (.inr (some 32))), some (.inl (i : Int))] [] (SH L) (tset M S F D (p : Int) (a : Int) x) = some (some (.inl r), SH L, tset M S' F' D' (p' : Int) (a' : Int) x'))
        ∧ (r = -6 ∧ RD Z S' F' D' p' a' 0 n ∨ 0 ≤ r)
        ∧ ∀ (d : Nat) (MQ : PM) (l4 l5 l6 : Option PV), MQ 63 8 = (n : Int) → (∀ i, i < n → MQ 67 i = Z i) → ev (d + 1) 98 6 [some (.inr (.inr (some 63))), some (.inl (mst x)), some (.inl (a : Int)), some (.inl (i : Int)), l4, l5, l6] [] (SH L) MQ = some (some (.inl r), SH L, MQ) := by
      intro hc hm
      refine ⟨(i : Int), S, F, D, p, a, x, fun d => ?_, Or.inr (by omega), fun d MQ l4 l5 l6 h8 hq => hm d MQ l4 l5 l6 h8 (hq i hin)⟩
      rw [read_step d hin hn h1 (Or.inl rfl) (by rw [hzi]; exact hc d), if_pos rfl]
    by_cases hA : x = 1 ∧ (48 ≤ Z i ∧ Z i ≤ 57)
    · obtain ⟨rfl, hs⟩ := hA
      obtain ⟨u, rfl⟩ := RD_u hR (by decide)
      obtain ⟨hD, hR1⟩ := RD_A hR hs
      exact good _ _ _ _ _ _ (fun d => t_A (by omega) hs hD) hR1 (fun d MQ l4 l5 l6 h8 hz => ⟨_, _, _, fo_A hin hn h8 hz hs⟩)
    by_cases hB : x = 0 ∨ x = 1
    · have hx' : x = 0 ∨ x = 1 ∧ ¬ (48 ≤ Z i ∧ Z i ≤ 57) := by
        rcases hB with h | h
        · exact Or.inl h
        · exact Or.inr ⟨h, fun q => hA ⟨h, q⟩⟩
      have hR0 : RD Z S F D p a 0 i := by
        rcases hB with rfl | rfl
        · exact hR
        · exact RD_fin hR
      have hm : mst x = 0 ∨ mst x = 3 := by
        rcases hB with rfl | rfl
        · exact Or.inl rfl
        · exact Or.inr rfl
      have hm' : mst x = 0 ∨ mst x = 3 ∧ ¬ (48 ≤ Z i ∧ Z i ≤ 57) := by
        rcases hx' with rfl | ⟨rfl, h⟩
        · exact Or.inl rfl
        · exact Or.inr ⟨rfl, h⟩
      by_cases hl : 65 ≤ Z i ∧ Z i ≤ 70
      · exact good _ _ _ _ _ _ (fun d => t_B hx' (Or.inr rfl) (b_letter (by omega) hl)) (RD_new hR0 (Or.inl ⟨rfl, by omega, by omega⟩) (Or.inr (Or.inl ⟨rfl, Or.inl ⟨by omega, by omega, by omega⟩⟩))) (fun d MQ l4 l5 l6 h8 hz => ⟨_, _, _, fo_letter hin hn h8 hz hm hl (by omega)⟩)
      by_cases h46 : Z i = 46
      · exact good _ _ _ _ _ _ (fun d => by rw [h46] at hx' ⊢; exact t_B hx' (Or.inr rfl) (b_dot (by omega))) (RD_new hR0 (Or.inl ⟨rfl, by omega, by omega⟩) (Or.inr (Or.inr ⟨rfl, rfl, h46⟩))) (fun d MQ l4 l5 l6 h8 hz => ⟨_, _, _, fo_dot hin hn h8 (hz.trans h46) hm (by omega)⟩)
      by_cases h44 : Z i = 44
      · exact good _ _ _ _ _ _ (fun d => by rw [h44] at hx' ⊢; exact t_B hx' (Or.inr rfl) (b_comma (by omega))) (RD_new hR0 (Or.inl ⟨rfl, by omega, by omega⟩) (Or.inl ⟨rfl, rfl, h44⟩)) (fun d MQ l4 l5 l6 h8 hz => ⟨_, _, _, fo_comma hin hn h8 (hz.trans h44) hm (by omega)⟩)
      by_cases h63 : Z i = 63
      · by_cases ha3 : a < 3
        · exact good _ _ _ _ _ _ (fun d => by rw [h63] at hx' ⊢; exact t_B hx' (Or.inr rfl) (b_q (by omega) ha3)) (RD_new hR0 (Or.inr ⟨rfl, rfl, ha3, h63⟩) (Or.inr (Or.inl ⟨rfl, Or.inr ⟨by omega, by omega, h63⟩⟩))) (fun d MQ l4 l5 l6 h8 hz => ⟨_, _, _, fo_q hin hn h8 (hz.trans h63) hm (by omega)⟩)
        · exact bad (fun d => t_B hx' (Or.inl rfl) (b_no hl h46 h44 (by omega))) (fun d MQ l4 l5 l6 h8 hz => fo_qno hin hn h8 (hz.trans h63) hm (by omega))
      · exact bad (fun d => t_B hx' (Or.inl rfl) (b_no hl h46 h44 (by omega))) (fun d MQ l4 l5 l6 h8 hz => fo_no hin hn h8 hz hm' (by omega) hl h46 h44 h63)
    · obtain ⟨u, rfl⟩ := RD_u hR (by omega)
      by_cases hC : x = 2 ∧ Z i = 33
      · obtain ⟨rfl, hs⟩ := hC
        exact good _ _ _ _ _ _ (fun d => by rw [hs]; exact t_C (by omega)) (RD_C hR hs) (fun d MQ l4 l5 l6 h8 hz => ⟨_, _, _, fo_bang hin hn h8 (hz.trans hs)⟩)
      · have hx' : x = 3 ∨ x = 2 ∧ ¬ Z i = 33 := by omega
        have hm : mst x = 2 ∨ mst x = 1 ∧ ¬ Z i = 33 := by
          rcases hx' with rfl | ⟨rfl, h⟩
          · exact Or.inl rfl
          · exact Or.inr ⟨rfl, h⟩
        by_cases hs : 49 ≤ Z i ∧ Z i ≤ 57
        · exact good _ _ _ _ _ _ (fun d => t_D (by omega) hx' hs) (RD_D hR (by omega) hs) (fun d MQ l4 l5 l6 h8 hz => ⟨_, _, _, fo_D hin hn h8 hz hm hs⟩)
        · exact bad (fun d => t_Dno hx' hs) (fun d MQ l4 l5 l6 h8 hz => fo_Dno hin hn h8 hz hm hs)
