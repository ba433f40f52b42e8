/-! fewestSeconds; speech -/
def LIM : Int := 1000000000
section
variable {L n : Nat} {tk : Nat → Int} {b : Int}
theorem c_fewest {d v0 : Nat} {M : PM} {G : Nat → Int} {B lim : Int} (ht : TKo tk n) (hn : n ≤ 7) (hb : 0 ≤ b ∧ b ≤ 99) (hv0 : VL (SH L) v0) (h46 : v0 < 39) (hC : CT M tk n) (h41 : ∀ q, q < 7 → M 41 q = 0) (hE : EqG (M (v0 + 1)) G) (hB : 0 ≤ B ∧ BG G B ∧ B ≤ 100000000) (h2 : M v0 2 = b) (h1 : 0 ≤ M v0 1 ∧ M v0 1 ≤ 200000000) :
    ∃ M', den (d + 20) 3 [(.inr (.inr (some 39))), (.inr (.inr (some 5))), (.inr (.inr (some v0))), .inl lim] (SH L) M = some (some (.inl (foL b tk [] G 0 (lim, []) (pfL n n [])).1), SH L, M') ∧ (∀ a, a < 39 ∨ 61 < a → M' a = M a) ∧ (∀ q, q < 7 → M' 41 q = 0) ∧ ((foL b tk [] G 0 (lim, []) (pfL n n [])).2 = [] ∨ ∀ j, j < n → M' 43 j = (gtL (foL b tk [] G 0 (lim, []) (pfL n n [])).2 j : Int)) := by
  have o39 := io_39 (L := L)
  have o46 := vl_o (vl_46 (L := L))
  have ov := vl_o hv0
  have cv := c_valleyAt (d := d + 19) (L := L) (M := M) (j := 0) (by decide)
  simp only [Nat.mul_zero, Nat.add_zero] at cv
  have c0 := c_vcopy (d := d + 18) (M := M) (vl_46 (L := L)) hv0 (by omega) (by omega) (by omega)
  generalize hX : setC (setC (vset M 46 (fil (M (v0 + 1)) (M (46 + 1)) 6) (M v0 1)) 46 2 (M v0 2)) 46 3 (M v0 3) = X at c0
  have xr : ∀ a, a ≠ 46 → a ≠ 47 → X a = M a := fun a y z => by rw [← hX, setC_row y, setC_row y, vs_row y (by omega)]
  have xg : X 47 = fil (M (v0 + 1)) (M (46 + 1)) 6 := by rw [← hX, setC_row (by decide), setC_row (by decide)]; exact vs_G (v := 46)
  have x1 : X 46 1 = M v0 1 := by rw [← hX, setC_i (by decide), setC_i (by decide), vs_T]
  have x2 : X 46 2 = b := by rw [← hX, setC_i (by decide), setC_s, h2]
  have ct := c_time (d := d + 19) (M := X) hv0
  rw [xr v0 (by omega) (by omega)] at ct
  generalize hY : setC (setC X 39 6 (M v0 1)) 39 7 lim = Y
  have yr : ∀ a, a ≠ 39 → Y a = X a := fun a z => by rw [← hY, setC_row z, setC_row z]
  have y6 : Y 39 6 = M v0 1 := by rw [← hY, setC_i (by decide), setC_s]
  have y7 : Y 39 7 = lim := by rw [← hY, setC_s]
  have hN : NDs Y tk n b [] G 0 (lim, []) := by
    refine ⟨?_, fun q hq => ?_, fun j hj => absurd hj (Nat.not_lt_zero j), ?_, ?_, ?_, ?_, y7, Or.inl rfl⟩
    · unfold CT
      rw [yr 5 (by decide), yr 6 (by decide), yr 7 (by decide), yr 8 (by decide), xr 5 (by decide) (by decide), xr 6 (by decide) (by decide), xr 7 (by decide) (by decide), xr 8 (by decide) (by decide)]
      exact hC
    · rw [yr 41 (by decide), xr 41 (by decide) (by decide), h41 q hq]; rfl
    · show EqG (Y 47) G
      rw [yr 47 (by decide), xg]; exact EqG.fil.tr hE
    · show Y 46 1 - Y 39 6 = 0
      rw [yr 46 (by decide), x1, y6]; omega
    · show Y 46 2 = b
      rw [yr 46 (by decide), x2]
    · rw [y6]; exact h1
  have hcz : ∀ k, czU (inU []) k = k := by
    intro k
    induction k with
    | zero => rfl
    | succ k ih =>
      show czU (inU []) k + (if inU [] k = 0 then 1 else 0) = k + 1
      have e : inU [] k = 0 := rfl
      rw [ih, if_pos e]
  obtain ⟨M', g1, g2, g3⟩ := go_on (L := L) ht hn hb n (d + 19) [] G 0 B (lim, []) Y (by omega) (by simp) (hcz n) ⟨hB.1, hB.2.1, by decide, by simp; omega⟩ hN
  obtain ⟨f1, f2, f3, f4⟩ := g2
  obtain ⟨g3a, g3b⟩ := g3
  have g1' : den (d + 19) 5 [(.inr (.inr (some 39))), (.inr (.inr (some 5))), .inl 0] (SH L) Y = some (none, SH L, M') := g1
  refine ⟨M', ?_, fun a ha => ?_, fun q hq => ?_, g3b⟩
  · unfold den
    rw [show ent 3 [(.inr (.inr (some 39))), (.inr (.inr (some 5))), (.inr (.inr (some v0))), .inl lim] = [some (.inr (.inr (some 39))), some (.inr (.inr (some 5))), some (.inr (.inr (some v0))), some (.inl lim), none] from rfl]
    rw [show ((0 : Nat) : Int) = 0 from rfl] at cv
    simp (disch := first | omega | (exact Nat.le_of_ble_eq_true rfl) | assumption | rfl) only [e3_0, e3_1, e3_2, e3_5, e3_7, e3_9, e3_12, e3_13, e3_14, e3_16, e3_17, e3_20, e3_21, e3_22, e3_25, e3_28, e3_29, e3_30, e3_33, e3_34, e3_35, e3_36, e3_39, e3_40, e3_43, cv, c0, ct, pi_39_6, pi_39_7, hY, g1', gf_39_7, g3a, ↓reduceIte, true_and, and_true, false_and, and_false, bindS, tL0, tL1, app0, app1, eq_self, Int.reduceEq, Int.reduceLT, Int.reduceLE, Int.reduceNeg, Int.reduceToNat]
  · rw [f1 a (by omega), yr a (by omega), xr a (by omega) (by omega)]
  · rw [f3 q hq, yr 41 (by decide), xr 41 (by decide) (by decide), h41 q hq]
theorem c_placed {d i : Nat} {M : PM} (hi : i < 7) : den (d + 1) 4 [(.inr (.inr (some 39))), .inl (i : Int)] (SH L) M = some (some (.inl (M 43 i)), SH L, M) := by
  have g := c_at_in (M := M) (d := d) (ar_43 (L := L)) (i := (i : Int)) (by omega) (by omega)
  rw [tnN] at g
  unfold den
  rw [show ent 4 [(.inr (.inr (some 39))), .inl (i : Int)] = [some (.inr (.inr (some 39))), some (.inl (i : Int))] from rfl]
  simp (disch := first | omega | (exact Nat.le_of_ble_eq_true rfl) | assumption | rfl) only [e4_0, e4_1, e4_4, e4_5, e4_8, gf_39_3, g, ↓reduceIte, true_and, and_true, false_and, and_false, bindS, tL0, tL1, app0, app1, eq_self, Int.reduceEq, Int.reduceLT, Int.reduceLE, Int.reduceNeg, Int.reduceToNat]
def sdT (tk : Nat → Int) : Nat → Int
  | 0 => 0
  | i + 1 => sdT tk i + duT tk i
theorem sd_b : ∀ {i : Nat}, TKo tk i → 0 ≤ sdT tk i ∧ sdT tk i ≤ 99 * i
  | 0, _ => ⟨Int.le_refl _, Int.le_refl _⟩
  | i + 1, h => by
    have ih := sd_b (i := i) (fun q hq => h q (by omega))
    have hd := (h i (by omega)).2.1
    show 0 ≤ sdT tk i + _ ∧ sdT tk i + _ ≤ 99 * ((i + 1 : Nat) : Int)
    omega
theorem sd_mono (ht : TKo tk n) : ∀ i, i ≤ n → TKo tk i := fun i hi q hq => ht q (by omega)
theorem spc_loop {d : Nat} {M : PM} (hC : CT M tk n) (ht : TKo tk n) (hn : n ≤ 7) : ∀ (k i : Nat), i + k = n → ev (d + 1) 21 4 [some (.inr (.inr (some 5))), some (.inl (sdT tk i)), some (.inl (i : Int))] [] (SH L) M = some (some (.inl (sdT tk n)), SH L, M) := by
  intro k
  induction k with
  | zero =>
    intro i hi
    have hi : i = n := by omega
    subst hi
    have hle : (i : Int) ≤ (i : Int) := Int.le_refl _
    rw [e21_4]
    simp (disch := first | omega | (exact Nat.le_of_ble_eq_true rfl) | assumption | rfl) only [e21_0, e21_1, e21_2, e21_3, e21_5, e21_6, e21_9, e21_12, e21_13, e21_14, e21_17, e21_18, e21_21, e21_22, e21_23, e21_26, e21_29, e21_30, gf_5_3, hC.1, hle, ↓reduceIte, true_and, and_true, false_and, and_false, bindS, tL0, tL1, app0, app1, eq_self, Int.reduceEq, Int.reduceLT, Int.reduceLE, Int.reduceNeg, Int.reduceToNat]
  | succ k ih =>
    intro i hi
    have hle : ¬ (n : Int) ≤ (i : Int) := by omega
    have wi := wr1 i (by omega)
    have g := c_at_in (M := M) (d := d) (ar_7 (L := L)) (i := (i : Int)) (by omega) (by omega)
    rw [tnN, (hC.2 i (by omega)).2.1, show tk (3 * i + 1) = duT tk i from rfl] at g
    have sb := sd_b (sd_mono ht i (by omega))
    have hd := (ht i (by omega)).2.1
    have w : wr (sdT tk i + duT tk i) = sdT tk i + duT tk i := wr_id (by omega) (by omega)
    rw [e21_4]
    simp (disch := first | omega | (exact Nat.le_of_ble_eq_true rfl) | assumption | rfl) only [e21_0, e21_1, e21_2, e21_3, e21_5, e21_6, e21_9, e21_12, e21_13, e21_14, e21_17, e21_18, e21_21, e21_22, e21_23, e21_26, e21_29, e21_30, gf_5_1, gf_5_3, hC.1, hle, g, w, wi, ↓reduceIte, true_and, and_true, false_and, and_false, bindS, tL0, tL1, app0, app1, eq_self, Int.reduceEq, Int.reduceLT, Int.reduceLE, Int.reduceNeg, Int.reduceToNat]
    exact ih (i + 1) (by omega)
theorem c_speech {d : Nat} {M : PM} (hC : CT M tk n) (ht : TKo tk n) (hn : n ≤ 7) : den (d + 1) 21 [(.inr (.inr (some 5)))] (SH L) M = some (some (.inl (sdT tk n)), SH L, M) := by
  have h := spc_loop (L := L) (d := d) hC ht hn n 0 (by omega)
  unfold den
  rw [show ent 21 [(.inr (.inr (some 5)))] = [some (.inr (.inr (some 5))), none, none] from rfl]
  simp (disch := first | omega | (exact Nat.le_of_ble_eq_true rfl) | assumption | rfl) only [e21_0, e21_1, e21_2, e21_3, e21_5, e21_6, e21_9, e21_12, e21_13, e21_14, e21_17, e21_18, e21_21, e21_22, e21_23, e21_26, e21_29, e21_30, ↓reduceIte, true_and, and_true, false_and, and_false, bindS, tL0, tL1, app0, app1, eq_self, Int.reduceEq, Int.reduceLT, Int.reduceLE, Int.reduceNeg, Int.reduceToNat]
  exact h
theorem al_loop2 {d : Nat} {M : PM} (h4 : M 63 4 = (n : Int)) (h65 : M 65 = tk) (ht : TKo tk n) (hn : n ≤ 7) : ∀ (k i : Nat), i + k = n → ev d 121 4 [some (.inr (.inr (some 63))), some (.inl (sdT tk i)), some (.inl (i : Int))] [] (SH L) M = some (some (.inl (sdT tk n)), SH L, M) := by
  intro k
  induction k with
  | zero =>
    intro i hi
    have hi : i = n := by omega
    subst hi
    have hle : (i : Int) ≤ (i : Int) := Int.le_refl _
    rw [e121_4]
    simp (disch := first | omega | (exact Nat.le_of_ble_eq_true rfl) | assumption | rfl) only [e121_0, e121_1, e121_2, e121_3, e121_5, e121_6, e121_9, e121_12, e121_13, e121_14, e121_17, e121_18, e121_19, e121_20, e121_21, e121_22, e121_23, e121_24, e121_25, e121_28, e121_31, e121_32, gf_63_4, h4, hle, ↓reduceIte, true_and, and_true, false_and, and_false, bindS, tL0, tL1, app0, app1, eq_self, Int.reduceEq, Int.reduceLT, Int.reduceLE, Int.reduceNeg, Int.reduceToNat]
  | succ k ih =>
    intro i hi
    have hle : ¬ (n : Int) ≤ (i : Int) := by omega
    have wi := wr1 i (by omega)
    have w3 : wr (3 * (i : Int)) = ((3 * i : Nat) : Int) := by rw [wr_id (by omega) (by omega)]; omega
    have w4 : wr (((3 * i : Nat) : Int) + 1) = ((3 * i + 1 : Nat) : Int) := by rw [wr_id (by omega) (by omega)]; omega
    have g := aget_in (M := M) (ar_65 (L := L)) (i := ((3 * i + 1 : Nat) : Int)) (by omega) (by omega)
    rw [tnN, h65, show tk (3 * i + 1) = duT tk i from rfl] at g
    have sb := sd_b (sd_mono ht i (by omega))
    have hd := (ht i (by omega)).2.1
    have w : wr (sdT tk i + duT tk i) = sdT tk i + duT tk i := wr_id (by omega) (by omega)
    rw [e121_4]
    simp (disch := first | omega | (exact Nat.le_of_ble_eq_true rfl) | assumption | rfl) only [e121_0, e121_1, e121_2, e121_3, e121_5, e121_6, e121_9, e121_12, e121_13, e121_14, e121_17, e121_18, e121_19, e121_20, e121_21, e121_22, e121_23, e121_24, e121_25, e121_28, e121_31, e121_32, gf_63_4, gf_63_5, h4, hle, w3, w4, g, w, wi, ↓reduceIte, true_and, and_true, false_and, and_false, bindS, tL0, tL1, app0, app1, eq_self, Int.reduceEq, Int.reduceLT, Int.reduceLE, Int.reduceNeg, Int.reduceToNat]
    exact ih (i + 1) (by omega)
theorem c_allSec {d : Nat} {M : PM} (h4 : M 63 4 = (n : Int)) (h65 : M 65 = tk) (ht : TKo tk n) (hn : n ≤ 7) : den d 121 [(.inr (.inr (some 63)))] (SH L) M = some (some (.inl (sdT tk n)), SH L, M) := by
  have h := al_loop2 (L := L) (d := d) h4 h65 ht hn n 0 (by omega)
  unfold den
  rw [show ent 121 [(.inr (.inr (some 63)))] = [some (.inr (.inr (some 63))), none, none] from rfl]
  simp (disch := first | omega | (exact Nat.le_of_ble_eq_true rfl) | assumption | rfl) only [e121_0, e121_1, e121_2, e121_3, e121_5, e121_6, e121_9, e121_12, e121_13, e121_14, e121_17, e121_18, e121_19, e121_20, e121_21, e121_22, e121_23, e121_24, e121_25, e121_28, e121_31, e121_32, ↓reduceIte, true_and, and_true, false_and, and_false, bindS, tL0, tL1, app0, app1, eq_self, Int.reduceEq, Int.reduceLT, Int.reduceLE, Int.reduceNeg, Int.reduceToNat]
  exact h
end
