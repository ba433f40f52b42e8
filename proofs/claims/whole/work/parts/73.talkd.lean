/-! the class's search: every order, pruned -/
theorem lm_E {tk U G G' : Nat → Int} {n : Nat} (h : EqG G G') : ∀ p, p ≤ 6 → lmU tk U n G p = lmU tk U n G' p
  | 0, _ => rfl
  | p + 1, hp => by
    show (if 0 < lfU tk U p n then mxI (lmU tk U n G p) (lfU tk U p n + mxI (G p + lfU tk U p n - lgU tk U p n) 0) else lmU tk U n G p) = (if 0 < lfU tk U p n then mxI (lmU tk U n G' p) (lfU tk U p n + mxI (G' p + lfU tk U p n - lgU tk U p n) 0) else lmU tk U n G' p)
    rw [lm_E h p (by omega), h p (by omega)]
theorem gtL_app {l r : List Nat} : ∀ {j : Nat}, j < l.length → gtL (l ++ r) j = gtL l j := by
  induction l with
  | nil => intro j h; cases h
  | cons x l ih =>
    intro j h
    cases j with
    | zero => rfl
    | succ j => exact ih (j := j) (by simpa using h)
theorem gtL_end {l : List Nat} {i : Nat} : gtL (l ++ [i]) l.length = i := by
  induction l with
  | nil => rfl
  | cons x l ih => exact ih
theorem passB {b w B : Int} {G : Nat → Int} (hb : 0 ≤ b ∧ b ≤ 99) (hw : 0 ≤ w) (hB : 0 ≤ B) (h : BG G B) : BG (passG b w (-1) G) (mxI (B - w) 0) := by
  intro p hp
  have h1 := h p hp
  have h2 := passG_b (sp := -1) hb hw h p hp
  refine ⟨h2.1, ?_⟩
  unfold passG mxI
  repeat' split
  all_goals omega
theorem stB {b B : Int} {tk G : Nat → Int} {i n : Nat} (hb : 0 ≤ b ∧ b ≤ 99) (ht : TKo tk n) (hi : i < n) (hB : 0 ≤ B) (h : BG G B) : ∃ B', 0 ≤ B' ∧ BG (stS b tk i G) B' ∧ wS tk i G + duT tk i + B' ≤ B + 200 ∧ 0 ≤ wS tk i G ∧ wS tk i G ≤ B := by
  have hti := ht i hi
  have h6 : spT tk i < 6 := by unfold spT; omega
  have hw : 0 ≤ wS tk i G ∧ wS tk i G ≤ B := waitI_b (h _ h6).2 hB
  have h1 := passB hb hw.1 hB h
  have h2 := speakG_b (b := b) (d := duT tk i) (i := spT tk i) hb (by omega) h1
  refine ⟨mxI (B - wS tk i G) 0 + duT tk i, ?_, h2, ?_, hw⟩
  · unfold mxI; split <;> omega
  · unfold mxI; split <;> omega
theorem st_E {b : Int} {tk G G' : Nat → Int} {i : Nat} (h6 : spT tk i < 6) (h : EqG G G') : wS tk i G = wS tk i G' ∧ EqG (stS b tk i G) (stS b tk i G') := by
  have e : wS tk i G = wS tk i G' := by unfold wS; rw [h _ h6]
  refine ⟨e, ?_⟩
  unfold stS speakG
  rw [e]
  exact EqG.add h6 (h.pass.pass)
/-- the best so far lies in row 43 -/
def BRs (n : Nat) (st : Int × List Nat) (M : PM) : Prop := M 39 7 = st.1 ∧ (st.2 = [] ∨ ∀ j, j < n → M 43 j = (gtL st.2 j : Int))
def NDs (M : PM) (tk : Nat → Int) (n : Nat) (b : Int) (pre : List Nat) (G : Nat → Int) (T : Int) (st : Int × List Nat) : Prop :=
  CT M tk n ∧ (∀ q, q < 7 → M 41 q = inU pre q) ∧ (∀ j, j < pre.length → M 42 j = (gtL pre j : Int)) ∧ EqG (M (46 + 2 * pre.length + 1)) G ∧ M (46 + 2 * pre.length) 1 - M 39 6 = T ∧ M (46 + 2 * pre.length) 2 = b ∧ (0 ≤ M 39 6 ∧ M 39 6 ≤ 200000000) ∧ BRs n st M
def FRs (k : Nat) (M M' : PM) : Prop :=
  (∀ a, a < 39 ∨ a = 40 ∨ 46 ≤ a ∧ a ≤ 47 + 2 * k ∨ 61 < a → M' a = M a) ∧ (∀ j, j ≠ 7 → M' 39 j = M 39 j) ∧ (∀ q, q < 7 → M' 41 q = M 41 q) ∧ (∀ j, j < k → M' 42 j = M 42 j)
theorem FRs.rf {k : Nat} {M : PM} : FRs k M M := ⟨fun _ _ => rfl, fun _ _ => rfl, fun _ _ => rfl, fun _ _ => rfl⟩
theorem FRs.tr {k : Nat} {M M' M'' : PM} (h : FRs k M M') (h' : FRs k M' M'') : FRs k M M'' :=
  ⟨fun a ha => (h'.1 a ha).trans (h.1 a ha), fun j hj => (h'.2.1 j hj).trans (h.2.1 j hj), fun q hq => (h'.2.2.1 q hq).trans (h.2.2.1 q hq), fun j hj => (h'.2.2.2 j hj).trans (h.2.2.2 j hj)⟩
theorem ND_fr {M M' : PM} {tk G : Nat → Int} {n : Nat} {b T : Int} {pre : List Nat} {st st' : Int × List Nat} (h : NDs M tk n b pre G T st) (hf : FRs pre.length M M') (hb : BRs n st' M') : NDs M' tk n b pre G T st' := by
  obtain ⟨a1, a2, a3, a4, a5, a6, a7, -⟩ := h
  obtain ⟨f1, f2, f3, f4⟩ := hf
  refine ⟨?_, fun q hq => (f3 q hq).trans (a2 q hq), fun j hj => (f4 j hj).trans (a3 j hj), ?_, ?_, ?_, ?_, hb⟩
  · unfold CT
    rw [f1 5 (by omega), f1 6 (by omega), f1 7 (by omega), f1 8 (by omega)]
    exact a1
  · rw [f1 (46 + 2 * pre.length + 1) (by omega)]; exact a4
  · rw [f1 (46 + 2 * pre.length) (by omega), f2 6 (by decide)]; exact a5
  · rw [f1 (46 + 2 * pre.length) (by omega)]; exact a6
  · rw [f2 6 (by decide)]; exact a7
theorem ls_fr {k : Nat} {M : PM} {f g : Nat → Int} : FRs k M (lset M f g) := ⟨fun a ha => ls_row (by omega), fun j _ => by rw [ls_row (by decide)], fun q _ => by rw [ls_row (by decide)], fun j _ => by rw [ls_row (by decide)]⟩
theorem ls_br {n : Nat} {M : PM} {f g : Nat → Int} {st : Int × List Nat} (h : BRs n st M) : BRs n st (lset M f g) := by
  unfold BRs
  rw [ls_row (by decide), ls_row (by decide)]
  exact h
section
variable {L n : Nat} {tk : Nat → Int} {b : Int}
/-- what goOn does at a node with m sayings left -/
def GoOn (L n : Nat) (tk : Nat → Int) (b : Int) (m : Nat) : Prop :=
  ∀ (D : Nat) (pre : List Nat) (G : Nat → Int) (T B : Int) (st : Int × List Nat) (M : PM), 2 * m + 4 ≤ D → pre.length + m = n → czU (inU pre) n = m → (0 ≤ B ∧ BG G B ∧ 0 ≤ T ∧ T + B ≤ 100000000 + 200 * (pre.length : Int)) → NDs M tk n b pre G T st →
  ∃ M', den D 5 [(.inr (.inr (some 39))), (.inr (.inr (some 5))), .inl (pre.length : Int)] (SH L) M = some (none, SH L, M') ∧ FRs pre.length M M' ∧ BRs n (foL b tk pre G T st (pfL n m pre)) M'
theorem say_next (ht : TKo tk n) (hn : n ≤ 7) (hb : 0 ≤ b ∧ b ≤ 99) {m : Nat} (ih : GoOn L n tk b m) {D i : Nat} {pre : List Nat} {G : Nat → Int} {T B : Int} {st : Int × List Nat} {M : PM} (hD : 2 * m + 4 ≤ D) (hl : pre.length + (m + 1) = n) (hcz : czU (inU pre) n = m + 1) (hB : 0 ≤ B ∧ BG G B ∧ 0 ≤ T ∧ T + B ≤ 100000000 + 200 * (pre.length : Int)) (hN : NDs M tk n b pre G T st) (hi : i < n) (hmi : meL i pre = false) :
    ∃ M', den (D + 1) 6 [(.inr (.inr (some 39))), (.inr (.inr (some 5))), .inl (i : Int), (.inr (.inr (some (46 + 2 * pre.length)))), .inl (pre.length : Int)] (SH L) M = some (none, SH L, M') ∧ FRs pre.length M M' ∧ BRs n (foL b tk (pre ++ [i]) (stS b tk i G) (T + wS tk i G + duT tk i) st (pfL n m (pre ++ [i]))) M' := by
  have o39 := io_39 (L := L)
  have o5 := io_5 (L := L)
  obtain ⟨a1, a2, a3, a4, a5, a6, a7, a8⟩ := hN
  obtain ⟨hB0, hBG, hT0, hTB⟩ := hB
  have hti := ht i hi
  have h6 : spT tk i < 6 := by unfold spT; omega
  have hsp : ((spT tk i : Nat) : Int) = tk (3 * i) := by unfold spT; omega
  obtain ⟨B', b0, b1, b2, b3, b4⟩ := stB hb ht hi hB0 hBG
  have hU0 : inU pre i = 0 := if_neg (by rw [hmi]; decide)
  have hczn := cz_up (U := inU pre) (i := i) (n := n) hi hU0
  rw [inU_up] at hczn
  generalize hk : pre.length = k at *
  have hv := vlj (L := L) (j := k) (by omega)
  have hv2 := vlj (L := L) (j := k + 1) (by omega)
  rw [show 46 + 2 * (k + 1) = 46 + 2 * k + 2 by omega] at hv2
  generalize hvv : 46 + 2 * k = v at *
  have ov := vl_o hv
  have ov2 := vl_o hv2
  obtain ⟨E, rfl⟩ : ∃ E, D = E + 4 := ⟨D - 4, by omega⟩
  have wk := wr1 k (by omega)
  have cv := c_valleyAt (d := E + 4) (L := L) (M := M) (j := k + 1) (by omega)
  rw [show 46 + 2 * (k + 1) = v + 2 by omega] at cv
  have cs := c_sp (d := E + 3) (L := L) a1 (i := i) (by omega)
  rw [← hsp] at cs
  -- the valley that follows
  have c0 := c_vcopy (d := E + 3) (M := M) hv2 hv (by omega) (by omega) (by omega)
  generalize hX0 : setC (setC (vset M (v + 2) (fil (M (v + 1)) (M (v + 2 + 1)) 6) (M v 1)) (v + 2) 2 (M v 2)) (v + 2) 3 (M v 3) = X0 at c0
  have x0r : ∀ a, a ≠ v + 2 → a ≠ v + 3 → X0 a = M a := fun a y z => by rw [← hX0, setC_row y, setC_row y, vs_row y (by omega)]
  have x0g : X0 (v + 2 + 1) = fil (M (v + 1)) (M (v + 2 + 1)) 6 := by rw [← hX0, setC_row (by omega), setC_row (by omega), vs_G]
  have x01 : X0 (v + 2) 1 = M v 1 := by rw [← hX0, setC_i (by decide), setC_i (by decide), vs_T]
  have x02 : X0 (v + 2) 2 = b := by rw [← hX0, setC_i (by decide), setC_s, a6]
  have hE0 : EqG (X0 (v + 2 + 1)) G := by rw [x0g]; exact EqG.fil.tr a4
  have bg0 : BG (X0 (v + 2 + 1)) B := hBG.eq hE0
  have cw := c_wait (d := E + 2) hv2 (M := X0) (i := ((spT tk i : Nat) : Int)) (by omega) (by omega)
  rw [tnN, hE0 _ h6, show (if 0 < G (spT tk i) then G (spT tk i) else 0) = wS tk i G from rfl] at cw
  have c1 := c_silence (d := E + 2) hv2 (M := X0) (x := wS tk i G) (by rw [x02]; exact hb) (by omega) (by rw [x01]; omega) (bg0.le (by omega))
  rw [x02, x01] at c1
  have bg1 := passB hb b3 hB0 bg0
  generalize hX1 : vset X0 (v + 2) (passG b (wS tk i G) (-1) (X0 (v + 2 + 1))) (M v 1 + wS tk i G) = X1 at c1
  have x1g : X1 (v + 2 + 1) = passG b (wS tk i G) (-1) (X0 (v + 2 + 1)) := by rw [← hX1, vs_G]
  have x11 : X1 (v + 2) 1 = M v 1 + wS tk i G := by rw [← hX1, vs_T]
  have x12 : X1 (v + 2) 2 = b := by rw [← hX1, vs_2, x02]
  have x1r : ∀ a, a ≠ v + 2 → a ≠ v + 3 → X1 a = M a := fun a y z => by rw [← hX1, vs_row y (by omega), x0r a y z]
  have hC1 : CT X1 tk n := by
    unfold CT
    rw [x1r 5 (by omega) (by omega), x1r 6 (by omega) (by omega), x1r 7 (by omega) (by omega), x1r 8 (by omega) (by omega)]
    exact a1
  have cd := c_du (d := E + 3) (L := L) hC1 (i := i) (by omega)
  have hmx : mxI (B - wS tk i G) 0 ≤ B := by unfold mxI; split <;> omega
  have c2 := c_speak (d := E + 2) hv2 (M := X1) (i := ((spT tk i : Nat) : Int)) (x := duT tk i) (by omega) (by omega) (by rw [x12]; exact hb) (by omega) (by rw [x11]; omega) (by rw [x1g]; exact bg1.le (by omega))
  rw [x12, x11, tnN, x1g] at c2
  generalize hX2 : vset X1 (v + 2) (speakG b (duT tk i) (spT tk i) (passG b (wS tk i G) (-1) (X0 (v + 2 + 1)))) (M v 1 + wS tk i G + duT tk i) = X2 at c2
  have x2g : X2 (v + 2 + 1) = speakG b (duT tk i) (spT tk i) (passG b (wS tk i G) (-1) (X0 (v + 2 + 1))) := by rw [← hX2, vs_G]
  have x21 : X2 (v + 2) 1 = M v 1 + wS tk i G + duT tk i := by rw [← hX2, vs_T]
  have x22 : X2 (v + 2) 2 = b := by rw [← hX2, vs_2, x12]
  have x2r : ∀ a, a ≠ v + 2 → a ≠ v + 3 → X2 a = M a := fun a y z => by rw [← hX2, vs_row y (by omega), x1r a y z]
  have hE2 : EqG (X2 (v + 2 + 1)) (stS b tk i G) := by
    rw [x2g]
    exact EqG.add h6 (hE0.pass.pass)
  -- order, said
  have p42 := c_put_in (M := X2) (d := E + 4) (ar_42 (L := L)) (i := (k : Int)) (x := (i : Int)) (by omega) (by omega)
  rw [tnN] at p42
  generalize hX3 : setC X2 42 k (i : Int) = X3 at p42
  have p41 := c_put_in (M := X3) (d := E + 4) (ar_41 (L := L)) (i := (i : Int)) (x := 1) (by omega) (by omega)
  rw [tnN] at p41
  generalize hX4 : setC X3 41 i 1 = X4 at p41
  have x4r : ∀ a, a ≠ v + 2 → a ≠ v + 3 → a ≠ 41 → a ≠ 42 → X4 a = M a := fun a y z p q => by rw [← hX4, setC_row p, ← hX3, setC_row q, x2r a y z]
  have x4v : ∀ a, a = v + 2 ∨ a = v + 3 → X4 a = X2 a := fun a h => by rw [← hX4, setC_row (by omega), ← hX3, setC_row (by omega)]
  have x42 : ∀ j, X4 42 j = if j = k then (i : Int) else M 42 j := fun j => by
    rw [← hX4, setC_row (by decide), ← hX3]
    by_cases hj : j = k
    · subst hj; rw [setC_s, if_pos rfl]
    · rw [setC_i hj, if_neg hj, x2r 42 (by omega) (by omega)]
  have x41 : ∀ q, X4 41 q = if q = i then 1 else M 41 q := fun q => by
    rw [← hX4]
    by_cases hj : q = i
    · subst hj; rw [setC_s, if_pos rfl]
    · rw [setC_i hj, if_neg hj, ← hX3, setC_row (by decide), x2r 41 (by omega) (by omega)]
  have hlen : (pre ++ [i]).length = k + 1 := by simp [hk]
  have hN' : NDs X4 tk n b (pre ++ [i]) (stS b tk i G) (T + wS tk i G + duT tk i) st := by
    unfold NDs
    rw [hlen, show 46 + 2 * (k + 1) = v + 2 by omega]
    refine ⟨?_, ?_, ?_, ?_, ?_, ?_, ?_, ?_⟩
    · unfold CT
      rw [x4r 5 (by omega) (by omega) (by decide) (by decide), x4r 6 (by omega) (by omega) (by decide) (by decide), x4r 7 (by omega) (by omega) (by decide) (by decide), x4r 8 (by omega) (by omega) (by decide) (by decide)]
      exact a1
    · intro q hq
      rw [x41, ← inU_up]
      by_cases hj : q = i
      · subst hj; rw [if_pos rfl, up_s]
      · rw [if_neg hj, up_i hj]; exact a2 q hq
    · intro j hj
      rw [x42]
      by_cases hjk : j = k
      · subst hjk; rw [if_pos rfl, ← hk, gtL_end]
      · rw [if_neg hjk, gtL_app (by omega)]; exact a3 j (by omega)
    · rw [x4v _ (Or.inr rfl)]; exact hE2
    · rw [x4v _ (Or.inl rfl), x21, x4r 39 (by omega) (by omega) (by decide) (by decide)]; omega
    · rw [x4v _ (Or.inl rfl), x22]
    · rw [x4r 39 (by omega) (by omega) (by decide) (by decide)]; exact a7
    · unfold BRs
      rw [x4r 39 (by omega) (by omega) (by decide) (by decide), x4r 43 (by omega) (by omega) (by decide) (by decide)]; exact a8
  obtain ⟨X5, g1, g2, g3⟩ := ih (E + 4) (pre ++ [i]) (stS b tk i G) (T + wS tk i G + duT tk i) B' st X4 (by omega) (by rw [hlen]; omega) (by omega) ⟨b0, b1, by omega, by rw [hlen]; omega⟩ hN'
  rw [hlen] at g1 g2
  have p0 := c_put_in (M := X5) (d := E + 4) (ar_41 (L := L)) (i := (i : Int)) (x := 0) (by omega) (by omega)
  rw [tnN] at p0
  obtain ⟨f1, f2, f3, f4⟩ := g2
  refine ⟨setC X5 41 i 0, ?_, ⟨fun a ha => ?_, fun j hj => ?_, fun q hq => ?_, fun j hj => ?_⟩, ?_⟩
  · unfold den
    rw [show ent 6 [(.inr (.inr (some 39))), (.inr (.inr (some 5))), .inl (i : Int), (.inr (.inr (some v))), .inl (k : Int)] = [some (.inr (.inr (some 39))), some (.inr (.inr (some 5))), some (.inl (i : Int)), some (.inr (.inr (some v))), some (.inl (k : Int)), none, none] from rfl]
    simp (disch := first | omega | (exact Nat.le_of_ble_eq_true rfl) | assumption | rfl) only [e6_0, e6_1, e6_3, e6_4, e6_5, e6_8, e6_10, e6_12, e6_15, e6_16, e6_17, e6_18, e6_21, e6_23, e6_25, e6_26, e6_29, e6_31, e6_33, e6_35, e6_38, e6_41, e6_43, e6_45, e6_46, e6_47, e6_50, e6_53, e6_54, e6_57, e6_59, e6_60, e6_63, e6_64, e6_67, e6_68, e6_69, e6_72, e6_73, e6_74, e6_76, e6_77, e6_78, e6_81, e6_82, e6_85, e6_86, e6_87, e6_90, gf_39_1, gf_39_2, wk, cv, cs, c0, cw, c1, cd, c2, p42, p41, g1, p0, ↓reduceIte, true_and, and_true, false_and, and_false, bindS, tL0, tL1, app0, app1, eq_self, Int.reduceEq, Int.reduceLT, Int.reduceLE, Int.reduceNeg, Int.reduceToNat]
  · rw [setC_row (by omega), f1 a (by omega), x4r a (by omega) (by omega) (by omega) (by omega)]
  · rw [setC_row (by decide), f2 j hj, x4r 39 (by omega) (by omega) (by decide) (by decide)]
  · by_cases hj : q = i
    · subst hj
      rw [setC_s, a2 q hq, hU0]
    · rw [setC_i hj, f3 q hq, x41, if_neg hj]
  · rw [setC_row (by decide), f4 j (by omega), x42, if_neg (by omega)]
  · unfold BRs at g3 ⊢
    rw [setC_row (by decide), setC_row (by decide)]
    exact g3
theorem go_on (ht : TKo tk n) (hn : n ≤ 7) (hb : 0 ≤ b ∧ b ≤ 99) : ∀ m, GoOn L n tk b m := by
  intro m
  induction m with
  | zero =>
    intro D pre G T B st M hD hl hcz hB hN
    have o39 := io_39 (L := L)
    have o5 := io_5 (L := L)
    obtain ⟨a1, a2, a3, a4, a5, a6, a7, a8⟩ := id hN
    obtain ⟨hB0, hBG, hT0, hTB⟩ := hB
    obtain ⟨E, rfl⟩ : ∃ E, D = E + 4 := ⟨D - 4, by omega⟩
    have hall := cz_0 hcz
    have hv := vlj (L := L) (j := pre.length) (by omega)
    have ov := vl_o hv
    have cv := c_valleyAt (d := E + 3) (L := L) (M := M) (j := pre.length) (by omega)
    obtain ⟨f, g, cl⟩ := c_least (d := E + 1) (L := L) (tk := tk) (U := inU pre) hv (by omega) a1 ht hn a2 rfl ((hBG.eq a4).le (by omega)) (by rw [a5]; omega) (by omega)
    rw [lm_0 hall 6, Int.add_zero, a5] at cl
    have hN1 := ND_fr hN (ls_fr (f := f) (g := g)) (ls_br a8)
    have hF1 : FRs pre.length M (lset M f g) := ls_fr
    generalize lset M f g = M1 at *
    obtain ⟨e1, e2, e3, e4, e5, e6, e7, e8⟩ := hN1
    have e8' := e8.1
    show ∃ M', _ ∧ _ ∧ BRs n (foL b tk pre G T (if vlL tk pre [] = true ∧ T + csL b tk [] G < st.1 then (T + csL b tk [] G, pre ++ []) else st) []) M'
    rw [show csL b tk [] G = 0 from rfl, Int.add_zero, List.append_nil]
    have cn := c_cnt (d := E + 3) (L := L) e1
    have hkn : ¬ (pre.length : Int) < (n : Int) := by omega
    by_cases hT : T < st.1
    · rw [if_pos ⟨rfl, hT⟩]
      have ct := c_time (d := E + 3) (M := M1) hv
      have w : wr (M1 (46 + 2 * pre.length) 1 - M1 39 6) = T := by rw [e5]; exact wr_id (by omega) (by omega)
      have cc := fun M => c_copyRow (d := E + 3) (M := M) (ar_42 (L := L)) (ar_43 (L := L)) (by decide) (by decide)
      refine ⟨setR (setC M1 39 7 T) 43 (fil (setC M1 39 7 T 42) (setC M1 39 7 T 43) 7), ?_, hF1.tr ⟨fun a ha => ?_, fun j hj => ?_, fun q hq => ?_, fun j hj => ?_⟩, ?_, Or.inr fun j hj => ?_⟩
      · unfold den
        rw [show ent 5 [(.inr (.inr (some 39))), (.inr (.inr (some 5))), .inl (pre.length : Int)] = [some (.inr (.inr (some 39))), some (.inr (.inr (some 5))), some (.inl (pre.length : Int)), none, none] from rfl]
        simp (disch := first | omega | (exact Nat.le_of_ble_eq_true rfl) | assumption | rfl) only [e5_0, e5_1, e5_2, e5_5, e5_6, e5_7, e5_10, e5_11, e5_12, e5_13, e5_16, e5_17, e5_20, e5_23, e5_24, e5_25, e5_26, e5_29, e5_32, e5_33, e5_34, e5_37, e5_38, e5_41, e5_42, e5_45, e5_46, e5_49, e5_50, e5_53, e5_56, e5_57, e5_58, e5_62, e5_63, e5_66, e5_69, e5_70, e5_71, e5_73, e5_76, e5_79, e5_80, e5_81, e5_83, e5_84, e5_85, e5_88, e5_91, e5_94, cv, cl, gf_39_2, gf_39_3, gf_39_6, gf_39_7, e8', hT, cn, hkn, ct, w, pi_39_7, cc, ↓reduceIte, true_and, and_true, false_and, and_false, bindS, tL0, tL1, app0, app1, eq_self, Int.reduceEq, Int.reduceLT, Int.reduceLE, Int.reduceNeg, Int.reduceToNat]
      · rw [setR_row (by omega), setC_row (by omega)]
      · rw [setR_row (by decide), setC_i hj]
      · rw [setR_row (by decide), setC_row (by decide)]
      · rw [setR_row (by decide), setC_row (by decide)]
      · rw [setR_row (by decide), setC_s]; rfl
      · rw [setR_s, fil_lt _ _ (by omega), setC_row (by decide)]
        exact e3 j (by omega)
    · rw [if_neg (fun z => hT z.2)]
      refine ⟨M1, ?_, hF1, e8⟩
      unfold den
      rw [show ent 5 [(.inr (.inr (some 39))), (.inr (.inr (some 5))), .inl (pre.length : Int)] = [some (.inr (.inr (some 39))), some (.inr (.inr (some 5))), some (.inl (pre.length : Int)), none, none] from rfl]
      simp (disch := first | omega | (exact Nat.le_of_ble_eq_true rfl) | assumption | rfl) only [e5_0, e5_1, e5_2, e5_5, e5_6, e5_7, e5_10, e5_11, e5_12, e5_13, e5_16, e5_17, e5_20, e5_23, e5_24, e5_25, e5_26, e5_29, e5_32, e5_33, e5_34, e5_37, e5_38, e5_41, e5_42, e5_45, e5_46, e5_49, e5_50, e5_53, e5_56, e5_57, e5_58, e5_62, e5_63, e5_66, e5_69, e5_70, e5_71, e5_73, e5_76, e5_79, e5_80, e5_81, e5_83, e5_84, e5_85, e5_88, e5_91, e5_94, cv, cl, gf_39_7, e8', hT, ↓reduceIte, true_and, and_true, false_and, and_false, bindS, tL0, tL1, app0, app1, eq_self, Int.reduceEq, Int.reduceLT, Int.reduceLE, Int.reduceNeg, Int.reduceToNat]
  | succ m ih =>
    intro D pre G T B st M hD hl hcz hB hN
    have o39 := io_39 (L := L)
    have o5 := io_5 (L := L)
    obtain ⟨a1, a2, a3, a4, a5, a6, a7, a8⟩ := id hN
    obtain ⟨hB0, hBG, hT0, hTB⟩ := id hB
    obtain ⟨E, rfl⟩ : ∃ E, D = E + 4 := ⟨D - 4, by omega⟩
    have hv := vlj (L := L) (j := pre.length) (by omega)
    have ov := vl_o hv
    have cv := c_valleyAt (d := E + 3) (L := L) (M := M) (j := pre.length) (by omega)
    obtain ⟨f, g, cl⟩ := c_least (d := E + 1) (L := L) (tk := tk) (U := inU pre) hv (by omega) a1 ht hn a2 rfl ((hBG.eq a4).le (by omega)) (by rw [a5]; omega) (by omega)
    rw [lm_E a4 6 (Nat.le_refl _), a5] at cl
    have hN1 := ND_fr hN (ls_fr (f := f) (g := g)) (ls_br a8)
    have hF1 : FRs pre.length M (lset M f g) := ls_fr
    generalize lset M f g = M1 at *
    have e8 := hN1.2.2.2.2.2.2.2
    have e8' := e8.1
    by_cases hT : T + lmU tk (inU pre) n G 6 < st.1
    rotate_left
    · -- none of them can be sooner
      rw [fo_prune _ _ (fun s hs => by
        have := lm_le (b := b) hb.1 (G := G) ht (pf_comp (m + 1) pre s hcz hs) 6
        omega)]
      refine ⟨M1, ?_, hF1, e8⟩
      unfold den
      rw [show ent 5 [(.inr (.inr (some 39))), (.inr (.inr (some 5))), .inl (pre.length : Int)] = [some (.inr (.inr (some 39))), some (.inr (.inr (some 5))), some (.inl (pre.length : Int)), none, none] from rfl]
      simp (disch := first | omega | (exact Nat.le_of_ble_eq_true rfl) | assumption | rfl) only [e5_0, e5_1, e5_2, e5_5, e5_6, e5_7, e5_10, e5_11, e5_12, e5_13, e5_16, e5_17, e5_20, e5_23, e5_24, e5_25, e5_26, e5_29, e5_32, e5_33, e5_34, e5_37, e5_38, e5_41, e5_42, e5_45, e5_46, e5_49, e5_50, e5_53, e5_56, e5_57, e5_58, e5_62, e5_63, e5_66, e5_69, e5_70, e5_71, e5_73, e5_76, e5_79, e5_80, e5_81, e5_83, e5_84, e5_85, e5_88, e5_91, e5_94, cv, cl, gf_39_7, e8', hT, ↓reduceIte, true_and, and_true, false_and, and_false, bindS, tL0, tL1, app0, app1, eq_self, Int.reduceEq, Int.reduceLT, Int.reduceLE, Int.reduceNeg, Int.reduceToNat]
    · have loop : ∀ (k i : Nat) (st1 : Int × List Nat) (M2 : PM), i + k = n → NDs M2 tk n b pre G T st1 → ∃ M', ev (E + 4) 5 60 [some (.inr (.inr (some 39))), some (.inr (.inr (some 5))), some (.inl (pre.length : Int)), some (.inr (.inr (some (46 + 2 * pre.length)))), some (.inl (i : Int))] [] (SH L) M2 = some (none, SH L, M') ∧ FRs pre.length M2 M' ∧ BRs n (foL b tk pre G T st1 (plL (fun i => if meL i pre = true then [] else (pfL n m (pre ++ [i])).map (i :: ·)) k i)) M' := by
        intro k
        induction k with
        | zero =>
          intro i st1 M2 hi hN2
          have hi : i = n := by omega
          subst hi
          have cn := c_cnt (d := E + 3) (L := L) hN2.1
          have hle : (i : Int) ≤ (i : Int) := Int.le_refl _
          refine ⟨M2, ?_, FRs.rf, hN2.2.2.2.2.2.2.2⟩
          rw [e5_60]
          simp (disch := first | omega | (exact Nat.le_of_ble_eq_true rfl) | assumption | rfl) only [e5_0, e5_1, e5_2, e5_5, e5_6, e5_7, e5_10, e5_11, e5_12, e5_13, e5_16, e5_17, e5_20, e5_23, e5_24, e5_25, e5_26, e5_29, e5_32, e5_33, e5_34, e5_37, e5_38, e5_41, e5_42, e5_45, e5_46, e5_49, e5_50, e5_53, e5_56, e5_57, e5_58, e5_62, e5_63, e5_66, e5_69, e5_70, e5_71, e5_73, e5_76, e5_79, e5_80, e5_81, e5_83, e5_84, e5_85, e5_88, e5_91, e5_94, cn, hle, ↓reduceIte, true_and, and_true, false_and, and_false, bindS, tL0, tL1, app0, app1, eq_self, Int.reduceEq, Int.reduceLT, Int.reduceLE, Int.reduceNeg, Int.reduceToNat]
        | succ k ihk =>
          intro i st1 M2 hi hN2
          have cn := c_cnt (d := E + 3) (L := L) hN2.1
          have hle : ¬ (n : Int) ≤ (i : Int) := by omega
          have wi := wr1 i (by omega)
          have cm := c_may (d := E + 1) (L := L) hN2.1 ht hn (i := i) (by omega) hN2.2.1
          show ∃ M', _ ∧ _ ∧ BRs n (foL b tk pre G T st1 ((if meL i pre = true then [] else (pfL n m (pre ++ [i])).map (i :: ·)) ++ plL (fun i => if meL i pre = true then [] else (pfL n m (pre ++ [i])).map (i :: ·)) k (i + 1))) M'
          rw [fo_app]
          by_cases hgo : meL i pre = false ∧ okY tk pre i = true
          · rw [if_pos hgo] at cm
            have hm0 : ¬ meL i pre = true := by rw [hgo.1]; decide
            rw [if_neg hm0, fo_map, if_pos hgo.2]
            obtain ⟨M3, s1, s2, s3⟩ := say_next ht hn hb ih (D := E + 2) (L := L) (i := i) (by omega) hl hcz hB hN2 (by omega) hgo.1
            obtain ⟨M4, q1, q2, q3⟩ := ihk (i + 1) _ M3 (by omega) (ND_fr hN2 s2 s3)
            refine ⟨M4, ?_, s2.tr q2, q3⟩
            rw [e5_60]
            simp (disch := first | omega | (exact Nat.le_of_ble_eq_true rfl) | assumption | rfl) only [e5_0, e5_1, e5_2, e5_5, e5_6, e5_7, e5_10, e5_11, e5_12, e5_13, e5_16, e5_17, e5_20, e5_23, e5_24, e5_25, e5_26, e5_29, e5_32, e5_33, e5_34, e5_37, e5_38, e5_41, e5_42, e5_45, e5_46, e5_49, e5_50, e5_53, e5_56, e5_57, e5_58, e5_62, e5_63, e5_66, e5_69, e5_70, e5_71, e5_73, e5_76, e5_79, e5_80, e5_81, e5_83, e5_84, e5_85, e5_88, e5_91, e5_94, cn, hle, cm, s1, wi, ↓reduceIte, true_and, and_true, false_and, and_false, bindS, tL0, tL1, app0, app1, eq_self, Int.reduceEq, Int.reduceLT, Int.reduceLE, Int.reduceNeg, Int.reduceToNat]
            exact q1
          · rw [if_neg hgo] at cm
            have e : foL b tk pre G T st1 (if meL i pre = true then [] else (pfL n m (pre ++ [i])).map (i :: ·)) = st1 := by
              by_cases hm1 : meL i pre = true
              · rw [if_pos hm1]; rfl
              · rw [if_neg hm1, fo_map, if_neg (fun z => hgo ⟨by simpa using hm1, z⟩)]
            rw [e]
            obtain ⟨M4, q1, q2, q3⟩ := ihk (i + 1) st1 M2 (by omega) hN2
            refine ⟨M4, ?_, q2, q3⟩
            rw [e5_60]
            simp (disch := first | omega | (exact Nat.le_of_ble_eq_true rfl) | assumption | rfl) only [e5_0, e5_1, e5_2, e5_5, e5_6, e5_7, e5_10, e5_11, e5_12, e5_13, e5_16, e5_17, e5_20, e5_23, e5_24, e5_25, e5_26, e5_29, e5_32, e5_33, e5_34, e5_37, e5_38, e5_41, e5_42, e5_45, e5_46, e5_49, e5_50, e5_53, e5_56, e5_57, e5_58, e5_62, e5_63, e5_66, e5_69, e5_70, e5_71, e5_73, e5_76, e5_79, e5_80, e5_81, e5_83, e5_84, e5_85, e5_88, e5_91, e5_94, cn, hle, cm, wi, ↓reduceIte, true_and, and_true, false_and, and_false, bindS, tL0, tL1, app0, app1, eq_self, Int.reduceEq, Int.reduceLT, Int.reduceLE, Int.reduceNeg, Int.reduceToNat]
            exact q1
      obtain ⟨M4, q1, q2, q3⟩ := loop n 0 st M1 (by omega) hN1
      have cn := c_cnt (d := E + 3) (L := L) hN1.1
      have hkn : (pre.length : Int) < (n : Int) := by omega
      refine ⟨M4, ?_, hF1.tr q2, q3⟩
      unfold den
      rw [show ent 5 [(.inr (.inr (some 39))), (.inr (.inr (some 5))), .inl (pre.length : Int)] = [some (.inr (.inr (some 39))), some (.inr (.inr (some 5))), some (.inl (pre.length : Int)), none, none] from rfl]
      simp (disch := first | omega | (exact Nat.le_of_ble_eq_true rfl) | assumption | rfl) only [e5_0, e5_1, e5_2, e5_5, e5_6, e5_7, e5_10, e5_11, e5_12, e5_13, e5_16, e5_17, e5_20, e5_23, e5_24, e5_25, e5_26, e5_29, e5_32, e5_33, e5_34, e5_37, e5_38, e5_41, e5_42, e5_45, e5_46, e5_49, e5_50, e5_53, e5_56, e5_57, e5_58, e5_62, e5_63, e5_66, e5_69, e5_70, e5_71, e5_73, e5_76, e5_79, e5_80, e5_81, e5_83, e5_84, e5_85, e5_88, e5_91, e5_94, cv, cl, gf_39_7, e8', hT, cn, hkn, ↓reduceIte, true_and, and_true, false_and, and_false, bindS, tL0, tL1, app0, app1, eq_self, Int.reduceEq, Int.reduceLT, Int.reduceLE, Int.reduceNeg, Int.reduceToNat]
      exact q1
end
