/-! the law: its start, its loop -/
def SA (L : Nat) : List PS := (SH L).take 63
theorem start_M {xs : Nat → Int32} : ZF 1 (M0 xs) := fun b j hb => by unfold M0; rw [if_neg (by omega)]
theorem law_start {L : Nat} {xs : Nat → Int32} : ∃ M1, ev 2000 134 0 [some (.inr (.inr (some 0))), none, none, none] [] [(11, L, [])] (M0 xs) = ev 2000 134 18 [some (.inr (.inr (some 0))), some (.inr (.inr (some 1))), some (.inr (.inr (some 63))), some (.inl ((0 : Nat) : Int))] [] (SH L) M1 ∧ Inv 0 M1 := by
  have z1 : setR (M0 xs) 1 (fun _ => 0) = M0 xs := zr start_M
  have c1 := k54 (d := 1996) (P := [(11, L, [])]) (a := 1) (M := M0 xs) rfl (by decide) start_M
  have i1 : isObj ([(11, L, [])] ++ [(6, 0, dfl 6)]) (some (.inr (.inr (some 1)))) 6 = true := rfl
  simp only [Nat.reduceAdd] at c1
  generalize hMA : setC _ 60 3 2 = MA at c1
  have hzA : ZF 63 MA := by
    intro b j hb
    rw [← hMA]
    (repeat rw [setC_row (by omega)])
    exact start_M b j (by omega)
  have c1' : den 1999 54 [(.inr (.inr (some 1)))] ([(11, L, [])] ++ [(6, 0, dfl 6)]) (M0 xs) = some (none, SA L, MA) := c1
  have z2 : setR MA 63 (fun _ => 0) = MA := zr hzA
  have c2 := k92 (d := 1998) (P := SA L) (a := 63) (M := MA) rfl (by decide) hzA
  have i2 : isObj (SA L ++ [(7, 0, dfl 7)]) (some (.inr (.inr (some 63)))) 7 = true := rfl
  have l2 : (SA L).length = 63 := rfl
  have n2 : ¬ (SA L).length = 0 := by rw [l2]; decide
  have l1 : ([(11, L, [])] : List PS).length = 1 := rfl
  have n1 : ¬ ([(11, L, [])] : List PS).length = 0 := by rw [l1]; decide
  generalize hMB : setC (setC MA 63 0 9) 63 1 2 = MB at c2
  have c2' : den 1999 92 [(.inr (.inr (some 63)))] (SA L ++ [(7, 0, dfl 7)]) MA = some (none, SH L, MB) := c2
  refine ⟨MB, ?_, ?_⟩
  · rw [e134_0 n1, l1, z1, e134_3, e134_4 i1 (by exact Nat.le_of_ble_eq_true rfl), c1']
    simp only [bindS, tL0, app0]
    rw [e134_7, e134_8 n2, l2, z2, e134_11, e134_12 i2 (by exact Nat.le_of_ble_eq_true rfl), c2']
    simp only [bindS, tL0, app0]
    rw [e134_15, e134_16, e134_17]
    rfl
  · have f : ∀ b j, b ≠ 0 → b ≠ 63 → j ≠ 2 → j ≠ 3 → MB b j = 0 := by
      intro b j h0 h63 h2 h3
      rw [← hMB, setC_row h63, setC_row h63, ← hMA]
      simp only [setC, h2, h3, and_false, if_false]
      exact start_M b j (by omega)
    have fr : ∀ b, b ≠ 0 → b ≠ 63 → b ≠ 3 → b ≠ 13 → b ≠ 23 → b ≠ 37 → b < 46 ∨ 60 < b → MB b = fun _ => 0 := by
      intro b h0 h63 h3 h13 h23 h37 h46
      rw [← hMB, setC_row h63, setC_row h63, ← hMA]
      funext j
      (repeat rw [setC_row (by omega)])
      exact start_M b j (by omega)
    have v2 : MB 3 2 = 9 := by
      rw [← hMB, setC_row (by decide), setC_row (by decide), ← hMA]
      simp [setC]
    have v3 : MB 3 3 = 2 := by
      rw [← hMB, setC_row (by decide), setC_row (by decide), ← hMA]
      simp [setC]
    have v1 : MB 3 1 = 0 := f 3 1 (by decide) (by decide) (by decide) (by decide)
    have m0 : MB 63 0 = 9 := by rw [← hMB, setC_i (by decide), setC_s]
    have m1 : MB 63 1 = 2 := by rw [← hMB, setC_s]
    have m : ∀ j, j ≠ 0 → j ≠ 1 → MB 63 j = 0 := fun j h0 h1 => by rw [← hMB, setC_i h1, setC_i h0]; exact hzA 63 j (by decide)
    have g : ∀ b, (4 ≤ b ∧ b ≤ 12 ∨ b = 22 ∨ b = 32 ∨ b = 33 ∨ b = 41 ∨ b = 64 ∨ b = 65 ∨ b = 66 ∨ b = 67 ∨ b = 72) → MB b = fun _ => 0 := fun b hb => fr b (by omega) (by omega) (by omega) (by omega) (by omega) (by omega) (by omega)
    refine ⟨⟨⟨?_, ?_, ?_, ?_, ?_, ?_, ?_, ?_⟩, ⟨?_, ?_, ?_, ?_, ?_, ?_, ?_, ?_⟩⟩, ⟨?_, ?_, ?_⟩, ⟨?_, ?_, ?_⟩, ⟨?_, ?_, ?_, ?_⟩, ?_, ?_⟩
    · intro p hp; rw [g 64 (by decide)]; show -100 ≤ (0 : Int) ∧ (0 : Int) ≤ 0; decide
    · rw [m0]; decide
    · rw [m1]; decide
    · rw [m 2 (by decide) (by decide)]; decide
    · rw [m 4 (by decide) (by decide)]; decide
    · rw [m 6 (by decide) (by decide)]; decide
    · intro i hi; rw [m 4 (by decide) (by decide)] at hi; omega
    · intro i hi; rw [m 6 (by decide) (by decide)] at hi; omega
    · intro p hp; rw [g 64 (by decide), g 4 (by decide)]
    · rw [v2, m0]
    · rw [v3, m1]
    · rw [v1, m 2 (by decide) (by decide)]
    · rw [g 5 (by decide), m 4 (by decide) (by decide)]
    · rw [g 9 (by decide), m 6 (by decide) (by decide)]
    · intro i hi
      rw [g 65 (by decide), g (5 + 1) (by decide), g (5 + 2) (by decide), g (5 + 3) (by decide)]
      exact ⟨rfl, rfl, rfl⟩
    · intro i hi
      rw [g 66 (by decide), g (9 + 1) (by decide), g (9 + 2) (by decide)]
      exact ⟨rfl, rfl⟩
    · rw [g 12 (by decide), g 72 (by decide)]
    · rw [g 72 (by decide)]; exact Or.inl rfl
    · rw [g 72 (by decide)]; intro h; exact absurd h (by decide)
    · rw [g 22 (by decide), g 72 (by decide)]
    · rw [g 72 (by decide)]; exact Or.inl rfl
    · rw [g 72 (by decide)]; intro h; exact absurd h (by decide)
    · rw [m 8 (by decide) (by decide)]; decide
    · rw [g 32 (by decide), m 8 (by decide) (by decide)]
    · intro i hi; rw [g 33 (by decide), g 67 (by decide)]
    · intro i hi; rw [m 8 (by decide) (by decide)] at hi; omega
    · intro i hi; rw [g 41 (by decide)]
    · rw [m 12 (by decide) (by decide)]; decide
theorem law_loop {L : Nat} (hL : L ≤ 3584) : ∀ (k i : Nat) (K : Int) (M : PM), L < i + 7 * (k + 1) → i ≤ L + 7 → 7 * K ≤ 24000 * (i : Int) → Inv K M → ∃ M2, ev 2000 134 18 [some (.inr (.inr (some 0))), some (.inr (.inr (some 1))), some (.inr (.inr (some 63))), some (.inl (i : Int))] [] (SH L) M = some (some (.inl 1), SH L, M2) := by
  have w7 : wr ((L : Int) - 7) = (L : Int) - 7 := wr_id (by omega) (by omega)
  have stop : ∀ (i : Nat) (M : PM), L < i + 7 → ev 2000 134 18 [some (.inr (.inr (some 0))), some (.inr (.inr (some 1))), some (.inr (.inr (some 63))), some (.inl (i : Int))] [] (SH L) M = some (some (.inl 1), SH L, M) := by
    intro i M hi
    have h : (L : Int) - 7 < (i : Int) := by omega
    simp only [e134_18, e134_19, e134_20, sl_0, bindS, e134_21, e134_23, w7, e134_24, if_pos h, e134_825, e134_826o]
  intro k
  induction k with
  | zero =>
    intro i K M hi hiL hK7 h
    exact ⟨M, stop i M (by omega)⟩
  | succ k ih =>
    intro i K M hi hiL hK7 h
    by_cases hs : L < i + 7
    · exact ⟨M, stop i M hs⟩
    have hi7 : i + 7 ≤ L := by omega
    have hK : K ≤ 100000000 := by omega
    have hlt : ¬ (L : Int) - 7 < (i : Int) := by omega
    have gs := sg_0 (L := L) (M := M) (x := (i : Int)) (by omega) (by omega)
    have hd : ∀ y : Int, y = (Int32.ofInt (M 0 (i : Int).toNat) &&& Int32.ofInt 31).toInt → ev 2000 134 18 [some (.inr (.inr (some 0))), some (.inr (.inr (some 1))), some (.inr (.inr (some 63))), some (.inl (i : Int))] [] (SH L) M = ev 2000 134 33 [some (.inr (.inr (some 0))), some (.inr (.inr (some 1))), some (.inr (.inr (some 63))), some (.inl (i : Int))] [.inl y] (SH L) M := by
      intro y hy
      simp only [e134_18, e134_19, e134_20, sl_0, bindS, e134_21, e134_23, w7, e134_24, if_neg hlt, e134_27, e134_28, e134_29, gs, e134_30, e134_32, hy]
    rw [hd _ rfl]
    generalize (Int32.ofInt (M 0 (i : Int).toNat) &&& Int32.ofInt 31).toInt = y
    have go : ∀ M2, Inv (K + 24000) M2 → ∃ M3, ev 2000 134 18 [some (.inr (.inr (some 0))), some (.inr (.inr (some 1))), some (.inr (.inr (some 63))), some (.inl ((i : Int) + 7))] [] (SH L) M2 = some (some (.inl 1), SH L, M3) := fun M2 h2 => ih (i + 7) (K + 24000) M2 (by omega) (by omega) (by omega) h2
    rw [e134_33]
    by_cases y0 : y = 0
    · rw [if_pos y0]
      obtain ⟨r, M1, M2, a1, a2, a3, a4⟩ := op_set (L := L) h (M 0 ((i : Int) + 1).toNat) (M 0 ((i : Int) + 2).toNat)
      rw [lawc_0 (d := 1999) hi7 hL a1 a2 a3]
      exact go M2 (Inv_mono (by omega) a4)
    rw [if_neg y0]
    by_cases y1 : y = 1
    · rw [if_pos y1]
      obtain ⟨r, M1, M2, a1, a2, a3, a4⟩ := op_say (L := L) h (M 0 ((i : Int) + 1).toNat)
      rw [lawc_1 (d := 1999) hi7 hL a1 a2 a3]
      exact go M2 (Inv_mono (by omega) a4)
    rw [if_neg y1]
    by_cases y2 : y = 2
    · rw [if_pos y2]
      obtain ⟨r, M1, M2, a1, a2, a3, a4⟩ := op_wipe (L := L) h
      rw [lawc_2 (d := 1999) hi7 hL a1 a2 a3]
      exact go M2 (Inv_mono (by omega) a4)
    rw [if_neg y2]
    by_cases y3 : y = 3
    · rw [if_pos y3]
      obtain ⟨r, M1, M2, a1, a2, a3, a4⟩ := op_fault (L := L) h
      rw [lawc_3 (d := 1999) hi7 hL a1 a2 a3]
      exact go M2 (Inv_mono (by omega) a4)
    rw [if_neg y3]
    by_cases y4 : y = 4
    · rw [if_pos y4]
      obtain ⟨r, M1, M2, a1, a2, a3, a4⟩ := op_judge (L := L) h hK
      rw [lawc_4 (d := 1999) hi7 hL a1 a2 a3]
      exact go M2 (Inv_mono (by omega) a4)
    rw [if_neg y4]
    by_cases y5 : y = 5
    · rw [if_pos y5]
      obtain ⟨r, M1, M2, a1, a2, a3, a4⟩ := op_done (L := L) h hK
      rw [lawc_5 (d := 1999) hi7 hL a1 a2 a3]
      exact go M2 a4
    rw [if_neg y5]
    by_cases y6 : y = 6
    · rw [if_pos y6]
      obtain ⟨r, M1, M2, a1, a2, a3, a4⟩ := op_behind (L := L) h hK (M 0 ((i : Int) + 1).toNat)
      rw [lawc_6 (d := 1999) hi7 hL a1 a2 a3]
      exact go M2 (Inv_mono (by omega) a4)
    rw [if_neg y6]
    by_cases y7 : y = 7
    · rw [if_pos y7]
      obtain ⟨r, M1, M2, a1, a2, a3, a4⟩ := op_free (L := L) h (M 0 ((i : Int) + 1).toNat)
      rw [lawc_7 (d := 1999) hi7 hL a1 a2 a3]
      exact go M2 (Inv_mono (by omega) a4)
    rw [if_neg y7]
    by_cases y8 : y = 8
    · rw [if_pos y8]
      obtain ⟨r, M1, M2, a1, a2, a3, a4⟩ := op_answer (L := L) h hK (M 0 ((i : Int) + 1).toNat) (M 0 ((i : Int) + 2).toNat)
      rw [lawc_8 (d := 1999) hi7 hL a1 a2 a3]
      exact go M2 (Inv_mono (by omega) a4)
    rw [if_neg y8]
    by_cases y9 : y = 9
    · rw [if_pos y9]
      obtain ⟨r, M1, M2, a1, a2, a3, a4⟩ := op_give (L := L) h hK (M 0 ((i : Int) + 1).toNat) (M 0 ((i : Int) + 2).toNat) (M 0 ((i : Int) + 3).toNat)
      rw [lawc_9 (d := 1999) hi7 hL a1 a2 a3]
      exact go M2 (Inv_mono (by omega) a4)
    rw [if_neg y9]
    by_cases y10 : y = 10
    · rw [if_pos y10]
      obtain ⟨r, M1, M2, a1, a2, a3, a4⟩ := op_saying (L := L) h (M 0 ((i : Int) + 1).toNat) (M 0 ((i : Int) + 2).toNat) (M 0 ((i : Int) + 3).toNat)
      rw [lawc_10 (d := 1999) hi7 hL a1 a2 a3]
      exact go M2 (Inv_mono (by omega) a4)
    rw [if_neg y10]
    by_cases y11 : y = 11
    · rw [if_pos y11]
      obtain ⟨r, M1, M2, a1, a2, a3, a4⟩ := op_drop (L := L) h
      rw [lawc_11 (d := 1999) hi7 hL a1 a2 a3]
      exact go M2 (Inv_mono (by omega) a4)
    rw [if_neg y11]
    by_cases y12 : y = 12
    · rw [if_pos y12]
      obtain ⟨r, M1, M2, a1, a2, a3, a4⟩ := op_soonest (L := L) h hK (M 0 ((i : Int) + 1).toNat)
      rw [lawc_12 (d := 1999) hi7 hL a1 a2 a3]
      exact go M2 (Inv_mono (by omega) a4)
    rw [if_neg y12]
    by_cases y13 : y = 13
    · rw [if_pos y13]
      obtain ⟨r, M1, M2, a1, a2, a3, a4⟩ := op_whom (L := L) h hK (M 0 ((i : Int) + 1).toNat) (M 0 ((i : Int) + 2).toNat)
      rw [lawc_13 (d := 1999) hi7 hL a1 a2 a3]
      exact go M2 (Inv_mono (by omega) a4)
    rw [if_neg y13]
    by_cases y14 : y = 14
    · rw [if_pos y14]
      obtain ⟨r, M1, M2, a1, a2, a3, a4⟩ := op_quarrel (L := L) h hK (M 0 ((i : Int) + 1).toNat) (M 0 ((i : Int) + 2).toNat) (M 0 ((i : Int) + 3).toNat) (M 0 ((i : Int) + 4).toNat) (M 0 ((i : Int) + 5).toNat) (M 0 ((i : Int) + 6).toNat)
      rw [lawc_14 (d := 1999) hi7 hL a1 a2 a3]
      exact go M2 (Inv_mono (by omega) a4)
    rw [if_neg y14]
    by_cases y15 : y = 15
    · rw [if_pos y15]
      obtain ⟨r, M1, M2, a1, a2, a3, a4⟩ := op_length (L := L) h hK (M 0 ((i : Int) + 1).toNat) (M 0 ((i : Int) + 2).toNat) (M 0 ((i : Int) + 3).toNat)
      rw [lawc_15 (d := 1999) hi7 hL a1 a2 a3]
      exact go M2 (Inv_mono (by omega) a4)
    rw [if_neg y15]
    by_cases y16 : y = 16
    · rw [if_pos y16]
      obtain ⟨r, M1, M2, a1, a2, a3, a4⟩ := op_seen (L := L) h (M 0 ((i : Int) + 1).toNat) (M 0 ((i : Int) + 2).toNat)
      rw [lawc_16 (d := 1999) hi7 hL a1 a2 a3]
      exact go M2 (Inv_mono (by omega) a4)
    rw [if_neg y16]
    by_cases y17 : y = 17
    · rw [if_pos y17]
      obtain ⟨r, M1, M2, a1, a2, a3, a4⟩ := op_forget (L := L) h
      rw [lawc_17 (d := 1999) hi7 hL a1 a2 a3]
      exact go M2 (Inv_mono (by omega) a4)
    rw [if_neg y17]
    by_cases y18 : y = 18
    · rw [if_pos y18]
      obtain ⟨r, M1, M2, a1, a2, a3, a4⟩ := op_filled (L := L) h hK (M 0 ((i : Int) + 1).toNat)
      rw [lawc_18 (d := 1999) hi7 hL a1 a2 a3]
      exact go M2 (Inv_mono (by omega) a4)
    rw [if_neg y18]
    by_cases y19 : y = 19
    · rw [if_pos y19]
      obtain ⟨r, M1, M2, a1, a2, a3, a4⟩ := op_burns (L := L) h hK (M 0 ((i : Int) + 1).toNat) (M 0 ((i : Int) + 2).toNat)
      rw [lawc_19 (d := 1999) hi7 hL a1 a2 a3]
      exact go M2 (Inv_mono (by omega) a4)
    rw [if_neg y19]
    by_cases y20 : y = 20
    · rw [if_pos y20]
      obtain ⟨r, M1, M2, a1, a2, a3, a4⟩ := op_year (L := L) h hK (M 0 ((i : Int) + 1).toNat) (M 0 ((i : Int) + 2).toNat) (M 0 ((i : Int) + 3).toNat)
      rw [lawc_20 (d := 1999) hi7 hL a1 a2 a3]
      exact go M2 (Inv_mono (by omega) a4)
    rw [if_neg y20]
    by_cases y21 : y = 21
    · rw [if_pos y21]
      obtain ⟨r, M1, M2, a1, a2, a3, a4⟩ := op_image (L := L) h (M 0 ((i : Int) + 1).toNat)
      rw [lawc_21 (d := 1999) hi7 hL a1 a2 a3]
      exact go M2 (Inv_mono (by omega) a4)
    rw [if_neg y21]
    by_cases y22 : y = 22
    · rw [if_pos y22]
      obtain ⟨r, M1, M2, a1, a2, a3, a4⟩ := op_restore (L := L) h (M 0 ((i : Int) + 1).toNat)
      rw [lawc_22 (d := 1999) hi7 hL a1 a2 a3]
      exact go M2 (Inv_mono (by omega) a4)
    rw [if_neg y22]
    by_cases y23 : y = 23
    · rw [if_pos y23]
      obtain ⟨r, M1, M2, a1, a2, a3, a4⟩ := op_told (L := L) h hK (M 0 ((i : Int) + 1).toNat)
      rw [lawc_23 (d := 1999) hi7 hL a1 a2 a3]
      exact go M2 (Inv_mono (by omega) a4)
    rw [if_neg y23]
    have w : wr ((i : Int) + 7) = (i : Int) + 7 := wr_id (by omega) (by omega)
    rw [e134_819, w, e134_822]
    exact go M (Inv_mono (by omega) h)
theorem zs_SH {L : Nat} (hL : L ≤ 3584) : zs (SH L) ≤ 7302250 := by
  show psz (11, L, []) + _ ≤ _
  have h : zs ((SH L).drop 1) ≤ 100000 := by
    show zs ((SH 0).drop 1) ≤ 100000
    decide
  have e : psz (11, L, []) ≤ 10000 := by
    unfold psz
    simp
    omega
  exact Nat.le_trans (Nat.add_le_add e h) (by decide)
theorem law_runs {L : Nat} {xs : Nat → Int32} (hL : L ≤ 3584) : ∃ (n : Nat) (sh' : List PS) (M' : PM), run n 2000 134 0 (ent 134 [pR 0]) [] [(11, L, [])] (M0 xs) = some (some (pI 1), sh', M') ∧ sh'.length ≤ 600000 ∧ zs sh' ≤ 7302250 := by
  obtain ⟨M1, h1, h2⟩ := law_start (L := L) (xs := xs)
  obtain ⟨M2, h3⟩ := law_loop hL 600 0 0 M1 (by omega) (by omega) (by omega) h2
  obtain ⟨n, hn⟩ := ev_iff.mp (h1.trans h3)
  exact ⟨n, SH L, M2, hn, by show 73 ≤ 600000; decide, zs_SH hL⟩
