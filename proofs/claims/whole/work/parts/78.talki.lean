/-! soonest agrees -/
def idL : Nat → Nat → List Nat
  | _, 0 => []
  | i, k + 1 => i :: idL (i + 1) k
theorem vl_id {tk : Nat → Int} {n : Nat} (ht : TKo tk n) : ∀ (k i : Nat) (pre : List Nat), (∀ q, q < i → meL q pre = true) → i + k = n → vlL tk pre (idL i k) = true
  | 0, _, _, _, _ => rfl
  | k + 1, i, pre, h, hi => by
    have hti := (ht i (by omega)).2.2
    have e : okY tk pre i = true := by
      unfold okY
      by_cases h0 : ahT tk i < 0
      · rw [decide_eq_true h0]; rfl
      · rw [h (ahT tk i).toNat (by omega), Bool.or_true]
    show (okY tk pre i && vlL tk (pre ++ [i]) (idL (i + 1) k)) = true
    rw [e, Bool.true_and]
    refine vl_id ht k (i + 1) (pre ++ [i]) (fun q hq => ?_) (by omega)
    by_cases hqi : q = i
    · subst hqi; exact meL_iff.mpr (by simp)
    · exact meL_iff.mpr (by have := meL_iff.mp (h q (by omega)); simp [this])
theorem ex_id {n : Nat} (hn : n ≤ 7) {r : List Nat} (h : exL n r = [0, 1, 2, 3, 4, 5, 6]) : r = idL 0 n := by
  have e : exL n (idL 0 n) = [0, 1, 2, 3, 4, 5, 6] := by
    have h : n = 0 ∨ n = 1 ∨ n = 2 ∨ n = 3 ∨ n = 4 ∨ n = 5 ∨ n = 6 ∨ n = 7 := by omega
    rcases h with rfl | rfl | rfl | rfl | rfl | rfl | rfl | rfl <;> rfl
  rw [← e] at h
  exact List.append_cancel_right h
theorem fo_le {b : Int} {tk G : Nat → Int} {pre : List Nat} {T : Int} : ∀ (l : List (List Nat)) (st : Int × List Nat), (foL b tk pre G T st l).1 ≤ st.1
  | [], _ => Int.le_refl _
  | s :: r, st => by
    show (foL b tk pre G T (if vlL tk pre s = true ∧ T + csL b tk s G < st.1 then (T + csL b tk s G, pre ++ s) else st) r).1 ≤ st.1
    refine Int.le_trans (fo_le r _) ?_
    split
    · rename_i h; exact Int.le_of_lt h.2
    · exact Int.le_refl _
theorem fo_0 {b : Int} {tk G : Nat → Int} {pre : List Nat} {T : Int} (hT : 0 ≤ T) : ∀ (l : List (List Nat)) (st : Int × List Nat), 0 ≤ st.1 → (∀ s ∈ l, 0 ≤ csL b tk s G) → 0 ≤ (foL b tk pre G T st l).1
  | [], _, h, _ => h
  | s :: r, st, h, hc => by
    show 0 ≤ (foL b tk pre G T (if vlL tk pre s = true ∧ T + csL b tk s G < st.1 then (T + csL b tk s G, pre ++ s) else st) r).1
    refine fo_0 hT r _ ?_ (fun s' hs' => hc s' (List.mem_cons_of_mem _ hs'))
    have := hc s List.mem_cons_self
    split
    · show 0 ≤ T + csL b tk s G; omega
    · exact h
theorem fo_ne {b : Int} {tk G : Nat → Int} {T : Int} : ∀ (l : List (List Nat)) (st : Int × List Nat), st.2 ≠ [] → (∀ s ∈ l, s ≠ []) → (foL b tk [] G T st l).2 ≠ []
  | [], _, h, _ => h
  | s :: r, st, h, hc => by
    show (foL b tk [] G T (if vlL tk [] s = true ∧ T + csL b tk s G < st.1 then (T + csL b tk s G, [] ++ s) else st) r).2 ≠ []
    refine fo_ne r _ ?_ (fun s' hs' => hc s' (List.mem_cons_of_mem _ hs'))
    split
    · exact hc s List.mem_cons_self
    · exact h
theorem cs_ub {b : Int} (hb : 0 ≤ b ∧ b ≤ 99) {tk : Nat → Int} {n : Nat} (ht : TKo tk n) : ∀ (s : List Nat) (G : Nat → Int) (B : Int), (∀ x ∈ s, x < n) → 0 ≤ B → BG G B → 0 ≤ csL b tk s G ∧ csL b tk s G ≤ B + 200 * (s.length : Int)
  | [], G, B, _, hB, _ => ⟨Int.le_refl _, by show (0 : Int) ≤ B + 200 * ((0 : Nat) : Int); omega⟩
  | i :: s, G, B, h, hB, hG => by
    obtain ⟨B', b0, b1, b2, b3, b4⟩ := stB hb ht (h i List.mem_cons_self) hB hG
    have ih := cs_ub hb ht s (stS b tk i G) B' (fun x hx => h x (List.mem_cons_of_mem _ hx)) b0 b1
    have hd := (ht i (h i List.mem_cons_self)).2.1
    show 0 ≤ wS tk i G + duT tk i + csL b tk s (stS b tk i G) ∧ wS tk i G + duT tk i + csL b tk s (stS b tk i G) ≤ B + 200 * ((s.length + 1 : Nat) : Int)
    omega
/-- the best of all orders: there is one -/
theorem best {b B : Int} (hb : 0 ≤ b ∧ b ≤ 99) {tk G : Nat → Int} {n : Nat} (hn : n ≤ 7) (ht : TKo tk n) (hB : 0 ≤ B ∧ B ≤ 100000000) (hG : BG G B) : (0 ≤ (foL b tk [] G 0 (1000000000, []) (pfL n n [])).1 ∧ (foL b tk [] G 0 (1000000000, []) (pfL n n [])).1 < 1000000000) ∧ (0 < n → (foL b tk [] G 0 (1000000000, []) (pfL n n [])).2 ≠ []) := by
  obtain ⟨r, ps, o1, o2, o3, o4⟩ := orders hn
  have hr := ex_id hn o2
  have hv : vlL tk [] r = true := by rw [hr]; exact vl_id ht n 0 [] (fun q hq => absurd hq (Nat.not_lt_zero q)) (by omega)
  have hall : ∀ s ∈ r :: ps, s.length = n ∧ (0 ≤ csL b tk s G ∧ csL b tk s G ≤ 100002000) := by
    intro s hs
    obtain ⟨k1, k2⟩ := okNL_mem o4 s hs
    have := cs_ub hb ht s G B (smL_mem k2) hB.1 hG
    exact ⟨k1, by omega⟩
  rw [o1]
  have h1 := hall r List.mem_cons_self
  have e : foL b tk [] G 0 (1000000000, []) (r :: ps) = foL b tk [] G 0 (0 + csL b tk r G, [] ++ r) ps := by
    show foL b tk [] G 0 (if vlL tk [] r = true ∧ 0 + csL b tk r G < 1000000000 then (0 + csL b tk r G, [] ++ r) else (1000000000, [])) ps = _
    rw [if_pos ⟨hv, by omega⟩]
  rw [e]
  refine ⟨⟨fo_0 (by decide) ps _ (by show 0 ≤ 0 + csL b tk r G; omega) (fun s hs => (hall s (List.mem_cons_of_mem _ hs)).2.1), ?_⟩, fun h0 => fo_ne ps _ ?_ ?_⟩
  · have := fo_le (b := b) (tk := tk) (pre := []) (G := G) (T := 0) ps (0 + csL b tk r G, [] ++ r)
    have h2 : (0 + csL b tk r G, ([] : List Nat) ++ r).1 = 0 + csL b tk r G := rfl
    omega
  · show [] ++ r ≠ []
    intro hz
    have : r.length = 0 := by rw [List.nil_append] at hz; rw [hz]; rfl
    omega
  · intro s hs hz
    have := (hall s (List.mem_cons_of_mem _ hs)).1
    rw [hz] at this
    have : n = 0 := this.symm
    omega
theorem Inv_se {K : Int} {M M' : PM} (h : Inv K M) (hr : ∀ a, a < 37 ∨ 61 < a → M' a = M a) (h41 : ∀ i, i < 7 → M' 41 i = 0) : Inv K M' :=
  ⟨NowI_same h.1 (fun a ha => hr a (by omega)) (fun j _ => by rw [hr 63 (by omega)]), Img0_same h.2.1 (fun a ha => hr a (by omega)), Img1_same h.2.2.1 (fun a ha => hr a (by omega)), TxtI_same h.2.2.2.1 (fun a ha => hr a (by omega)) (by rw [hr 32 (by omega)]) (by rw [hr 63 (by omega)]), h41, by rw [hr 63 (by omega)]; exact h.2.2.2.2.2⟩
theorem Inv_fq {K : Int} {M M' : PM} (h : Inv K M) (hf : FQs M M') : Inv K M' :=
  Inv_same h ⟨fun a ha => hf.1 a (by omega) (by omega) (by omega) (by omega), by rw [hf.1 32 (by decide) (by decide) (by decide) (by decide)], fun j hj => hf.2 j (by omega) (by omega)⟩ (by rw [hf.2 12 (by decide) (by decide)]; exact h.2.2.2.2.2)
theorem talk_of {K : Int} {M : PM} (h : Inv K M) : ∃ n : Nat, M 63 4 = (n : Int) ∧ n ≤ 7 ∧ TKo (M 65) n ∧ CT M (M 65) n := by
  obtain ⟨⟨⟨a1, a2, a3, a4, a5, a6, a7, a8⟩, ⟨b1, b2, b3, b4, b5, b6, b7, b8⟩⟩, -⟩ := h
  refine ⟨(M 63 4).toNat, by omega, by omega, fun i hi => a7 i (by omega), ?_, b7⟩
  rw [b5]; omega
theorem op_soonest {L : Nat} {K : Int} {M : PM} (h : Inv K M) (hK : K ≤ 100000000) (i : Int) : ∃ r M1 M2, den 1999 67 [(.inr (.inr (some 1))), .inl i] (SH L) M = some (some (.inl r), SH L, M1) ∧ M1 0 = M 0 ∧ den 1999 122 [(.inr (.inr (some 63))), .inl i] (SH L) M1 = some (some (.inl r), SH L, M2) ∧ Inv K M2 := by
  have o5 := io_5 (L := L)
  have o39 := io_39 (L := L)
  have o63 := io_63 (L := L)
  obtain ⟨n, h4, hn, ht, hC⟩ := talk_of h
  have hb := h.1.1.2.1
  have hT := tri_t h
  have hK0 : 0 ≤ K := by omega
  have bst := best (b := M 63 0) (B := K) hb hn ht ⟨hK0, hK⟩ h.1.1.1
  have u : ∀ {y}, den 1999 67 [(.inr (.inr (some 1))), .inl i] (SH L) M = y ↔ ev 1999 67 0 [some (.inr (.inr (some 1))), some (.inl i), none] [] (SH L) M = y := by
    intro y
    unfold den
    rw [show ent 67 [(.inr (.inr (some 1))), .inl i] = [some (.inr (.inr (some 1))), some (.inl i), none] from rfl]
  have u2 : ∀ {y} {M : PM}, den 1999 122 [(.inr (.inr (some 63))), .inl i] (SH L) M = y ↔ ev 1999 122 0 [some (.inr (.inr (some 63))), some (.inl i)] [] (SH L) M = y := by
    intro y M
    unfold den
    rw [show ent 122 [(.inr (.inr (some 63))), .inl i] = [some (.inr (.inr (some 63))), some (.inl i)] from rfl]
  have wn : wr ((n : Int) - 1) = (n : Int) - 1 := wr_id (by omega) (by omega)
  have cn := c_cnt (d := 1998) (L := L) hC
  have eg : gvG (M 63 0) (-6) 0 (M 64) = M 64 := by unfold gvG; rw [if_neg (by decide)]
  -- the reference at any memory that is alike
  have lay : ∀ M1 : PM, M1 63 = M 63 → M1 64 = M 64 → M1 65 = M 65 → ∃ M2, den 1998 120 [(.inr (.inr (some 63))), .inl (-6), .inl 0] (SH L) M1 = some (none, SH L, M2) ∧ FQs M1 M2 ∧ MRs n (foL (M 63 0) (M 65) [] (M 64) 0 (1000000000, []) (pfL n n [])) M2 := by
    intro M1 k63 k64 k65
    have c := c_lay (L := L) (d := 1995) (b := M 63 0) (tk := M 65) (gl := M 64) (given := -6) (sv := 0) (B := K) (M := M1) hn ht hb (by decide) (by decide) ⟨hK0, hK⟩ h.1.1.1 (by rw [k63]; exact h4) k65 k64 (by rw [k63])
    rw [eg] at c
    exact c
  by_cases hi : -2 ≤ i ∧ i ≤ (n : Int) - 1
  rotate_left
  · obtain ⟨M2, l1, l2, l3⟩ := lay M rfl rfl rfl
    have i1 : ¬ i = -1 := by omega
    have i2 : ¬ i = -2 := by omega
    have i3 : ¬ (0 ≤ i ∧ i ≤ (n : Int) - 1) := by omega
    have h42 : M2 63 4 = (n : Int) := by rw [l2.2 4 (by decide) (by decide)]; exact h4
    exact ⟨-6, M, M2, u.mpr (by simp (disch := first | omega | (exact Nat.le_of_ble_eq_true rfl) | assumption | rfl) only [e67_0, e67_1, e67_3, e67_4, e67_7, e67_10, e67_13, e67_14, e67_15, e67_18, e67_21, e67_23, e67_24, e67_25, e67_28, e67_29, e67_32, e67_35, e67_36, e67_39, e67_42, e67_44, e67_47, e67_48, e67_49, e67_50, e67_53, e67_54, e67_55, e67_56, e67_58, e67_61, e67_62, e67_63, e67_66, e67_69, e67_72, e67_73, e67_76, e67_77, e67_80, e67_81, e67_84, c_within, gf_1_0, gf_2_1, cn, wn, hi, ↓reduceIte, true_and, and_true, false_and, and_false, bindS, tL0, tL1, app0, app1, eq_self, Int.reduceEq, Int.reduceLT, Int.reduceLE, Int.reduceNeg, Int.reduceToNat]), rfl, u2.mpr (by simp (disch := first | omega | (exact Nat.le_of_ble_eq_true rfl) | assumption | rfl) only [e122_0, e122_1, e122_3, e122_4, e122_7, e122_8, e122_9, e122_12, e122_13, e122_16, e122_19, e122_20, e122_22, e122_25, e122_26, e122_29, e122_30, e122_33, e122_34, e122_37, e122_38, e122_39, e122_40, e122_43, e122_44, e122_45, e122_48, e122_51, e122_52, e122_55, e122_56, e122_57, e122_60, e122_62, l1, c_in, gf_63_4, h42, wn, i1, i2, i3, ↓reduceIte, true_and, and_true, false_and, and_false, bindS, tL0, tL1, app0, app1, eq_self, Int.reduceEq, Int.reduceLT, Int.reduceLE, Int.reduceNeg, Int.reduceToNat]), Inv_fq h l2⟩
  obtain ⟨M1, f1, f2, f3, f4⟩ := c_fewest (L := L) (d := 1978) (v0 := 3) (M := M) (G := M 64) (B := K) (b := M 63 0) (lim := 1000000000) ht hn hb vl_3 (by decide) hC h.2.2.2.2.1 h.1.2.1 ⟨hK0, h.1.1.1, hK⟩ h.1.2.2.1 (by omega)
  have k63 := f2 63 (by decide)
  obtain ⟨M2, l1, l2, l3⟩ := lay M1 k63 (f2 64 (by decide)) (f2 65 (by decide))
  have hI1 : Inv K M1 := Inv_se h (fun a ha => f2 a (by omega)) f3
  have hC1 : CT M1 (M 65) n := by
    unfold CT
    rw [f2 5 (by decide), f2 6 (by decide), f2 7 (by decide), f2 8 (by decide)]
    exact hC
  generalize foL (M 63 0) (M 65) [] (M 64) 0 (1000000000, []) (pfL n n []) = st at *
  obtain ⟨⟨s0, s1⟩, s2⟩ := bst
  have m17 : M2 63 17 = st.1 := by
    rcases l3.1 with ⟨z, -⟩ | ⟨-, z⟩
    · omega
    · exact z
  have h42 : M2 63 4 = (n : Int) := by rw [l2.2 4 (by decide) (by decide), k63]; exact h4
  by_cases i1 : i = -1
  · subst i1
    exact ⟨st.1, M1, M2, u.mpr (by simp (disch := first | omega | (exact Nat.le_of_ble_eq_true rfl) | assumption | rfl) only [e67_0, e67_1, e67_3, e67_4, e67_7, e67_10, e67_13, e67_14, e67_15, e67_18, e67_21, e67_23, e67_24, e67_25, e67_28, e67_29, e67_32, e67_35, e67_36, e67_39, e67_42, e67_44, e67_47, e67_48, e67_49, e67_50, e67_53, e67_54, e67_55, e67_56, e67_58, e67_61, e67_62, e67_63, e67_66, e67_69, e67_72, e67_73, e67_76, e67_77, e67_80, e67_81, e67_84, c_within, gf_1_0, gf_1_5, gf_2_0, gf_2_1, cn, wn, hi, f1, ↓reduceIte, true_and, and_true, false_and, and_false, bindS, tL0, tL1, app0, app1, eq_self, Int.reduceEq, Int.reduceLT, Int.reduceLE, Int.reduceNeg, Int.reduceToNat]), f2 0 (by decide), u2.mpr (by simp (disch := first | omega | (exact Nat.le_of_ble_eq_true rfl) | assumption | rfl) only [e122_0, e122_1, e122_3, e122_4, e122_7, e122_8, e122_9, e122_12, e122_13, e122_16, e122_19, e122_20, e122_22, e122_25, e122_26, e122_29, e122_30, e122_33, e122_34, e122_37, e122_38, e122_39, e122_40, e122_43, e122_44, e122_45, e122_48, e122_51, e122_52, e122_55, e122_56, e122_57, e122_60, e122_62, l1, gf_63_17, m17, ↓reduceIte, true_and, and_true, false_and, and_false, bindS, tL0, tL1, app0, app1, eq_self, Int.reduceEq, Int.reduceLT, Int.reduceLE, Int.reduceNeg, Int.reduceToNat]), Inv_fq hI1 l2⟩
  by_cases i2 : i = -2
  · subst i2
    have sb := sd_b ht
    have csp := c_speech (L := L) (d := 1997) hC1 ht hn
    have cal := c_allSec (L := L) (d := 1998) (M := M2) h42 (by rw [l2.1 65 (by decide) (by decide) (by decide) (by decide), f2 65 (by decide)]) ht hn
    have w : wr (st.1 - sdT (M 65) n) = st.1 - sdT (M 65) n := wr_id (by omega) (by omega)
    exact ⟨st.1 - sdT (M 65) n, M1, M2, u.mpr (by simp (disch := first | omega | (exact Nat.le_of_ble_eq_true rfl) | assumption | rfl) only [e67_0, e67_1, e67_3, e67_4, e67_7, e67_10, e67_13, e67_14, e67_15, e67_18, e67_21, e67_23, e67_24, e67_25, e67_28, e67_29, e67_32, e67_35, e67_36, e67_39, e67_42, e67_44, e67_47, e67_48, e67_49, e67_50, e67_53, e67_54, e67_55, e67_56, e67_58, e67_61, e67_62, e67_63, e67_66, e67_69, e67_72, e67_73, e67_76, e67_77, e67_80, e67_81, e67_84, c_within, gf_1_0, gf_1_5, gf_2_0, gf_2_1, cn, wn, hi, f1, csp, w, ↓reduceIte, true_and, and_true, false_and, and_false, bindS, tL0, tL1, app0, app1, eq_self, Int.reduceEq, Int.reduceLT, Int.reduceLE, Int.reduceNeg, Int.reduceToNat]), f2 0 (by decide), u2.mpr (by simp (disch := first | omega | (exact Nat.le_of_ble_eq_true rfl) | assumption | rfl) only [e122_0, e122_1, e122_3, e122_4, e122_7, e122_8, e122_9, e122_12, e122_13, e122_16, e122_19, e122_20, e122_22, e122_25, e122_26, e122_29, e122_30, e122_33, e122_34, e122_37, e122_38, e122_39, e122_40, e122_43, e122_44, e122_45, e122_48, e122_51, e122_52, e122_55, e122_56, e122_57, e122_60, e122_62, l1, gf_63_17, m17, cal, w, ↓reduceIte, true_and, and_true, false_and, and_false, bindS, tL0, tL1, app0, app1, eq_self, Int.reduceEq, Int.reduceLT, Int.reduceLE, Int.reduceNeg, Int.reduceToNat]), Inv_fq hI1 l2⟩
  · obtain ⟨j, rfl⟩ : ∃ j : Nat, i = (j : Int) := ⟨i.toNat, by omega⟩
    have hj : j < n := by omega
    have i3 : 0 ≤ (j : Int) ∧ (j : Int) ≤ (n : Int) - 1 := by omega
    have hne := s2 (by omega)
    have q1 : M1 43 j = (gtL st.2 j : Int) := by
      rcases f4 with z | z
      · exact absurd z hne
      · exact z j hj
    have q2 : M2 70 j = (gtL st.2 j : Int) := by
      rcases l3.2 with z | z
      · exact absurd z hne
      · exact z j hj
    have cp := c_placed (L := L) (d := 1997) (M := M1) (i := j) (by omega)
    rw [q1] at cp
    have g70 := aget_in (M := M2) (ar_70 (L := L)) (i := (j : Int)) (by omega) (by omega)
    rw [tnN, q2] at g70
    exact ⟨(gtL st.2 j : Int), M1, M2, u.mpr (by simp (disch := first | omega | (exact Nat.le_of_ble_eq_true rfl) | assumption | rfl) only [e67_0, e67_1, e67_3, e67_4, e67_7, e67_10, e67_13, e67_14, e67_15, e67_18, e67_21, e67_23, e67_24, e67_25, e67_28, e67_29, e67_32, e67_35, e67_36, e67_39, e67_42, e67_44, e67_47, e67_48, e67_49, e67_50, e67_53, e67_54, e67_55, e67_56, e67_58, e67_61, e67_62, e67_63, e67_66, e67_69, e67_72, e67_73, e67_76, e67_77, e67_80, e67_81, e67_84, c_within, gf_1_0, gf_1_5, gf_2_0, gf_2_1, cn, wn, hi, i1, i2, f1, cp, ↓reduceIte, true_and, and_true, false_and, and_false, bindS, tL0, tL1, app0, app1, eq_self, Int.reduceEq, Int.reduceLT, Int.reduceLE, Int.reduceNeg, Int.reduceToNat]), f2 0 (by decide), u2.mpr (by simp (disch := first | omega | (exact Nat.le_of_ble_eq_true rfl) | assumption | rfl) only [e122_0, e122_1, e122_3, e122_4, e122_7, e122_8, e122_9, e122_12, e122_13, e122_16, e122_19, e122_20, e122_22, e122_25, e122_26, e122_29, e122_30, e122_33, e122_34, e122_37, e122_38, e122_39, e122_40, e122_43, e122_44, e122_45, e122_48, e122_51, e122_52, e122_55, e122_56, e122_57, e122_60, e122_62, l1, c_in, gf_63_4, gf_63_16, h42, wn, i1, i2, i3, g70, ↓reduceIte, true_and, and_true, false_and, and_false, bindS, tL0, tL1, app0, app1, eq_self, Int.reduceEq, Int.reduceLT, Int.reduceLE, Int.reduceNeg, Int.reduceToNat]), Inv_fq hI1 l2⟩
