/-! the trial valley and the reference's glasses of now, step by step; give -/
theorem v_free {d L : Nat} {M : PM} {G : Nat → Int} {T i : Int} (h0 : 0 ≤ i) (h1 : i < 6) : den (d + 2) 44 [(.inr (.inr (some 37))), .inl i] (SH L) (vset M 37 G T) = some (some (.inl (if G i.toNat ≤ 0 then 1 else 0)), SH L, vset M 37 G T) := by
  have h := c_isFree (M := vset M 37 G T) (d := d) (vl_37 (L := L)) (i := i) h0 h1
  rw [vs_G] at h
  exact h
theorem v_wait {d L : Nat} {M : PM} {G : Nat → Int} {T i : Int} (h0 : 0 ≤ i) (h1 : i < 6) : den (d + 2) 45 [(.inr (.inr (some 37))), .inl i] (SH L) (vset M 37 G T) = some (some (.inl (if 0 < G i.toNat then G i.toNat else 0)), SH L, vset M 37 G T) := by
  have h := c_wait (M := vset M 37 G T) (d := d) (vl_37 (L := L)) (i := i) h0 h1
  rw [vs_G] at h
  exact h
theorem v_time {d L : Nat} {M : PM} {G : Nat → Int} {T : Int} : den d 38 [(.inr (.inr (some 37)))] (SH L) (vset M 37 G T) = some (some (.inl T), SH L, vset M 37 G T) := by
  have h := c_time (M := vset M 37 G T) (d := d) (vl_37 (L := L))
  rw [vs_T] at h
  exact h
theorem v_speak {d L : Nat} {M : PM} {G : Nat → Int} {T i x : Int} (h0 : 0 ≤ i) (h1 : i < 6) (hb : 0 ≤ M 37 2 ∧ M 37 2 ≤ 99) (hs : 0 ≤ x ∧ x ≤ 500000000) (ht : 0 ≤ T ∧ T ≤ 500000000) (hg : BG G 500000000) : den (d + 2) 46 [(.inr (.inr (some 37))), .inl i, .inl x] (SH L) (vset M 37 G T) = some (none, SH L, vset M 37 (speakG (M 37 2) x i.toNat G) (T + x)) := by
  have h := c_speak (M := vset M 37 G T) (d := d) (vl_37 (L := L)) (i := i) (x := x) h0 h1 (by rw [vs_2]; exact hb) hs (by rw [vs_T]; exact ht) (by rw [vs_G]; exact hg)
  rw [vs_G, vs_T, vs_2, vs_vs] at h
  exact h
theorem v_silence {d L : Nat} {M : PM} {G : Nat → Int} {T x : Int} (hb : 0 ≤ M 37 2 ∧ M 37 2 ≤ 99) (hs : 0 ≤ x ∧ x ≤ 500000000) (ht : 0 ≤ T ∧ T ≤ 500000000) (hg : BG G 500000000) : den (d + 2) 48 [(.inr (.inr (some 37))), .inl x] (SH L) (vset M 37 G T) = some (none, SH L, vset M 37 (passG (M 37 2) x (-1) G) (T + x)) := by
  have h := c_silence (M := vset M 37 G T) (d := d) (vl_37 (L := L)) (x := x) (by rw [vs_2]; exact hb) hs (by rw [vs_T]; exact ht) (by rw [vs_G]; exact hg)
  rw [vs_G, vs_T, vs_2, vs_vs] at h
  exact h
theorem n_pass {d L : Nat} {M : PM} {G : Nat → Int} {T s sp : Int} (hb : 0 ≤ M 63 0 ∧ M 63 0 ≤ 99) (hs : 0 ≤ s ∧ s ≤ 500000000) (ht : 0 ≤ T ∧ T ≤ 500000000) (hg : BG G 500000000) : den (d + 1) 103 [(.inr (.inr (some 63))), .inl s, .inl sp] (SH L) (nset M G T) = some (none, SH L, nset M (passG (M 63 0) s sp G) (T + s)) := by
  have h := c_mpass (L := L) (M := nset M G T) (d := d) (s := s) (sp := sp) (by rw [ns_m (by decide)]; exact hb) hs (by rw [ns_T]; exact ht) (by rw [ns_G]; exact hg)
  rw [ns_G, ns_T, ns_m (by decide), ns_ns] at h
  exact h
theorem n_speak {d L : Nat} {M : PM} {G : Nat → Int} {T i s f : Int} (h0 : 0 ≤ i) (h1 : i < 6) (hf : 1 ≤ f ∧ f ≤ 4) (hb : 0 ≤ M 63 0 ∧ M 63 0 ≤ 99) (hs : 0 ≤ s ∧ s ≤ 1000) (ht : 0 ≤ T ∧ T ≤ 500000000) (hg : BG G 500000000) : den (d + 2) 104 [(.inr (.inr (some 63))), .inl i, .inl s, .inl f] (SH L) (nset M G T) = some (none, SH L, nset M (fireG (M 63 0) s f i.toNat G) (T + s)) := by
  have h := c_mspeak (L := L) (M := nset M G T) (d := d) (i := i) (s := s) (f := f) h0 h1 hf (by rw [ns_m (by decide)]; exact hb) hs (by rw [ns_T]; exact ht) (by rw [ns_G]; exact hg)
  rw [ns_G, ns_T, ns_m (by decide), ns_ns] at h
  exact h
theorem n_get {L : Nat} {M : PM} {G : Nat → Int} {T i : Int} (h0 : 0 ≤ i) (h1 : i < 6) : aget (SH L) (nset M G T) 68 i = some (.inl (G i.toNat)) := by
  rw [aget_in (ar_68 (L := L)) h0 (by omega), ns_G]
theorem EqG.passN {G G' : Nat → Int} {b s p q : Int} (hp : p < 0) (hq : q < 0) (h : EqG G G') : EqG (passG b s p G) (passG b s q G') := fun i hi => by
  unfold passG
  rw [h i hi]
  have hp' : ¬ (i : Int) = p := by omega
  have hq' : ¬ (i : Int) = q := by omega
  by_cases c : -b < G' i
  · rw [if_pos (And.intro hi (And.intro hp' c)), if_pos (And.intro hi (And.intro hq' c))]
  · rw [if_neg (fun q => c q.2.2), if_neg (fun q => c q.2.2)]
theorem lessI_take {b g s : Int} : lessI b g s = g - takeG b s g := by
  unfold lessI takeG
  repeat' split
  all_goals omega
theorem takeG_b {b g s : Int} (hb : 0 ≤ b ∧ b ≤ 99) (hs : 0 ≤ s) (hg : -100 ≤ g) : 0 ≤ takeG b s g ∧ takeG b s g ≤ s ∧ -100 ≤ g - takeG b s g := by
  unfold takeG
  repeat' split
  all_goals omega
theorem op_give {L : Nat} {K : Int} {M : PM} (h : Inv K M) (hK : K ≤ 100000000) (p o v : Int) : ∃ r M1 M2, den 1999 64 [(.inr (.inr (some 1))), .inl p, .inl o, .inl v] (SH L) M = some (some (.inl r), SH L, M1) ∧ M1 0 = M 0 ∧ den 1999 114 [(.inr (.inr (some 63))), .inl p, .inl o, .inl v] (SH L) M1 = some (some (.inl r), SH L, M2) ∧ Inv K M2 := by
  obtain ⟨⟨⟨a1, a2, a3, a4, a5, a6, a7, a8⟩, ⟨b1, b2, b3, b4, b5, b6, b7, b8⟩⟩, h2, h3, ht, h5, h6⟩ := id h
  have o3 := io_3 (L := L)
  have o63 := io_63 (L := L)
  have hk : ∀ r : Int, den 1999 64 [(.inr (.inr (some 1))), .inl p, .inl o, .inl v] (SH L) M = some (some (.inl r), SH L, M) → den 1999 114 [(.inr (.inr (some 63))), .inl p, .inl o, .inl v] (SH L) M = some (some (.inl r), SH L, M) → ∃ r M1 M2, den 1999 64 [(.inr (.inr (some 1))), .inl p, .inl o, .inl v] (SH L) M = some (some (.inl r), SH L, M1) ∧ M1 0 = M 0 ∧ den 1999 114 [(.inr (.inr (some 63))), .inl p, .inl o, .inl v] (SH L) M1 = some (some (.inl r), SH L, M2) ∧ Inv K M2 :=
    fun r x y => ⟨r, M, M, x, rfl, y, h⟩
  have u : ∀ {x}, den 1999 64 [(.inr (.inr (some 1))), .inl p, .inl o, .inl v] (SH L) M = x ↔ ev 1999 64 0 [some (.inr (.inr (some 1))), some (.inl p), some (.inl o), some (.inl v)] [] (SH L) M = x := by
    intro x
    unfold den
    rw [show ent 64 [(.inr (.inr (some 1))), .inl p, .inl o, .inl v] = [some (.inr (.inr (some 1))), some (.inl p), some (.inl o), some (.inl v)] from rfl]
  have u2 : ∀ {x} {M : PM}, den 1999 114 [(.inr (.inr (some 63))), .inl p, .inl o, .inl v] (SH L) M = x ↔ ev 1999 114 0 [some (.inr (.inr (some 63))), some (.inl p), some (.inl o), some (.inl v), none] [] (SH L) M = x := by
    intro x M
    unfold den
    rw [show ent 114 [(.inr (.inr (some 63))), .inl p, .inl o, .inl v] = [some (.inr (.inr (some 63))), some (.inl p), some (.inl o), some (.inl v), none] from rfl]
  by_cases hp : 0 ≤ p ∧ p ≤ 5
  rotate_left
  · exact hk (-1) (u.mpr (by simp (disch := first | omega | (exact Nat.le_of_ble_eq_true rfl) | assumption | rfl) only [e64_0, e64_1, e64_4, e64_7, e64_8, e64_11, e64_14, e64_15, e64_16, e64_19, e64_20, e64_21, e64_22, e64_23, e64_25, e64_28, e64_31, e64_33, e64_34, e64_35, e64_38, e64_41, e64_42, e64_45, e64_46, e64_47, e64_50, e64_52, e64_53, e64_54, e64_57, e64_60, e64_61, e64_62, e64_65, e64_66, e64_69, e64_72, e64_73, e64_74, e64_77, c_person, if_neg hp, bindS, tL0, tL1, app0, app1, if_true, if_false, eq_self, Int.reduceEq, Int.reduceLT, Int.reduceLE, Int.reduceNeg, Int.reduceToNat])) (u2.mpr (by simp (disch := first | omega | (exact Nat.le_of_ble_eq_true rfl) | assumption | rfl) only [e114_0, e114_1, e114_4, e114_7, e114_8, e114_11, e114_14, e114_15, e114_16, e114_19, e114_20, e114_21, e114_22, e114_23, e114_25, e114_28, e114_31, e114_33, e114_34, e114_35, e114_38, e114_39, e114_40, e114_41, e114_42, e114_45, e114_47, e114_48, e114_49, e114_52, e114_53, e114_54, e114_56, e114_57, e114_60, e114_61, e114_62, e114_63, e114_64, e114_65, e114_66, e114_67, e114_70, e114_71, e114_72, e114_74, e114_75, e114_78, e114_79, e114_80, e114_82, e114_83, e114_86, e114_87, e114_88, e114_89, e114_90, c_mperson, if_neg hp, bindS, tL0, tL1, app0, app1, if_true, if_false, eq_self, Int.reduceEq, Int.reduceLT, Int.reduceLE, Int.reduceNeg, Int.reduceToNat]))
  by_cases ho : 0 ≤ o ∧ o ≤ 5
  rotate_left
  · exact hk (-1) (u.mpr (by simp (disch := first | omega | (exact Nat.le_of_ble_eq_true rfl) | assumption | rfl) only [e64_0, e64_1, e64_4, e64_7, e64_8, e64_11, e64_14, e64_15, e64_16, e64_19, e64_20, e64_21, e64_22, e64_23, e64_25, e64_28, e64_31, e64_33, e64_34, e64_35, e64_38, e64_41, e64_42, e64_45, e64_46, e64_47, e64_50, e64_52, e64_53, e64_54, e64_57, e64_60, e64_61, e64_62, e64_65, e64_66, e64_69, e64_72, e64_73, e64_74, e64_77, c_person, if_pos hp, if_neg ho, bindS, tL0, tL1, app0, app1, if_true, if_false, eq_self, Int.reduceEq, Int.reduceLT, Int.reduceLE, Int.reduceNeg, Int.reduceToNat])) (u2.mpr (by simp (disch := first | omega | (exact Nat.le_of_ble_eq_true rfl) | assumption | rfl) only [e114_0, e114_1, e114_4, e114_7, e114_8, e114_11, e114_14, e114_15, e114_16, e114_19, e114_20, e114_21, e114_22, e114_23, e114_25, e114_28, e114_31, e114_33, e114_34, e114_35, e114_38, e114_39, e114_40, e114_41, e114_42, e114_45, e114_47, e114_48, e114_49, e114_52, e114_53, e114_54, e114_56, e114_57, e114_60, e114_61, e114_62, e114_63, e114_64, e114_65, e114_66, e114_67, e114_70, e114_71, e114_72, e114_74, e114_75, e114_78, e114_79, e114_80, e114_82, e114_83, e114_86, e114_87, e114_88, e114_89, e114_90, c_mperson, if_pos hp, if_neg ho, bindS, tL0, tL1, app0, app1, if_true, if_false, eq_self, Int.reduceEq, Int.reduceLT, Int.reduceLE, Int.reduceNeg, Int.reduceToNat]))
  by_cases he : p = o
  · exact hk (-1) (u.mpr (by simp (disch := first | omega | (exact Nat.le_of_ble_eq_true rfl) | assumption | rfl) only [e64_0, e64_1, e64_4, e64_7, e64_8, e64_11, e64_14, e64_15, e64_16, e64_19, e64_20, e64_21, e64_22, e64_23, e64_25, e64_28, e64_31, e64_33, e64_34, e64_35, e64_38, e64_41, e64_42, e64_45, e64_46, e64_47, e64_50, e64_52, e64_53, e64_54, e64_57, e64_60, e64_61, e64_62, e64_65, e64_66, e64_69, e64_72, e64_73, e64_74, e64_77, c_person, if_pos hp, if_pos ho, if_pos he, bindS, tL0, tL1, app0, app1, if_true, if_false, eq_self, Int.reduceEq, Int.reduceLT, Int.reduceLE, Int.reduceNeg, Int.reduceToNat])) (u2.mpr (by simp (disch := first | omega | (exact Nat.le_of_ble_eq_true rfl) | assumption | rfl) only [e114_0, e114_1, e114_4, e114_7, e114_8, e114_11, e114_14, e114_15, e114_16, e114_19, e114_20, e114_21, e114_22, e114_23, e114_25, e114_28, e114_31, e114_33, e114_34, e114_35, e114_38, e114_39, e114_40, e114_41, e114_42, e114_45, e114_47, e114_48, e114_49, e114_52, e114_53, e114_54, e114_56, e114_57, e114_60, e114_61, e114_62, e114_63, e114_64, e114_65, e114_66, e114_67, e114_70, e114_71, e114_72, e114_74, e114_75, e114_78, e114_79, e114_80, e114_82, e114_83, e114_86, e114_87, e114_88, e114_89, e114_90, c_mperson, if_pos hp, if_pos ho, if_pos he, bindS, tL0, tL1, app0, app1, if_true, if_false, eq_self, Int.reduceEq, Int.reduceLT, Int.reduceLE, Int.reduceNeg, Int.reduceToNat]))
  by_cases hv : 1 ≤ v ∧ v ≤ 99
  rotate_left
  · exact hk (-2) (u.mpr (by simp (disch := first | omega | (exact Nat.le_of_ble_eq_true rfl) | assumption | rfl) only [e64_0, e64_1, e64_4, e64_7, e64_8, e64_11, e64_14, e64_15, e64_16, e64_19, e64_20, e64_21, e64_22, e64_23, e64_25, e64_28, e64_31, e64_33, e64_34, e64_35, e64_38, e64_41, e64_42, e64_45, e64_46, e64_47, e64_50, e64_52, e64_53, e64_54, e64_57, e64_60, e64_61, e64_62, e64_65, e64_66, e64_69, e64_72, e64_73, e64_74, e64_77, c_person, c_within, if_pos hp, if_pos ho, if_neg he, if_neg hv, bindS, tL0, tL1, app0, app1, if_true, if_false, eq_self, Int.reduceEq, Int.reduceLT, Int.reduceLE, Int.reduceNeg, Int.reduceToNat])) (u2.mpr (by simp (disch := first | omega | (exact Nat.le_of_ble_eq_true rfl) | assumption | rfl) only [e114_0, e114_1, e114_4, e114_7, e114_8, e114_11, e114_14, e114_15, e114_16, e114_19, e114_20, e114_21, e114_22, e114_23, e114_25, e114_28, e114_31, e114_33, e114_34, e114_35, e114_38, e114_39, e114_40, e114_41, e114_42, e114_45, e114_47, e114_48, e114_49, e114_52, e114_53, e114_54, e114_56, e114_57, e114_60, e114_61, e114_62, e114_63, e114_64, e114_65, e114_66, e114_67, e114_70, e114_71, e114_72, e114_74, e114_75, e114_78, e114_79, e114_80, e114_82, e114_83, e114_86, e114_87, e114_88, e114_89, e114_90, c_mperson, c_in, if_pos hp, if_pos ho, if_neg he, if_neg hv, bindS, tL0, tL1, app0, app1, if_true, if_false, eq_self, Int.reduceEq, Int.reduceLT, Int.reduceLE, Int.reduceNeg, Int.reduceToNat]))
  have ep : M 4 p.toNat = M 64 p.toNat := b1 p.toNat (by omega)
  have eo : M 4 o.toNat = M 64 o.toNat := b1 o.toNat (by omega)
  have hgp := a1 p.toNat (by omega)
  have hgo := a1 o.toNat (by omega)
  have w1 : wr (-v) = -v := wr_id (by omega) (by omega)
  have w2 : wr (-M 64 p.toNat) = -M 64 p.toNat := wr_id (by omega) (by omega)
  have cG := c_glass_in (M := M) (d := 1997) (vl_3 (L := L)) (i := p) (by omega) (by omega)
  have gp := aget_in (M := M) (ar_64 (L := L)) (i := p) (by omega) (by omega)
  by_cases hf : M 64 p.toNat ≤ -v
  rotate_left
  · have hf2 : ¬ v ≤ -M 64 p.toNat := by omega
    exact hk (-3) (u.mpr (by simp (disch := first | omega | (exact Nat.le_of_ble_eq_true rfl) | assumption | rfl) only [e64_0, e64_1, e64_4, e64_7, e64_8, e64_11, e64_14, e64_15, e64_16, e64_19, e64_20, e64_21, e64_22, e64_23, e64_25, e64_28, e64_31, e64_33, e64_34, e64_35, e64_38, e64_41, e64_42, e64_45, e64_46, e64_47, e64_50, e64_52, e64_53, e64_54, e64_57, e64_60, e64_61, e64_62, e64_65, e64_66, e64_69, e64_72, e64_73, e64_74, e64_77, c_person, c_within, if_pos hp, if_pos ho, if_neg he, if_pos hv, gf_1_0, gf_2_0, cG, Nat.reduceAdd, ep, w1, if_neg hf, bindS, tL0, tL1, app0, app1, if_true, if_false, eq_self, Int.reduceEq, Int.reduceLT, Int.reduceLE, Int.reduceNeg, Int.reduceToNat])) (u2.mpr (by simp (disch := first | omega | (exact Nat.le_of_ble_eq_true rfl) | assumption | rfl) only [e114_0, e114_1, e114_4, e114_7, e114_8, e114_11, e114_14, e114_15, e114_16, e114_19, e114_20, e114_21, e114_22, e114_23, e114_25, e114_28, e114_31, e114_33, e114_34, e114_35, e114_38, e114_39, e114_40, e114_41, e114_42, e114_45, e114_47, e114_48, e114_49, e114_52, e114_53, e114_54, e114_56, e114_57, e114_60, e114_61, e114_62, e114_63, e114_64, e114_65, e114_66, e114_67, e114_70, e114_71, e114_72, e114_74, e114_75, e114_78, e114_79, e114_80, e114_82, e114_83, e114_86, e114_87, e114_88, e114_89, e114_90, c_mperson, c_in, if_pos hp, if_pos ho, if_neg he, if_pos hv, gf_63_3, gp, w2, if_neg hf2, bindS, tL0, tL1, app0, app1, if_true, if_false, eq_self, Int.reduceEq, Int.reduceLT, Int.reduceLE, Int.reduceNeg, Int.reduceToNat]))
  have hne : o.toNat ≠ p.toNat := by omega
  have bM : BG (M 4) 500000000 := (a1.le (by omega)).eq b1
  have cL := c_lend (M := M) (d := 1996) (vl_3 (L := L)) (i := p) (x := v) (by omega) (by omega) (by omega) bM
  have bA : BG (addG p.toNat v (M 4)) 500000000 := by
    intro q hq
    have := bM q hq
    unfold addG
    by_cases hqp : q = p.toNat
    · rw [if_pos hqp]; omega
    · rw [if_neg hqp]; exact this
  have cR := c_receive (M := vset M 3 (addG p.toNat v (M (3 + 1))) (M 3 1)) (d := 1996) (vl_3 (L := L)) (i := o) (x := v) (by omega) (by omega) (by rw [vs_2, b2]; exact a2) (by omega) (by rw [vs_G]; exact bA)
  have eA : addG p.toNat v (M 4) o.toNat = M 64 o.toNat := by unfold addG; rw [if_neg hne, eo]
  rw [vs_G, vs_T, vs_2, vs_vs, b2] at cR
  simp only [Nat.reduceAdd] at cR cL
  rw [eA] at cR
  have hT := takeG_b (b := M 63 0) (s := v) a2 (by omega) hgo.1
  generalize hM1 : vset M 3 (addG o.toNat (-takeG (M 63 0) v (M 64 o.toNat)) (addG p.toNat v (M 4))) (M 3 1) = M1 at cR
  have r1 : ∀ a, a ≠ 3 → a ≠ 4 → M1 a = M a := fun a x y => by rw [← hM1]; exact vs_row x (by omega)
  have hf2 : v ≤ -M 64 p.toNat := by omega
  have e63 : M1 63 = M 63 := r1 63 (by decide) (by decide)
  have e64 : M1 64 = M 64 := r1 64 (by decide) (by decide)
  have gp1 := aget_in (M := M1) (ar_64 (L := L)) (i := p) (by omega) (by omega)
  have go1 := aget_in (M := M1) (ar_64 (L := L)) (i := o) (by omega) (by omega)
  have pp1 := aput_in (M := M1) (ar_64 (L := L)) (i := p) (x := M 64 p.toNat + v) (by omega) (by omega)
  rw [e64] at gp1 go1
  have w3 : wr (M 64 p.toNat + v) = M 64 p.toNat + v := wr_id (by omega) (by omega)
  generalize hMA : setC M1 64 p.toNat (M 64 p.toNat + v) = MA at pp1
  have cl := c_less (L := L) (d := 1998) (M := MA) (g := M 64 o.toNat) (s := v) (by rw [← hMA, setC_row (by decide), e63]; exact a2) (by omega) (by omega)
  rw [show MA 63 0 = M 63 0 by rw [← hMA, setC_row (by decide), e63], lessI_take] at cl
  have pp2 := aput_in (M := MA) (ar_64 (L := L)) (i := o) (x := M 64 o.toNat - takeG (M 63 0) v (M 64 o.toNat)) (by omega) (by omega)
  generalize hMB : setC MA 64 o.toNat (M 64 o.toNat - takeG (M 63 0) v (M 64 o.toNat)) = MB at pp2
  have go2 := aget_in (M := MB) (ar_64 (L := L)) (i := o) (by omega) (by omega)
  rw [show MB 64 o.toNat = M 64 o.toNat - takeG (M 63 0) v (M 64 o.toNat) by rw [← hMB, setC_s]] at go2
  have w4 : wr (M 64 o.toNat - (M 64 o.toNat - takeG (M 63 0) v (M 64 o.toNat))) = takeG (M 63 0) v (M 64 o.toNat) := by rw [wr_id (by omega) (by omega)]; omega
  have w5 : wr (v - takeG (M 63 0) v (M 64 o.toNat)) = v - takeG (M 63 0) v (M 64 o.toNat) := wr_id (by omega) (by omega)
  refine ⟨v - takeG (M 63 0) v (M 64 o.toNat), M1, MB, u.mpr ?_, by rw [r1 0 (by decide) (by decide)], u2.mpr ?_, ?_⟩
  · simp (disch := first | omega | (exact Nat.le_of_ble_eq_true rfl) | assumption | rfl) only [e64_0, e64_1, e64_4, e64_7, e64_8, e64_11, e64_14, e64_15, e64_16, e64_19, e64_20, e64_21, e64_22, e64_23, e64_25, e64_28, e64_31, e64_33, e64_34, e64_35, e64_38, e64_41, e64_42, e64_45, e64_46, e64_47, e64_50, e64_52, e64_53, e64_54, e64_57, e64_60, e64_61, e64_62, e64_65, e64_66, e64_69, e64_72, e64_73, e64_74, e64_77, c_person, c_within, if_pos hp, if_pos ho, if_neg he, if_pos hv, gf_1_0, gf_2_0, cG, Nat.reduceAdd, ep, w1, if_pos hf, cL, cR, bindS, tL0, tL1, app0, app1, if_true, if_false, eq_self, Int.reduceEq, Int.reduceLT, Int.reduceLE, Int.reduceNeg, Int.reduceToNat]
  · simp (disch := first | omega | (exact Nat.le_of_ble_eq_true rfl) | assumption | rfl) only [e114_0, e114_1, e114_4, e114_7, e114_8, e114_11, e114_14, e114_15, e114_16, e114_19, e114_20, e114_21, e114_22, e114_23, e114_25, e114_28, e114_31, e114_33, e114_34, e114_35, e114_38, e114_39, e114_40, e114_41, e114_42, e114_45, e114_47, e114_48, e114_49, e114_52, e114_53, e114_54, e114_56, e114_57, e114_60, e114_61, e114_62, e114_63, e114_64, e114_65, e114_66, e114_67, e114_70, e114_71, e114_72, e114_74, e114_75, e114_78, e114_79, e114_80, e114_82, e114_83, e114_86, e114_87, e114_88, e114_89, e114_90, c_mperson, c_in, if_pos hp, if_pos ho, if_neg he, if_pos hv, gf_63_3, gp1, w2, if_pos hf2, go1, pp1, w3, cl, pp2, go2, w4, w5, bindS, tL0, tL1, app0, app1, if_true, if_false, eq_self, Int.reduceEq, Int.reduceLT, Int.reduceLE, Int.reduceNeg, Int.reduceToNat]
  · have s : ∀ a, a ≠ 3 → a ≠ 4 → a ≠ 64 → MB a = M a := fun a x y z => by rw [← hMB, setC_row z, ← hMA, setC_row z]; exact r1 a x y
    have s3 : MB 3 = M 3 := by
      rw [← hMB, setC_row (by decide), ← hMA, setC_row (by decide), ← hM1]
      funext j
      by_cases hj : j = 1
      · subst hj; rw [vs_T]
      · unfold vset; rw [setC_i hj, setR_row (by decide)]
    have m4 : MB 4 = addG o.toNat (-takeG (M 63 0) v (M 64 o.toNat)) (addG p.toNat v (M 4)) := by
      rw [← hMB, setC_row (by decide), ← hMA, setC_row (by decide), ← hM1]; exact vs_G (v := 3)
    have m64 : ∀ q, MB 64 q = if q = o.toNat then M 64 o.toNat - takeG (M 63 0) v (M 64 o.toNat) else if q = p.toNat then M 64 p.toNat + v else M 64 q := by
      intro q
      rw [← hMB]
      by_cases q1 : q = o.toNat
      · subst q1; rw [setC_s, if_pos rfl]
      · rw [setC_i q1, if_neg q1, ← hMA]
        by_cases q2 : q = p.toNat
        · subst q2; rw [setC_s, if_pos rfl]
        · rw [setC_i q2, if_neg q2, e64]
    have hb64 : BG (MB 64) K := by
      intro q hq
      have := a1 q hq
      rw [m64]
      repeat' split
      all_goals omega
    have he4 : ∀ q, q < 6 → MB 4 q = MB 64 q := by
      intro q hq
      have := b1 q hq
      rw [m4, m64]
      unfold addG
      by_cases q1 : q = o.toNat
      · subst q1; rw [if_pos rfl, if_pos rfl, if_neg hne, eo]; omega
      · rw [if_neg q1, if_neg q1]
        by_cases q2 : q = p.toNat
        · subst q2; rw [if_pos rfl, if_pos rfl, ep]
        · rw [if_neg q2, if_neg q2]; exact this
    refine ⟨?_, Img0_same h2 (fun a ha => s a (by omega) (by omega) (by omega)), Img1_same h3 (fun a ha => s a (by omega) (by omega) (by omega)), TxtI_same ht (fun a ha => s a (by omega) (by omega) (by omega)) (by rw [s 32 (by decide) (by decide) (by decide)]) (by rw [s 63 (by decide) (by decide) (by decide)]), ?_, ?_⟩
    · unfold NowI SV CS at *
      simp (disch := decide) only [s, s3, Nat.reduceAdd]
      exact ⟨⟨hb64, a2, a3, a4, a5, a6, a7, a8⟩, he4, b2, b3, b4, b5, b6, b7, b8⟩
    · rw [s 41 (by decide) (by decide) (by decide)]; exact h5
    · rw [s 63 (by decide) (by decide) (by decide)]; exact h6
