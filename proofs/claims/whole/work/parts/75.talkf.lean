/-! the reference's rows: the next one, its order -/
theorem gt_st {v : Nat} : ∀ {l : List Nat} {i : Nat}, i < l.length → ∀ q, gtL (stL l i v) q = if q = i then v else gtL l q
  | [], i, h, _ => absurd h (Nat.not_lt_zero i)
  | x :: r, 0, _, q => by cases q <;> rfl
  | x :: r, i + 1, h, q => by
    cases q with
    | zero => rfl
    | succ q =>
      show gtL (stL r i v) q = _
      rw [gt_st (l := r) (i := i) (by simpa using h) q]
      show (if q = i then v else gtL r q) = if q + 1 = i + 1 then v else gtL r q
      by_cases hq : q = i
      · rw [if_pos hq, if_pos (by omega)]
      · rw [if_neg hq, if_neg (by omega)]
theorem st_len {v : Nat} : ∀ {l : List Nat} {i : Nat}, (stL l i v).length = l.length
  | [], _ => rfl
  | _ :: _, 0 => rfl
  | _ :: r, i + 1 => by show (stL r i v).length + 1 = r.length + 1; rw [st_len]
theorem sw_len {l : List Nat} {i j : Nat} : (swL l i j).length = l.length := by unfold swL; rw [st_len, st_len]
/-- row 69 is l -/
def RWs (M : PM) (l : List Nat) : Prop := l.length = 7 ∧ ∀ j, j < 7 → M 69 j = (gtL l j : Int)
section
variable {L d : Nat} {M : PM} {l : List Nat}
theorem c_change {i j : Nat} (hi : i < 7) (hj : j < 7) : den d 118 [(.inr (.inr (some 63))), .inl (i : Int), .inl (j : Int)] (SH L) M = some (none, SH L, setC (setC M 69 i (M 69 j)) 69 j (M 69 i)) := by
  have gi := fun M : PM => aget_in (M := M) (ar_69 (L := L)) (i := (i : Int)) (by omega) (by omega)
  have gj := fun M : PM => aget_in (M := M) (ar_69 (L := L)) (i := (j : Int)) (by omega) (by omega)
  have pi := fun (M : PM) v => aput_in (M := M) (ar_69 (L := L)) (i := (i : Int)) (x := v) (by omega) (by omega)
  have pj := fun (M : PM) v => aput_in (M := M) (ar_69 (L := L)) (i := (j : Int)) (x := v) (by omega) (by omega)
  simp only [tnN] at gi gj pi pj
  unfold den
  rw [show ent 118 [(.inr (.inr (some 63))), .inl (i : Int), .inl (j : Int)] = [some (.inr (.inr (some 63))), some (.inl (i : Int)), some (.inl (j : Int)), none] from rfl]
  simp (disch := first | omega | (exact Nat.le_of_ble_eq_true rfl) | assumption | rfl) only [e118_0, e118_1, e118_4, e118_5, e118_6, e118_7, e118_8, e118_11, e118_12, e118_13, e118_16, e118_17, e118_18, e118_19, e118_20, e118_23, e118_24, e118_25, e118_26, gf_63_15, gi, gj, pi, pj, ↓reduceIte, true_and, and_true, false_and, and_false, bindS, tL0, tL1, app0, app1, eq_self, Int.reduceEq, Int.reduceLT, Int.reduceLE, Int.reduceNeg, Int.reduceToNat]
theorem RW_sw {i j : Nat} (h : RWs M l) (hi : i < 7) (hj : j < 7) : RWs (setC (setC M 69 i (M 69 j)) 69 j (M 69 i)) (swL l i j) := by
  refine ⟨by rw [sw_len]; exact h.1, fun q hq => ?_⟩
  unfold swL
  rw [gt_st (by rw [st_len, h.1]; exact hj), gt_st (by rw [h.1]; exact hi)]
  by_cases h1 : q = j
  · subst h1
    rw [setC_s, if_pos rfl]; exact h.2 i hi
  · rw [setC_i h1, if_neg h1]
    by_cases h2 : q = i
    · subst h2
      rw [setC_s, if_pos rfl]; exact h.2 j hj
    · rw [setC_i h2, if_neg h2]; exact h.2 q hq
variable {n : Int} {l3 l4 l5 : Option PV}
theorem fk_loop (h : RWs M l) : ∀ m : Nat, m ≤ 6 → ev (d + 1) 117 4 [some (.inr (.inr (some 63))), some (.inl n), some (.inl ((m : Int) - 1)), l3, l4, l5] [] (SH L) M = match fkL l m with
    | none => some (some (.inl 0), SH L, M)
    | some k => ev (d + 1) 117 37 [some (.inr (.inr (some 63))), some (.inl n), some (.inl (k : Int)), l3, l4, l5] [] (SH L) M := by
  intro m
  induction m with
  | zero =>
    intro _
    rw [show (((0 : Nat) : Int) - 1) = -1 from rfl, e117_4]
    simp (disch := first | omega | (exact Nat.le_of_ble_eq_true rfl) | assumption | rfl) only [e117_0, e117_1, e117_2, e117_3, e117_5, e117_8, e117_9, e117_12, e117_13, e117_14, e117_15, e117_18, e117_19, e117_20, e117_21, e117_22, e117_25, e117_28, e117_31, e117_32, e117_35, e117_36z, e117_36o, e117_36, e117_38, e117_39, e117_40, e117_41, e117_42, e117_45, e117_46, e117_47, e117_48, e117_51, e117_52, e117_53, e117_56, e117_59, e117_62, e117_63, e117_64, e117_65, e117_68, e117_69, e117_70, e117_71, e117_73, e117_74, e117_75, e117_76, e117_78, e117_80, e117_82, e117_85, e117_86, e117_88, e117_90, e117_93, e117_96, e117_99, e117_102, e117_103z, e117_103o, e117_103, ↓reduceIte, true_and, and_true, false_and, and_false, bindS, tL0, tL1, app0, app1, eq_self, Int.reduceEq, Int.reduceLT, Int.reduceLE, Int.reduceNeg, Int.reduceToNat]
    rfl
  | succ m ih =>
    intro hm
    have e : (((m + 1 : Nat) : Int) - 1) = (m : Int) := by omega
    have h0 : ¬ (m : Int) < 0 := by omega
    have h0' : 0 ≤ (m : Int) := by omega
    have w1 : wr ((m : Int) + 1) = ((m + 1 : Nat) : Int) := wr1 m (by omega)
    have w2 : wr ((m : Int) + -1) = (m : Int) - 1 := by rw [wr_id (by omega) (by omega)]; omega
    have g1 := aget_in (M := M) (ar_69 (L := L)) (i := (m : Int)) (by omega) (by omega)
    have g2 := aget_in (M := M) (ar_69 (L := L)) (i := ((m + 1 : Nat) : Int)) (by omega) (by omega)
    rw [tnN, h.2 _ (by omega)] at g1 g2
    have ef : fkL l (m + 1) = if Nat.ble (gtL l m) (gtL l (m + 1)) = true then some m else fkL l m := rfl
    rw [ef, e, e117_4]
    by_cases hc : gtL l m ≤ gtL l (m + 1)
    · have hci : (gtL l m : Int) ≤ (gtL l (m + 1) : Int) := by omega
      rw [if_pos (Nat.ble_eq_true_of_le hc)]
      simp (disch := first | omega | (exact Nat.le_of_ble_eq_true rfl) | assumption | rfl) only [e117_0, e117_1, e117_2, e117_3, e117_5, e117_8, e117_9, e117_12, e117_13, e117_14, e117_15, e117_18, e117_19, e117_20, e117_21, e117_22, e117_25, e117_28, e117_31, e117_32, e117_35, e117_36z, e117_36o, e117_36, e117_38, e117_39, e117_40, e117_41, e117_42, e117_45, e117_46, e117_47, e117_48, e117_51, e117_52, e117_53, e117_56, e117_59, e117_62, e117_63, e117_64, e117_65, e117_68, e117_69, e117_70, e117_71, e117_73, e117_74, e117_75, e117_76, e117_78, e117_80, e117_82, e117_85, e117_86, e117_88, e117_90, e117_93, e117_96, e117_99, e117_102, e117_103z, e117_103o, e117_103, gf_63_15, h0, h0', w1, g1, g2, hci, ↓reduceIte, true_and, and_true, false_and, and_false, bindS, tL0, tL1, app0, app1, eq_self, Int.reduceEq, Int.reduceLT, Int.reduceLE, Int.reduceNeg, Int.reduceToNat]
    · have hci : ¬ (gtL l m : Int) ≤ (gtL l (m + 1) : Int) := by omega
      rw [if_neg (fun z => hc (Nat.le_of_ble_eq_true z))]
      simp (disch := first | omega | (exact Nat.le_of_ble_eq_true rfl) | assumption | rfl) only [e117_0, e117_1, e117_2, e117_3, e117_5, e117_8, e117_9, e117_12, e117_13, e117_14, e117_15, e117_18, e117_19, e117_20, e117_21, e117_22, e117_25, e117_28, e117_31, e117_32, e117_35, e117_36z, e117_36o, e117_36, e117_38, e117_39, e117_40, e117_41, e117_42, e117_45, e117_46, e117_47, e117_48, e117_51, e117_52, e117_53, e117_56, e117_59, e117_62, e117_63, e117_64, e117_65, e117_68, e117_69, e117_70, e117_71, e117_73, e117_74, e117_75, e117_76, e117_78, e117_80, e117_82, e117_85, e117_86, e117_88, e117_90, e117_93, e117_96, e117_99, e117_102, e117_103z, e117_103o, e117_103, gf_63_15, h0, w1, w2, g1, g2, hci, ↓reduceIte, true_and, and_true, false_and, and_false, bindS, tL0, tL1, app0, app1, eq_self, Int.reduceEq, Int.reduceLT, Int.reduceLE, Int.reduceNeg, Int.reduceToNat]
      exact ih (by omega)
theorem fj_loop {k : Nat} (h : RWs M l) (hk : gtL l k ≤ gtL l (k + 1)) : ∀ m : Nat, k + 1 ≤ m → m < 7 → (k + 1 ≤ fjL l (gtL l k) m ∧ fjL l (gtL l k) m ≤ m) ∧
    ev (d + 1) 117 41 [some (.inr (.inr (some 63))), some (.inl n), some (.inl (k : Int)), some (.inl (m : Int)), l4, l5] [] (SH L) M = ev (d + 1) 117 62 [some (.inr (.inr (some 63))), some (.inl n), some (.inl (k : Int)), some (.inl ((fjL l (gtL l k) m : Nat) : Int)), l4, l5] [] (SH L) M := by
  intro m
  induction m with
  | zero => intro h1; omega
  | succ m ih =>
    intro h1 h2
    have w2 : wr (((m + 1 : Nat) : Int) + -1) = (m : Int) := by rw [wr_id (by omega) (by omega)]; omega
    have g1 := aget_in (M := M) (ar_69 (L := L)) (i := ((m + 1 : Nat) : Int)) (by omega) (by omega)
    have g2 := aget_in (M := M) (ar_69 (L := L)) (i := (k : Int)) (by omega) (by omega)
    rw [tnN, h.2 _ (by omega)] at g1 g2
    have ef : fjL l (gtL l k) (m + 1) = if Nat.ble (gtL l k) (gtL l (m + 1)) = true then m + 1 else fjL l (gtL l k) m := rfl
    rw [ef]
    by_cases hc : gtL l k ≤ gtL l (m + 1)
    · have hci : (gtL l k : Int) ≤ (gtL l (m + 1) : Int) := by omega
      rw [if_pos (Nat.ble_eq_true_of_le hc)]
      refine ⟨by omega, ?_⟩
      rw [e117_41]
      simp (disch := first | omega | (exact Nat.le_of_ble_eq_true rfl) | assumption | rfl) only [e117_0, e117_1, e117_2, e117_3, e117_4, e117_5, e117_8, e117_9, e117_12, e117_13, e117_14, e117_15, e117_18, e117_19, e117_20, e117_21, e117_22, e117_25, e117_28, e117_31, e117_32, e117_35, e117_36z, e117_36o, e117_36, e117_37, e117_38, e117_39, e117_40, e117_42, e117_45, e117_46, e117_47, e117_48, e117_51, e117_52, e117_53, e117_56, e117_59, e117_63, e117_64, e117_65, e117_68, e117_69, e117_70, e117_71, e117_73, e117_74, e117_75, e117_76, e117_78, e117_80, e117_82, e117_85, e117_86, e117_88, e117_90, e117_93, e117_96, e117_99, e117_102, e117_103z, e117_103o, e117_103, gf_63_15, g1, g2, hci, ↓reduceIte, true_and, and_true, false_and, and_false, bindS, tL0, tL1, app0, app1, eq_self, Int.reduceEq, Int.reduceLT, Int.reduceLE, Int.reduceNeg, Int.reduceToNat]
    · have hci : ¬ (gtL l k : Int) ≤ (gtL l (m + 1) : Int) := by omega
      rw [if_neg (fun z => hc (Nat.le_of_ble_eq_true z))]
      have hne : ¬ m = k := fun z => by subst z; exact hc hk
      obtain ⟨q1, q2⟩ := ih (by omega) (by omega)
      refine ⟨by omega, ?_⟩
      rw [e117_41]
      simp (disch := first | omega | (exact Nat.le_of_ble_eq_true rfl) | assumption | rfl) only [e117_0, e117_1, e117_2, e117_3, e117_4, e117_5, e117_8, e117_9, e117_12, e117_13, e117_14, e117_15, e117_18, e117_19, e117_20, e117_21, e117_22, e117_25, e117_28, e117_31, e117_32, e117_35, e117_36z, e117_36o, e117_36, e117_37, e117_38, e117_39, e117_40, e117_42, e117_45, e117_46, e117_47, e117_48, e117_51, e117_52, e117_53, e117_56, e117_59, e117_63, e117_64, e117_65, e117_68, e117_69, e117_70, e117_71, e117_73, e117_74, e117_75, e117_76, e117_78, e117_80, e117_82, e117_85, e117_86, e117_88, e117_90, e117_93, e117_96, e117_99, e117_102, e117_103z, e117_103o, e117_103, gf_63_15, g1, g2, hci, w2, ↓reduceIte, true_and, and_true, false_and, and_false, bindS, tL0, tL1, app0, app1, eq_self, Int.reduceEq, Int.reduceLT, Int.reduceLE, Int.reduceNeg, Int.reduceToNat]
      exact q2
theorem rv_loop {l2 l3 : Option PV} : ∀ (f lo hi : Nat) (l : List Nat) (M : PM), RWs M l → hi ≤ lo + f → hi < 7 → ∃ M', RWs M' (rvL l f lo hi) ∧ (∀ a, a ≠ 69 → M' a = M a) ∧
    ev (d + 1) 117 78 [some (.inr (.inr (some 63))), some (.inl n), l2, l3, some (.inl (lo : Int)), some (.inl (hi : Int))] [] (SH L) M = some (some (.inl 1), SH L, M') := by
  have o63 := io_63 (L := L)
  intro f
  induction f with
  | zero =>
    intro lo hi l M h h1 h7
    have hle : (hi : Int) ≤ (lo : Int) := by omega
    refine ⟨M, h, fun _ _ => rfl, ?_⟩
    rw [e117_78]
    simp (disch := first | omega | (exact Nat.le_of_ble_eq_true rfl) | assumption | rfl) only [e117_0, e117_1, e117_2, e117_3, e117_4, e117_5, e117_8, e117_9, e117_12, e117_13, e117_14, e117_15, e117_18, e117_19, e117_20, e117_21, e117_22, e117_25, e117_28, e117_31, e117_32, e117_35, e117_36z, e117_36o, e117_36, e117_37, e117_38, e117_39, e117_40, e117_41, e117_42, e117_45, e117_46, e117_47, e117_48, e117_51, e117_52, e117_53, e117_56, e117_59, e117_62, e117_63, e117_64, e117_65, e117_68, e117_69, e117_70, e117_71, e117_73, e117_74, e117_75, e117_76, e117_80, e117_82, e117_85, e117_86, e117_88, e117_90, e117_93, e117_96, e117_99, e117_102, e117_103z, e117_103o, e117_103, hle, ↓reduceIte, true_and, and_true, false_and, and_false, bindS, tL0, tL1, app0, app1, eq_self, Int.reduceEq, Int.reduceLT, Int.reduceLE, Int.reduceNeg, Int.reduceToNat]
  | succ f ih =>
    intro lo hi l M h h1 h7
    have ef : rvL l (f + 1) lo hi = if Nat.ble hi lo = true then l else rvL (swL l lo hi) f (lo + 1) (hi - 1) := rfl
    rw [ef]
    by_cases hc : hi ≤ lo
    · have hle : (hi : Int) ≤ (lo : Int) := by omega
      rw [if_pos (Nat.ble_eq_true_of_le hc)]
      refine ⟨M, h, fun _ _ => rfl, ?_⟩
      rw [e117_78]
      simp (disch := first | omega | (exact Nat.le_of_ble_eq_true rfl) | assumption | rfl) only [e117_0, e117_1, e117_2, e117_3, e117_4, e117_5, e117_8, e117_9, e117_12, e117_13, e117_14, e117_15, e117_18, e117_19, e117_20, e117_21, e117_22, e117_25, e117_28, e117_31, e117_32, e117_35, e117_36z, e117_36o, e117_36, e117_37, e117_38, e117_39, e117_40, e117_41, e117_42, e117_45, e117_46, e117_47, e117_48, e117_51, e117_52, e117_53, e117_56, e117_59, e117_62, e117_63, e117_64, e117_65, e117_68, e117_69, e117_70, e117_71, e117_73, e117_74, e117_75, e117_76, e117_80, e117_82, e117_85, e117_86, e117_88, e117_90, e117_93, e117_96, e117_99, e117_102, e117_103z, e117_103o, e117_103, hle, ↓reduceIte, true_and, and_true, false_and, and_false, bindS, tL0, tL1, app0, app1, eq_self, Int.reduceEq, Int.reduceLT, Int.reduceLE, Int.reduceNeg, Int.reduceToNat]
    · have hle : ¬ (hi : Int) ≤ (lo : Int) := by omega
      rw [if_neg (fun z => hc (Nat.le_of_ble_eq_true z))]
      have w1 : wr ((lo : Int) + 1) = ((lo + 1 : Nat) : Int) := wr1 lo (by omega)
      have w2 : wr ((hi : Int) + -1) = ((hi - 1 : Nat) : Int) := by rw [wr_id (by omega) (by omega)]; omega
      have cc := c_change (L := L) (d := d) (M := M) (i := lo) (j := hi) (by omega) h7
      obtain ⟨M', q1, q2, q3⟩ := ih (lo + 1) (hi - 1) (swL l lo hi) _ (RW_sw h (by omega) h7) (by omega) (by omega)
      refine ⟨M', q1, fun a ha => by rw [q2 a ha, setC_row ha, setC_row ha], ?_⟩
      rw [e117_78]
      simp (disch := first | omega | (exact Nat.le_of_ble_eq_true rfl) | assumption | rfl) only [e117_0, e117_1, e117_2, e117_3, e117_4, e117_5, e117_8, e117_9, e117_12, e117_13, e117_14, e117_15, e117_18, e117_19, e117_20, e117_21, e117_22, e117_25, e117_28, e117_31, e117_32, e117_35, e117_36z, e117_36o, e117_36, e117_37, e117_38, e117_39, e117_40, e117_41, e117_42, e117_45, e117_46, e117_47, e117_48, e117_51, e117_52, e117_53, e117_56, e117_59, e117_62, e117_63, e117_64, e117_65, e117_68, e117_69, e117_70, e117_71, e117_73, e117_74, e117_75, e117_76, e117_80, e117_82, e117_85, e117_86, e117_88, e117_90, e117_93, e117_96, e117_99, e117_102, e117_103z, e117_103o, e117_103, hle, cc, w1, w2, ↓reduceIte, true_and, and_true, false_and, and_false, bindS, tL0, tL1, app0, app1, eq_self, Int.reduceEq, Int.reduceLT, Int.reduceLE, Int.reduceNeg, Int.reduceToNat]
      exact q3
end
theorem fk_le {l : List Nat} : ∀ {m k : Nat}, fkL l m = some k → k < m ∧ gtL l k ≤ gtL l (k + 1)
  | 0, _, h => by cases h
  | m + 1, k, h => by
    have ef : fkL l (m + 1) = if Nat.ble (gtL l m) (gtL l (m + 1)) = true then some m else fkL l m := rfl
    rw [ef] at h
    by_cases hc : Nat.ble (gtL l m) (gtL l (m + 1)) = true
    · rw [if_pos hc] at h
      cases h
      exact ⟨by omega, Nat.le_of_ble_eq_true hc⟩
    · rw [if_neg hc] at h
      have := fk_le h
      exact ⟨by omega, this.2⟩
/-- the reference's nextRow -/
theorem c_nextRow {L d n : Nat} {M : PM} {l : List Nat} (hn : n ≤ 7) (h : RWs M l) : match nxL n l with
    | none => den (d + 1) 117 [(.inr (.inr (some 63))), .inl (n : Int)] (SH L) M = some (some (.inl 0), SH L, M)
    | some l' => ∃ M', den (d + 1) 117 [(.inr (.inr (some 63))), .inl (n : Int)] (SH L) M = some (some (.inl 1), SH L, M') ∧ RWs M' l' ∧ (∀ a, a ≠ 69 → M' a = M a) := by
  have o63 := io_63 (L := L)
  have u : den (d + 1) 117 [(.inr (.inr (some 63))), .inl (n : Int)] (SH L) M = ev (d + 1) 117 0 [some (.inr (.inr (some 63))), some (.inl (n : Int)), none, none, none, none] [] (SH L) M := rfl
  by_cases hn0 : n = 0
  · subst hn0
    have e : nxL 0 l = none := rfl
    have w : wr (((0 : Nat) : Int) - 2) = -2 := rfl
    rw [e]
    dsimp only
    rw [u]
    simp (disch := first | omega | (exact Nat.le_of_ble_eq_true rfl) | assumption | rfl) only [e117_0, e117_1, e117_2, e117_3, e117_5, e117_8, e117_9, e117_12, e117_13, e117_14, e117_15, e117_18, e117_19, e117_20, e117_21, e117_22, e117_25, e117_28, e117_31, e117_32, e117_35, e117_36z, e117_36o, e117_36, e117_38, e117_39, e117_40, e117_42, e117_45, e117_46, e117_47, e117_48, e117_51, e117_52, e117_53, e117_56, e117_59, e117_63, e117_64, e117_65, e117_68, e117_69, e117_70, e117_71, e117_73, e117_74, e117_75, e117_76, e117_80, e117_82, e117_85, e117_86, e117_88, e117_90, e117_93, e117_96, e117_99, e117_102, e117_103z, e117_103o, e117_103, w, ↓reduceIte, true_and, and_true, false_and, and_false, bindS, tL0, tL1, app0, app1, eq_self, Int.reduceEq, Int.reduceLT, Int.reduceLE, Int.reduceNeg, Int.reduceToNat]
    rw [e117_4]
    simp (disch := first | omega | (exact Nat.le_of_ble_eq_true rfl) | assumption | rfl) only [e117_0, e117_1, e117_2, e117_3, e117_5, e117_8, e117_9, e117_12, e117_13, e117_14, e117_15, e117_18, e117_19, e117_20, e117_21, e117_22, e117_25, e117_28, e117_31, e117_32, e117_35, e117_36z, e117_36o, e117_36, e117_38, e117_39, e117_40, e117_42, e117_45, e117_46, e117_47, e117_48, e117_51, e117_52, e117_53, e117_56, e117_59, e117_63, e117_64, e117_65, e117_68, e117_69, e117_70, e117_71, e117_73, e117_74, e117_75, e117_76, e117_80, e117_82, e117_85, e117_86, e117_88, e117_90, e117_93, e117_96, e117_99, e117_102, e117_103z, e117_103o, e117_103, ↓reduceIte, true_and, and_true, false_and, and_false, bindS, tL0, tL1, app0, app1, eq_self, Int.reduceEq, Int.reduceLT, Int.reduceLE, Int.reduceNeg, Int.reduceToNat]
  have w : wr ((n : Int) - 2) = ((n - 1 : Nat) : Int) - 1 := by rw [wr_id (by omega) (by omega)]; omega
  have fk := fk_loop (L := L) (d := d) (n := (n : Int)) (l3 := none) (l4 := none) (l5 := none) h (n - 1) (by omega)
  unfold nxL
  cases hk : fkL l (n - 1) with
  | none =>
    rw [hk] at fk
    dsimp only at fk ⊢
    rw [u]
    simp (disch := first | omega | (exact Nat.le_of_ble_eq_true rfl) | assumption | rfl) only [e117_0, e117_1, e117_2, e117_3, e117_5, e117_8, e117_9, e117_12, e117_13, e117_14, e117_15, e117_18, e117_19, e117_20, e117_21, e117_22, e117_25, e117_28, e117_31, e117_32, e117_35, e117_36z, e117_36o, e117_36, e117_38, e117_39, e117_40, e117_42, e117_45, e117_46, e117_47, e117_48, e117_51, e117_52, e117_53, e117_56, e117_59, e117_63, e117_64, e117_65, e117_68, e117_69, e117_70, e117_71, e117_73, e117_74, e117_75, e117_76, e117_80, e117_82, e117_85, e117_86, e117_88, e117_90, e117_93, e117_96, e117_99, e117_102, e117_103z, e117_103o, e117_103, w, ↓reduceIte, true_and, and_true, false_and, and_false, bindS, tL0, tL1, app0, app1, eq_self, Int.reduceEq, Int.reduceLT, Int.reduceLE, Int.reduceNeg, Int.reduceToNat]
    exact fk
  | some k =>
    rw [hk] at fk
    dsimp only at fk ⊢
    obtain ⟨k1, k2⟩ := fk_le hk
    have wn : wr ((n : Int) - 1) = ((n - 1 : Nat) : Int) := by rw [wr_id (by omega) (by omega)]; omega
    have wk : wr ((k : Int) + 1) = ((k + 1 : Nat) : Int) := wr1 k (by omega)
    obtain ⟨⟨j1, j2⟩, fj⟩ := fj_loop (L := L) (d := d) (n := (n : Int)) (l4 := none) (l5 := none) (k := k) h k2 (n - 1) (by omega) (by omega)
    have cc := c_change (L := L) (d := d) (M := M) (i := k) (j := fjL l (gtL l k) (n - 1)) (by omega) (by omega)
    obtain ⟨M', q1, q2, q3⟩ := rv_loop (L := L) (d := d) (n := (n : Int)) (l2 := some (.inl (k : Int))) (l3 := some (.inl ((fjL l (gtL l k) (n - 1) : Nat) : Int))) 7 (k + 1) (n - 1) _ _ (RW_sw h (by omega) (by omega) : RWs _ (swL l k (fjL l (gtL l k) (n - 1)))) (by omega) (by omega)
    refine ⟨M', ?_, q1, fun a ha => by rw [q2 a ha, setC_row ha, setC_row ha]⟩
    rw [u]
    simp (disch := first | omega | (exact Nat.le_of_ble_eq_true rfl) | assumption | rfl) only [e117_0, e117_1, e117_2, e117_3, e117_5, e117_8, e117_9, e117_12, e117_13, e117_14, e117_15, e117_18, e117_19, e117_20, e117_21, e117_22, e117_25, e117_28, e117_31, e117_32, e117_35, e117_36z, e117_36o, e117_36, e117_38, e117_39, e117_40, e117_42, e117_45, e117_46, e117_47, e117_48, e117_51, e117_52, e117_53, e117_56, e117_59, e117_63, e117_64, e117_65, e117_68, e117_69, e117_70, e117_71, e117_73, e117_74, e117_75, e117_76, e117_80, e117_82, e117_85, e117_86, e117_88, e117_90, e117_93, e117_96, e117_99, e117_102, e117_103z, e117_103o, e117_103, w, ↓reduceIte, true_and, and_true, false_and, and_false, bindS, tL0, tL1, app0, app1, eq_self, Int.reduceEq, Int.reduceLT, Int.reduceLE, Int.reduceNeg, Int.reduceToNat]
    rw [fk]
    simp (disch := first | omega | (exact Nat.le_of_ble_eq_true rfl) | assumption | rfl) only [e117_0, e117_1, e117_2, e117_3, e117_5, e117_8, e117_9, e117_12, e117_13, e117_14, e117_15, e117_18, e117_19, e117_20, e117_21, e117_22, e117_25, e117_28, e117_31, e117_32, e117_35, e117_36z, e117_36o, e117_36, e117_37, e117_38, e117_39, e117_40, e117_42, e117_45, e117_46, e117_47, e117_48, e117_51, e117_52, e117_53, e117_56, e117_59, e117_63, e117_64, e117_65, e117_68, e117_69, e117_70, e117_71, e117_73, e117_74, e117_75, e117_76, e117_80, e117_82, e117_85, e117_86, e117_88, e117_90, e117_93, e117_96, e117_99, e117_102, e117_103z, e117_103o, e117_103, wn, ↓reduceIte, true_and, and_true, false_and, and_false, bindS, tL0, tL1, app0, app1, eq_self, Int.reduceEq, Int.reduceLT, Int.reduceLE, Int.reduceNeg, Int.reduceToNat]
    rw [fj]
    simp (disch := first | omega | (exact Nat.le_of_ble_eq_true rfl) | assumption | rfl) only [e117_0, e117_1, e117_2, e117_3, e117_5, e117_8, e117_9, e117_12, e117_13, e117_14, e117_15, e117_18, e117_19, e117_20, e117_21, e117_22, e117_25, e117_28, e117_31, e117_32, e117_35, e117_36z, e117_36o, e117_36, e117_38, e117_39, e117_40, e117_42, e117_45, e117_46, e117_47, e117_48, e117_51, e117_52, e117_53, e117_56, e117_59, e117_62, e117_63, e117_64, e117_65, e117_68, e117_69, e117_70, e117_71, e117_73, e117_74, e117_75, e117_76, e117_80, e117_82, e117_85, e117_86, e117_88, e117_90, e117_93, e117_96, e117_99, e117_102, e117_103z, e117_103o, e117_103, cc, wk, wn, ↓reduceIte, true_and, and_true, false_and, and_false, bindS, tL0, tL1, app0, app1, eq_self, Int.reduceEq, Int.reduceLT, Int.reduceLE, Int.reduceNeg, Int.reduceToNat]
    exact q3
