/-! the reference's small methods -/
theorem c_in (d : Nat) (v a b : Int) (sh : List PS) (M : PM) : den d 93 [.inl v, .inl a, .inl b] sh M = some (some (.inl (if a ≤ v ∧ v ≤ b then 1 else 0)), sh, M) := by
  unfold den
  rw [show ent 93 [.inl v, .inl a, .inl b] = [some (.inl v), some (.inl a), some (.inl b)] from rfl]
  simp only [e93_0, e93_1, e93_2, e93_5, e93_6, e93_7, e93_10, e93_11, e93_14, e93_15z, e93_15o, e93_15]
  by_cases h1 : v < a
  · rw [if_pos h1, if_neg (by omega)]
  · rw [if_neg h1]
    by_cases h2 : b < v
    · rw [if_pos h2, if_neg (by omega)]
    · rw [if_neg h2, if_pos (by omega)]
theorem c_mperson (d : Nat) (v : Int) (sh : List PS) (M : PM) : den (d + 1) 94 [.inl v] sh M = some (some (.inl (if 0 ≤ v ∧ v ≤ 5 then 1 else 0)), sh, M) := by
  unfold den
  rw [show ent 94 [.inl v] = [some (.inl v)] from rfl]
  simp (disch := first | omega | (exact Nat.le_of_ble_eq_true rfl) | assumption | rfl) only [e94_0, e94_1, e94_2, e94_3, c_in, bindS, tL1, app1]
  by_cases h1 : 0 ≤ v ∧ v ≤ 5
  · simp only [if_pos h1, e94_0, e94_1, e94_2, e94_3, e94_6z, e94_6o, e94_6]
  · simp only [if_neg h1, e94_0, e94_1, e94_2, e94_3, e94_6z, e94_6o, e94_6]
def lessI (b g s : Int) : Int := if g ≤ -b then g else if g - s < -b then -b else g - s
theorem c_less {d L : Nat} {M : PM} {g s : Int} (hb : 0 ≤ M 63 0 ∧ M 63 0 ≤ 99) (hg : -100 ≤ g ∧ g ≤ 500000000) (hs : 0 ≤ s ∧ s ≤ 500000000) : den d 102 [(.inr (.inr (some 63))), .inl g, .inl s] (SH L) M = some (some (.inl (lessI (M 63 0) g s)), SH L, M) := by
  unfold den
  rw [show ent 102 [(.inr (.inr (some 63))), .inl g, .inl s] = [some (.inr (.inr (some 63))), some (.inl g), some (.inl s)] from rfl]
  simp only [e102_0, e102_1, e102_2, e102_5, e102_6, e102_9, e102_10, e102_13, e102_14, e102_15, e102_16, e102_17, e102_20, e102_21, e102_24, e102_25, e102_28, e102_29, e102_32, e102_33, e102_34, e102_35, gf_63_0, bindS]
  rw [wr_id (x := -M 63 0) (by omega) (by omega), wr_id (x := g - s) (by omega) (by omega)]
  unfold lessI
  by_cases h1 : g ≤ -M 63 0
  · rw [if_neg (by omega), if_pos h1]
  · rw [if_pos (by omega), if_neg h1]
    by_cases h2 : g - s < -M 63 0
    · rw [if_neg (by omega), if_pos h2]
    · rw [if_pos (by omega), if_neg h2]
theorem passG_less {b s sp : Int} {G : Nat → Int} {p : Nat} (hp : p < 6) (hn : ¬ (p : Int) = sp) : passG b s sp G p = lessI b (G p) s := by
  unfold passG lessI
  by_cases h : G p ≤ -b
  · rw [if_neg (by omega), if_pos h]
  · rw [if_pos ⟨hp, hn, by omega⟩, if_neg h]
theorem passG_no {b s sp : Int} {G : Nat → Int} {p : Nat} (hn : (p : Int) = sp) : passG b s sp G p = G p := by
  unfold passG
  rw [if_neg (fun q => q.2.1 hn)]
/-- the reference's glasses of now, and the time gone -/
def nset (M : PM) (G : Nat → Int) (T : Int) : PM := setC (setR M 68 G) 63 11 T
theorem ns_G {M : PM} {G : Nat → Int} {T : Int} : nset M G T 68 = G := by unfold nset; rw [setC_row (by decide), setR_s]
theorem ns_T {M : PM} {G : Nat → Int} {T : Int} : nset M G T 63 11 = T := by unfold nset; rw [setC_s]
theorem ns_m {M : PM} {G : Nat → Int} {T : Int} {j : Nat} (h : j ≠ 11) : nset M G T 63 j = M 63 j := by unfold nset; rw [setC_i h, setR_row (by decide)]
theorem ns_row {M : PM} {a : Nat} {G : Nat → Int} {T : Int} (h1 : a ≠ 63) (h2 : a ≠ 68) : nset M G T a = M a := by unfold nset; rw [setC_row h1, setR_row h2]
theorem ns_ns {M : PM} {G G' : Nat → Int} {T T' : Int} : nset (nset M G T) G' T' = nset M G' T' := by
  unfold nset; rw [setC_setR (by decide), setR_setR, setC_setC]
theorem ns_put {M : PM} {i : Nat} {G : Nat → Int} {T x : Int} : setC (nset M G T) 68 i x = nset M (fun q => if q = i then x else G q) T := by
  rw [setC_R, ns_G]
  unfold nset
  rw [setC_setR (by decide), setR_setR]
theorem ns_self {M : PM} : nset M (M 68) (M 63 11) = M := by
  unfold nset; rw [setR_same, setC_same]
theorem mpass_loop {d L : Nat} {M : PM} {s sp : Int} (hb : 0 ≤ M 63 0 ∧ M 63 0 ≤ 99) (hs : 0 ≤ s ∧ s ≤ 500000000) (ht : 0 ≤ M 63 11 ∧ M 63 11 ≤ 500000000) (hg : BG (M 68) 500000000) : ∀ (k i : Nat), i + k = 6 →
    ev (d + 1) 103 2 [some (.inr (.inr (some 63))), some (.inl s), some (.inl sp), some (.inl (i : Int))] [] (SH L) (setR M 68 (fil (passG (M 63 0) s sp (M 68)) (M 68) i)) = some (none, SH L, nset M (passG (M 63 0) s sp (M 68)) (M 63 11 + s)) := by
  intro k
  induction k with
  | zero =>
    intro i hi
    have hi : i = 6 := by omega
    subst hi
    rw [e103_2]
    simp only [e103_0, e103_1, e103_3, e103_5, e103_8, e103_9, e103_12, e103_13, e103_14, e103_15, e103_18, e103_19, e103_22, e103_23, e103_24, e103_27, e103_28, e103_29, e103_32, e103_33, e103_34, e103_35, e103_38, e103_39, e103_42, e103_45, e103_46i, e103_46, e103_47, e103_50, e103_51, e103_52, e103_55, bindS]
    rw [if_pos (by decide)]
    simp only [gf_63_11, pi_63_11, bindS, e103_0, e103_1, e103_3, e103_5, e103_8, e103_9, e103_12, e103_13, e103_14, e103_15, e103_18, e103_19, e103_22, e103_23, e103_24, e103_27, e103_28, e103_29, e103_32, e103_33, e103_34, e103_35, e103_38, e103_39, e103_42, e103_45, e103_46i, e103_46, e103_47, e103_50, e103_51, e103_52, e103_55]
    rw [fil_end passG_ge, show setR M 68 (passG (M 63 0) s sp (M 68)) 63 = M 63 from setR_row (by decide), wr_id (by omega) (by omega)]
    rfl
  | succ k ih =>
    intro i hi
    have h6 : i < 6 := by omega
    have hgi := hg i h6
    rw [e103_2]
    simp only [e103_0, e103_1, e103_3, e103_5, e103_8, e103_9, e103_12, e103_13, e103_14, e103_15, e103_18, e103_19, e103_22, e103_23, e103_24, e103_27, e103_28, e103_29, e103_32, e103_33, e103_34, e103_35, e103_38, e103_39, e103_42, e103_45, e103_46i, e103_46, e103_47, e103_50, e103_51, e103_52, e103_55, gf_63_10, bindS]
    rw [if_neg (by omega)]
    by_cases h1 : (i : Int) = sp
    · rw [if_pos h1]
      rw [aget_in ar_68 (by omega) (by omega)]
      simp only [bindS, e103_0, e103_1, e103_3, e103_5, e103_8, e103_9, e103_12, e103_13, e103_14, e103_15, e103_18, e103_19, e103_22, e103_23, e103_24, e103_27, e103_28, e103_29, e103_32, e103_33, e103_34, e103_35, e103_38, e103_39, e103_42, e103_45, e103_46i, e103_46, e103_47, e103_50, e103_51, e103_52, e103_55, setR_s, tnN, fil_at]
      rw [aput_in ar_68 (by omega) (by omega)]
      simp only [bindS, e103_0, e103_1, e103_3, e103_5, e103_8, e103_9, e103_12, e103_13, e103_14, e103_15, e103_18, e103_19, e103_22, e103_23, e103_24, e103_27, e103_28, e103_29, e103_32, e103_33, e103_34, e103_35, e103_38, e103_39, e103_42, e103_45, e103_46i, e103_46, e103_47, e103_50, e103_51, e103_52, e103_55, tnN]
      rw [fil_put (passG_no h1).symm, wr1 i (by omega)]
      exact ih (i + 1) (by omega)
    · rw [if_neg h1]
      rw [aget_in ar_68 (by omega) (by omega)]
      have hrow : setR M 68 (fil (passG (M 63 0) s sp (M 68)) (M 68) i) 63 = M 63 := setR_row (by decide)
      have hl := c_less (d := d) (L := L) (M := setR M 68 (fil (passG (M 63 0) s sp (M 68)) (M 68) i)) (g := M 68 i) (s := s) (by rw [hrow]; exact hb) hgi hs
      rw [hrow] at hl
      have ho := io_63 (L := L)
      simp (disch := first | omega | (exact Nat.le_of_ble_eq_true rfl) | assumption | rfl) only [bindS, e103_0, e103_1, e103_3, e103_5, e103_8, e103_9, e103_12, e103_13, e103_14, e103_15, e103_18, e103_19, e103_22, e103_23, e103_24, e103_27, e103_28, e103_29, e103_32, e103_33, e103_34, e103_35, e103_38, e103_39, e103_42, e103_45, e103_46i, e103_46, e103_47, e103_50, e103_51, e103_52, e103_55, setR_s, tnN, fil_at, hl, tL1, app1]
      rw [aput_in ar_68 (by omega) (by omega)]
      simp only [bindS, e103_0, e103_1, e103_3, e103_5, e103_8, e103_9, e103_12, e103_13, e103_14, e103_15, e103_18, e103_19, e103_22, e103_23, e103_24, e103_27, e103_28, e103_29, e103_32, e103_33, e103_34, e103_35, e103_38, e103_39, e103_42, e103_45, e103_46i, e103_46, e103_47, e103_50, e103_51, e103_52, e103_55, tnN]
      rw [fil_put (passG_less h6 h1).symm, wr1 i (by omega)]
      exact ih (i + 1) (by omega)
theorem c_mpass {d L : Nat} {M : PM} {s sp : Int} (hb : 0 ≤ M 63 0 ∧ M 63 0 ≤ 99) (hs : 0 ≤ s ∧ s ≤ 500000000) (ht : 0 ≤ M 63 11 ∧ M 63 11 ≤ 500000000) (hg : BG (M 68) 500000000) :
    den (d + 1) 103 [(.inr (.inr (some 63))), .inl s, .inl sp] (SH L) M = some (none, SH L, nset M (passG (M 63 0) s sp (M 68)) (M 63 11 + s)) := by
  unfold den
  rw [show ent 103 [(.inr (.inr (some 63))), .inl s, .inl sp] = [some (.inr (.inr (some 63))), some (.inl s), some (.inl sp), none] from rfl]
  simp only [e103_0, e103_1]
  have h := mpass_loop (d := d) (L := L) (sp := sp) hb hs ht hg 6 0 (by omega)
  rw [fil_0, setR_same] at h
  exact h
/-- speaking: f times d seconds more at the end -/
theorem c_mspeak {d L : Nat} {M : PM} {i s f : Int} (h0 : 0 ≤ i) (h1 : i < 6) (hf : 1 ≤ f ∧ f ≤ 4) (hb : 0 ≤ M 63 0 ∧ M 63 0 ≤ 99) (hs : 0 ≤ s ∧ s ≤ 1000) (ht : 0 ≤ M 63 11 ∧ M 63 11 ≤ 500000000) (hg : BG (M 68) 500000000) :
    den (d + 2) 104 [(.inr (.inr (some 63))), .inl i, .inl s, .inl f] (SH L) M = some (none, SH L, nset M (fireG (M 63 0) s f i.toNat (M 68)) (M 63 11 + s)) := by
  unfold den
  rw [show ent 104 [(.inr (.inr (some 63))), .inl i, .inl s, .inl f] = [some (.inr (.inr (some 63))), some (.inl i), some (.inl s), some (.inl f)] from rfl]
  have ho := io_63 (L := L)
  have hp := hg i.toNat (by omega)
  have hi : ((i.toNat : Nat) : Int) = i := by omega
  have hm : 0 ≤ f * s ∧ f * s ≤ 4000 := by
    constructor
    · exact Int.mul_nonneg (by omega) (by omega)
    · calc f * s ≤ 4 * s := Int.mul_le_mul_of_nonneg_right hf.2 hs.1
        _ ≤ 4000 := by omega
  have e2 : passG (M 63 0) s i (M 68) i.toNat = M 68 i.toNat := passG_no hi
  simp (disch := first | omega | (exact Nat.le_of_ble_eq_true rfl) | assumption | rfl) only [e104_0, e104_1, e104_2, e104_3, e104_6, e104_7, e104_10, e104_11, e104_12, e104_13, e104_14, e104_15, e104_16, e104_17, e104_18, bindS, c_mpass (sp := i) hb (And.intro hs.1 (Int.le_trans hs.2 (by decide))) ht hg, gf_63_10, tL0, app0]
  rw [aget_in ar_68 (by omega) (by omega)]
  simp only [e104_0, e104_1, e104_2, e104_3, e104_6, e104_7, e104_10, e104_11, e104_12, e104_13, e104_14, e104_15, e104_16, e104_17, e104_18, bindS, ns_G, e2]
  rw [aput_in ar_68 (by omega) (by omega)]
  simp only [e104_0, e104_1, e104_2, e104_3, e104_6, e104_7, e104_10, e104_11, e104_12, e104_13, e104_14, e104_15, e104_16, e104_17, e104_18, bindS, ns_put]
  rw [wr_id (x := f * s) (by omega) (by omega), wr_id (by omega) (by omega)]
  unfold fireG addG
  rw [hi, e2]
theorem asNow_loop {d L : Nat} {M : PM} : ∀ (k i : Nat), i + k = 6 →
    ev d 101 7 [some (.inr (.inr (some 63))), some (.inl (i : Int))] [] (SH L) (nset M (fil (M 64) (M 68) i) 0) = some (none, SH L, nset M (fil (M 64) (M 68) 6) 0) := by
  intro k
  induction k with
  | zero =>
    intro i hi
    have hi : i = 6 := by omega
    subst hi
    rw [e101_7]
    simp only [e101_0, e101_1, e101_2, e101_5, e101_6, e101_8, e101_10, e101_13, e101_14, e101_17, e101_18, e101_19, e101_22, e101_23, e101_24, e101_25, e101_28, e101_31, bindS]
    rw [if_pos (by decide)]
  | succ k ih =>
    intro i hi
    have h6 : i < 6 := by omega
    rw [e101_7]
    simp only [e101_0, e101_1, e101_2, e101_5, e101_6, e101_8, e101_10, e101_13, e101_14, e101_17, e101_18, e101_19, e101_22, e101_23, e101_24, e101_25, e101_28, e101_31, gf_63_10, gf_63_3, bindS]
    rw [if_neg (by omega), aget_in ar_64 (by omega) (by omega)]
    simp only [e101_0, e101_1, e101_2, e101_5, e101_6, e101_8, e101_10, e101_13, e101_14, e101_17, e101_18, e101_19, e101_22, e101_23, e101_24, e101_25, e101_28, e101_31, bindS, tnN]
    rw [aput_in ar_68 (by omega) (by omega)]
    simp only [e101_0, e101_1, e101_2, e101_5, e101_6, e101_8, e101_10, e101_13, e101_14, e101_17, e101_18, e101_19, e101_22, e101_23, e101_24, e101_25, e101_28, e101_31, bindS, tnN, ns_put, ns_row (a := 64) (by decide) (by decide)]
    rw [wr1 i (by omega)]
    have e : (fun q => if q = i then M 64 i else fil (M 64) (M 68) i q) = fil (M 64) (M 68) (i + 1) := by
      funext q
      simp only [fil]
      by_cases hq : q = i
      · subst hq; simp
      · rw [if_neg hq]
        by_cases h3 : q < i
        · rw [if_pos h3, if_pos (by omega)]
        · rw [if_neg h3, if_neg (by omega)]
    rw [e]
    exact ih (i + 1) (by omega)
theorem c_asNow {d L : Nat} {M : PM} : den d 101 [(.inr (.inr (some 63)))] (SH L) M = some (none, SH L, nset M (fil (M 64) (M 68) 6) 0) := by
  unfold den
  rw [show ent 101 [(.inr (.inr (some 63)))] = [some (.inr (.inr (some 63))), none] from rfl]
  simp only [e101_0, e101_1, e101_2, e101_5, e101_6, pi_63_11, bindS]
  have h := asNow_loop (d := d) (L := L) (M := M) 6 0 (by omega)
  rw [fil_0] at h
  unfold nset at h
  rw [setR_same] at h
  exact h
