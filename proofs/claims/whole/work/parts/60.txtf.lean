/-! the reference's text: glasses of now, time gone, what is clear, the place read -/
def gset (M : PM) (G : Nat → Int) (g c r : Int) : PM := nset (setC (setC M 63 13 c) 63 14 r) G g
section
variable {M : PM} {G : Nat → Int} {g c r v : Int} {a i j d L : Nat}
theorem gs_G : gset M G g c r 68 = G := ns_G
theorem gs_11 : gset M G g c r 63 11 = g := ns_T
theorem gs_13 : gset M G g c r 63 13 = c := by unfold gset; rw [ns_m (by decide), setC_i (by decide), setC_s]
theorem gs_14 : gset M G g c r 63 14 = r := by unfold gset; rw [ns_m (by decide), setC_s]
theorem gs_m (h : j ≠ 11) (h2 : j ≠ 13) (h3 : j ≠ 14) : gset M G g c r 63 j = M 63 j := by unfold gset; rw [ns_m h, setC_i h3, setC_i h2]
theorem gs_row (h1 : a ≠ 63) (h2 : a ≠ 68) : gset M G g c r a = M a := by unfold gset; rw [ns_row h1 h2, setC_row h1, setC_row h1]
theorem gs_put : setC (gset M G g c r) 68 i v = gset M (up G i v) g c r := by unfold gset; rw [ns_put]; rfl
theorem gs_s14 : setC (gset M G g c r) 63 14 v = gset M G g c v := by
  funext b j
  simp only [gset, nset, setC, setR]
  by_cases hb : b = 63
  · subst hb
    by_cases h : j = 14
    · subst h; simp
    · simp [h]
  · simp [hb]
theorem gs_s13 : setC (gset M G g c r) 63 13 v = gset M G g v r := by
  funext b j
  simp only [gset, nset, setC, setR]
  by_cases hb : b = 63
  · subst hb
    by_cases h : j = 13
    · subst h; simp
    · simp [h]
  · simp [hb]
theorem gs_self : gset M (M 68) (M 63 11) (M 63 13) (M 63 14) = M := by
  unfold gset nset
  rw [setC_same, setC_same, setR_same, setC_same]
theorem gs_ns {G' : Nat → Int} {g' : Int} : nset M G g = gset M G g (M 63 13) (M 63 14) := by
  unfold gset
  rw [setC_same, setC_same]
theorem Same_gs : Same M (gset M G g c r) := ⟨fun a ha => gs_row (by omega) (by omega), by rw [gs_row (by decide) (by decide)], fun j hj => gs_m (by omega) (by omega) (by omega)⟩
theorem g_pass {s sp : Int} (hb : 0 ≤ M 63 0 ∧ M 63 0 ≤ 99) (hs : 0 ≤ s ∧ s ≤ 500000000) (ht : 0 ≤ g ∧ g ≤ 500000000) (hg : BG G 500000000) : den (d + 1) 103 [(.inr (.inr (some 63))), .inl s, .inl sp] (SH L) (gset M G g c r) = some (none, SH L, gset M (passG (M 63 0) s sp G) (g + s) c r) := by
  have e : setC (setC M 63 13 c) 63 14 r 63 0 = M 63 0 := by rw [setC_i (by decide), setC_i (by decide)]
  have h := n_pass (d := d) (L := L) (M := setC (setC M 63 13 c) 63 14 r) (G := G) (T := g) (s := s) (sp := sp) (by rw [e]; exact hb) hs ht hg
  rw [e] at h
  exact h
theorem g_speak {p s f : Int} (h0 : 0 ≤ p) (h1 : p < 6) (hf : 1 ≤ f ∧ f ≤ 4) (hb : 0 ≤ M 63 0 ∧ M 63 0 ≤ 99) (hs : 0 ≤ s ∧ s ≤ 1000) (ht : 0 ≤ g ∧ g ≤ 500000000) (hg : BG G 500000000) : den (d + 2) 104 [(.inr (.inr (some 63))), .inl p, .inl s, .inl f] (SH L) (gset M G g c r) = some (none, SH L, gset M (fireG (M 63 0) s f p.toNat G) (g + s) c r) := by
  have e : setC (setC M 63 13 c) 63 14 r 63 0 = M 63 0 := by rw [setC_i (by decide), setC_i (by decide)]
  have h := n_speak (d := d) (L := L) (M := setC (setC M 63 13 c) 63 14 r) (G := G) (T := g) (i := p) (s := s) (f := f) h0 h1 hf (by rw [e]; exact hb) hs ht hg
  rw [e] at h
  exact h
def watI (w : Int) (G : Nat → Int) (s sp : Int) : Int := if w < 0 ∨ w = sp then 0 else if s ≤ waitI (G w.toNat) then 0 else s - waitI (G w.toNat)
theorem watI_b {w s sp : Int} (hs : 0 ≤ s) : 0 ≤ watI w G s sp ∧ watI w G s sp ≤ s := by
  unfold watI
  have : 0 ≤ waitI (G w.toNat) := by unfold waitI; split <;> omega
  split
  · omega
  · split <;> omega
theorem g_watch {s sp : Int} (hw : M 63 12 < 6) (hs : 0 ≤ s ∧ s ≤ 1000) (hc : 0 ≤ c ∧ c ≤ 100000) (hg : BG G 500000000) : den d 105 [(.inr (.inr (some 63))), .inl s, .inl sp] (SH L) (gset M G g c r) = some (none, SH L, gset M G g (c + watI (M 63 12) G s sp) r) := by
  have o := io_63 (L := L)
  unfold den
  rw [show ent 105 [(.inr (.inr (some 63))), .inl s, .inl sp] = [some (.inr (.inr (some 63))), some (.inl s), some (.inl sp), none] from rfl]
  by_cases h1 : M 63 12 < 0
  · have e : watI (M 63 12) G s sp = 0 := by unfold watI; rw [if_pos (Or.inl h1)]
    simp (disch := decide) only [e105_0, e105_1, e105_4, e105_7, e105_8, e105_11, e105_12, e105_15, e105_16, e105_19, e105_20, e105_23, e105_24, e105_27, e105_28, e105_31, e105_32, e105_35, e105_36, e105_39, e105_40, e105_41, e105_42i, e105_42, e105_43, e105_46, e105_47, e105_48, e105_51, e105_52, e105_53, e105_54, e105_57, e105_58, e105_59, e105_62, gf_63_12, gs_m, h1, e, Int.add_zero, ↓reduceIte, true_and, and_true, false_and, and_false, bindS, tL0, tL1, app0, app1, eq_self, Int.reduceEq, Int.reduceLT, Int.reduceLE, Int.reduceNeg, Int.reduceToNat]
  by_cases h2 : M 63 12 = sp
  · have e : watI (M 63 12) G s sp = 0 := by unfold watI; rw [if_pos (Or.inr h2)]
    rw [h2] at h1 e
    simp (disch := decide) only [e105_0, e105_1, e105_4, e105_7, e105_8, e105_11, e105_12, e105_15, e105_16, e105_19, e105_20, e105_23, e105_24, e105_27, e105_28, e105_31, e105_32, e105_35, e105_36, e105_39, e105_40, e105_41, e105_42i, e105_42, e105_43, e105_46, e105_47, e105_48, e105_51, e105_52, e105_53, e105_54, e105_57, e105_58, e105_59, e105_62, gf_63_12, gs_m, h1, h2, e, Int.add_zero, ↓reduceIte, true_and, and_true, false_and, and_false, bindS, tL0, tL1, app0, app1, eq_self, Int.reduceEq, Int.reduceLT, Int.reduceLE, Int.reduceNeg, Int.reduceToNat]
  have gw := aget_in (M := gset M G g c r) (ar_68 (L := L)) (i := M 63 12) (by omega) (by omega)
  rw [gs_G] at gw
  have hgw := hg (M 63 12).toNat (by omega)
  have e : watI (M 63 12) G s sp = if s ≤ waitI (G (M 63 12).toNat) then 0 else s - waitI (G (M 63 12).toNat) := by
    unfold watI; rw [if_neg (fun q => by rcases q with q | q; exact h1 q; exact h2 q)]
  rw [e]
  by_cases h3 : G (M 63 12).toNat ≤ 0
  · have ew : waitI (G (M 63 12).toNat) = 0 := by unfold waitI; rw [if_neg (by omega)]
    have w0 : wr (s - 0) = s := by rw [wr_id (by omega) (by omega)]; omega
    have w1 : wr (c + s) = c + s := wr_id (by omega) (by omega)
    have w2 : wr (c + 0) = c := by rw [wr_id (by omega) (by omega)]; omega
    rw [ew]
    by_cases h4 : s ≤ 0
    · rw [if_pos h4, Int.add_zero]
      simp (disch := decide) only [e105_0, e105_1, e105_4, e105_7, e105_8, e105_11, e105_12, e105_15, e105_16, e105_19, e105_20, e105_23, e105_24, e105_27, e105_28, e105_31, e105_32, e105_35, e105_36, e105_39, e105_40, e105_41, e105_42i, e105_42, e105_43, e105_46, e105_47, e105_48, e105_51, e105_52, e105_53, e105_54, e105_57, e105_58, e105_59, e105_62, gf_63_10, gf_63_12, gf_63_13, gs_m, gs_13, h1, h2, gw, h3, h4, w0, w1, w2, pi_63_13, gs_s13, ↓reduceIte, true_and, and_true, false_and, and_false, bindS, tL0, tL1, app0, app1, eq_self, Int.reduceEq, Int.reduceLT, Int.reduceLE, Int.reduceNeg, Int.reduceToNat]
    · rw [if_neg h4, Int.sub_zero]
      simp (disch := decide) only [e105_0, e105_1, e105_4, e105_7, e105_8, e105_11, e105_12, e105_15, e105_16, e105_19, e105_20, e105_23, e105_24, e105_27, e105_28, e105_31, e105_32, e105_35, e105_36, e105_39, e105_40, e105_41, e105_42i, e105_42, e105_43, e105_46, e105_47, e105_48, e105_51, e105_52, e105_53, e105_54, e105_57, e105_58, e105_59, e105_62, gf_63_10, gf_63_12, gf_63_13, gs_m, gs_13, h1, h2, gw, h3, h4, w0, w1, w2, pi_63_13, gs_s13, ↓reduceIte, true_and, and_true, false_and, and_false, bindS, tL0, tL1, app0, app1, eq_self, Int.reduceEq, Int.reduceLT, Int.reduceLE, Int.reduceNeg, Int.reduceToNat]
  · have ew : waitI (G (M 63 12).toNat) = G (M 63 12).toNat := by unfold waitI; rw [if_pos (by omega)]
    have w0 : wr (s - G (M 63 12).toNat) = s - G (M 63 12).toNat := wr_id (by omega) (by omega)
    have w2 : wr (c + 0) = c := by rw [wr_id (by omega) (by omega)]; omega
    rw [ew]
    by_cases h4 : s ≤ G (M 63 12).toNat
    · rw [if_pos h4, Int.add_zero]
      simp (disch := decide) only [e105_0, e105_1, e105_4, e105_7, e105_8, e105_11, e105_12, e105_15, e105_16, e105_19, e105_20, e105_23, e105_24, e105_27, e105_28, e105_31, e105_32, e105_35, e105_36, e105_39, e105_40, e105_41, e105_42i, e105_42, e105_43, e105_46, e105_47, e105_48, e105_51, e105_52, e105_53, e105_54, e105_57, e105_58, e105_59, e105_62, gf_63_10, gf_63_12, gf_63_13, gs_m, gs_13, h1, h2, gw, h3, h4, w0, w2, pi_63_13, gs_s13, ↓reduceIte, true_and, and_true, false_and, and_false, bindS, tL0, tL1, app0, app1, eq_self, Int.reduceEq, Int.reduceLT, Int.reduceLE, Int.reduceNeg, Int.reduceToNat]
    · have w1 : wr (c + (s - G (M 63 12).toNat)) = c + (s - G (M 63 12).toNat) := wr_id (by omega) (by omega)
      rw [if_neg h4]
      simp (disch := decide) only [e105_0, e105_1, e105_4, e105_7, e105_8, e105_11, e105_12, e105_15, e105_16, e105_19, e105_20, e105_23, e105_24, e105_27, e105_28, e105_31, e105_32, e105_35, e105_36, e105_39, e105_40, e105_41, e105_42i, e105_42, e105_43, e105_46, e105_47, e105_48, e105_51, e105_52, e105_53, e105_54, e105_57, e105_58, e105_59, e105_62, gf_63_10, gf_63_12, gf_63_13, gs_m, gs_13, h1, h2, gw, h3, h4, w0, w1, pi_63_13, gs_s13, ↓reduceIte, true_and, and_true, false_and, and_false, bindS, tL0, tL1, app0, app1, eq_self, Int.reduceEq, Int.reduceLT, Int.reduceLE, Int.reduceNeg, Int.reduceToNat]
theorem g_number {n q e : Nat} {dd : Int} (hn : n ≤ 60) (h8 : M 63 8 = (n : Int)) (he : e ≤ n) (h : NB (M 67) dd q e) (hx : e < n → ¬ (48 ≤ M 67 e ∧ M 67 e ≤ 57)) : den (d + 1) 106 [(.inr (.inr (some 63))), .inl (q : Int)] (SH L) (gset M G g c r) = some (some (.inl dd), SH L, gset M G g c (e : Int)) := by
  obtain ⟨hq, hd⟩ := h
  have hqn : q < n := by omega
  have gq := fun r => aget_in (M := gset M G g c r) (ar_67 (L := L)) (i := (q : Int)) (by omega) (by omega)
  have w0 : wr (M 67 q - 48) = M 67 q - 48 := wr_id (by omega) (by omega)
  have w1 : wr ((q : Int) + 1) = ((q + 1 : Nat) : Int) := wr1 q (by omega)
  simp (disch := decide) only [tnN, gs_row] at gq
  unfold den
  rw [show ent 106 [(.inr (.inr (some 63))), .inl (q : Int)] = [some (.inr (.inr (some 63))), some (.inl (q : Int)), none] from rfl]
  rcases hd with ⟨rfl, rfl⟩ | ⟨rfl, h2, rfl⟩
  · by_cases hlt : q + 1 < n
    · have hle : ¬ (n : Int) ≤ ((q + 1 : Nat) : Int) := by omega
      have g2 := fun r => aget_in (M := gset M G g c r) (ar_67 (L := L)) (i := ((q + 1 : Nat) : Int)) (by omega) (by omega)
      simp (disch := decide) only [tnN, gs_row] at g2
      have hx2 := hx hlt
      simp (disch := first | omega | (exact Nat.le_of_ble_eq_true rfl) | assumption | rfl) only [e106_0, e106_1, e106_4, e106_5, e106_6, e106_8, e106_9, e106_10, e106_11, e106_12, e106_13, e106_14, e106_17, e106_18, e106_21, e106_22, e106_25, e106_28, e106_29, e106_32, e106_33, e106_36, e106_37, e106_39, e106_41, e106_44, e106_47, e106_49, e106_50, e106_51, e106_52, e106_55, e106_56, e106_59, e106_60, e106_61, e106_63, e106_64, e106_65, e106_66i, e106_66, e106_67, e106_70, e106_71, e106_72, e106_75, e106_76, gf_63_8, gf_63_9, gf_63_14, gs_m, gs_14, gs_s14, gq, g2, h8, hle, w0, w1, pi_63_14, c_in, hx2, ↓reduceIte, true_and, and_true, false_and, and_false, bindS, tL0, tL1, app0, app1, eq_self, Int.reduceEq, Int.reduceLT, Int.reduceLE, Int.reduceNeg, Int.reduceToNat]
    · have hle : (n : Int) ≤ ((q + 1 : Nat) : Int) := by omega
      simp (disch := first | omega | (exact Nat.le_of_ble_eq_true rfl) | assumption | rfl) only [e106_0, e106_1, e106_4, e106_5, e106_6, e106_8, e106_9, e106_10, e106_11, e106_12, e106_13, e106_14, e106_17, e106_18, e106_21, e106_22, e106_25, e106_28, e106_29, e106_32, e106_33, e106_36, e106_37, e106_39, e106_41, e106_44, e106_47, e106_49, e106_50, e106_51, e106_52, e106_55, e106_56, e106_59, e106_60, e106_61, e106_63, e106_64, e106_65, e106_66i, e106_66, e106_67, e106_70, e106_71, e106_72, e106_75, e106_76, gf_63_8, gf_63_9, gf_63_14, gs_m, gs_14, gs_s14, gq, h8, hle, w0, w1, pi_63_14, ↓reduceIte, true_and, and_true, false_and, and_false, bindS, tL0, tL1, app0, app1, eq_self, Int.reduceEq, Int.reduceLT, Int.reduceLE, Int.reduceNeg, Int.reduceToNat]
  · have hle : ¬ (n : Int) ≤ ((q + 1 : Nat) : Int) := by omega
    have g2 := fun r => aget_in (M := gset M G g c r) (ar_67 (L := L)) (i := ((q + 1 : Nat) : Int)) (by omega) (by omega)
    simp (disch := decide) only [tnN, gs_row] at g2
    have w2 : wr (((q + 1 : Nat) : Int) + 1) = ((q + 1 + 1 : Nat) : Int) := wr1 (q + 1) (by omega)
    have w3 : wr (10 * (M 67 q - 48)) = 10 * (M 67 q - 48) := wr_id (by omega) (by omega)
    have w4 : wr (10 * (M 67 q - 48) + M 67 (q + 1)) = 10 * (M 67 q - 48) + M 67 (q + 1) := wr_id (by omega) (by omega)
    have w5 : wr (10 * (M 67 q - 48) + M 67 (q + 1) - 48) = 10 * (M 67 q - 48) + M 67 (q + 1) - 48 := wr_id (by omega) (by omega)
    simp (disch := first | omega | (exact Nat.le_of_ble_eq_true rfl) | assumption | rfl) only [e106_0, e106_1, e106_4, e106_5, e106_6, e106_8, e106_9, e106_10, e106_11, e106_12, e106_13, e106_14, e106_17, e106_18, e106_21, e106_22, e106_25, e106_28, e106_29, e106_32, e106_33, e106_36, e106_37, e106_39, e106_41, e106_44, e106_47, e106_49, e106_50, e106_51, e106_52, e106_55, e106_56, e106_59, e106_60, e106_61, e106_63, e106_64, e106_65, e106_66i, e106_66, e106_67, e106_70, e106_71, e106_72, e106_75, e106_76, gf_63_8, gf_63_9, gf_63_14, gs_m, gs_14, gs_s14, gq, g2, h8, hle, w0, w1, w2, w3, w4, w5, pi_63_14, c_in, h2, ↓reduceIte, true_and, and_true, false_and, and_false, bindS, tL0, tL1, app0, app1, eq_self, Int.reduceEq, Int.reduceLT, Int.reduceLE, Int.reduceNeg, Int.reduceToNat]
end
