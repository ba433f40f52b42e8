/-! the trial valley; answer -/
def EqG (G G' : Nat → Int) : Prop := ∀ p, p < 6 → G p = G' p
theorem EqG.pass {G G' : Nat → Int} {b s sp : Int} (h : EqG G G') : EqG (passG b s sp G) (passG b s sp G') := fun p hp => by
  unfold passG
  rw [h p hp]
theorem EqG.add {G G' : Nat → Int} {i : Nat} {x : Int} (hi : i < 6) (h : EqG G G') : EqG (addG i x G) (addG i x G') := fun p hp => by
  unfold addG
  rw [h p hp, h i hi]
theorem EqG.fire {G G' : Nat → Int} {b d f : Int} {i : Nat} (hi : i < 6) (h : EqG G G') : EqG (fireG b d f i G) (fireG b d f i G') := EqG.add hi h.pass
theorem EqG.speak {G G' : Nat → Int} {b d : Int} {i : Nat} (hi : i < 6) (h : EqG G G') : EqG (speakG b d i G) (fireG b d 1 i G') := by
  unfold speakG fireG
  rw [Int.one_mul]
  exact EqG.add hi h.pass
theorem EqG.fil {f g : Nat → Int} : EqG (fil f g 6) f := fun p hp => fil_lt f g hp
theorem EqG.sym {G G' : Nat → Int} (h : EqG G G') : EqG G' G := fun p hp => (h p hp).symm
theorem EqG.tr {G G' G'' : Nat → Int} (h : EqG G G') (h2 : EqG G' G'') : EqG G G'' := fun p hp => (h p hp).trans (h2 p hp)
theorem BG.eq {G G' : Nat → Int} {B : Int} (h : BG G B) (e : EqG G' G) : BG G' B := fun p hp => by rw [e p hp]; exact h p hp
theorem BG.le {G : Nat → Int} {B B' : Int} (h : BG G B) (e : B ≤ B') : BG G B' := fun p hp => by have := h p hp; omega
/-- the memory with the trial valley as the valley of now -/
def tri (M : PM) : PM := setC (setC (vset M 37 (fil (M 4) (M 38) 6) (M 3 1)) 37 2 (M 3 2)) 37 3 (M 3 3)
theorem c_tri {d L : Nat} {M : PM} : den (d + 1) 52 [(.inr (.inr (some 37))), (.inr (.inr (some 3)))] (SH L) M = some (none, SH L, tri M) := c_vcopy vl_37 vl_3 (by decide) (by decide) (by decide)
theorem tri_G {M : PM} : tri M 38 = fil (M 4) (M 38) 6 := by unfold tri; rw [setC_row (by decide), setC_row (by decide)]; exact vs_G (v := 37)
theorem tri_1 {M : PM} : tri M 37 1 = M 3 1 := by unfold tri; rw [setC_i (by decide), setC_i (by decide)]; exact vs_T (v := 37)
theorem tri_2 {M : PM} : tri M 37 2 = M 3 2 := by unfold tri; rw [setC_i (by decide), setC_s]
theorem tri_3 {M : PM} : tri M 37 3 = M 3 3 := by unfold tri; rw [setC_s]
theorem tri_row {M : PM} {a : Nat} (h1 : a ≠ 37) (h2 : a ≠ 38) : tri M a = M a := by unfold tri; rw [setC_row h1, setC_row h1, vs_row h1 (by omega)]
theorem Same_v37 {M : PM} {G : Nat → Int} {T : Int} : Same M (vset M 37 G T) := ⟨fun a ha => vs_row (by omega) (by omega), by rw [vs_row (by decide) (by decide)], fun j _ => by rw [vs_row (by decide) (by decide)]⟩
theorem Same_tri {M : PM} : Same M (tri M) := ⟨fun a ha => tri_row (by omega) (by omega), by rw [tri_row (by decide) (by decide)], fun j _ => by rw [tri_row (by decide) (by decide)]⟩
theorem Same_ns {M : PM} {G : Nat → Int} {T : Int} : Same M (nset M G T) := ⟨fun a ha => ns_row (by omega) (by omega), by rw [ns_row (by decide) (by decide)], fun j hj => ns_m (by omega)⟩
def bitsG (G : Nat → Int) : Nat → Int
  | 0 => 0
  | i + 1 => if G i ≤ 0 then (Int32.ofInt (bitsG G i) ||| Int32.ofInt (Int32.ofInt 1 <<< (Int32.ofInt (i : Int) &&& 31)).toInt).toInt else bitsG G i
theorem bitsG_ok (G : Nat → Int) : ∀ i, okI (bitsG G i) := by
  intro i
  induction i with
  | zero => exact okI_0
  | succ i ih =>
    unfold bitsG
    split
    · exact okI_ti _
    · exact ih
theorem bitsG_eq {G G' : Nat → Int} (h : EqG G G') : ∀ i, i ≤ 6 → bitsG G i = bitsG G' i := by
  intro i
  induction i with
  | zero => intro _; rfl
  | succ i ih =>
    intro hi
    unfold bitsG
    rw [ih (by omega), h i (by omega)]
theorem or_0 {x : Int} (h : okI x) : (Int32.ofInt x ||| Int32.ofInt 0).toInt = x := by
  rw [show Int32.ofInt x ||| Int32.ofInt 0 = Int32.ofInt x from Int32.or_zero]
  exact toInt_ok h
theorem ans_loop {d L : Nat} {M : PM} {l1 l2 : Option PV} : ∀ (k i : Nat), i + k = 6 →
    ev (d + 3) 63 67 [some (.inr (.inr (some 1))), l1, l2, some (.inl (bitsG (M 38) i)), some (.inl (i : Int))] [] (SH L) M = some (some (.inl (bitsG (M 38) 6)), SH L, M) := by
  intro k
  have o := io_37 (L := L)
  induction k with
  | zero =>
    intro i hi
    have hi : i = 6 := by omega
    subst hi
    rw [e63_67]
    simp only [e63_0, e63_1, e63_4, e63_7, e63_8, e63_9, e63_10, e63_11, e63_13, e63_16, e63_19, e63_21, e63_22, e63_23, e63_26, e63_29, e63_30, e63_33, e63_36, e63_38, e63_39, e63_40, e63_43, e63_44, e63_47, e63_50, e63_53, e63_54, e63_57, e63_58, e63_59, e63_62, e63_63, e63_64, e63_65, e63_69, e63_71, e63_74, e63_75, e63_78, e63_80, e63_83, e63_86, e63_87, e63_88, e63_90, e63_91, e63_92, e63_93, e63_96, e63_99, e63_100]
    rw [if_pos (by decide)]
  | succ k ih =>
    intro i hi
    have h6 : i < 6 := by omega
    rw [e63_67]
    simp only [e63_0, e63_1, e63_4, e63_7, e63_8, e63_9, e63_10, e63_11, e63_13, e63_16, e63_19, e63_21, e63_22, e63_23, e63_26, e63_29, e63_30, e63_33, e63_36, e63_38, e63_39, e63_40, e63_43, e63_44, e63_47, e63_50, e63_53, e63_54, e63_57, e63_58, e63_59, e63_62, e63_63, e63_64, e63_65, e63_69, e63_71, e63_74, e63_75, e63_78, e63_80, e63_83, e63_86, e63_87, e63_88, e63_90, e63_91, e63_92, e63_93, e63_96, e63_99, e63_100]
    rw [if_neg (by omega)]
    simp (disch := first | omega | (exact Nat.le_of_ble_eq_true rfl) | assumption | rfl) only [e63_0, e63_1, e63_4, e63_7, e63_8, e63_9, e63_10, e63_11, e63_13, e63_16, e63_19, e63_21, e63_22, e63_23, e63_26, e63_29, e63_30, e63_33, e63_36, e63_38, e63_39, e63_40, e63_43, e63_44, e63_47, e63_50, e63_53, e63_54, e63_57, e63_58, e63_59, e63_62, e63_63, e63_64, e63_65, e63_69, e63_71, e63_74, e63_75, e63_78, e63_80, e63_83, e63_86, e63_87, e63_88, e63_90, e63_91, e63_92, e63_93, e63_96, e63_99, e63_100, gf_1_4, bindS, tL0, tL1, app0, app1, if_true, if_false, eq_self, Int.reduceEq, Int.reduceLT, Int.reduceLE, Int.reduceNeg, Int.reduceToNat, c_isFree (M := M) (d := d) (vl_37 (L := L)) (i := (i : Int)) (by omega) (by omega), Nat.reduceAdd, tnN]
    rw [wr1 i (by omega)]
    have hs := ih (i + 1) (by omega)
    have e : bitsG (M 38) (i + 1) = if M 38 i ≤ 0 then (Int32.ofInt (bitsG (M 38) i) ||| Int32.ofInt (Int32.ofInt 1 <<< (Int32.ofInt (i : Int) &&& 31)).toInt).toInt else bitsG (M 38) i := rfl
    by_cases hg : M 38 i ≤ 0
    · rw [if_pos hg] at e
      rw [e] at hs
      rw [if_pos hg, if_neg (by decide)]
      exact hs
    · rw [if_neg hg] at e
      rw [e] at hs
      rw [if_neg hg, if_pos rfl]
      exact hs
theorem mans_loop {d L : Nat} {M : PM} {l1 l2 : Option PV} : ∀ (k i : Nat), i + k = 6 →
    ev d 113 50 [some (.inr (.inr (some 63))), l1, l2, some (.inl (bitsG (M 68) i)), some (.inl (i : Int))] [] (SH L) M = some (some (.inl (bitsG (M 68) 6)), SH L, M) := by
  intro k
  induction k with
  | zero =>
    intro i hi
    have hi : i = 6 := by omega
    subst hi
    rw [e113_50]
    simp only [e113_0, e113_1, e113_4, e113_7, e113_8, e113_9, e113_10, e113_11, e113_13, e113_16, e113_19, e113_21, e113_22, e113_23, e113_26, e113_27, e113_28, e113_31, e113_33, e113_34, e113_35, e113_38, e113_39, e113_40, e113_41, e113_42, e113_45, e113_46, e113_47, e113_48, e113_52, e113_54, e113_57, e113_58, e113_59, e113_62, e113_64, e113_65, e113_68, e113_69, e113_71, e113_72, e113_75, e113_76, e113_77, e113_78, e113_81, e113_84, e113_85]
    rw [if_pos (by decide)]
  | succ k ih =>
    intro i hi
    have h6 : i < 6 := by omega
    rw [e113_50]
    simp only [e113_0, e113_1, e113_4, e113_7, e113_8, e113_9, e113_10, e113_11, e113_13, e113_16, e113_19, e113_21, e113_22, e113_23, e113_26, e113_27, e113_28, e113_31, e113_33, e113_34, e113_35, e113_38, e113_39, e113_40, e113_41, e113_42, e113_45, e113_46, e113_47, e113_48, e113_52, e113_54, e113_57, e113_58, e113_59, e113_62, e113_64, e113_65, e113_68, e113_69, e113_71, e113_72, e113_75, e113_76, e113_77, e113_78, e113_81, e113_84, e113_85]
    rw [if_neg (by omega)]
    simp (disch := first | omega | (exact Nat.le_of_ble_eq_true rfl) | assumption | rfl) only [e113_0, e113_1, e113_4, e113_7, e113_8, e113_9, e113_10, e113_11, e113_13, e113_16, e113_19, e113_21, e113_22, e113_23, e113_26, e113_27, e113_28, e113_31, e113_33, e113_34, e113_35, e113_38, e113_39, e113_40, e113_41, e113_42, e113_45, e113_46, e113_47, e113_48, e113_52, e113_54, e113_57, e113_58, e113_59, e113_62, e113_64, e113_65, e113_68, e113_69, e113_71, e113_72, e113_75, e113_76, e113_77, e113_78, e113_81, e113_84, e113_85, gf_63_10, bindS, tL0, tL1, app0, app1, if_true, if_false, eq_self, Int.reduceEq, Int.reduceLT, Int.reduceLE, Int.reduceNeg, Int.reduceToNat, aget_in (ar_68 (L := L)), tnN]
    rw [wr1 i (by omega)]
    have hs := ih (i + 1) (by omega)
    have e : bitsG (M 68) (i + 1) = if M 68 i ≤ 0 then (Int32.ofInt (bitsG (M 68) i) ||| Int32.ofInt (Int32.ofInt 1 <<< (Int32.ofInt (i : Int) &&& 31)).toInt).toInt else bitsG (M 68) i := rfl
    by_cases hg : M 68 i ≤ 0
    · rw [if_pos hg] at e
      rw [e] at hs
      rw [if_neg (by omega)]
      exact hs
    · rw [if_neg hg] at e
      rw [e] at hs
      rw [if_pos (by omega), or_0 (bitsG_ok _ _)]
      exact hs
theorem op_answer {L : Nat} {K : Int} {M : PM} (h : Inv K M) (hK : K ≤ 100000000) (p v : Int) : ∃ r M1 M2, den 1999 63 [(.inr (.inr (some 1))), .inl p, .inl v] (SH L) M = some (some (.inl r), SH L, M1) ∧ M1 0 = M 0 ∧ den 1999 113 [(.inr (.inr (some 63))), .inl p, .inl v] (SH L) M1 = some (some (.inl r), SH L, M2) ∧ Inv K M2 := by
  obtain ⟨⟨⟨a1, a2, a3, a4, a5, a6, a7, a8⟩, ⟨b1, b2, b3, b4, b5, b6, b7, b8⟩⟩, h2, h3, ht, h5, h6⟩ := id h
  have o3 := io_3 (L := L)
  have o37 := io_37 (L := L)
  have o63 := io_63 (L := L)
  by_cases hp : 0 ≤ p ∧ p ≤ 5
  rotate_left
  · refine ⟨-1, M, M, ?_, rfl, ?_, h⟩
    · unfold den
      rw [show ent 63 [(.inr (.inr (some 1))), .inl p, .inl v] = [some (.inr (.inr (some 1))), some (.inl p), some (.inl v), none, none] from rfl]
      simp (disch := first | omega | (exact Nat.le_of_ble_eq_true rfl) | assumption | rfl) only [e63_0, e63_1, e63_4, e63_7, e63_8, e63_9, e63_10, e63_11, e63_13, e63_16, e63_19, e63_21, e63_22, e63_23, e63_26, e63_29, e63_30, e63_33, e63_36, e63_38, e63_39, e63_40, e63_43, e63_44, e63_47, e63_50, e63_53, e63_54, e63_57, e63_58, e63_59, e63_62, e63_63, e63_64, e63_65, e63_69, e63_71, e63_74, e63_75, e63_78, e63_80, e63_83, e63_86, e63_87, e63_88, e63_90, e63_91, e63_92, e63_93, e63_96, e63_99, e63_100, c_person, if_neg hp, bindS, tL0, tL1, app0, app1, if_true, if_false, eq_self, Int.reduceEq, Int.reduceLT, Int.reduceLE, Int.reduceNeg, Int.reduceToNat]
    · unfold den
      rw [show ent 113 [(.inr (.inr (some 63))), .inl p, .inl v] = [some (.inr (.inr (some 63))), some (.inl p), some (.inl v), none, none] from rfl]
      simp (disch := first | omega | (exact Nat.le_of_ble_eq_true rfl) | assumption | rfl) only [e113_0, e113_1, e113_4, e113_7, e113_8, e113_9, e113_10, e113_11, e113_13, e113_16, e113_19, e113_21, e113_22, e113_23, e113_26, e113_27, e113_28, e113_31, e113_33, e113_34, e113_35, e113_38, e113_39, e113_40, e113_41, e113_42, e113_45, e113_46, e113_47, e113_48, e113_52, e113_54, e113_57, e113_58, e113_59, e113_62, e113_64, e113_65, e113_68, e113_69, e113_71, e113_72, e113_75, e113_76, e113_77, e113_78, e113_81, e113_84, e113_85, c_mperson, if_neg hp, bindS, tL0, tL1, app0, app1, if_true, if_false, eq_self, Int.reduceEq, Int.reduceLT, Int.reduceLE, Int.reduceNeg, Int.reduceToNat]
  by_cases hv : 1 ≤ v ∧ v ≤ 99
  rotate_left
  · refine ⟨-2, M, M, ?_, rfl, ?_, h⟩
    · unfold den
      rw [show ent 63 [(.inr (.inr (some 1))), .inl p, .inl v] = [some (.inr (.inr (some 1))), some (.inl p), some (.inl v), none, none] from rfl]
      simp (disch := first | omega | (exact Nat.le_of_ble_eq_true rfl) | assumption | rfl) only [e63_0, e63_1, e63_4, e63_7, e63_8, e63_9, e63_10, e63_11, e63_13, e63_16, e63_19, e63_21, e63_22, e63_23, e63_26, e63_29, e63_30, e63_33, e63_36, e63_38, e63_39, e63_40, e63_43, e63_44, e63_47, e63_50, e63_53, e63_54, e63_57, e63_58, e63_59, e63_62, e63_63, e63_64, e63_65, e63_69, e63_71, e63_74, e63_75, e63_78, e63_80, e63_83, e63_86, e63_87, e63_88, e63_90, e63_91, e63_92, e63_93, e63_96, e63_99, e63_100, c_person, c_within, if_pos hp, if_neg hv, bindS, tL0, tL1, app0, app1, if_true, if_false, eq_self, Int.reduceEq, Int.reduceLT, Int.reduceLE, Int.reduceNeg, Int.reduceToNat]
    · unfold den
      rw [show ent 113 [(.inr (.inr (some 63))), .inl p, .inl v] = [some (.inr (.inr (some 63))), some (.inl p), some (.inl v), none, none] from rfl]
      simp (disch := first | omega | (exact Nat.le_of_ble_eq_true rfl) | assumption | rfl) only [e113_0, e113_1, e113_4, e113_7, e113_8, e113_9, e113_10, e113_11, e113_13, e113_16, e113_19, e113_21, e113_22, e113_23, e113_26, e113_27, e113_28, e113_31, e113_33, e113_34, e113_35, e113_38, e113_39, e113_40, e113_41, e113_42, e113_45, e113_46, e113_47, e113_48, e113_52, e113_54, e113_57, e113_58, e113_59, e113_62, e113_64, e113_65, e113_68, e113_69, e113_71, e113_72, e113_75, e113_76, e113_77, e113_78, e113_81, e113_84, e113_85, c_mperson, c_in, if_pos hp, if_neg hv, bindS, tL0, tL1, app0, app1, if_true, if_false, eq_self, Int.reduceEq, Int.reduceLT, Int.reduceLE, Int.reduceNeg, Int.reduceToNat]
  have e : M 4 p.toNat = M 64 p.toNat := b1 p.toNat (by omega)
  have cF := c_isFree (M := M) (d := 1996) (vl_3 (L := L)) (i := p) (by omega) (by omega)
  have hE : EqG (tri M 38) (M 64) := by rw [tri_G]; exact EqG.fil.tr b1
  by_cases hf : M 64 p.toNat ≤ 0
  rotate_left
  · refine ⟨-3, M, M, ?_, rfl, ?_, h⟩
    · unfold den
      rw [show ent 63 [(.inr (.inr (some 1))), .inl p, .inl v] = [some (.inr (.inr (some 1))), some (.inl p), some (.inl v), none, none] from rfl]
      simp (disch := first | omega | (exact Nat.le_of_ble_eq_true rfl) | assumption | rfl) only [e63_0, e63_1, e63_4, e63_7, e63_8, e63_9, e63_10, e63_11, e63_13, e63_16, e63_19, e63_21, e63_22, e63_23, e63_26, e63_29, e63_30, e63_33, e63_36, e63_38, e63_39, e63_40, e63_43, e63_44, e63_47, e63_50, e63_53, e63_54, e63_57, e63_58, e63_59, e63_62, e63_63, e63_64, e63_65, e63_69, e63_71, e63_74, e63_75, e63_78, e63_80, e63_83, e63_86, e63_87, e63_88, e63_90, e63_91, e63_92, e63_93, e63_96, e63_99, e63_100, c_person, c_within, if_pos hp, if_pos hv, gf_1_0, gf_2_0, cF, Nat.reduceAdd, e, if_neg hf, bindS, tL0, tL1, app0, app1, if_true, if_false, eq_self, Int.reduceEq, Int.reduceLT, Int.reduceLE, Int.reduceNeg, Int.reduceToNat]
    · have hf2 : ¬ M 64 p.toNat ≤ 0 := hf
      unfold den
      rw [show ent 113 [(.inr (.inr (some 63))), .inl p, .inl v] = [some (.inr (.inr (some 63))), some (.inl p), some (.inl v), none, none] from rfl]
      simp (disch := first | omega | (exact Nat.le_of_ble_eq_true rfl) | assumption | rfl) only [e113_0, e113_1, e113_4, e113_7, e113_8, e113_9, e113_10, e113_11, e113_13, e113_16, e113_19, e113_21, e113_22, e113_23, e113_26, e113_27, e113_28, e113_31, e113_33, e113_34, e113_35, e113_38, e113_39, e113_40, e113_41, e113_42, e113_45, e113_46, e113_47, e113_48, e113_52, e113_54, e113_57, e113_58, e113_59, e113_62, e113_64, e113_65, e113_68, e113_69, e113_71, e113_72, e113_75, e113_76, e113_77, e113_78, e113_81, e113_84, e113_85, c_mperson, c_in, if_pos hp, if_pos hv, gf_63_3, aget_in (ar_64 (L := L)), if_neg hf2, bindS, tL0, tL1, app0, app1, if_true, if_false, eq_self, Int.reduceEq, Int.reduceLT, Int.reduceLE, Int.reduceNeg, Int.reduceToNat]
  have cS := c_speak (M := tri M) (d := 1996) (vl_37 (L := L)) (i := p) (x := v) (by omega) (by omega) (by rw [tri_2, b2]; exact a2) (by omega) (by rw [tri_1, b4]; omega) ((a1.le (by omega)).eq hE)
  generalize hT : vset (tri M) 37 (speakG (tri M 37 2) v p.toNat (tri M (37 + 1))) (tri M 37 1 + v) = MT at cS
  have hTG : MT 38 = speakG (M 63 0) v p.toNat (tri M 38) := by
    have e2 : tri M 37 2 = M 63 0 := tri_2.trans b2
    rw [← hT, ← e2]; exact vs_G (v := 37)
  have hTS : Same M MT := by rw [← hT]; exact Same_tri.trans Same_v37
  have hTr : ∀ a, a ≠ 37 → a ≠ 38 → MT a = M a := fun a x y => by rw [← hT, vs_row x (by omega), tri_row x y]
  have hN : EqG (fil (MT 64) (MT 68) 6) (M 64) := by rw [hTr 64 (by decide) (by decide)]; exact EqG.fil
  have cM := c_mspeak (L := L) (d := 1996) (M := nset MT (fil (MT 64) (MT 68) 6) 0) (i := p) (s := v) (f := 1) (by omega) (by omega) (by decide) (by rw [ns_m (by decide), hTr 63 (by decide) (by decide)]; exact a2) (by omega) (by rw [ns_T]; omega) (by rw [ns_G]; exact (a1.le (by omega)).eq hN)
  rw [ns_ns, ns_G, ns_T, ns_m (by decide), hTr 63 (by decide) (by decide)] at cM
  generalize hQ : nset MT (fireG (M 63 0) v 1 p.toNat (fil (MT 64) (MT 68) 6)) (0 + v) = MQ at cM
  have hQG : MQ 68 = fireG (M 63 0) v 1 p.toNat (fil (MT 64) (MT 68) 6) := by rw [← hQ, ns_G]
  have hQS : Same M MQ := by rw [← hQ]; exact hTS.trans Same_ns
  have hEq : EqG (MT 38) (MQ 68) := by rw [hTG, hQG]; exact EqG.speak (by omega) (hE.tr hN.sym)
  have l1 := ans_loop (d := 1996) (L := L) (M := MT) (l1 := some (.inl p)) (l2 := some (.inl v)) 6 0 (by omega)
  have l2 := mans_loop (d := 1999) (L := L) (M := MQ) (l1 := some (.inl p)) (l2 := some (.inl v)) 6 0 (by omega)
  refine ⟨bitsG (MT 38) 6, MT, MQ, ?_, hTr 0 (by decide) (by decide), ?_, Inv_same h hQS (by rw [← hQ, ns_m (by decide), hTr 63 (by decide) (by decide)]; exact h6)⟩
  · unfold den
    rw [show ent 63 [(.inr (.inr (some 1))), .inl p, .inl v] = [some (.inr (.inr (some 1))), some (.inl p), some (.inl v), none, none] from rfl]
    simp (disch := first | omega | (exact Nat.le_of_ble_eq_true rfl) | assumption | rfl) only [e63_0, e63_1, e63_4, e63_7, e63_8, e63_9, e63_10, e63_11, e63_13, e63_16, e63_19, e63_21, e63_22, e63_23, e63_26, e63_29, e63_30, e63_33, e63_36, e63_38, e63_39, e63_40, e63_43, e63_44, e63_47, e63_50, e63_53, e63_54, e63_57, e63_58, e63_59, e63_62, e63_63, e63_64, e63_65, e63_69, e63_71, e63_74, e63_75, e63_78, e63_80, e63_83, e63_86, e63_87, e63_88, e63_90, e63_91, e63_92, e63_93, e63_96, e63_99, e63_100, c_person, c_within, if_pos hp, if_pos hv, gf_1_0, gf_1_4, gf_2_0, cF, Nat.reduceAdd, e, if_pos hf, c_tri, cS, bindS, tL0, tL1, app0, app1, if_true, if_false, eq_self, Int.reduceEq, Int.reduceLT, Int.reduceLE, Int.reduceNeg, Int.reduceToNat]
    exact l1
  · have hf2 : MT 64 p.toNat ≤ 0 := by rw [hTr 64 (by decide) (by decide)]; exact hf
    unfold den
    rw [show ent 113 [(.inr (.inr (some 63))), .inl p, .inl v] = [some (.inr (.inr (some 63))), some (.inl p), some (.inl v), none, none] from rfl]
    simp (disch := first | omega | (exact Nat.le_of_ble_eq_true rfl) | assumption | rfl) only [e113_0, e113_1, e113_4, e113_7, e113_8, e113_9, e113_10, e113_11, e113_13, e113_16, e113_19, e113_21, e113_22, e113_23, e113_26, e113_27, e113_28, e113_31, e113_33, e113_34, e113_35, e113_38, e113_39, e113_40, e113_41, e113_42, e113_45, e113_46, e113_47, e113_48, e113_52, e113_54, e113_57, e113_58, e113_59, e113_62, e113_64, e113_65, e113_68, e113_69, e113_71, e113_72, e113_75, e113_76, e113_77, e113_78, e113_81, e113_84, e113_85, c_mperson, c_in, if_pos hp, if_pos hv, gf_63_3, aget_in (ar_64 (L := L)), if_pos hf2, c_asNow, cM, bindS, tL0, tL1, app0, app1, if_true, if_false, eq_self, Int.reduceEq, Int.reduceLT, Int.reduceLE, Int.reduceNeg, Int.reduceToNat]
    rw [bitsG_eq hEq 6 (by decide)]
    exact l2
