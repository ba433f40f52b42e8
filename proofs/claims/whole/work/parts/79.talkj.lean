/-! whom agrees -/
section
variable {L n : Nat} {K s wh : Int} {M : PM}
/-- the best when p is given s seconds -/
def Vw (M : PM) (n : Nat) (s : Int) (p : Nat) : Int := (foL (M 63 0) (M 65) [] (gvG (M 63 0) (p : Int) s (M 64)) 0 (1000000000, []) (pfL n n [])).1
theorem wm_loop (h : Inv K M) (hK : K ≤ 100000000) (h4 : M 63 4 = (n : Int)) (hn : n ≤ 7) (ht : TKo (M 65) n) (hC : CT M (M 65) n) (hs : 1 ≤ s ∧ s ≤ 99) : ∀ (k p : Nat) (f : Int) (fi : Int) (fd ls : Int) (l6 : Option PV), p + k = 6 → (p = 0 ∧ f = 1000000000 ∧ fd = -6 ∨ (0 ≤ f ∧ f < 1000000000) ∧ 0 ≤ fd ∧ fd = fi ∧ ls = f) →
    ∀ Mi : PM, (∀ a, a < 37 ∨ 61 < a → Mi a = M a) → (∀ q, q < 7 → Mi 41 q = 0) → ∃ (r : Int) (M1 : PM), (∀ a, a < 37 ∨ 61 < a → M1 a = M a) ∧ (∀ q, q < 7 → M1 41 q = 0) ∧
      ev 1999 68 31 [some (.inr (.inr (some 1))), some (.inl s), some (.inl wh), some (.inl f), some (.inl fi), some (.inl (p : Int)), l6] [] (SH L) Mi = some (some (.inl r), SH L, M1)
      ∧ ∀ MQ : PM, FQs M MQ ∨ (∃ M0, (∀ a, a < 37 ∨ 61 < a → M0 a = M a) ∧ FQs M0 MQ) → ∃ M2 : PM, FQs MQ M2 ∧ ev 1999 123 32 [some (.inr (.inr (some 63))), some (.inl s), some (.inl wh), some (.inl fd), some (.inl ls), some (.inl (p : Int))] [] (SH L) MQ = some (some (.inl r), SH L, M2) := by
  have o1 := io_1 (L := L)
  have o3 := io_3 (L := L)
  have o5 := io_5 (L := L)
  have o37 := io_37 (L := L)
  have o39 := io_39 (L := L)
  have o63 := io_63 (L := L)
  have hb := h.1.1.2.1
  have hT := tri_t h
  have hK0 : 0 ≤ K := by omega
  intro k
  induction k with
  | zero =>
    intro p f fi fd ls l6 hp hrel Mi hMi h41
    have hp : p = 6 := by omega
    subst hp
    have hrel : (0 ≤ f ∧ f < 1000000000) ∧ 0 ≤ fd ∧ fd = fi ∧ ls = f := by
      rcases hrel with ⟨z, -⟩ | z
      · exact absurd z (by decide)
      · exact z
    obtain ⟨-, -, rfl, rfl⟩ := hrel
    have hle : (6 : Int) ≤ ((6 : Nat) : Int) := by decide
    refine ⟨if wh = 0 then fd else ls, Mi, hMi, h41, ?_, fun MQ _ => ⟨MQ, FQs.rf, ?_⟩⟩
    · rw [e68_31]
      by_cases hw : wh = 0
      · simp (disch := first | omega | (exact Nat.le_of_ble_eq_true rfl) | assumption | rfl) only [e68_0, e68_1, e68_2, e68_4, e68_7, e68_10, e68_11, e68_12, e68_13, e68_16, e68_19, e68_21, e68_22, e68_24, e68_25, e68_26, e68_28, e68_29, e68_33, e68_35, e68_38, e68_39, e68_42, e68_43, e68_46, e68_49, e68_52, e68_53, e68_56, e68_58, e68_59, e68_62, e68_63, e68_64, e68_67, e68_68, e68_71, e68_74, e68_75, e68_78, e68_79, e68_82, e68_84, e68_86, e68_87, e68_90, e68_92, e68_93, e68_95, e68_97, e68_100, e68_103, e68_104, e68_107, e68_109, e68_112, e68_113, hle, hw, ↓reduceIte, true_and, and_true, false_and, and_false, bindS, tL0, tL1, app0, app1, eq_self, Int.reduceEq, Int.reduceLT, Int.reduceLE, Int.reduceNeg, Int.reduceToNat]
      · simp (disch := first | omega | (exact Nat.le_of_ble_eq_true rfl) | assumption | rfl) only [e68_0, e68_1, e68_2, e68_4, e68_7, e68_10, e68_11, e68_12, e68_13, e68_16, e68_19, e68_21, e68_22, e68_24, e68_25, e68_26, e68_28, e68_29, e68_33, e68_35, e68_38, e68_39, e68_42, e68_43, e68_46, e68_49, e68_52, e68_53, e68_56, e68_58, e68_59, e68_62, e68_63, e68_64, e68_67, e68_68, e68_71, e68_74, e68_75, e68_78, e68_79, e68_82, e68_84, e68_86, e68_87, e68_90, e68_92, e68_93, e68_95, e68_97, e68_100, e68_103, e68_104, e68_107, e68_109, e68_112, e68_113, hle, hw, ↓reduceIte, true_and, and_true, false_and, and_false, bindS, tL0, tL1, app0, app1, eq_self, Int.reduceEq, Int.reduceLT, Int.reduceLE, Int.reduceNeg, Int.reduceToNat]
    · rw [e123_32]
      by_cases hw : wh = 0
      · simp (disch := first | omega | (exact Nat.le_of_ble_eq_true rfl) | assumption | rfl) only [e123_0, e123_1, e123_2, e123_4, e123_7, e123_10, e123_11, e123_12, e123_13, e123_16, e123_19, e123_21, e123_22, e123_24, e123_25, e123_27, e123_29, e123_30, e123_34, e123_36, e123_39, e123_40, e123_42, e123_43, e123_46, e123_47, e123_50, e123_51, e123_54, e123_56, e123_59, e123_61, e123_62, e123_63, e123_66, e123_68, e123_71, e123_74, e123_75, e123_78, e123_79, e123_82, e123_84, hle, hw, ↓reduceIte, true_and, and_true, false_and, and_false, bindS, tL0, tL1, app0, app1, eq_self, Int.reduceEq, Int.reduceLT, Int.reduceLE, Int.reduceNeg, Int.reduceToNat]
      · simp (disch := first | omega | (exact Nat.le_of_ble_eq_true rfl) | assumption | rfl) only [e123_0, e123_1, e123_2, e123_4, e123_7, e123_10, e123_11, e123_12, e123_13, e123_16, e123_19, e123_21, e123_22, e123_24, e123_25, e123_27, e123_29, e123_30, e123_34, e123_36, e123_39, e123_40, e123_42, e123_43, e123_46, e123_47, e123_50, e123_51, e123_54, e123_56, e123_59, e123_61, e123_62, e123_63, e123_66, e123_68, e123_71, e123_74, e123_75, e123_78, e123_79, e123_82, e123_84, hle, hw, ↓reduceIte, true_and, and_true, false_and, and_false, bindS, tL0, tL1, app0, app1, eq_self, Int.reduceEq, Int.reduceLT, Int.reduceLE, Int.reduceNeg, Int.reduceToNat]
  | succ k ih =>
    intro p f fi fd ls l6 hp hrel Mi hMi h41
    have hle : ¬ (6 : Int) ≤ (p : Int) := by omega
    have wp := wr1 p (by omega)
    have hIi : Inv K Mi := Inv_se h hMi h41
    have hTi := tri_t hIi
    have cT := c_trial (d := 1997) (L := L) (M := Mi)
    have e64 := hMi 64 (by omega)
    have e63 := hMi 63 (by omega)
    have e65 := hMi 65 (by omega)
    have hE : EqG (tri Mi 38) (M 64) := by rw [← e64]; exact (tri_E hIi).tr EqG.fil
    have hbt : BG (tri Mi 38) K := (tri_B hIi).eq (tri_E hIi)
    have tb2 : tri Mi 37 2 = M 63 0 := by rw [tri_b hIi, e63]
    have cR := c_receive (M := tri Mi) (d := 1996) (vl_37 (L := L)) (i := (p : Int)) (x := s) (by omega) (by omega) (by rw [tb2]; exact hb) (by omega) (hbt.le (by omega))
    rw [tb2, tnN, tri_1] at cR
    rw [show (37 + 1) = 38 from rfl] at cR
    generalize hX : vset (tri Mi) 37 (addG p (-takeG (M 63 0) s (tri Mi 38 p)) (tri Mi 38)) (Mi 3 1) = X at cR
    have xr : ∀ a, a < 37 ∨ 61 < a → X a = M a := fun a ha => by rw [← hX, tri_m (by omega) (by omega)]; exact hMi a ha
    have x41 : ∀ q, q < 7 → X 41 q = 0 := fun q hq => by rw [← hX, tri_m (by decide) (by decide)]; exact h41 q hq
    have xg : X 38 = addG p (-takeG (M 63 0) s (tri Mi 38 p)) (tri Mi 38) := by rw [← hX]; exact vs_G (v := 37)
    have x1 : X 37 1 = Mi 3 1 := by rw [← hX]; exact vs_T (v := 37)
    have x2 : X 37 2 = M 63 0 := by rw [← hX, vs_2]; exact tb2
    have hEX : EqG (X 38) (gvG (M 63 0) (p : Int) s (M 64)) := by
      rw [xg]
      intro q hq
      unfold gvG
      rw [if_pos (by omega), tnN]
      have hpq := hE p (by omega)
      unfold addG
      by_cases hqp : q = p
      · subst hqp
        rw [if_pos rfl, up_s, lessI_take, hpq]
        omega
      · rw [if_neg hqp, up_i hqp]
        exact hE q hq
    have hbg : BG (gvG (M 63 0) (p : Int) s (M 64)) K := gv_b hb (by omega) (by omega) hK0 h.1.1.1
    have hCX : CT X (M 65) n := by
      unfold CT
      rw [xr 5 (by omega), xr 6 (by omega), xr 7 (by omega), xr 8 (by omega)]
      exact hC
    obtain ⟨M1, f1, f2, f3, -⟩ := c_fewest (L := L) (d := 1978) (v0 := 37) (M := X) (G := gvG (M 63 0) (p : Int) s (M 64)) (B := K) (b := M 63 0) (lim := f) ht hn hb vl_37 (by decide) hCX x41 hEX ⟨hK0, hbg, hK⟩ x2 (by rw [x1]; omega)
    have bst := best (b := M 63 0) (B := K) hb hn ht ⟨hK0, hK⟩ hbg
    have hmin := fo_min (b := M 63 0) (tk := M 65) (pre := []) (G := gvG (M 63 0) (p : Int) s (M 64)) (T := 0) (pfL n n []) (f, []) (1000000000, []) f (by dsimp only; rcases hrel with ⟨-, z, -⟩ | ⟨z, -⟩ <;> split <;> omega)
    have hV : (foL (M 63 0) (M 65) [] (gvG (M 63 0) (p : Int) s (M 64)) 0 (1000000000, []) (pfL n n [])).1 = Vw M n s p := rfl
    rw [hV] at hmin bst
    rw [hmin] at f1
    have m1r : ∀ a, a < 37 ∨ 61 < a → M1 a = M a := fun a ha => by rw [f2 a (by omega)]; exact xr a ha
    -- the reference's step
    have lay : ∀ MQ : PM, (FQs M MQ ∨ ∃ M0, (∀ a, a < 37 ∨ 61 < a → M0 a = M a) ∧ FQs M0 MQ) → ∃ M2, den 1998 120 [(.inr (.inr (some 63))), .inl (p : Int), .inl s] (SH L) MQ = some (none, SH L, M2) ∧ FQs MQ M2 ∧ M2 63 17 = Vw M n s p := by
      intro MQ hQ
      have k : MQ 63 4 = M 63 4 ∧ MQ 65 = M 65 ∧ MQ 64 = M 64 ∧ MQ 63 0 = M 63 0 := by
        rcases hQ with hQ | ⟨M0, hM0, hQ⟩
        · exact ⟨hQ.2 4 (by decide) (by decide), hQ.1 65 (by decide) (by decide) (by decide) (by decide), hQ.1 64 (by decide) (by decide) (by decide) (by decide), hQ.2 0 (by decide) (by decide)⟩
        · exact ⟨by rw [hQ.2 4 (by decide) (by decide), hM0 63 (by omega)], by rw [hQ.1 65 (by decide) (by decide) (by decide) (by decide), hM0 65 (by omega)], by rw [hQ.1 64 (by decide) (by decide) (by decide) (by decide), hM0 64 (by omega)], by rw [hQ.2 0 (by decide) (by decide), hM0 63 (by omega)]⟩
      obtain ⟨k4, k65, k64, k0⟩ := k
      obtain ⟨M2, l1, l2, l3⟩ := c_lay (L := L) (d := 1995) (b := M 63 0) (tk := M 65) (gl := M 64) (given := (p : Int)) (sv := s) (B := K) (M := MQ) hn ht hb (by omega) (by omega) ⟨hK0, hK⟩ h.1.1.1 (by rw [k4]; exact h4) k65 k64 k0
      refine ⟨M2, l1, l2, ?_⟩
      rcases l3.1 with ⟨z, -⟩ | ⟨-, z⟩
      · rw [hV] at z; omega
      · rw [hV] at z; exact z
    have hQ2 : ∀ MQ M2 : PM, (FQs M MQ ∨ ∃ M0, (∀ a, a < 37 ∨ 61 < a → M0 a = M a) ∧ FQs M0 MQ) → FQs MQ M2 → (FQs M M2 ∨ ∃ M0, (∀ a, a < 37 ∨ 61 < a → M0 a = M a) ∧ FQs M0 M2) := by
      intro MQ M2 hQ h2
      rcases hQ with hQ | ⟨M0, hM0, hQ⟩
      · exact Or.inl (hQ.tr h2)
      · exact Or.inr ⟨M0, hM0, hQ.tr h2⟩
    generalize Vw M n s p = V at *
    obtain ⟨⟨v0, v1⟩, -⟩ := bst
    by_cases hVf : V < f
    · rw [if_pos hVf] at f1
      have hVf2 : ¬ f ≤ V := by omega
      obtain ⟨r, M3, a1, a2, a3, a4⟩ := ih (p + 1) V (p : Int) (p : Int) V (some (.inl V)) (by omega) (Or.inr ⟨⟨v0, v1⟩, by omega, rfl, rfl⟩) M1 m1r f3
      refine ⟨r, M3, a1, a2, ?_, fun MQ hQ => ?_⟩
      · rw [e68_31]
        simp (disch := first | omega | (exact Nat.le_of_ble_eq_true rfl) | assumption | rfl) only [e68_0, e68_1, e68_2, e68_4, e68_7, e68_10, e68_11, e68_12, e68_13, e68_16, e68_19, e68_21, e68_22, e68_24, e68_25, e68_26, e68_28, e68_29, e68_33, e68_35, e68_38, e68_39, e68_42, e68_43, e68_46, e68_49, e68_52, e68_53, e68_56, e68_58, e68_59, e68_62, e68_63, e68_64, e68_67, e68_68, e68_71, e68_74, e68_75, e68_78, e68_79, e68_82, e68_84, e68_86, e68_87, e68_90, e68_92, e68_93, e68_95, e68_97, e68_100, e68_103, e68_104, e68_107, e68_109, e68_112, e68_113, hle, gf_1_0, gf_1_4, gf_1_5, gf_2_0, gf_2_1, cT, cR, f1, hVf2, wp, Nat.reduceAdd, ↓reduceIte, true_and, and_true, false_and, and_false, bindS, tL0, tL1, app0, app1, eq_self, Int.reduceEq, Int.reduceLT, Int.reduceLE, Int.reduceNeg, Int.reduceToNat]
        exact a3
      · obtain ⟨M2, l1, l2, l3⟩ := lay MQ hQ
        obtain ⟨M4, b1, b2⟩ := a4 M2 (hQ2 MQ M2 hQ l2)
        refine ⟨M4, l2.tr b1, ?_⟩
        rw [e123_32]
        rcases hrel with ⟨-, -, z⟩ | ⟨-, z1, -, z2⟩
        · simp (disch := first | omega | (exact Nat.le_of_ble_eq_true rfl) | assumption | rfl) only [e123_0, e123_1, e123_2, e123_4, e123_7, e123_10, e123_11, e123_12, e123_13, e123_16, e123_19, e123_21, e123_22, e123_24, e123_25, e123_27, e123_29, e123_30, e123_34, e123_36, e123_39, e123_40, e123_42, e123_43, e123_46, e123_47, e123_50, e123_51, e123_54, e123_56, e123_59, e123_61, e123_62, e123_63, e123_66, e123_68, e123_71, e123_74, e123_75, e123_78, e123_79, e123_82, e123_84, hle, l1, z, gf_63_17, l3, wp, ↓reduceIte, true_and, and_true, false_and, and_false, bindS, tL0, tL1, app0, app1, eq_self, Int.reduceEq, Int.reduceLT, Int.reduceLE, Int.reduceNeg, Int.reduceToNat]
          exact b2
        · have z3 : ¬ fd < 0 := by omega
          have z4 : ¬ ls ≤ V := by omega
          simp (disch := first | omega | (exact Nat.le_of_ble_eq_true rfl) | assumption | rfl) only [e123_0, e123_1, e123_2, e123_4, e123_7, e123_10, e123_11, e123_12, e123_13, e123_16, e123_19, e123_21, e123_22, e123_24, e123_25, e123_27, e123_29, e123_30, e123_34, e123_36, e123_39, e123_40, e123_42, e123_43, e123_46, e123_47, e123_50, e123_51, e123_54, e123_56, e123_59, e123_61, e123_62, e123_63, e123_66, e123_68, e123_71, e123_74, e123_75, e123_78, e123_79, e123_82, e123_84, hle, l1, z3, z4, gf_63_17, l3, wp, ↓reduceIte, true_and, and_true, false_and, and_false, bindS, tL0, tL1, app0, app1, eq_self, Int.reduceEq, Int.reduceLT, Int.reduceLE, Int.reduceNeg, Int.reduceToNat]
          exact b2
    · rw [if_neg hVf] at f1
      have hle2 : f ≤ f := Int.le_refl _
      have hrel2 : (0 ≤ f ∧ f < 1000000000) ∧ 0 ≤ fd ∧ fd = fi ∧ ls = f := by
        rcases hrel with ⟨-, z, -⟩ | z
        · omega
        · exact z
      obtain ⟨r, M3, a1, a2, a3, a4⟩ := ih (p + 1) f fi fd ls (some (.inl f)) (by omega) (Or.inr hrel2) M1 m1r f3
      refine ⟨r, M3, a1, a2, ?_, fun MQ hQ => ?_⟩
      · rw [e68_31]
        simp (disch := first | omega | (exact Nat.le_of_ble_eq_true rfl) | assumption | rfl) only [e68_0, e68_1, e68_2, e68_4, e68_7, e68_10, e68_11, e68_12, e68_13, e68_16, e68_19, e68_21, e68_22, e68_24, e68_25, e68_26, e68_28, e68_29, e68_33, e68_35, e68_38, e68_39, e68_42, e68_43, e68_46, e68_49, e68_52, e68_53, e68_56, e68_58, e68_59, e68_62, e68_63, e68_64, e68_67, e68_68, e68_71, e68_74, e68_75, e68_78, e68_79, e68_82, e68_84, e68_86, e68_87, e68_90, e68_92, e68_93, e68_95, e68_97, e68_100, e68_103, e68_104, e68_107, e68_109, e68_112, e68_113, hle, gf_1_0, gf_1_4, gf_1_5, gf_2_0, gf_2_1, cT, cR, f1, hle2, wp, Nat.reduceAdd, ↓reduceIte, true_and, and_true, false_and, and_false, bindS, tL0, tL1, app0, app1, eq_self, Int.reduceEq, Int.reduceLT, Int.reduceLE, Int.reduceNeg, Int.reduceToNat]
        exact a3
      · obtain ⟨M2, l1, l2, l3⟩ := lay MQ hQ
        obtain ⟨M4, b1, b2⟩ := a4 M2 (hQ2 MQ M2 hQ l2)
        refine ⟨M4, l2.tr b1, ?_⟩
        have z3 : ¬ fd < 0 := by omega
        have z4 : ls ≤ V := by omega
        rw [e123_32]
        simp (disch := first | omega | (exact Nat.le_of_ble_eq_true rfl) | assumption | rfl) only [e123_0, e123_1, e123_2, e123_4, e123_7, e123_10, e123_11, e123_12, e123_13, e123_16, e123_19, e123_21, e123_22, e123_24, e123_25, e123_27, e123_29, e123_30, e123_34, e123_36, e123_39, e123_40, e123_42, e123_43, e123_46, e123_47, e123_50, e123_51, e123_54, e123_56, e123_59, e123_61, e123_62, e123_63, e123_66, e123_68, e123_71, e123_74, e123_75, e123_78, e123_79, e123_82, e123_84, hle, l1, z3, z4, gf_63_17, l3, wp, ↓reduceIte, true_and, and_true, false_and, and_false, bindS, tL0, tL1, app0, app1, eq_self, Int.reduceEq, Int.reduceLT, Int.reduceLE, Int.reduceNeg, Int.reduceToNat]
        exact b2
end
theorem op_whom {L : Nat} {K : Int} {M : PM} (h : Inv K M) (hK : K ≤ 100000000) (s w : Int) : ∃ r M1 M2, den 1999 68 [(.inr (.inr (some 1))), .inl s, .inl w] (SH L) M = some (some (.inl r), SH L, M1) ∧ M1 0 = M 0 ∧ den 1999 123 [(.inr (.inr (some 63))), .inl s, .inl w] (SH L) M1 = some (some (.inl r), SH L, M2) ∧ Inv K M2 := by
  obtain ⟨n, h4, hn, ht, hC⟩ := talk_of h
  have u : ∀ {y}, den 1999 68 [(.inr (.inr (some 1))), .inl s, .inl w] (SH L) M = y ↔ ev 1999 68 0 [some (.inr (.inr (some 1))), some (.inl s), some (.inl w), none, none, none, none] [] (SH L) M = y := by
    intro y
    unfold den
    rw [show ent 68 [(.inr (.inr (some 1))), .inl s, .inl w] = [some (.inr (.inr (some 1))), some (.inl s), some (.inl w), none, none, none, none] from rfl]
  have u2 : ∀ {y} {M : PM}, den 1999 123 [(.inr (.inr (some 63))), .inl s, .inl w] (SH L) M = y ↔ ev 1999 123 0 [some (.inr (.inr (some 63))), some (.inl s), some (.inl w), none, none, none] [] (SH L) M = y := by
    intro y M
    unfold den
    rw [show ent 123 [(.inr (.inr (some 63))), .inl s, .inl w] = [some (.inr (.inr (some 63))), some (.inl s), some (.inl w), none, none, none] from rfl]
  by_cases hs : 1 ≤ s ∧ s ≤ 99
  rotate_left
  · exact ⟨-2, M, M, u.mpr (by simp (disch := first | omega | (exact Nat.le_of_ble_eq_true rfl) | assumption | rfl) only [e68_0, e68_1, e68_2, e68_4, e68_7, e68_10, e68_11, e68_12, e68_13, e68_16, e68_19, e68_21, e68_22, e68_24, e68_25, e68_26, e68_28, e68_29, e68_33, e68_35, e68_38, e68_39, e68_42, e68_43, e68_46, e68_49, e68_52, e68_53, e68_56, e68_58, e68_59, e68_62, e68_63, e68_64, e68_67, e68_68, e68_71, e68_74, e68_75, e68_78, e68_79, e68_82, e68_84, e68_86, e68_87, e68_90, e68_92, e68_93, e68_95, e68_97, e68_100, e68_103, e68_104, e68_107, e68_109, e68_112, e68_113, c_within, hs, ↓reduceIte, true_and, and_true, false_and, and_false, bindS, tL0, tL1, app0, app1, eq_self, Int.reduceEq, Int.reduceLT, Int.reduceLE, Int.reduceNeg, Int.reduceToNat]), rfl, u2.mpr (by simp (disch := first | omega | (exact Nat.le_of_ble_eq_true rfl) | assumption | rfl) only [e123_0, e123_1, e123_2, e123_4, e123_7, e123_10, e123_11, e123_12, e123_13, e123_16, e123_19, e123_21, e123_22, e123_24, e123_25, e123_27, e123_29, e123_30, e123_34, e123_36, e123_39, e123_40, e123_42, e123_43, e123_46, e123_47, e123_50, e123_51, e123_54, e123_56, e123_59, e123_61, e123_62, e123_63, e123_66, e123_68, e123_71, e123_74, e123_75, e123_78, e123_79, e123_82, e123_84, c_in, hs, ↓reduceIte, true_and, and_true, false_and, and_false, bindS, tL0, tL1, app0, app1, eq_self, Int.reduceEq, Int.reduceLT, Int.reduceLE, Int.reduceNeg, Int.reduceToNat]), h⟩
  by_cases hw : 0 ≤ w ∧ w ≤ 1
  rotate_left
  · exact ⟨-2, M, M, u.mpr (by simp (disch := first | omega | (exact Nat.le_of_ble_eq_true rfl) | assumption | rfl) only [e68_0, e68_1, e68_2, e68_4, e68_7, e68_10, e68_11, e68_12, e68_13, e68_16, e68_19, e68_21, e68_22, e68_24, e68_25, e68_26, e68_28, e68_29, e68_33, e68_35, e68_38, e68_39, e68_42, e68_43, e68_46, e68_49, e68_52, e68_53, e68_56, e68_58, e68_59, e68_62, e68_63, e68_64, e68_67, e68_68, e68_71, e68_74, e68_75, e68_78, e68_79, e68_82, e68_84, e68_86, e68_87, e68_90, e68_92, e68_93, e68_95, e68_97, e68_100, e68_103, e68_104, e68_107, e68_109, e68_112, e68_113, c_within, hs, hw, ↓reduceIte, true_and, and_true, false_and, and_false, bindS, tL0, tL1, app0, app1, eq_self, Int.reduceEq, Int.reduceLT, Int.reduceLE, Int.reduceNeg, Int.reduceToNat]), rfl, u2.mpr (by simp (disch := first | omega | (exact Nat.le_of_ble_eq_true rfl) | assumption | rfl) only [e123_0, e123_1, e123_2, e123_4, e123_7, e123_10, e123_11, e123_12, e123_13, e123_16, e123_19, e123_21, e123_22, e123_24, e123_25, e123_27, e123_29, e123_30, e123_34, e123_36, e123_39, e123_40, e123_42, e123_43, e123_46, e123_47, e123_50, e123_51, e123_54, e123_56, e123_59, e123_61, e123_62, e123_63, e123_66, e123_68, e123_71, e123_74, e123_75, e123_78, e123_79, e123_82, e123_84, c_in, hs, hw, ↓reduceIte, true_and, and_true, false_and, and_false, bindS, tL0, tL1, app0, app1, eq_self, Int.reduceEq, Int.reduceLT, Int.reduceLE, Int.reduceNeg, Int.reduceToNat]), h⟩
  obtain ⟨r, M1, a1, a2, a3, a4⟩ := wm_loop (L := L) (wh := w) h hK h4 hn ht hC hs 6 0 1000000000 0 (-6) (-6) none (by omega) (Or.inl ⟨rfl, rfl, rfl⟩) M (fun _ _ => rfl) h.2.2.2.2.1
  obtain ⟨M2, b1, b2⟩ := a4 M1 (Or.inr ⟨M1, a1, FQs.rf⟩)
  refine ⟨r, M1, M2, u.mpr ?_, a1 0 (by omega), u2.mpr ?_, Inv_fq (Inv_se h a1 a2) b1⟩
  · simp (disch := first | omega | (exact Nat.le_of_ble_eq_true rfl) | assumption | rfl) only [e68_0, e68_1, e68_2, e68_4, e68_7, e68_10, e68_11, e68_12, e68_13, e68_16, e68_19, e68_21, e68_22, e68_24, e68_25, e68_26, e68_28, e68_29, e68_33, e68_35, e68_38, e68_39, e68_42, e68_43, e68_46, e68_49, e68_52, e68_53, e68_56, e68_58, e68_59, e68_62, e68_63, e68_64, e68_67, e68_68, e68_71, e68_74, e68_75, e68_78, e68_79, e68_82, e68_84, e68_86, e68_87, e68_90, e68_92, e68_93, e68_95, e68_97, e68_100, e68_103, e68_104, e68_107, e68_109, e68_112, e68_113, c_within, hs, hw, ↓reduceIte, true_and, and_true, false_and, and_false, bindS, tL0, tL1, app0, app1, eq_self, Int.reduceEq, Int.reduceLT, Int.reduceLE, Int.reduceNeg, Int.reduceToNat]
    exact a3
  · simp (disch := first | omega | (exact Nat.le_of_ble_eq_true rfl) | assumption | rfl) only [e123_0, e123_1, e123_2, e123_4, e123_7, e123_10, e123_11, e123_12, e123_13, e123_16, e123_19, e123_21, e123_22, e123_24, e123_25, e123_27, e123_29, e123_30, e123_34, e123_36, e123_39, e123_40, e123_42, e123_43, e123_46, e123_47, e123_50, e123_51, e123_54, e123_56, e123_59, e123_61, e123_62, e123_63, e123_66, e123_68, e123_71, e123_74, e123_75, e123_78, e123_79, e123_82, e123_84, c_in, hs, hw, ↓reduceIte, true_and, and_true, false_and, and_false, bindS, tL0, tL1, app0, app1, eq_self, Int.reduceEq, Int.reduceLT, Int.reduceLE, Int.reduceNeg, Int.reduceToNat]
    exact b2
