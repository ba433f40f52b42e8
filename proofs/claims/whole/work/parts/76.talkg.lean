/-! the reference lays a talk: an order's check, its seconds -/
def bitv (z q : Int) : Int := (Int32.ofInt ((Int32.ofInt z >>> (Int32.ofInt q &&& 31)).toInt) &&& Int32.ofInt 1).toInt
def orv (z q : Int) : Int := (Int32.ofInt z ||| Int32.ofInt ((Int32.ofInt 1 <<< (Int32.ofInt q &&& 31)).toInt)).toInt
theorem bits_all : ∀ z : Fin 128, ∀ q : Fin 7, 0 ≤ orv (z.val : Int) (q.val : Int) ∧ orv (z.val : Int) (q.val : Int) < 128 ∧ ∀ q' : Fin 7, bitv (orv (z.val : Int) (q.val : Int)) (q'.val : Int) = if q'.val = q.val then 1 else bitv (z.val : Int) (q'.val : Int) := by decide +kernel
theorem bits_0 : ∀ q : Fin 7, bitv 0 (q.val : Int) = 0 := by decide +kernel
theorem gtL_mid {i : Nat} {s t : List Nat} : ∀ {l : List Nat}, gtL (l ++ i :: s ++ t) l.length = i
  | [] => rfl
  | _ :: l => gtL_mid (l := l)
section
variable {L n d : Nat} {M : PM} {tk : Nat → Int} {r : List Nat}
theorem ex_row (hR : RWs M (exL n r)) {pre s : List Nat} {i : Nat} (he : pre ++ i :: s = r) (hl : pre.length < 7) : M 69 pre.length = (i : Int) := by
  rw [hR.2 _ hl]
  unfold exL
  rw [← he, gtL_mid]
theorem ko_loop (hn : n ≤ 7) (h4 : M 63 4 = (n : Int)) (h65 : M 65 = tk) (ht : TKo tk n) (hR : RWs M (exL n r)) (hlen : r.length = n) (hsm : ∀ x ∈ r, x < n) : ∀ (s pre : List Nat) (z : Nat) (kp : Bool) (l4 : Option PV), pre ++ s = r → z < 128 → (∀ q : Nat, q < 7 → bitv (z : Int) (q : Int) = if meL q pre = true then 1 else 0) →
    ev d 119 6 [some (.inr (.inr (some 63))), some (.inl (if kp = true then 1 else 0)), some (.inl (z : Int)), some (.inl (pre.length : Int)), l4] [] (SH L) M = some (some (.inl (if (kp && vlL tk pre s) = true then 1 else 0)), SH L, M) := by
  intro s
  induction s with
  | nil =>
    intro pre z kp l4 he hz hb
    have hpl : pre.length = n := by rw [← hlen, ← he, List.append_nil]
    have hle : (n : Int) ≤ (pre.length : Int) := by omega
    have hv : vlL tk pre [] = true := rfl
    rw [hv, Bool.and_true, e119_6]
    cases kp
    · simp (disch := first | omega | (exact Nat.le_of_ble_eq_true rfl) | assumption | rfl) only [e119_0, e119_1, e119_2, e119_3, e119_4, e119_5, e119_7, e119_8, e119_11, e119_14, e119_15, e119_18, e119_19, e119_20, e119_23, e119_24, e119_25, e119_26, e119_27, e119_28, e119_29, e119_31, e119_32, e119_35, e119_37, e119_40, e119_41, e119_43, e119_44, e119_45, e119_46, e119_47, e119_50, e119_51, e119_54, e119_55, e119_56, e119_57, e119_58, e119_59, e119_62, e119_63, e119_64, e119_65, e119_66, e119_67, e119_70, e119_73, e119_74z, e119_74o, e119_74, gf_63_4, h4, hle, ↓reduceIte, true_and, and_true, false_and, and_false, bindS, tL0, tL1, app0, app1, eq_self, Int.reduceEq, Int.reduceLT, Int.reduceLE, Int.reduceNeg, Int.reduceToNat, Bool.false_eq_true]
    · simp (disch := first | omega | (exact Nat.le_of_ble_eq_true rfl) | assumption | rfl) only [e119_0, e119_1, e119_2, e119_3, e119_4, e119_5, e119_7, e119_8, e119_11, e119_14, e119_15, e119_18, e119_19, e119_20, e119_23, e119_24, e119_25, e119_26, e119_27, e119_28, e119_29, e119_31, e119_32, e119_35, e119_37, e119_40, e119_41, e119_43, e119_44, e119_45, e119_46, e119_47, e119_50, e119_51, e119_54, e119_55, e119_56, e119_57, e119_58, e119_59, e119_62, e119_63, e119_64, e119_65, e119_66, e119_67, e119_70, e119_73, e119_74z, e119_74o, e119_74, gf_63_4, h4, hle, ↓reduceIte, true_and, and_true, false_and, and_false, bindS, tL0, tL1, app0, app1, eq_self, Int.reduceEq, Int.reduceLT, Int.reduceLE, Int.reduceNeg, Int.reduceToNat]
  | cons i s ih =>
    intro pre z kp l4 he hz hb
    have hpl : pre.length + (s.length + 1) = n := by rw [← hlen, ← he]; simp
    have hin : i < n := hsm i (by rw [← he]; simp)
    have hle : ¬ (n : Int) ≤ (pre.length : Int) := by omega
    have hti := (ht i hin).2.2
    have wk := wr1 pre.length (by omega)
    have g69 := aget_in (M := M) (ar_69 (L := L)) (i := (pre.length : Int)) (by omega) (by omega)
    rw [tnN, ex_row hR he (by omega)] at g69
    have w3 : wr (3 * (i : Int)) = ((3 * i : Nat) : Int) := by rw [wr_id (by omega) (by omega)]; omega
    have w4 : wr (((3 * i : Nat) : Int) + 2) = ((3 * i + 2 : Nat) : Int) := by rw [wr_id (by omega) (by omega)]; omega
    have g65 := aget_in (M := M) (ar_65 (L := L)) (i := ((3 * i + 2 : Nat) : Int)) (by omega) (by omega)
    rw [tnN, h65, show tk (3 * i + 2) = ahT tk i from rfl] at g65
    obtain ⟨z1', z2', z3⟩ := bits_all ⟨z, hz⟩ ⟨i, by omega⟩
    have z1 : 0 ≤ orv (z : Int) (i : Int) := z1'
    have z2 : orv (z : Int) (i : Int) < 128 := z2'
    have hz' : (((orv (z : Int) (i : Int)).toNat : Nat) : Int) = orv (z : Int) (i : Int) := by omega
    have hb' : ∀ q : Nat, q < 7 → bitv (((orv (z : Int) (i : Int)).toNat : Nat) : Int) (q : Int) = if meL q (pre ++ [i]) = true then 1 else 0 := by
      intro q hq
      rw [hz', show bitv (orv (z : Int) (i : Int)) (q : Int) = if q = i then 1 else bitv (z : Int) (q : Int) from z3 ⟨q, hq⟩]
      show (if q = i then 1 else bitv (z : Int) (q : Int)) = _
      by_cases hqi : q = i
      · subst hqi
        rw [if_pos rfl, if_pos (meL_iff.mpr (by simp))]
      · rw [if_neg hqi, hb q hq]
        by_cases h2 : meL q pre = true
        · rw [if_pos h2, if_pos (meL_iff.mpr (by simp [meL_iff.mp h2]))]
        · rw [if_neg h2, if_neg (fun w => h2 (meL_iff.mpr (by have := meL_iff.mp w; simp at this; rcases this with w | w; exact w; exact absurd w hqi)))]
    have hlen1 : (pre ++ [i]).length = pre.length + 1 := by simp
    have h := ih (pre ++ [i]) (orv (z : Int) (i : Int)).toNat (kp && okY tk pre i) (some (.inl (ahT tk i))) (by rw [List.append_assoc]; exact he) (by omega) hb'
    rw [hz', hlen1] at h
    have ev1 : vlL tk pre (i :: s) = (okY tk pre i && vlL tk (pre ++ [i]) s) := rfl
    rw [ev1, ← Bool.and_assoc]
    have zo : (Int32.ofInt (z : Int) ||| Int32.ofInt ((Int32.ofInt 1 <<< (Int32.ofInt (i : Int) &&& 31)).toInt)).toInt = orv (z : Int) (i : Int) := rfl
    rw [e119_6]
    cases kp
    · simp only [Bool.false_and, Bool.false_eq_true, if_false] at h ⊢
      simp (disch := first | omega | (exact Nat.le_of_ble_eq_true rfl) | assumption | rfl) only [e119_0, e119_1, e119_2, e119_3, e119_4, e119_5, e119_7, e119_8, e119_11, e119_14, e119_15, e119_18, e119_19, e119_20, e119_23, e119_24, e119_25, e119_26, e119_27, e119_28, e119_29, e119_31, e119_32, e119_35, e119_37, e119_40, e119_41, e119_43, e119_44, e119_45, e119_46, e119_47, e119_50, e119_51, e119_54, e119_55, e119_56, e119_57, e119_58, e119_59, e119_62, e119_63, e119_64, e119_65, e119_66, e119_67, e119_70, e119_73, e119_74z, e119_74o, e119_74, gf_63_4, gf_63_5, gf_63_15, h4, hle, g69, g65, w3, w4, wk, zo, ↓reduceIte, true_and, and_true, false_and, and_false, bindS, tL0, tL1, app0, app1, eq_self, Int.reduceEq, Int.reduceLT, Int.reduceLE, Int.reduceNeg, Int.reduceToNat]
      exact h
    · simp only [Bool.true_and] at h ⊢
      by_cases hn0 : ahT tk i < 0
      · have e : okY tk pre i = true := by unfold okY; rw [decide_eq_true hn0]; rfl
        rw [e] at h ⊢
        simp (disch := first | omega | (exact Nat.le_of_ble_eq_true rfl) | assumption | rfl) only [e119_0, e119_1, e119_2, e119_3, e119_4, e119_5, e119_7, e119_8, e119_11, e119_14, e119_15, e119_18, e119_19, e119_20, e119_23, e119_24, e119_25, e119_26, e119_27, e119_28, e119_29, e119_31, e119_32, e119_35, e119_37, e119_40, e119_41, e119_43, e119_44, e119_45, e119_46, e119_47, e119_50, e119_51, e119_54, e119_55, e119_56, e119_57, e119_58, e119_59, e119_62, e119_63, e119_64, e119_65, e119_66, e119_67, e119_70, e119_73, e119_74z, e119_74o, e119_74, gf_63_4, gf_63_5, gf_63_15, h4, hle, g69, g65, w3, w4, wk, zo, hn0, ↓reduceIte, true_and, and_true, false_and, and_false, bindS, tL0, tL1, app0, app1, eq_self, Int.reduceEq, Int.reduceLT, Int.reduceLE, Int.reduceNeg, Int.reduceToNat]
        exact h
      · have e : okY tk pre i = meL (ahT tk i).toNat pre := by unfold okY; rw [decide_eq_false hn0]; rfl
        have bq := hb (ahT tk i).toNat (by omega)
        rw [show (((ahT tk i).toNat : Nat) : Int) = ahT tk i by omega] at bq
        have bo : (Int32.ofInt ((Int32.ofInt (z : Int) >>> (Int32.ofInt (ahT tk i) &&& 31)).toInt) &&& Int32.ofInt 1).toInt = bitv (z : Int) (ahT tk i) := rfl
        rw [e] at h ⊢
        by_cases hm : meL (ahT tk i).toNat pre = true
        · rw [if_pos hm] at bq
          rw [hm] at h ⊢
          simp (disch := first | omega | (exact Nat.le_of_ble_eq_true rfl) | assumption | rfl) only [e119_0, e119_1, e119_2, e119_3, e119_4, e119_5, e119_7, e119_8, e119_11, e119_14, e119_15, e119_18, e119_19, e119_20, e119_23, e119_24, e119_25, e119_26, e119_27, e119_28, e119_29, e119_31, e119_32, e119_35, e119_37, e119_40, e119_41, e119_43, e119_44, e119_45, e119_46, e119_47, e119_50, e119_51, e119_54, e119_55, e119_56, e119_57, e119_58, e119_59, e119_62, e119_63, e119_64, e119_65, e119_66, e119_67, e119_70, e119_73, e119_74z, e119_74o, e119_74, gf_63_4, gf_63_5, gf_63_15, h4, hle, g69, g65, w3, w4, wk, zo, hn0, bo, bq, ↓reduceIte, true_and, and_true, false_and, and_false, bindS, tL0, tL1, app0, app1, eq_self, Int.reduceEq, Int.reduceLT, Int.reduceLE, Int.reduceNeg, Int.reduceToNat]
          exact h
        · rw [if_neg hm] at bq
          have hmf : meL (ahT tk i).toNat pre = false := by simpa using hm
          rw [hmf] at h ⊢
          simp only [Bool.false_eq_true, if_false] at h ⊢
          simp (disch := first | omega | (exact Nat.le_of_ble_eq_true rfl) | assumption | rfl) only [e119_0, e119_1, e119_2, e119_3, e119_4, e119_5, e119_7, e119_8, e119_11, e119_14, e119_15, e119_18, e119_19, e119_20, e119_23, e119_24, e119_25, e119_26, e119_27, e119_28, e119_29, e119_31, e119_32, e119_35, e119_37, e119_40, e119_41, e119_43, e119_44, e119_45, e119_46, e119_47, e119_50, e119_51, e119_54, e119_55, e119_56, e119_57, e119_58, e119_59, e119_62, e119_63, e119_64, e119_65, e119_66, e119_67, e119_70, e119_73, e119_74z, e119_74o, e119_74, gf_63_4, gf_63_5, gf_63_15, h4, hle, g69, g65, w3, w4, wk, zo, hn0, bo, bq, ↓reduceIte, true_and, and_true, false_and, and_false, bindS, tL0, tL1, app0, app1, eq_self, Int.reduceEq, Int.reduceLT, Int.reduceLE, Int.reduceNeg, Int.reduceToNat]
          exact h
theorem c_keeps (hn : n ≤ 7) (h4 : M 63 4 = (n : Int)) (h65 : M 65 = tk) (ht : TKo tk n) (hR : RWs M (exL n r)) (hlen : r.length = n) (hsm : ∀ x ∈ r, x < n) : den d 119 [(.inr (.inr (some 63)))] (SH L) M = some (some (.inl (if vlL tk [] r = true then 1 else 0)), SH L, M) := by
  have h := ko_loop (L := L) (d := d) hn h4 h65 ht hR hlen hsm r [] 0 true none rfl (by decide) (fun q hq => bits_0 ⟨q, hq⟩)
  rw [Bool.true_and] at h
  unfold den
  rw [show ent 119 [(.inr (.inr (some 63)))] = [some (.inr (.inr (some 63))), none, none, none, none] from rfl]
  simp (disch := first | omega | (exact Nat.le_of_ble_eq_true rfl) | assumption | rfl) only [e119_0, e119_1, e119_2, e119_3, e119_4, e119_5, e119_7, e119_8, e119_11, e119_14, e119_15, e119_18, e119_19, e119_20, e119_23, e119_24, e119_25, e119_26, e119_27, e119_28, e119_29, e119_31, e119_32, e119_35, e119_37, e119_40, e119_41, e119_43, e119_44, e119_45, e119_46, e119_47, e119_50, e119_51, e119_54, e119_55, e119_56, e119_57, e119_58, e119_59, e119_62, e119_63, e119_64, e119_65, e119_66, e119_67, e119_70, e119_73, e119_74z, e119_74o, e119_74, ↓reduceIte, true_and, and_true, false_and, and_false, bindS, tL0, tL1, app0, app1, eq_self, Int.reduceEq, Int.reduceLT, Int.reduceLE, Int.reduceNeg, Int.reduceToNat]
  exact h
theorem pass_zero {b sp : Int} {G : Nat → Int} : passG b 0 sp G = G := by
  funext p
  unfold passG
  repeat' split
  all_goals omega
theorem cs_E {b : Int} : ∀ {s : List Nat} {G G' : Nat → Int}, (∀ i ∈ s, spT tk i < 6) → EqG G G' → csL b tk s G = csL b tk s G'
  | [], _, _, _, _ => rfl
  | i :: s, G, G', h, hE => by
    obtain ⟨e1, e2⟩ := st_E (b := b) (h i List.mem_cons_self) hE
    show wS tk i G + duT tk i + csL b tk s (stS b tk i G) = wS tk i G' + duT tk i + csL b tk s (stS b tk i G')
    rw [e1, cs_E (fun j hj => h j (List.mem_cons_of_mem _ hj)) e2]
theorem lay_loop {b : Int} {MQ : PM} {l1 l2 l3 : Option PV} (hn : n ≤ 7) (h4 : MQ 63 4 = (n : Int)) (h65 : MQ 65 = tk) (h0 : MQ 63 0 = b) (hb : 0 ≤ b ∧ b ≤ 99) (ht : TKo tk n) (hR : RWs MQ (exL n r)) (hlen : r.length = n) (hsm : ∀ x ∈ r, x < n) : ∀ (s pre : List Nat) (G : Nat → Int) (T B : Int) (l5 : Option PV), pre ++ s = r → (0 ≤ B ∧ BG G B ∧ 0 ≤ T ∧ T + B ≤ 100000000 + 200 * (pre.length : Int)) →
    (0 ≤ T + csL b tk s G ∧ T + csL b tk s G ≤ 200000000) ∧ ∃ G' m4 m5, ev (d + 3) 120 68 [some (.inr (.inr (some 63))), l1, l2, l3, some (.inl (pre.length : Int)), l5] [] (SH L) (nset MQ G T) = ev (d + 3) 120 145 [some (.inr (.inr (some 63))), l1, l2, l3, m4, m5] [] (SH L) (nset MQ G' (T + csL b tk s G)) := by
  have o63 := io_63 (L := L)
  intro s
  induction s with
  | nil =>
    intro pre G T B l5 he hB
    have hpl : pre.length = n := by rw [← hlen, ← he, List.append_nil]
    have hle : (n : Int) ≤ (pre.length : Int) := by omega
    rw [show csL b tk [] G = 0 from rfl, Int.add_zero]
    refine ⟨by omega, G, some (.inl (pre.length : Int)), l5, ?_⟩
    rw [e120_68]
    simp (disch := first | omega | (exact Nat.le_of_ble_eq_true rfl) | assumption | rfl) only [e120_0, e120_1, e120_3, e120_6, e120_7, e120_8, e120_9, e120_11, e120_14, e120_15, e120_18, e120_19, e120_20, e120_21, e120_24, e120_27, e120_28, e120_29, e120_30, e120_33, e120_34, e120_37, e120_40, e120_41, e120_44, e120_45, e120_48, e120_49, e120_52, e120_53, e120_54, e120_55, e120_58, e120_59, e120_60, e120_61, e120_64, e120_65, e120_66, e120_70, e120_71, e120_74, e120_77, e120_78, e120_81, e120_82, e120_83, e120_86, e120_88, e120_89, e120_90, e120_91, e120_93, e120_94, e120_97, e120_99, e120_100, e120_103, e120_104, e120_105, e120_108, e120_110, e120_111, e120_113, e120_116, e120_117, e120_119, e120_120, e120_123, e120_124, e120_125, e120_128, e120_130, e120_131, e120_132, e120_133, e120_134, e120_135, e120_136, e120_139, e120_142, e120_146, e120_149, e120_152, e120_153, e120_156, e120_157, e120_160, e120_163, e120_164, e120_165, e120_168, e120_171, e120_172, e120_174, e120_176, e120_178, e120_181, e120_182, e120_185, e120_187, e120_188, e120_191, e120_193, e120_194, e120_195, e120_198, e120_201, e120_202, e120_203, e120_206, e120_209, e120_210, e120_213, gf_63_4, ns_m, h4, hle, ↓reduceIte, true_and, and_true, false_and, and_false, bindS, tL0, tL1, app0, app1, eq_self, Int.reduceEq, Int.reduceLT, Int.reduceLE, Int.reduceNeg, Int.reduceToNat]
  | cons i s ih =>
    intro pre G T B l5 he hB
    obtain ⟨hB0, hBG, hT0, hTB⟩ := hB
    have hpl : pre.length + (s.length + 1) = n := by rw [← hlen, ← he]; simp
    have hin : i < n := hsm i (by rw [← he]; simp)
    have hle : ¬ (n : Int) ≤ (pre.length : Int) := by omega
    have hti := ht i hin
    have h6 : spT tk i < 6 := by unfold spT; omega
    have hsp : ((spT tk i : Nat) : Int) = tk (3 * i) := by unfold spT; omega
    have wk := wr1 pre.length (by omega)
    have g69 := fun G T => aget_in (M := nset MQ G T) (ar_69 (L := L)) (i := (pre.length : Int)) (by omega) (by omega)
    have g65 := fun G T => aget_in (M := nset MQ G T) (ar_65 (L := L)) (i := ((3 * i : Nat) : Int)) (by omega) (by omega)
    have g65b := fun G T => aget_in (M := nset MQ G T) (ar_65 (L := L)) (i := ((3 * i + 1 : Nat) : Int)) (by omega) (by omega)
    simp (disch := decide) only [tnN, ns_row, h65, ex_row hR he (by omega)] at g69 g65 g65b
    rw [← hsp] at g65
    rw [show tk (3 * i + 1) = duT tk i from rfl] at g65b
    have w3 : wr (3 * (i : Int)) = ((3 * i : Nat) : Int) := by rw [wr_id (by omega) (by omega)]; omega
    have w4 : wr (((3 * i : Nat) : Int) + 1) = ((3 * i + 1 : Nat) : Int) := by rw [wr_id (by omega) (by omega)]; omega
    obtain ⟨B', b0, b1, b2, b3, b4⟩ := stB hb ht hin hB0 hBG
    have gp := n_get (L := L) (M := MQ) (G := G) (T := T) (i := ((spT tk i : Nat) : Int)) (by omega) (by omega)
    rw [tnN] at gp
    have hgp := hBG _ h6
    have hlen1 : (pre ++ [i]).length = pre.length + 1 := by simp
    have ec : T + csL b tk (i :: s) G = T + wS tk i G + duT tk i + csL b tk s (stS b tk i G) := by
      show T + (wS tk i G + duT tk i + csL b tk s (stS b tk i G)) = _
      omega
    obtain ⟨r1, G', m4, m5, q⟩ := ih (pre ++ [i]) (stS b tk i G) (T + wS tk i G + duT tk i) B' (some (.inl ((spT tk i : Nat) : Int))) (by rw [List.append_assoc]; exact he) ⟨b0, b1, by omega, by rw [hlen1]; omega⟩
    rw [hlen1] at q
    rw [ec]
    refine ⟨r1, G', m4, m5, ?_⟩
    have bg1 := passB hb b3 hB0 hBG
    have hmx : mxI (B - wS tk i G) 0 ≤ B := by unfold mxI; split <;> omega
    have cs := n_speak (L := L) (d := d) (M := MQ) (G := passG b (wS tk i G) (-1) G) (T := T + wS tk i G) (i := ((spT tk i : Nat) : Int)) (s := duT tk i) (f := 1) (by omega) (by omega) (by decide) (by rw [h0]; exact hb) (by omega) (by omega) (bg1.le (by omega))
    rw [tnN, h0, ← speak_fire, show speakG b (duT tk i) (spT tk i) (passG b (wS tk i G) (-1) G) = stS b tk i G from rfl] at cs
    rw [e120_68]
    by_cases hp : G (spT tk i) ≤ 0
    · have hw : wS tk i G = 0 := by unfold wS waitI; rw [if_neg (by omega)]
      rw [hw, pass_zero, Int.add_zero] at cs
      rw [hw, Int.add_zero] at q
      rw [hw, Int.add_zero]
      simp (disch := first | omega | (exact Nat.le_of_ble_eq_true rfl) | assumption | rfl) only [e120_0, e120_1, e120_3, e120_6, e120_7, e120_8, e120_9, e120_11, e120_14, e120_15, e120_18, e120_19, e120_20, e120_21, e120_24, e120_27, e120_28, e120_29, e120_30, e120_33, e120_34, e120_37, e120_40, e120_41, e120_44, e120_45, e120_48, e120_49, e120_52, e120_53, e120_54, e120_55, e120_58, e120_59, e120_60, e120_61, e120_64, e120_65, e120_66, e120_70, e120_71, e120_74, e120_77, e120_78, e120_81, e120_82, e120_83, e120_86, e120_88, e120_89, e120_90, e120_91, e120_93, e120_94, e120_97, e120_99, e120_100, e120_103, e120_104, e120_105, e120_108, e120_110, e120_111, e120_113, e120_116, e120_117, e120_119, e120_120, e120_123, e120_124, e120_125, e120_128, e120_130, e120_131, e120_132, e120_133, e120_134, e120_135, e120_136, e120_139, e120_142, e120_146, e120_149, e120_152, e120_153, e120_156, e120_157, e120_160, e120_163, e120_164, e120_165, e120_168, e120_171, e120_172, e120_174, e120_176, e120_178, e120_181, e120_182, e120_185, e120_187, e120_188, e120_191, e120_193, e120_194, e120_195, e120_198, e120_201, e120_202, e120_203, e120_206, e120_209, e120_210, e120_213, gf_63_4, gf_63_5, gf_63_10, gf_63_15, ns_m, h4, hle, g69, g65, g65b, gp, w3, w4, hp, cs, wk, ↓reduceIte, true_and, and_true, false_and, and_false, bindS, tL0, tL1, app0, app1, eq_self, Int.reduceEq, Int.reduceLT, Int.reduceLE, Int.reduceNeg, Int.reduceToNat]
      exact q
    · have hw : wS tk i G = G (spT tk i) := by unfold wS waitI; rw [if_pos (by omega)]
      have cp := n_pass (L := L) (d := d + 1) (M := MQ) (G := G) (T := T) (s := G (spT tk i)) (sp := -6) (by rw [h0]; exact hb) (by omega) (by omega) (hBG.le (by omega))
      rw [h0, pass_neg (p := -6) (q := -1) (by decide) (by decide), ← hw] at cp
      rw [← hw] at gp hp
      simp (disch := first | omega | (exact Nat.le_of_ble_eq_true rfl) | assumption | rfl) only [e120_0, e120_1, e120_3, e120_6, e120_7, e120_8, e120_9, e120_11, e120_14, e120_15, e120_18, e120_19, e120_20, e120_21, e120_24, e120_27, e120_28, e120_29, e120_30, e120_33, e120_34, e120_37, e120_40, e120_41, e120_44, e120_45, e120_48, e120_49, e120_52, e120_53, e120_54, e120_55, e120_58, e120_59, e120_60, e120_61, e120_64, e120_65, e120_66, e120_70, e120_71, e120_74, e120_77, e120_78, e120_81, e120_82, e120_83, e120_86, e120_88, e120_89, e120_90, e120_91, e120_93, e120_94, e120_97, e120_99, e120_100, e120_103, e120_104, e120_105, e120_108, e120_110, e120_111, e120_113, e120_116, e120_117, e120_119, e120_120, e120_123, e120_124, e120_125, e120_128, e120_130, e120_131, e120_132, e120_133, e120_134, e120_135, e120_136, e120_139, e120_142, e120_146, e120_149, e120_152, e120_153, e120_156, e120_157, e120_160, e120_163, e120_164, e120_165, e120_168, e120_171, e120_172, e120_174, e120_176, e120_178, e120_181, e120_182, e120_185, e120_187, e120_188, e120_191, e120_193, e120_194, e120_195, e120_198, e120_201, e120_202, e120_203, e120_206, e120_209, e120_210, e120_213, gf_63_4, gf_63_5, gf_63_10, gf_63_15, ns_m, h4, hle, g69, g65, g65b, gp, w3, w4, hp, cp, cs, wk, ↓reduceIte, true_and, and_true, false_and, and_false, bindS, tL0, tL1, app0, app1, eq_self, Int.reduceEq, Int.reduceLT, Int.reduceLE, Int.reduceNeg, Int.reduceToNat]
      exact q
theorem bs_loop {l1 l2 l3 l5 : Option PV} : ∀ (k i : Nat), i + k = 7 → ev d 120 174 [some (.inr (.inr (some 63))), l1, l2, l3, some (.inl (i : Int)), l5] [] (SH L) (setR M 70 (fil (M 69) (M 70) i)) = ev d 120 201 [some (.inr (.inr (some 63))), l1, l2, l3, some (.inl 7), l5] [] (SH L) (setR M 70 (fil (M 69) (M 70) 7)) := by
  intro k
  induction k with
  | zero =>
    intro i hi
    have hi : i = 7 := by omega
    subst hi
    rw [e120_174]
    simp only [e120_0, e120_1, e120_3, e120_6, e120_7, e120_8, e120_9, e120_11, e120_14, e120_15, e120_18, e120_19, e120_20, e120_21, e120_24, e120_27, e120_28, e120_29, e120_30, e120_33, e120_34, e120_37, e120_40, e120_41, e120_44, e120_45, e120_48, e120_49, e120_52, e120_53, e120_54, e120_55, e120_58, e120_59, e120_60, e120_61, e120_64, e120_65, e120_66, e120_68, e120_70, e120_71, e120_74, e120_77, e120_78, e120_81, e120_82, e120_83, e120_86, e120_88, e120_89, e120_90, e120_91, e120_93, e120_94, e120_97, e120_99, e120_100, e120_103, e120_104, e120_105, e120_108, e120_110, e120_111, e120_113, e120_116, e120_117, e120_119, e120_120, e120_123, e120_124, e120_125, e120_128, e120_130, e120_131, e120_132, e120_133, e120_134, e120_135, e120_136, e120_139, e120_142, e120_145, e120_146, e120_149, e120_152, e120_153, e120_156, e120_157, e120_160, e120_163, e120_164, e120_165, e120_168, e120_171, e120_172, e120_176, e120_178, e120_181, e120_182, e120_185, e120_187, e120_188, e120_191, e120_193, e120_194, e120_195, e120_198, e120_202, e120_203, e120_206, e120_209, e120_210, e120_213]
    rw [if_pos (by decide)]
    rfl
  | succ k ih =>
    intro i hi
    have hle : ¬ (7 : Int) ≤ (i : Int) := by omega
    have g1 := aget_in (M := setR M 70 (fil (M 69) (M 70) i)) (ar_69 (L := L)) (i := (i : Int)) (by omega) (by omega)
    have p1 := fun v => aput_in (M := setR M 70 (fil (M 69) (M 70) i)) (ar_70 (L := L)) (i := (i : Int)) (x := v) (by omega) (by omega)
    rw [tnN, setR_row (by decide)] at g1
    simp only [tnN] at p1
    have wi := wr1 i (by omega)
    rw [e120_174]
    simp (disch := first | omega | (exact Nat.le_of_ble_eq_true rfl) | assumption | rfl) only [e120_0, e120_1, e120_3, e120_6, e120_7, e120_8, e120_9, e120_11, e120_14, e120_15, e120_18, e120_19, e120_20, e120_21, e120_24, e120_27, e120_28, e120_29, e120_30, e120_33, e120_34, e120_37, e120_40, e120_41, e120_44, e120_45, e120_48, e120_49, e120_52, e120_53, e120_54, e120_55, e120_58, e120_59, e120_60, e120_61, e120_64, e120_65, e120_66, e120_68, e120_70, e120_71, e120_74, e120_77, e120_78, e120_81, e120_82, e120_83, e120_86, e120_88, e120_89, e120_90, e120_91, e120_93, e120_94, e120_97, e120_99, e120_100, e120_103, e120_104, e120_105, e120_108, e120_110, e120_111, e120_113, e120_116, e120_117, e120_119, e120_120, e120_123, e120_124, e120_125, e120_128, e120_130, e120_131, e120_132, e120_133, e120_134, e120_135, e120_136, e120_139, e120_142, e120_145, e120_146, e120_149, e120_152, e120_153, e120_156, e120_157, e120_160, e120_163, e120_164, e120_165, e120_168, e120_171, e120_172, e120_176, e120_178, e120_181, e120_182, e120_185, e120_187, e120_188, e120_191, e120_193, e120_194, e120_195, e120_198, e120_202, e120_203, e120_206, e120_209, e120_210, e120_213, gf_63_15, gf_63_16, hle, g1, p1, wi, ↓reduceIte, true_and, and_true, false_and, and_false, bindS, tL0, tL1, app0, app1, eq_self, Int.reduceEq, Int.reduceLT, Int.reduceLE, Int.reduceNeg, Int.reduceToNat]
    rw [fil_put rfl]
    exact ih (i + 1) (by omega)
end
