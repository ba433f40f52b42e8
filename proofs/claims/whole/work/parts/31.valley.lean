/-! rows: at, put, copyRow; the tests; a valley's methods -/
theorem c_within (d : Nat) (v a b : Int) (sh : List PS) (M : PM) : den d 88 [.inl v, .inl a, .inl b] sh M = some (some (.inl (if a ≤ v ∧ v ≤ b then 1 else 0)), sh, M) := by
  unfold den
  rw [show ent 88 [.inl v, .inl a, .inl b] = [some (.inl v), some (.inl a), some (.inl b)] from rfl]
  simp only [e88_0, e88_1, e88_2, e88_5, e88_6, e88_7, e88_10, e88_11, e88_14, e88_15z, e88_15o, e88_15]
  by_cases h1 : v < a
  · rw [if_pos h1, if_neg (by omega)]
  · rw [if_neg h1]
    by_cases h2 : b < v
    · rw [if_pos h2, if_neg (by omega)]
    · rw [if_neg h2, if_pos (by omega)]
theorem c_person (d : Nat) (v : Int) (sh : List PS) (M : PM) : den (d + 1) 87 [.inl v] sh M = some (some (.inl (if 0 ≤ v ∧ v ≤ 5 then 1 else 0)), sh, M) := by
  unfold den
  rw [show ent 87 [.inl v] = [some (.inl v)] from rfl]
  simp (disch := first | omega | (exact Nat.le_of_ble_eq_true rfl) | assumption | rfl) only [e87_0, e87_1, e87_2, e87_3, c_within, bindS, tL1, app1]
  by_cases h1 : 0 ≤ v ∧ v ≤ 5
  · simp only [if_pos h1, e87_0, e87_1, e87_2, e87_3, e87_6z, e87_6o, e87_6]
  · simp only [if_neg h1, e87_0, e87_1, e87_2, e87_3, e87_6z, e87_6o, e87_6]
theorem c_at {a n : Nat} (d : Nat) (i : Int) {sh : List PS} (M : PM) (h : AR sh a n) : den d 89 [(.inr (.inr (some a))), .inl i] sh M = some (some (.inl (if 0 ≤ i ∧ i < n then M a i.toNat else 0)), sh, M) := by
  unfold den
  rw [show ent 89 [(.inr (.inr (some a))), .inl i] = [some (.inr (.inr (some a))), some (.inl i)] from rfl]
  simp only [e89_0, e89_1, e89_4, e89_5, e89_6, e89_7, e89_10, e89_11, e89_12, e89_13, e89_16, e89_17, alen_ar h, bindS]
  by_cases h1 : i < 0
  · rw [if_pos h1, if_neg (by omega)]
  · rw [if_neg h1]
    by_cases h2 : (n : Int) ≤ i
    · rw [if_pos h2, if_neg (by omega)]
    · rw [if_neg h2, aget_in h (by omega) (by omega), if_pos (by omega)]
      simp only [bindS, e89_0, e89_1, e89_4, e89_5, e89_6, e89_7, e89_10, e89_11, e89_12, e89_13, e89_16, e89_17]
theorem c_put {a n : Nat} (d : Nat) (i x : Int) {sh : List PS} (M : PM) (h : AR sh a n) : den d 90 [(.inr (.inr (some a))), .inl i, .inl x] sh M = some (none, sh, if 0 ≤ i ∧ i < n then setC M a i.toNat x else M) := by
  unfold den
  rw [show ent 90 [(.inr (.inr (some a))), .inl i, .inl x] = [some (.inr (.inr (some a))), some (.inl i), some (.inl x)] from rfl]
  simp only [e90_0, e90_1, e90_4, e90_5, e90_6, e90_7, e90_10, e90_11, e90_12, e90_13, e90_14, alen_ar h, bindS]
  by_cases h1 : i < 0
  · rw [if_pos h1, if_neg (by omega)]
  · rw [if_neg h1]
    by_cases h2 : (n : Int) ≤ i
    · rw [if_pos h2, if_neg (by omega)]
    · rw [if_neg h2, aput_in h (by omega) (by omega), if_pos (by omega)]
      simp only [bindS, e90_0, e90_1, e90_4, e90_5, e90_6, e90_7, e90_10, e90_11, e90_12, e90_13, e90_14]
theorem c_at_in {a n : Nat} {d : Nat} {i : Int} {sh : List PS} {M : PM} (h : AR sh a n) (h0 : 0 ≤ i) (h1 : i < n) : den d 89 [(.inr (.inr (some a))), .inl i] sh M = some (some (.inl (M a i.toNat)), sh, M) := by
  rw [c_at d i M h, if_pos ⟨h0, h1⟩]
theorem c_put_in {a n : Nat} {d : Nat} {i x : Int} {sh : List PS} {M : PM} (h : AR sh a n) (h0 : 0 ≤ i) (h1 : i < n) : den d 90 [(.inr (.inr (some a))), .inl i, .inl x] sh M = some (none, sh, setC M a i.toNat x) := by
  rw [c_put d i x M h, if_pos ⟨h0, h1⟩]
theorem copy_loop {a b n : Nat} (d : Nat) {sh : List PS} (M : PM) (ha : AR sh a n) (hb : AR sh b n) (hab : a ≠ b) (hn : n < 1000) : ∀ (k i : Nat), i + k = n → ev d 91 2 [some (.inr (.inr (some a))), some (.inr (.inr (some b))), some (.inl (i : Int))] [] sh (setR M b (fil (M a) (M b) i)) = some (none, sh, setR M b (fil (M a) (M b) n)) := by
  intro k
  induction k with
  | zero =>
    intro i hi
    have hi : i = n := by omega
    subst hi
    rw [e91_2]
    simp only [e91_0, e91_1, e91_3, e91_4, e91_5, e91_8, e91_9, e91_10, e91_11, e91_14, e91_15, e91_16, e91_17, e91_18, e91_19, e91_20, e91_23, e91_26, alen_ar hb, bindS, Int.le_refl, if_true]
  | succ k ih =>
    intro i hi
    rw [e91_2]
    simp only [e91_0, e91_1, e91_3, e91_4, e91_5, e91_8, e91_9, e91_10, e91_11, e91_14, e91_15, e91_16, e91_17, e91_18, e91_19, e91_20, e91_23, e91_26, alen_ar hb, alen_ar ha, bindS]
    rw [if_neg (by omega), if_neg (by omega), aget_in ha (by omega) (by omega)]
    simp only [bindS, tnN, e91_0, e91_1, e91_3, e91_4, e91_5, e91_8, e91_9, e91_10, e91_11, e91_14, e91_15, e91_16, e91_17, e91_18, e91_19, e91_20, e91_23, e91_26]
    rw [aput_in hb (by omega) (by omega)]
    simp only [bindS, tnN, e91_0, e91_1, e91_3, e91_4, e91_5, e91_8, e91_9, e91_10, e91_11, e91_14, e91_15, e91_16, e91_17, e91_18, e91_19, e91_20, e91_23, e91_26, setR_row hab]
    rw [fil_put rfl, wr1 i (by omega)]
    exact ih (i + 1) (by omega)
theorem c_copyRow {a b n : Nat} (d : Nat) {sh : List PS} (M : PM) (ha : AR sh a n) (hb : AR sh b n) (hab : a ≠ b) (hn : n < 1000) : den d 91 [(.inr (.inr (some a))), (.inr (.inr (some b)))] sh M = some (none, sh, setR M b (fil (M a) (M b) n)) := by
  unfold den
  rw [show ent 91 [(.inr (.inr (some a))), (.inr (.inr (some b)))] = [some (.inr (.inr (some a))), some (.inr (.inr (some b))), none] from rfl]
  simp only [e91_0, e91_1]
  have h := copy_loop d M ha hb hab hn n 0 (by omega)
  rw [fil_0, setR_same] at h
  exact h
/-- object v is a valley, its glasses the row v + 1 -/
def VL (sh : List PS) (v : Nat) : Prop := ¬ v = 0 ∧ sh[v]? = some (5, 0, [some (some (v + 1)), none, none, none]) ∧ AR sh (v + 1) 6
theorem vl_g0 {sh : List PS} {v : Nat} {M : PM} (h : VL sh v) : getf sh M v 5 0 = some (.inr (.inr (some (v + 1)))) := by
  unfold getf; rw [if_neg h.1, h.2.1]; rfl
theorem vl_g1 {sh : List PS} {v : Nat} {M : PM} (h : VL sh v) : getf sh M v 5 1 = some (.inl (M v 1)) := by
  unfold getf; rw [if_neg h.1, h.2.1]; rfl
theorem vl_g2 {sh : List PS} {v : Nat} {M : PM} (h : VL sh v) : getf sh M v 5 2 = some (.inl (M v 2)) := by
  unfold getf; rw [if_neg h.1, h.2.1]; rfl
theorem vl_g3 {sh : List PS} {v : Nat} {M : PM} (h : VL sh v) : getf sh M v 5 3 = some (.inl (M v 3)) := by
  unfold getf; rw [if_neg h.1, h.2.1]; rfl
theorem vl_p1 {sh : List PS} {v : Nat} {M : PM} {x : Int} (h : VL sh v) : putI sh M v 5 1 false x = some (setC M v 1 x) := by
  unfold putI; rw [if_neg h.1, h.2.1]; rfl
theorem vl_p2 {sh : List PS} {v : Nat} {M : PM} {x : Int} (h : VL sh v) : putI sh M v 5 2 false x = some (setC M v 2 x) := by
  unfold putI; rw [if_neg h.1, h.2.1]; rfl
theorem vl_p3 {sh : List PS} {v : Nat} {M : PM} {x : Int} (h : VL sh v) : putI sh M v 5 3 false x = some (setC M v 3 x) := by
  unfold putI; rw [if_neg h.1, h.2.1]; rfl
theorem vl_o {sh : List PS} {v : Nat} (h : VL sh v) : isObj sh (some (.inr (.inr (some v)))) 5 = true := by
  unfold isObj; simp [h.1, h.2.1]
theorem vl_ne {v : Nat} : v ≠ v + 1 := by omega
theorem vl_ne' {v : Nat} : v + 1 ≠ v := by omega
/-- a valley's glasses and time -/
def vset (M : PM) (v : Nat) (G : Nat → Int) (T : Int) : PM := setC (setR M (v + 1) G) v 1 T
theorem vs_G {M : PM} {v : Nat} {G : Nat → Int} {T : Int} : vset M v G T (v + 1) = G := by unfold vset; rw [setC_row vl_ne', setR_s]
theorem vs_T {M : PM} {v : Nat} {G : Nat → Int} {T : Int} : vset M v G T v 1 = T := by unfold vset; rw [setC_s]
theorem vs_2 {M : PM} {v : Nat} {G : Nat → Int} {T : Int} : vset M v G T v 2 = M v 2 := by unfold vset; rw [setC_i (by decide), setR_row vl_ne]
theorem vs_3 {M : PM} {v : Nat} {G : Nat → Int} {T : Int} : vset M v G T v 3 = M v 3 := by unfold vset; rw [setC_i (by decide), setR_row vl_ne]
theorem vs_row {M : PM} {v a : Nat} {G : Nat → Int} {T : Int} (h1 : a ≠ v) (h2 : a ≠ v + 1) : vset M v G T a = M a := by unfold vset; rw [setC_row h1, setR_row h2]
theorem vs_vs {M : PM} {v : Nat} {G G' : Nat → Int} {T T' : Int} : vset (vset M v G T) v G' T' = vset M v G' T' := by
  unfold vset; rw [setC_setR vl_ne, setR_setR, setC_setC]
theorem vs_put {M : PM} {v i : Nat} {G : Nat → Int} {T x : Int} : setC (vset M v G T) (v + 1) i x = vset M v (fun q => if q = i then x else G q) T := by
  rw [setC_R, vs_G]
  unfold vset
  rw [setC_setR vl_ne, setR_setR]
theorem vs_self {M : PM} {v : Nat} : vset M v (M (v + 1)) (M v 1) = M := by
  unfold vset; rw [setR_same, setC_same]
theorem vs_put0 {M : PM} {v i : Nat} {x : Int} : setC M (v + 1) i x = vset M v (fun q => if q = i then x else M (v + 1) q) (M v 1) := by
  conv => lhs; rw [← vs_self (M := M) (v := v)]
  rw [vs_put]
-- pure
def BG (G : Nat → Int) (B : Int) : Prop := ∀ p, p < 6 → -100 ≤ G p ∧ G p ≤ B
def passG (b s sp : Int) (G : Nat → Int) : Nat → Int := fun p => if p < 6 ∧ ¬ (p : Int) = sp ∧ -b < G p then (if G p - s < -b then -b else G p - s) else G p
def addG (i : Nat) (x : Int) (G : Nat → Int) : Nat → Int := fun q => if q = i then G i + x else G q
def sleepG (G : Nat → Int) : Nat → Int := fun p => if p < 6 ∧ 0 < G p then 0 else G p
theorem fil_end {f g : Nat → Int} {n : Nat} (h : ∀ j, n ≤ j → f j = g j) : fil f g n = f := by
  funext j
  simp only [fil]
  split
  · rfl
  · rw [h j (by omega)]
theorem passG_ge {b s sp : Int} {G : Nat → Int} : ∀ j, 6 ≤ j → passG b s sp G j = G j := fun j h => by unfold passG; rw [if_neg (by omega)]
theorem pass_loop {v : Nat} (d : Nat) {sh : List PS} (hv : VL sh v) (M : PM) (s sp : Int) (hb : 0 ≤ M v 2 ∧ M v 2 ≤ 99) (hs : 0 ≤ s ∧ s ≤ 500000000) (ht : 0 ≤ M v 1 ∧ M v 1 ≤ 500000000) (hg : BG (M (v + 1)) 500000000) : ∀ (k i : Nat), i + k = 6 →
    ev (d + 1) 53 2 [some (.inr (.inr (some v))), some (.inl s), some (.inl sp), some (.inl (i : Int))] [] sh (setR M (v + 1) (fil (passG (M v 2) s sp (M (v + 1))) (M (v + 1)) i)) = some (none, sh, vset M v (passG (M v 2) s sp (M (v + 1))) (M v 1 + s)) := by
  intro k
  induction k with
  | zero =>
    intro i hi
    have hi : i = 6 := by omega
    subst hi
    rw [e53_2]
    simp only [e53_0, e53_1, e53_3, e53_4, e53_7, e53_8, e53_11, e53_12, e53_13, e53_16, e53_17, e53_20, e53_21, e53_22, e53_23, e53_26, e53_27, e53_30, e53_31, e53_34, e53_35, e53_36, e53_39, e53_40, e53_41, e53_42, e53_43, e53_44, e53_47, e53_48, e53_51, e53_52, e53_55, e53_58, e53_59i, e53_59, e53_60, e53_63, e53_64, e53_65, e53_68, vl_g0 hv, vl_g1 hv, alen_ar hv.2.2, bindS]
    rw [if_pos (by decide)]
    simp only [vl_p1 hv, bindS, e53_0, e53_1, e53_3, e53_4, e53_7, e53_8, e53_11, e53_12, e53_13, e53_16, e53_17, e53_20, e53_21, e53_22, e53_23, e53_26, e53_27, e53_30, e53_31, e53_34, e53_35, e53_36, e53_39, e53_40, e53_41, e53_42, e53_43, e53_44, e53_47, e53_48, e53_51, e53_52, e53_55, e53_58, e53_59i, e53_59, e53_60, e53_63, e53_64, e53_65, e53_68, setR_row vl_ne]
    rw [fil_end passG_ge, wr_id (by omega) (by omega)]
    rfl
  | succ k ih =>
    intro i hi
    have h6 : i < 6 := by omega
    have hgi := hg i h6
    rw [e53_2]
    simp only [e53_0, e53_1, e53_3, e53_4, e53_7, e53_8, e53_11, e53_12, e53_13, e53_16, e53_17, e53_20, e53_21, e53_22, e53_23, e53_26, e53_27, e53_30, e53_31, e53_34, e53_35, e53_36, e53_39, e53_40, e53_41, e53_42, e53_43, e53_44, e53_47, e53_48, e53_51, e53_52, e53_55, e53_58, e53_59i, e53_59, e53_60, e53_63, e53_64, e53_65, e53_68, vl_g0 hv, alen_ar hv.2.2, bindS]
    rw [if_neg (by omega)]
    by_cases h1 : (i : Int) = sp
    · rw [if_pos h1]
      have e1 : passG (M v 2) s sp (M (v + 1)) i = M (v + 1) i := by unfold passG; rw [if_neg (fun q => q.2.1 h1)]
      rw [wr1 i (by omega), fil_skip e1.symm]
      exact ih (i + 1) (by omega)
    · rw [if_neg h1]
      rw [aget_in hv.2.2 (by omega) (by omega)]
      simp only [bindS, e53_0, e53_1, e53_3, e53_4, e53_7, e53_8, e53_11, e53_12, e53_13, e53_16, e53_17, e53_20, e53_21, e53_22, e53_23, e53_26, e53_27, e53_30, e53_31, e53_34, e53_35, e53_36, e53_39, e53_40, e53_41, e53_42, e53_43, e53_44, e53_47, e53_48, e53_51, e53_52, e53_55, e53_58, e53_59i, e53_59, e53_60, e53_63, e53_64, e53_65, e53_68, vl_g2 hv, setR_row vl_ne, setR_s, tnN, fil_at]
      rw [wr_id (x := -M v 2) (by omega) (by omega)]
      by_cases h2 : M (v + 1) i ≤ -M v 2
      · rw [if_pos h2]
        have e1 : passG (M v 2) s sp (M (v + 1)) i = M (v + 1) i := by unfold passG; rw [if_neg (fun q => by omega)]
        rw [wr1 i (by omega), fil_skip e1.symm]
        exact ih (i + 1) (by omega)
      · rw [if_neg h2]
        simp only [vl_g0 hv, bindS, e53_0, e53_1, e53_3, e53_4, e53_7, e53_8, e53_11, e53_12, e53_13, e53_16, e53_17, e53_20, e53_21, e53_22, e53_23, e53_26, e53_27, e53_30, e53_31, e53_34, e53_35, e53_36, e53_39, e53_40, e53_41, e53_42, e53_43, e53_44, e53_47, e53_48, e53_51, e53_52, e53_55, e53_58, e53_59i, e53_59, e53_60, e53_63, e53_64, e53_65, e53_68]
        rw [aget_in hv.2.2 (by omega) (by omega)]
        simp (disch := first | omega | (exact Nat.le_of_ble_eq_true rfl) | assumption | rfl) only [bindS, e53_0, e53_1, e53_3, e53_4, e53_7, e53_8, e53_11, e53_12, e53_13, e53_16, e53_17, e53_20, e53_21, e53_22, e53_23, e53_26, e53_27, e53_30, e53_31, e53_34, e53_35, e53_36, e53_39, e53_40, e53_41, e53_42, e53_43, e53_44, e53_47, e53_48, e53_51, e53_52, e53_55, e53_58, e53_59i, e53_59, e53_60, e53_63, e53_64, e53_65, e53_68, vl_g2 hv, setR_row vl_ne, setR_s, tnN, fil_at]
        rw [wr_id (x := -M v 2) (by omega) (by omega), wr_id (x := M (v + 1) i - s) (by omega) (by omega), aput_in hv.2.2 (by omega) (by omega)]
        simp only [bindS, e53_0, e53_1, e53_3, e53_4, e53_7, e53_8, e53_11, e53_12, e53_13, e53_16, e53_17, e53_20, e53_21, e53_22, e53_23, e53_26, e53_27, e53_30, e53_31, e53_34, e53_35, e53_36, e53_39, e53_40, e53_41, e53_42, e53_43, e53_44, e53_47, e53_48, e53_51, e53_52, e53_55, e53_58, e53_59i, e53_59, e53_60, e53_63, e53_64, e53_65, e53_68, tnN]
        have e1 : (if M (v + 1) i - s < -M v 2 then -M v 2 else M (v + 1) i - s) = passG (M v 2) s sp (M (v + 1)) i := (if_pos ⟨h6, h1, by omega⟩ : passG (M v 2) s sp (M (v + 1)) i = _).symm
        rw [fil_put e1, wr1 i (by omega)]
        exact ih (i + 1) (by omega)
theorem c_pass {v : Nat} (d : Nat) {sh : List PS} (hv : VL sh v) (M : PM) (s sp : Int) (hb : 0 ≤ M v 2 ∧ M v 2 ≤ 99) (hs : 0 ≤ s ∧ s ≤ 500000000) (ht : 0 ≤ M v 1 ∧ M v 1 ≤ 500000000) (hg : BG (M (v + 1)) 500000000) :
    den (d + 1) 53 [(.inr (.inr (some v))), .inl s, .inl sp] sh M = some (none, sh, vset M v (passG (M v 2) s sp (M (v + 1))) (M v 1 + s)) := by
  unfold den
  rw [show ent 53 [(.inr (.inr (some v))), .inl s, .inl sp] = [some (.inr (.inr (some v))), some (.inl s), some (.inl sp), none] from rfl]
  simp only [e53_0, e53_1]
  have h := pass_loop d hv M s sp hb hs ht hg 6 0 (by omega)
  rw [fil_0, setR_same] at h
  exact h
