/-! a valley's methods, on -/
theorem c_glass {v : Nat} (d : Nat) {sh : List PS} (hv : VL sh v) (M : PM) (i : Int) : den (d + 1) 41 [(.inr (.inr (some v))), .inl i] sh M = some (some (.inl (if 0 ≤ i ∧ i < 6 then M (v + 1) i.toNat else 0)), sh, M) := by
  unfold den
  rw [show ent 41 [(.inr (.inr (some v))), .inl i] = [some (.inr (.inr (some v))), some (.inl i)] from rfl]
  simp (disch := first | omega | (exact Nat.le_of_ble_eq_true rfl) | assumption | rfl) only [e41_0, e41_1, e41_4, e41_5, e41_8, vl_g0 hv, bindS, c_at d i M hv.2.2, tL1, app1]
  rfl
theorem c_glass_in {v : Nat} {d : Nat} {sh : List PS} (hv : VL sh v) {M : PM} {i : Int} (h0 : 0 ≤ i) (h1 : i < 6) : den (d + 1) 41 [(.inr (.inr (some v))), .inl i] sh M = some (some (.inl (M (v + 1) i.toNat)), sh, M) := by
  rw [c_glass d hv, if_pos ⟨h0, h1⟩]
theorem c_time {v : Nat} {d : Nat} {sh : List PS} (hv : VL sh v) {M : PM} : den d 38 [(.inr (.inr (some v)))] sh M = some (some (.inl (M v 1)), sh, M) := by
  unfold den
  rw [show ent 38 [(.inr (.inr (some v)))] = [some (.inr (.inr (some v)))] from rfl]
  simp only [e38_0, e38_1, e38_4, vl_g1 hv, bindS]
theorem c_bound {v : Nat} {d : Nat} {sh : List PS} (hv : VL sh v) {M : PM} : den d 39 [(.inr (.inr (some v)))] sh M = some (some (.inl (M v 2)), sh, M) := by
  unfold den
  rw [show ent 39 [(.inr (.inr (some v)))] = [some (.inr (.inr (some v)))] from rfl]
  simp only [e39_0, e39_1, e39_4, vl_g2 hv, bindS]
theorem c_fire {v : Nat} {d : Nat} {sh : List PS} (hv : VL sh v) {M : PM} : den d 40 [(.inr (.inr (some v)))] sh M = some (some (.inl (M v 3)), sh, M) := by
  unfold den
  rw [show ent 40 [(.inr (.inr (some v)))] = [some (.inr (.inr (some v)))] from rfl]
  simp only [e40_0, e40_1, e40_4, vl_g3 hv, bindS]
theorem c_chB {v : Nat} {d : Nat} {sh : List PS} (hv : VL sh v) {M : PM} {x : Int} : den d 42 [(.inr (.inr (some v))), .inl x] sh M = some (some (.inl (M v 2)), sh, setC M v 2 x) := by
  unfold den
  rw [show ent 42 [(.inr (.inr (some v))), .inl x] = [some (.inr (.inr (some v))), some (.inl x), none] from rfl]
  simp only [e42_0, e42_1, e42_4, e42_5, e42_6, e42_7, e42_10, e42_11, vl_g2 hv, vl_p2 hv, bindS]
theorem c_chF {v : Nat} {d : Nat} {sh : List PS} (hv : VL sh v) {M : PM} {x : Int} : den d 43 [(.inr (.inr (some v))), .inl x] sh M = some (some (.inl (M v 3)), sh, setC M v 3 x) := by
  unfold den
  rw [show ent 43 [(.inr (.inr (some v))), .inl x] = [some (.inr (.inr (some v))), some (.inl x), none] from rfl]
  simp only [e43_0, e43_1, e43_4, e43_5, e43_6, e43_7, e43_10, e43_11, vl_g3 hv, vl_p3 hv, bindS]
theorem c_isFree {v : Nat} {d : Nat} {sh : List PS} (hv : VL sh v) {M : PM} {i : Int} (h0 : 0 ≤ i) (h1 : i < 6) : den (d + 2) 44 [(.inr (.inr (some v))), .inl i] sh M = some (some (.inl (if M (v + 1) i.toNat ≤ 0 then 1 else 0)), sh, M) := by
  unfold den
  rw [show ent 44 [(.inr (.inr (some v))), .inl i] = [some (.inr (.inr (some v))), some (.inl i)] from rfl]
  have ho := vl_o hv
  simp (disch := first | omega | (exact Nat.le_of_ble_eq_true rfl) | assumption | rfl) only [e44_0, e44_1, e44_2, e44_5, e44_8, e44_9, e44_12, e44_13z, e44_13o, e44_13, bindS, c_glass_in hv h0 h1, tL1, app1]
  by_cases h : 0 < M (v + 1) i.toNat
  · rw [if_pos h, if_neg (by omega)]
  · rw [if_neg h, if_pos (by omega)]
theorem c_wait {v : Nat} {d : Nat} {sh : List PS} (hv : VL sh v) {M : PM} {i : Int} (h0 : 0 ≤ i) (h1 : i < 6) : den (d + 2) 45 [(.inr (.inr (some v))), .inl i] sh M = some (some (.inl (if 0 < M (v + 1) i.toNat then M (v + 1) i.toNat else 0)), sh, M) := by
  unfold den
  rw [show ent 45 [(.inr (.inr (some v))), .inl i] = [some (.inr (.inr (some v))), some (.inl i)] from rfl]
  have ho := vl_o hv
  simp (disch := first | omega | (exact Nat.le_of_ble_eq_true rfl) | assumption | rfl) only [e45_0, e45_1, e45_2, e45_5, e45_6, e45_9, bindS, c_glass_in hv h0 h1, tL1, app1]
  by_cases h : 0 < M (v + 1) i.toNat
  · rw [if_pos h, if_neg (by omega)]
  · by_cases h2 : M (v + 1) i.toNat < 0
    · rw [if_neg h, if_pos h2]
    · rw [if_neg h, if_neg h2, show M (v + 1) i.toNat = 0 by omega]
theorem passG_b {b s sp B : Int} {G : Nat → Int} (hb : 0 ≤ b ∧ b ≤ 99) (hs : 0 ≤ s) (h : BG G B) : BG (passG b s sp G) B := by
  intro p hp
  have := h p hp
  unfold passG
  split
  · split <;> omega
  · exact this
theorem passG_sp {b s : Int} {G : Nat → Int} {i : Nat} : passG b s (i : Int) G i = G i := by
  unfold passG; rw [if_neg (fun q => q.2.1 rfl)]
def speakG (b d : Int) (i : Nat) (G : Nat → Int) : Nat → Int := addG i d (passG b d (i : Int) G)
theorem speakG_b {b d B : Int} {i : Nat} {G : Nat → Int} (hb : 0 ≤ b ∧ b ≤ 99) (hd : 0 ≤ d) (h : BG G B) : BG (speakG b d i G) (B + d) := by
  intro p hp
  have := passG_b (sp := (i : Int)) hb hd h
  unfold speakG addG
  have h1 := this p hp
  split
  · rename_i he
    subst he
    omega
  · omega
theorem c_speak {v : Nat} {d : Nat} {sh : List PS} (hv : VL sh v) {M : PM} {i x : Int} (h0 : 0 ≤ i) (h1 : i < 6) (hb : 0 ≤ M v 2 ∧ M v 2 ≤ 99) (hs : 0 ≤ x ∧ x ≤ 500000000) (ht : 0 ≤ M v 1 ∧ M v 1 ≤ 500000000) (hg : BG (M (v + 1)) 500000000) :
    den (d + 2) 46 [(.inr (.inr (some v))), .inl i, .inl x] sh M = some (none, sh, vset M v (speakG (M v 2) x i.toNat (M (v + 1))) (M v 1 + x)) := by
  unfold den
  rw [show ent 46 [(.inr (.inr (some v))), .inl i, .inl x] = [some (.inr (.inr (some v))), some (.inl i), some (.inl x)] from rfl]
  have ho := vl_o hv
  have hp := hg i.toNat (by omega)
  have hi : ((i.toNat : Nat) : Int) = i := by omega
  have e2 : passG (M v 2) x i (M (v + 1)) i.toNat = M (v + 1) i.toNat := by
    have := passG_sp (b := M v 2) (s := x) (G := M (v + 1)) (i := i.toNat)
    rw [hi] at this
    exact this
  simp (disch := first | omega | (exact Nat.le_of_ble_eq_true rfl) | assumption | rfl) only [e46_0, e46_1, e46_2, e46_3, e46_6, e46_7, e46_10, e46_11, e46_12, e46_13, e46_16, e46_17, e46_18, e46_21, bindS, c_pass d hv M x i hb hs ht hg, vl_g0 hv, tL0, tL1, app1, app0, c_glass_in hv h0 h1, vs_G, e2]
  rw [c_put_in hv.2.2 h0 h1]
  simp only [bindS, tL0, app0, e46_0, e46_1, e46_2, e46_3, e46_6, e46_7, e46_10, e46_11, e46_12, e46_13, e46_16, e46_17, e46_18, e46_21, vs_put]
  rw [wr_id (by omega) (by omega)]
  unfold speakG addG
  rw [hi, e2]
def fireG (b d f : Int) (i : Nat) (G : Nat → Int) : Nat → Int := addG i (f * d) (passG b d (i : Int) G)
theorem c_callFire {v : Nat} {d : Nat} {sh : List PS} (hv : VL sh v) {M : PM} {i x : Int} (h0 : 0 ≤ i) (h1 : i < 6) (hb : 0 ≤ M v 2 ∧ M v 2 ≤ 99) (hf : 1 ≤ M v 3 ∧ M v 3 ≤ 4) (hs : 0 ≤ x ∧ x ≤ 1000) (ht : 0 ≤ M v 1 ∧ M v 1 ≤ 500000000) (hg : BG (M (v + 1)) 500000000) :
    den (d + 2) 47 [(.inr (.inr (some v))), .inl i, .inl x] sh M = some (none, sh, vset M v (fireG (M v 2) x (M v 3) i.toNat (M (v + 1))) (M v 1 + x)) := by
  unfold den
  rw [show ent 47 [(.inr (.inr (some v))), .inl i, .inl x] = [some (.inr (.inr (some v))), some (.inl i), some (.inl x)] from rfl]
  have ho := vl_o hv
  have hp := hg i.toNat (by omega)
  have hi : ((i.toNat : Nat) : Int) = i := by omega
  have hm : 0 ≤ M v 3 * x ∧ M v 3 * x ≤ 4000 := by
    constructor
    · exact Int.mul_nonneg (by omega) (by omega)
    · calc M v 3 * x ≤ 4 * x := Int.mul_le_mul_of_nonneg_right hf.2 hs.1
        _ ≤ 4000 := by omega
  have e2 : passG (M v 2) x i (M (v + 1)) i.toNat = M (v + 1) i.toNat := by
    have := passG_sp (b := M v 2) (s := x) (G := M (v + 1)) (i := i.toNat)
    rw [hi] at this
    exact this
  simp (disch := first | omega | (exact Nat.le_of_ble_eq_true rfl) | assumption | rfl) only [e47_0, e47_1, e47_2, e47_3, e47_6, e47_7, e47_10, e47_11, e47_12, e47_13, e47_16, e47_17, e47_20, e47_21, e47_22, e47_23, e47_26, bindS, c_pass d hv M x i hb (And.intro hs.1 (Int.le_trans hs.2 (by decide))) ht hg, vl_g0 hv, vl_g3 hv, tL0, tL1, app1, app0, c_glass_in hv h0 h1, vs_G, vs_3, e2]
  rw [c_put_in hv.2.2 h0 h1]
  simp only [bindS, tL0, app0, e47_0, e47_1, e47_2, e47_3, e47_6, e47_7, e47_10, e47_11, e47_12, e47_13, e47_16, e47_17, e47_20, e47_21, e47_22, e47_23, e47_26, vs_put]
  rw [wr_id (x := M v 3 * x) (by omega) (by omega), wr_id (by omega) (by omega)]
  unfold fireG addG
  rw [hi, e2]
theorem c_silence {v : Nat} {d : Nat} {sh : List PS} (hv : VL sh v) {M : PM} {x : Int} (hb : 0 ≤ M v 2 ∧ M v 2 ≤ 99) (hs : 0 ≤ x ∧ x ≤ 500000000) (ht : 0 ≤ M v 1 ∧ M v 1 ≤ 500000000) (hg : BG (M (v + 1)) 500000000) :
    den (d + 2) 48 [(.inr (.inr (some v))), .inl x] sh M = some (none, sh, vset M v (passG (M v 2) x (-1) (M (v + 1))) (M v 1 + x)) := by
  unfold den
  rw [show ent 48 [(.inr (.inr (some v))), .inl x] = [some (.inr (.inr (some v))), some (.inl x)] from rfl]
  have ho := vl_o hv
  simp (disch := first | omega | (exact Nat.le_of_ble_eq_true rfl) | assumption | rfl) only [e48_0, e48_1, e48_2, e48_3, e48_6, bindS, c_pass d hv M x (-1) hb hs ht hg, tL0, app0]
theorem sleepG_ge {G : Nat → Int} : ∀ j, 6 ≤ j → sleepG G j = G j := fun j h => by unfold sleepG; rw [if_neg (by omega)]
theorem sleep_loop {v : Nat} (d : Nat) {sh : List PS} (hv : VL sh v) (M : PM) : ∀ (k i : Nat), i + k = 6 →
    ev (d + 1) 49 2 [some (.inr (.inr (some v))), some (.inl (i : Int))] [] sh (setR M (v + 1) (fil (sleepG (M (v + 1))) (M (v + 1)) i)) = some (none, sh, setR M (v + 1) (sleepG (M (v + 1)))) := by
  intro k
  induction k with
  | zero =>
    intro i hi
    have hi : i = 6 := by omega
    subst hi
    rw [e49_2]
    simp only [e49_0, e49_1, e49_3, e49_4, e49_7, e49_8, e49_11, e49_12, e49_15, e49_16, e49_17, e49_20, e49_21, e49_22, e49_23, e49_26, e49_27, e49_30, e49_33, vl_g0 hv, alen_ar hv.2.2, bindS]
    rw [if_pos (by decide), fil_end sleepG_ge]
  | succ k ih =>
    intro i hi
    have h6 : i < 6 := by omega
    rw [e49_2]
    simp only [e49_0, e49_1, e49_3, e49_4, e49_7, e49_8, e49_11, e49_12, e49_15, e49_16, e49_17, e49_20, e49_21, e49_22, e49_23, e49_26, e49_27, e49_30, e49_33, vl_g0 hv, alen_ar hv.2.2, bindS]
    rw [if_neg (by omega), aget_in hv.2.2 (by omega) (by omega)]
    simp (disch := first | omega | (exact Nat.le_of_ble_eq_true rfl) | assumption | rfl) only [bindS, e49_0, e49_1, e49_3, e49_4, e49_7, e49_8, e49_11, e49_12, e49_15, e49_16, e49_17, e49_20, e49_21, e49_22, e49_23, e49_26, e49_27, e49_30, e49_33, setR_s, tnN, fil_at]
    rw [aput_in hv.2.2 (by omega) (by omega)]
    simp only [bindS, e49_0, e49_1, e49_3, e49_4, e49_7, e49_8, e49_11, e49_12, e49_15, e49_16, e49_17, e49_20, e49_21, e49_22, e49_23, e49_26, e49_27, e49_30, e49_33, tnN]
    have e1 : (if (0 : Int) < M (v + 1) i then 0 else M (v + 1) i) = sleepG (M (v + 1)) i := by
      unfold sleepG
      by_cases h : 0 < M (v + 1) i
      · rw [if_pos h, if_pos ⟨h6, h⟩]
      · rw [if_neg h, if_neg (fun q => h q.2)]
    rw [fil_put e1, wr1 i (by omega)]
    exact ih (i + 1) (by omega)
theorem vs_R {M : PM} {v : Nat} {G : Nat → Int} : setR M (v + 1) G = vset M v G (M v 1) := by
  unfold vset
  have : setR M (v + 1) G v 1 = M v 1 := by rw [setR_row vl_ne]
  rw [← this, setC_same]
theorem c_sleep {v : Nat} {d : Nat} {sh : List PS} (hv : VL sh v) {M : PM} : den (d + 1) 49 [(.inr (.inr (some v)))] sh M = some (none, sh, vset M v (sleepG (M (v + 1))) (M v 1)) := by
  unfold den
  rw [show ent 49 [(.inr (.inr (some v)))] = [some (.inr (.inr (some v))), none] from rfl]
  simp only [e49_0, e49_1]
  have h := sleep_loop d hv M 6 0 (by omega)
  rw [fil_0, setR_same] at h
  rw [← vs_R]
  exact h
theorem c_lend {v : Nat} {d : Nat} {sh : List PS} (hv : VL sh v) {M : PM} {i x : Int} (h0 : 0 ≤ i) (h1 : i < 6) (hs : 0 ≤ x ∧ x ≤ 500000000) (hg : BG (M (v + 1)) 500000000) :
    den (d + 2) 50 [(.inr (.inr (some v))), .inl i, .inl x] sh M = some (none, sh, vset M v (addG i.toNat x (M (v + 1))) (M v 1)) := by
  unfold den
  rw [show ent 50 [(.inr (.inr (some v))), .inl i, .inl x] = [some (.inr (.inr (some v))), some (.inl i), some (.inl x)] from rfl]
  have ho := vl_o hv
  have hp := hg i.toNat (by omega)
  simp (disch := first | omega | (exact Nat.le_of_ble_eq_true rfl) | assumption | rfl) only [e50_0, e50_1, e50_4, e50_5, e50_6, e50_7, e50_10, e50_11, e50_12, e50_15, bindS, vl_g0 hv, tL0, tL1, app1, app0, c_glass_in hv h0 h1]
  rw [c_put_in hv.2.2 h0 h1]
  simp only [bindS, tL0, app0, e50_0, e50_1, e50_4, e50_5, e50_6, e50_7, e50_10, e50_11, e50_12, e50_15]
  rw [wr_id (by omega) (by omega), vs_put0]
  rfl
/-- what is taken of s seconds given -/
def takeG (b s : Int) (g : Int) : Int := if g ≤ -b then 0 else if g - s < -b then g + b else s
theorem c_receive {v : Nat} {d : Nat} {sh : List PS} (hv : VL sh v) {M : PM} {i x : Int} (h0 : 0 ≤ i) (h1 : i < 6) (hb : 0 ≤ M v 2 ∧ M v 2 ≤ 99) (hs : 0 ≤ x ∧ x ≤ 1000) (hg : BG (M (v + 1)) 500000000) :
    den (d + 2) 51 [(.inr (.inr (some v))), .inl i, .inl x] sh M = some (some (.inl (x - takeG (M v 2) x (M (v + 1) i.toNat))), sh, vset M v (addG i.toNat (-takeG (M v 2) x (M (v + 1) i.toNat)) (M (v + 1))) (M v 1)) := by
  unfold den
  rw [show ent 51 [(.inr (.inr (some v))), .inl i, .inl x] = [some (.inr (.inr (some v))), some (.inl i), some (.inl x), none, none] from rfl]
  have ho := vl_o hv
  have hp := hg i.toNat (by omega)
  simp (disch := first | omega | (exact Nat.le_of_ble_eq_true rfl) | assumption | rfl) only [e51_0, e51_1, e51_2, e51_5, e51_6, e51_9, e51_10, e51_11, e51_14, e51_15, e51_16, e51_17, e51_20, e51_22, e51_23, e51_26, e51_27, e51_28, e51_29, e51_32, e51_34, e51_35, e51_38, e51_39, e51_41, e51_42, bindS, vl_g0 hv, vl_g2 hv, tL0, tL1, app1, app0, c_glass_in hv h0 h1]
  rw [wr_id (x := M (v + 1) i.toNat + M v 2) (by omega) (by omega)]
  generalize ht : (if (if M (v + 1) i.toNat + M v 2 < 0 then 0 else M (v + 1) i.toNat + M v 2) < x then (if M (v + 1) i.toNat + M v 2 < 0 then 0 else M (v + 1) i.toNat + M v 2) else x) = t
  have e1 : t = takeG (M v 2) x (M (v + 1) i.toNat) := by
    rw [← ht]
    unfold takeG
    repeat' split
    all_goals omega
  have e2 : 0 ≤ t ∧ t ≤ 1000 := by
    rw [← ht]
    repeat' split
    all_goals omega
  rw [c_put_in hv.2.2 h0 h1]
  simp only [bindS, tL0, app0, e51_0, e51_1, e51_2, e51_5, e51_6, e51_9, e51_10, e51_11, e51_14, e51_15, e51_16, e51_17, e51_20, e51_22, e51_23, e51_26, e51_27, e51_28, e51_29, e51_32, e51_34, e51_35, e51_38, e51_39, e51_41, e51_42]
  rw [wr_id (x := M (v + 1) i.toNat - t) (by omega) (by omega), wr_id (by omega) (by omega), vs_put0, e1]
  rfl
theorem c_vcopy {v w : Nat} {d : Nat} {sh : List PS} (hv : VL sh v) (hw : VL sh w) (h1 : v ≠ w) (h2 : v ≠ w + 1) (h3 : v + 1 ≠ w) {M : PM} : den (d + 1) 52 [(.inr (.inr (some v))), (.inr (.inr (some w)))] sh M = some (none, sh, setC (setC (vset M v (fil (M (w + 1)) (M (v + 1)) 6) (M w 1)) v 2 (M w 2)) v 3 (M w 3)) := by
  unfold den
  rw [show ent 52 [(.inr (.inr (some v))), (.inr (.inr (some w)))] = [some (.inr (.inr (some v))), some (.inr (.inr (some w)))] from rfl]
  have a1 : w ≠ v := fun q => h1 q.symm
  have a2 : w ≠ v + 1 := fun q => h3 q.symm
  simp (disch := first | omega | (exact Nat.le_of_ble_eq_true rfl) | assumption | rfl) only [e52_0, e52_1, e52_4, e52_5, e52_8, e52_11, e52_12, e52_13, e52_16, e52_19, e52_20, e52_21, e52_24, e52_27, e52_28, e52_29, e52_32, e52_35, bindS, vl_g0 hv, vl_g0 hw, c_copyRow d M hw.2.2 hv.2.2 (fun q => h1 (by omega)) (by decide), tL0, app0, vl_g1 hw, vl_g2 hw, vl_g3 hw, vl_p1 hv, vl_p2 hv, vl_p3 hv, setR_row a2, setC_row a1]
  rfl
