/-! the constructors; written by wip/whole/gen_ctor.py -/
def ZF (a : Nat) (M : PM) : Prop := ∀ b j, a ≤ b → M b j = 0
theorem zr {a : Nat} {M : PM} (h : ZF a M) : setR M a (fun _ => 0) = M := by
  funext b j
  simp only [setR]
  split
  · rename_i e; rw [e]; exact (h a j (Nat.le_refl _)).symm
  · rfl
theorem zc {a i : Nat} {M : PM} (h : M a i = 0) : setC M a i 0 = M := by
  have := setC_same (M := M) (a := a) (i := i)
  rw [h] at this
  exact this
theorem gM {α : Type} (x : α) (R : List α) : ∀ P : List α, (P ++ x :: R)[P.length]? = some x
  | [] => rfl
  | y :: P => by
    show (y :: (P ++ x :: R))[P.length + 1]? = _
    rw [List.getElem?_cons_succ]
    exact gM x R P
theorem sM {α : Type} (x y : α) (R : List α) : ∀ P : List α, (P ++ x :: R).set P.length y = P ++ y :: R
  | [] => rfl
  | z :: P => by
    show z :: (P ++ x :: R).set P.length y = _
    rw [sM x y R P]
    rfl
theorem nl0 {P R : List PS} {x : PS} : ¬ (P ++ x :: R).length = 0 := by simp
section
variable {P R : List PS} {a c n j w : Nat} {Lf : List (Option (Option Nat))} {M : PM}
theorem putR_m {o : Option Nat} (hP : P.length = a) (ha : 0 < a) (hw : 0 < w) (hc : c < 8) (hL : Lf[j]? = some (some o)) : putR (P ++ (c, n, Lf) :: R) a c j w = some (P ++ (c, n, Lf.set j (some (some w))) :: R) := by
  subst hP
  unfold putR
  rw [if_neg (by omega), gM]
  simp only [hL, sM]
  rw [if_pos ⟨trivial, hc⟩]
theorem putI_m {x : Int} {b : Bool} (hP : P.length = a) (ha : 0 < a) (hc : c < 8) (hL : Lf[j]? = some none) (hb : b = false ∨ x = 0 ∨ x = 1) : putI (P ++ (c, n, Lf) :: R) M a c j b x = some (setC M a j x) := by
  subst hP
  unfold putI
  rw [if_neg (by omega), gM]
  simp only [hL]
  rw [if_pos ⟨trivial, hc, trivial, hb⟩]
theorem getf_m {r : Nat} (hP : P.length = a) (ha : 0 < a) (hc : c < 8) (hL : Lf[j]? = some (some (some r))) : getf (P ++ (c, n, Lf) :: R) M a c j = some (.inr (.inr (some r))) := by
  subst hP
  unfold getf
  rw [if_neg (by omega), gM]
  simp only [hL]
  rw [if_pos ⟨trivial, hc⟩]
theorem isObj_m (hP : P.length = a) (ha : 0 < a) : isObj (P ++ (c, n, Lf) :: R) (some (.inr (.inr (some a)))) c = true := by
  subst hP
  unfold isObj
  simp only [gM]
  rw [if_neg (by omega)]
  simp
theorem gK {α : Type} (Q : List α) (k : Nat) : ∀ P : List α, (P ++ Q)[P.length + k]? = Q[k]?
  | [] => by simp
  | y :: P => by
    show (y :: (P ++ Q))[P.length + 1 + k]? = _
    rw [show P.length + 1 + k = P.length + k + 1 by omega, List.getElem?_cons_succ]
    exact gK Q k P
theorem rput_m {x : Int} {r n5 : Nat} {L5 : List (Option (Option Nat))} {k : Nat} (hP : P.length = a) (ha : 0 < a) (hx : 0 ≤ x) (hn : x < n) (hl : x.toNat < Lf.length) (hr : r = a + (k + 1)) (h5 : R[k]? = some (5, n5, L5)) : rput (P ++ (10, n, Lf) :: R) a x r = some (P ++ (10, n, Lf.set x.toNat (some (some r))) :: R) := by
  have g : (P ++ (10, n, Lf) :: R)[r]? = some (5, n5, L5) := by
    rw [hr, ← hP, gK, List.getElem?_cons_succ]
    exact h5
  subst hP
  unfold rput
  rw [if_neg (by omega), gM]
  dsimp only
  rw [if_pos ⟨hx, hn, rfl, hl⟩, g]
  show some ((P ++ _ :: R).set P.length _) = _
  rw [sM]
theorem alen_m (hP : P.length = a) (ha : 0 < a) : alen (P ++ (10, 8, Lf) :: R) a = some (.inl 8) := by
  subst hP
  unfold alen
  rw [gM]
  dsimp only
  rw [if_pos (Or.inr ⟨by omega, by decide⟩)]
  rfl
end

theorem k37 {d a : Nat} {P : List PS} {M : PM} (hP : P.length = a) (ha : 0 < a) (hz : ZF a M) : den (d + 1) 37 [(.inr (.inr (some a)))] (P ++ [(5, 0, dfl 5)]) M = some (none, P ++ ((5, 0, [some (some (a + 1)), none, none, none]) : PS) :: ((8, 6, []) : PS) :: [], setC (setC (M) a 2 9) a 3 2) := by
  have z1 : setR (M) (a + 1) (fun _ => 0) = M := zr (fun b j hb => by (repeat rw [setC_row (by omega)]); exact hz b j (by omega))
  have p1 : putR (P ++ (5, 0, [some none, none, none, none]) :: ((8, 6, []) : PS) :: []) a 5 0 (a + 1) = some (P ++ (5, 0, [some (some (a + 1)), none, none, none]) :: ((8, 6, []) : PS) :: []) := putR_m hP ha (by omega) (by decide) rfl
  have p2 : putI (P ++ (5, 0, [some (some (a + 1)), none, none, none]) :: ((8, 6, []) : PS) :: []) (M) a 5 1 false 0 = some (setC (M) a 1 0) := putI_m hP ha (by decide) rfl (by simp)
  have z2 : setC (M) a 1 0 = M := zc (by (repeat first | rw [setC_i (by decide)] | rw [setC_row (by omega)]); exact hz _ _ (Nat.le_refl _))
  have p3 : putI (P ++ (5, 0, [some (some (a + 1)), none, none, none]) :: ((8, 6, []) : PS) :: []) (M) a 5 2 false 9 = some (setC (M) a 2 9) := putI_m hP ha (by decide) rfl (by simp)
  have p4 : putI (P ++ (5, 0, [some (some (a + 1)), none, none, none]) :: ((8, 6, []) : PS) :: []) (setC (M) a 2 9) a 5 3 false 2 = some (setC (setC (M) a 2 9) a 3 2) := putI_m hP ha (by decide) rfl (by simp)
  unfold den
  rw [show ent 37 [(.inr (.inr (some a)))] = [some (.inr (.inr (some a)))] from rfl, show dfl 5 = [some none, none, none, none] from rfl]
  simp (disch := first | assumption | omega | (exact Nat.le_of_ble_eq_true rfl) | (exact nl0) | (exact ⟨by decide, by decide, nl0⟩) | rfl) only [e37_0, e37_1, e37_4, e37_5, e37_7, e37_9, e37_12, e37_13, e37_14, e37_17, e37_18, e37_20, e37_23, e37_24, e37_25, e37_28, z1, p1, p2, z2, p3, p4, List.append_assoc, List.cons_append, List.nil_append, List.length_append, List.length_cons, List.length_nil, hP, Nat.zero_add, Nat.reduceAdd, Nat.add_assoc, bindS, tL0, app0, Int.reduceToNat]

theorem k16 {d a : Nat} {P : List PS} {M : PM} (hP : P.length = a) (ha : 0 < a) (hz : ZF a M) : den (d + 1) 16 [(.inr (.inr (some a)))] (P ++ [(3, 0, dfl 3)]) M = some (none, P ++ ((3, 0, [some (some (a + 1)), some (some (a + 2)), some (some (a + 3)), none]) : PS) :: ((8, 7, []) : PS) :: ((8, 7, []) : PS) :: ((8, 7, []) : PS) :: [], M) := by
  have z1 : setR (M) (a + 1) (fun _ => 0) = M := zr (fun b j hb => by (repeat rw [setC_row (by omega)]); exact hz b j (by omega))
  have p1 : putR (P ++ (3, 0, [some none, some none, some none, none]) :: ((8, 7, []) : PS) :: []) a 3 0 (a + 1) = some (P ++ (3, 0, [some (some (a + 1)), some none, some none, none]) :: ((8, 7, []) : PS) :: []) := putR_m hP ha (by omega) (by decide) rfl
  have z2 : setR (M) (a + 2) (fun _ => 0) = M := zr (fun b j hb => by (repeat rw [setC_row (by omega)]); exact hz b j (by omega))
  have p2 : putR (P ++ (3, 0, [some (some (a + 1)), some none, some none, none]) :: ((8, 7, []) : PS) :: ((8, 7, []) : PS) :: []) a 3 1 (a + 2) = some (P ++ (3, 0, [some (some (a + 1)), some (some (a + 2)), some none, none]) :: ((8, 7, []) : PS) :: ((8, 7, []) : PS) :: []) := putR_m hP ha (by omega) (by decide) rfl
  have z3 : setR (M) (a + 3) (fun _ => 0) = M := zr (fun b j hb => by (repeat rw [setC_row (by omega)]); exact hz b j (by omega))
  have p3 : putR (P ++ (3, 0, [some (some (a + 1)), some (some (a + 2)), some none, none]) :: ((8, 7, []) : PS) :: ((8, 7, []) : PS) :: ((8, 7, []) : PS) :: []) a 3 2 (a + 3) = some (P ++ (3, 0, [some (some (a + 1)), some (some (a + 2)), some (some (a + 3)), none]) :: ((8, 7, []) : PS) :: ((8, 7, []) : PS) :: ((8, 7, []) : PS) :: []) := putR_m hP ha (by omega) (by decide) rfl
  have p4 : putI (P ++ (3, 0, [some (some (a + 1)), some (some (a + 2)), some (some (a + 3)), none]) :: ((8, 7, []) : PS) :: ((8, 7, []) : PS) :: ((8, 7, []) : PS) :: []) (M) a 3 3 false 0 = some (setC (M) a 3 0) := putI_m hP ha (by decide) rfl (by simp)
  have z4 : setC (M) a 3 0 = M := zc (by (repeat first | rw [setC_i (by decide)] | rw [setC_row (by omega)]); exact hz _ _ (Nat.le_refl _))
  unfold den
  rw [show ent 16 [(.inr (.inr (some a)))] = [some (.inr (.inr (some a)))] from rfl, show dfl 3 = [some none, some none, some none, none] from rfl]
  simp (disch := first | assumption | omega | (exact Nat.le_of_ble_eq_true rfl) | (exact nl0) | (exact ⟨by decide, by decide, nl0⟩) | rfl) only [e16_0, e16_1, e16_4, e16_5, e16_7, e16_9, e16_12, e16_13, e16_15, e16_17, e16_20, e16_21, e16_23, e16_25, e16_28, e16_29, e16_30, e16_33, z1, p1, z2, p2, z3, p3, p4, z4, List.append_assoc, List.cons_append, List.nil_append, List.length_append, List.length_cons, List.length_nil, hP, Nat.zero_add, Nat.reduceAdd, Nat.add_assoc, bindS, tL0, app0, Int.reduceToNat]

theorem k10 {d a : Nat} {P : List PS} {M : PM} (hP : P.length = a) (ha : 0 < a) (hz : ZF a M) : den (d + 1) 10 [(.inr (.inr (some a)))] (P ++ [(2, 0, dfl 2)]) M = some (none, P ++ ((2, 0, [some (some (a + 1)), some (some (a + 2)), none]) : PS) :: ((8, 6, []) : PS) :: ((8, 6, []) : PS) :: [], M) := by
  have z1 : setR (M) (a + 1) (fun _ => 0) = M := zr (fun b j hb => by (repeat rw [setC_row (by omega)]); exact hz b j (by omega))
  have p1 : putR (P ++ (2, 0, [some none, some none, none]) :: ((8, 6, []) : PS) :: []) a 2 0 (a + 1) = some (P ++ (2, 0, [some (some (a + 1)), some none, none]) :: ((8, 6, []) : PS) :: []) := putR_m hP ha (by omega) (by decide) rfl
  have z2 : setR (M) (a + 2) (fun _ => 0) = M := zr (fun b j hb => by (repeat rw [setC_row (by omega)]); exact hz b j (by omega))
  have p2 : putR (P ++ (2, 0, [some (some (a + 1)), some none, none]) :: ((8, 6, []) : PS) :: ((8, 6, []) : PS) :: []) a 2 1 (a + 2) = some (P ++ (2, 0, [some (some (a + 1)), some (some (a + 2)), none]) :: ((8, 6, []) : PS) :: ((8, 6, []) : PS) :: []) := putR_m hP ha (by omega) (by decide) rfl
  have p3 : putI (P ++ (2, 0, [some (some (a + 1)), some (some (a + 2)), none]) :: ((8, 6, []) : PS) :: ((8, 6, []) : PS) :: []) (M) a 2 2 false 0 = some (setC (M) a 2 0) := putI_m hP ha (by decide) rfl (by simp)
  have z3 : setC (M) a 2 0 = M := zc (by (repeat first | rw [setC_i (by decide)] | rw [setC_row (by omega)]); exact hz _ _ (Nat.le_refl _))
  unfold den
  rw [show ent 10 [(.inr (.inr (some a)))] = [some (.inr (.inr (some a)))] from rfl, show dfl 2 = [some none, some none, none] from rfl]
  simp (disch := first | assumption | omega | (exact Nat.le_of_ble_eq_true rfl) | (exact nl0) | (exact ⟨by decide, by decide, nl0⟩) | rfl) only [e10_0, e10_1, e10_4, e10_5, e10_7, e10_9, e10_12, e10_13, e10_15, e10_17, e10_20, e10_21, e10_22, e10_25, z1, p1, z2, p2, p3, z3, List.append_assoc, List.cons_append, List.nil_append, List.length_append, List.length_cons, List.length_nil, hP, Nat.zero_add, Nat.reduceAdd, Nat.add_assoc, bindS, tL0, app0, Int.reduceToNat]

theorem k25 {d a : Nat} {P : List PS} {M : PM} (hP : P.length = a) (ha : 0 < a) (hz : ZF a M) : den (d + 1) 25 [(.inr (.inr (some a)))] (P ++ [(4, 0, dfl 4)]) M = some (none, P ++ ((4, 0, [some (some (a + 1)), none, some (some (a + 2)), some (some (a + 3)), some (some (a + 4)), none, none, none]) : PS) :: ((8, 60, []) : PS) :: ((8, 60, []) : PS) :: ((8, 60, []) : PS) :: ((8, 60, []) : PS) :: [], M) := by
  have z1 : setR (M) (a + 1) (fun _ => 0) = M := zr (fun b j hb => by (repeat rw [setC_row (by omega)]); exact hz b j (by omega))
  have p1 : putR (P ++ (4, 0, [some none, none, some none, some none, some none, none, none, none]) :: ((8, 60, []) : PS) :: []) a 4 0 (a + 1) = some (P ++ (4, 0, [some (some (a + 1)), none, some none, some none, some none, none, none, none]) :: ((8, 60, []) : PS) :: []) := putR_m hP ha (by omega) (by decide) rfl
  have p2 : putI (P ++ (4, 0, [some (some (a + 1)), none, some none, some none, some none, none, none, none]) :: ((8, 60, []) : PS) :: []) (M) a 4 1 false 0 = some (setC (M) a 1 0) := putI_m hP ha (by decide) rfl (by simp)
  have z2 : setC (M) a 1 0 = M := zc (by (repeat first | rw [setC_i (by decide)] | rw [setC_row (by omega)]); exact hz _ _ (Nat.le_refl _))
  have z3 : setR (M) (a + 2) (fun _ => 0) = M := zr (fun b j hb => by (repeat rw [setC_row (by omega)]); exact hz b j (by omega))
  have p3 : putR (P ++ (4, 0, [some (some (a + 1)), none, some none, some none, some none, none, none, none]) :: ((8, 60, []) : PS) :: ((8, 60, []) : PS) :: []) a 4 2 (a + 2) = some (P ++ (4, 0, [some (some (a + 1)), none, some (some (a + 2)), some none, some none, none, none, none]) :: ((8, 60, []) : PS) :: ((8, 60, []) : PS) :: []) := putR_m hP ha (by omega) (by decide) rfl
  have z4 : setR (M) (a + 3) (fun _ => 0) = M := zr (fun b j hb => by (repeat rw [setC_row (by omega)]); exact hz b j (by omega))
  have p4 : putR (P ++ (4, 0, [some (some (a + 1)), none, some (some (a + 2)), some none, some none, none, none, none]) :: ((8, 60, []) : PS) :: ((8, 60, []) : PS) :: ((8, 60, []) : PS) :: []) a 4 3 (a + 3) = some (P ++ (4, 0, [some (some (a + 1)), none, some (some (a + 2)), some (some (a + 3)), some none, none, none, none]) :: ((8, 60, []) : PS) :: ((8, 60, []) : PS) :: ((8, 60, []) : PS) :: []) := putR_m hP ha (by omega) (by decide) rfl
  have z5 : setR (M) (a + 4) (fun _ => 0) = M := zr (fun b j hb => by (repeat rw [setC_row (by omega)]); exact hz b j (by omega))
  have p5 : putR (P ++ (4, 0, [some (some (a + 1)), none, some (some (a + 2)), some (some (a + 3)), some none, none, none, none]) :: ((8, 60, []) : PS) :: ((8, 60, []) : PS) :: ((8, 60, []) : PS) :: ((8, 60, []) : PS) :: []) a 4 4 (a + 4) = some (P ++ (4, 0, [some (some (a + 1)), none, some (some (a + 2)), some (some (a + 3)), some (some (a + 4)), none, none, none]) :: ((8, 60, []) : PS) :: ((8, 60, []) : PS) :: ((8, 60, []) : PS) :: ((8, 60, []) : PS) :: []) := putR_m hP ha (by omega) (by decide) rfl
  have p6 : putI (P ++ (4, 0, [some (some (a + 1)), none, some (some (a + 2)), some (some (a + 3)), some (some (a + 4)), none, none, none]) :: ((8, 60, []) : PS) :: ((8, 60, []) : PS) :: ((8, 60, []) : PS) :: ((8, 60, []) : PS) :: []) (M) a 4 5 false 0 = some (setC (M) a 5 0) := putI_m hP ha (by decide) rfl (by simp)
  have z6 : setC (M) a 5 0 = M := zc (by (repeat first | rw [setC_i (by decide)] | rw [setC_row (by omega)]); exact hz _ _ (Nat.le_refl _))
  have p7 : putI (P ++ (4, 0, [some (some (a + 1)), none, some (some (a + 2)), some (some (a + 3)), some (some (a + 4)), none, none, none]) :: ((8, 60, []) : PS) :: ((8, 60, []) : PS) :: ((8, 60, []) : PS) :: ((8, 60, []) : PS) :: []) (M) a 4 6 false 0 = some (setC (M) a 6 0) := putI_m hP ha (by decide) rfl (by simp)
  have z7 : setC (M) a 6 0 = M := zc (by (repeat first | rw [setC_i (by decide)] | rw [setC_row (by omega)]); exact hz _ _ (Nat.le_refl _))
  have p8 : putI (P ++ (4, 0, [some (some (a + 1)), none, some (some (a + 2)), some (some (a + 3)), some (some (a + 4)), none, none, none]) :: ((8, 60, []) : PS) :: ((8, 60, []) : PS) :: ((8, 60, []) : PS) :: ((8, 60, []) : PS) :: []) (M) a 4 7 false 0 = some (setC (M) a 7 0) := putI_m hP ha (by decide) rfl (by simp)
  have z8 : setC (M) a 7 0 = M := zc (by (repeat first | rw [setC_i (by decide)] | rw [setC_row (by omega)]); exact hz _ _ (Nat.le_refl _))
  unfold den
  rw [show ent 25 [(.inr (.inr (some a)))] = [some (.inr (.inr (some a)))] from rfl, show dfl 4 = [some none, none, some none, some none, some none, none, none, none] from rfl]
  simp (disch := first | assumption | omega | (exact Nat.le_of_ble_eq_true rfl) | (exact nl0) | (exact ⟨by decide, by decide, nl0⟩) | rfl) only [e25_0, e25_1, e25_4, e25_5, e25_7, e25_9, e25_12, e25_13, e25_14, e25_17, e25_18, e25_20, e25_22, e25_25, e25_26, e25_28, e25_30, e25_33, e25_34, e25_36, e25_38, e25_41, e25_42, e25_43, e25_46, e25_47, e25_48, e25_51, e25_52, e25_53, e25_56, z1, p1, p2, z2, z3, p3, z4, p4, z5, p5, p6, z6, p7, z7, p8, z8, List.append_assoc, List.cons_append, List.nil_append, List.length_append, List.length_cons, List.length_nil, hP, Nat.zero_add, Nat.reduceAdd, Nat.add_assoc, bindS, tL0, app0, Int.reduceToNat]

theorem k92 {d a : Nat} {P : List PS} {M : PM} (hP : P.length = a) (ha : 0 < a) (hz : ZF a M) : den (d + 1) 92 [(.inr (.inr (some a)))] (P ++ [(7, 0, dfl 7)]) M = some (none, P ++ ((7, 0, [none, none, none, some (some (a + 1)), none, some (some (a + 2)), none, some (some (a + 3)), none, some (some (a + 4)), some (some (a + 5)), none, none, none, none, some (some (a + 6)), some (some (a + 7)), none, some (some (a + 8)), some (some (a + 9))]) : PS) :: ((8, 6, []) : PS) :: ((8, 21, []) : PS) :: ((8, 12, []) : PS) :: ((8, 60, []) : PS) :: ((8, 6, []) : PS) :: ((8, 7, []) : PS) :: ((8, 7, []) : PS) :: ((8, 96, []) : PS) :: ((9, 2, []) : PS) :: [], setC (setC (M) a 0 9) a 1 2) := by
  have p1 : putI (P ++ (7, 0, [none, none, none, some none, none, some none, none, some none, none, some none, some none, none, none, none, none, some none, some none, none, some none, some none]) :: []) (M) a 7 0 false 9 = some (setC (M) a 0 9) := putI_m hP ha (by decide) rfl (by simp)
  have p2 : putI (P ++ (7, 0, [none, none, none, some none, none, some none, none, some none, none, some none, some none, none, none, none, none, some none, some none, none, some none, some none]) :: []) (setC (M) a 0 9) a 7 1 false 2 = some (setC (setC (M) a 0 9) a 1 2) := putI_m hP ha (by decide) rfl (by simp)
  have z3 : setR (setC (setC (M) a 0 9) a 1 2) (a + 1) (fun _ => 0) = setC (setC (M) a 0 9) a 1 2 := zr (fun b j hb => by (repeat rw [setC_row (by omega)]); exact hz b j (by omega))
  have p3 : putR (P ++ (7, 0, [none, none, none, some none, none, some none, none, some none, none, some none, some none, none, none, none, none, some none, some none, none, some none, some none]) :: ((8, 6, []) : PS) :: []) a 7 3 (a + 1) = some (P ++ (7, 0, [none, none, none, some (some (a + 1)), none, some none, none, some none, none, some none, some none, none, none, none, none, some none, some none, none, some none, some none]) :: ((8, 6, []) : PS) :: []) := putR_m hP ha (by omega) (by decide) rfl
  have z4 : setR (setC (setC (M) a 0 9) a 1 2) (a + 2) (fun _ => 0) = setC (setC (M) a 0 9) a 1 2 := zr (fun b j hb => by (repeat rw [setC_row (by omega)]); exact hz b j (by omega))
  have p4 : putR (P ++ (7, 0, [none, none, none, some (some (a + 1)), none, some none, none, some none, none, some none, some none, none, none, none, none, some none, some none, none, some none, some none]) :: ((8, 6, []) : PS) :: ((8, 21, []) : PS) :: []) a 7 5 (a + 2) = some (P ++ (7, 0, [none, none, none, some (some (a + 1)), none, some (some (a + 2)), none, some none, none, some none, some none, none, none, none, none, some none, some none, none, some none, some none]) :: ((8, 6, []) : PS) :: ((8, 21, []) : PS) :: []) := putR_m hP ha (by omega) (by decide) rfl
  have z5 : setR (setC (setC (M) a 0 9) a 1 2) (a + 3) (fun _ => 0) = setC (setC (M) a 0 9) a 1 2 := zr (fun b j hb => by (repeat rw [setC_row (by omega)]); exact hz b j (by omega))
  have p5 : putR (P ++ (7, 0, [none, none, none, some (some (a + 1)), none, some (some (a + 2)), none, some none, none, some none, some none, none, none, none, none, some none, some none, none, some none, some none]) :: ((8, 6, []) : PS) :: ((8, 21, []) : PS) :: ((8, 12, []) : PS) :: []) a 7 7 (a + 3) = some (P ++ (7, 0, [none, none, none, some (some (a + 1)), none, some (some (a + 2)), none, some (some (a + 3)), none, some none, some none, none, none, none, none, some none, some none, none, some none, some none]) :: ((8, 6, []) : PS) :: ((8, 21, []) : PS) :: ((8, 12, []) : PS) :: []) := putR_m hP ha (by omega) (by decide) rfl
  have z6 : setR (setC (setC (M) a 0 9) a 1 2) (a + 4) (fun _ => 0) = setC (setC (M) a 0 9) a 1 2 := zr (fun b j hb => by (repeat rw [setC_row (by omega)]); exact hz b j (by omega))
  have p6 : putR (P ++ (7, 0, [none, none, none, some (some (a + 1)), none, some (some (a + 2)), none, some (some (a + 3)), none, some none, some none, none, none, none, none, some none, some none, none, some none, some none]) :: ((8, 6, []) : PS) :: ((8, 21, []) : PS) :: ((8, 12, []) : PS) :: ((8, 60, []) : PS) :: []) a 7 9 (a + 4) = some (P ++ (7, 0, [none, none, none, some (some (a + 1)), none, some (some (a + 2)), none, some (some (a + 3)), none, some (some (a + 4)), some none, none, none, none, none, some none, some none, none, some none, some none]) :: ((8, 6, []) : PS) :: ((8, 21, []) : PS) :: ((8, 12, []) : PS) :: ((8, 60, []) : PS) :: []) := putR_m hP ha (by omega) (by decide) rfl
  have z7 : setR (setC (setC (M) a 0 9) a 1 2) (a + 5) (fun _ => 0) = setC (setC (M) a 0 9) a 1 2 := zr (fun b j hb => by (repeat rw [setC_row (by omega)]); exact hz b j (by omega))
  have p7 : putR (P ++ (7, 0, [none, none, none, some (some (a + 1)), none, some (some (a + 2)), none, some (some (a + 3)), none, some (some (a + 4)), some none, none, none, none, none, some none, some none, none, some none, some none]) :: ((8, 6, []) : PS) :: ((8, 21, []) : PS) :: ((8, 12, []) : PS) :: ((8, 60, []) : PS) :: ((8, 6, []) : PS) :: []) a 7 10 (a + 5) = some (P ++ (7, 0, [none, none, none, some (some (a + 1)), none, some (some (a + 2)), none, some (some (a + 3)), none, some (some (a + 4)), some (some (a + 5)), none, none, none, none, some none, some none, none, some none, some none]) :: ((8, 6, []) : PS) :: ((8, 21, []) : PS) :: ((8, 12, []) : PS) :: ((8, 60, []) : PS) :: ((8, 6, []) : PS) :: []) := putR_m hP ha (by omega) (by decide) rfl
  have z8 : setR (setC (setC (M) a 0 9) a 1 2) (a + 6) (fun _ => 0) = setC (setC (M) a 0 9) a 1 2 := zr (fun b j hb => by (repeat rw [setC_row (by omega)]); exact hz b j (by omega))
  have p8 : putR (P ++ (7, 0, [none, none, none, some (some (a + 1)), none, some (some (a + 2)), none, some (some (a + 3)), none, some (some (a + 4)), some (some (a + 5)), none, none, none, none, some none, some none, none, some none, some none]) :: ((8, 6, []) : PS) :: ((8, 21, []) : PS) :: ((8, 12, []) : PS) :: ((8, 60, []) : PS) :: ((8, 6, []) : PS) :: ((8, 7, []) : PS) :: []) a 7 15 (a + 6) = some (P ++ (7, 0, [none, none, none, some (some (a + 1)), none, some (some (a + 2)), none, some (some (a + 3)), none, some (some (a + 4)), some (some (a + 5)), none, none, none, none, some (some (a + 6)), some none, none, some none, some none]) :: ((8, 6, []) : PS) :: ((8, 21, []) : PS) :: ((8, 12, []) : PS) :: ((8, 60, []) : PS) :: ((8, 6, []) : PS) :: ((8, 7, []) : PS) :: []) := putR_m hP ha (by omega) (by decide) rfl
  have z9 : setR (setC (setC (M) a 0 9) a 1 2) (a + 7) (fun _ => 0) = setC (setC (M) a 0 9) a 1 2 := zr (fun b j hb => by (repeat rw [setC_row (by omega)]); exact hz b j (by omega))
  have p9 : putR (P ++ (7, 0, [none, none, none, some (some (a + 1)), none, some (some (a + 2)), none, some (some (a + 3)), none, some (some (a + 4)), some (some (a + 5)), none, none, none, none, some (some (a + 6)), some none, none, some none, some none]) :: ((8, 6, []) : PS) :: ((8, 21, []) : PS) :: ((8, 12, []) : PS) :: ((8, 60, []) : PS) :: ((8, 6, []) : PS) :: ((8, 7, []) : PS) :: ((8, 7, []) : PS) :: []) a 7 16 (a + 7) = some (P ++ (7, 0, [none, none, none, some (some (a + 1)), none, some (some (a + 2)), none, some (some (a + 3)), none, some (some (a + 4)), some (some (a + 5)), none, none, none, none, some (some (a + 6)), some (some (a + 7)), none, some none, some none]) :: ((8, 6, []) : PS) :: ((8, 21, []) : PS) :: ((8, 12, []) : PS) :: ((8, 60, []) : PS) :: ((8, 6, []) : PS) :: ((8, 7, []) : PS) :: ((8, 7, []) : PS) :: []) := putR_m hP ha (by omega) (by decide) rfl
  have z10 : setR (setC (setC (M) a 0 9) a 1 2) (a + 8) (fun _ => 0) = setC (setC (M) a 0 9) a 1 2 := zr (fun b j hb => by (repeat rw [setC_row (by omega)]); exact hz b j (by omega))
  have p10 : putR (P ++ (7, 0, [none, none, none, some (some (a + 1)), none, some (some (a + 2)), none, some (some (a + 3)), none, some (some (a + 4)), some (some (a + 5)), none, none, none, none, some (some (a + 6)), some (some (a + 7)), none, some none, some none]) :: ((8, 6, []) : PS) :: ((8, 21, []) : PS) :: ((8, 12, []) : PS) :: ((8, 60, []) : PS) :: ((8, 6, []) : PS) :: ((8, 7, []) : PS) :: ((8, 7, []) : PS) :: ((8, 96, []) : PS) :: []) a 7 18 (a + 8) = some (P ++ (7, 0, [none, none, none, some (some (a + 1)), none, some (some (a + 2)), none, some (some (a + 3)), none, some (some (a + 4)), some (some (a + 5)), none, none, none, none, some (some (a + 6)), some (some (a + 7)), none, some (some (a + 8)), some none]) :: ((8, 6, []) : PS) :: ((8, 21, []) : PS) :: ((8, 12, []) : PS) :: ((8, 60, []) : PS) :: ((8, 6, []) : PS) :: ((8, 7, []) : PS) :: ((8, 7, []) : PS) :: ((8, 96, []) : PS) :: []) := putR_m hP ha (by omega) (by decide) rfl
  have z11 : setR (setC (setC (M) a 0 9) a 1 2) (a + 9) (fun _ => 0) = setC (setC (M) a 0 9) a 1 2 := zr (fun b j hb => by (repeat rw [setC_row (by omega)]); exact hz b j (by omega))
  have p11 : putR (P ++ (7, 0, [none, none, none, some (some (a + 1)), none, some (some (a + 2)), none, some (some (a + 3)), none, some (some (a + 4)), some (some (a + 5)), none, none, none, none, some (some (a + 6)), some (some (a + 7)), none, some (some (a + 8)), some none]) :: ((8, 6, []) : PS) :: ((8, 21, []) : PS) :: ((8, 12, []) : PS) :: ((8, 60, []) : PS) :: ((8, 6, []) : PS) :: ((8, 7, []) : PS) :: ((8, 7, []) : PS) :: ((8, 96, []) : PS) :: ((9, 2, []) : PS) :: []) a 7 19 (a + 9) = some (P ++ (7, 0, [none, none, none, some (some (a + 1)), none, some (some (a + 2)), none, some (some (a + 3)), none, some (some (a + 4)), some (some (a + 5)), none, none, none, none, some (some (a + 6)), some (some (a + 7)), none, some (some (a + 8)), some (some (a + 9))]) :: ((8, 6, []) : PS) :: ((8, 21, []) : PS) :: ((8, 12, []) : PS) :: ((8, 60, []) : PS) :: ((8, 6, []) : PS) :: ((8, 7, []) : PS) :: ((8, 7, []) : PS) :: ((8, 96, []) : PS) :: ((9, 2, []) : PS) :: []) := putR_m hP ha (by omega) (by decide) rfl
  have p12 : putI (P ++ (7, 0, [none, none, none, some (some (a + 1)), none, some (some (a + 2)), none, some (some (a + 3)), none, some (some (a + 4)), some (some (a + 5)), none, none, none, none, some (some (a + 6)), some (some (a + 7)), none, some (some (a + 8)), some (some (a + 9))]) :: ((8, 6, []) : PS) :: ((8, 21, []) : PS) :: ((8, 12, []) : PS) :: ((8, 60, []) : PS) :: ((8, 6, []) : PS) :: ((8, 7, []) : PS) :: ((8, 7, []) : PS) :: ((8, 96, []) : PS) :: ((9, 2, []) : PS) :: []) (setC (setC (M) a 0 9) a 1 2) a 7 2 false 0 = some (setC (setC (setC (M) a 0 9) a 1 2) a 2 0) := putI_m hP ha (by decide) rfl (by simp)
  have z12 : setC (setC (setC (M) a 0 9) a 1 2) a 2 0 = setC (setC (M) a 0 9) a 1 2 := zc (by (repeat first | rw [setC_i (by decide)] | rw [setC_row (by omega)]); exact hz _ _ (Nat.le_refl _))
  unfold den
  rw [show ent 92 [(.inr (.inr (some a)))] = [some (.inr (.inr (some a)))] from rfl, show dfl 7 = [none, none, none, some none, none, some none, none, some none, none, some none, some none, none, none, none, none, some none, some none, none, some none, some none] from rfl]
  simp (disch := first | assumption | omega | (exact Nat.le_of_ble_eq_true rfl) | (exact nl0) | (exact ⟨by decide, by decide, nl0⟩) | rfl) only [e92_0, e92_1, e92_4, e92_5, e92_7, e92_10, e92_11, e92_12, e92_15, e92_16, e92_18, e92_20, e92_23, e92_24, e92_26, e92_28, e92_31, e92_32, e92_34, e92_36, e92_39, e92_40, e92_42, e92_44, e92_47, e92_48, e92_50, e92_52, e92_55, e92_56, e92_58, e92_60, e92_63, e92_64, e92_66, e92_68, e92_71, e92_72, e92_74, e92_76, e92_79, e92_80, e92_81, e92_83, e92_86, e92_87, e92_88, e92_91, p1, p2, z3, p3, z4, p4, z5, p5, z6, p6, z7, p7, z8, p8, z9, p9, z10, p10, z11, p11, p12, z12, List.append_assoc, List.cons_append, List.nil_append, List.length_append, List.length_cons, List.length_nil, hP, Nat.zero_add, Nat.reduceAdd, Nat.add_assoc, bindS, tL0, app0, Int.reduceToNat]

theorem k0 {d a : Nat} {P : List PS} {M : PM} (hP : P.length = a) (ha : 0 < a) (hz : ZF a M) : den (d + 2) 0 [(.inr (.inr (some a)))] (P ++ [(0, 0, dfl 0)]) M = some (none, P ++ ((0, 0, [some (some (a + 1)), some (some (a + 3)), some (some (a + 7)), none]) : PS) :: ((5, 0, [some (some (a + 2)), none, none, none]) : PS) :: ((8, 6, []) : PS) :: ((3, 0, [some (some (a + 4)), some (some (a + 5)), some (some (a + 6)), none]) : PS) :: ((8, 7, []) : PS) :: ((8, 7, []) : PS) :: ((8, 7, []) : PS) :: ((2, 0, [some (some (a + 8)), some (some (a + 9)), none]) : PS) :: ((8, 6, []) : PS) :: ((8, 6, []) : PS) :: [], ((setC (setC ((M)) (a + 1) 2 9) (a + 1) 3 2))) := by
  have z1 : setR (M) (a + 1) (fun _ => 0) = M := zr (fun b j hb => by (repeat rw [setC_row (by omega)]); exact hz b j (by omega))
  have q1 : (P ++ (0, 0, [some none, some none, some none, none]) :: []).length = a + 1 := by simp [hP]
  have c1 := k37 (d := d) (P := P ++ (0, 0, [some none, some none, some none, none]) :: []) (a := a + 1) (M := M) q1 (by omega) (fun b j hb => by (repeat rw [setC_row (by omega)]); exact hz b j (by omega))
  have i1 : isObj ((P ++ (0, 0, [some none, some none, some none, none]) :: []) ++ [(5, 0, dfl 5)]) (some (.inr (.inr (some (a + 1))))) 5 = true := isObj_m q1 (by omega)
  simp only [List.append_assoc, List.cons_append, List.nil_append, Nat.add_assoc, Nat.reduceAdd] at c1 i1
  have p1 : putR (P ++ (0, 0, [some none, some none, some none, none]) :: ((5, 0, [some (some (a + 2)), none, none, none]) : PS) :: ((8, 6, []) : PS) :: []) a 0 0 (a + 1) = some (P ++ (0, 0, [some (some (a + 1)), some none, some none, none]) :: ((5, 0, [some (some (a + 2)), none, none, none]) : PS) :: ((8, 6, []) : PS) :: []) := putR_m hP ha (by omega) (by decide) rfl
  have z2 : setR (setC (setC ((M)) (a + 1) 2 9) (a + 1) 3 2) (a + 3) (fun _ => 0) = setC (setC ((M)) (a + 1) 2 9) (a + 1) 3 2 := zr (fun b j hb => by (repeat rw [setC_row (by omega)]); exact hz b j (by omega))
  have q2 : (P ++ (0, 0, [some (some (a + 1)), some none, some none, none]) :: ((5, 0, [some (some (a + 2)), none, none, none]) : PS) :: ((8, 6, []) : PS) :: []).length = a + 3 := by simp [hP]
  have c2 := k16 (d := d) (P := P ++ (0, 0, [some (some (a + 1)), some none, some none, none]) :: ((5, 0, [some (some (a + 2)), none, none, none]) : PS) :: ((8, 6, []) : PS) :: []) (a := a + 3) (M := setC (setC ((M)) (a + 1) 2 9) (a + 1) 3 2) q2 (by omega) (fun b j hb => by (repeat rw [setC_row (by omega)]); exact hz b j (by omega))
  have i2 : isObj ((P ++ (0, 0, [some (some (a + 1)), some none, some none, none]) :: ((5, 0, [some (some (a + 2)), none, none, none]) : PS) :: ((8, 6, []) : PS) :: []) ++ [(3, 0, dfl 3)]) (some (.inr (.inr (some (a + 3))))) 3 = true := isObj_m q2 (by omega)
  simp only [List.append_assoc, List.cons_append, List.nil_append, Nat.add_assoc, Nat.reduceAdd] at c2 i2
  have p2 : putR (P ++ (0, 0, [some (some (a + 1)), some none, some none, none]) :: ((5, 0, [some (some (a + 2)), none, none, none]) : PS) :: ((8, 6, []) : PS) :: ((3, 0, [some (some (a + 4)), some (some (a + 5)), some (some (a + 6)), none]) : PS) :: ((8, 7, []) : PS) :: ((8, 7, []) : PS) :: ((8, 7, []) : PS) :: []) a 0 1 (a + 3) = some (P ++ (0, 0, [some (some (a + 1)), some (some (a + 3)), some none, none]) :: ((5, 0, [some (some (a + 2)), none, none, none]) : PS) :: ((8, 6, []) : PS) :: ((3, 0, [some (some (a + 4)), some (some (a + 5)), some (some (a + 6)), none]) : PS) :: ((8, 7, []) : PS) :: ((8, 7, []) : PS) :: ((8, 7, []) : PS) :: []) := putR_m hP ha (by omega) (by decide) rfl
  have z3 : setR ((setC (setC ((M)) (a + 1) 2 9) (a + 1) 3 2)) (a + 7) (fun _ => 0) = (setC (setC ((M)) (a + 1) 2 9) (a + 1) 3 2) := zr (fun b j hb => by (repeat rw [setC_row (by omega)]); exact hz b j (by omega))
  have q3 : (P ++ (0, 0, [some (some (a + 1)), some (some (a + 3)), some none, none]) :: ((5, 0, [some (some (a + 2)), none, none, none]) : PS) :: ((8, 6, []) : PS) :: ((3, 0, [some (some (a + 4)), some (some (a + 5)), some (some (a + 6)), none]) : PS) :: ((8, 7, []) : PS) :: ((8, 7, []) : PS) :: ((8, 7, []) : PS) :: []).length = a + 7 := by simp [hP]
  have c3 := k10 (d := d) (P := P ++ (0, 0, [some (some (a + 1)), some (some (a + 3)), some none, none]) :: ((5, 0, [some (some (a + 2)), none, none, none]) : PS) :: ((8, 6, []) : PS) :: ((3, 0, [some (some (a + 4)), some (some (a + 5)), some (some (a + 6)), none]) : PS) :: ((8, 7, []) : PS) :: ((8, 7, []) : PS) :: ((8, 7, []) : PS) :: []) (a := a + 7) (M := (setC (setC ((M)) (a + 1) 2 9) (a + 1) 3 2)) q3 (by omega) (fun b j hb => by (repeat rw [setC_row (by omega)]); exact hz b j (by omega))
  have i3 : isObj ((P ++ (0, 0, [some (some (a + 1)), some (some (a + 3)), some none, none]) :: ((5, 0, [some (some (a + 2)), none, none, none]) : PS) :: ((8, 6, []) : PS) :: ((3, 0, [some (some (a + 4)), some (some (a + 5)), some (some (a + 6)), none]) : PS) :: ((8, 7, []) : PS) :: ((8, 7, []) : PS) :: ((8, 7, []) : PS) :: []) ++ [(2, 0, dfl 2)]) (some (.inr (.inr (some (a + 7))))) 2 = true := isObj_m q3 (by omega)
  simp only [List.append_assoc, List.cons_append, List.nil_append, Nat.add_assoc, Nat.reduceAdd] at c3 i3
  have p3 : putR (P ++ (0, 0, [some (some (a + 1)), some (some (a + 3)), some none, none]) :: ((5, 0, [some (some (a + 2)), none, none, none]) : PS) :: ((8, 6, []) : PS) :: ((3, 0, [some (some (a + 4)), some (some (a + 5)), some (some (a + 6)), none]) : PS) :: ((8, 7, []) : PS) :: ((8, 7, []) : PS) :: ((8, 7, []) : PS) :: ((2, 0, [some (some (a + 8)), some (some (a + 9)), none]) : PS) :: ((8, 6, []) : PS) :: ((8, 6, []) : PS) :: []) a 0 2 (a + 7) = some (P ++ (0, 0, [some (some (a + 1)), some (some (a + 3)), some (some (a + 7)), none]) :: ((5, 0, [some (some (a + 2)), none, none, none]) : PS) :: ((8, 6, []) : PS) :: ((3, 0, [some (some (a + 4)), some (some (a + 5)), some (some (a + 6)), none]) : PS) :: ((8, 7, []) : PS) :: ((8, 7, []) : PS) :: ((8, 7, []) : PS) :: ((2, 0, [some (some (a + 8)), some (some (a + 9)), none]) : PS) :: ((8, 6, []) : PS) :: ((8, 6, []) : PS) :: []) := putR_m hP ha (by omega) (by decide) rfl
  have p4 : putI (P ++ (0, 0, [some (some (a + 1)), some (some (a + 3)), some (some (a + 7)), none]) :: ((5, 0, [some (some (a + 2)), none, none, none]) : PS) :: ((8, 6, []) : PS) :: ((3, 0, [some (some (a + 4)), some (some (a + 5)), some (some (a + 6)), none]) : PS) :: ((8, 7, []) : PS) :: ((8, 7, []) : PS) :: ((8, 7, []) : PS) :: ((2, 0, [some (some (a + 8)), some (some (a + 9)), none]) : PS) :: ((8, 6, []) : PS) :: ((8, 6, []) : PS) :: []) (((setC (setC ((M)) (a + 1) 2 9) (a + 1) 3 2))) a 0 3 true 0 = some (setC (((setC (setC ((M)) (a + 1) 2 9) (a + 1) 3 2))) a 3 0) := putI_m hP ha (by decide) rfl (by simp)
  have z4 : setC (((setC (setC ((M)) (a + 1) 2 9) (a + 1) 3 2))) a 3 0 = ((setC (setC ((M)) (a + 1) 2 9) (a + 1) 3 2)) := zc (by (repeat first | rw [setC_i (by decide)] | rw [setC_row (by omega)]); exact hz _ _ (Nat.le_refl _))
  unfold den
  rw [show ent 0 [(.inr (.inr (some a)))] = [some (.inr (.inr (some a)))] from rfl, show dfl 0 = [some none, some none, some none, none] from rfl]
  simp (disch := first | assumption | omega | (exact Nat.le_of_ble_eq_true rfl) | (exact nl0) | (exact ⟨by decide, by decide, nl0⟩) | rfl) only [e0_0, e0_1, e0_4, e0_5, e0_8i, e0_8, e0_9, e0_12, e0_15, e0_16, e0_19i, e0_19, e0_20, e0_23, e0_26, e0_27, e0_30i, e0_30, e0_31, e0_34, e0_37, e0_38, e0_39, e0_42, z1, c1, p1, z2, c2, p2, z3, c3, p3, p4, z4, List.append_assoc, List.cons_append, List.nil_append, List.length_append, List.length_cons, List.length_nil, hP, Nat.zero_add, Nat.reduceAdd, Nat.add_assoc, bindS, tL0, app0, Int.reduceToNat]
