/-! quarrel, the loop -/
theorem waitI_b {x B : Int} (h : x ≤ B) (hB : 0 ≤ B) : 0 ≤ waitI x ∧ waitI x ≤ B := by unfold waitI; split <;> omega
section
variable {L : Nat} {p a o b t wh : Int}
theorem q_loop {MT : PM} {T0 : Int} (hb : 0 ≤ MT 37 2 ∧ MT 37 2 ≤ 99) (hp : 0 ≤ p ∧ p ≤ 5) (ho : 0 ≤ o ∧ o ≤ 5) (ha : 1 ≤ a ∧ a ≤ 99) (hbb : 1 ≤ b ∧ b ≤ 99) (ht : t ≤ 999) (hT0 : 0 ≤ T0 ∧ T0 ≤ 100000000) : ∀ (k i : Nat) (g si : Int) (G G' : Nat → Int) (l11 l12 l13 l14 : Option PV), (i : Int) + k = t → (0 ≤ g ∧ g ≤ t) → (i : Int) ≤ g → (0 ≤ si ∧ si ≤ g) → EqG G G' → BG G' (100000000 + g) →
    ∃ r G1 T1, ev 1999 69 105 [some (.inr (.inr (some 1))), some (.inl p), some (.inl a), some (.inl o), some (.inl b), some (.inl t), some (.inl wh), some (.inl (T0 + t)), some (.inl (i : Int)), some (.inl si), some (.inl (i : Int)), l11, l12, l13, l14] [] (SH L) (vset MT 37 G (T0 + g)) = some (some (.inl r), SH L, vset MT 37 G1 T1)
    ∧ ∀ (MQ : PM) (l10 l11 l12 : Option PV), MQ 63 0 = MT 37 2 → ∃ G2 T2, ev 1999 124 80 [some (.inr (.inr (some 63))), some (.inl p), some (.inl a), some (.inl o), some (.inl b), some (.inl t), some (.inl wh), some (.inl (i : Int)), some (.inl si), some (.inl (if (i : Int) % 2 = 0 then 1 else 0)), l10, l11, l12] [] (SH L) (nset MQ G' g) = some (some (.inl r), SH L, nset MQ G2 T2) := by
  intro k
  induction k with
  | zero =>
    intro i g si G G' l11 l12 l13 l14 hi hg hig hs hE hB
    exact ⟨_, _, _, cq_end (by omega), fun MQ _ _ _ hM => ⟨_, _, mq_end (by omega)⟩⟩
  | succ k ih =>
    intro i g si G G' l11 l12 l13 l14 hi hg hig hs hE hB
    have hF : (if (i : Int) % 2 = 0 then (1 : Int) else 0) = 0 ∨ (if (i : Int) % 2 = 0 then (1 : Int) else 0) = 1 := by split <;> simp
    have eF : (1 : Int) - (if (i : Int) % 2 = 0 then (1 : Int) else 0) = if ((i + 1 : Nat) : Int) % 2 = 0 then 1 else 0 := by
      repeat' split
      all_goals omega
    have eW : (if (if (i : Int) % 2 = 0 then (1 : Int) else 0) = 0 then o else p) = if (i : Int) % 2 = 0 then p else o := by
      repeat' split
      all_goals omega
    have eD : (if (if (i : Int) % 2 = 0 then (1 : Int) else 0) = 0 then b else a) = if (i : Int) % 2 = 0 then a else b := by
      repeat' split
      all_goals omega
    have hW : 0 ≤ (if (i : Int) % 2 = 0 then p else o) ∧ (if (i : Int) % 2 = 0 then p else o) < 6 := by split <;> omega
    have hD : 1 ≤ (if (i : Int) % 2 = 0 then a else b) ∧ (if (i : Int) % 2 = 0 then a else b) ≤ 99 := by split <;> omega
    have ch := cq_head (L := L) (p := p) (a := a) (o := o) (b := b) (t := t) (wh := wh) (MT := MT) (G := G) (T := T0 + g) (E := T0 + t) (n := i) (si := si) (i := i) (l11 := l11) (l12 := l12) (l13 := l13) (l14 := l14) (by omega) (by omega)
    have mh : ∀ (MQ : PM) (l10 l11 l12 : Option PV), g < t → _ := fun MQ l10 l11 l12 hgt => mq_head (L := L) (p := p) (a := a) (o := o) (b := b) (t := t) (wh := wh) (MQ := MQ) (G := G') (g := g) (n := i) (si := si) (l10 := l10) (l11 := l11) (l12 := l12) hgt hF
    simp only [eW, eD] at mh
    generalize (if (i : Int) % 2 = 0 then p else o) = W at *
    generalize (if (i : Int) % 2 = 0 then a else b) = D at *
    generalize (if (i : Int) % 2 = 0 then (1 : Int) else 0) = F at *
    have eg : G W.toNat = G' W.toNat := hE W.toNat (by omega)
    have hgb := hB W.toNat (by omega)
    have hwb := waitI_b hgb.2 (by omega)
    have hBG : BG G 200000000 := (hB.le (by omega)).eq hE
    by_cases hgo : waitI (G' W.toNat) + D ≤ t - g
    · have e1 : T0 + g + waitI (G W.toNat) + D = T0 + (g + waitI (G' W.toNat) + D) := by rw [eg]; omega
      have c1 := cq_go (L := L) (p := p) (a := a) (o := o) (b := b) (t := t) (wh := wh) (MT := MT) (G := G) (T := T0 + g) (E := T0 + t) (n := i) (si := si) (W := W) (D := D) (i := i) (l13 := l13) (l14 := l14) hb hW hD (by omega) (by omega) (by omega) (by omega) (by omega) hBG (by rw [eg]; omega)
      rw [e1, eg, show ((i : Int) + 1) = ((i + 1 : Nat) : Int) by omega] at c1
      have hE' : EqG (speakG (MT 37 2) D W.toNat (passG (MT 37 2) (waitI (G' W.toNat)) (-1) G)) (fireG (MT 37 2) D 1 W.toNat (runG (MT 37 2) (waitI (G' W.toNat)) G')) := EqG.speak (by omega) (EqG.run hwb.1 hE)
      have hB' : BG (fireG (MT 37 2) D 1 W.toNat (runG (MT 37 2) (waitI (G' W.toNat)) G')) (100000000 + (g + waitI (G' W.toNat) + D)) := (fire1_b (by omega) hb (by omega) (runG_b hb hwb.1 hB)).le (by omega)
      obtain ⟨r, G1, T1, q1, q2⟩ := ih (i + 1) (g + waitI (G' W.toNat) + D) (si + waitI (G' W.toNat)) _ _ (some (.inl W)) (some (.inl D)) (some (.inl (T0 + t - (T0 + g)))) (some (.inl (waitI (G' W.toNat)))) (by omega) (by omega) (by omega) (by omega) hE' hB'
      refine ⟨r, G1, T1, ch.trans (c1.trans q1), fun MQ l10 l11 l12 hM => ?_⟩
      obtain ⟨G2, T2, q3⟩ := q2 MQ (some (.inl W)) (some (.inl D)) (some (.inl (waitI (G' W.toNat)))) hM
      refine ⟨G2, T2, ?_⟩
      have m1 := mq_wait (L := L) (p := p) (a := a) (o := o) (b := b) (t := t) (wh := wh) (MQ := MQ) (G := G') (g := g) (n := i) (si := si) (W := W) (D := D) (l9 := some (.inl F)) (l12 := l12) hW
      have m2 := mq_run (L := L) (p := p) (a := a) (o := o) (b := b) (t := t) (wh := wh) (MQ := MQ) (G := G') (g := g) (n := i) (si := si) (W := W) (D := D) (w := waitI (G' W.toNat)) (l9 := some (.inl F)) (by rw [hM]; exact hb) (by omega) (by omega) ht (by omega) (hB.le (by omega)) (by omega)
      rw [if_neg (by omega), hM] at m2
      have m3 := mq_go (L := L) (p := p) (a := a) (o := o) (b := b) (t := t) (wh := wh) (MQ := MQ) (G := runG (MT 37 2) (waitI (G' W.toNat)) G') (g := g + waitI (G' W.toNat)) (n := i) (si := si + waitI (G' W.toNat)) (W := W) (D := D) (w := waitI (G' W.toNat)) (F := F) (by rw [hM]; exact hb) hW hD (by omega) ht (by omega) ((runG_b hb hwb.1 hB).le (by omega)) hF (by omega)
      rw [hM, eF, show ((i : Int) + 1) = ((i + 1 : Nat) : Int) by omega] at m3
      exact (mh MQ l10 l11 l12 (by omega)).trans (m1.trans (m2.trans (m3.trans q3)))
    · have c1 := cq_stop (L := L) (p := p) (a := a) (o := o) (b := b) (t := t) (wh := wh) (MT := MT) (G := G) (T := T0 + g) (E := T0 + t) (n := i) (si := si) (W := W) (D := D) (l11 := some (.inl (i : Int))) (l12 := some (.inl D)) (l13 := l13) (l14 := l14) hW hD (by omega) (by omega) (by omega) (by rw [eg]; omega) (by rw [eg]; omega)
      refine ⟨_, _, _, ch.trans c1, fun MQ l10 l11 l12 hM => ?_⟩
      rw [eg]
      by_cases hgt : g < t
      · have m1 := mq_wait (L := L) (p := p) (a := a) (o := o) (b := b) (t := t) (wh := wh) (MQ := MQ) (G := G') (g := g) (n := i) (si := si) (W := W) (D := D) (l9 := some (.inl F)) (l12 := l12) hW
        have m2 := mq_run (L := L) (p := p) (a := a) (o := o) (b := b) (t := t) (wh := wh) (MQ := MQ) (G := G') (g := g) (n := i) (si := si) (W := W) (D := D) (w := waitI (G' W.toNat)) (l9 := some (.inl F)) (by rw [hM]; exact hb) (by omega) (by omega) ht (by omega) (hB.le (by omega)) (by omega)
        rw [hM] at m2
        obtain ⟨G2, T2, m3⟩ := mq_stop (L := L) (p := p) (a := a) (o := o) (b := b) (t := t) (wh := wh) (MQ := MQ) (G := runG (MT 37 2) (waitI (G' W.toNat)) G') (g := g + waitI (G' W.toNat)) (n := i) (si := si + (if t < g + waitI (G' W.toNat) then t - g else waitI (G' W.toNat))) (W := W) (D := D) (w := waitI (G' W.toNat)) (F := F) (by rw [hM]; exact hb) hW hD (by omega) ht (by omega) ((runG_b hb hwb.1 hB).le (by omega)) hF (by omega)
        have e2 : (if T0 + t - (T0 + g) < waitI (G' W.toNat) then T0 + t - (T0 + g) else waitI (G' W.toNat)) = (if t < g + waitI (G' W.toNat) then t - g else waitI (G' W.toNat)) := by
          repeat' split
          all_goals omega
        rw [e2]
        exact ⟨G2, T2, (mh MQ l10 l11 l12 hgt).trans (m1.trans (m2.trans m3))⟩
      · have e2 : si + (if T0 + t - (T0 + g) < waitI (G' W.toNat) then T0 + t - (T0 + g) else waitI (G' W.toNat)) = si := by
          split <;> omega
        rw [e2]
        exact ⟨_, _, mq_end (by omega)⟩
end
