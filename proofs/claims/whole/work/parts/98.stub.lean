/-! (open: the pure machine's run of the law; replaced as the parts come) -/
theorem law_runs {L : Nat} {xs : Nat → Int32} (hL : L ≤ 3584) : ∃ (n : Nat) (sh' : List PS) (M' : PM), run n 2000 134 0 (ent 134 [pR 0]) [] [(11, L, [])] (M0 xs) = some (some (pI 1), sh', M') ∧ sh'.length ≤ 600000 ∧ zs sh' ≤ 7302250 := by
  sorry
