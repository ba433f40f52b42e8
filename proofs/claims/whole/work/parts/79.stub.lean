/-! (open) -/
theorem op_soonest {L : Nat} {K : Int} {M : PM} (h : Inv K M) (hK : K ≤ 100000000) (i : Int) : ∃ r M1 M2, den 1999 67 [(.inr (.inr (some 1))), .inl i] (SH L) M = some (some (.inl r), SH L, M1) ∧ M1 0 = M 0 ∧ den 1999 122 [(.inr (.inr (some 63))), .inl i] (SH L) M1 = some (some (.inl r), SH L, M2) ∧ Inv K M2 := by
  sorry
theorem op_whom {L : Nat} {K : Int} {M : PM} (h : Inv K M) (hK : K ≤ 100000000) (s w : Int) : ∃ r M1 M2, den 1999 68 [(.inr (.inr (some 1))), .inl s, .inl w] (SH L) M = some (some (.inl r), SH L, M1) ∧ M1 0 = M 0 ∧ den 1999 123 [(.inr (.inr (some 63))), .inl s, .inl w] (SH L) M1 = some (some (.inl r), SH L, M2) ∧ Inv K M2 := by
  sorry
