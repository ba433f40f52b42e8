/-! image -/
theorem c_imageOf {L n d : Nat} {M : PM} (hn : n < 2) : den (d + 1) 85 [(.inr (.inr (some 1))), .inl (n : Int)] (SH L) M = some (some (.inr (.inr (some (if n = 0 then 12 else 22)))), SH L, M) := by
  unfold den
  rw [show ent 85 [(.inr (.inr (some 1))), .inl (n : Int)] = [some (.inr (.inr (some 1))), some (.inl (n : Int))] from rfl]
  rcases Nat.lt_or_ge n 1 with h | h
  · have : n = 0 := by omega
    subst this
    simp only [e85_0, e85_1, e85_4, e85_5, e85_8, e85_11, e85_12, e85_15]
    rw [if_pos (by decide)]
    simp only [e85_0, e85_1, e85_4, e85_5, e85_8, e85_11, e85_12, e85_15, gf_1_1, bindS]
    rfl
  · have : n = 1 := by omega
    subst this
    simp only [e85_0, e85_1, e85_4, e85_5, e85_8, e85_11, e85_12, e85_15]
    rw [if_neg (by decide)]
    simp only [e85_0, e85_1, e85_4, e85_5, e85_8, e85_11, e85_12, e85_15, gf_1_2, bindS]
    rfl
