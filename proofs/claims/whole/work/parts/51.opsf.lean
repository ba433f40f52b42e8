/-! image: what the reference's image holds -/
theorem imgM_row {o a : Nat} {M : PM} (h : a ≠ 71) : imgM o M a = M a := by
  unfold imgM
  rw [setC_row h, setC_row h, setC_row h, setC_row h, setC_row h, setR_row h]
theorem imgM_g {o p : Nat} {M : PM} (hp : p < 6) : imgM o M 71 (o + p) = M 64 p := by
  unfold imgM
  rw [setC_i (by omega), setC_i (by omega), setC_i (by omega), setC_i (by omega), setC_i (by omega), setR_s]
  unfold filO
  rw [if_neg (by omega), if_neg (by omega), if_pos (by omega), show o + p - o = p by omega]
theorem imgM_t {o k : Nat} {M : PM} (hk : k < 21) : imgM o M 71 (o + 6 + k) = M 65 k := by
  unfold imgM
  rw [setC_i (by omega), setC_i (by omega), setC_i (by omega), setC_i (by omega), setC_i (by omega), setR_s]
  unfold filO
  rw [if_neg (by omega), if_pos (by omega), show o + 6 + k - (o + 6) = k by omega]
theorem imgM_s {o k : Nat} {M : PM} (hk : k < 12) : imgM o M 71 (o + 27 + k) = M 66 k := by
  unfold imgM
  rw [setC_i (by omega), setC_i (by omega), setC_i (by omega), setC_i (by omega), setC_i (by omega), setR_s]
  unfold filO
  rw [if_pos (by omega), show o + 27 + k - (o + 27) = k by omega]
theorem imgM_39 {o : Nat} {M : PM} : imgM o M 71 (o + 39) = M 63 0 := by
  unfold imgM
  rw [setC_i (by omega), setC_i (by omega), setC_i (by omega), setC_i (by omega), setC_s]
theorem imgM_40 {o : Nat} {M : PM} : imgM o M 71 (o + 40) = M 63 1 := by
  unfold imgM
  rw [setC_i (by omega), setC_i (by omega), setC_i (by omega), setC_s]
theorem imgM_41 {o : Nat} {M : PM} : imgM o M 71 (o + 41) = M 63 2 := by
  unfold imgM
  rw [setC_i (by omega), setC_i (by omega), setC_s]
theorem imgM_42 {o : Nat} {M : PM} : imgM o M 71 (o + 42) = M 63 4 := by
  unfold imgM
  rw [setC_i (by omega), setC_s]
theorem imgM_43 {o : Nat} {M : PM} : imgM o M 71 (o + 43) = M 63 6 := by
  unfold imgM
  rw [setC_s]
theorem imgM_no {o q : Nat} {M : PM} (h : q < o ∨ o + 44 ≤ q) : imgM o M 71 q = M 71 q := by
  unfold imgM
  rw [setC_i (by omega), setC_i (by omega), setC_i (by omega), setC_i (by omega), setC_i (by omega), setR_s]
  unfold filO
  rw [if_neg (by omega), if_neg (by omega), if_neg (by omega)]
/-- image n kept: the class's scene c (12, 22) holds what the reference's image n holds -/
theorem ImgI_new {K : Int} {M M2 : PM} {c n : Nat} (h : NowI K M) (k0 : M2 c 3 = 1) (k1 : M2 72 n = 1)
    (v0 : ∀ p, p < 6 → M2 (c + 2) p = M 4 p) (v1 : M2 (c + 1) 1 = M 3 1) (v2 : M2 (c + 1) 2 = M 3 2) (v3 : M2 (c + 1) 3 = M 3 3)
    (t3 : M2 (c + 3) 3 = M 5 3) (t : ∀ i, i < 7 → M2 (c + 4) i = M 6 i ∧ M2 (c + 5) i = M 7 i ∧ M2 (c + 6) i = M 8 i)
    (s2 : M2 (c + 7) 2 = M 9 2) (s : ∀ i, i < 6 → M2 (c + 8) i = M 10 i ∧ M2 (c + 9) i = M 11 i)
    (m : M2 71 = imgM (48 * n) M 71) : ImgI K M2 c n := by
  obtain ⟨⟨a1, a2, a3, a4, a5, a6, a7, a8⟩, ⟨b1, b2, b3, b4, b5, b6, b7, b8⟩⟩ := h
  refine ⟨k0.trans k1.symm, Or.inr k1, fun _ => ?_⟩
  unfold SV CS
  simp only [m, imgM_39, imgM_40, imgM_41, imgM_42, imgM_43]
  refine ⟨⟨fun p hp => ?_, a2, a3, a4, a5, a6, fun i hi => ?_, fun i hi => ?_⟩, fun p hp => ?_, v2.trans b2, v3.trans b3, v1.trans b4, t3.trans b5, s2.trans b6, fun i hi => ?_, fun i hi => ?_⟩
  · show -100 ≤ imgM (48 * n) M 71 (48 * n + p) ∧ imgM (48 * n) M 71 (48 * n + p) ≤ K
    rw [imgM_g hp]; exact a1 p hp
  · rw [imgM_t (by omega), imgM_t (by omega), imgM_t (by omega)]; exact a7 i hi
  · rw [imgM_s (by omega)]; exact a8 i hi
  · show _ = imgM (48 * n) M 71 (48 * n + p)
    rw [imgM_g hp]; exact (v0 p hp).trans (b1 p hp)
  · rw [imgM_t (by omega), imgM_t (by omega), imgM_t (by omega), (t i hi).1, (t i hi).2.1, (t i hi).2.2]; exact b7 i hi
  · rw [imgM_s (by omega), imgM_s (by omega), (s i hi).1, (s i hi).2]; exact b8 i hi
