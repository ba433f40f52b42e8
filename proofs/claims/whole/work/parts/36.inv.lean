/-! the invariant of the law's loop: the class and the reference hold the same -/
/-- a scene in the reference's form is sound: glasses gl, bound, fire, time, sayings, sights, talk, sight; K bounds glasses and time -/
def SV (K : Int) (gl : Nat → Int) (bd fr tm sc si : Int) (tk sg : Nat → Int) : Prop :=
  BG gl K ∧ (0 ≤ bd ∧ bd ≤ 99) ∧ (1 ≤ fr ∧ fr ≤ 4) ∧ (0 ≤ tm ∧ tm ≤ K) ∧ (0 ≤ sc ∧ sc ≤ 7) ∧ (0 ≤ si ∧ si ≤ 6)
  ∧ (∀ i : Nat, (i : Int) < sc → (0 ≤ tk (3 * i) ∧ tk (3 * i) ≤ 5) ∧ (1 ≤ tk (3 * i + 1) ∧ tk (3 * i + 1) ≤ 99) ∧ (-1 ≤ tk (3 * i + 2) ∧ tk (3 * i + 2) < i))
  ∧ (∀ i : Nat, (i : Int) < si → 0 ≤ sg (2 * i) ∧ sg (2 * i) ≤ 5)
/-- the class's scene with valley v, talk t, sights s holds it -/
def CS (M : PM) (v t s : Nat) (gl : Nat → Int) (bd fr tm sc si : Int) (tk sg : Nat → Int) : Prop :=
  (∀ p, p < 6 → M (v + 1) p = gl p) ∧ M v 2 = bd ∧ M v 3 = fr ∧ M v 1 = tm ∧ M t 3 = sc ∧ M s 2 = si
  ∧ (∀ i, i < 7 → M (t + 1) i = tk (3 * i) ∧ M (t + 2) i = tk (3 * i + 1) ∧ M (t + 3) i = tk (3 * i + 2))
  ∧ (∀ i, i < 6 → M (s + 1) i = sg (2 * i) ∧ M (s + 2) i = sg (2 * i + 1))
def NowI (K : Int) (M : PM) : Prop := SV K (M 64) (M 63 0) (M 63 1) (M 63 2) (M 63 4) (M 63 6) (M 65) (M 66) ∧ CS M 3 5 9 (M 64) (M 63 0) (M 63 1) (M 63 2) (M 63 4) (M 63 6) (M 65) (M 66)
def ImgI (K : Int) (M : PM) (c n : Nat) : Prop := M c 3 = M 72 n ∧ (M 72 n = 0 ∨ M 72 n = 1) ∧ (M 72 n = 1 →
  SV K (fun p => M 71 (48 * n + p)) (M 71 (48 * n + 39)) (M 71 (48 * n + 40)) (M 71 (48 * n + 41)) (M 71 (48 * n + 42)) (M 71 (48 * n + 43)) (fun k => M 71 (48 * n + 6 + k)) (fun k => M 71 (48 * n + 27 + k))
  ∧ CS M (c + 1) (c + 3) (c + 7) (fun p => M 71 (48 * n + p)) (M 71 (48 * n + 39)) (M 71 (48 * n + 40)) (M 71 (48 * n + 41)) (M 71 (48 * n + 42)) (M 71 (48 * n + 43)) (fun k => M 71 (48 * n + 6 + k)) (fun k => M 71 (48 * n + 27 + k)))
def TxtI (M : PM) : Prop := (0 ≤ M 63 8 ∧ M 63 8 ≤ 60) ∧ M 32 1 = M 63 8 ∧ (∀ i, i < 60 → M 33 i = M 67 i) ∧ (∀ i : Nat, (i : Int) < M 63 8 → 33 ≤ M 67 i ∧ M 67 i ≤ 126)
def Inv (K : Int) (M : PM) : Prop := NowI K M ∧ ImgI K M 12 0 ∧ ImgI K M 22 1 ∧ TxtI M ∧ (∀ i, i < 7 → M 41 i = 0) ∧ M 63 12 < 6
theorem SV_mono {K K' : Int} {gl : Nat → Int} {bd fr tm sc si : Int} {tk sg : Nat → Int} (h : K ≤ K') (q : SV K gl bd fr tm sc si tk sg) : SV K' gl bd fr tm sc si tk sg := by
  obtain ⟨q1, q2, q3, q4, q5⟩ := q
  exact ⟨fun p hp => by have := q1 p hp; omega, q2, q3, by omega, q5⟩
theorem Inv_mono {K K' : Int} {M : PM} (h : K ≤ K') (q : Inv K M) : Inv K' M := by
  obtain ⟨⟨a1, a2⟩, ⟨b1, b2, b3⟩, ⟨c1, c2, c3⟩, r⟩ := q
  exact ⟨⟨SV_mono h a1, a2⟩, ⟨b1, b2, fun z => ⟨SV_mono h (b3 z).1, (b3 z).2⟩⟩, ⟨c1, c2, fun z => ⟨SV_mono h (c3 z).1, (c3 z).2⟩⟩, r⟩
/-- what lasts: the rest is scratch -/
def Same (M M' : PM) : Prop :=
  (∀ a, (a < 32 ∨ a = 33 ∨ a = 41 ∨ a = 64 ∨ a = 65 ∨ a = 66 ∨ a = 67 ∨ a = 71 ∨ a = 72) → M' a = M a) ∧ M' 32 1 = M 32 1 ∧ (∀ j, (j = 0 ∨ j = 1 ∨ j = 2 ∨ j = 4 ∨ j = 6 ∨ j = 8) → M' 63 j = M 63 j)
theorem Same.rfl' {M : PM} : Same M M := ⟨fun _ _ => rfl, rfl, fun _ _ => rfl⟩
theorem Same.trans {M M' M'' : PM} (h : Same M M') (h' : Same M' M'') : Same M M'' :=
  ⟨fun a ha => (h'.1 a ha).trans (h.1 a ha), h'.2.1.trans h.2.1, fun j hj => (h'.2.2 j hj).trans (h.2.2 j hj)⟩
theorem Inv_same {K : Int} {M M' : PM} (h : Inv K M) (s : Same M M') (hw : M' 63 12 < 6) : Inv K M' := by
  obtain ⟨s1, s2, s3⟩ := s
  unfold Inv NowI ImgI TxtI SV CS at h ⊢
  simp only [s1 2 (by decide), s1 3 (by decide), s1 4 (by decide), s1 5 (by decide), s1 6 (by decide), s1 7 (by decide), s1 8 (by decide), s1 9 (by decide), s1 10 (by decide), s1 11 (by decide), s1 12 (by decide), s1 13 (by decide), s1 14 (by decide), s1 15 (by decide), s1 16 (by decide), s1 17 (by decide), s1 18 (by decide), s1 19 (by decide), s1 20 (by decide), s1 21 (by decide), s1 22 (by decide), s1 23 (by decide), s1 24 (by decide), s1 25 (by decide), s1 26 (by decide), s1 27 (by decide), s1 28 (by decide), s1 29 (by decide), s1 30 (by decide), s1 31 (by decide),
    s1 33 (by decide), s1 41 (by decide), s1 64 (by decide), s1 65 (by decide), s1 66 (by decide), s1 67 (by decide), s1 71 (by decide), s1 72 (by decide), s2, s3 0 (by decide), s3 1 (by decide), s3 2 (by decide), s3 4 (by decide), s3 6 (by decide), s3 8 (by decide), Nat.reduceAdd] at h ⊢
  exact ⟨h.1, h.2.1, h.2.2.1, h.2.2.2.1, h.2.2.2.2.1, hw⟩
theorem NowI_same {K : Int} {M M' : PM} (h : NowI K M) (s1 : ∀ a, (3 ≤ a ∧ a ≤ 11 ∨ a = 64 ∨ a = 65 ∨ a = 66) → M' a = M a) (s3 : ∀ j, (j = 0 ∨ j = 1 ∨ j = 2 ∨ j = 4 ∨ j = 6) → M' 63 j = M 63 j) : NowI K M' := by
  unfold NowI SV CS at h ⊢
  simp only [s1 3 (by decide), s1 4 (by decide), s1 5 (by decide), s1 6 (by decide), s1 7 (by decide), s1 8 (by decide), s1 9 (by decide), s1 10 (by decide), s1 11 (by decide), s1 64 (by decide), s1 65 (by decide), s1 66 (by decide), s3 0 (by decide), s3 1 (by decide), s3 2 (by decide), s3 4 (by decide), s3 6 (by decide), Nat.reduceAdd] at h ⊢
  exact h
theorem Img0_same {K : Int} {M M' : PM} (h : ImgI K M 12 0) (s1 : ∀ a, (12 ≤ a ∧ a ≤ 21 ∨ a = 71 ∨ a = 72) → M' a = M a) : ImgI K M' 12 0 := by
  unfold ImgI SV CS at h ⊢
  simp only [s1 12 (by decide), s1 13 (by decide), s1 14 (by decide), s1 15 (by decide), s1 16 (by decide), s1 17 (by decide), s1 18 (by decide), s1 19 (by decide), s1 20 (by decide), s1 21 (by decide), s1 71 (by decide), s1 72 (by decide), Nat.reduceAdd] at h ⊢
  exact h
theorem Img1_same {K : Int} {M M' : PM} (h : ImgI K M 22 1) (s1 : ∀ a, (22 ≤ a ∧ a ≤ 31 ∨ a = 71 ∨ a = 72) → M' a = M a) : ImgI K M' 22 1 := by
  unfold ImgI SV CS at h ⊢
  simp only [s1 22 (by decide), s1 23 (by decide), s1 24 (by decide), s1 25 (by decide), s1 26 (by decide), s1 27 (by decide), s1 28 (by decide), s1 29 (by decide), s1 30 (by decide), s1 31 (by decide), s1 71 (by decide), s1 72 (by decide), Nat.reduceAdd] at h ⊢
  exact h
theorem TxtI_same {M M' : PM} (h : TxtI M) (s1 : ∀ a, (a = 33 ∨ a = 67) → M' a = M a) (s2 : M' 32 1 = M 32 1) (s3 : M' 63 8 = M 63 8) : TxtI M' := by
  unfold TxtI at h ⊢
  rw [s1 33 (by decide), s1 67 (by decide), s2, s3]
  exact h
