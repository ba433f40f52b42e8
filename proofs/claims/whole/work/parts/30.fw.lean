/-! words for rows of memory, and the facts of objects -/
def AR (sh : List PS) (a n : Nat) : Prop := ¬ a = 0 ∧ ∃ L0, sh[a]? = some (8, n, L0)
theorem aget_ar {sh : List PS} {M : PM} {a n : Nat} {i : Int} (h : AR sh a n) : aget sh M a i = if 0 ≤ i ∧ i < n then some (.inl (M a i.toNat)) else none := by
  obtain ⟨h0, L0, h⟩ := h
  unfold aget
  rw [h]
  by_cases hi : 0 ≤ i ∧ i < n
  · simp [hi, h0]
  · simp only [hi, if_false]
    rw [if_neg (fun q => hi ⟨q.1, q.2.1⟩)]
theorem aput_ar {sh : List PS} {M : PM} {a n : Nat} {i x : Int} (h : AR sh a n) : aput sh M a i x = if 0 ≤ i ∧ i < n then some (setC M a i.toNat x) else none := by
  obtain ⟨h0, L0, h⟩ := h
  unfold aput
  rw [if_neg h0, h]
  by_cases hi : 0 ≤ i ∧ i < n
  · simp [hi]
  · simp only [hi, if_false]
    rw [if_neg (fun q => hi ⟨q.1, q.2.1⟩)]
theorem alen_ar {sh : List PS} {a n : Nat} (h : AR sh a n) : alen sh a = some (.inl (n : Int)) := by
  obtain ⟨h0, L0, h⟩ := h
  unfold alen
  rw [h]
  simp [h0]
/-- an element inside -/
theorem aget_in {sh : List PS} {M : PM} {a n : Nat} {i : Int} (h : AR sh a n) (h0 : 0 ≤ i) (h1 : i < n) : aget sh M a i = some (.inl (M a i.toNat)) := by rw [aget_ar h, if_pos ⟨h0, h1⟩]
theorem aput_in {sh : List PS} {M : PM} {a n : Nat} {i x : Int} (h : AR sh a n) (h0 : 0 ≤ i) (h1 : i < n) : aput sh M a i x = some (setC M a i.toNat x) := by rw [aput_ar h, if_pos ⟨h0, h1⟩]
theorem setC_s {M : PM} {a i : Nat} {x : Int} : setC M a i x a i = x := by simp [setC]
theorem setC_row {M : PM} {a b i : Nat} {x : Int} (h : b ≠ a) : setC M a i x b = M b := setC_ne h
theorem setC_i {M : PM} {a i j : Nat} {x : Int} (h : j ≠ i) : setC M a i x a j = M a j := by simp [setC, h]
theorem setR_s {M : PM} {a : Nat} {f : Nat → Int} : setR M a f a = f := by funext j; simp [setR]
theorem setR_row {M : PM} {a b : Nat} {f : Nat → Int} (h : b ≠ a) : setR M a f b = M b := by funext j; simp [setR, h]
theorem setR_same {M : PM} {a : Nat} : setR M a (M a) = M := by
  funext b j
  simp only [setR]
  split
  · rename_i h; rw [h]
  · rfl
theorem setC_same {M : PM} {a i : Nat} : setC M a i (M a i) = M := by
  funext b j
  simp only [setC]
  split
  · rename_i h; rw [h.1, h.2]
  · rfl
theorem setR_setR {M : PM} {a : Nat} {f g : Nat → Int} : setR (setR M a f) a g = setR M a g := by
  funext b j
  simp only [setR]
  split <;> rfl
theorem setC_setC {M : PM} {a i : Nat} {x y : Int} : setC (setC M a i x) a i y = setC M a i y := by
  funext b j
  simp only [setC]
  split <;> rfl
theorem setC_setR {M : PM} {a b i : Nat} {x : Int} {f : Nat → Int} (h : a ≠ b) : setR (setC M a i x) b f = setC (setR M b f) a i x := by
  funext c j
  simp only [setR, setC]
  by_cases h1 : c = b
  · subst h1
    simp [h.symm]
  · simp [h1]
theorem setC_R {M : PM} {a i : Nat} {x : Int} : setC M a i x = setR M a (fun j => if j = i then x else M a j) := by
  funext b j
  simp only [setC, setR]
  by_cases h : b = a
  · subst h
    simp
  · simp [h]
/-- filling a row, from 0 on -/
def fil (f g : Nat → Int) (i : Nat) : Nat → Int := fun j => if j < i then f j else g j
theorem fil_0 (f g : Nat → Int) : fil f g 0 = g := by funext j; simp [fil]
theorem fil_at (f g : Nat → Int) (i : Nat) : fil f g i i = g i := by simp [fil]
theorem fil_ge (f g : Nat → Int) {i j : Nat} (h : i ≤ j) : fil f g i j = g j := by simp [fil]; omega
theorem fil_lt (f g : Nat → Int) {i j : Nat} (h : j < i) : fil f g i j = f j := by simp [fil, h]
theorem fil_put {M : PM} {a i : Nat} {f g : Nat → Int} {x : Int} (h : x = f i) : setC (setR M a (fil f g i)) a i x = setR M a (fil f g (i + 1)) := by
  funext b j
  simp only [setC, setR, fil]
  by_cases hb : b = a
  · by_cases hj : j = i
    · subst hj
      simp [hb, h]
    · simp only [hb, hj, and_false, if_false, if_true]
      by_cases h3 : j < i
      · rw [if_pos h3, if_pos (by omega)]
      · rw [if_neg h3, if_neg (by omega)]
  · simp [hb]
theorem fil_skip {M : PM} {a i : Nat} {f g : Nat → Int} (h : g i = f i) : setR M a (fil f g i) = setR M a (fil f g (i + 1)) := by
  congr 1
  funext j
  simp only [fil]
  by_cases h3 : j < i
  · rw [if_pos h3, if_pos (by omega)]
  · by_cases h4 : j = i
    · subst h4
      rw [if_neg h3, if_pos (by omega), h]
    · rw [if_neg h3, if_neg (by omega)]
theorem bindS {α β : Type} (a : α) (f : α → Option β) : (some a).bind f = f a := rfl
theorem tL0 {α : Type} : (none : Option α).toList = [] := rfl
theorem tL1 {α : Type} (a : α) : (some a).toList = [a] := rfl
theorem app1 {α : Type} (a : α) (l : List α) : [a] ++ l = a :: l := rfl
theorem app0 {α : Type} (l : List α) : [] ++ l = l := rfl
/-- small stacks -/
theorem mS_0 : mSum [] ≤ 8 := by decide
theorem mS_le {n : Nat} {r : List PV} (h : mSum r = n) (h2 : n ≤ 8) : mSum r ≤ 8 := by omega
theorem tnN (n : Nat) : ((n : Int)).toNat = n := Int.toNat_natCast n
theorem wr1 (n : Nat) (h : n < 2000000) : wr ((n : Int) + 1) = ((n + 1 : Nat) : Int) := by rw [wr_id (by omega) (by omega)]; omega
