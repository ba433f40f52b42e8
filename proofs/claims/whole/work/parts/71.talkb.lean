/-! talks: what an order costs; the best so far; what no order can be under -/
def spT (tk : Nat → Int) (i : Nat) : Nat := (tk (3 * i)).toNat
def duT (tk : Nat → Int) (i : Nat) : Int := tk (3 * i + 1)
def ahT (tk : Nat → Int) (i : Nat) : Int := tk (3 * i + 2)
def wS (tk : Nat → Int) (i : Nat) (G : Nat → Int) : Int := waitI (G (spT tk i))
def stS (b : Int) (tk : Nat → Int) (i : Nat) (G : Nat → Int) : Nat → Int := speakG b (duT tk i) (spT tk i) (passG b (wS tk i G) (-1) G)
def csL (b : Int) (tk : Nat → Int) : List Nat → (Nat → Int) → Int
  | [], _ => 0
  | i :: r, G => wS tk i G + duT tk i + csL b tk r (stS b tk i G)
def okY (tk : Nat → Int) (pre : List Nat) (i : Nat) : Bool := decide (ahT tk i < 0) || meL (ahT tk i).toNat pre
def vlL (tk : Nat → Int) : List Nat → List Nat → Bool
  | _, [] => true
  | pre, i :: r => okY tk pre i && vlL tk (pre ++ [i]) r
def foL (b : Int) (tk : Nat → Int) (pre : List Nat) (G : Nat → Int) (T : Int) : Int × List Nat → List (List Nat) → Int × List Nat
  | st, [] => st
  | st, s :: r => foL b tk pre G T (if vlL tk pre s = true ∧ T + csL b tk s G < st.1 then (T + csL b tk s G, pre ++ s) else st) r
section
variable {b : Int} {tk : Nat → Int} {pre : List Nat} {G : Nat → Int} {T : Int}
theorem fo_app : ∀ (l1 l2 : List (List Nat)) (st : Int × List Nat), foL b tk pre G T st (l1 ++ l2) = foL b tk pre G T (foL b tk pre G T st l1) l2
  | [], _, _ => rfl
  | s :: r, l2, st => by
    show foL b tk pre G T _ (r ++ l2) = foL b tk pre G T (foL b tk pre G T _ r) l2
    exact fo_app r l2 _
theorem fo_map (i : Nat) : ∀ (l : List (List Nat)) (st : Int × List Nat), foL b tk pre G T st (l.map (i :: ·)) = if okY tk pre i = true then foL b tk (pre ++ [i]) (stS b tk i G) (T + wS tk i G + duT tk i) st l else st
  | [], st => by simp [foL]
  | s :: r, st => by
    have ih := fo_map i r
    show foL b tk pre G T (if vlL tk pre (i :: s) = true ∧ T + csL b tk (i :: s) G < st.1 then (T + csL b tk (i :: s) G, pre ++ (i :: s)) else st) (r.map (i :: ·)) = _
    rw [ih]
    have e1 : vlL tk pre (i :: s) = (okY tk pre i && vlL tk (pre ++ [i]) s) := rfl
    have e2 : T + csL b tk (i :: s) G = T + wS tk i G + duT tk i + csL b tk s (stS b tk i G) := by
      show T + (wS tk i G + duT tk i + csL b tk s (stS b tk i G)) = _
      omega
    have e3 : pre ++ (i :: s) = (pre ++ [i]) ++ s := by simp
    by_cases h : okY tk pre i = true
    · rw [if_pos h, if_pos h, e1, h, Bool.true_and, e2, e3]
      rfl
    · rw [if_neg h, if_neg h, e1]
      rw [if_neg (fun q => h (by have := q.1; rw [Bool.and_eq_true] at this; exact this.1))]
theorem fo_prune : ∀ (l : List (List Nat)) (st : Int × List Nat), (∀ s ∈ l, st.1 ≤ T + csL b tk s G) → foL b tk pre G T st l = st
  | [], _, _ => rfl
  | s :: r, st, h => by
    show foL b tk pre G T (if vlL tk pre s = true ∧ T + csL b tk s G < st.1 then (T + csL b tk s G, pre ++ s) else st) r = st
    rw [if_neg (fun q => by have := h s List.mem_cons_self; omega)]
    exact fo_prune r st (fun s' hs' => h s' (List.mem_cons_of_mem _ hs'))
/-- with a limit: the lesser -/
theorem fo_min : ∀ (l : List (List Nat)) (st st' : Int × List Nat) (m : Int), st.1 = (if st'.1 < m then st'.1 else m) → (foL b tk pre G T st l).1 = if (foL b tk pre G T st' l).1 < m then (foL b tk pre G T st' l).1 else m
  | [], _, _, _, h => h
  | s :: r, st, st', m, h => by
    show (foL b tk pre G T (if vlL tk pre s = true ∧ T + csL b tk s G < st.1 then (T + csL b tk s G, pre ++ s) else st) r).1 = _
    refine fo_min r _ _ m ?_
    by_cases hv : vlL tk pre s = true
    · by_cases h1 : T + csL b tk s G < st.1
      · by_cases h2 : T + csL b tk s G < st'.1
        · simp only [hv, h1, h2, true_and, if_true]
          split at h <;> split <;> omega
        · simp only [hv, h1, h2, true_and, if_true, and_false, if_false]
          split at h
          · rw [if_pos (by omega)]; omega
          · rw [if_neg (by omega)]; omega
      · by_cases h2 : T + csL b tk s G < st'.1
        · simp only [hv, h1, h2, true_and, if_true, and_false, if_false]
          split at h
          · rw [if_neg (by omega)]; omega
          · rw [if_neg (by omega)]; omega
        · simp only [hv, h1, h2, and_false, if_false]
          exact h
    · simp only [hv, false_and, if_false]
      exact h
end
-- the least seconds of what is left
def mxI (x y : Int) : Int := if x < y then y else x
def lfU (tk U : Nat → Int) (p : Nat) : Nat → Int
  | 0 => 0
  | i + 1 => lfU tk U p i + (if U i = 0 ∧ spT tk i = p then duT tk i else 0)
def lgU (tk U : Nat → Int) (p : Nat) : Nat → Int
  | 0 => 0
  | i + 1 => if U i = 0 ∧ spT tk i = p then mxI (lgU tk U p i) (duT tk i) else lgU tk U p i
def lsU (tk U : Nat → Int) : Nat → Int
  | 0 => 0
  | i + 1 => lsU tk U i + (if U i = 0 then duT tk i else 0)
def lmU (tk U : Nat → Int) (n : Nat) (G : Nat → Int) : Nat → Int
  | 0 => lsU tk U n
  | p + 1 => if 0 < lfU tk U p n then mxI (lmU tk U n G p) (lfU tk U p n + mxI (G p + lfU tk U p n - lgU tk U p n) 0) else lmU tk U n G p
def czU (U : Nat → Int) : Nat → Nat
  | 0 => 0
  | i + 1 => czU U i + (if U i = 0 then 1 else 0)
def inU (pre : List Nat) : Nat → Int := fun i => if meL i pre = true then 1 else 0
def CompL (n : Nat) : (Nat → Int) → List Nat → Prop
  | U, [] => ∀ i, i < n → ¬ U i = 0
  | U, i :: r => i < n ∧ U i = 0 ∧ CompL n (up U i 1) r
/-- the talk is sound -/
def TKo (tk : Nat → Int) (n : Nat) : Prop := ∀ i, i < n → (0 ≤ tk (3 * i) ∧ tk (3 * i) ≤ 5) ∧ (1 ≤ duT tk i ∧ duT tk i ≤ 99) ∧ (-1 ≤ ahT tk i ∧ ahT tk i < i)
section
variable {tk U : Nat → Int} {n : Nat}
theorem inU_up {pre : List Nat} {i : Nat} : up (inU pre) i 1 = inU (pre ++ [i]) := by
  funext q
  unfold up inU
  by_cases h : q = i
  · subst h
    rw [if_pos rfl, if_pos (meL_iff.mpr (by simp))]
  · rw [if_neg h]
    by_cases h2 : meL q pre = true
    · rw [if_pos h2, if_pos (meL_iff.mpr (by simp [meL_iff.mp h2]))]
    · rw [if_neg h2, if_neg (fun z => h2 (meL_iff.mpr (by have := meL_iff.mp z; simp at this; rcases this with z | z; exact z; exact absurd z h)))]
theorem cz_0 : ∀ {n : Nat}, czU U n = 0 → ∀ i, i < n → ¬ U i = 0
  | 0, _, i, hi => absurd hi (Nat.not_lt_zero i)
  | n + 1, h, i, hi => by
    have e : czU U (n + 1) = czU U n + (if U n = 0 then 1 else 0) := rfl
    by_cases hn : i = n
    · subst hn
      intro h0
      rw [if_pos h0] at e
      omega
    · exact cz_0 (n := n) (by omega) i (by omega)
theorem cz_ge {i : Nat} : ∀ {n : Nat}, n ≤ i → czU (up U i 1) n = czU U n
  | 0, _ => rfl
  | n + 1, h => by
    show czU (up U i 1) n + (if up U i 1 n = 0 then 1 else 0) = czU U n + (if U n = 0 then 1 else 0)
    rw [cz_ge (by omega), up_i (by omega)]
theorem cz_up {i : Nat} : ∀ {n : Nat}, i < n → U i = 0 → czU (up U i 1) n + 1 = czU U n
  | 0, h, _ => absurd h (Nat.not_lt_zero i)
  | n + 1, h, h0 => by
    show czU (up U i 1) n + (if up U i 1 n = 0 then 1 else 0) + 1 = czU U n + (if U n = 0 then 1 else 0)
    by_cases hn : i = n
    · subst hn
      rw [cz_ge (Nat.le_refl _), up_s, if_neg (by decide), if_pos h0]
    · have := cz_up (n := n) (by omega) h0
      rw [up_i (fun e => hn e.symm)]
      omega
theorem plL_mem {f : Nat → List (List Nat)} {s : List Nat} : ∀ {k i : Nat}, s ∈ plL f k i → ∃ j, i ≤ j ∧ j < i + k ∧ s ∈ f j
  | 0, _, h => by cases h
  | k + 1, i, h => by
    rcases List.mem_append.mp h with h | h
    · exact ⟨i, Nat.le_refl _, by omega, h⟩
    · obtain ⟨j, h1, h2, h3⟩ := plL_mem h
      exact ⟨j, by omega, by omega, h3⟩
theorem pf_comp : ∀ (m : Nat) (pre s : List Nat), czU (inU pre) n = m → s ∈ pfL n m pre → CompL n (inU pre) s
  | 0, pre, s, hm, hs => by
    rw [List.mem_singleton.mp hs]
    exact cz_0 hm
  | m + 1, pre, s, hm, hs => by
    obtain ⟨j, -, h2, h3⟩ := plL_mem hs
    by_cases hj : meL j pre = true
    · rw [if_pos hj] at h3; cases h3
    · rw [if_neg hj] at h3
      obtain ⟨r, hr, rfl⟩ := List.mem_map.mp h3
      have h0 : inU pre j = 0 := if_neg hj
      have hc := cz_up (U := inU pre) (i := j) (n := n) (by omega) h0
      rw [inU_up] at hc
      refine ⟨by omega, h0, ?_⟩
      rw [inU_up]
      exact pf_comp m _ r (by omega) hr
theorem lf_ge {i p : Nat} : ∀ {n : Nat}, n ≤ i → lfU tk (up U i 1) p n = lfU tk U p n
  | 0, _ => rfl
  | n + 1, h => by
    show lfU tk (up U i 1) p n + _ = lfU tk U p n + _
    rw [lf_ge (by omega), up_i (by omega)]
theorem lf_up {i p : Nat} : ∀ {n : Nat}, i < n → U i = 0 → lfU tk (up U i 1) p n + (if spT tk i = p then duT tk i else 0) = lfU tk U p n
  | 0, h, _ => absurd h (Nat.not_lt_zero i)
  | n + 1, h, h0 => by
    show lfU tk (up U i 1) p n + (if up U i 1 n = 0 ∧ spT tk n = p then duT tk n else 0) + (if spT tk i = p then duT tk i else 0) = lfU tk U p n + (if U n = 0 ∧ spT tk n = p then duT tk n else 0)
    by_cases hn : i = n
    · subst hn
      rw [lf_ge (Nat.le_refl _), up_s, if_neg (fun z => absurd z.1 (by decide))]
      by_cases hp : spT tk i = p
      · rw [if_pos hp, if_pos ⟨h0, hp⟩]; omega
      · rw [if_neg hp, if_neg (fun z => hp z.2)]; omega
    · have := lf_up (p := p) (n := n) (by omega) h0
      rw [up_i (fun e => hn e.symm)]
      omega
theorem ls_ge {i : Nat} : ∀ {n : Nat}, n ≤ i → lsU tk (up U i 1) n = lsU tk U n
  | 0, _ => rfl
  | n + 1, h => by
    show lsU tk (up U i 1) n + _ = lsU tk U n + _
    rw [ls_ge (by omega), up_i (by omega)]
theorem ls_up {i : Nat} : ∀ {n : Nat}, i < n → U i = 0 → lsU tk (up U i 1) n + duT tk i = lsU tk U n
  | 0, h, _ => absurd h (Nat.not_lt_zero i)
  | n + 1, h, h0 => by
    show lsU tk (up U i 1) n + (if up U i 1 n = 0 then duT tk n else 0) + duT tk i = lsU tk U n + (if U n = 0 then duT tk n else 0)
    by_cases hn : i = n
    · subst hn
      rw [ls_ge (Nat.le_refl _), up_s, if_neg (by decide), if_pos h0]
      omega
    · have := ls_up (n := n) (by omega) h0
      rw [up_i (fun e => hn e.symm)]
      omega
theorem mx_l {x y : Int} : x ≤ mxI x y ∧ y ≤ mxI x y := by unfold mxI; split <;> omega
theorem lg_ge {i p : Nat} : ∀ {n : Nat}, n ≤ i → lgU tk (up U i 1) p n = lgU tk U p n
  | 0, _ => rfl
  | n + 1, h => by
    show (if up U i 1 n = 0 ∧ spT tk n = p then mxI (lgU tk (up U i 1) p n) (duT tk n) else lgU tk (up U i 1) p n) = _
    rw [lg_ge (by omega), up_i (by omega)]
    rfl
theorem lg_up {i p : Nat} : ∀ {n : Nat}, i < n → U i = 0 → lgU tk (up U i 1) p n ≤ lgU tk U p n ∧ (spT tk i = p → duT tk i ≤ lgU tk U p n)
  | 0, h, _ => absurd h (Nat.not_lt_zero i)
  | n + 1, h, h0 => by
    have e1 : lgU tk (up U i 1) p (n + 1) = if up U i 1 n = 0 ∧ spT tk n = p then mxI (lgU tk (up U i 1) p n) (duT tk n) else lgU tk (up U i 1) p n := rfl
    have e2 : lgU tk U p (n + 1) = if U n = 0 ∧ spT tk n = p then mxI (lgU tk U p n) (duT tk n) else lgU tk U p n := rfl
    rw [e1, e2]
    by_cases hn : i = n
    · subst hn
      rw [lg_ge (Nat.le_refl _), up_s, if_neg (fun z => absurd z.1 (by decide))]
      by_cases hp : spT tk i = p
      · rw [if_pos ⟨h0, hp⟩]
        have := mx_l (x := lgU tk U p i) (y := duT tk i)
        exact ⟨this.1, fun _ => this.2⟩
      · rw [if_neg (fun z => hp z.2)]
        exact ⟨Int.le_refl _, fun z => absurd z hp⟩
    · have := lg_up (p := p) (n := n) (by omega) h0
      rw [up_i (fun e => hn e.symm)]
      by_cases hc : U n = 0 ∧ spT tk n = p
      · rw [if_pos hc, if_pos hc]
        constructor
        · unfold mxI; split <;> split <;> omega
        · intro hp
          have h1 := this.2 hp
          have h2 := mx_l (x := lgU tk U p n) (y := duT tk n)
          omega
      · rw [if_neg hc, if_neg hc]
        exact this
theorem lg_lf {p : Nat} : ∀ {n : Nat}, TKo tk n → 0 ≤ lgU tk U p n ∧ lgU tk U p n ≤ lfU tk U p n
  | 0, _ => ⟨Int.le_refl _, Int.le_refl _⟩
  | n + 1, h => by
    have ih := lg_lf (p := p) (n := n) (fun i hi => h i (by omega))
    have hd := (h n (by omega)).2.1
    show 0 ≤ (if U n = 0 ∧ spT tk n = p then mxI (lgU tk U p n) (duT tk n) else lgU tk U p n) ∧ (if U n = 0 ∧ spT tk n = p then mxI (lgU tk U p n) (duT tk n) else lgU tk U p n) ≤ lfU tk U p n + (if U n = 0 ∧ spT tk n = p then duT tk n else 0)
    by_cases hc : U n = 0 ∧ spT tk n = p
    · rw [if_pos hc, if_pos hc]
      unfold mxI
      split <;> omega
    · rw [if_neg hc, if_neg hc]
      omega
theorem lf_0 {p : Nat} : ∀ {n : Nat}, (∀ i, i < n → ¬ U i = 0) → lfU tk U p n = 0
  | 0, _ => rfl
  | n + 1, h => by
    show lfU tk U p n + (if U n = 0 ∧ spT tk n = p then duT tk n else 0) = 0
    rw [lf_0 (fun i hi => h i (by omega)), if_neg (fun z => h n (by omega) z.1)]
    rfl
theorem ls_0 : ∀ {n : Nat}, (∀ i, i < n → ¬ U i = 0) → lsU tk U n = 0
  | 0, _ => rfl
  | n + 1, h => by
    show lsU tk U n + (if U n = 0 then duT tk n else 0) = 0
    rw [ls_0 (fun i hi => h i (by omega)), if_neg (h n (by omega))]
    rfl
theorem waitI_nn {x : Int} : 0 ≤ waitI x := by unfold waitI; split <;> omega
theorem cs_nn {b : Int} : ∀ {s : List Nat} {U G : Nat → Int}, TKo tk n → CompL n U s → 0 ≤ csL b tk s G
  | [], _, _, _, _ => Int.le_refl _
  | i :: r, U, G, h, hc => by
    have h1 := cs_nn (b := b) (s := r) (U := up U i 1) (G := stS b tk i G) h hc.2.2
    have h2 := (h i hc.1).2.1
    have h3 := waitI_nn (x := G (spT tk i))
    show 0 ≤ wS tk i G + duT tk i + csL b tk r (stS b tk i G)
    unfold wS
    omega
theorem ls_le {b : Int} : ∀ {s : List Nat} {U G : Nat → Int}, TKo tk n → CompL n U s → lsU tk U n ≤ csL b tk s G
  | [], U, _, _, hc => by rw [ls_0 hc]; exact Int.le_refl _
  | i :: r, U, G, h, hc => by
    have h1 := ls_le (b := b) (s := r) (U := up U i 1) (G := stS b tk i G) h hc.2.2
    have h2 := ls_up (tk := tk) (n := n) hc.1 hc.2.1
    have h3 := waitI_nn (x := G (spT tk i))
    show _ ≤ wS tk i G + duT tk i + csL b tk r (stS b tk i G)
    unfold wS
    omega
theorem pass_ge {b s sp : Int} {G : Nat → Int} {p : Nat} (hs : 0 ≤ s) : G p - s ≤ passG b s sp G p := by
  unfold passG
  repeat' split
  all_goals omega
theorem st_other {b : Int} {i p : Nat} {G : Nat → Int} (hp : ¬ spT tk i = p) (hd : 0 ≤ duT tk i) : G p - wS tk i G - duT tk i ≤ stS b tk i G p := by
  unfold stS speakG addG
  rw [if_neg (fun e => hp e.symm)]
  have h1 := pass_ge (b := b) (s := duT tk i) (sp := (spT tk i : Int)) (G := passG b (wS tk i G) (-1) G) (p := p) hd
  have h2 := pass_ge (b := b) (s := wS tk i G) (sp := -1) (G := G) (p := p) (by unfold wS; exact waitI_nn)
  omega
theorem st_own {b : Int} {i : Nat} {G : Nat → Int} (hb : 0 ≤ b) (h6 : spT tk i < 6) : stS b tk i G (spT tk i) = G (spT tk i) - wS tk i G + duT tk i := by
  unfold stS speakG addG
  rw [if_pos rfl, passG_sp]
  unfold wS waitI passG
  by_cases h : 0 < G (spT tk i)
  · rw [if_pos h, if_pos ⟨h6, by omega, by omega⟩, if_neg (by omega)]
  · rw [if_neg h]
    split
    · rw [if_neg (by omega)]
    · omega
theorem lp_le {b : Int} (hb : 0 ≤ b) {p : Nat} : ∀ {s : List Nat} {U G : Nat → Int}, TKo tk n → CompL n U s → 0 < lfU tk U p n → lfU tk U p n + mxI (G p + lfU tk U p n - lgU tk U p n) 0 ≤ csL b tk s G
  | [], U, _, _, hc, h0 => by rw [lf_0 hc] at h0; omega
  | i :: r, U, G, h, hc, h0 => by
    have h1 := lp_le hb (p := p) (s := r) (U := up U i 1) (G := stS b tk i G) h hc.2.2
    have h2 := lf_up (tk := tk) (p := p) (n := n) hc.1 hc.2.1
    have h3 := lg_up (tk := tk) (p := p) (n := n) hc.1 hc.2.1
    have hd := (h i hc.1).2.1
    have hw := waitI_nn (x := G (spT tk i))
    have hr := cs_nn (b := b) (s := r) (U := up U i 1) (G := stS b tk i G) h hc.2.2
    have hg := lg_lf (tk := tk) (U := up U i 1) (p := p) h
    have hg2 := lg_lf (tk := tk) (U := U) (p := p) h
    have h6 : spT tk i < 6 := by have := (h i hc.1).1; unfold spT; omega
    show _ ≤ wS tk i G + duT tk i + csL b tk r (stS b tk i G)
    by_cases hp : spT tk i = p
    · rw [if_pos hp] at h2
      have h31 := h3.1
      have h32 := h3.2 hp
      have ho := st_own (b := b) (tk := tk) (i := i) (G := G) hb h6
      rw [hp] at ho
      have hws : wS tk i G = waitI (G p) := by unfold wS; rw [hp]
      have hw' : 0 ≤ waitI (G p) ∧ G p ≤ waitI (G p) := by unfold waitI; split <;> omega
      by_cases hl : 0 < lfU tk (up U i 1) p n
      · have h1 := h1 hl
        rw [ho] at h1
        unfold mxI at h1 ⊢
        split at h1 <;> split <;> omega
      · unfold mxI
        split <;> omega
    · rw [if_neg hp] at h2
      have h1 := h1 (by omega)
      have ho := st_other (b := b) (tk := tk) (i := i) (p := p) (G := G) hp (by omega)
      have hws : 0 ≤ wS tk i G := hw
      unfold mxI at h1 ⊢
      split at h1 <;> split <;> omega
/-- no order is over before this -/
theorem lm_le {b : Int} (hb : 0 ≤ b) {s : List Nat} {G : Nat → Int} (h : TKo tk n) (hc : CompL n U s) : ∀ p, lmU tk U n G p ≤ csL b tk s G
  | 0 => ls_le h hc
  | p + 1 => by
    have ih := lm_le hb (G := G) h hc p
    show (if 0 < lfU tk U p n then mxI (lmU tk U n G p) (lfU tk U p n + mxI (G p + lfU tk U p n - lgU tk U p n) 0) else lmU tk U n G p) ≤ _
    split
    · rename_i h0
      have := lp_le hb (p := p) (s := s) (G := G) h hc h0
      unfold mxI at this ⊢
      split <;> omega
    · exact ih
theorem lm_0 {G : Nat → Int} (h : ∀ i, i < n → ¬ U i = 0) : ∀ p, lmU tk U n G p = 0
  | 0 => ls_0 h
  | p + 1 => by
    show (if 0 < lfU tk U p n then _ else lmU tk U n G p) = 0
    rw [lf_0 h, if_neg (by decide)]
    exact lm_0 h p
end
