/-! talks: all orders, one behind another -/
def meL : Nat → List Nat → Bool
  | _, [] => false
  | i, x :: r => Nat.beq i x || meL i r
def plL (f : Nat → List (List Nat)) : Nat → Nat → List (List Nat)
  | 0, _ => []
  | k + 1, i => f i ++ plL f k (i + 1)
def pfL (n : Nat) : Nat → List Nat → List (List Nat)
  | 0, _ => [[]]
  | m + 1, pre => plL (fun i => if meL i pre = true then [] else (pfL n m (pre ++ [i])).map (i :: ·)) n 0
def gtL : List Nat → Nat → Nat
  | [], _ => 0
  | x :: _, 0 => x
  | _ :: r, j + 1 => gtL r j
def stL : List Nat → Nat → Nat → List Nat
  | [], _, _ => []
  | _ :: r, 0, v => v :: r
  | x :: r, j + 1, v => x :: stL r j v
def fkL (l : List Nat) : Nat → Option Nat
  | 0 => none
  | m + 1 => if Nat.ble (gtL l m) (gtL l (m + 1)) = true then some m else fkL l m
def fjL (l : List Nat) (x : Nat) : Nat → Nat
  | 0 => 0
  | m + 1 => if Nat.ble x (gtL l (m + 1)) = true then m + 1 else fjL l x m
def swL (l : List Nat) (i j : Nat) : List Nat := stL (stL l i (gtL l j)) j (gtL l i)
def rvL : List Nat → Nat → Nat → Nat → List Nat
  | l, 0, _, _ => l
  | l, f + 1, lo, hi => if Nat.ble hi lo = true then l else rvL (swL l lo hi) f (lo + 1) (hi - 1)
def nxL (n : Nat) (l : List Nat) : Option (List Nat) := match fkL l (n - 1) with
  | none => none
  | some k => some (rvL (swL l k (fjL l (gtL l k) (n - 1))) 7 (k + 1) (n - 1))
def eqL : List Nat → List Nat → Bool
  | [], [] => true
  | x :: r, y :: s => Nat.beq x y && eqL r s
  | _, _ => false
def nxB (n : Nat) (l : List Nat) (l' : List Nat) : Bool := match nxL n l with
  | none => false
  | some s => eqL s l'
def noB (n : Nat) (l : List Nat) : Bool := match nxL n l with
  | none => true
  | some _ => false
def exL (n : Nat) (r : List Nat) : List Nat := r ++ List.range' n (7 - n)
def CHL (n : Nat) : List Nat → List (List Nat) → Bool
  | l, [] => noB n (exL n l)
  | l, l' :: r => nxB n (exL n l) (exL n l') && CHL n l' r
def smL (n : Nat) : List Nat → Bool
  | [] => true
  | x :: r => Nat.ble (x + 1) n && smL n r
def okNL (n : Nat) : List (List Nat) → Bool
  | [] => true
  | l :: r => Nat.beq l.length n && smL n l && okNL n r
def allB (n : Nat) : Bool := match pfL n n [] with
  | [] => false
  | l :: r => eqL (exL n l) [0, 1, 2, 3, 4, 5, 6] && CHL n l r && okNL n (l :: r)
theorem all_0 : allB 0 = true := by decide +kernel
theorem all_1 : allB 1 = true := by decide +kernel
theorem all_2 : allB 2 = true := by decide +kernel
theorem all_3 : allB 3 = true := by decide +kernel
theorem all_4 : allB 4 = true := by decide +kernel
theorem all_5 : allB 5 = true := by decide +kernel
theorem all_6 : allB 6 = true := by decide +kernel
theorem all_7 : allB 7 = true := by decide +kernel
theorem eqL_eq : ∀ {l l' : List Nat}, eqL l l' = true → l = l'
  | [], [], _ => rfl
  | x :: r, y :: s, h => by
    simp only [eqL, Bool.and_eq_true] at h
    rw [Nat.eq_of_beq_eq_true h.1, eqL_eq h.2]
  | [], _ :: _, h => by cases h
  | _ :: _, [], h => by cases h
theorem meL_iff {i : Nat} : ∀ {l : List Nat}, meL i l = true ↔ i ∈ l
  | [] => by simp [meL]
  | x :: r => by simp [meL, meL_iff (l := r)]
theorem all_n {n : Nat} (hn : n ≤ 7) : allB n = true := by
  have h : n = 0 ∨ n = 1 ∨ n = 2 ∨ n = 3 ∨ n = 4 ∨ n = 5 ∨ n = 6 ∨ n = 7 := by omega
  rcases h with rfl | rfl | rfl | rfl | rfl | rfl | rfl | rfl
  · exact all_0
  · exact all_1
  · exact all_2
  · exact all_3
  · exact all_4
  · exact all_5
  · exact all_6
  · exact all_7
/-- the orders, the first of them, each followed by the next -/
theorem orders {n : Nat} (hn : n ≤ 7) : ∃ l r, pfL n n [] = l :: r ∧ exL n l = [0, 1, 2, 3, 4, 5, 6] ∧ CHL n l r = true ∧ okNL n (l :: r) = true := by
  have h := all_n hn
  unfold allB at h
  split at h
  · cases h
  · rename_i l r he
    simp only [Bool.and_eq_true] at h
    exact ⟨l, r, he, eqL_eq h.1.1, h.1.2, h.2⟩
theorem okNL_mem {n : Nat} : ∀ {ps : List (List Nat)}, okNL n ps = true → ∀ l ∈ ps, l.length = n ∧ smL n l = true
  | [], _, l, hl => by cases hl
  | p :: r, h, l, hl => by
    simp only [okNL, Bool.and_eq_true] at h
    cases hl with
    | head => exact ⟨Nat.eq_of_beq_eq_true h.1.1, h.1.2⟩
    | tail _ hl => exact okNL_mem h.2 l hl
theorem smL_mem {n : Nat} : ∀ {l : List Nat}, smL n l = true → ∀ x ∈ l, x < n
  | [], _, x, hx => by cases hx
  | y :: r, h, x, hx => by
    simp only [smL, Bool.and_eq_true] at h
    cases hx with
    | head => exact Nat.le_of_ble_eq_true h.1
    | tail _ hx => exact smL_mem h.2 x hx
