/-! the pure machine's steps are the machine's: stack, locals, branches -/
def av (b base k : Nat) : Nat := if k = 0 then b else base + k
def cv (b base : Nat) (v : PV) : Value := match v with
  | .inl x => .int (Int32.ofInt x)
  | .inr (.inl x) => .long (Int64.ofInt x)
  | .inr (.inr none) => .null
  | .inr (.inr (some k)) => .ref (av b base k)
def okI (x : Int) : Prop := -2147483648 ≤ x ∧ x < 2147483648
def okv (v : PV) : Prop := match v with
  | .inl x => okI x
  | .inr (.inl x) => -9223372036854775808 ≤ x ∧ x < 9223372036854775808
  | _ => True
def okS (st : List PV) : Prop := ∀ v ∈ st, okv v
def okL (lc : PL) : Prop := ∀ v, some v ∈ lc → okv v ∧ isL v = false
def okM (M : PM) : Prop := ∀ a i, okI (M a i)
def okH (sh : List PS) : Prop := ∀ s ∈ sh, s.2.1 < 2147483648
theorem okI_wr (z : Int) : okI (wr z) := by
  have h1 := Int32.toInt_lt (Int32.ofInt z)
  have h2 := Int32.le_toInt (Int32.ofInt z)
  unfold okI wr
  omega
theorem okI_ti (z : Int32) : okI z.toInt := by
  have h1 := Int32.toInt_lt z
  have h2 := Int32.le_toInt z
  unfold okI
  omega
theorem ofInt_wr (z : Int) : Int32.ofInt (wr z) = Int32.ofInt z := Int32.ofInt_toInt _
theorem ofInt_wl (z : Int) : Int64.ofInt (wl z) = Int64.ofInt z := Int64.ofInt_toInt _
theorem toInt_ok {x : Int} (h : okI x) : (Int32.ofInt x).toInt = x := Int32.toInt_ofInt_of_le (by unfold okI at h; omega) (by unfold okI at h; omega)
theorem wr_ok {x : Int} (h : okI x) : wr x = x := toInt_ok h
theorem wr_id {x : Int} (h1 : -2147483648 ≤ x) (h2 : x < 2147483648) : wr x = x := toInt_ok ⟨h1, h2⟩
theorem of_lt {x y : Int} (hx : okI x) (hy : okI y) : Int32.ofInt x < Int32.ofInt y ↔ x < y := by rw [Int32.lt_iff_toInt_lt, toInt_ok hx, toInt_ok hy]
theorem of_le {x y : Int} (hx : okI x) (hy : okI y) : Int32.ofInt x ≤ Int32.ofInt y ↔ x ≤ y := by rw [Int32.le_iff_toInt_le, toInt_ok hx, toInt_ok hy]
theorem of_eq {x y : Int} (hx : okI x) (hy : okI y) : Int32.ofInt x = Int32.ofInt y ↔ x = y := by rw [← Int32.toInt_inj, toInt_ok hx, toInt_ok hy]
theorem okI_0 : okI 0 := by unfold okI; omega
theorem of_div {x y : Int} (hx : okI x) (hy : okI y) : Int32.ofInt (x.tdiv y) = Int32.ofInt x / Int32.ofInt y := by
  unfold okI at hx hy
  have e1 : Int32.minValue.toInt = -2147483648 := by decide
  have e2 : Int32.maxValue.toInt = 2147483647 := by decide
  exact Int32.ofInt_tdiv (by omega) (by omega) (by omega) (by omega)
theorem okS_c {v : PV} {r : List PV} (h : okv v) (h2 : okS r) : okS (v :: r) := by
  intro w hw
  rcases List.mem_cons.mp hw with rfl | q
  · exact h
  · exact h2 w q
theorem okS_t {v : PV} {r : List PV} (h : okS (v :: r)) : okS r := fun w hw => h w (List.mem_cons_of_mem _ hw)
theorem okS_h {v : PV} {r : List PV} (h : okS (v :: r)) : okv v := h v List.mem_cons_self
theorem cat_cv {b base : Nat} {v : PV} (h : isL v = false) : (cv b base v).category = 1 := by
  rcases v with x | x | x
  · rfl
  · cases h
  · cases x <;> rfl
theorem q1_inv {α : Type} {st : List PV} {f : Int → List PV → Option α} {z : α} (h : q1 st f = some z) : ∃ x r, st = .inl x :: r ∧ f x r = some z := by
  unfold q1 at h
  split at h
  · exact ⟨_, _, rfl, h⟩
  · cases h
theorem q2_inv {α : Type} {st : List PV} {f : Int → Int → List PV → Option α} {z : α} (h : q2 st f = some z) : ∃ x y r, st = .inl y :: .inl x :: r ∧ f x y r = some z := by
  unfold q2 at h
  split at h
  · exact ⟨_, _, _, rfl, h⟩
  · cases h
theorem q1r_inv {α : Type} {st : List PV} {f : Nat → List PV → Option α} {z : α} (h : q1r st f = some z) : ∃ a r, st = .inr (.inr (some a)) :: r ∧ f a r = some z := by
  unfold q1r at h
  split at h
  · exact ⟨_, _, rfl, h⟩
  · cases h
theorem q2r_inv {α : Type} {st : List PV} {f : Nat → Int → List PV → Option α} {z : α} (h : q2r st f = some z) : ∃ a i r, st = .inl i :: .inr (.inr (some a)) :: r ∧ f a i r = some z := by
  unfold q2r at h
  split at h
  · exact ⟨_, _, _, rfl, h⟩
  · cases h
theorem q3r_inv {α : Type} {st : List PV} {f : Nat → Int → Int → List PV → Option α} {z : α} (h : q3r st f = some z) : ∃ a i x r, st = .inl x :: .inl i :: .inr (.inr (some a)) :: r ∧ f a i x r = some z := by
  unfold q3r at h
  split at h
  · exact ⟨_, _, _, _, rfl, h⟩
  · cases h
theorem len1 {len n : Nat} (h : (len == n) = true) : len = n := by simpa using h
section SA
variable {p : Program} {l : Launch} {e : Env} {R : Room} {s : State} {m : MethodId} {args : Array Value} {below : List Frame} {meth : Method} {c : Code} {H : Heap} {locs : List Loc} {cells slots : Nat} {Q : State → Prop} {cc : ByteArray} {pc : Nat} {ls : Array Slot} {b base : Nat}
set_option maxHeartbeats 4000000 in
theorem psA_snd {i : Instr} {len : Nat} {st st' : List PV} (h : psA i st = some st') (hlen : lenOk i len = true) (hx : p.tables.exec = Jvm.exec) (hb : c.code = cc) (hd : decode cc pc = .ok (i, len)) (hst : okS st)
    (kk : okS st' → W p l e R s m args below meth c H locs cells slots Q (F0 m (pc + len) ls (st'.map (cv b base)))) : W p l e R s m args below meth c H locs cells slots Q (F0 m pc ls (st.map (cv b base))) := by
  cases i <;> simp only [psA] at h <;> first | (cases h; done) | skip
  case aconst_null =>
    cases len1 hlen
    cases h
    exact lv_null hx hb hd (kk (okS_c trivial hst))
  case bipush n =>
    cases len1 hlen
    split at h
    · rename_i hn
      cases h
      refine lv_bipush hx hb hd ?_ (kk (okS_c ⟨by omega, by omega⟩ hst))
      apply Int32.toInt_inj.mp
      rw [Int8.toInt_toInt32, Int8.toInt_ofInt_of_le (by omega) (by omega), toInt_ok ⟨by omega, by omega⟩]
    · cases h
  case dup =>
    cases len1 hlen
    split at h
    · split at h
      · cases h
      · rename_i v r hv
        cases h
        exact lv_dup hx hb hd (cat_cv (by simpa using hv)) (kk (okS_c (okS_h hst) hst))
    · cases h
  case dup2 =>
    cases len1 hlen
    split at h
    · split at h
      · cases h
      · rename_i v w r hv
        cases h
        simp only [Bool.or_eq_true, not_or, Bool.not_eq_true] at hv
        exact lv_dup2_11 hx hb hd (cat_cv hv.1) (cat_cv hv.2) (kk (okS_c (okS_h hst) (okS_c (okS_h (okS_t hst)) hst)))
    · cases h
  case i2l =>
    cases len1 hlen
    obtain ⟨x, r, rfl, h2⟩ := q1_inv h; replace h := h2
    cases h
    have hxx : okI x := okS_h hst
    refine lv_i2l hx hb hd (v := Int64.ofInt x) ?_ (kk (okS_c ?_ (okS_t hst)))
    · apply Int64.toInt_inj.mp
      unfold okI at hxx
      rw [Int32.toInt_toInt64, toInt_ok hxx, Int64.toInt_ofInt_of_le (by omega) (by omega)]
    · unfold okI at hxx
      constructor <;> omega
  case iadd =>
    cases len1 hlen
    obtain ⟨x, y, r, rfl, h2⟩ := q2_inv h; replace h := h2
    cases h
    have k1 := kk (okS_c (okI_wr _) (okS_t (okS_t hst)))
    simp only [List.map_cons, cv, ofInt_wr, Int32.ofInt_add] at k1 ⊢
    exact lv_iadd hx hb hd k1
  case iand =>
    cases len1 hlen
    obtain ⟨x, y, r, rfl, h2⟩ := q2_inv h; replace h := h2
    cases h
    have k1 := kk (okS_c (okI_ti _) (okS_t (okS_t hst)))
    simp only [List.map_cons, cv, Int32.ofInt_toInt] at k1 ⊢
    exact lv_iand hx hb hd k1
  case iconst n =>
    cases len1 hlen
    split at h
    · rename_i hn
      cases h
      exact lv_iconst hx hb hd rfl (kk (okS_c ⟨by omega, by omega⟩ hst))
    · cases h
  case idiv =>
    cases len1 hlen
    obtain ⟨x, y, r, rfl, h2⟩ := q2_inv h; replace h := h2
    split at h
    · cases h
    · rename_i hy
      cases h
      have hxx : okI x := okS_h (okS_t hst)
      have hyy : okI y := okS_h hst
      have k1 := kk (okS_c (okI_wr _) (okS_t (okS_t hst)))
      simp only [List.map_cons, cv, ofInt_wr, of_div hxx hyy] at k1 ⊢
      exact lv_idiv hx hb hd (fun q => hy ((of_eq hyy okI_0).mp q)) k1
  case imul =>
    cases len1 hlen
    obtain ⟨x, y, r, rfl, h2⟩ := q2_inv h; replace h := h2
    cases h
    have k1 := kk (okS_c (okI_wr _) (okS_t (okS_t hst)))
    simp only [List.map_cons, cv, ofInt_wr, Int32.ofInt_mul] at k1 ⊢
    exact lv_imul hx hb hd k1
  case ineg =>
    cases len1 hlen
    obtain ⟨x, r, rfl, h2⟩ := q1_inv h; replace h := h2
    cases h
    have k1 := kk (okS_c (okI_wr _) (okS_t hst))
    simp only [List.map_cons, cv, ofInt_wr, Int32.ofInt_neg] at k1 ⊢
    exact lv_ineg hx hb hd k1
  case ior =>
    cases len1 hlen
    obtain ⟨x, y, r, rfl, h2⟩ := q2_inv h; replace h := h2
    cases h
    have k1 := kk (okS_c (okI_ti _) (okS_t (okS_t hst)))
    simp only [List.map_cons, cv, Int32.ofInt_toInt] at k1 ⊢
    exact lv_ior hx hb hd k1
  case irem =>
    cases len1 hlen
    obtain ⟨x, y, r, rfl, h2⟩ := q2_inv h; replace h := h2
    split at h
    · cases h
    · rename_i hy
      cases h
      have hxx : okI x := okS_h (okS_t hst)
      have hyy : okI y := okS_h hst
      have k1 := kk (okS_c (okI_wr _) (okS_t (okS_t hst)))
      simp only [List.map_cons, cv, ofInt_wr, Int32.ofInt_sub, Int32.ofInt_mul, of_div hxx hyy] at k1 ⊢
      exact lv_irem hx hb hd (fun q => hy ((of_eq hyy okI_0).mp q)) k1
  case ishl =>
    cases len1 hlen
    obtain ⟨x, y, r, rfl, h2⟩ := q2_inv h; replace h := h2
    cases h
    have k1 := kk (okS_c (okI_ti _) (okS_t (okS_t hst)))
    simp only [List.map_cons, cv, Int32.ofInt_toInt] at k1 ⊢
    exact lv_ishl hx hb hd k1
  case ishr =>
    cases len1 hlen
    obtain ⟨x, y, r, rfl, h2⟩ := q2_inv h; replace h := h2
    cases h
    have k1 := kk (okS_c (okI_ti _) (okS_t (okS_t hst)))
    simp only [List.map_cons, cv, Int32.ofInt_toInt] at k1 ⊢
    exact lv_ishr hx hb hd k1
  case isub =>
    cases len1 hlen
    obtain ⟨x, y, r, rfl, h2⟩ := q2_inv h; replace h := h2
    cases h
    have k1 := kk (okS_c (okI_wr _) (okS_t (okS_t hst)))
    simp only [List.map_cons, cv, ofInt_wr, Int32.ofInt_sub] at k1 ⊢
    exact lv_isub hx hb hd k1
  case ladd =>
    cases len1 hlen
    split at h
    · rename_i y x r
      cases h
      have k1 := kk (okS_c (by
        have h1 := Int64.toInt_lt (Int64.ofInt (x + y))
        have h2 := Int64.le_toInt (Int64.ofInt (x + y))
        show -9223372036854775808 ≤ wl (x + y) ∧ wl (x + y) < 9223372036854775808
        unfold wl
        omega) (okS_t (okS_t hst)))
      simp only [List.map_cons, cv, ofInt_wl, Int64.ofInt_add] at k1 ⊢
      exact lv_ladd hx hb hd k1
    · cases h
  case lcmp =>
    cases len1 hlen
    split at h
    · rename_i y x r
      cases h
      have hxx : -9223372036854775808 ≤ x ∧ x < 9223372036854775808 := okS_h (okS_t hst)
      have hyy : -9223372036854775808 ≤ y ∧ y < 9223372036854775808 := okS_h hst
      have ex : (Int64.ofInt x).toInt = x := Int64.toInt_ofInt_of_le (by omega) (by omega)
      have ey : (Int64.ofInt y).toInt = y := Int64.toInt_ofInt_of_le (by omega) (by omega)
      have k1 := kk (okS_c (show okI _ by unfold okI; repeat' split
                                          all_goals omega) (okS_t (okS_t hst)))
      have e1 : Int32.ofInt (if y < x then 1 else if x = y then 0 else -1) = lg_cmp (Int64.ofInt x) (Int64.ofInt y) := by
        unfold lg_cmp
        simp only [gt_iff_lt, Int64.lt_iff_toInt_lt, ← Int64.toInt_inj, ex, ey]
        repeat' split
        all_goals rfl
      simp only [List.map_cons, cv, e1] at k1 ⊢
      exact W.lcmp hx hb hd k1
    · cases h
  case pop =>
    cases len1 hlen
    split at h
    · split at h
      · cases h
      · rename_i v r hv
        cases h
        exact lv_pop hx hb hd (cat_cv (by simpa using hv)) (kk (okS_t hst))
    · cases h
  case sipush n =>
    cases len1 hlen
    split at h
    · rename_i hn
      cases h
      refine lv_sipush hx hb hd ?_ (kk (okS_c ⟨by omega, by omega⟩ hst))
      apply Int32.toInt_inj.mp
      rw [Int16.toInt_toInt32, Int16.toInt_ofInt_of_le (by omega) (by omega), toInt_ok ⟨by omega, by omega⟩]
    · cases h
end SA
