/-! locals and branches -/
def plv (b base : Nat) (ls : Array Slot) (n : Nat) (lc : PL) : Prop := ls.size = n ∧ lv_wf ls ∧ lc.length = n ∧ okL lc ∧ ∀ (i : Nat) (v : PV), lc[i]? = some (some v) → ls[i]? = some (.val (cv b base v))
def lvl (b base : Nat) (lc : PL) : List (Nat × Value) := (List.range lc.length).filterMap fun i => match lc[i]? with | some (some v) => some (i, cv b base v) | _ => none
theorem lvl_mem {b base : Nat} {lc : PL} {j : Nat} {w : Value} : (j, w) ∈ lvl b base lc ↔ ∃ v, lc[j]? = some (some v) ∧ w = cv b base v := by
  unfold lvl
  rw [List.mem_filterMap]
  constructor
  · rintro ⟨i, -, hi⟩
    split at hi
    · rename_i v hv
      cases hi
      exact ⟨v, hv, rfl⟩
    · cases hi
  · rintro ⟨v, hv, rfl⟩
    refine ⟨j, List.mem_range.mpr (List.getElem?_eq_some_iff.mp hv).1, ?_⟩
    rw [hv]
theorem plv_has {b base : Nat} {ls : Array Slot} {n : Nat} {lc : PL} (h : plv b base ls n lc) : lv_has ls n (lvl b base lc) := by
  obtain ⟨h1, h2, h3, h4, h5⟩ := h
  refine ⟨h1, h2, ?_⟩
  rintro ⟨j, w⟩ hq
  obtain ⟨v, hv, rfl⟩ := lvl_mem.mp hq
  exact h5 j v hv
theorem plv_at {b base : Nat} {ls : Array Slot} {n : Nat} {lc : PL} (h : plv b base ls n lc) {i : Nat} {v : PV} (hv : lc[i]? = some (some v)) : ls[i]? = some (.val (cv b base v)) := h.2.2.2.2 i v hv
theorem plv_ok {b base : Nat} {ls : Array Slot} {n : Nat} {lc : PL} (h : plv b base ls n lc) {i : Nat} {v : PV} (hv : lc[i]? = some (some v)) : okv v ∧ isL v = false := h.2.2.2.1 v (List.mem_of_getElem? hv)
theorem plv_set {b base : Nat} {ls ls' : Array Slot} {n : Nat} {lc : PL} {i : Nat} {v : PV} (h : plv b base ls n lc) (hi : i < n) (hv : okv v) (hl : isL v = false)
    (h' : lv_has ls' n ((i, cv b base v) :: (lvl b base lc).filter (fun q => !(q.1 == i) && !(q.1 + 1 == i && q.2.category == 2)))) : plv b base ls' n (lc.set i (some v)) := by
  obtain ⟨h1, h2, h3, h4, h5⟩ := h
  refine ⟨h'.1, h'.2.1, by rw [List.length_set]; exact h3, ?_, ?_⟩
  · intro w hw
    rcases List.mem_or_eq_of_mem_set hw with q | q
    · exact h4 w q
    · cases q
      exact ⟨hv, hl⟩
  · intro j w hw
    by_cases hj : i = j
    · subst hj
      rw [List.getElem?_set_self (by omega)] at hw
      cases hw
      exact h'.2.2 (i, cv b base v) List.mem_cons_self
    · rw [List.getElem?_set_ne hj] at hw
      refine h'.2.2 (j, cv b base w) (List.mem_cons_of_mem _ (List.mem_filter.mpr ⟨lvl_mem.mpr ⟨w, hw, rfl⟩, ?_⟩))
      have h6 := cat_cv (b := b) (base := base) (h4 w (List.mem_of_getElem? hw)).2
      simp only [h6]
      simp
      exact fun q => hj q.symm
theorem ldI_inv {lc lc' : PL} {i : Nat} {st st' : List PV} (h : ldI lc i st = some (lc', st')) : ∃ x, lc[i]? = some (some (.inl x)) ∧ lc' = lc ∧ st' = .inl x :: st := by
  unfold ldI at h
  split at h
  · rename_i x hx
    cases h
    exact ⟨x, hx, rfl, rfl⟩
  · cases h
theorem ldR_inv {lc lc' : PL} {i : Nat} {st st' : List PV} (h : ldR lc i st = some (lc', st')) : ∃ a, lc[i]? = some (some (.inr (.inr (some a)))) ∧ lc' = lc ∧ st' = .inr (.inr (some a)) :: st := by
  unfold ldR at h
  split at h
  · rename_i x hx
    cases h
    exact ⟨x, hx, rfl, rfl⟩
  · cases h
theorem stI_inv {lc lc' : PL} {i : Nat} {st st' : List PV} (h : stI lc i st = some (lc', st')) : ∃ x, st = .inl x :: st' ∧ i < lc.length ∧ lc' = lc.set i (some (.inl x)) := by
  obtain ⟨x, r, rfl, h2⟩ := q1_inv h; replace h := h2
  split at h
  · cases h
    exact ⟨x, rfl, by assumption, rfl⟩
  · cases h
theorem stR_inv {lc lc' : PL} {i : Nat} {st st' : List PV} (h : stR lc i st = some (lc', st')) : ∃ a, st = .inr (.inr (some a)) :: st' ∧ i < lc.length ∧ lc' = lc.set i (some (.inr (.inr (some a)))) := by
  obtain ⟨x, r, rfl, h2⟩ := q1r_inv h; replace h := h2
  split at h
  · cases h
    exact ⟨x, rfl, by assumption, rfl⟩
  · cases h
section SB
variable {p : Program} {l : Launch} {e : Env} {R : Room} {s : State} {m : MethodId} {args : Array Value} {below : List Frame} {meth : Method} {c : Code} {H : Heap} {locs : List Loc} {cells slots : Nat} {Q : State → Prop} {cc : ByteArray} {pc : Nat} {ls : Array Slot} {b base : Nat}
set_option maxHeartbeats 4000000 in
theorem psL_snd {i : Instr} {len n : Nat} {st st' : List PV} {lc lc' : PL} (h : psL i lc st = some (lc', st')) (hlen : lenOk i len = true) (hx : p.tables.exec = Jvm.exec) (hb : c.code = cc) (hd : decode cc pc = .ok (i, len)) (hst : okS st) (hl : plv b base ls n lc)
    (kk : ∀ ls' : Array Slot, okS st' → plv b base ls' n lc' → W p l e R s m args below meth c H locs cells slots Q (F0 m (pc + len) ls' (st'.map (cv b base)))) : W p l e R s m args below meth c H locs cells slots Q (F0 m pc ls (st.map (cv b base))) := by
  cases i <;> simp only [psL] at h <;> first | (cases h; done) | skip
  case aload j =>
    cases len1 hlen
    obtain ⟨a, ha, rfl, rfl⟩ := ldR_inv h
    exact lv_aload hx hb hd (plv_at hl ha) (kk ls (okS_c trivial hst) hl)
  case aload_n j =>
    cases len1 hlen
    obtain ⟨a, ha, rfl, rfl⟩ := ldR_inv h
    exact lv_aload_n hx hb hd rfl (plv_at hl ha) (kk ls (okS_c trivial hst) hl)
  case astore j =>
    cases len1 hlen
    obtain ⟨a, rfl, hi, rfl⟩ := stR_inv h
    exact lv_astore hx hb hd (plv_has hl) (by rw [← hl.2.2.1]; exact hi) rfl fun ls' h' => kk ls' (okS_t hst) (plv_set hl (by rw [← hl.2.2.1]; exact hi) trivial rfl h')
  case astore_n j =>
    cases len1 hlen
    obtain ⟨a, rfl, hi, rfl⟩ := stR_inv h
    exact lv_astore_n hx hb hd rfl (plv_has hl) (by rw [← hl.2.2.1]; exact hi) rfl fun ls' h' => kk ls' (okS_t hst) (plv_set hl (by rw [← hl.2.2.1]; exact hi) trivial rfl h')
  case iinc j k =>
    cases len1 hlen
    split at h
    · rename_i x hxx
      cases h
      have hi : j < n := by rw [← hl.2.2.1]; exact (List.getElem?_eq_some_iff.mp hxx).1
      obtain ⟨t, ht⟩ := List.getElem?_of_mem (lvl_mem (b := b) (base := base).mpr ⟨_, hxx, rfl⟩)
      refine lv_iinc (v := Int32.ofInt (wr (x + k))) hx hb hd (plv_has hl) ht ?_ hi rfl fun ls' h' => kk ls' hst (plv_set hl hi (okI_wr _) rfl h')
      rw [ofInt_wr, Int32.ofInt_add]
    · cases h
  case iload j =>
    cases len1 hlen
    obtain ⟨a, ha, rfl, rfl⟩ := ldI_inv h
    exact lv_iload hx hb hd (plv_at hl ha) (kk ls (okS_c (plv_ok hl ha).1 hst) hl)
  case iload_n j =>
    cases len1 hlen
    obtain ⟨a, ha, rfl, rfl⟩ := ldI_inv h
    exact lv_iload_n hx hb hd rfl (plv_at hl ha) (kk ls (okS_c (plv_ok hl ha).1 hst) hl)
  case istore j =>
    cases len1 hlen
    obtain ⟨a, rfl, hi, rfl⟩ := stI_inv h
    exact lv_istore hx hb hd (plv_has hl) (by rw [← hl.2.2.1]; exact hi) rfl fun ls' h' => kk ls' (okS_t hst) (plv_set hl (by rw [← hl.2.2.1]; exact hi) (okS_h hst) rfl h')
  case istore_n j =>
    cases len1 hlen
    obtain ⟨a, rfl, hi, rfl⟩ := stI_inv h
    exact lv_istore_n hx hb hd rfl (plv_has hl) (by rw [← hl.2.2.1]; exact hi) rfl fun ls' h' => kk ls' (okS_t hst) (plv_set hl (by rw [← hl.2.2.1]; exact hi) (okS_h hst) rfl h')
theorem tg_inv {pc : Nat} {off : Int} {α : Type} {f : Nat → Option α} {z : α} (h : (tg pc off).bind f = some z) : ∃ t : Nat, (pc : Int) + off = (t : Int) ∧ f t = some z := by
  unfold tg at h
  split at h
  · exact ⟨((pc : Int) + off).toNat, by omega, h⟩
  · cases h
set_option maxHeartbeats 4000000 in
theorem psB_snd {i : Instr} {len pc' : Nat} {st st' : List PV} (h : psB i pc st = some (pc', st')) (hlen : lenOk i len = true) (hx : p.tables.exec = Jvm.exec) (hb : c.code = cc) (hd : decode cc pc = .ok (i, len)) (hst : okS st)
    (kk : okS st' → W p l e R s m args below meth c H locs cells slots Q (F0 m pc' ls (st'.map (cv b base)))) : W p l e R s m args below meth c H locs cells slots Q (F0 m pc ls (st.map (cv b base))) := by
  cases i <;> simp only [psB] at h <;> first | (cases h; done) | skip
  case goto off =>
    cases len1 hlen
    obtain ⟨t, ht, h⟩ := tg_inv h
    cases h
    exact lv_goto hx hb hd ht (kk hst)
  case ifCond cd off =>
    cases len1 hlen
    obtain ⟨x, r, rfl, h2⟩ := q1_inv h; replace h := h2
    obtain ⟨t, ht, h⟩ := tg_inv h
    cases h
    have ox : okI x := okS_h hst
    have k1 := kk (okS_t hst)
    cases cd <;> simp only [cnd] at k1
    · exact lv_if_eq hx hb hd ht (fun q => by have q := (of_eq ox okI_0).mp q; simpa [q] using k1) (fun q => by have q := mt (of_eq ox okI_0).mpr q; simpa [q] using k1)
    · exact lv_if_ne hx hb hd ht (fun q => by have q := mt (of_eq ox okI_0).mpr q; simpa [q] using k1) (fun q => by have q := (of_eq ox okI_0).mp q; simpa [q] using k1)
    · exact lv_if_lt hx hb hd ht (fun q => by have q := (of_lt ox okI_0).mp q; simpa [q] using k1) (fun q => by have q := mt (of_lt ox okI_0).mpr q; simpa [q] using k1)
    · exact lv_if_ge hx hb hd ht (fun q => by have q := (of_le okI_0 ox).mp q; simpa [q] using k1) (fun q => by have q := mt (of_le okI_0 ox).mpr q; simpa [q] using k1)
    · exact lv_if_gt hx hb hd ht (fun q => by have q := (of_lt okI_0 ox).mp q; simpa [q] using k1) (fun q => by have q := mt (of_lt okI_0 ox).mpr q; simpa [q] using k1)
    · exact lv_if_le hx hb hd ht (fun q => by have q := (of_le ox okI_0).mp q; simpa [q] using k1) (fun q => by have q := mt (of_le ox okI_0).mpr q; simpa [q] using k1)
  case if_icmp cd off =>
    cases len1 hlen
    obtain ⟨x, y, r, rfl, h2⟩ := q2_inv h; replace h := h2
    obtain ⟨t, ht, h⟩ := tg_inv h
    cases h
    have oy : okI y := okS_h hst
    have ox : okI x := okS_h (okS_t hst)
    have k1 := kk (okS_t (okS_t hst))
    cases cd <;> simp only [cnd] at k1
    · exact lv_icmp_eq hx hb hd ht (fun q => by have q := (of_eq ox oy).mp q; simpa [q] using k1) (fun q => by have q := mt (of_eq ox oy).mpr q; simpa [q] using k1)
    · exact lv_icmp_ne hx hb hd ht (fun q => by have q := mt (of_eq ox oy).mpr q; simpa [q] using k1) (fun q => by have q := (of_eq ox oy).mp q; simpa [q] using k1)
    · exact lv_icmp_lt hx hb hd ht (fun q => by have q := (of_lt ox oy).mp q; simpa [q] using k1) (fun q => by have q := mt (of_lt ox oy).mpr q; simpa [q] using k1)
    · exact lv_icmp_ge hx hb hd ht (fun q => by have q := (of_le oy ox).mp q; simpa [q] using k1) (fun q => by have q := mt (of_le oy ox).mpr q; simpa [q] using k1)
    · exact lv_icmp_gt hx hb hd ht (fun q => by have q := (of_lt oy ox).mp q; simpa [q] using k1) (fun q => by have q := mt (of_lt oy ox).mpr q; simpa [q] using k1)
    · exact lv_icmp_le hx hb hd ht (fun q => by have q := (of_le ox oy).mp q; simpa [q] using k1) (fun q => by have q := mt (of_le ox oy).mpr q; simpa [q] using k1)
  case ifnonnull off =>
    cases len1 hlen
    split at h
    · cases h
      exact lv_ifnonnullN hx hb hd (kk (okS_t hst))
    · obtain ⟨t, ht, h⟩ := tg_inv h
      cases h
      exact lv_ifnonnull hx hb hd ht (kk (okS_t hst))
    · cases h
  case ifnull off =>
    cases len1 hlen
    split at h
    · obtain ⟨t, ht, h⟩ := tg_inv h
      cases h
      exact lv_ifnullN hx hb hd ht (kk (okS_t hst))
    · cases h
      exact lv_ifnull hx hb hd (kk (okS_t hst))
    · cases h
  case tableswitch dflt lo hi offs =>
    obtain ⟨x, r, rfl, h2⟩ := q1_inv h; replace h := h2
    have ox : okI x := okS_h hst
    have ex : (Int32.ofInt x).toInt = x := toInt_ok ox
    split at h
    · rename_i hq
      obtain ⟨t, ht, h⟩ := tg_inv h
      cases h
      exact lv_tableOut (x := Int32.ofInt x) hx hb hd (by rw [ex]; exact hq) ht (kk (okS_t hst))
    · rename_i hq
      split at h
      · rename_i off ho
        obtain ⟨t, ht, h⟩ := tg_inv h
        cases h
        exact lv_tableIn (x := Int32.ofInt x) hx hb hd (by rw [ex]; omega) (by rw [ex]; omega) (by rw [ex]; exact ho) ht (kk (okS_t hst))
      · cases h
end SB
