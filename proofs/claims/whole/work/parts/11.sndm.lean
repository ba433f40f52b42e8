/-! calls -/
theorem callOf_inv {k t : Nat} {i : Instr} {st as rest : List PV} {sh : List PS} (h : callOf k i st sh = some (t, as, rest)) : ∃ (idx z : Nat) (q : RTy), (z = 1 ∧ i = .invokevirtual idx ∨ z = 2 ∧ i = .invokespecial idx ∨ z = 0 ∧ i = .invokestatic idx) ∧ methOf (oc k) idx = some q ∧ t = q.2.2.1
    ∧ as = (st.take (na t + (if z = 0 then 0 else 1))).reverse ∧ rest = st.drop (na t + (if z = 0 then 0 else 1)) ∧ t < 134 ∧ kd t = z ∧ na t + (if z = 0 then 0 else 1) ≤ st.length ∧ mSum rest ≤ 8 ∧ na t + (if z = 0 then 0 else 1) ≤ mx t ∧ as.any isL = false ∧ (z = 0 ∨ isObj sh as[0]? (oc t) = true) ∧ (z = 2 ∨ q.2.2.2.1 = false ∨ z = 0) := by
  unfold callOf at h
  split at h
  · cases h
  · rename_i idx z hz
    have hi : (z = 1 ∧ i = .invokevirtual idx ∨ z = 2 ∧ i = .invokespecial idx ∨ z = 0 ∧ i = .invokestatic idx) := by
      split at hz
      · cases hz; exact Or.inl ⟨rfl, rfl⟩
      · cases hz; exact Or.inr (Or.inl ⟨rfl, rfl⟩)
      · cases hz; exact Or.inr (Or.inr ⟨rfl, rfl⟩)
      · cases hz
    split at h
    · cases h
    · rename_i q hq
      simp only [Option.ite_none_right_eq_some, Option.some.injEq, Prod.mk.injEq] at h
      obtain ⟨⟨c1, c2, c3, c4, c5, c6, c7, c8⟩, rfl, rfl, rfl⟩ := h
      exact ⟨idx, z, q, hi, hq, rfl, rfl, rfl, c1, c2, c3, c4, c5, c6, c7, c8⟩
theorem isObj_inv {sh : List PS} {v : Option PV} {c : Nat} (h : isObj sh v c = true) : ∃ (a n : Nat) (L0 : List (Option (Option Nat))), v = some (.inr (.inr (some a))) ∧ ¬ a = 0 ∧ sh[a]? = some (c, n, L0) := by
  unfold isObj at h
  split at h
  · rename_i a
    split at h
    · cases h
    · rename_i ha
      split at h
      · rename_i c0 n0 L0 hs
        have : c0 = c := by simpa using h
        subst this
        exact ⟨a, n0, L0, rfl, ha, hs⟩
      · cases h
  · cases h
theorem mt_facts {t : Nat} (h : t < 134) : (parseMethodDescriptor (nm t).desc).map (fun d => d.parameters.length) = some (na t) ∧ (nm t).cls = cn (oc t) ∧ (nm t).cls ≠ "java/lang/invoke/MethodHandle" ∧ (nm t).cls ≠ "java/lang/invoke/VarHandle" ∧ plainName (nm t).cls = true ∧ mx t ≤ 15 ∧ oc t < 8 ∧ Cond.initialized (nm t).cls ∈ gw
    ∧ (kd t = 0 → Cond.static (nm t) ∈ gw) ∧ (¬ kd t = 0 → Cond.instanceMethod (nm t) ∈ gw) ∧ (kd t = 1 → Cond.selects (nm t).cls (nm t) (nm t) ∈ gw) ∧ (kd t = 2 → (nm t).name = "<init>" ∧ rt t = none) := by
  obtain ⟨h1, h2⟩ := mq_mem h
  have p1 := MT_par _ h2
  obtain ⟨a1, a2, a3, a4, a5, -, -⟩ := MT_cls _ h2
  obtain ⟨b1, b2, b3, b4, b5, -, b7⟩ := MT_kind _ h1
  exact ⟨p1, a1, a2, a3, a4, a5, b7, gwm b1 rfl, fun q => gwm (b2 q) rfl, fun q => gwm (b3 q) rfl, fun q => gwm (b4 q) rfl, b5⟩
theorem tN_nm {t : Nat} (h : t < 134) : tN t = nm t := by
  unfold tN
  rw [if_neg (by omega), if_neg (by omega), if_neg (by omega)]
section SM
variable {p : Program} {l : Launch} {e : Env} {R : Room} {s : State} {m : MethodId} {args : Array Value} {below : List Frame} {meth : Method} {c : Code} {H : Heap} {locs : List Loc} {cells slots : Nat} {Q : State → Prop} {pc : Nat} {ls : Array Slot}
variable {D : va_G} {cI cZ cV : ClassId} {b base L : Nat} {xs : Nat → Int32} {d k : Nat} {sh sh' : List PS} {M M' : PM}
theorem pk_pre {as : List PV} (F : Fx D cI cZ cV b base L xs d k p R s m args meth c) (hw : pw D cI cZ cV b base L xs sh M H) (hS0 : va_S (pA base) s.heap H locs) : ∀ U : State, U.heap = H → s.WarmedH U.vm → Px D cI cZ cV b base L xs as sh M (as.map (cv b base)).toArray U := by
  obtain ⟨hx, hb, hml, hown, hts, hfr, hlo, hin, hK, hX, hbb, hbs⟩ := F
  intro U hU hW
  refine ⟨rfl, by rw [hU]; exact hw, Kst_warm hW hK, ?_⟩
  rw [hU]
  exact va_X.moved hW.alike (hX.kept (hS0.2.1 b (Nat.lt_of_le_of_lt hbb hbs) (Nat.not_lt.mpr hbb)))
set_option maxHeartbeats 4000000 in
theorem pk_run {t mc ms : Nat} {i : Instr} {st as rest : List PV} {r : Option PV} (hcall : callOf k i st sh = some (t, as, rest)) (hlen : lenOk i 3 = true) (F : Fx D cI cZ cV b base L xs (d + 1) k p R s m args meth c) (hw : pw D cI cZ cV b base L xs sh M H) (hS0 : va_S (pA base) s.heap H locs) (hls : ls.size = mx k) (hd : decode (cd k) pc = .ok (i, 3))
    (hM : Met l (nm t) (wsT t) ({ frames := d, cells := mc, slots := ms, locals := 40 * d }) (Px D cI cZ cV b base L xs as sh M) (Qx D cI cZ cV b base L xs r sh' M') mc ms (pA base)) (hc : cells + mc ≤ R.cells) (hs : slots + ms ≤ R.slots) :
    va_Run p l e R s m args below meth c H locs cells slots mc ms (F0 m pc ls (st.map (cv b base))) (rest.map (cv b base)) (Qx D cI cZ cV b base L xs r sh' M' (as.map (cv b base)).toArray) (pA base) := by
  have hpre := pk_pre (as := as) F hw hS0
  obtain ⟨hx, hb, hml, hown, hts, hfr, hlo, hin, hK, hX, hbb, hbs⟩ := F
  obtain ⟨idx, z, q, hi, hq, rfl, has, hrest, ht, hkd, hlen2, hsum, hmx, -, hobj, hnest⟩ := callOf_inv hcall
  obtain ⟨m1, m2, m3⟩ := find_MR hq
  obtain ⟨g1, g2, g3, g4, -, g6, g7, g8, g9, g10, g11, g12⟩ := mt_facts ht
  have hword := Kst_word hts hK (MR_w q m1)
  unfold rWord at hword
  rw [tN_nm ht] at hword
  have hR : d + 1 ≤ R.frames ∧ 8 + (mx q.2.2.1 + 11) + 40 * d ≤ R.locals := ⟨hfr, by omega⟩
  have hroom : ((rest.map (cv b base)).map fun v => v.category).sum ≤ 8 := by rw [mSum_cv]; exact hsum
  have hsplit : st.map (cv b base) = (as.map (cv b base)).reverse ++ rest.map (cv b base) := by
    rw [has, hrest, List.map_reverse, List.reverse_reverse, ← List.map_append, List.take_append_drop]
  have hal : as.length = na q.2.2.1 + (if z = 0 then 0 else 1) := by
    rw [has, List.length_reverse, List.length_take]
    omega
  have hfix : CallFix p m c (cd k) (mx k) s args gw (cn (oc k)) := ⟨hx, hb, hml, hown, hts⟩
  rw [m2] at hword
  rw [← m3] at hi
  have hini := hts _ g8
  rcases hi with ⟨rfl, rfl⟩ | ⟨rfl, rfl⟩ | ⟨rfl, rfl⟩
  · -- virtual
    have hnn : q.2.2.2.1 = false := by
      rcases hnest with h | h | h
      · cases h
      · exact h
      · cases h
    rw [if_neg (by rw [hnn]; decide)] at hword
    have hob : isObj sh as[0]? (oc q.2.2.1) = true := by
      rcases hobj with h | h
      · cases h
      · exact h
    obtain ⟨a, n0, L0, e0, ha, hsa⟩ := isObj_inv hob
    cases as with
    | nil => simp at e0
    | cons v0 as' =>
      simp only [List.getElem?_cons_zero, Option.some.injEq] at e0
      subst e0
      simp only [List.length_cons] at hal
      rw [if_neg (by decide)] at hal
      have hav : av b base a = base + a := by unfold av; rw [if_neg ha]
      obtain ⟨-, cellB, q1, q2, q3, -⟩ := wat_obj (c := oc q.2.2.1) rfl g7 (hw.2.1 a _ ha hsa)
      have hat := (hK.1.1 (oc q.2.2.1) _ (cl_at g7)).2
      exact va_runV (C := (nm q.2.2.1).cls) (b := av b base a) (As := as'.map (cv b base)) hfix hM ⟨callB_of (na q.2.2.1) hts (wsT_good ht) rfl rfl rfl hini hword ⟨g3, g4, g1⟩ hR, hts _ (g10 (by rw [hkd]; decide)), hts _ (g11 hkd)⟩
        ⟨Px_blind, ⟨cellB, by rw [hav]; exact q1, by rw [q3]; rfl, by rw [g2, q2]; exact hat.1⟩, hpre⟩ rfl (by rw [List.length_map]; omega) hls (by rw [hsplit]; simp [cv]) (lv_room hroom) hd ⟨hc, hs⟩
  · -- special
    have hob : isObj sh as[0]? (oc q.2.2.1) = true := by
      rcases hobj with h | h
      · cases h
      · exact h
    obtain ⟨a, n0, L0, e0, ha, hsa⟩ := isObj_inv hob
    cases as with
    | nil => simp at e0
    | cons v0 as' =>
      simp only [List.getElem?_cons_zero, Option.some.injEq] at e0
      subst e0
      simp only [List.length_cons] at hal
      rw [if_neg (by decide)] at hal
      have hret := (g12 hkd).2
      have hM2 : Met l (nm q.2.2.1) (Cond.code (nm q.2.2.1) (cd q.2.2.1) (mx q.2.2.1) none :: gw) ({ frames := d, cells := mc, slots := ms, locals := 40 * d }) (Px D cI cZ cV b base L xs (pR a :: as') sh M) (Qx D cI cZ cV b base L xs r sh' M') mc ms (pA base) := by rw [← hret]; exact hM
      have hgood : GoodIn gw (Cond.code (nm q.2.2.1) (cd q.2.2.1) (mx q.2.2.1) none :: gw) := by rw [← hret]; exact wsT_good ht
      split at hword
      · exact va_runIN (b := av b base a) (As := as'.map (cv b base)) hfix hM2 ⟨va_cnB (na q.2.2.1) hts hgood rfl rfl rfl hword hini ⟨g3, g4, g1⟩ hR, (g12 hkd).1, hts _ (g10 (by rw [hkd]; decide))⟩
          ⟨Px_blind, hpre⟩ rfl (by rw [List.length_map]; omega) hls (by rw [hsplit]; simp [cv]) (lv_room hroom) hd ⟨hc, hs⟩
      · exact va_runI (b := av b base a) (As := as'.map (cv b base)) hfix hM2 ⟨callB_of (na q.2.2.1) hts hgood rfl rfl rfl hini hword ⟨g3, g4, g1⟩ hR, (g12 hkd).1, hts _ (g10 (by rw [hkd]; decide))⟩
          ⟨Px_blind, hpre⟩ rfl (by rw [List.length_map]; omega) hls (by rw [hsplit]; simp [cv]) (lv_room hroom) hd ⟨hc, hs⟩
  · -- static
    rw [if_pos rfl] at hal
    split at hword
    · exact va_runSN (As := as.map (cv b base)) hfix hM ⟨va_cnB (na q.2.2.1) hts (wsT_good ht) rfl rfl rfl hword hini ⟨g3, g4, g1⟩ hR, hts _ (g9 hkd), trivial⟩
        ⟨Px_blind, hpre⟩ rfl (by rw [List.length_map]; omega) hls hsplit (lv_room hroom) hd ⟨hc, hs⟩
    · exact va_runS (As := as.map (cv b base)) hfix hM ⟨callB_of (na q.2.2.1) hts (wsT_good ht) rfl rfl rfl hini hword ⟨g3, g4, g1⟩ hR, hts _ (g9 hkd)⟩
        ⟨Px_blind, hpre⟩ rfl (by rw [List.length_map]; omega) hls hsplit (lv_room hroom) hd ⟨hc, hs⟩
end SM
