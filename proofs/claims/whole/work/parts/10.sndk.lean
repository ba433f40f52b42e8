/-! the steps together, calls, and the theorem: what the pure machine answers, the machine answers -/
theorem ps_mono {d k : Nat} {i : Instr} {len pc pc' : Nat} {lc lc' : PL} {st st' : List PV} {sh sh' : List PS} {M M' : PM} (h : ps d k i len pc lc st sh M = some (pc', lc', st', sh', M')) : sh.length ≤ sh'.length ∧ zs sh ≤ zs sh' := by
  unfold ps at h
  split at h
  · cases h; exact ⟨Nat.le_refl _, Nat.le_refl _⟩
  · split at h
    · cases h; exact ⟨Nat.le_refl _, Nat.le_refl _⟩
    · split at h
      · cases h; exact ⟨Nat.le_refl _, Nat.le_refl _⟩
      · split at h
        · rename_i hh
          cases h
          exact psH_mono hh
        · split at h
          · cases h; exact ⟨Nat.le_refl _, Nat.le_refl _⟩
          · cases h
theorem run_mono : ∀ (n : Nat) {d k pc : Nat} {lc : PL} {st : List PV} {sh sh' : List PS} {M M' : PM} {r : Option PV}, run n d k pc lc st sh M = some (r, sh', M') → sh.length ≤ sh'.length ∧ zs sh ≤ zs sh' := by
  intro n
  induction n with
  | zero => intro d k pc lc st sh sh' M M' r h; cases h
  | succ n ih =>
    intro d k pc lc st sh sh' M M' r h
    unfold run at h
    split at h
    · cases h
    · split at h
      · cases h
      · split at h
        · rename_i hh
          have h1 := ps_mono hh
          have h2 := ih h
          exact ⟨Nat.le_trans h1.1 h2.1, Nat.le_trans h1.2 h2.2⟩
        · split at h
          · cases h; exact ⟨Nat.le_refl _, Nat.le_refl _⟩
          · split at h
            · cases h
            · split at h
              · cases h
              · split at h
                · cases h
                · rename_i hh
                  have h1 := ih hh
                  have h2 := ih h
                  exact ⟨Nat.le_trans h1.1 h2.1, Nat.le_trans h1.2 h2.2⟩
def okr (r : Option PV) : Prop := match r with | some v => okv v | none => True
def Qx (D : va_G) (cI cZ cV : ClassId) (b base L : Nat) (xs : Nat → Int32) (r : Option PV) (sh : List PS) (M : PM) : Array Value → State → Outcome → State → Prop := fun _ st o t =>
  o = .returned (r.map (cv b base)) ∧ pw D cI cZ cV b base L xs sh M t.heap ∧ okr r ∧ va_F (pA base) st t
def Px (D : va_G) (cI cZ cV : ClassId) (b base L : Nat) (xs : Nat → Int32) (as : List PV) (sh : List PS) (M : PM) : Array Value → State → Prop := va_Pc (as.map (cv b base)) fun U => pw D cI cZ cV b base L xs sh M U.heap ∧ Kst D cI cZ cV U ∧ va_X b L xs U U.heap
abbrev wsT (t : Nat) : List Cond := .code (nm t) (cd t) (mx t) (rt t) :: gw
theorem Px_blind {D : va_G} {cI cZ cV : ClassId} {b base L : Nat} {xs : Nat → Int32} {as : List PV} {sh : List PS} {M : PM} : FrameBlind (Px D cI cZ cV b base L xs as sh M) := by
  intro a U g mk h
  obtain ⟨h1, h2, h3, h4⟩ := h
  exact ⟨h1, h2, Kst_same (s := U) (U := U.calling g mk a) rfl h3, va_X.moved (u := U) (U := U.calling g mk a) (Vm.Alike.refl U.vm) h4⟩
theorem pw_ne {D : va_G} {cI cZ cV : ClassId} {b base L : Nat} {xs : Nat → Int32} {sh : List PS} {M : PM} {H : Heap} (hw : pw D cI cZ cV b base L xs sh M H) : 1 ≤ sh.length ∧ base < H.size := by
  obtain ⟨h1, -, ⟨L0, h3⟩, -⟩ := hw
  have := (List.getElem?_eq_some_iff.mp h3).1
  omega
theorem mq_mem {t : Nat} (h : t < 134) : mq t ∈ MTm ∧ mq t ∈ MT := by
  have e : MT[t]? = some (mq t) := by
    unfold mq
    rw [List.getD_eq_getElem?_getD]
    have : t < MT.length := Nat.lt_of_lt_of_le h (by decide +kernel)
    rw [List.getElem?_eq_getElem this]
    rfl
  refine ⟨?_, List.mem_of_getElem? e⟩
  unfold MTm
  exact List.mem_of_getElem? (i := t) (by rw [List.getElem?_take, if_pos h]; exact e)
theorem wsT_good {t : Nat} (h : t < 134) : GoodIn gw (wsT t) := by
  intro w hw
  rcases List.mem_cons.mp hw with rfl | hw
  · exact ⟨gwm (MT_code _ (mq_mem h).1) rfl, Or.inl rfl⟩
  · exact gw_good w hw
section SK
variable {p : Program} {l : Launch} {e : Env} {R : Room} {s : State} {m : MethodId} {args : Array Value} {below : List Frame} {meth : Method} {c : Code} {H : Heap} {locs : List Loc} {cells slots : Nat} {Q : State → Prop} {pc : Nat} {ls : Array Slot}
variable {D : va_G} {cI cZ cV : ClassId} {b base L : Nat} {xs : Nat → Int32} {d k : Nat} {sh sh' : List PS} {M M' : PM} {rest : List Value}
set_option maxHeartbeats 4000000 in
theorem psH_snd {i : Instr} {len : Nat} {st st' : List PV} (h : psH k i st sh M = some (st', sh', M')) (hlen : lenOk i len = true) (F : Fx D cI cZ cV b base L xs d k p R s m args meth c) (hw : pw D cI cZ cV b base L xs sh M H) (hS0 : va_S (pA base) s.heap H locs) (hd : decode (cd k) pc = .ok (i, len)) (hst : okS st)
    (hc : cells + (sh'.length - sh.length) ≤ R.cells) (hs : slots + (zs sh' - zs sh) ≤ R.slots)
    (kk : ∀ (H' : Heap) (locs' : List Loc), okS st' → pw D cI cZ cV b base L xs sh' M' H' → va_S (pA base) s.heap H' locs' → W p l e R s m args below meth c H' locs' (cells + (sh'.length - sh.length)) (slots + (zs sh' - zs sh)) Q (F0 m (pc + len) ls (st'.map (cv b base)))) : W p l e R s m args below meth c H locs cells slots Q (F0 m pc ls (st.map (cv b base))) := by
  cases i <;> simp only [psH] at h <;> first | (cases h; done) | skip
  case aaload =>
    cases len1 hlen
    obtain ⟨a, i, r, rfl, h2⟩ := q2r_inv h; replace h := h2; obtain ⟨v, hv, h⟩ := obind h; cases h
    simp only [Nat.sub_self, Nat.add_zero] at kk
    exact pi_aald F hw (okS_h hst) hv hd fun ov => kk H locs (okS_c ov (okS_t (okS_t hst))) hw hS0
  case aastore =>
    cases len1 hlen
    split at h
    · obtain ⟨v, hv, h⟩ := obind h
      cases h
      have e1 : sh'.length - sh.length = 0 := by
        unfold rput at hv
        repeat' split at hv
        all_goals first | (cases hv; done) | skip
        cases hv
        rw [List.length_set]; omega
      have e2 : zs sh' - zs sh = 0 := by
        unfold rput at hv
        repeat' split at hv
        all_goals first | (cases hv; done) | skip
        cases hv
        rw [zs_set3 (by assumption)]; omega
      rw [e1, e2] at kk
      exact pi_aast F hw hS0 (okS_h (okS_t hst)) hv hd fun H' locs' w1 w2 => kk H' locs' (okS_t (okS_t (okS_t hst))) w1 w2
    · cases h
  case anewarray idx =>
    cases len1 hlen
    obtain ⟨n, r, rfl, h2⟩ := q1_inv h; replace h := h2
    split at h
    · rename_i q hq
      obtain ⟨m1, m2, rfl⟩ := find_p hq
      split at h
      · rename_i hcc
        obtain ⟨c1, c2, c3, c4⟩ := hcc
        cases h
        have e1 : (sh ++ [(10, n.toNat, List.replicate n.toNat (some none))] : List PS).length - sh.length = 1 := by simp
        have e2 : zs (sh ++ [(10, n.toNat, List.replicate n.toNat (some none))]) - zs sh = n.toNat := by rw [zs_app]; show zs sh + n.toNat - zs sh = _; omega
        rw [e1] at kk hc; rw [e2] at kk hs
        exact pj_newq F hw hS0 m1 m2 c1 (okS_h hst) c2 c3 c4 hc hs hd fun H' w1 w2 => kk H' locs (okS_c trivial (okS_t hst)) w1 w2
      · cases h
    · cases h
  case arraylength =>
    cases len1 hlen
    obtain ⟨a, r, rfl, h2⟩ := q1r_inv h; replace h := h2; obtain ⟨v, hv, h⟩ := obind h; cases h
    simp only [Nat.sub_self, Nat.add_zero] at kk
    exact pi_alen F hw hS0 hv hd fun ov => kk H locs (okS_c ov (okS_t hst)) hw hS0
  case baload =>
    cases len1 hlen
    obtain ⟨a, i, r, rfl, h2⟩ := q2r_inv h; replace h := h2; obtain ⟨v, hv, h⟩ := obind h; cases h
    simp only [Nat.sub_self, Nat.add_zero] at kk
    exact pi_zald F hw (okS_h hst) hv hd fun ov => kk H locs (okS_c ov (okS_t (okS_t hst))) hw hS0
  case bastore =>
    cases len1 hlen
    obtain ⟨a, i, x, r, rfl, h2⟩ := q3r_inv h; replace h := h2; obtain ⟨v, hv, h⟩ := obind h; cases h
    simp only [Nat.sub_self, Nat.add_zero] at kk
    exact pi_zast F hw hS0 (okS_h (okS_t hst)) (okS_h hst) hv hd fun H' locs' w1 w2 => kk H' locs' (okS_t (okS_t (okS_t hst))) w1 w2
  case getfield idx =>
    cases len1 hlen
    obtain ⟨a, r, rfl, h2⟩ := q1r_inv h; replace h := h2
    split at h
    · rename_i q hq
      obtain ⟨m1, m2, rfl⟩ := find_FR hq
      obtain ⟨v, hv, h⟩ := obind h
      cases h
      simp only [Nat.sub_self, Nat.add_zero] at kk
      exact pg_get F hw m1 m2 hv hd fun ov => kk H locs (okS_c ov (okS_t hst)) hw hS0
    · cases h
  case iaload =>
    cases len1 hlen
    obtain ⟨a, i, r, rfl, h2⟩ := q2r_inv h; replace h := h2; obtain ⟨v, hv, h⟩ := obind h; cases h
    simp only [Nat.sub_self, Nat.add_zero] at kk
    exact pi_iald F hw hS0 (okS_h hst) hv hd fun ov => kk H locs (okS_c ov (okS_t (okS_t hst))) hw hS0
  case iastore =>
    cases len1 hlen
    obtain ⟨a, i, x, r, rfl, h2⟩ := q3r_inv h; replace h := h2; obtain ⟨v, hv, h⟩ := obind h; cases h
    simp only [Nat.sub_self, Nat.add_zero] at kk
    exact pi_iast F hw hS0 (okS_h (okS_t hst)) (okS_h hst) hv hd fun H' locs' w1 w2 => kk H' locs' (okS_t (okS_t (okS_t hst))) w1 w2
  case ldc idx =>
    cases len1 hlen
    split at h
    · rename_i q hq
      obtain ⟨m1, m2, rfl⟩ := find_p hq
      cases h
      simp only [Nat.sub_self, Nat.add_zero] at kk
      obtain ⟨hx, hb, hml, hown, hts, -⟩ := F
      exact lv_ldc hx hb hown (hts _ (by rw [← m2]; exact KI_w q m1)) hd (kk H locs (okS_c (KI_ok q m1).2 hst) hw hS0)
    · cases h
  case ldc2_w idx =>
    cases len1 hlen
    split at h
    · rename_i q hq
      obtain ⟨m1, m2, rfl⟩ := find_p hq
      cases h
      simp only [Nat.sub_self, Nat.add_zero] at kk
      obtain ⟨hx, hb, hml, hown, hts, -⟩ := F
      exact lv_ldc2 hx hb hown (hts _ (by rw [← m2]; exact KL_w q m1)) hd (kk H locs (okS_c (KL_ok q m1).2 hst) hw hS0)
    · cases h
  case new idx =>
    cases len1 hlen
    split at h
    · rename_i q hq
      obtain ⟨m1, m2, rfl⟩ := find_p hq
      split at h
      · rename_i hcc
        cases h
        have e1 : (sh ++ [(q.2.2.1, 0, dfl q.2.2.1)] : List PS).length - sh.length = 1 := by simp
        have e2 : zs (sh ++ [(q.2.2.1, 0, dfl q.2.2.1)]) - zs sh = fN q.2.2.1 := by rw [zs_app, psz_new hcc.1]; omega
        rw [e1] at kk hc; rw [e2] at kk hs
        exact pj_new F hw hS0 m1 m2 hcc.1 hcc.2 hc hs hd fun H' w1 w2 => kk H' locs (okS_c trivial hst) w1 w2
      · cases h
    · cases h
  case newarray t =>
    cases t <;> simp only [] at h <;> first | (cases h; done) | skip
    · cases len1 hlen
      obtain ⟨n, r, rfl, h2⟩ := q1_inv h; replace h := h2
      split at h
      · rename_i hcc
        cases h
        have e1 : (sh ++ [(9, n.toNat, [])] : List PS).length - sh.length = 1 := by simp
        have e2 : zs (sh ++ [(9, n.toNat, [])]) - zs sh = n.toNat := by rw [zs_app]; show zs sh + n.toNat - zs sh = _; omega
        rw [e1] at kk hc; rw [e2] at kk hs
        exact pj_newa (Or.inr ⟨rfl, rfl, rfl⟩) F hw hS0 (okS_h hst) hcc.1 hcc.2.1 hcc.2.2 hc hs hd fun H' w1 w2 => kk H' locs (okS_c trivial (okS_t hst)) w1 w2
      · cases h
    · cases len1 hlen
      obtain ⟨n, r, rfl, h2⟩ := q1_inv h; replace h := h2
      split at h
      · rename_i hcc
        cases h
        have e1 : (sh ++ [(8, n.toNat, [])] : List PS).length - sh.length = 1 := by simp
        have e2 : zs (sh ++ [(8, n.toNat, [])]) - zs sh = n.toNat := by rw [zs_app]; show zs sh + n.toNat - zs sh = _; omega
        rw [e1] at kk hc; rw [e2] at kk hs
        exact pj_newa (Or.inl ⟨rfl, rfl, rfl⟩) F hw hS0 (okS_h hst) hcc.1 hcc.2.1 hcc.2.2 hc hs hd fun H' w1 w2 => kk H' locs (okS_c trivial (okS_t hst)) w1 w2
      · cases h
  case putfield idx =>
    cases len1 hlen
    split at h
    · split at h
      · rename_i q hq
        obtain ⟨m1, m2, rfl⟩ := find_FR hq
        split at h
        · rename_i hcc
          obtain ⟨v, hv, h⟩ := obind h
          cases h
          simp only [Nat.sub_self, Nat.add_zero] at kk
          exact pi_putI (j := 0) F hw hS0 m1 m2 hcc.1 hcc.2 (okS_h hst) hv hd fun H' locs' w1 w2 => kk H' locs' (okS_t (okS_t hst)) w1 w2
        · cases h
      · cases h
    · split at h
      · rename_i q hq
        obtain ⟨m1, m2, rfl⟩ := find_FR hq
        split at h
        · rename_i hcc
          obtain ⟨g1, g2, g3, g4, g5⟩ := hcc
          obtain ⟨v, hv, h⟩ := obind h
          cases h
          have e1 : sh'.length - sh.length = 0 := by
            unfold putR at hv
            repeat' split at hv
            all_goals first | (cases hv; done) | skip
            cases hv
            rw [List.length_set]; omega
          have e2 : zs sh' - zs sh = 0 := by
            unfold putR at hv
            repeat' split at hv
            all_goals first | (cases hv; done) | skip
            cases hv
            rw [zs_set3 (by assumption)]; omega
          rw [e1, e2] at kk
          exact pi_putR F hw hS0 m1 m2 ⟨g1, g3, g4, g5⟩ g2 hv hd fun H' locs' w1 w2 => kk H' locs' (okS_t (okS_t hst)) w1 w2
        · cases h
      · cases h
    · cases h
theorem pk_call {mc ms : Nat} {a : Array Value} {r : Option PV} {st0 : List Value} (hr : va_Run p l e R s m args below meth c H locs cells slots mc ms (F0 m pc ls st0) rest (Qx D cI cZ cV b base L xs r sh' M' a) (pA base)) (hS : va_S (pA base) s.heap H locs)
    (kk : ∀ (H1 : Heap) (locs1 : List Loc), pw D cI cZ cV b base L xs sh' M' H1 → okr r → va_S (pA base) s.heap H1 locs1 → W p l e R s m args below meth c H1 locs1 (cells + mc) (slots + ms) Q (F0 m (pc + 3) ls ((r.map (cv b base)).toList ++ rest))) : W p l e R s m args below meth c H locs cells slots Q (F0 m pc ls st0) := by
  intro T hT X
  obtain ⟨v, st₀, t, T', L', h0, X', hL, e1, e2, ⟨hv, hp, hok, hz, hk⟩, st⟩ := hr T hT X
  cases hv
  rw [h0] at hz hk
  obtain ⟨t2, a1, b1⟩ := kk T'.heap (locs ++ L') (by rw [e1]; exact hp) hok
    ⟨Nat.le_trans hS.1 (by rw [e1]; exact hz), fun q h1 h2 => by rw [e1, hk q (Nat.lt_of_lt_of_le h1 hS.1) h2]; exact hS.2.1 q h1 h2, fun q hq => by
      rcases List.mem_append.mp hq with h | h
      · exact hS.2.2 q h
      · exact hL q h⟩ T' rfl X'
  exact ⟨t2, st t2 a1, b1⟩
end SK
