/-! THE THEOREM: what the pure machine answers, the machine answers -/
theorem rets_inv {k : Nat} {i : Instr} {st : List PV} {r : Option PV} (h : rets k i st = some r) :
    (∃ x, i = .ireturn ∧ st = [.inl x] ∧ r = some (.inl x) ∧ (rt k = some .int ∨ rt k = some .boolean ∧ (x = 0 ∨ x = 1)))
    ∨ (∃ x, i = .lreturn ∧ st = [.inr (.inl x)] ∧ r = some (.inr (.inl x)) ∧ rt k = some .long)
    ∨ (∃ a n, i = .areturn ∧ st = [.inr (.inr (some a))] ∧ r = some (.inr (.inr (some a))) ∧ rt k = some (.object n))
    ∨ (i = .return_ ∧ st = [] ∧ r = none ∧ rt k = none) := by
  unfold rets at h
  split at h
  · rename_i x
    split at h
    · cases h; exact Or.inl ⟨x, rfl, rfl, rfl, Or.inl (by assumption)⟩
    · split at h
      · cases h; exact Or.inl ⟨x, rfl, rfl, rfl, Or.inr ⟨by assumption, by assumption⟩⟩
      · cases h
    · cases h
  · rename_i x
    split at h
    · cases h; exact Or.inr (Or.inl ⟨x, rfl, rfl, rfl, by assumption⟩)
    · cases h
  · rename_i a
    split at h
    · cases h; exact Or.inr (Or.inr (Or.inl ⟨a, _, rfl, rfl, rfl, by assumption⟩))
    · cases h
  · split at h
    · cases h; exact Or.inr (Or.inr (Or.inr ⟨rfl, rfl, rfl, by assumption⟩))
    · cases h
  · cases h
theorem rets_len {k : Nat} {i : Instr} {st : List PV} {r : Option PV} {len : Nat} (h : rets k i st = some r) (hl : lenOk i len = true) : len = 1 := by
  rcases rets_inv h with ⟨x, rfl, -⟩ | ⟨x, rfl, -⟩ | ⟨a, n, rfl, -⟩ | ⟨rfl, -⟩ <;> exact len1 hl
theorem call_len {k t len : Nat} {i : Instr} {st as rest : List PV} {sh : List PS} (h : callOf k i st sh = some (t, as, rest)) (hl : lenOk i len = true) : len = 3 := by
  obtain ⟨idx, z, q, hi, -⟩ := callOf_inv h
  rcases hi with ⟨-, rfl⟩ | ⟨-, rfl⟩ | ⟨-, rfl⟩ <;> exact len1 hl
theorem lv_args_mem {vs : List Value} (hc : ∀ v ∈ vs, v.category = 1) : ∀ (i0 j : Nat) (v : Value), vs[j]? = some v → (i0 + j, v) ∈ lv_args i0 vs := by
  induction vs with
  | nil => intro i0 j v h; simp at h
  | cons w r ih =>
    intro i0 j v h
    unfold lv_args
    rw [if_neg (by rw [hc w List.mem_cons_self]; decide)]
    cases j with
    | zero =>
      simp only [List.getElem?_cons_zero, Option.some.injEq] at h
      subst h
      exact List.mem_cons_self
    | succ j =>
      simp only [List.getElem?_cons_succ] at h
      have := ih (fun v hv => hc v (List.mem_cons_of_mem _ hv)) (i0 + 1) j v h
      rw [show i0 + 1 + j = i0 + (j + 1) by omega] at this
      exact List.mem_cons_of_mem _ this
theorem lg_sl_len {vs : List Value} (hc : ∀ v ∈ vs, v.category = 1) : (lg_sl vs).length = vs.length := by
  induction vs with
  | nil => rfl
  | cons w r ih =>
    unfold lg_sl at ih ⊢
    rw [List.flatMap_cons, List.length_append, ih (fun v hv => hc v (List.mem_cons_of_mem _ hv)), if_neg (by rw [hc w List.mem_cons_self]; decide)]
    simp
    omega
theorem plv_ent {b base t : Nat} {as : List PV} (ho : okS as) (hl : as.any isL = false) (hm : as.length ≤ mx t) : plv b base ((lg_sl (as.map (cv b base)) ++ List.replicate (mx t - (lg_sl (as.map (cv b base))).length) Slot.unset).toArray) (mx t) (ent t as) := by
  have hc : ∀ v ∈ as.map (cv b base), v.category = 1 := by
    intro v hv
    obtain ⟨w, hw, rfl⟩ := List.mem_map.mp hv
    have := List.any_eq_false.mp hl w hw
    exact cat_cv (by simpa using this)
  have hlen := lg_sl_len hc
  rw [List.length_map] at hlen
  have h1 := lv_entry (as.map (cv b base)) (n := mx t) (by rw [hlen]; exact hm)
  refine ⟨h1.1, h1.2.1, by unfold ent; rw [List.length_append, List.length_map, List.length_replicate]; omega, ?_, ?_⟩
  · intro v hv
    unfold ent at hv
    rcases List.mem_append.mp hv with q | q
    · obtain ⟨w, hw, hwv⟩ := List.mem_map.mp q
      cases hwv
      exact ⟨ho v hw, by have := List.any_eq_false.mp hl v hw; simpa using this⟩
    · have := List.eq_of_mem_replicate q
      cases this
  · intro i v hv
    unfold ent at hv
    by_cases hi : i < as.length
    · rw [List.getElem?_append_left (by rw [List.length_map]; exact hi), List.getElem?_map] at hv
      cases ha : as[i]? with
      | none => rw [ha] at hv; cases hv
      | some w =>
        rw [ha] at hv
        cases hv
        have := lv_args_mem hc 0 i (cv b base v) (by rw [List.getElem?_map, ha]; rfl)
        rw [Nat.zero_add] at this
        exact h1.2.2 (i, cv b base v) this
    · rw [List.getElem?_append_right (by rw [List.length_map]; omega), List.getElem?_replicate] at hv
      split at hv <;> cases hv
section SN
variable {p : Program} {l : Launch} {e : Env} {R : Room} {s : State} {m : MethodId} {args : Array Value} {below : List Frame} {meth : Method} {c : Code} {H : Heap} {locs : List Loc} {cells slots : Nat} {Q : State → Prop} {pc : Nat} {ls : Array Slot}
variable {D : va_G} {cI cZ cV : ClassId} {b base L : Nat} {xs : Nat → Int32} {d k : Nat} {sh sh' : List PS} {M M' : PM}
theorem ps_snd {i : Instr} {len pc' : Nat} {lc lc' : PL} {st st' : List PV} (h : ps d k i len pc lc st sh M = some (pc', lc', st', sh', M')) (hlen : lenOk i len = true) (F : Fx D cI cZ cV b base L xs d k p R s m args meth c) (hl : plv b base ls (mx k) lc) (hw : pw D cI cZ cV b base L xs sh M H) (hS0 : va_S (pA base) s.heap H locs) (hd : decode (cd k) pc = .ok (i, len)) (hst : okS st)
    (hc : cells + (sh'.length - sh.length) ≤ R.cells) (hs : slots + (zs sh' - zs sh) ≤ R.slots)
    (kk : ∀ (H' : Heap) (locs' : List Loc) (ls' : Array Slot), plv b base ls' (mx k) lc' → okS st' → pw D cI cZ cV b base L xs sh' M' H' → va_S (pA base) s.heap H' locs' → W p l e R s m args below meth c H' locs' (cells + (sh'.length - sh.length)) (slots + (zs sh' - zs sh)) Q (F0 m pc' ls' (st'.map (cv b base)))) : W p l e R s m args below meth c H locs cells slots Q (F0 m pc ls (st.map (cv b base))) := by
  have hx := F.1
  have hb := F.2.1
  unfold ps at h
  split at h
  · rename_i hh
    cases h
    simp only [Nat.sub_self, Nat.add_zero] at kk
    exact psA_snd hh hlen hx hb hd hst fun o => kk H locs ls hl o hw hS0
  · split at h
    · rename_i hh
      cases h
      simp only [Nat.sub_self, Nat.add_zero] at kk
      exact psL_snd hh hlen hx hb hd hst hl fun ls' o hl' => kk H locs ls' hl' o hw hS0
    · split at h
      · rename_i hh
        cases h
        simp only [Nat.sub_self, Nat.add_zero] at kk
        exact psB_snd hh hlen hx hb hd hst fun o => kk H locs ls hl o hw hS0
      · split at h
        · rename_i hh
          cases h
          exact psH_snd hh hlen F hw hS0 hd hst hc hs fun H' locs' o w1 w2 => kk H' locs' ls hl o w1 w2
        · split at h
          · rename_i hh
            cases h
            simp only [Nat.sub_self, Nat.add_zero] at kk hc hs
            exact psM_snd hh hlen F hl.1 hd hst hc hs fun o => kk H locs ls hl o hw hS0
          · cases h
end SN
def Snd (D : va_G) (cI cZ cV : ClassId) (b base L : Nat) (xs : Nat → Int32) (n : Nat) : Prop :=
  ∀ (d k pc : Nat) (lc : PL) (st : List PV) (sh : List PS) (M : PM) (r : Option PV) (sh' : List PS) (M' : PM), run n d k pc lc st sh M = some (r, sh', M') →
  ∀ (p : Program) (l : Launch) (e : Env) (R : Room) (s : State) (m : MethodId) (args : Array Value) (below : List Frame) (meth : Method) (c : Code) (H : Heap) (locs : List Loc) (cells slots : Nat) (Q : State → Prop) (ls : Array Slot),
  Fx D cI cZ cV b base L xs d k p R s m args meth c → plv b base ls (mx k) lc → okS st → pw D cI cZ cV b base L xs sh M H → va_S (pA base) s.heap H locs → cells + (sh'.length - sh.length) ≤ R.cells → slots + (zs sh' - zs sh) ≤ R.slots →
  (∀ (H' : Heap) (locs' : List Loc) (ls' : Array Slot) (pc' : Nat) (i : Instr) (st' : List PV), decode (cd k) pc' = .ok (i, 1) → rets k i st' = some r → okS st' → pw D cI cZ cV b base L xs sh' M' H' → va_S (pA base) s.heap H' locs' → W p l e R s m args below meth c H' locs' (cells + (sh'.length - sh.length)) (slots + (zs sh' - zs sh)) Q (F0 m pc' ls' (st'.map (cv b base)))) →
  W p l e R s m args below meth c H locs cells slots Q (F0 m pc ls (st.map (cv b base)))
set_option maxHeartbeats 4000000 in
theorem mk_ctr {D : va_G} {cI cZ cV : ClassId} {b base L : Nat} {xs : Nat → Int32} {n d t : Nat} {as : List PV} {sh sh' : List PS} {M M' : PM} {r : Option PV} (hbb : b ≤ base) (ih : Snd D cI cZ cV b base L xs n) (l : Launch) (hrun : run n d t 0 (ent t as) [] sh M = some (r, sh', M')) (ht : t < 134) (ho : okS as) (hal : as.any isL = false) (hm : as.length ≤ mx t) :
    Met l (nm t) (wsT t) ({ frames := d, cells := sh'.length - sh.length, slots := zs sh' - zs sh, locals := 40 * d }) (Px D cI cZ cV b base L xs as sh M) (Qx D cI cZ cV b base L xs r sh' M') (sh'.length - sh.length) (zs sh' - zs sh) (pA base) := by
  obtain ⟨g1, g2, g3, g4, g5, g6, g7, g8, g9, g10, g11, g12⟩ := mt_facts ht
  refine Met.ofW (cc := cd t) (maxL := mx t) (ret := rt t) g5 rfl ?_
  intro p e s m args below meth c s₁ B hml hv
  obtain ⟨rfl, hpw, hK, hX⟩ := hv
  have hx := B.exec
  have hb := B.bytes
  have hr := B.returns
  have hts0 := atoms_spec (ws := wsT t) B.pre
  have hown : s.vm.findClass (nm t).cls = some m.cls := findClass_of_methodNamed B.named
  have hlocks := B.notSynchronized
  have hname : meth.name = (nm t).name := (name_of_methodNamed B.named B.method).1
  rw [lg_entry_eq]
  refine ih d t 0 (ent t as) [] sh M r sh' M' hrun p l e _ s m _ below meth c s.heap [] 0 0 _ _ ⟨hx, hb, hml, by rw [← g2]; exact hown, fun w hw => hts0 w (List.mem_cons_of_mem _ hw), Nat.le_refl d, Nat.le_refl (40 * d), fun q => by rw [hname]; exact (g12 q).1, hK, hX, hbb, (pw_ne hpw).2⟩ (plv_ent ho hal hm) (fun v hv => by cases hv) hpw va_S.rf (by rw [Nat.zero_add]; exact Nat.le_refl _) (by rw [Nat.zero_add]; exact Nat.le_refl _) ?_
  intro H' locs' ls' pc' i st' hd hret hst' hw' hS'
  rw [Nat.zero_add, Nat.zero_add]
  rcases rets_inv hret with ⟨x, rfl, rfl, rfl, hrt⟩ | ⟨x, rfl, rfl, rfl, hrt⟩ | ⟨a, nn, rfl, rfl, rfl, hrt⟩ | ⟨rfl, rfl, rfl, hrt⟩
  · rcases hrt with hrt | ⟨hrt, h01⟩
    · exact W.iret (v := Int32.ofInt x) hx hb (by rw [hr, hrt]) (fun t2 ht2 hW => ⟨rfl, by rw [ht2]; exact hw', okS_h hst', hS'.F ht2⟩) hS'.2.2 hd
    · exact W.zret (v := Int32.ofInt x) (ty := .boolean) hx hb (by rw [hr, hrt]) (by rcases h01 with rfl | rfl <;> decide) (fun t2 ht2 hW => ⟨rfl, by rw [ht2]; exact hw', okS_h hst', hS'.F ht2⟩) hS'.2.2 hd
  · exact W.lret (v := Int64.ofInt x) hx hb (by rw [hr, hrt]) (fun t2 ht2 hW => ⟨rfl, by rw [ht2]; exact hw', okS_h hst', hS'.F ht2⟩) hS'.2.2 hd
  · exact W.aret (v := .ref (av b base a)) (rt := .object nn) hx hb (by rw [hr, hrt]) (Or.inl ⟨nn, rfl⟩) (Or.inr ⟨_, rfl⟩) (fun t2 ht2 hW => ⟨rfl, by rw [ht2]; exact hw', trivial, hS'.F ht2⟩) hS'.2.2 hd
  · exact W.vret hx hb (by rw [hr, hrt]) (fun t2 ht2 hW => ⟨rfl, by rw [ht2]; exact hw', trivial, hS'.F ht2⟩) hS'.2.2 hd
set_option maxHeartbeats 4000000 in
theorem snd {D : va_G} {cI cZ cV : ClassId} {b base L : Nat} {xs : Nat → Int32} (hbb : b ≤ base) : ∀ n : Nat, Snd D cI cZ cV b base L xs n := by
  intro n
  induction n with
  | zero => intro d k pc lc st sh M r sh' M' h; cases h
  | succ n ih =>
    intro d k pc lc st sh M r sh' M' h p l e R s m args below meth c H locs cells slots Q ls F hl hst hw hS hc hs kk
    have hmono := run_mono _ h
    unfold run at h
    split at h
    · cases h
    · rename_i i len hd
      split at h
      · cases h
      · rename_i hlen
        have hlen : lenOk i len = true := by simpa using hlen
        split at h
        · rename_i pc1 lc1 st1 sh1 M1 hps
          have m1 := ps_mono hps
          have m2 := run_mono _ h
          refine ps_snd hps hlen F hl hw hS hd hst (by omega) (by omega) fun H' locs' ls' l1 o1 w1 s1 => ?_
          refine ih d k pc1 lc1 st1 sh1 M1 r sh' M' h p l e R s m args below meth c H' locs' _ _ Q ls' F l1 o1 w1 s1 (by omega) (by omega) fun H2 locs2 ls2 pc2 i2 st2 hd2 hr2 ho2 hw2 hS2 => ?_
          exact W.cs (by omega) (by omega) (kk H2 locs2 ls2 pc2 i2 st2 hd2 hr2 ho2 hw2 hS2)
        · split at h
          · rename_i r0 hret
            cases h
            have := rets_len hret hlen
            subst this
            have k1 := kk H locs ls pc i st hd hret hst hw hS
            simp only [Nat.sub_self, Nat.add_zero] at k1
            exact k1
          · split at h
            · cases h
            · rename_i t as rest hcall
              have := call_len hcall hlen
              subst this
              split at h
              · cases h
              · rename_i d'
                split at h
                · cases h
                · rename_i r1 sh1 M1 hrun1
                  have m1 := run_mono _ hrun1
                  have m2 := run_mono _ h
                  obtain ⟨idx, z, q, -, -, -, has, hrest, ht, -, hlen2, -, hmx, hany, -⟩ := callOf_inv hcall
                  have hoas : okS as := fun v hv => hst v (by rw [has] at hv; exact List.mem_of_mem_take (List.mem_reverse.mp hv))
                  have hal : as.length ≤ mx t := by rw [has, List.length_reverse, List.length_take]; omega
                  have hM := mk_ctr hbb ih l hrun1 ht hoas hany hal
                  refine pk_call (pk_run hcall hlen F hw hS hl.1 hd hM (by omega) (by omega)) hS fun H1 locs1 w1 ok1 s1 => ?_
                  have e1 : (r1.map (cv b base)).toList ++ rest.map (cv b base) = (r1.toList ++ rest).map (cv b base) := by cases r1 <;> rfl
                  rw [e1]
                  have ho1 : okS (r1.toList ++ rest) := by
                    intro v hv
                    rcases List.mem_append.mp hv with q1 | q1
                    · cases r1 with
                      | none => cases q1
                      | some w =>
                        have : v = w := by simpa using q1
                        subst this
                        exact ok1
                    · exact hst v (by rw [hrest] at q1; exact List.mem_of_mem_drop q1)
                  refine ih _ k (pc + 3) lc (r1.toList ++ rest) sh1 M1 r sh' M' h p l e R s m args below meth c H1 locs1 _ _ Q ls F hl ho1 w1 s1 (by omega) (by omega) fun H2 locs2 ls2 pc2 i2 st2 hd2 hr2 ho2 hw2 hS2 => ?_
                  exact W.cs (by omega) (by omega) (kk H2 locs2 ls2 pc2 i2 st2 hd2 hr2 ho2 hw2 hS2)
