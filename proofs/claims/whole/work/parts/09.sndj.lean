/-! making objects; Math and Object.<init>; the heap's steps together -/
set_option maxRecDepth 100000 in
theorem cl_dv : ∀ c, c < 8 → ∀ k, k < fN c → (parseFieldDescriptor (fT c k).2.2.1).map defaultValue = some (match (dfl c).getD k none with | none => Value.int 0 | _ => Value.null) := by decide +kernel
theorem dfl_len : ∀ c, c < 8 → (dfl c).length = fN c ∧ ∀ f ∈ dfl c, f = none ∨ f = some none := by decide +kernel
theorem psz_new {c : Nat} (h : c < 8) : psz (c, 0, dfl c) = fN c := by unfold psz; rw [if_pos h]
theorem zs_app (sh : List PS) (s' : PS) : zs (sh ++ [s']) = zs sh + psz s' := by unfold zs; simp
theorem zs_set {sh : List PS} {a : Nat} {s0 s' : PS} (hs : sh[a]? = some s0) (h : psz s' = psz s0) : zs (sh.set a s') = zs sh := by
  unfold zs
  congr 1
  apply List.ext_getElem?
  intro i
  simp only [List.getElem?_map]
  by_cases hi : a = i
  · subst hi
    rw [List.getElem?_set_self (List.getElem?_eq_some_iff.mp hs).1, hs]
    simp [h]
  · rw [List.getElem?_set_ne hi]
theorem zs_set3 {sh : List PS} {a c0 n : Nat} {L0 L1 : List (Option (Option Nat))} (hs : sh[a]? = some (c0, n, L0)) : zs (sh.set a (c0, n, L1)) = zs sh := zs_set hs rfl
section SJ
variable {p : Program} {l : Launch} {e : Env} {R : Room} {s : State} {m : MethodId} {args : Array Value} {below : List Frame} {meth : Method} {c : Code} {H : Heap} {locs : List Loc} {cells slots : Nat} {Q : State → Prop} {pc : Nat} {ls : Array Slot}
variable {D : va_G} {cI cZ cV : ClassId} {b base L : Nat} {xs : Nat → Int32} {d k : Nat} {sh sh' : List PS} {M M' : PM} {rest : List Value}
theorem pj_new {q : Nat × Nat × Nat × Nat × Nat × Nat} (F : Fx D cI cZ cV b base L xs d k p R s m args meth c) (hw : pw D cI cZ cV b base L xs sh M H) (hS0 : va_S (pA base) s.heap H locs) (hq : q ∈ NC) (ho : q.1 = oc k) (h8 : q.2.2.1 < 8) (hne : ¬ sh.length = 0)
    (hc : cells + 1 ≤ R.cells) (hs : slots + fN q.2.2.1 ≤ R.slots) (hd : decode (cd k) pc = .ok (.new q.2.1, 3))
    (kk : ∀ (H' : Heap), pw D cI cZ cV b base L xs (sh ++ [(q.2.2.1, 0, dfl q.2.2.1)]) (setR M sh.length fun _ => 0) H' → va_S (pA base) s.heap H' locs → W p l e R s m args below meth c H' locs (cells + 1) (slots + fN q.2.2.1) Q (F0 m (pc + 3) ls (.ref (av b base sh.length) :: rest))) : W p l e R s m args below meth c H locs cells slots Q (F0 m pc ls rest) := by
  obtain ⟨hx, hb, hml, hown, hts, -, -, hin, hK, hX, hbb, hbs⟩ := F
  obtain ⟨n1, n2, n3⟩ := NC_w q hq
  have hKn := hK.1.1 q.2.2.1 _ (cl_at h8)
  have hav : av b base sh.length = base + sh.length := by unfold av; rw [if_neg hne]
  rw [hav] at kk
  refine W.newcK hx hb (by rw [ho]; exact hown) (hts _ n1) (hts _ n2) (hts _ n3) rfl hd hc hs hKn.2.1 hw.1 fun H1 kC hkC e1 z1 o1 => ?_
  refine kk H1 (pw_push hw hne (by rw [z1, hw.1]) (fun z hz => o1 z (by rw [← hw.1]; exact hz)) (wat_of (c := q.2.2.1) rfl h8 (dfl_len _ h8).1 ?_) (by show (0 : Nat) < _; decide)) ⟨?_, ?_, hS0.2.2⟩
  · refine (u_born (fun k => (parseFieldDescriptor (fT q.2.2.1 k).2.2.1).getD .int) hts (cl_in _ h8) hKn hkC e1 (fun k hk => ?_)).to fun j hj => ?_
    · have := cl_ty _ h8 k hk
      cases h : parseFieldDescriptor (fT q.2.2.1 k).2.2.1 with
      | none => rw [h] at this; cases this
      | some x => rfl
    · have h1 := cl_dv _ h8 j hj
      cases h : parseFieldDescriptor (fT q.2.2.1 j).2.2.1 with
      | none => rw [h] at h1; cases h1
      | some x =>
        rw [h] at h1
        simp only [Option.map_some, Option.some.injEq] at h1
        simp only [Option.getD_some]
        rw [h1]
        have h2 := (dfl_len _ h8).2
        cases hj2 : (dfl q.2.2.1)[j]? with
        | none => rw [List.getD_eq_getElem?_getD, hj2]; rfl
        | some f =>
          rw [List.getD_eq_getElem?_getD, hj2]
          rcases h2 f (List.mem_of_getElem? hj2) with rfl | rfl <;> rfl
  · exact Nat.le_trans hS0.1 (by rw [z1, hw.1]; omega)
  · intro x h1 h2
    rw [o1 x (by have := hS0.1; rw [hw.1] at this; omega)]
    exact hS0.2.1 x h1 h2
theorem pj_newa {x : Int} {at_ : ArrayType} {ty : FieldType} {c0 : Nat} (hcase : (at_ = .int ∧ ty = .int ∧ c0 = 8) ∨ (at_ = .boolean ∧ ty = .boolean ∧ c0 = 9)) (F : Fx D cI cZ cV b base L xs d k p R s m args meth c) (hw : pw D cI cZ cV b base L xs sh M H) (hS0 : va_S (pA base) s.heap H locs) (hok : okI x) (h0 : 0 ≤ x) (h1 : x ≤ 1000) (hne : ¬ sh.length = 0)
    (hc : cells + 1 ≤ R.cells) (hs : slots + x.toNat ≤ R.slots) (hd : decode (cd k) pc = .ok (.newarray at_, 2))
    (kk : ∀ (H' : Heap), pw D cI cZ cV b base L xs (sh ++ [(c0, x.toNat, [])]) (setR M sh.length fun _ => 0) H' → va_S (pA base) s.heap H' locs → W p l e R s m args below meth c H' locs (cells + 1) (slots + x.toNat) Q (F0 m (pc + 2) ls (.ref (av b base sh.length) :: rest))) : W p l e R s m args below meth c H locs cells slots Q (F0 m pc ls (.int (Int32.ofInt x) :: rest)) := by
  obtain ⟨hx, hb, hml, hown, hts, -, -, hin, hK, hX, hbb, hbs⟩ := F
  have hav : av b base sh.length = base + sh.length := by unfold av; rw [if_neg hne]
  rw [hav] at kk
  have hneg : ¬ Int32.ofInt x < 0 := fun q => by have := (of_lt hok okI_0).mp q; omega
  have hcl : (Int32.ofInt x).toNatClampNeg = x.toNat := by rw [← Int32.toNat_toInt, toInt_ok hok]
  have hsz : ∀ (H1 : Heap), H1.size = base + sh.length + 1 → (∀ q : Nat, q < base + sh.length → H1[q]? = H[q]?) → va_S (pA base) s.heap H1 locs := fun H1 z1 o1 =>
    ⟨Nat.le_trans hS0.1 (by rw [z1, hw.1]; omega), fun y h1 h2 => by rw [o1 y (by have := hS0.1; rw [hw.1] at this; omega)]; exact hS0.2.1 y h1 h2, hS0.2.2⟩
  rcases hcase with ⟨rfl, rfl, rfl⟩ | ⟨rfl, rfl, rfl⟩
  · refine va_newaK (atype := .int) hx hb (hts _ tw_i) rfl hd rfl hneg hcl (by show _ * 4 ≤ _; omega) hc hs hw.1 fun H1 cA e1 z1 o1 ha hf => ?_
    have hcA : cA = cI := Option.some.inj (hf.symm.trans (hK.1.2 0 _ rfl).2)
    subst hcA
    refine kk H1 (pw_push hw hne (by rw [z1, hw.1]) (fun z hz => o1 z (by rw [← hw.1]; exact hz)) ?_ (by show x.toNat < _; omega)) (hsz H1 z1 o1)
    unfold wat
    rw [if_pos rfl, e1]
    rfl
  · refine va_newaK (atype := .boolean) hx hb (hts _ tw_z) rfl hd rfl hneg hcl (by show _ * 1 ≤ _; omega) hc hs hw.1 fun H1 cA e1 z1 o1 ha hf => ?_
    have hcA : cA = cZ := Option.some.inj (hf.symm.trans (hK.1.2 1 _ rfl).2)
    subst hcA
    refine kk H1 (pw_push hw hne (by rw [z1, hw.1]) (fun z hz => o1 z (by rw [← hw.1]; exact hz)) ?_ (by show x.toNat < _; omega)) (hsz H1 z1 o1)
    unfold wat
    rw [if_neg n98, if_pos rfl, e1]
    rfl
theorem pj_newq {x : Int} {q : Nat × Nat × Nat × Nat × Nat × Nat} (F : Fx D cI cZ cV b base L xs d k p R s m args meth c) (hw : pw D cI cZ cV b base L xs sh M H) (hS0 : va_S (pA base) s.heap H locs) (hq : q ∈ NC) (ho : q.1 = oc k) (h5 : q.2.2.1 = 5) (hok : okI x) (h0 : 0 ≤ x) (h1 : x ≤ 1000) (hne : ¬ sh.length = 0)
    (hc : cells + 1 ≤ R.cells) (hs : slots + x.toNat ≤ R.slots) (hd : decode (cd k) pc = .ok (.anewarray q.2.1, 3))
    (kk : ∀ (H' : Heap), pw D cI cZ cV b base L xs (sh ++ [(10, x.toNat, List.replicate x.toNat (some none))]) (setR M sh.length fun _ => 0) H' → va_S (pA base) s.heap H' locs → W p l e R s m args below meth c H' locs (cells + 1) (slots + x.toNat) Q (F0 m (pc + 3) ls (.ref (av b base sh.length) :: rest))) : W p l e R s m args below meth c H locs cells slots Q (F0 m pc ls (.int (Int32.ofInt x) :: rest)) := by
  obtain ⟨hx, hb, hml, hown, hts, -, -, hin, hK, hX, hbb, hbs⟩ := F
  obtain ⟨n1, n2, n3⟩ := NC_w q hq
  rw [h5] at n1
  have hav : av b base sh.length = base + sh.length := by unfold av; rw [if_neg hne]
  rw [hav] at kk
  have hneg : ¬ Int32.ofInt x < 0 := fun q => by have := (of_lt hok okI_0).mp q; omega
  have hcl : (Int32.ofInt x).toNatClampNeg = x.toNat := by rw [← Int32.toNat_toInt, toInt_ok hok]
  refine W.anew (C := RX5) hx hb (by rw [ho]; exact hown) (hts _ n1) (va_AO.use hK.2.1) rfl hd rfl hneg (by rw [hcl]; omega) hc (by rw [hcl]; exact hs) fun cA kA comp f1 f2 f3 f4 => ?_
  have hcA : cA = cV := by
    obtain ⟨kA', comp', g1, g2, g3, g4⟩ := (hK.1.2 2 _ rfl).2
    exact Option.some.inj (f1.symm.trans g4)
  subst hcA
  rw [hcl]
  generalize hH1 : H.push ({ cls := cA, slots := Array.replicate x.toNat .null, vm := .none } : Cell) = H1
  have z1 : H1.size = H.size + 1 := by rw [← hH1, Array.size_push]
  have e1 : H1[H.size]? = some (arrV cA x.toNat (fun _ => .null)) := by rw [← hH1, Array.getElem?_push_size, ← arrV_new]
  have o1 : ∀ q : Nat, q < H.size → H1[q]? = H[q]? := fun q hq => by rw [← hH1, Array.getElem?_push, if_neg (Nat.ne_of_lt hq)]
  rw [hw.1]
  rw [hw.1] at e1
  refine kk H1 (pw_push hw hne z1 o1 ?_ (by show x.toNat < _; omega)) ⟨Nat.le_trans hS0.1 (by omega), fun y h1 h2 => by rw [o1 y (Nat.lt_of_lt_of_le h1 hS0.1)]; exact hS0.2.1 y h1 h2, hS0.2.2⟩
  unfold wat
  rw [if_neg nA8, if_neg nA9, if_pos rfl, e1]
  congr 2
  funext i
  rw [List.getD_eq_getElem?_getD, List.getElem?_replicate]
  split <;> rfl
theorem psM_snd {i : Instr} {len : Nat} {st st' : List PV} (h : psM d k i st = some st') (hlen : lenOk i len = true) (F : Fx D cI cZ cV b base L xs d k p R s m args meth c) (hls : ls.size = mx k) (hd : decode (cd k) pc = .ok (i, len)) (hst : okS st) (hc : cells ≤ R.cells) (hs : slots ≤ R.slots)
    (kk : okS st' → W p l e R s m args below meth c H locs cells slots Q (F0 m (pc + len) ls (st'.map (cv b base)))) : W p l e R s m args below meth c H locs cells slots Q (F0 m pc ls (st.map (cv b base))) := by
  obtain ⟨hx, hb, hml, hown, hts, hfr, hlo, hin, hK, hX, hbb, hbs⟩ := F
  cases i <;> simp only [psM] at h <;> first | (cases h; done) | skip
  case invokespecial idx =>
    cases len1 hlen
    split at h
    · rename_i q hq
      obtain ⟨m1, m2, rfl⟩ := find_MR hq
      split at h
      · rename_i hc2
        obtain ⟨t1, t2, t3⟩ := hc2
        obtain ⟨a, r, rfl, h2⟩ := q1r_inv h; replace h := h2
        split at h
        · rename_i h8
          cases h
          have hw := Kst_word hts hK (MR_w q m1)
          unfold rWord at hw
          rw [if_neg (by rw [t2]; decide), t1, show tN 200 = Lib.objectInit from rfl] at hw
          exact W.objInit hx hb (by rw [m2]; exact hown) hw (hts _ tb_oi) (hts _ tw_oc) rfl (by rw [hml]; exact hls) rfl hd (by omega) (by
            have e1 : (F0 m pc ls (List.map (cv b base) (.inr (.inr (some a)) :: st'))).monitorRoom = 0 := rfl
            rw [e1, mSum_cv]; omega) (kk (okS_t hst))
        · cases h
      · cases h
    · cases h
  case invokestatic idx =>
    cases len1 hlen
    split at h
    · rename_i q hq
      obtain ⟨m1, m2, rfl⟩ := find_MR hq
      have hw := Kst_word hts hK (MR_w q m1)
      unfold rWord at hw
      split at h
      · rename_i hc2
        obtain ⟨t1, t2, t3⟩ := hc2
        obtain ⟨x, y, r, rfl, h2⟩ := q2_inv h; replace h := h2
        split at h
        · rename_i h8
          cases h
          have oy : okI y := okS_h hst
          have ox : okI x := okS_h (okS_t hst)
          rw [if_neg (by rw [t2]; decide), t1, show tN 201 = Lib.Math.max.name from rfl] at hw
          have k1 := kk (okS_c (show okI _ by split <;> assumption) (okS_t (okS_t hst)))
          refine va_mmax hx hb (by rw [hml, hls]) (by rw [m2]; exact hown) hw (hts _ tb_max.1) (hts _ tb_max.2.2) (hts _ tw_mx) (by omega) (by rw [mSum_cv]; omega) hc hs hd ?_
          have e1 : (if Int32.ofInt x < Int32.ofInt y then Int32.ofInt y else Int32.ofInt x) = Int32.ofInt (if x < y then y else x) := by
            by_cases z : x < y
            · rw [if_pos z, if_pos ((of_lt ox oy).mpr z)]
            · rw [if_neg z, if_neg (fun w => z ((of_lt ox oy).mp w))]
          rw [e1]
          exact k1
        · cases h
      · split at h
        · rename_i hc2
          obtain ⟨t1, t2, t3⟩ := hc2
          obtain ⟨x, y, r, rfl, h2⟩ := q2_inv h; replace h := h2
          split at h
          · rename_i h8
            cases h
            have oy : okI y := okS_h hst
            have ox : okI x := okS_h (okS_t hst)
            rw [if_neg (by rw [t2]; decide), t1, show tN 202 = Lib.Math.min.name from rfl] at hw
            have k1 := kk (okS_c (show okI _ by split <;> assumption) (okS_t (okS_t hst)))
            refine va_mmin hx hb (by rw [hml, hls]) (by rw [m2]; exact hown) hw (hts _ tb_max.2.1) (hts _ tb_max.2.2) (hts _ tw_mn) (by omega) (by rw [mSum_cv]; omega) hc hs hd ?_
            have e1 : (if Int32.ofInt y < Int32.ofInt x then Int32.ofInt y else Int32.ofInt x) = Int32.ofInt (if y < x then y else x) := by
              by_cases z : y < x
              · rw [if_pos z, if_pos ((of_lt oy ox).mpr z)]
              · rw [if_neg z, if_neg (fun w => z ((of_lt oy ox).mp w))]
            rw [e1]
            exact k1
          · cases h
        · cases h
    · cases h
theorem psH_mono {i : Instr} {st st' : List PV} (h : psH k i st sh M = some (st', sh', M')) : sh.length ≤ sh'.length ∧ zs sh ≤ zs sh' := by
  cases i <;> simp only [psH] at h <;> first | (cases h; done) | skip
  case aaload => obtain ⟨a, i, r, rfl, h2⟩ := q2r_inv h; replace h := h2; obtain ⟨v, hv, h⟩ := obind h; cases h; exact ⟨Nat.le_refl _, Nat.le_refl _⟩
  case aastore =>
    split at h
    · obtain ⟨v, hv, h⟩ := obind h
      cases h
      unfold rput at hv
      repeat' split at hv
      all_goals first | (cases hv; done) | skip
      rename_i hs _ _ _ _ _
      cases hv
      exact ⟨by rw [List.length_set]; exact Nat.le_refl _, by rw [zs_set3 (by assumption)]; exact Nat.le_refl _⟩
    · cases h
  case anewarray idx =>
    obtain ⟨n, r, rfl, h2⟩ := q1_inv h; replace h := h2
    split at h
    · split at h
      · cases h
        exact ⟨by simp, by rw [zs_app]; omega⟩
      · cases h
    · cases h
  case arraylength => obtain ⟨a, r, rfl, h2⟩ := q1r_inv h; replace h := h2; obtain ⟨v, hv, h⟩ := obind h; cases h; exact ⟨Nat.le_refl _, Nat.le_refl _⟩
  case baload => obtain ⟨a, i, r, rfl, h2⟩ := q2r_inv h; replace h := h2; obtain ⟨v, hv, h⟩ := obind h; cases h; exact ⟨Nat.le_refl _, Nat.le_refl _⟩
  case bastore => obtain ⟨a, i, x, r, rfl, h2⟩ := q3r_inv h; replace h := h2; obtain ⟨v, hv, h⟩ := obind h; cases h; exact ⟨Nat.le_refl _, Nat.le_refl _⟩
  case getfield idx =>
    obtain ⟨a, r, rfl, h2⟩ := q1r_inv h; replace h := h2
    split at h
    · obtain ⟨v, hv, h⟩ := obind h
      cases h
      exact ⟨Nat.le_refl _, Nat.le_refl _⟩
    · cases h
  case iaload => obtain ⟨a, i, r, rfl, h2⟩ := q2r_inv h; replace h := h2; obtain ⟨v, hv, h⟩ := obind h; cases h; exact ⟨Nat.le_refl _, Nat.le_refl _⟩
  case iastore => obtain ⟨a, i, x, r, rfl, h2⟩ := q3r_inv h; replace h := h2; obtain ⟨v, hv, h⟩ := obind h; cases h; exact ⟨Nat.le_refl _, Nat.le_refl _⟩
  case ldc idx =>
    split at h
    · cases h; exact ⟨Nat.le_refl _, Nat.le_refl _⟩
    · cases h
  case ldc2_w idx =>
    split at h
    · cases h; exact ⟨Nat.le_refl _, Nat.le_refl _⟩
    · cases h
  case new idx =>
    split at h
    · split at h
      · cases h
        exact ⟨by simp, by rw [zs_app]; omega⟩
      · cases h
    · cases h
  case newarray t =>
    cases t <;> simp only [] at h <;> first | (cases h; done) | skip
    all_goals
      obtain ⟨n, r, rfl, h2⟩ := q1_inv h; replace h := h2
      split at h
      · cases h
        exact ⟨by simp, by rw [zs_app]; omega⟩
      · cases h
  case putfield idx =>
    split at h
    · split at h
      · split at h
        · obtain ⟨v, hv, h⟩ := obind h
          cases h
          exact ⟨Nat.le_refl _, Nat.le_refl _⟩
        · cases h
      · cases h
    · split at h
      · split at h
        · obtain ⟨v, hv, h⟩ := obind h
          cases h
          unfold putR at hv
          repeat' split at hv
          all_goals first | (cases hv; done) | skip
          cases hv
          exact ⟨by rw [List.length_set]; exact Nat.le_refl _, by rw [zs_set3 (by assumption)]; exact Nat.le_refl _⟩
        · cases h
      · cases h
    · cases h
end SJ
