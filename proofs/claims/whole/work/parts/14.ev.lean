/-! runs as values: ev; its equations -/
theorem run_le : ∀ (n m : Nat) {d k pc : Nat} {lc : PL} {st : List PV} {sh : List PS} {M : PM} {r : PR}, n ≤ m → run n d k pc lc st sh M = some r → run m d k pc lc st sh M = some r := by
  intro n
  induction n with
  | zero => intro m d k pc lc st sh M r _ h; cases h
  | succ n ih =>
    intro m d k pc lc st sh M r hm h
    obtain ⟨m, rfl⟩ : ∃ m', m = m' + 1 := ⟨m - 1, by omega⟩
    unfold run at h ⊢
    split at h
    · cases h
    · rename_i i len hd
      try rw [hd]
      try dsimp only
      split at h
      · cases h
      · rename_i hlen
        try rw [if_neg hlen]
        split at h
        · rename_i pc1 lc1 st1 sh1 M1 hps
          try rw [hps]
          exact ih m (by omega) h
        · rename_i hps
          try rw [hps]
          try dsimp only
          split at h
          · rename_i r0 hr
            try rw [hr]
            exact h
          · rename_i hr
            try rw [hr]
            try dsimp only
            split at h
            · cases h
            · rename_i t as rest hc
              try rw [hc]
              try dsimp only
              split at h
              · cases h
              · split at h
                · cases h
                · rename_i r1 sh1 M1 h1
                  rw [ih m (by omega) h1]
                  exact ih m (by omega) h
noncomputable def ev (d k pc : Nat) (lc : PL) (st : List PV) (sh : List PS) (M : PM) : Option PR :=
  @dite _ (∃ r : PR, ∃ n, run n d k pc lc st sh M = some r) (Classical.propDecidable _) (fun h => some (Classical.choose h)) (fun _ => none)
theorem ev_iff {d k pc : Nat} {lc : PL} {st : List PV} {sh : List PS} {M : PM} {r : PR} : ev d k pc lc st sh M = some r ↔ ∃ n, run n d k pc lc st sh M = some r := by
  unfold ev
  constructor
  · intro h
    split at h
    · rename_i hx
      cases h
      exact Classical.choose_spec hx
    · cases h
  · intro h
    have hx : ∃ r : PR, ∃ n, run n d k pc lc st sh M = some r := ⟨r, h⟩
    rw [dif_pos hx]
    obtain ⟨n1, h1⟩ := Classical.choose_spec hx
    obtain ⟨n2, h2⟩ := h
    have e1 := run_le n1 (n1 + n2) (Nat.le_add_right _ _) h1
    have e2 := run_le n2 (n1 + n2) (Nat.le_add_left _ _) h2
    rw [← e1, e2]
noncomputable def den (d t : Nat) (as : List PV) (sh : List PS) (M : PM) : Option PR := ev d t 0 (ent t as) [] sh M
theorem ev_of {d k pc : Nat} {lc : PL} {st : List PV} {sh : List PS} {M : PM} {i : Instr} {len : Nat} (hd : decode (cd k) pc = .ok (i, len)) (hl : lenOk i len = true) (n : Nat) : run (n + 1) d k pc lc st sh M = match ps d k i len pc lc st sh M with
      | some (pc', lc', st', sh', M') => run n d k pc' lc' st' sh' M'
      | none => match rets k i st with
        | some r => some (r, sh, M)
        | none => match callOf k i st sh with
          | none => none
          | some (t, as, rest) => match d with
            | 0 => none
            | d' + 1 => match run n d' t 0 (ent t as) [] sh M with
              | none => none
              | some (r, sh', M') => run n (d' + 1) k (pc + 3) lc (r.toList ++ rest) sh' M' := by
  show (match decode (cd k) pc with | .error _ => none | .ok (i, len) => _) = _
  rw [hd]
  show (if lenOk i len = false then none else _) = _
  rw [if_neg (by rw [hl]; decide)]
  rfl
theorem ev_ext {d k pc d' k' pc' : Nat} {lc lc' : PL} {st st' : List PV} {sh sh' : List PS} {M M' : PM} (h : ∀ n, run (n + 1) d k pc lc st sh M = run n d' k' pc' lc' st' sh' M') : ev d k pc lc st sh M = ev d' k' pc' lc' st' sh' M' := by
  apply Option.ext
  intro r
  rw [ev_iff, ev_iff]
  constructor
  · rintro ⟨n, hn⟩
    cases n with
    | zero => cases hn
    | succ n => exact ⟨n, by rw [← h]; exact hn⟩
  · rintro ⟨n, hn⟩
    exact ⟨n + 1, by rw [h]; exact hn⟩
theorem ev_ps {d k pc pc' : Nat} {lc lc' : PL} {st st' : List PV} {sh sh' : List PS} {M M' : PM} {i : Instr} {len : Nat} (hd : decode (cd k) pc = .ok (i, len)) (hl : lenOk i len = true) (h : ps d k i len pc lc st sh M = some (pc', lc', st', sh', M')) : ev d k pc lc st sh M = ev d k pc' lc' st' sh' M' :=
  ev_ext fun n => by rw [ev_of hd hl, h]
theorem ev_ret {d k pc : Nat} {lc : PL} {st : List PV} {sh : List PS} {M : PM} {i : Instr} {len : Nat} {r : Option PV} (hd : decode (cd k) pc = .ok (i, len)) (hl : lenOk i len = true) (h0 : ps d k i len pc lc st sh M = none) (h : rets k i st = some r) : ev d k pc lc st sh M = some (r, sh, M) :=
  ev_iff.mpr ⟨1, by rw [ev_of hd hl, h0, h]⟩
theorem ev_call {d k pc t : Nat} {lc : PL} {st as rest : List PV} {sh : List PS} {M : PM} {i : Instr} {len : Nat} (hd : decode (cd k) pc = .ok (i, len)) (hl : lenOk i len = true) (h0 : ps (d + 1) k i len pc lc st sh M = none) (h1 : rets k i st = none) (h2 : callOf k i st sh = some (t, as, rest)) :
    ev (d + 1) k pc lc st sh M = (den d t as sh M).bind fun x => ev (d + 1) k (pc + 3) lc (x.1.toList ++ rest) x.2.1 x.2.2 := by
  apply Option.ext
  intro r
  rw [ev_iff]
  constructor
  · rintro ⟨n, hn⟩
    cases n with
    | zero => cases hn
    | succ n =>
      rw [ev_of hd hl, h0, h1, h2] at hn
      dsimp only at hn
      split at hn
      · cases hn
      · rename_i r1 sh1 M1 hr
        rw [show den d t as sh M = some (r1, sh1, M1) from ev_iff.mpr ⟨n, hr⟩]
        exact ev_iff.mpr ⟨n, hn⟩
  · intro h
    cases hde : den d t as sh M with
    | none => rw [hde] at h; cases h
    | some x =>
      rw [hde] at h
      obtain ⟨n2, h2'⟩ := ev_iff.mp (show ev (d + 1) k (pc + 3) lc (x.1.toList ++ rest) x.2.1 x.2.2 = some r from h)
      obtain ⟨n1, h1'⟩ := ev_iff.mp (show ev d t 0 (ent t as) [] sh M = some x from hde)
      refine ⟨n1 + n2 + 1, ?_⟩
      rw [ev_of hd hl, h0, h1, h2]
      dsimp only
      rw [run_le n1 (n1 + n2) (Nat.le_add_right _ _) h1']
      exact run_le n2 (n1 + n2) (Nat.le_add_left _ _) h2'
/-- a step whose heap part is open -/
theorem ev_none {d k pc : Nat} {lc : PL} {st : List PV} {sh : List PS} {M : PM} {i : Instr} {len : Nat} (hd : decode (cd k) pc = .ok (i, len)) (hl : lenOk i len = true) (h0 : ps d k i len pc lc st sh M = none) (h1 : rets k i st = none) (h2 : callOf k i st sh = none) : ev d k pc lc st sh M = none := by
  cases h : ev d k pc lc st sh M with
  | none => rfl
  | some r =>
    obtain ⟨n, hn⟩ := ev_iff.mp h
    cases n with
    | zero => cases hn
    | succ n => rw [ev_of hd hl, h0, h1, h2] at hn; cases hn
theorem ev_bindV {d k pc : Nat} {lc : PL} {st st' : List PV} {sh : List PS} {M : PM} {i : Instr} {len : Nat} (o : Option PV) (hd : decode (cd k) pc = .ok (i, len)) (hl : lenOk i len = true) (h : ps d k i len pc lc st sh M = o.bind fun v => some (pc + len, lc, v :: st', sh, M)) (h1 : rets k i st = none) (h2 : callOf k i st sh = none) :
    ev d k pc lc st sh M = o.bind fun v => ev d k (pc + len) lc (v :: st') sh M := by
  cases o with
  | none => exact ev_none hd hl h h1 h2
  | some v => exact ev_ps hd hl h
theorem ev_bindM {d k pc : Nat} {lc : PL} {st st' : List PV} {sh : List PS} {M : PM} {i : Instr} {len : Nat} (o : Option PM) (hd : decode (cd k) pc = .ok (i, len)) (hl : lenOk i len = true) (h : ps d k i len pc lc st sh M = o.bind fun M' => some (pc + len, lc, st', sh, M')) (h1 : rets k i st = none) (h2 : callOf k i st sh = none) :
    ev d k pc lc st sh M = o.bind fun M' => ev d k (pc + len) lc st' sh M' := by
  cases o with
  | none => exact ev_none hd hl h h1 h2
  | some v => exact ev_ps hd hl h
theorem ev_bindS {d k pc : Nat} {lc : PL} {st st' : List PV} {sh : List PS} {M : PM} {i : Instr} {len : Nat} (o : Option (List PS)) (hd : decode (cd k) pc = .ok (i, len)) (hl : lenOk i len = true) (h : ps d k i len pc lc st sh M = o.bind fun sh' => some (pc + len, lc, st', sh', M)) (h1 : rets k i st = none) (h2 : callOf k i st sh = none) :
    ev d k pc lc st sh M = o.bind fun sh' => ev d k (pc + len) lc st' sh' M := by
  cases o with
  | none => exact ev_none hd hl h h1 h2
  | some v => exact ev_ps hd hl h
theorem ps_V {d k pc len : Nat} {lc : PL} {st st' : List PV} {sh : List PS} {M : PM} {i : Instr} {o : Option PV} (hA : psA i st = none) (hL : psL i lc st = none) (hB : psB i pc st = none) (hM : psM d k i st = none) (hH : psH k i st sh M = o.bind fun v => some (v :: st', sh, M)) : ps d k i len pc lc st sh M = o.bind fun v => some (pc + len, lc, v :: st', sh, M) := by
  unfold ps
  rw [hA, hL, hB, hH, hM]
  cases o <;> rfl
theorem ps_M {d k pc len : Nat} {lc : PL} {st st' : List PV} {sh : List PS} {M : PM} {i : Instr} {o : Option PM} (hA : psA i st = none) (hL : psL i lc st = none) (hB : psB i pc st = none) (hM : psM d k i st = none) (hH : psH k i st sh M = o.bind fun M' => some (st', sh, M')) : ps d k i len pc lc st sh M = o.bind fun M' => some (pc + len, lc, st', sh, M') := by
  unfold ps
  rw [hA, hL, hB, hH, hM]
  cases o <;> rfl
theorem ps_S {d k pc len : Nat} {lc : PL} {st st' : List PV} {sh : List PS} {M : PM} {i : Instr} {o : Option (List PS)} (hA : psA i st = none) (hL : psL i lc st = none) (hB : psB i pc st = none) (hM : psM d k i st = none) (hH : psH k i st sh M = o.bind fun sh' => some (st', sh', M)) : ps d k i len pc lc st sh M = o.bind fun sh' => some (pc + len, lc, st', sh', M) := by
  unfold ps
  rw [hA, hL, hB, hH, hM]
  cases o <;> rfl
section EV
variable {d k pc t : Nat} {lc : PL} {st : List PV} {sh : List PS} {M : PM} {x y : Int} {off : Int} {a : Nat}
theorem eif {α : Type} {c : Prop} [h : Decidable c] {b : Bool} (e : b = decide c) (f : Nat → α) (u v : Nat) : f (if b = true then u else v) = if c then f u else f v := by
  subst e
  by_cases hc : c <;> simp [hc]
theorem eifn {α : Type} {c : Prop} [h : Decidable c] {b : Bool} (e : b = !decide c) (f : Nat → α) (u v : Nat) : f (if b = true then u else v) = if c then f v else f u := by
  subst e
  by_cases hc : c <;> simp [hc]
theorem ev_icmp {c : ClassFile.Cond} (hd : decode (cd k) pc = .ok (.if_icmp c off, 3)) (ht : tg pc off = some t) : ev d k pc lc (.inl y :: .inl x :: st) sh M = ev d k (if cnd c x y = true then t else pc + 3) lc st sh M :=
  ev_ps hd rfl (by simp only [ps, psA, psL, psB, q2, ht, Option.bind_some])
theorem ev_ifc {c : ClassFile.Cond} (hd : decode (cd k) pc = .ok (.ifCond c off, 3)) (ht : tg pc off = some t) : ev d k pc lc (.inl x :: st) sh M = ev d k (if cnd c x 0 = true then t else pc + 3) lc st sh M :=
  ev_ps hd rfl (by simp only [ps, psA, psL, psB, q1, ht, Option.bind_some])
theorem ev_div (hd : decode (cd k) pc = .ok (.idiv, 1)) : ev d k pc lc (.inl y :: .inl x :: st) sh M = if y = 0 then none else ev d k (pc + 1) lc (.inl (wr (x.tdiv y)) :: st) sh M := by
  by_cases h : y = 0
  · rw [if_pos h]
    exact ev_none hd rfl (by simp only [ps, psA, psL, psB, psH, psM, q2, if_pos h]) rfl rfl
  · rw [if_neg h]
    exact ev_ps hd rfl (by simp only [ps, psA, q2, if_neg h])
theorem ev_rem (hd : decode (cd k) pc = .ok (.irem, 1)) : ev d k pc lc (.inl y :: .inl x :: st) sh M = if y = 0 then none else ev d k (pc + 1) lc (.inl (wr (x - x.tdiv y * y)) :: st) sh M := by
  by_cases h : y = 0
  · rw [if_pos h]
    exact ev_none hd rfl (by simp only [ps, psA, psL, psB, psH, psM, q2, if_pos h]) rfl rfl
  · rw [if_neg h]
    exact ev_ps hd rfl (by simp only [ps, psA, q2, if_neg h])
theorem ev_getf {idx : Nat} {q : FTy} (hd : decode (cd k) pc = .ok (.getfield idx, 3)) (hf : fieldOf (oc k) idx = some q) : ev d k pc lc (.inr (.inr (some a)) :: st) sh M = (getf sh M a q.2.2.1 q.2.2.2.1).bind fun v => ev d k (pc + 3) lc (v :: st) sh M :=
  ev_bindV _ hd rfl (ps_V rfl rfl rfl rfl (by simp only [psH, q1r, hf])) rfl rfl
theorem ev_putI {idx : Nat} {q : FTy} (hd : decode (cd k) pc = .ok (.putfield idx, 3)) (hf : fieldOf (oc k) idx = some q) (h1 : q.2.2.2.2.2.2.2 = false ∧ q.2.2.2.2.2.2.1 < 2) : ev d k pc lc (.inl x :: .inr (.inr (some a)) :: st) sh M = (putI sh M a q.2.2.1 q.2.2.2.1 (q.2.2.2.2.2.2.1 == 1) x).bind fun M' => ev d k (pc + 3) lc st sh M' :=
  ev_bindM _ hd rfl (ps_M rfl rfl rfl rfl (by simp only [psH, hf, if_pos h1])) rfl rfl
theorem ev_iald (hd : decode (cd k) pc = .ok (.iaload, 1)) : ev d k pc lc (.inl x :: .inr (.inr (some a)) :: st) sh M = (aget sh M a x).bind fun v => ev d k (pc + 1) lc (v :: st) sh M :=
  ev_bindV _ hd rfl (ps_V rfl rfl rfl rfl rfl) rfl rfl
theorem ev_zald (hd : decode (cd k) pc = .ok (.baload, 1)) : ev d k pc lc (.inl x :: .inr (.inr (some a)) :: st) sh M = (zget sh M a x).bind fun v => ev d k (pc + 1) lc (v :: st) sh M :=
  ev_bindV _ hd rfl (ps_V rfl rfl rfl rfl rfl) rfl rfl
theorem ev_aald (hd : decode (cd k) pc = .ok (.aaload, 1)) : ev d k pc lc (.inl x :: .inr (.inr (some a)) :: st) sh M = (rget sh a x).bind fun v => ev d k (pc + 1) lc (v :: st) sh M :=
  ev_bindV _ hd rfl (ps_V rfl rfl rfl rfl rfl) rfl rfl
theorem ev_alen (hd : decode (cd k) pc = .ok (.arraylength, 1)) : ev d k pc lc (.inr (.inr (some a)) :: st) sh M = (alen sh a).bind fun v => ev d k (pc + 1) lc (v :: st) sh M :=
  ev_bindV _ hd rfl (ps_V rfl rfl rfl rfl rfl) rfl rfl
theorem ev_iast (hd : decode (cd k) pc = .ok (.iastore, 1)) : ev d k pc lc (.inl y :: .inl x :: .inr (.inr (some a)) :: st) sh M = (aput sh M a x y).bind fun M' => ev d k (pc + 1) lc st sh M' :=
  ev_bindM _ hd rfl (ps_M rfl rfl rfl rfl rfl) rfl rfl
theorem ev_zast (hd : decode (cd k) pc = .ok (.bastore, 1)) : ev d k pc lc (.inl y :: .inl x :: .inr (.inr (some a)) :: st) sh M = (zput sh M a x y).bind fun M' => ev d k (pc + 1) lc st sh M' :=
  ev_bindM _ hd rfl (ps_M rfl rfl rfl rfl rfl) rfl rfl
theorem mS0 : mSum [] = 0 := rfl
theorem mS1 (x : Int) (r : List PV) : mSum (.inl x :: r) = 1 + mSum r := by unfold mSum; simp [isL]
theorem mS2 (x : Option Nat) (r : List PV) : mSum (.inr (.inr x) :: r) = 1 + mSum r := by unfold mSum; simp [isL]
theorem mS3 (x : Int) (r : List PV) : mSum (.inr (.inl x) :: r) = 2 + mSum r := by unfold mSum; simp [isL]
theorem ev_max {idx : Nat} {q : RTy} (hd : decode (cd k) pc = .ok (.invokestatic idx, 3)) (hf : methOf (oc k) idx = some q) (h1 : q.2.2.1 = 201 ∧ q.2.2.2.1 = false) (hm : mSum st ≤ 8) : ev (d + 1) k pc lc (.inl y :: .inl x :: st) sh M = ev (d + 1) k (pc + 3) lc (.inl (if x < y then y else x) :: st) sh M :=
  ev_ps hd rfl (by simp only [ps, psA, psL, psB, psH, psM, hf, q2]; rw [if_pos ⟨h1.1, h1.2, Nat.le_add_left _ _⟩, if_pos hm])
theorem ev_min {idx : Nat} {q : RTy} (hd : decode (cd k) pc = .ok (.invokestatic idx, 3)) (hf : methOf (oc k) idx = some q) (h1 : q.2.2.1 = 202 ∧ q.2.2.2.1 = false) (hm : mSum st ≤ 8) : ev (d + 1) k pc lc (.inl y :: .inl x :: st) sh M = ev (d + 1) k (pc + 3) lc (.inl (if y < x then y else x) :: st) sh M :=
  ev_ps hd rfl (by simp only [ps, psA, psL, psB, psH, psM, hf, q2]; rw [if_neg (fun z => by rw [h1.1] at z; exact absurd z.1 (by decide)), if_pos ⟨h1.1, h1.2, Nat.le_add_left _ _⟩, if_pos hm])
theorem psM_no {idx : Nat} {q : RTy} {i : Instr} (hf : methOf (oc k) idx = some q) (ht : q.2.2.1 < 134) (hi : i = .invokestatic idx ∨ i = .invokespecial idx ∨ i = .invokevirtual idx) : psM d k i st = none := by
  rcases hi with rfl | rfl | rfl
  · simp only [psM, hf]
    rw [if_neg (by omega), if_neg (by omega)]
  · simp only [psM, hf]
    rw [if_neg (by omega)]
  · rfl
/-- a call: z its kind; as the arguments, rest what lies below -/
theorem ev_cx {idx z : Nat} {q : RTy} {i : Instr} (as rest : List PV) (hd : decode (cd k) pc = .ok (i, 3)) (hi : z = 0 ∧ i = .invokestatic idx ∨ z = 2 ∧ i = .invokespecial idx ∨ z = 1 ∧ i = .invokevirtual idx) (hf : methOf (oc k) idx = some q) (h1 : q.2.2.1 < 134 ∧ kd q.2.2.1 = z ∧ na q.2.2.1 + (if z = 0 then 0 else 1) = as.length ∧ as.length ≤ mx q.2.2.1 ∧ (z = 2 ∨ q.2.2.2.1 = false ∨ z = 0)) (ha : as.any isL = false) (ho : z = 0 ∨ isObj sh as[0]? (oc q.2.2.1) = true) (hm : mSum rest ≤ 8) :
    ev (d + 1) k pc lc (as.reverse ++ rest) sh M = (den d q.2.2.1 as sh M).bind fun x => ev (d + 1) k (pc + 3) lc (x.1.toList ++ rest) x.2.1 x.2.2 := by
  obtain ⟨c1, c2, c3, c4, c5⟩ := h1
  have hl : lenOk i 3 = true := by rcases hi with ⟨-, rfl⟩ | ⟨-, rfl⟩ | ⟨-, rfl⟩ <;> rfl
  have hlen : (as.reverse ++ rest).length = as.length + rest.length := by rw [List.length_append, List.length_reverse]
  have ht : (as.reverse ++ rest).take as.length = as.reverse := by rw [List.take_append_of_le_length (by rw [List.length_reverse]; exact Nat.le_refl _), List.take_of_length_le (by rw [List.length_reverse]; exact Nat.le_refl _)]
  have hdr : (as.reverse ++ rest).drop as.length = rest := by rw [List.drop_append_of_le_length (by rw [List.length_reverse]; exact Nat.le_refl _), List.drop_of_length_le (by rw [List.length_reverse]; exact Nat.le_refl _), List.nil_append]
  refine ev_call hd hl ?_ ?_ ?_
  · unfold ps
    rw [psM_no hf c1 (by rcases hi with ⟨-, h⟩ | ⟨-, h⟩ | ⟨-, h⟩ <;> simp [h])]
    rcases hi with ⟨-, rfl⟩ | ⟨-, rfl⟩ | ⟨-, rfl⟩ <;> rfl
  · rcases hi with ⟨-, rfl⟩ | ⟨-, rfl⟩ | ⟨-, rfl⟩ <;> rfl
  · rcases hi with ⟨rfl, rfl⟩ | ⟨rfl, rfl⟩ | ⟨rfl, rfl⟩
    all_goals
      show (match methOf (oc k) idx with | none => none | some q => _) = _
      rw [hf]
      show (if _ then _ else _) = _
      rw [c3, ht, hdr, List.reverse_reverse, if_pos ⟨c1, c2, by omega, hm, c4, ha, ho, c5⟩]
end EV
