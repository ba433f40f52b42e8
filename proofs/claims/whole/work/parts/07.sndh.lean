/-! the heap: the world of the pure machine, and its steps -/
def rfv (b base : Nat) (f : Option (Option Nat)) : Value := match f with | some (some r) => .ref (av b base r) | _ => .null
def fv1 (b base : Nat) (x : Int) (f : Option (Option Nat)) : Value := match f with | none => .int (Int32.ofInt x) | some none => .null | some (some r) => .ref (av b base r)
def wat (D : va_G) (cI cZ cV : ClassId) (b base : Nat) (k : Nat) (s : PS) (row : Nat → Int) (H : Heap) : Prop :=
  if s.1 = 8 then H[base + k]? = some (arrV cI s.2.1 fun i => .int (Int32.ofInt (row i)))
  else if s.1 = 9 then H[base + k]? = some (arrV cZ s.2.1 fun i => .int (Int32.ofInt (row i)))
  else if s.1 = 10 then H[base + k]? = some (arrV cV s.2.1 fun i => rfv b base (s.2.2.getD i none))
  else s.1 < 8 ∧ s.2.2.length = fN s.1 ∧ t_OB (base + k) (D.1 s.1) (fN s.1) (D.2 s.1) H (fun j => fv1 b base (row j) (s.2.2.getD j none))
def pw (D : va_G) (cI cZ cV : ClassId) (b base L : Nat) (xs : Nat → Int32) (sh : List PS) (M : PM) (H : Heap) : Prop :=
  H.size = base + sh.length ∧ (∀ k s, ¬ k = 0 → sh[k]? = some s → wat D cI cZ cV b base k s (M k) H) ∧ (∃ L0, sh[0]? = some (11, L, L0)) ∧ (∀ i, i < L → M 0 i = (xs i).toInt) ∧ okM M ∧ okH sh
def Fx (D : va_G) (cI cZ cV : ClassId) (b base L : Nat) (xs : Nat → Int32) (d k : Nat) (p : Program) (R : Room) (s : State) (m : MethodId) (args : Array Value) (meth : Method) (c : Code) : Prop :=
  p.tables.exec = Jvm.exec ∧ c.code = cd k ∧ c.maxLocals = mx k ∧ s.vm.findClass (cn (oc k)) = some m.cls ∧ (∀ w ∈ gw, w.before args s = true) ∧ d ≤ R.frames ∧ 40 * d ≤ R.locals ∧ (kd k = 2 → meth.name = "<init>") ∧ Kst D cI cZ cV s ∧ va_X b L xs s s.heap ∧ b ≤ base ∧ base < s.heap.size
abbrev pA (base : Nat) : Nat → Prop := fun q => base < q
def psz (s : PS) : Nat := if s.1 < 8 then fN s.1 else s.2.1
def zs (sh : List PS) : Nat := (sh.map psz).sum
theorem wat_kept {D : va_G} {cI cZ cV : ClassId} {b base k : Nat} {s : PS} {row : Nat → Int} {H H1 : Heap} (h : wat D cI cZ cV b base k s row H) (hq : H1[base + k]? = H[base + k]?) : wat D cI cZ cV b base k s row H1 := by
  unfold wat at h ⊢
  split
  · rename_i h8; rw [if_pos h8] at h; rw [hq]; exact h
  · rename_i h8; rw [if_neg h8] at h
    split
    · rename_i h9; rw [if_pos h9] at h; rw [hq]; exact h
    · rename_i h9; rw [if_neg h9] at h
      split
      · rename_i h10; rw [if_pos h10] at h; rw [hq]; exact h
      · rename_i h10; rw [if_neg h10] at h
        exact ⟨h.1, h.2.1, h.2.2.kept hq⟩
theorem wat_obj {D : va_G} {cI cZ cV : ClassId} {b base k c : Nat} {s : PS} {row : Nat → Int} {H : Heap} (hc : s.1 = c) (h8 : c < 8) (h : wat D cI cZ cV b base k s row H) : s.2.2.length = fN c ∧ t_OB (base + k) (D.1 c) (fN c) (D.2 c) H (fun j => fv1 b base (row j) (s.2.2.getD j none)) := by
  unfold wat at h
  rw [if_neg (by omega), if_neg (by omega), if_neg (by omega)] at h
  subst hc
  exact h.2
theorem wat_of {D : va_G} {cI cZ cV : ClassId} {b base k c : Nat} {s : PS} {row : Nat → Int} {H : Heap} (hc : s.1 = c) (h8 : c < 8) (hl : s.2.2.length = fN c) (h : t_OB (base + k) (D.1 c) (fN c) (D.2 c) H (fun j => fv1 b base (row j) (s.2.2.getD j none))) : wat D cI cZ cV b base k s row H := by
  unfold wat
  rw [if_neg (by omega), if_neg (by omega), if_neg (by omega)]
  subst hc
  exact ⟨h8, hl, h⟩
theorem pw_upd {D : va_G} {cI cZ cV : ClassId} {b base L : Nat} {xs : Nat → Int32} {sh sh' : List PS} {M M' : PM} {H H1 : Heap} {a : Nat} {s' : PS} (hw : pw D cI cZ cV b base L xs sh M H) (ha : ¬ a = 0) (hlt : a < sh.length) (hsh : sh' = sh.set a s') (hz : H1.size = H.size) (oq : ∀ q : Nat, q ≠ base + a → H1[q]? = H[q]?)
    (he : wat D cI cZ cV b base a s' (M' a) H1) (hM : ∀ k, k ≠ a → M' k = M k) (hok : okM M') (hH : s'.2.1 < 2147483648) : pw D cI cZ cV b base L xs sh' M' H1 := by
  obtain ⟨h1, h2, ⟨L0, h3⟩, h4, h5, h6⟩ := hw
  subst hsh
  refine ⟨by rw [hz, List.length_set]; exact h1, ?_, ⟨L0, by rw [List.getElem?_set_ne ha]; exact h3⟩, fun i hi => by rw [hM 0 (fun q => ha q.symm)]; exact h4 i hi, hok, ?_⟩
  · intro k s hk hs
    by_cases hka : a = k
    · subst hka
      rw [List.getElem?_set_self hlt] at hs
      cases hs
      exact he
    · rw [List.getElem?_set_ne hka] at hs
      rw [hM k (fun q => hka q.symm)]
      exact wat_kept (h2 k s hk hs) (oq _ (by omega))
  · intro s hs
    rcases List.mem_or_eq_of_mem_set hs with q | q
    · exact h6 s q
    · rw [q]; exact hH
theorem pw_push {D : va_G} {cI cZ cV : ClassId} {b base L : Nat} {xs : Nat → Int32} {sh : List PS} {M : PM} {H H1 : Heap} {s' : PS} (hw : pw D cI cZ cV b base L xs sh M H) (hne : ¬ sh.length = 0) (hz : H1.size = H.size + 1) (oq : ∀ q : Nat, q < H.size → H1[q]? = H[q]?)
    (he : wat D cI cZ cV b base sh.length s' (fun _ => 0) H1) (hH : s'.2.1 < 2147483648) : pw D cI cZ cV b base L xs (sh ++ [s']) (setR M sh.length fun _ => 0) H1 := by
  obtain ⟨h1, h2, ⟨L0, h3⟩, h4, h5, h6⟩ := hw
  refine ⟨by rw [hz, List.length_append, List.length_singleton]; omega, ?_, ⟨L0, by rw [List.getElem?_append_left (by omega)]; exact h3⟩, fun i hi => ?_, ?_, ?_⟩
  · intro k s hk hs
    by_cases hkl : k < sh.length
    · rw [List.getElem?_append_left hkl] at hs
      have e1 : setR M sh.length (fun _ => 0) k = M k := by
        funext j
        simp only [setR]
        rw [if_neg (by omega)]
      rw [e1]
      exact wat_kept (h2 k s hk hs) (oq _ (by omega))
    · rw [List.getElem?_append_right (by omega)] at hs
      have hz2 : k - sh.length < 1 := (List.getElem?_eq_some_iff.mp hs).1
      have hk2 : k = sh.length := by omega
      subst hk2
      simp only [Nat.sub_self, List.getElem?_cons_zero] at hs
      cases hs
      have e1 : setR M sh.length (fun _ => 0) sh.length = fun _ => 0 := by
        funext j
        simp only [setR, if_pos]
      rw [e1]
      exact he
  · simp only [setR]
    rw [if_neg (by omega)]
    exact h4 i hi
  · intro a i
    simp only [setR]
    split
    · exact okI_0
    · exact h5 a i
  · intro s hs
    rcases List.mem_append.mp hs with q | q
    · exact h6 s q
    · rw [List.mem_singleton.mp q]; exact hH
theorem okM_set {M : PM} {a i : Nat} {x : Int} (h : okM M) (hx : okI x) : okM (setC M a i x) := by
  intro b j
  simp only [setC]
  split
  · exact hx
  · exact h b j
theorem setC_ne {M : PM} {a i : Nat} {x : Int} {k : Nat} (h : k ≠ a) : setC M a i x k = M k := by
  funext j
  simp only [setC]
  rw [if_neg (fun q => h q.1)]
theorem vin {x : Int} {n : Nat} (hx : okI x) (h0 : 0 ≤ x) (h1 : x < n) : vp_in (Int32.ofInt x) n ∧ (Int32.ofInt x).toNatClampNeg = x.toNat := by
  have e1 : (Int32.ofInt x).toNatClampNeg = x.toNat := by rw [← Int32.toNat_toInt, toInt_ok hx]
  refine ⟨?_, e1⟩
  rintro (q | q)
  · have := (of_lt hx okI_0).mp q
    omega
  · rw [e1] at q
    omega
theorem tyOf {t : Nat} {o : Option FieldType} (h : fTag t o = true) : (t = 0 → o = some .int) ∧ (t = 1 → o = some .boolean) ∧ (t = 2 → (∃ n, o = some (.object n)) ∨ ∃ n, o = some (.array n)) := by
  cases o with
  | none => cases h
  | some ty =>
    cases ty <;> simp [fTag] at h <;> subst h <;> refine ⟨fun q => ?_, fun q => ?_, fun q => ?_⟩ <;> first | (cases q; done) | rfl | exact Or.inl ⟨_, rfl⟩ | exact Or.inr ⟨_, rfl⟩
section SH
variable {p : Program} {l : Launch} {e : Env} {R : Room} {s : State} {m : MethodId} {args : Array Value} {below : List Frame} {meth : Method} {c : Code} {H : Heap} {locs : List Loc} {cells slots : Nat} {Q : State → Prop} {pc : Nat} {ls : Array Slot}
variable {D : va_G} {cI cZ cV : ClassId} {b base L : Nat} {xs : Nat → Int32} {d k : Nat} {sh sh' : List PS} {M M' : PM} {rest : List Value}
theorem pg_get {a : Nat} {v : PV} {q : FTy} (F : Fx D cI cZ cV b base L xs d k p R s m args meth c) (hw : pw D cI cZ cV b base L xs sh M H) (hq : q ∈ FR) (ho : q.1 = oc k) (hg : getf sh M a q.2.2.1 q.2.2.2.1 = some v) (hd : decode (cd k) pc = .ok (.getfield q.2.1, 3))
    (kk : okv v → W p l e R s m args below meth c H locs cells slots Q (F0 m (pc + 3) ls (cv b base v :: rest))) : W p l e R s m args below meth c H locs cells slots Q (F0 m pc ls (.ref (av b base a) :: rest)) := by
  obtain ⟨hx, hb, hml, hown, hts, -, -, -, hK, -⟩ := F
  obtain ⟨f1, f2, f3, f4, f5, f6⟩ := FR_ok q hq
  unfold getf at hg
  split at hg
  · cases hg
  rename_i ha
  split at hg
  · rename_i c0 n0 L0 hs
    split at hg
    · rename_i hc
      obtain ⟨hc, -⟩ := hc
      obtain ⟨w1, w2⟩ := wat_obj (c := q.2.2.1) hc f2 (hw.2.1 a _ ha hs)
      obtain ⟨cell, q1, q2, q3, q4⟩ := w2
      obtain ⟨hS, hfc, kC, hkC, hkind⟩ := hK.1.1 q.2.2.1 _ (cl_at f2)
      obtain ⟨cf, kf, fi, f, hi, hsl⟩ := hS q.2.2.2.1 f3
      have hfac := u_facts hfc hkC (u_lays hts (cl_in _ f2) f3) hi
      have hv2 : fv1 b base (M a q.2.2.2.1) (L0.getD q.2.2.2.1 none) = cv b base v ∧ okv v := by
        rw [List.getD_eq_getElem?_getD]
        cases hL : L0[q.2.2.2.1]? with
        | none => rw [hL] at hg; cases hg
        | some f0 =>
          rw [hL] at hg
          cases f0 with
          | none => cases hg; exact ⟨rfl, hw.2.2.2.2.1 _ _⟩
          | some f0 => cases f0 <;> (cases hg; exact ⟨rfl, trivial⟩)
      have hslot : cell.slots[f.slot]? = some (cv b base v) := by rw [hsl, q4 _ f3]; exact congrArg some hv2.1
      have hav : av b base a = base + a := by unfold av; rw [if_neg ha]
      rw [hav]
      have hi' : s.fieldFound? (cn q.2.2.1) (fT q.2.2.1 q.2.2.2.1).2.1 (fT q.2.2.1 q.2.2.2.1).2.2.1 = some (cf, kf, fi, f) := by rw [← f4]; exact hi
      have hword := Kst_word hts hK (FR_w q hq)
      unfold fWord at hword
      split at hword
      · exact va_Wgetf hx hb (by rw [ho]; exact hown) hword hi' hfac.1 q1 (by rw [q3]; exact fun h => by cases h) hslot rfl rfl hd (kk hv2.2)
      · exact W.getf hx hb (by rw [ho]; exact hown) hword hi' hfac.1 q1 (by rw [q3]; exact fun h => by cases h) hslot rfl rfl hd (kk hv2.2)
    · cases hg
  · cases hg
theorem pg_apart {c0 : Nat} (hK : Kst D cI cZ cV s) (hts : ∀ w ∈ gw, w.before args s = true) (hc : c0 < 8) : ∀ x y, x < fN c0 → y < fN c0 → x ≠ y → (D.2 c0) x ≠ (D.2 c0) y := by
  refine va_apart (own := cn c0) hts (cl_in c0 hc) (fun k => (parseFieldDescriptor (fT c0 k).2.2.1).getD .int) (fun k hk => ?_) (cl_nm c0 hc) hK.1 (cl_at hc)
  have := cl_ty c0 hc k hk
  cases h : parseFieldDescriptor (fT c0 k).2.2.1 with
  | none => rw [h] at this; cases this
  | some x => rfl
/-- a field's store in general: what it takes of the machine -/
theorem pg_put {a j : Nat} {c0 n0 : Nat} {L0 L1 : List (Option (Option Nat))} {v : Value} {q : FTy} {ty : FieldType} (F : Fx D cI cZ cV b base L xs d k p R s m args meth c) (hw : pw D cI cZ cV b base L xs sh M H) (hS0 : va_S (pA base) s.heap H locs) (hq : q ∈ FR) (ho : q.1 = oc k) (hc : c0 = q.2.2.1) (hj : j = q.2.2.2.1)
    (hfin : q.2.2.2.2.2.2.2 = false ∨ (q.2.2.2.2.2.2.2 = true ∧ q.2.2.2.2.1 = false ∧ isIni k = true ∧ q.2.2.1 = oc k)) (hd0 : parseFieldDescriptor (fT q.2.2.1 q.2.2.2.1).2.2.1 = some ty) (hn : narrow ty v = v) (hfit : fits ty v = true)
    (ha : ¬ a = 0) (hs : sh[a]? = some (c0, n0, L0)) (hsh : sh' = sh.set a (c0, n0, L1)) (hL : L1.length = L0.length) (hM : ∀ z, z ≠ a → M' z = M z) (hok : okM M') (hV : ∀ t, t < fN c0 → updV (fun t => fv1 b base (M a t) (L0.getD t none)) j v t = fv1 b base (M' a t) (L1.getD t none))
    (hd : decode (cd k) pc = .ok (.putfield q.2.1, 3))
    (kk : ∀ (H' : Heap) (locs' : List Loc), pw D cI cZ cV b base L xs sh' M' H' → va_S (pA base) s.heap H' locs' → W p l e R s m args below meth c H' locs' cells slots Q (F0 m (pc + 3) ls rest)) : W p l e R s m args below meth c H locs cells slots Q (F0 m pc ls (v :: .ref (av b base a) :: rest)) := by
  obtain ⟨hx, hb, hml, hown, hts, -, -, hin, hK, -⟩ := F
  obtain ⟨f1, f2, f3, f4, f5, f6⟩ := FR_ok q hq
  subst hc; subst hj
  obtain ⟨w1, w2⟩ := wat_obj (c := q.2.2.1) rfl f2 (hw.2.1 a _ ha hs)
  obtain ⟨cell, q1, q2, q3, q4⟩ := w2
  obtain ⟨hS, hfc, kC, hkC, hkind⟩ := hK.1.1 q.2.2.1 _ (cl_at f2)
  obtain ⟨cf, kf, fi, f, hi, hsl⟩ := hS q.2.2.2.1 f3
  have hlays := u_lays hts (cl_in _ f2) f3
  have hfac := u_facts hfc hkC hlays hi
  have hap := pg_apart hK hts f2
  have hav : av b base a = base + a := by unfold av; rw [if_neg ha]
  rw [hav]
  have hi' : s.fieldFound? (cn q.2.2.1) (fT q.2.2.1 q.2.2.2.1).2.1 (fT q.2.2.1 q.2.2.2.1).2.2.1 = some (cf, kf, fi, f) := by rw [← f4]; exact hi
  have hlay := hts _ (cl_in _ f2 _ (u_in_lay f3))
  unfold u_lay at hlay
  have hword := Kst_word hts hK (FR_w q hq)
  unfold fWord at hword
  have hlt : f.slot < cell.slots.size := by rw [hsl]; exact k2_hasslot (q4 _ f3)
  have hal : a < sh.length := (List.getElem?_eq_some_iff.mp hs).1
  have hcont : ∀ H' : Heap, H'[base + a]? = some (cell.setSlot f.slot v) → H'.size = H.size → (∀ q, q ≠ base + a → H'[q]? = H[q]?) → W p l e R s m args below meth c H' (locs ++ [⟨base + a, f.slot⟩]) cells slots Q (F0 m (pc + 3) ls rest) := by
    intro H' e1 e2 e3
    rw [hsl] at e1
    refine kk H' _ (pw_upd hw ha hal hsh e2 e3 (wat_of (c := q.2.2.1) rfl f2 (hL.trans w1) ?_) hM hok (show n0 < 2147483648 from hw.2.2.2.2.2 _ (List.mem_of_getElem? hs))) (hS0.put e2 e3 (show base < base + a by omega))
    exact t_OB.to (V := updV (fun t => fv1 b base (M a t) (L0.getD t none)) q.2.2.2.1 v) ⟨_, e1, q2, q3, t_set q4 hap f3 v⟩ hV
  rcases hfin with hfin | ⟨hfin, hnest, hini, hoc⟩
  · rw [if_neg (by rw [f5, hfin]; decide)] at hlay
    have h6 := u_store hfc hkC hkind hlay hi hd0 hn hfit
    split at hword
    · exact va_WputK hx hb (f := f) (by rw [ho]; exact hown) hword hi' hfac.1 (by rw [q2]; exact h6) q1 q3 hlt rfl rfl hd hcont
    · exact W.putK hx hb (f := f) ⟨by rw [ho]; exact hown, hword, ⟨_, _, _, hi'⟩, hfac.1⟩ (by rw [q2]; exact h6) q1 q3 hlt rfl rfl hd hcont
  · rw [if_pos (by rw [f5, hfin])] at hlay
    rw [if_neg (by rw [hnest]; decide)] at hword
    have hcf : m.cls = cf := by
      obtain ⟨_, _, c', _, _, _, -, -, hf', -, -, -, hown2, -⟩ := Cond.laysFinal_spec hlay
      have e1 : c' = cf := by have := hi.symm.trans hf'; simp at this; exact this.1.symm
      rw [f4, hoc] at hown2
      rw [← e1]; exact Option.some.inj (hown.symm.trans hown2)
    have h6 := u_fits hfc hkC hkind (Or.inr hlay) hi hd0 hn hfit
    exact W.putFinK hx hb (by rw [ho]; exact hown) hword hi' hfac.1 hcf (hin (by simpa [isIni] using hini)) (by rw [q2]; exact h6) q1 q3 hlt rfl rfl hd hcont
end SH
