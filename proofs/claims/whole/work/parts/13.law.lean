/-! THE CLAIM OUT OF ONE WALK OF THE LAW'S BODY. Your part is whole_start (and what it stands on); all else here is the same for every law, but numbers. -/
def R_law : String := "SilentAfterLaw"
def lw_P (b : Addr) (xs : List Int32) (args : Array Value) (s : State) : Prop := args = #[.ref b] ∧ s.IntsAt b xs ∧ xs.length ≤ 3584 ∧ (Jvm.Cond.and given_1 narrow_1).before args s = true
def lw_Q (_ : Array Value) (s : State) (o : Outcome) (t : State) : Prop := o = .returned (some (.int 1)) ∧ Framed s o t [] 600000 7302250
def lw_Z (below : List Frame) (a : Array Value) (s : State) : State → Prop := fun t => ∃ o, t.status = .running ∧ Ended t below o ∧ lw_Q a s o t
/-- the law's own end, with 1 on the stack, nothing written that was there before, its room as the claim has it -/
theorem lw_ret {p : Program} {l : Launch} {e : Env} {s : State} {m : MethodId} {below : List Frame} {meth : Method} {c : Code} {b : Nat} (hx : p.tables.exec = Jvm.exec) (hb : c.code = code) (hr : meth.sig.returnType = ret) (hlocks : meth.locks = false) {pc : Nat} {H : Heap} {ls : Array Slot} (hdg : decode code pc = .ok (.ireturn, 1)) : W p l e room_1 s m #[Value.ref b] below meth c H [] 600000 7302250 (lw_Z below #[Value.ref b] s) (F0 m pc ls [.int 1]) := by
  intro T hT X
  obtain ⟨fs, hret, hrun, hended, hW, hframe⟩ := X.leave (v := some (.int 1)) (hlocks := hlocks) (fun h => by rw [hr] at h; cases h)
  have hmeth' : T.vm.method? m = some meth := X.method'
  refine ⟨T.setFrames fs, ?_, .returned (some (.int 1)), hrun, hended, rfl, ⟨_, rfl⟩, hW, hframe⟩
  jvm_step X.here [X.here.top, hx, hb, hdg, hmeth', hr, ret, narrow_b1]
  (try refine ⟨rfl, ?_⟩); (try refine ⟨rfl, ?_⟩)
  first | (intro acts; rw [hret _ acts rfl rfl rfl]) | rw [hret _ _ rfl rfl rfl]
  exact Steps.refl _
/-- what holds at the law's entry: the machine, the code, the tables' words (any of lw_tbl by 'hts w (by decide +kernel)'), the script of L ints xs at the cell b, what the Statement gives of the start (any of its parts by flat_of_before) -/
def lw_At (p : Program) (s : State) (m : MethodId) (meth : Method) (c : Code) (b L : Nat) (xs : Nat → Int32) : Prop :=
  p.tables.exec = Jvm.exec ∧ c.code = code ∧ meth.sig.returnType = ret ∧ c.maxLocals = 4 ∧ s.vm.findClass R_law = some m.cls ∧ (∀ w ∈ lw_tbl, w.before #[Value.ref b] s = true) ∧ va_X b L xs s s.heap ∧ b < s.heap.size ∧ meth.locks = false ∧ (Jvm.Cond.and given_1 narrow_1).before #[Value.ref b] s = true
/-! the law's start: the world of the pure machine at its entry, and the claim out of a run of it -/
theorem cl_inst : ∀ c, c < 8 → ∃ q ∈ NC, q.2.2.1 = c := by decide +kernel
theorem law_world {s : State} {args : Array Value} (hts : ∀ w ∈ lw_tbl, w.before args s = true) : ∃ (D : va_G) (cI cZ cV : ClassId), Kst D cI cZ cV s := by
  have htg : ∀ w ∈ gw, w.before args s = true := fun w hw => hts w (List.mem_filter.mp hw).1
  have h : ∀ k, ∃ (x : ClassId × (Nat → Nat)), k < 8 → u_Kn s (cn k) (fT k) (fN k) x.1 x.2 := by
    intro k
    by_cases hk : k < 8
    · obtain ⟨q, hq, rfl⟩ := cl_inst k hk
      obtain ⟨cC, iS, hh⟩ := u_known (n := fN q.2.2.1) htg (cl_in _ hk) (htg _ (NC_w q hq).2.1)
      exact ⟨(cC, iS), fun _ => hh⟩
    · exact ⟨(0, fun _ => 0), fun z => absurd z hk⟩
  obtain ⟨cI, kI, compI, i1, i2, i3⟩ := Cond.arrayClass_spec (htg _ tw_i)
  obtain ⟨cZ, kZ, compZ, z1, z2, z3⟩ := Cond.arrayClass_spec (htg _ tw_z)
  have hV := hts _ (List.mem_of_getElem? tb_v)
  obtain ⟨compV, cV, kV, v1, v2, v3, v4, v5⟩ := Cond.arrayOver_spec hV
  refine ⟨(fun k => (Classical.choose (h k)).1, fun k => (Classical.choose (h k)).2), cI, cZ, cV, ⟨fun k q hq => ?_, fun k q hq => ?_⟩, va_AO.of hV, fun w hw => va_Nw.of (nw_tab hw) (hts w (List.mem_filter.mp hw).1)⟩
  · have hk : k < 8 := (List.getElem?_eq_some_iff.mp hq).1
    have e := cl_at hk
    rw [hq] at e
    cases e
    exact Classical.choose_spec (h k) hk
  · match k, hq with
    | 0, hq => cases hq; exact ⟨fun n z => ⟨(fun k h => by cases h), kI, i2, compI, i3⟩, i1⟩
    | 1, hq => cases hq; exact ⟨fun n z => ⟨(fun k h => by cases h), kZ, z2, compZ, z3⟩, z1⟩
    | 2, hq => cases hq; exact ⟨fun n z => ⟨(fun k h => by cases h), kV, v3, compV, v4⟩, kV, compV, v3, v4, v1, v5⟩
    | k + 3, hq => simp at hq
/-- the memory at the law's entry: the script -/
def M0 (xs : Nat → Int32) : PM := fun a i => if a = 0 then (xs i).toInt else 0
set_option maxHeartbeats 4000000 in
theorem law_of_run {p : Program} {e : Env} {s : State} {m : MethodId} {below : List Frame} {meth : Method} {c : Code} (l : Launch) {b L : Nat} {xs : Nat → Int32} (hL : L ≤ 3584) (C0 : lw_At p s m meth c b L xs)
    (hrun : ∃ (n : Nat) (sh' : List PS) (M' : PM), run n 2000 134 0 (ent 134 [pR 0]) [] [(11, L, [])] (M0 xs) = some (some (pI 1), sh', M') ∧ sh'.length ≤ 600000 ∧ zs sh' ≤ 7302250) :
    W p l e room_1 s m #[Value.ref b] below meth c s.heap [] 0 0 (lw_Z below #[Value.ref b] s) (entryFrame m ([Value.ref b] : List Value).toArray 4) := by
  obtain ⟨hx, hb, hr, hml, hown, hts, hX, hbl, hlocks, hgv⟩ := C0
  obtain ⟨D, cI, cZ, cV, hK⟩ := law_world hts
  obtain ⟨n, sh', M', hrun, hz1, hz2⟩ := hrun
  obtain ⟨base, hbase⟩ : ∃ base, s.heap.size = base + 1 := ⟨s.heap.size - 1, by omega⟩
  have hbb : b ≤ base := by omega
  have e0 : ([Value.ref b] : List Value) = ([pR 0] : List PV).map (cv b base) := rfl
  have hpl := plv_ent (b := b) (base := base) (t := 134) (as := [pR 0]) (fun v hv => by rw [List.mem_singleton.mp hv]; trivial) rfl (by show 1 ≤ 4; decide)
  have hpw : pw D cI cZ cV b base L xs [(11, L, [])] (M0 xs) s.heap := by
    refine ⟨hbase, fun k s0 hk hs0 => ?_, ⟨[], rfl⟩, fun i hi => rfl, fun a i => ?_, fun s0 hs0 => ?_⟩
    · cases k with
      | zero => exact absurd rfl hk
      | succ k => simp at hs0
    · unfold M0
      split
      · exact okI_ti _
      · exact okI_0
    · rw [List.mem_singleton.mp hs0]
      show L < 2147483648
      omega
  rw [lg_entry_eq]
  refine snd hbb n 2000 134 0 (ent 134 [pR 0]) [] [(11, L, [])] (M0 xs) (some (pI 1)) sh' M' hrun p l e room_1 s m _ below meth c s.heap [] 0 0 _ _ ⟨hx, hb, hml, hown, fun w hw => hts w (List.mem_filter.mp hw).1, Nat.le_of_ble_eq_true rfl, Nat.le_of_ble_eq_true rfl, fun q => absurd q (by decide +kernel), hK, hX, hbb, by omega⟩ hpl (fun v hv => by cases hv) hpw va_S.rf ?_ ?_ ?_
  · show 0 + (sh'.length - 1) ≤ 600000
    omega
  · show 0 + (zs sh' - zs [(11, L, [])]) ≤ 7302250
    omega
  · intro H' locs' ls' pc' i st' hd hret hst' hw' hS'
    have h1 : st' = [.inl 1] ∧ i = .ireturn := by
      rcases rets_inv hret with ⟨x, rfl, rfl, hq, -⟩ | ⟨x, rfl, rfl, hq, -⟩ | ⟨a, nn, rfl, rfl, hq, -⟩ | ⟨rfl, rfl, hq, -⟩
      · cases hq; exact ⟨rfl, rfl⟩
      · cases hq
      · cases hq
      · cases hq
    obtain ⟨rfl, rfl⟩ := h1
    refine va_forget (fun q hq => ?_) ?_
    · have := hS'.2.2 q hq
      show s.heap.size ≤ q.base
      rw [hbase]
      exact this
    · refine W.widen (k := 600000) (n := 7302250) (by show 0 + (sh'.length - 1) ≤ 600000; omega) (by show 0 + (zs sh' - zs [(11, L, [])]) ≤ 7302250; omega) ?_
      exact lw_ret hx hb hr hlocks hd
