/-! the tables' words, and the world of the pure machine -/
def gw : List Cond := lw_tbl.filter goodWord
theorem gwm {i : Nat} {w : Cond} (h : lw_tbl[i]? = some w) (hg : goodWord w = true) : w ∈ gw := List.mem_filter.mpr ⟨List.mem_of_getElem? h, hg⟩
theorem gw_good : GoodIn gw gw := fun w hw => ⟨hw, good_of_word (List.mem_filter.mp hw).2⟩
abbrev mqR (q : MTy) : Nat := q.2.2.2.2.2.1
set_option maxRecDepth 100000 in
theorem MT_par : ∀ q ∈ MT, (parseMethodDescriptor q.1.desc).map (fun d => d.parameters.length) = some q.2.2.2.2.2.1 := by decide +kernel
set_option maxRecDepth 100000 in
theorem MT_cls : ∀ q ∈ MT, q.1.cls = cn q.2.2.2.2.1 ∧ q.1.cls ≠ "java/lang/invoke/MethodHandle" ∧ q.1.cls ≠ "java/lang/invoke/VarHandle" ∧ plainName q.1.cls = true ∧ q.2.2.1 ≤ 15 ∧ 1 ≤ q.2.2.1 ∧ q.2.2.2.2.1 < 9 := by decide +kernel
set_option maxRecDepth 100000 in
theorem MT_kind : ∀ q ∈ MTm, lw_tbl[q.2.2.2.2.2.2.2.2.2.2]? = some (.initialized q.1.cls) ∧ (q.2.2.2.2.2.2.1 = 0 → lw_tbl[q.2.2.2.2.2.2.2.2.1]? = some (.static q.1)) ∧ (¬ q.2.2.2.2.2.2.1 = 0 → lw_tbl[q.2.2.2.2.2.2.2.2.1]? = some (.instanceMethod q.1))
    ∧ (q.2.2.2.2.2.2.1 = 1 → lw_tbl[q.2.2.2.2.2.2.2.2.2.1]? = some (.selects q.1.cls q.1 q.1)) ∧ (q.2.2.2.2.2.2.1 = 2 → q.1.name = "<init>" ∧ q.2.2.2.1 = none) ∧ q.2.2.2.2.2.2.1 ≤ 2 ∧ q.2.2.2.2.1 < 8 := by decide +kernel
abbrev fT (c : Nat) : u_T := (vwCl.getD c (RX0, TX0, 4)).2.1
abbrev fN (c : Nat) : Nat := (vwCl.getD c (RX0, TX0, 4)).2.2
def fWord (q : FTy) : Cond := if q.2.2.2.2.1 = true then .fieldLinkNest (cn q.1) q.2.1 (cn q.2.2.1) (fT q.2.2.1 q.2.2.2.1).2.1 (fT q.2.2.1 q.2.2.2.1).2.2.1 "SilentAfter" else .fieldLink (cn q.1) q.2.1 (cn q.2.2.1) (fT q.2.2.1 q.2.2.2.1).2.1 (fT q.2.2.1 q.2.2.2.1).2.2.1
def fTag (t : Nat) (o : Option FieldType) : Bool := match o with | some .int => t == 0 | some .boolean => t == 1 | some (.object _) => t == 2 | some (.array _) => t == 2 | _ => false
set_option maxRecDepth 100000 in
theorem FR_ok : ∀ q ∈ FR, lw_tbl[q.2.2.2.2.2.1]? = some (fWord q) ∧ q.2.2.1 < 8 ∧ q.2.2.2.1 < fN q.2.2.1 ∧ (fT q.2.2.1 q.2.2.2.1).1 = cn q.2.2.1 ∧ (fT q.2.2.1 q.2.2.2.1).2.2.2 = q.2.2.2.2.2.2.2 ∧ fTag q.2.2.2.2.2.2.1 (parseFieldDescriptor (fT q.2.2.1 q.2.2.2.1).2.2.1) = true := by decide +kernel
def tN (t : Nat) : MethodName := if t = 200 then Lib.objectInit else if t = 201 then Lib.Math.max.name else if t = 202 then Lib.Math.min.name else nm t
def rWord (q : RTy) : Cond := if q.2.2.2.1 = true then .methodLinkNest (cn q.1) q.2.1 (tN q.2.2.1) "SilentAfter" else .methodLink (cn q.1) q.2.1 (tN q.2.2.1)
set_option maxRecDepth 100000 in
theorem MR_ok : ∀ q ∈ MR, lw_tbl[q.2.2.2.2]? = some (rWord q) := by decide +kernel
set_option maxRecDepth 100000 in
theorem MR_nest : ∀ q ∈ MR, q.2.2.2.1 = true → kd q.2.2.1 = 0 ∨ kd q.2.2.1 = 2 := by decide +kernel
theorem KI_ok : ∀ q ∈ KI, lw_tbl[q.2.2.2]? = some (.constant (cn q.1) q.2.1 (Int32.ofInt q.2.2.1)) ∧ -2147483648 ≤ q.2.2.1 ∧ q.2.2.1 < 2147483648 := by decide +kernel
theorem KL_ok : ∀ q ∈ KL, lw_tbl[q.2.2.2]? = some (.constantLong (cn q.1) q.2.1 (Int64.ofInt q.2.2.1)) ∧ -9223372036854775808 ≤ q.2.2.1 ∧ q.2.2.1 < 9223372036854775808 := by decide +kernel
theorem NC_ok : ∀ q ∈ NC, lw_tbl[q.2.2.2.1]? = some (.classLink (cn q.1) q.2.1 (cn q.2.2.1)) ∧ lw_tbl[q.2.2.2.2.1]? = some (.instantiable (cn q.2.2.1) (fN q.2.2.1)) ∧ lw_tbl[q.2.2.2.2.2]? = some (.initialized (cn q.2.2.1)) := by decide +kernel
theorem tb_i : lw_tbl[73]? = some (.arrayClass .int) := by decide +kernel
theorem tb_z : lw_tbl[659]? = some (.arrayClass .boolean) := by decide +kernel
theorem tb_v : lw_tbl[166]? = some (.arrayOver (.object RX5)) := by decide +kernel
theorem tb_oi : Cond.instanceMethod Lib.objectInit ∈ gw := by decide +kernel
theorem tb_max : Cond.static Lib.Math.max.name ∈ gw ∧ Cond.static Lib.Math.min.name ∈ gw ∧ Cond.initialized "java/lang/Math" ∈ gw := by decide +kernel
def isNest : Cond → Bool | .fieldLinkNest _ _ _ _ _ _ => true | .methodLinkNest _ _ _ _ => true | _ => false
def nW : List Cond := lw_tbl.filter isNest
theorem nwm {i : Nat} {w : Cond} (h : lw_tbl[i]? = some w) (hg : isNest w = true) : w ∈ nW := List.mem_filter.mpr ⟨List.mem_of_getElem? h, hg⟩
theorem FR_w : ∀ q ∈ FR, fWord q ∈ gw ∨ fWord q ∈ nW := fun q hq => by
  have h := (FR_ok q hq).1
  unfold fWord at h ⊢
  split
  · rename_i hn; rw [if_pos hn] at h; exact Or.inr (nwm h rfl)
  · rename_i hn; rw [if_neg hn] at h; exact Or.inl (gwm h rfl)
theorem MR_w : ∀ q ∈ MR, rWord q ∈ gw ∨ rWord q ∈ nW := fun q hq => by
  have h := MR_ok q hq
  unfold rWord at h ⊢
  split
  · rename_i hn; rw [if_pos hn] at h; exact Or.inr (nwm h rfl)
  · rename_i hn; rw [if_neg hn] at h; exact Or.inl (gwm h rfl)
def Kst (D : va_G) (cI cZ cV : ClassId) (U : State) : Prop := va_K D vwCl [(cI, .int), (cZ, .boolean), (cV, .object RX5)] U ∧ va_AO RX5 U ∧ ∀ w ∈ nW, va_Nw w U
theorem nw_tab {w : Cond} (h : w ∈ nW) : w.onTables = true := by
  have h1 := (List.mem_filter.mp h).2
  cases w <;> first | rfl | (cases h1; done)
theorem Kst_warm {D : va_G} {cI cZ cV : ClassId} {s U : State} (hW : s.WarmedH U.vm) (h : Kst D cI cZ cV s) : Kst D cI cZ cV U := by
  refine ⟨va_K.moved hW.alike h.1, va_AO.moved hW.alike h.2.1, fun w hw => ?_⟩
  have h1 := (List.mem_filter.mp hw).2
  have h2 := h.2.2 w hw
  cases w <;> first | (cases h1; done) | exact va_Nw.warmF hW h2 | exact va_Nw.warmM hW h2
theorem Kst_same {D : va_G} {cI cZ cV : ClassId} {s U : State} (hv : s.vm = U.vm) (h : Kst D cI cZ cV s) : Kst D cI cZ cV U :=
  ⟨va_K.moved (by rw [← hv]; exact Vm.Alike.refl _) h.1, va_AO.moved (by rw [← hv]; exact Vm.Alike.refl _) h.2.1, fun w hw => va_Nw.same (nw_tab hw) hv (h.2.2 w hw)⟩
theorem Kst_word {D : va_G} {cI cZ cV : ClassId} {s : State} {args : Array Value} {w : Cond} (hts : ∀ w ∈ gw, w.before args s = true) (h : Kst D cI cZ cV s) (hw : w ∈ gw ∨ w ∈ nW) : w.before args s = true := by
  rcases hw with hw | hw
  · exact hts w hw
  · exact va_Nw.use (nw_tab hw) (h.2.2 w hw)
theorem KI_w : ∀ q ∈ KI, Cond.constant (cn q.1) q.2.1 (Int32.ofInt q.2.2.1) ∈ gw := fun q hq => gwm (KI_ok q hq).1 rfl
theorem KL_w : ∀ q ∈ KL, Cond.constantLong (cn q.1) q.2.1 (Int64.ofInt q.2.2.1) ∈ gw := fun q hq => gwm (KL_ok q hq).1 rfl
theorem NC_w : ∀ q ∈ NC, Cond.classLink (cn q.1) q.2.1 (cn q.2.2.1) ∈ gw ∧ Cond.instantiable (cn q.2.2.1) (fN q.2.2.1) ∈ gw ∧ Cond.initialized (cn q.2.2.1) ∈ gw := fun q hq => ⟨gwm (NC_ok q hq).1 rfl, gwm (NC_ok q hq).2.1 rfl, gwm (NC_ok q hq).2.2 rfl⟩
theorem tw_i : Cond.arrayClass .int ∈ gw := gwm tb_i rfl
theorem tw_z : Cond.arrayClass .boolean ∈ gw := gwm tb_z rfl
theorem tw_oc : Cond.code Lib.objectInit ⟨#[0xb1]⟩ 1 none ∈ gw := gwm tb_oc rfl
theorem tw_mx : Cond.code Lib.Math.max.name Lib.Math.max.code 2 (some .int) ∈ gw := gwm tb_mx rfl
theorem tw_mn : Cond.code Lib.Math.min.name Lib.Math.min.code 2 (some .int) ∈ gw := gwm tb_mn rfl
set_option maxRecDepth 100000 in
theorem cl_ty : ∀ c, c < 8 → ∀ k, k < fN c → (parseFieldDescriptor (fT c k).2.2.1).isSome = true := by decide +kernel
set_option maxRecDepth 100000 in
theorem cl_nm : ∀ c, c < 8 → ∀ a, a < fN c → ∀ b, b < fN c → a ≠ b → (fT c a).2.1 ≠ (fT c b).2.1 := by decide +kernel
set_option maxRecDepth 100000 in
theorem cl_dfl : ∀ c, c < 8 → ∀ k, k < fN c → fTag 2 (parseFieldDescriptor (fT c k).2.2.1) = ((dfl c).getD k none).isSome ∧ ((dfl c).getD k none = none ∨ (dfl c).getD k none = some none) ∧ (dfl c).length = fN c := by decide +kernel
theorem cl_in0 : ∀ c, c < 8 → ∀ w ∈ u_ws (cn c) (fT c) (fN c), w ∈ lw_tbl := by
  intro c hc
  match c, hc with
  | 0, _ => exact inX0
  | 1, _ => exact inX1
  | 2, _ => exact inX2
  | 3, _ => exact inX3
  | 4, _ => exact inX4
  | 5, _ => exact inX5
  | 6, _ => exact inX6
  | 7, _ => exact inX7
theorem cl_at {c : Nat} (h : c < 8) : vwCl[c]? = some (cn c, fT c, fN c) := by
  match c, h with
  | 0, _ => rfl
  | 1, _ => rfl
  | 2, _ => rfl
  | 3, _ => rfl
  | 4, _ => rfl
  | 5, _ => rfl
  | 6, _ => rfl
  | 7, _ => rfl
theorem cl_in : ∀ c, c < 8 → ∀ w ∈ u_ws (cn c) (fT c) (fN c), w ∈ gw := by
  intro c hc w hw
  refine List.mem_filter.mpr ⟨cl_in0 c hc w hw, ?_⟩
  obtain ⟨j, -, rfl⟩ := List.mem_map.mp hw
  unfold u_lay
  split <;> rfl
