/-! heap instructions, Math and Object.<init> -/
theorem n98 : ¬ (9 : Nat) = 8 := by decide
theorem nA8 : ¬ (10 : Nat) = 8 := by decide
theorem nA9 : ¬ (10 : Nat) = 9 := by decide
theorem find_FR {own idx : Nat} {q : FTy} (h : fieldOf own idx = some q) : q ∈ FR ∧ q.1 = own ∧ q.2.1 = idx := by
  unfold fieldOf at h
  have h1 := List.find?_some h
  simp only [Bool.and_eq_true, beq_iff_eq] at h1
  exact ⟨List.mem_of_find?_eq_some h, h1.1, h1.2⟩
theorem find_MR {own idx : Nat} {q : RTy} (h : methOf own idx = some q) : q ∈ MR ∧ q.1 = own ∧ q.2.1 = idx := by
  unfold methOf at h
  have h1 := List.find?_some h
  simp only [Bool.and_eq_true, beq_iff_eq] at h1
  exact ⟨List.mem_of_find?_eq_some h, h1.1, h1.2⟩
theorem find_p {α : Type} {l : List (Nat × Nat × α)} {own idx : Nat} {q : Nat × Nat × α} (h : l.find? (fun q => q.1 == own && q.2.1 == idx) = some q) : q ∈ l ∧ q.1 = own ∧ q.2.1 = idx := by
  have h1 := List.find?_some h
  simp only [Bool.and_eq_true, beq_iff_eq] at h1
  exact ⟨List.mem_of_find?_eq_some h, h1.1, h1.2⟩
theorem obind {α β : Type} {x : Option α} {f : α → Option β} {z : β} (h : x.bind f = some z) : ∃ y, x = some y ∧ f y = some z := by
  cases x with
  | none => cases h
  | some y => exact ⟨y, rfl, h⟩
theorem mSum_cv {b base : Nat} {r : List PV} : ((r.map (cv b base)).map fun v => v.category).sum = mSum r := by
  unfold mSum
  rw [List.map_map]
  congr 1
  apply List.map_congr_left
  intro v _
  rcases v with x | x | x
  · rfl
  · rfl
  · cases x <;> rfl
section SI
variable {p : Program} {l : Launch} {e : Env} {R : Room} {s : State} {m : MethodId} {args : Array Value} {below : List Frame} {meth : Method} {c : Code} {H : Heap} {locs : List Loc} {cells slots : Nat} {Q : State → Prop} {pc : Nat} {ls : Array Slot}
variable {D : va_G} {cI cZ cV : ClassId} {b base L : Nat} {xs : Nat → Int32} {d k : Nat} {sh sh' : List PS} {M M' : PM} {rest : List Value}
theorem pi_putI {a j : Nat} {x : Int} {q : FTy} (F : Fx D cI cZ cV b base L xs d k p R s m args meth c) (hw : pw D cI cZ cV b base L xs sh M H) (hS0 : va_S (pA base) s.heap H locs) (hq : q ∈ FR) (ho : q.1 = oc k) (hfin : q.2.2.2.2.2.2.2 = false) (htag : q.2.2.2.2.2.2.1 < 2) (hok : okI x)
    (hp : putI sh M a q.2.2.1 q.2.2.2.1 (q.2.2.2.2.2.2.1 == 1) x = some M') (hd : decode (cd k) pc = .ok (.putfield q.2.1, 3))
    (kk : ∀ (H' : Heap) (locs' : List Loc), pw D cI cZ cV b base L xs sh M' H' → va_S (pA base) s.heap H' locs' → W p l e R s m args below meth c H' locs' cells slots Q (F0 m (pc + 3) ls rest)) : W p l e R s m args below meth c H locs cells slots Q (F0 m pc ls (.int (Int32.ofInt x) :: .ref (av b base a) :: rest)) := by
  obtain ⟨f1, f2, f3, f4, f5, f6⟩ := FR_ok q hq
  unfold putI at hp
  split at hp
  · cases hp
  rename_i ha
  split at hp
  · rename_i c0 n0 L0 hs
    split at hp
    · rename_i hc
      obtain ⟨hc, h8, hL, hb⟩ := hc
      cases hp
      have hsame : sh = sh.set a (c0, n0, L0) := by
        apply List.ext_getElem?
        intro i
        by_cases hi : a = i
        · subst hi
          rw [List.getElem?_set_self (List.getElem?_eq_some_iff.mp hs).1, hs]
        · rw [List.getElem?_set_ne hi]
      have hV : ∀ t, t < fN c0 → updV (fun t => fv1 b base (M a t) (L0.getD t none)) q.2.2.2.1 (.int (Int32.ofInt x)) t = fv1 b base (setC M a q.2.2.2.1 x a t) (L0.getD t none) := by
        intro t ht
        unfold updV
        by_cases hj : t = q.2.2.2.1
        · subst hj
          rw [if_pos rfl, List.getD_eq_getElem?_getD, hL]
          show _ = Value.int (Int32.ofInt (setC M a _ x a _))
          simp only [setC, and_self, if_pos]
        · rw [if_neg hj]
          have e1 : setC M a q.2.2.2.1 x a t = M a t := by
            simp only [setC]
            rw [if_neg (fun z => hj z.2)]
          rw [e1]
      have ht := tyOf f6
      rcases (show q.2.2.2.2.2.2.1 = 0 ∨ q.2.2.2.2.2.2.1 = 1 by omega) with h0 | h1
      · exact pg_put F hw hS0 hq ho hc rfl (Or.inl hfin) (ht.1 h0) rfl rfl ha hs hsame rfl (fun z hz => setC_ne hz) (okM_set hw.2.2.2.2.1 hok) hV hd kk
      · have hx01 : x = 0 ∨ x = 1 := by
          rcases hb with hb | hb
          · rw [h1] at hb; cases hb
          · exact hb
        exact pg_put F hw hS0 hq ho hc rfl (Or.inl hfin) (ht.2.1 h1) (by rcases hx01 with rfl | rfl <;> decide) (by rcases hx01 with rfl | rfl <;> decide) ha hs hsame rfl (fun z hz => setC_ne hz) (okM_set hw.2.2.2.2.1 hok) hV hd kk
    · cases hp
  · cases hp
theorem pi_putR {a r : Nat} {q : FTy} (F : Fx D cI cZ cV b base L xs d k p R s m args meth c) (hw : pw D cI cZ cV b base L xs sh M H) (hS0 : va_S (pA base) s.heap H locs) (hq : q ∈ FR) (ho : q.1 = oc k) (hfin : q.2.2.2.2.2.2.2 = true ∧ q.2.2.2.2.1 = false ∧ isIni k = true ∧ q.2.2.1 = oc k) (htag : q.2.2.2.2.2.2.1 = 2)
    (hp : putR sh a q.2.2.1 q.2.2.2.1 r = some sh') (hd : decode (cd k) pc = .ok (.putfield q.2.1, 3))
    (kk : ∀ (H' : Heap) (locs' : List Loc), pw D cI cZ cV b base L xs sh' M H' → va_S (pA base) s.heap H' locs' → W p l e R s m args below meth c H' locs' cells slots Q (F0 m (pc + 3) ls rest)) : W p l e R s m args below meth c H locs cells slots Q (F0 m pc ls (.ref (av b base r) :: .ref (av b base a) :: rest)) := by
  obtain ⟨f1, f2, f3, f4, f5, f6⟩ := FR_ok q hq
  unfold putR at hp
  split at hp
  · cases hp
  rename_i ha
  split at hp
  · rename_i c0 n0 L0 hs
    split at hp
    · rename_i hc
      obtain ⟨hc, h8⟩ := hc
      split at hp
      · rename_i f0 hL
        cases hp
        have hlt : q.2.2.2.1 < L0.length := (List.getElem?_eq_some_iff.mp hL).1
        have hV : ∀ t, t < fN c0 → updV (fun t => fv1 b base (M a t) (L0.getD t none)) q.2.2.2.1 (.ref (av b base r)) t = fv1 b base (M a t) ((L0.set q.2.2.2.1 (some (some r))).getD t none) := by
          intro t ht
          unfold updV
          by_cases hj : t = q.2.2.2.1
          · subst hj
            rw [if_pos rfl, List.getD_eq_getElem?_getD, List.getElem?_set_self hlt]
            rfl
          · rw [if_neg hj]
            show fv1 b base (M a t) (L0.getD t none) = _
            rw [List.getD_eq_getElem?_getD, List.getD_eq_getElem?_getD, List.getElem?_set_ne (fun z => hj z.symm)]
        have hnf : ∀ ty, narrow ty (.ref (av b base r)) = .ref (av b base r) := fun ty => by cases ty <;> rfl
        rcases (tyOf f6).2.2 htag with ⟨n, hn⟩ | ⟨n, hn⟩
        · exact pg_put F hw hS0 hq ho hc rfl (Or.inr hfin) hn (hnf _) rfl (fun z => ha (Or.inl z)) hs rfl (by rw [List.length_set]) (fun _ _ => rfl) hw.2.2.2.2.1 hV hd kk
        · exact pg_put F hw hS0 hq ho hc rfl (Or.inr hfin) hn (hnf _) rfl (fun z => ha (Or.inl z)) hs rfl (by rw [List.length_set]) (fun _ _ => rfl) hw.2.2.2.2.1 hV hd kk
      · cases hp
    · cases hp
  · cases hp
theorem pi_iald {a : Nat} {i : Int} {v : PV} (F : Fx D cI cZ cV b base L xs d k p R s m args meth c) (hw : pw D cI cZ cV b base L xs sh M H) (hS0 : va_S (pA base) s.heap H locs) (hok : okI i) (hg : aget sh M a i = some v) (hd : decode (cd k) pc = .ok (.iaload, 1))
    (kk : okv v → W p l e R s m args below meth c H locs cells slots Q (F0 m (pc + 1) ls (cv b base v :: rest))) : W p l e R s m args below meth c H locs cells slots Q (F0 m pc ls (.int (Int32.ofInt i) :: .ref (av b base a) :: rest)) := by
  obtain ⟨hx, hb, hml, hown, hts, -, -, hin, hK, hX, hbb, hbs⟩ := F
  unfold aget at hg
  split at hg
  · rename_i c0 n0 L0 hs
    split at hg
    · rename_i hc
      obtain ⟨h0, h1, h2⟩ := hc
      cases hg
      obtain ⟨v1, v2⟩ := vin hok h0 h1
      have k1 := kk (hw.2.2.2.2.1 _ _)
      rcases h2 with ⟨rfl, rfl⟩ | ⟨ha, rfl⟩
      · obtain ⟨L1, hL1⟩ := hw.2.2.1
        rw [hs] at hL1
        cases hL1
        have e0 : av b base 0 = b := rfl
        rw [e0]
        have hlt : i.toNat < L := by omega
        have e1 : cv b base (.inl (M 0 i.toNat)) = .int (xs (Int32.ofInt i).toNatClampNeg) := by
          show Value.int _ = _
          rw [v2, hw.2.2.2.1 _ hlt, Int32.ofInt_toInt]
        rw [e1] at k1
        exact va_sld hx hb hX (Nat.lt_of_le_of_lt hbb hbs) (Nat.not_lt.mpr hbb) hS0 v1 hd k1
      · have hc := hw.2.1 a _ ha hs
        unfold wat at hc
        rw [if_pos rfl] at hc
        have hav : av b base a = base + a := by unfold av; rw [if_neg ha]
        rw [hav]
        have hlt : i.toNat < n0 := by omega
        refine W.iald (v := .int (Int32.ofInt (M a i.toNat))) hx hb hc ((hK.1.2 0 _ rfl).1 n0 _) (fun q => by cases q) ?_ ?_ rfl rfl hd k1
        · rw [arrV_size]; exact v1
        · rw [v2, arrV_read _ _ hlt]
    · cases hg
  · cases hg
theorem pi_zald {a : Nat} {i : Int} {v : PV} (F : Fx D cI cZ cV b base L xs d k p R s m args meth c) (hw : pw D cI cZ cV b base L xs sh M H) (hok : okI i) (hg : zget sh M a i = some v) (hd : decode (cd k) pc = .ok (.baload, 1))
    (kk : okv v → W p l e R s m args below meth c H locs cells slots Q (F0 m (pc + 1) ls (cv b base v :: rest))) : W p l e R s m args below meth c H locs cells slots Q (F0 m pc ls (.int (Int32.ofInt i) :: .ref (av b base a) :: rest)) := by
  obtain ⟨hx, hb, hml, hown, hts, -, -, hin, hK, hX, hbb, hbs⟩ := F
  unfold zget at hg
  split at hg
  · cases hg
  rename_i ha
  split at hg
  · rename_i c0 n0 L0 hs
    split at hg
    · rename_i hc
      obtain ⟨h0, h1, rfl⟩ := hc
      cases hg
      obtain ⟨v1, v2⟩ := vin hok h0 h1
      have k1 := kk (hw.2.2.2.2.1 _ _)
      have hc := hw.2.1 a _ ha hs
      unfold wat at hc
      rw [if_neg n98, if_pos rfl] at hc
      have hav : av b base a = base + a := by unfold av; rw [if_neg ha]
      rw [hav]
      have hlt : i.toNat < n0 := by omega
      refine W.zald (v := .int (Int32.ofInt (M a i.toNat))) hx hb hc ((hK.1.2 1 _ rfl).1 n0 _) (fun q => by cases q) ?_ ?_ rfl rfl hd k1
      · rw [arrV_size]; exact v1
      · rw [v2, arrV_read _ _ hlt]
    · cases hg
  · cases hg
theorem pi_aald {a : Nat} {i : Int} {v : PV} (F : Fx D cI cZ cV b base L xs d k p R s m args meth c) (hw : pw D cI cZ cV b base L xs sh M H) (hok : okI i) (hg : rget sh a i = some v) (hd : decode (cd k) pc = .ok (.aaload, 1))
    (kk : okv v → W p l e R s m args below meth c H locs cells slots Q (F0 m (pc + 1) ls (cv b base v :: rest))) : W p l e R s m args below meth c H locs cells slots Q (F0 m pc ls (.int (Int32.ofInt i) :: .ref (av b base a) :: rest)) := by
  obtain ⟨hx, hb, hml, hown, hts, -, -, hin, hK, hX, hbb, hbs⟩ := F
  unfold rget at hg
  split at hg
  · cases hg
  rename_i ha
  split at hg
  · rename_i c0 n0 L0 hs
    split at hg
    · rename_i hc
      obtain ⟨h0, h1, rfl⟩ := hc
      split at hg
      · rename_i r hr
        cases hg
        obtain ⟨v1, v2⟩ := vin hok h0 h1
        have k1 := kk trivial
        have hc := hw.2.1 a _ ha hs
        unfold wat at hc
        rw [if_neg nA8, if_neg nA9, if_pos rfl] at hc
        have hav : av b base a = base + a := by unfold av; rw [if_neg ha]
        rw [hav]
        have hlt : i.toNat < n0 := by omega
        refine W.aald (v := .ref (av b base r)) (ty := .object RX5) hx hb hc ((hK.1.2 2 _ rfl).1 n0 _) rfl (fun q => by cases q) ?_ ?_ rfl rfl hd k1
        · rw [arrV_size]; exact v1
        · rw [v2, arrV_read _ _ hlt, List.getD_eq_getElem?_getD, hr]
          rfl
      · cases hg
    · cases hg
  · cases hg
theorem pi_alen {a : Nat} {v : PV} (F : Fx D cI cZ cV b base L xs d k p R s m args meth c) (hw : pw D cI cZ cV b base L xs sh M H) (hS0 : va_S (pA base) s.heap H locs) (hg : alen sh a = some v) (hd : decode (cd k) pc = .ok (.arraylength, 1))
    (kk : okv v → W p l e R s m args below meth c H locs cells slots Q (F0 m (pc + 1) ls (cv b base v :: rest))) : W p l e R s m args below meth c H locs cells slots Q (F0 m pc ls (.ref (av b base a) :: rest)) := by
  obtain ⟨hx, hb, hml, hown, hts, -, -, hin, hK, hX, hbb, hbs⟩ := F
  unfold alen at hg
  split at hg
  · rename_i c0 n0 L0 hs
    have hn := hw.2.2.2.2.2 _ (List.mem_of_getElem? hs)
    simp only at hn
    split at hg
    · rename_i hc
      cases hg
      have k1 := kk (show okI _ from ⟨by omega, by omega⟩)
      have e2 : cv b base (.inl (n0 : Int)) = .int (Int32.ofNat n0) := by
        show Value.int (Int32.ofInt (n0 : Int)) = _
        rw [Int32.ofInt_eq_ofNat]
      rw [e2] at k1
      rcases hc with ⟨rfl, rfl⟩ | ⟨ha, hc⟩
      · obtain ⟨L1, hL1⟩ := hw.2.2.1
        rw [hs] at hL1
        cases hL1
        exact va_slen hx hb hX (Nat.lt_of_le_of_lt hbb hbs) (Nat.not_lt.mpr hbb) hS0 hd k1
      · have hav : av b base a = base + a := by unfold av; rw [if_neg ha]
        rw [hav]
        have hcc := hw.2.1 a _ ha hs
        unfold wat at hcc
        rcases hc with rfl | rfl | rfl
        · rw [if_pos rfl] at hcc
          exact W.alen (n := Int32.ofNat n0) hx hb hcc ((hK.1.2 0 _ rfl).1 n0 _) (by rw [arrV_size]) rfl rfl hd k1
        · rw [if_neg n98, if_pos rfl] at hcc
          exact W.alen (n := Int32.ofNat n0) hx hb hcc ((hK.1.2 1 _ rfl).1 n0 _) (by rw [arrV_size]) rfl rfl hd k1
        · rw [if_neg nA8, if_neg nA9, if_pos rfl] at hcc
          exact W.alen (n := Int32.ofNat n0) hx hb hcc ((hK.1.2 2 _ rfl).1 n0 _) (by rw [arrV_size]) rfl rfl hd k1
    · cases hg
  · cases hg
theorem set_same {sh : List PS} {a : Nat} {s0 : PS} (hs : sh[a]? = some s0) : sh = sh.set a s0 := by
  apply List.ext_getElem?
  intro i
  by_cases hi : a = i
  · subst hi
    rw [List.getElem?_set_self (List.getElem?_eq_some_iff.mp hs).1, hs]
  · rw [List.getElem?_set_ne hi]
theorem pi_iast {a : Nat} {i x : Int} (F : Fx D cI cZ cV b base L xs d k p R s m args meth c) (hw : pw D cI cZ cV b base L xs sh M H) (hS0 : va_S (pA base) s.heap H locs) (hok : okI i) (hokx : okI x) (hg : aput sh M a i x = some M') (hd : decode (cd k) pc = .ok (.iastore, 1))
    (kk : ∀ (H' : Heap) (locs' : List Loc), pw D cI cZ cV b base L xs sh M' H' → va_S (pA base) s.heap H' locs' → W p l e R s m args below meth c H' locs' cells slots Q (F0 m (pc + 1) ls rest)) : W p l e R s m args below meth c H locs cells slots Q (F0 m pc ls (.int (Int32.ofInt x) :: .int (Int32.ofInt i) :: .ref (av b base a) :: rest)) := by
  obtain ⟨hx, hb, hml, hown, hts, -, -, hin, hK, hX, hbb, hbs⟩ := F
  unfold aput at hg
  split at hg
  · cases hg
  rename_i ha
  split at hg
  · rename_i c0 n0 L0 hs
    split at hg
    · rename_i hc
      obtain ⟨h0, h1, rfl⟩ := hc
      cases hg
      obtain ⟨v1, v2⟩ := vin hok h0 h1
      have hc := hw.2.1 a _ ha hs
      unfold wat at hc
      rw [if_pos rfl] at hc
      have hav : av b base a = base + a := by unfold av; rw [if_neg ha]
      rw [hav]
      refine W.iast hx hb hc ((hK.1.2 0 _ rfl).1 n0 _) (fun q => by cases q) (by rw [arrV_size]; exact v1) rfl rfl hd fun H' e1 e2 e3 => ?_
      refine kk H' _ (pw_upd hw ha (List.getElem?_eq_some_iff.mp hs).1 (set_same hs) e2 e3 ?_ (fun z hz => setC_ne hz) (okM_set hw.2.2.2.2.1 hokx) (show n0 < 2147483648 from hw.2.2.2.2.2 _ (List.mem_of_getElem? hs))) (hS0.put e2 e3 (show base < base + a by omega))
      unfold wat
      rw [if_pos rfl, e1, arrV_store, v2]
      congr 2
      funext j
      simp only [updV, setC]
      by_cases hj : j = i.toNat
      · simp [hj]
      · simp [hj]
    · cases hg
  · cases hg
theorem pi_zast {a : Nat} {i x : Int} (F : Fx D cI cZ cV b base L xs d k p R s m args meth c) (hw : pw D cI cZ cV b base L xs sh M H) (hS0 : va_S (pA base) s.heap H locs) (hok : okI i) (hokx : okI x) (hg : zput sh M a i x = some M') (hd : decode (cd k) pc = .ok (.bastore, 1))
    (kk : ∀ (H' : Heap) (locs' : List Loc), pw D cI cZ cV b base L xs sh M' H' → va_S (pA base) s.heap H' locs' → W p l e R s m args below meth c H' locs' cells slots Q (F0 m (pc + 1) ls rest)) : W p l e R s m args below meth c H locs cells slots Q (F0 m pc ls (.int (Int32.ofInt x) :: .int (Int32.ofInt i) :: .ref (av b base a) :: rest)) := by
  obtain ⟨hx, hb, hml, hown, hts, -, -, hin, hK, hX, hbb, hbs⟩ := F
  unfold zput at hg
  split at hg
  · cases hg
  rename_i ha
  split at hg
  · rename_i c0 n0 L0 hs
    split at hg
    · rename_i hc
      obtain ⟨h0, h1, rfl, h01⟩ := hc
      cases hg
      obtain ⟨v1, v2⟩ := vin hok h0 h1
      have hc := hw.2.1 a _ ha hs
      unfold wat at hc
      rw [if_neg n98, if_pos rfl] at hc
      have hav : av b base a = base + a := by unfold av; rw [if_neg ha]
      rw [hav]
      have hnar : narrow .boolean (.int (Int32.ofInt x)) = .int (Int32.ofInt x) := by rcases h01 with rfl | rfl <;> decide
      refine W.zast hx hb hc ((hK.1.2 1 _ rfl).1 n0 _) (fun q => by cases q) (by rw [arrV_size]; exact v1) rfl rfl hd fun H' e1 e2 e3 => ?_
      refine kk H' _ (pw_upd hw ha (List.getElem?_eq_some_iff.mp hs).1 (set_same hs) e2 e3 ?_ (fun z hz => setC_ne hz) (okM_set hw.2.2.2.2.1 hokx) (show n0 < 2147483648 from hw.2.2.2.2.2 _ (List.mem_of_getElem? hs))) (hS0.put e2 e3 (show base < base + a by omega))
      unfold wat
      rw [if_neg n98, if_pos rfl, e1, hnar, arrV_store, v2]
      congr 2
      funext j
      simp only [updV, setC]
      by_cases hj : j = i.toNat
      · simp [hj]
      · simp [hj]
    · cases hg
  · cases hg
theorem pi_aast {a r : Nat} {i : Int} (F : Fx D cI cZ cV b base L xs d k p R s m args meth c) (hw : pw D cI cZ cV b base L xs sh M H) (hS0 : va_S (pA base) s.heap H locs) (hok : okI i) (hg : rput sh a i r = some sh') (hd : decode (cd k) pc = .ok (.aastore, 1))
    (kk : ∀ (H' : Heap) (locs' : List Loc), pw D cI cZ cV b base L xs sh' M H' → va_S (pA base) s.heap H' locs' → W p l e R s m args below meth c H' locs' cells slots Q (F0 m (pc + 1) ls rest)) : W p l e R s m args below meth c H locs cells slots Q (F0 m pc ls (.ref (av b base r) :: .int (Int32.ofInt i) :: .ref (av b base a) :: rest)) := by
  obtain ⟨hx, hb, hml, hown, hts, -, -, hin, hK, hX, hbb, hbs⟩ := F
  unfold rput at hg
  split at hg
  · cases hg
  rename_i har
  have ha : ¬ a = 0 := fun z => har (Or.inl z)
  have hr : ¬ r = 0 := fun z => har (Or.inr z)
  split at hg
  · rename_i c0 n0 L0 hs
    split at hg
    · rename_i hc
      obtain ⟨h0, h1, rfl, hlen⟩ := hc
      split at hg
      · rename_i n1 L1 hs1
        cases hg
        obtain ⟨v1, v2⟩ := vin hok h0 h1
        have hc := hw.2.1 a _ ha hs
        unfold wat at hc
        rw [if_neg nA8, if_neg nA9, if_pos rfl] at hc
        obtain ⟨w1, cellV, g1, g2, g3, -⟩ := wat_obj (c := 5) rfl (by decide) (hw.2.1 r _ hr hs1)
        have hav : av b base a = base + a := by unfold av; rw [if_neg ha]
        have hrv : av b base r = base + r := by unfold av; rw [if_neg hr]
        rw [hav, hrv]
        have hcls := (hK.1.1 5 _ (cl_at (c := 5) (by decide))).2
        obtain ⟨kA, comp, k1, k2, k3, -⟩ := (hK.1.2 2 _ rfl).2
        have hcomp : comp = D.1 5 := Option.some.inj (k3.symm.trans hcls.1)
        subst hcomp
        obtain ⟨kC, hkC, hkC2⟩ := hcls.2
        have hlt : i.toNat < n0 := by omega
        refine W.aast (cv := cellV) hx hb hc (fun q h => by cases h) (fun h => by cases h) k1 k2 rfl hkC ⟨fun q => v1 (Or.inl q), by rw [arrV_size, v2]; exact hlt⟩ g1 (fun q h => by rw [g3] at h; cases h) (by rw [g2]; exact hkC) (by rw [g2]; exact va_assign ⟨hcls.1, kC, hkC, hkC2⟩) rfl rfl hd fun H' e1 e2 e3 => ?_
        refine kk H' _ (pw_upd hw ha (List.getElem?_eq_some_iff.mp hs).1 rfl e2 e3 ?_ (fun z hz => rfl) hw.2.2.2.2.1 (show n0 < 2147483648 from hw.2.2.2.2.2 _ (List.mem_of_getElem? hs))) (hS0.put e2 e3 (show base < base + a by omega))
        unfold wat
        rw [if_neg nA8, if_neg nA9, if_pos rfl, e1, arrV_store, v2]
        congr 2
        funext j
        simp only [updV]
        by_cases hj : j = i.toNat
        · rw [if_pos hj, hj, List.getD_eq_getElem?_getD, List.getElem?_set_self hlen]
          show _ = Value.ref _
          rw [hrv]
        · rw [if_neg hj, List.getD_eq_getElem?_getD, List.getD_eq_getElem?_getD, List.getElem?_set_ne (fun z => hj z.symm)]
      · cases hg
    · cases hg
  · cases hg
end SI
