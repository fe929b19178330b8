/-! rows of the kit over the world: arrays, calls, new arrays -/
theorem HW.wr2 {D : va_G} {z0 : Nat} {ad : Nat → Nat} {V : Nat → Option va_E} {H : Heap} (h : HW D z0 ad V H) {L : Nat} {e0 : va_E} (hV : V L = some e0) :
    ∃ (ws : va_W) (k : Nat), va_P D vwCl ws H ∧ va_D (AA z0) ws ∧ ws[k]? = some (ad L, e0) ∧ (∀ L' e', V L' = some e' → ∃ k' : Nat, ws[k']? = some (ad L', e')) ∧ ∀ (e1 : va_E) (H1 : Heap), va_P D vwCl (ws.set k (ad L, e1)) H1 → va_D (AA z0) (ws.set k (ad L, e1)) → HW D z0 ad (va_up V L (some e1)) H1 := by
  obtain ⟨ws, hP, hD, hm, hi⟩ := h
  obtain ⟨k, hk⟩ := List.getElem?_of_mem (hm L e0 hV)
  have hl := (List.getElem?_eq_some_iff.mp hk).1
  refine ⟨ws, k, hP, hD, hk, fun L' e' hL' => List.getElem?_of_mem (hm L' e' hL'), fun e1 H1 hP1 hD1 => ⟨_, hP1, hD1, fun L' e' hL' => ?_, fun L1 L2 x1 x2 h1 h2 ha => ?_⟩⟩
  · by_cases hq : L' = L
    · subst hq
      rw [va_up_self] at hL'
      cases hL'
      exact List.mem_of_getElem? (i := k) (List.getElem?_set_self hl)
    · rw [va_up_ne _ _ hq] at hL'
      obtain ⟨k', hk'⟩ := List.getElem?_of_mem (hm L' e' hL')
      have hne : k ≠ k' := fun q => by
        subst q
        rw [hk] at hk'
        have h5 : ad L = ad L' := congrArg (fun x : Option (Nat × va_E) => (x.map Prod.fst).getD 0) hk'
        exact hq (hi L L' e0 e' hV hL' h5).symm
      exact List.mem_of_getElem? (i := k') (by rw [List.getElem?_set_ne hne]; exact hk')
  · have live : ∀ M x, va_up V L (some e1) M = some x → ∃ y, V M = some y := fun M x hM => by
      by_cases hq : M = L
      · subst hq; exact ⟨e0, hV⟩
      · rw [va_up_ne _ _ hq] at hM; exact ⟨x, hM⟩
    obtain ⟨y1, g1⟩ := live L1 x1 h1
    obtain ⟨y2, g2⟩ := live L2 x2 h2
    exact hi L1 L2 y1 y2 g1 g2 ha
section RW
variable {p : Program} {l : Launch} {e : Env} {R : Room} {s : State} {m : MethodId} {args : Array Value} {below : List Frame} {meth : Method} {c : Code} {H : Heap} {locs : List Loc} {cells slots : Nat} {Q : State → Prop}
variable {cc : ByteArray} {pc : Nat} {ls : Array Slot} {rest : List Value} {D : va_G} {cy : Nat → ClassId} {z0 : Nat} {ad : Nat → Nat} {V : Nat → Option va_E} {H0 : Heap} {L : Nat}
theorem w_iald (hx : p.tables.exec = Jvm.exec) (hb : c.code = cc) (hK : KB D cy s) (hW : HW D z0 ad V H) {n j : Nat} {f : Nat → Int32} (hV : V L = some (.inl (cy 0, n, .inl f))) {i : Int32} (hi : i = nI j) (hj : j < n) (hn : n < 2 ^ 31) (hdg : decode cc pc = .ok (.iaload, 1))
    (kk : W p l e R s m args below meth c H locs cells slots Q (F0 m (pc + 1) ls (.int (f j) :: rest))) : W p l e R s m args below meth c H locs cells slots Q (F0 m pc ls (.int i :: .ref (ad L) :: rest)) := by
  subst hi
  refine va_iald hx hb hK.2 (hW.rd hV) 0 0 rfl rfl (vp_in_nI hj hn) hdg ?_
  rw [nI_clamp (by omega)]
  exact kk
theorem w_zald (hx : p.tables.exec = Jvm.exec) (hb : c.code = cc) (hK : KB D cy s) (hW : HW D z0 ad V H) {n j : Nat} {f : Nat → Int32} (hV : V L = some (.inl (cy 2, n, .inl f))) {i : Int32} (hi : i = nI j) (hj : j < n) (hn : n < 2 ^ 31) (hdg : decode cc pc = .ok (.baload, 1))
    (kk : W p l e R s m args below meth c H locs cells slots Q (F0 m (pc + 1) ls (.int (f j) :: rest))) : W p l e R s m args below meth c H locs cells slots Q (F0 m pc ls (.int i :: .ref (ad L) :: rest)) := by
  subst hi
  refine va_zald hx hb hK.2 (hW.rd hV) 0 2 rfl rfl (vp_in_nI hj hn) hdg ?_
  rw [nI_clamp (by omega)]
  exact kk
theorem w_lald (hx : p.tables.exec = Jvm.exec) (hb : c.code = cc) (hK : KB D cy s) (hW : HW D z0 ad V H) {n j : Nat} {f : Nat → Int64} (hV : V L = some (.inl (cy 1, n, .inr (.inl f)))) {i : Int32} (hi : i = nI j) (hj : j < n) (hn : n < 2 ^ 31) (hdg : decode cc pc = .ok (.laload, 1))
    (kk : W p l e R s m args below meth c H locs cells slots Q (F0 m (pc + 1) ls (.long (f j) :: rest))) : W p l e R s m args below meth c H locs cells slots Q (F0 m pc ls (.int i :: .ref (ad L) :: rest)) := by
  subst hi
  refine va_lald hx hb hK.2 (hW.rd hV) 0 1 rfl rfl (vp_in_nI hj hn) hdg ?_
  rw [nI_clamp (by omega)]
  exact kk
/-- a row of an array of arrays, or of objects: ty the kind of what it holds -/
theorem w_aald (hx : p.tables.exec = Jvm.exec) (hb : c.code = cc) (hK : KB D cy s) (hW : HW D z0 ad V H) (t0 : Nat) {ty : FieldType} (ht : (tyL cy)[t0]? = some (cy t0, ty)) (hty : ty.isReference = true) {n j : Nat} {f : Nat → Option Nat} (hV : V L = some (.inl (cy t0, n, .inr (.inr (.inr (.inr f)))))) {i : Int32} (hi : i = nI j) (hj : j < n) (hn : n < 2 ^ 31) (hdg : decode cc pc = .ok (.aaload, 1))
    (kk : W p l e R s m args below meth c H locs cells slots Q (F0 m (pc + 1) ls (va_rf (f j) :: rest))) : W p l e R s m args below meth c H locs cells slots Q (F0 m pc ls (.int i :: .ref (ad L) :: rest)) := by
  subst hi
  have hin := vp_in_nI hj hn
  refine W.aald (v := va_rf (f j)) (ty := ty) hx hb (hW.rd hV 0 _ rfl) ((hK.2.2 t0 _ ht).1 n (fun j => va_rf (f j))) hty (fun q => by cases q) (by show ¬ (nI j < 0 ∨ (arrV _ _ _).slots.size ≤ _); rw [arrV_size]; exact hin) ?_ rfl rfl hdg kk
  show (arrV _ _ _).slots[_]? = _
  rw [nI_clamp (by omega), arrV_read _ _ hj]
theorem w_iast (hx : p.tables.exec = Jvm.exec) (hb : c.code = cc) (hK : KB D cy s) (hW : HW D z0 ad V H) (hS : va_S (AA z0) H0 H locs) {n j : Nat} {f : Nat → Int32} (hV : V L = some (.inl (cy 0, n, .inl f))) {i x : Int32} (hi : i = nI j) (hj : j < n) (hn : n < 2 ^ 31) (hdg : decode cc pc = .ok (.iastore, 1))
    (kk : ∀ (H1 : Heap) (locs1 : List Loc), HW D z0 ad (va_up V L (some (.inl (cy 0, n, .inl (upd f j x))))) H1 → va_S (AA z0) H0 H1 locs1 → W p l e R s m args below meth c H1 locs1 cells slots Q (F0 m (pc + 1) ls rest)) : W p l e R s m args below meth c H locs cells slots Q (F0 m pc ls (.int x :: .int i :: .ref (ad L) :: rest)) := by
  subst hi
  obtain ⟨ws, k, hP, hD, hk, hnew⟩ := hW.wr hV
  refine va_iast hx hb hK.2 hP hD hS k 0 hk rfl (vp_in_nI hj hn) hdg (fun H1 locs1 hP1 hD1 hS1 => ?_)
  rw [nI_clamp (by omega)] at hP1 hD1
  exact kk H1 locs1 (hnew _ _ hP1 hD1) hS1
theorem w_zast (hx : p.tables.exec = Jvm.exec) (hb : c.code = cc) (hK : KB D cy s) (hW : HW D z0 ad V H) (hS : va_S (AA z0) H0 H locs) {n j : Nat} {f : Nat → Int32} (hV : V L = some (.inl (cy 2, n, .inl f))) {i x : Int32} (hi : i = nI j) (hj : j < n) (hn : n < 2 ^ 31) (hxb : vp_nar .boolean x = x) (hdg : decode cc pc = .ok (.bastore, 1))
    (kk : ∀ (H1 : Heap) (locs1 : List Loc), HW D z0 ad (va_up V L (some (.inl (cy 2, n, .inl (upd f j x))))) H1 → va_S (AA z0) H0 H1 locs1 → W p l e R s m args below meth c H1 locs1 cells slots Q (F0 m (pc + 1) ls rest)) : W p l e R s m args below meth c H locs cells slots Q (F0 m pc ls (.int x :: .int i :: .ref (ad L) :: rest)) := by
  subst hi
  obtain ⟨ws, k, hP, hD, hk, hnew⟩ := hW.wr hV
  refine va_zast hx hb hK.2 hP hD hS k 2 hk rfl (vp_in_nI hj hn) hdg (fun H1 locs1 hP1 hD1 hS1 => ?_)
  rw [nI_clamp (by omega), hxb] at hP1 hD1
  exact kk H1 locs1 (hnew _ _ hP1 hD1) hS1
theorem w_last (hx : p.tables.exec = Jvm.exec) (hb : c.code = cc) (hK : KB D cy s) (hW : HW D z0 ad V H) (hS : va_S (AA z0) H0 H locs) {n j : Nat} {f : Nat → Int64} (hV : V L = some (.inl (cy 1, n, .inr (.inl f)))) {i : Int32} {x : Int64} (hi : i = nI j) (hj : j < n) (hn : n < 2 ^ 31) (hdg : decode cc pc = .ok (.lastore, 1))
    (kk : ∀ (H1 : Heap) (locs1 : List Loc), HW D z0 ad (va_up V L (some (.inl (cy 1, n, .inr (.inl (vp_updL f j x)))))) H1 → va_S (AA z0) H0 H1 locs1 → W p l e R s m args below meth c H1 locs1 cells slots Q (F0 m (pc + 1) ls rest)) : W p l e R s m args below meth c H locs cells slots Q (F0 m pc ls (.long x :: .int i :: .ref (ad L) :: rest)) := by
  subst hi
  obtain ⟨ws, k, hP, hD, hk, hnew⟩ := hW.wr hV
  refine va_last hx hb hK.2 hP hD hS k 1 hk rfl (vp_in_nI hj hn) hdg (fun H1 locs1 hP1 hD1 hS1 => ?_)
  rw [nI_clamp (by omega)] at hP1 hD1
  exact kk H1 locs1 (hnew _ _ hP1 hD1) hS1
theorem w_astq (hx : p.tables.exec = Jvm.exec) (hb : c.code = cc) (hK : KB D cy s) (hW : HW D z0 ad V H) (hS : va_S (AA z0) H0 H locs) (t0 ci : Nat) {r : vw_C} (ht : (tyL cy)[t0]? = some (cy t0, .object r.1)) (hc : vwCl[ci]? = some r) {n j : Nat} {f : Nat → Option Nat} (hV : V L = some (.inl (cy t0, n, .inr (.inr (.inr (.inr f)))))) {L2 : Nat} {vs : List Value} (hV2 : V L2 = some (.inr (ci, vs))) {i : Int32} (hi : i = nI j) (hj : j < n) (hn : n < 2 ^ 31) (hdg : decode cc pc = .ok (.aastore, 1))
    (kk : ∀ (H1 : Heap) (locs1 : List Loc), HW D z0 ad (va_up V L (some (.inl (cy t0, n, .inr (.inr (.inr (.inr (va_up f j (some (ad L2)))))))))) H1 → va_S (AA z0) H0 H1 locs1 → W p l e R s m args below meth c H1 locs1 cells slots Q (F0 m (pc + 1) ls rest)) : W p l e R s m args below meth c H locs cells slots Q (F0 m pc ls (.ref (ad L2) :: .int i :: .ref (ad L) :: rest)) := by
  subst hi
  obtain ⟨ws, k, hP, hD, hk, hall, hnew⟩ := hW.wr2 hV
  obtain ⟨k2, hk2⟩ := hall L2 _ hV2
  refine va_astq hx hb hK.2 hP hD hS k t0 k2 ci hk ht hk2 hc (vp_in_nI hj hn) hdg (fun H1 locs1 hP1 hD1 hS1 => ?_)
  rw [nI_clamp (by omega)] at hP1 hD1
  exact kk H1 locs1 (hnew _ _ hP1 hD1) hS1
theorem w_copyi (hx : p.tables.exec = Jvm.exec) (hb : c.code = cc) (hml : c.maxLocals = ls.size) {own : String} {index : Nat} (hown : s.vm.findClass own = some m.cls) (hlink : Cond.methodLink own index arraycopyName ∈ lt) (hnat : Cond.native arraycopyName ∈ lt) (hstat : Cond.static arraycopyName ∈ lt) (hini : Cond.initialized "java/lang/System" ∈ lt)
    (hK : KB D cy s) (hW : HW D z0 ad V H) (hS : va_S (AA z0) H0 H locs) {L2 n0 n1 : Nat} {f g : Nat → Int32} (hV0 : V L2 = some (.inl (cy 0, n0, .inl f))) (hV1 : V L = some (.inl (cy 0, n1, .inl g)))
    {sp dp n : Int32} {a b k : Nat} (ha : sp = nI a) (hb2 : dp = nI b) (hk : n = nI k) (h4 : a + k ≤ n0) (h5 : b + k ≤ n1) (h6 : n0 < 2 ^ 31) (h7 : n1 < 2 ^ 31)
    (hframes : 1 ≤ R.frames) (hlocals : (rest.map fun v => v.category).sum + (nativeFrameWords "java/lang/System" "arraycopy" 5 + 11) ≤ R.locals) (hdg : decode cc pc = .ok (.invokestatic index, 3))
    (kk : ∀ (H1 : Heap) (locs1 : List Loc), HW D z0 ad (va_up V L (some (.inl (cy 0, n1, .inl (va_cpy f g a b k))))) H1 → va_S (AA z0) H0 H1 locs1 → W p l e R s m args below meth c H1 locs1 cells slots Q (F0 m (pc + 3) ls rest)) : W p l e R s m args below meth c H locs cells slots Q (F0 m pc ls (.int n :: .int dp :: .ref (ad L) :: .int sp :: .ref (ad L2) :: rest)) := by
  subst ha; subst hb2; subst hk
  obtain ⟨ws, k1, hP, hD, hk1, hall, hnew⟩ := hW.wr2 hV1
  obtain ⟨k0, hk0⟩ := hall L2 _ hV0
  have ht := hK.1.use args
  refine va_copyi hx hb hml hown (ht _ hlink) (ht _ hnat) (ht _ hstat) (ht _ hini) hK.2 hP hD hS k0 k1 0 0 hk0 hk1 rfl rfl rfl (nI_pos (by omega)) (nI_pos (by omega)) (nI_pos (by omega)) (by rw [nI_clamp (by omega), nI_clamp (by omega)]; exact h4) (by rw [nI_clamp (by omega), nI_clamp (by omega)]; exact h5) (fun _ _ => rfl) hframes hlocals hdg (fun H1 locs1 hP1 hD1 hS1 => ?_)
  rw [nI_clamp (by omega), nI_clamp (by omega), nI_clamp (by omega)] at hP1 hD1
  exact kk H1 locs1 (hnew _ _ hP1 hD1) hS1
theorem w_copyl (hx : p.tables.exec = Jvm.exec) (hb : c.code = cc) (hml : c.maxLocals = ls.size) {own : String} {index : Nat} (hown : s.vm.findClass own = some m.cls) (hlink : Cond.methodLink own index arraycopyName ∈ lt) (hnat : Cond.native arraycopyName ∈ lt) (hstat : Cond.static arraycopyName ∈ lt) (hini : Cond.initialized "java/lang/System" ∈ lt)
    (hK : KB D cy s) (hW : HW D z0 ad V H) (hS : va_S (AA z0) H0 H locs) {L2 n0 n1 : Nat} {f g : Nat → Int64} (hV0 : V L2 = some (.inl (cy 1, n0, .inr (.inl f)))) (hV1 : V L = some (.inl (cy 1, n1, .inr (.inl g))))
    {sp dp n : Int32} {a b k : Nat} (ha : sp = nI a) (hb2 : dp = nI b) (hk : n = nI k) (h4 : a + k ≤ n0) (h5 : b + k ≤ n1) (h6 : n0 < 2 ^ 31) (h7 : n1 < 2 ^ 31)
    (hframes : 1 ≤ R.frames) (hlocals : (rest.map fun v => v.category).sum + (nativeFrameWords "java/lang/System" "arraycopy" 5 + 11) ≤ R.locals) (hdg : decode cc pc = .ok (.invokestatic index, 3))
    (kk : ∀ (H1 : Heap) (locs1 : List Loc), HW D z0 ad (va_up V L (some (.inl (cy 1, n1, .inr (.inl (va_cpy f g a b k)))))) H1 → va_S (AA z0) H0 H1 locs1 → W p l e R s m args below meth c H1 locs1 cells slots Q (F0 m (pc + 3) ls rest)) : W p l e R s m args below meth c H locs cells slots Q (F0 m pc ls (.int n :: .int dp :: .ref (ad L) :: .int sp :: .ref (ad L2) :: rest)) := by
  subst ha; subst hb2; subst hk
  obtain ⟨ws, k1, hP, hD, hk1, hall, hnew⟩ := hW.wr2 hV1
  obtain ⟨k0, hk0⟩ := hall L2 _ hV0
  have ht := hK.1.use args
  refine va_copyl hx hb hml hown (ht _ hlink) (ht _ hnat) (ht _ hstat) (ht _ hini) hK.2 hP hD hS k0 k1 1 1 hk0 hk1 rfl rfl rfl (nI_pos (by omega)) (nI_pos (by omega)) (nI_pos (by omega)) (by rw [nI_clamp (by omega), nI_clamp (by omega)]; exact h4) (by rw [nI_clamp (by omega), nI_clamp (by omega)]; exact h5) (fun _ _ => rfl) hframes hlocals hdg (fun H1 locs1 hP1 hD1 hS1 => ?_)
  rw [nI_clamp (by omega), nI_clamp (by omega), nI_clamp (by omega)] at hP1 hD1
  exact kk H1 locs1 (hnew _ _ hP1 hD1) hS1
/-- a new array of numbers, given the label M -/
theorem w_newa (hx : p.tables.exec = Jvm.exec) (hb : c.code = cc) (hK : KB D cy s) (hW : HW D z0 ad V H) (hS : va_S (AA z0) H0 H locs) (hz : z0 ≤ H0.size) (t0 : Nat) {atype : ArrayType} {ty : FieldType} (hty : newarray.typeOf atype = ty) (harr : Cond.arrayClass (newarray.typeOf atype) ∈ lt) (ht : (tyL cy)[t0]? = some (cy t0, ty)) (hra : ∀ a b : ClassId, va_RA s a ty → va_RA s b ty → a = b) (M : Nat) (hM : V M = none)
    {n : Int32} {N' : Nat} {a0 : vp_A} (ha : ∀ cA : ClassId, vp_cell cA a0 = arrV cA N' (fun _ => defaultValue ty)) (hn : ¬ n < 0) (hN : n.toNatClampNeg = N') (hbytes : N' * componentBytes ty ≤ 536870912) (hcells : cells + 1 ≤ R.cells) (hslots : slots + N' ≤ R.slots) (hdg : decode cc pc = .ok (.newarray atype, 2))
    (kk : ∀ (q : Nat) (H1 : Heap), HW D z0 (va_up ad M q) (va_up V M (some (.inl (cy t0, a0)))) H1 → va_S (AA z0) H0 H1 locs → W p l e R s m args below meth c H1 locs (cells + 1) (slots + N') Q (F0 m (pc + 2) ls (.ref q :: rest))) : W p l e R s m args below meth c H locs cells slots Q (F0 m pc ls (.int n :: rest)) := by
  obtain ⟨ws, hP, hD, hnew⟩ := hW.nw
  refine va_newa hx hb (hK.1.use args _ harr) hty hK.2 hP hD hS (fun q h => Nat.le_trans hz h) ha hn hN hbytes hcells hslots hdg (fun q cA H1 hK1 hP1 hD1 hS1 => ?_)
  have e1 : va_RA s cA ty := (hK1.2 8 (cA, ty) rfl).2
  have e2 : va_RA s (cy t0) ty := (hK.2.2 t0 _ ht).2
  have e3 : cA = cy t0 := hra _ _ e1 e2
  subst e3
  exact kk q H1 (hnew M q _ H1 hM hP1 hD1) hS1
/-- a new array of objects -/
theorem w_newq (hx : p.tables.exec = Jvm.exec) (hb : c.code = cc) {own C : String} {index : Nat} (hown : s.vm.findClass own = some m.cls) (hclink : Cond.classLink own index C ∈ lt) (hover : Cond.arrayOver (.object C) ∈ lt) (hK : KB D cy s) (hW : HW D z0 ad V H) (hS : va_S (AA z0) H0 H locs) (hz : z0 ≤ H0.size) (t0 : Nat) (ht : (tyL cy)[t0]? = some (cy t0, .object C)) (M : Nat) (hM : V M = none)
    {n : Int32} {N' : Nat} (hn : ¬ n < 0) (hN : n.toNatClampNeg = N') (hbytes : N' * 4 ≤ 536870912) (hcells : cells + 1 ≤ R.cells) (hslots : slots + N' ≤ R.slots) (hdg : decode cc pc = .ok (.anewarray index, 3))
    (kk : ∀ (q : Nat) (H1 : Heap), HW D z0 (va_up ad M q) (va_up V M (some (.inl (cy t0, N', .inr (.inr (.inr (.inr (fun _ => none)))))))) H1 → va_S (AA z0) H0 H1 locs → W p l e R s m args below meth c H1 locs (cells + 1) (slots + N') Q (F0 m (pc + 3) ls (.ref q :: rest))) : W p l e R s m args below meth c H locs cells slots Q (F0 m pc ls (.int n :: rest)) := by
  obtain ⟨ws, hP, hD, hnew⟩ := hW.nw
  refine va_newq hx hb hown (hK.1.use args _ hclink) (hK.1 _ hover) hK.2 hP hD hS (fun q h => Nat.le_trans hz h) hn hN hbytes hcells hslots hdg (fun q cA H1 hK1 hP1 hD1 hS1 => ?_)
  obtain ⟨_, _, _, _, _, e1⟩ := (hK1.2 8 (cA, .object C) rfl).2
  obtain ⟨_, _, _, _, _, e2⟩ := (hK.2.2 t0 _ ht).2
  have e3 : cA = cy t0 := Option.some.inj (e1.symm.trans e2)
  subst e3
  exact kk q H1 (hnew M q _ H1 hM hP1 hD1) hS1
/-! calls: what comes back -/
theorem ci {post : Int32 → Wd → Prop} {a : Array Value} {mc ms : Nat} {st0 : List Value} (hr : va_Run p l e R s m args below meth c H locs cells slots mc ms (F0 m pc ls st0) rest (va_Qi post (WB D z0) (AA z0) a) (AA z0)) (hS : va_S (AA z0) H0 H locs)
    (kk : ∀ (r : Int32) (ad' : Nat → Nat) (V' : Nat → Option va_E) (H1 : Heap) (locs1 : List Loc), post r (ad', V') → HW D z0 ad' V' H1 → va_S (AA z0) H0 H1 locs1 → W p l e R s m args below meth c H1 locs1 (cells + mc) (slots + ms) Q (F0 m (pc + 3) ls (.int r :: rest))) : W p l e R s m args below meth c H locs cells slots Q (F0 m pc ls st0) :=
  va_calli hr hS (fun _ _ h => h) (fun _ h => h) (fun r u t H1 locs1 ht _ hp hB _ _ hS1 => kk r u.1 u.2 H1 locs1 hp (by subst ht; exact hB) hS1)
theorem cl {post : Int64 → Wd → Prop} {a : Array Value} {mc ms : Nat} {st0 : List Value} (hr : va_Run p l e R s m args below meth c H locs cells slots mc ms (F0 m pc ls st0) rest (va_Ql post (WB D z0) (AA z0) a) (AA z0)) (hS : va_S (AA z0) H0 H locs)
    (kk : ∀ (r : Int64) (ad' : Nat → Nat) (V' : Nat → Option va_E) (H1 : Heap) (locs1 : List Loc), post r (ad', V') → HW D z0 ad' V' H1 → va_S (AA z0) H0 H1 locs1 → W p l e R s m args below meth c H1 locs1 (cells + mc) (slots + ms) Q (F0 m (pc + 3) ls (.long r :: rest))) : W p l e R s m args below meth c H locs cells slots Q (F0 m pc ls st0) :=
  va_calll hr hS (fun _ _ h => h) (fun _ h => h) (fun r u t H1 locs1 ht _ hp hB _ _ hS1 => kk r u.1 u.2 H1 locs1 hp (by subst ht; exact hB) hS1)
theorem cv {post : Wd → Prop} {a : Array Value} {mc ms : Nat} {st0 : List Value} (hr : va_Run p l e R s m args below meth c H locs cells slots mc ms (F0 m pc ls st0) rest (va_Qv post (WB D z0) (AA z0) a) (AA z0)) (hS : va_S (AA z0) H0 H locs)
    (kk : ∀ (ad' : Nat → Nat) (V' : Nat → Option va_E) (H1 : Heap) (locs1 : List Loc), post (ad', V') → HW D z0 ad' V' H1 → va_S (AA z0) H0 H1 locs1 → W p l e R s m args below meth c H1 locs1 (cells + mc) (slots + ms) Q (F0 m (pc + 3) ls rest)) : W p l e R s m args below meth c H locs cells slots Q (F0 m pc ls st0) :=
  va_callv hr hS (fun _ _ h => h) (fun _ h => h) (fun u t H1 locs1 ht _ hp hB _ _ hS1 => kk u.1 u.2 H1 locs1 hp (by subst ht; exact hB) hS1)
end RW
