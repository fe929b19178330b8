/-! The tables' words as a property of a state that calls keep; the world: cells by labels; rows of the kit over it. -/
def tb_k (w : Cond) : Bool := (w.onTables && w.keeps) || (match w with
  | .arrayClass _ => true
  | .fieldLinkNest _ _ _ _ _ _ => true
  | .methodLinkNest _ _ _ _ => true
  | .arrayOver (.object _) => true
  | .arrayOver (.array _) => true
  | _ => false)
/-- the words that calls keep -/
def lt : List Cond := lw_tbl.filter tb_k
theorem lt_in {w : Cond} (h : w ∈ lw_tbl) (hk : tb_k w = true) : w ∈ lt := List.mem_filter.mpr ⟨h, hk⟩
theorem tb_all : ∀ w ∈ lt, tb_k w = true := fun _ h => (List.mem_filter.mp h).2
def TB (U : State) : Prop := ∀ w ∈ lt, w.before #[] U = true
theorem tb_aoA {t : FieldType} {u U : State} (hvm : u.vm.Alike U.vm) (h : (Cond.arrayOver (.array t)).before #[] u = true) : (Cond.arrayOver (.array t)).before #[] U = true := by
  obtain ⟨comp, c, k, h1, h2, h3, h4, h5⟩ := arrayOverA_spec h
  obtain ⟨k', hk', he⟩ := hvm.2.2 _ _ h3
  have b1 := va_idx_bare U.vm comp
  have b2 := va_idx_bare u.vm comp
  have hb : u.vm.bare = U.vm.bare := by first | exact hvm.bare_eq | exact hvm.bare_eq.symm
  rw [hb] at b2
  have hi := b1.symm.trans (b2.trans h2)
  have hkind : k'.kind = .array comp (.array t) := by rw [he]; exact h4
  have f1 : U.vm.findClass (FieldType.array t).toString = some comp := by rw [hvm.findClass]; exact h1
  have f2 : U.vm.findClass ("[" ++ (FieldType.array t).toString) = some c := by rw [hvm.findClass]; exact h5
  unfold Cond.before Cond.holds
  simp only [Cond.value]
  rw [f1, Option.bind_some]
  refine (congrArg (fun o : Option Nat => (o.bind (fun c => (U.vm.classes[c]?).map fun (k : Class) => match k.kind with | .array _ ty => decide (ty = FieldType.array t) && decide (U.vm.findClass ("[" ++ (FieldType.array t).toString) = some c) | _ => false) == some true)) hi).trans ?_
  simp [hk', hkind, f2]
theorem TB.warm {s U : State} (hW : s.WarmedH U.vm) (h : TB s) : TB U := by
  intro w hw
  have hk := tb_all w hw
  have h0 := h w hw
  unfold tb_k at hk
  rcases (Bool.or_eq_true _ _).mp hk with h1 | h1
  · exact word_at hW (Or.inl h1) h0
  · split at h1
    · exact word_at hW (Or.inr ⟨_, rfl⟩) h0
    · exact va_Nw.warmF hW h0
    · exact va_Nw.warmM hW h0
    · exact va_AO.moved hW.alike h0
    · exact tb_aoA hW.alike h0
    · cases h1
theorem TB.use {s : State} (h : TB s) (args : Array Value) : ∀ w ∈ lt, w.before args s = true := by
  intro w hw
  have hk := tb_all w hw
  have h0 := h w hw
  unfold tb_k at hk
  rcases (Bool.or_eq_true _ _).mp hk with h1 | h1
  · exact word_at (State.WarmedH.refl s) (Or.inl h1) h0
  · split at h1
    · exact word_at (State.WarmedH.refl s) (Or.inr ⟨_, rfl⟩) h0
    · exact va_Nw.use rfl h0
    · exact va_Nw.use rfl h0
    · exact h0
    · exact h0
    · cases h1
theorem TB.of {s : State} {args : Array Value} (h : ∀ w ∈ lt, w.before args s = true) : TB s := by
  intro w hw
  have hk := tb_all w hw
  have h0 := h w hw
  unfold tb_k at hk
  rcases (Bool.or_eq_true _ _).mp hk with h1 | h1
  · exact word_at (State.WarmedH.refl s) (Or.inl h1) h0
  · split at h1
    · exact word_at (State.WarmedH.refl s) (Or.inr ⟨_, rfl⟩) h0
    · exact va_Nw.of rfl h0
    · exact va_Nw.of rfl h0
    · exact h0
    · exact h0
    · cases h1
def tyL (cy : Nat → ClassId) : List (ClassId × FieldType) := [(cy 0, .int), (cy 1, .long), (cy 2, .boolean), (cy 3, .array .int), (cy 4, .array .long), (cy 5, .object RX1), (cy 6, .object RX2), (cy 7, .object RX4)]
def KB (D : va_G) (cy : Nat → ClassId) (U : State) : Prop := TB U ∧ va_K D vwCl (tyL cy) U
theorem KB.warm {D : va_G} {cy : Nat → ClassId} {s U : State} (hW : s.WarmedH U.vm) (h : KB D cy s) : KB D cy U := ⟨h.1.warm hW, va_K.moved hW.alike h.2⟩
theorem KB.blind {D : va_G} {cy : Nat → ClassId} {U : State} {g : JFrame} {mk : MethodId} {a : Array Value} (h : KB D cy U) : KB D cy (U.calling g mk a) := KB.warm (s := U) (U := U.calling g mk a) (State.WarmedH.refl U) h
/-! the world -/
abbrev AA (z0 : Nat) : Nat → Prop := fun q => z0 ≤ q
def HW (D : va_G) (z0 : Nat) (ad : Nat → Nat) (V : Nat → Option va_E) (H : Heap) : Prop :=
  ∃ ws : va_W, va_P D vwCl ws H ∧ va_D (AA z0) ws ∧ (∀ L e, V L = some e → (ad L, e) ∈ ws) ∧ ∀ L L' e e', V L = some e → V L' = some e' → ad L = ad L' → L = L'
theorem HW.rd {D : va_G} {z0 : Nat} {ad : Nat → Nat} {V : Nat → Option va_E} {H : Heap} (h : HW D z0 ad V H) {L : Nat} {e : va_E} (hV : V L = some e) : va_P D vwCl [(ad L, e)] H := by
  obtain ⟨ws, hP, -, hm, -⟩ := h
  intro k q hk
  have h1 : k < 1 := (List.getElem?_eq_some_iff.mp hk).1
  rw [show k = 0 by omega] at hk
  cases hk
  obtain ⟨i, hi⟩ := List.getElem?_of_mem (hm L e hV)
  exact hP i _ hi
theorem HW.wr {D : va_G} {z0 : Nat} {ad : Nat → Nat} {V : Nat → Option va_E} {H : Heap} (h : HW D z0 ad V H) {L : Nat} {e0 : va_E} (hV : V L = some e0) :
    ∃ (ws : va_W) (k : Nat), va_P D vwCl ws H ∧ va_D (AA z0) ws ∧ ws[k]? = some (ad L, e0) ∧ ∀ (e1 : va_E) (H1 : Heap), va_P D vwCl (ws.set k (ad L, e1)) H1 → va_D (AA z0) (ws.set k (ad L, e1)) → HW D z0 ad (va_up V L (some e1)) H1 := by
  obtain ⟨ws, hP, hD, hm, hi⟩ := h
  obtain ⟨k, hk⟩ := List.getElem?_of_mem (hm L e0 hV)
  have hl := (List.getElem?_eq_some_iff.mp hk).1
  refine ⟨ws, k, hP, hD, hk, fun e1 H1 hP1 hD1 => ⟨_, hP1, hD1, fun L' e' hL' => ?_, fun L1 L2 x1 x2 h1 h2 ha => ?_⟩⟩
  · by_cases hq : L' = L
    · subst hq
      rw [va_up_self] at hL'
      cases hL'
      exact List.mem_of_getElem? (i := k) (List.getElem?_set_self hl)
    · rw [va_up_ne _ _ hq] at hL'
      obtain ⟨k', hk'⟩ := List.getElem?_of_mem (hm L' e' hL')
      have hne : k ≠ k' := fun q => by
        subst q
        rw [hk] at hk'
        have h5 : ad L = ad L' := congrArg (fun x : Option (Nat × va_E) => (x.map Prod.fst).getD 0) hk'
        exact hq (hi L L' e0 e' hV hL' h5).symm
      exact List.mem_of_getElem? (i := k') (by rw [List.getElem?_set_ne hne]; exact hk')
  · have live : ∀ M x, va_up V L (some e1) M = some x → ∃ y, V M = some y := fun M x hM => by
      by_cases hq : M = L
      · subst hq; exact ⟨e0, hV⟩
      · rw [va_up_ne _ _ hq] at hM; exact ⟨x, hM⟩
    obtain ⟨y1, g1⟩ := live L1 x1 h1
    obtain ⟨y2, g2⟩ := live L2 x2 h2
    exact hi L1 L2 y1 y2 g1 g2 ha
theorem HW.nw {D : va_G} {z0 : Nat} {ad : Nat → Nat} {V : Nat → Option va_E} {H : Heap} (h : HW D z0 ad V H) :
    ∃ ws : va_W, va_P D vwCl ws H ∧ va_D (AA z0) ws ∧ ∀ (L : Nat) (q : Nat) (e1 : va_E) (H1 : Heap), V L = none → va_P D vwCl (ws ++ [(q, e1)]) H1 → va_D (AA z0) (ws ++ [(q, e1)]) → HW D z0 (va_up ad L q) (va_up V L (some e1)) H1 := by
  obtain ⟨ws, hP, hD, hm, hi⟩ := h
  refine ⟨ws, hP, hD, fun L q e1 H1 hn hP1 hD1 => ⟨_, hP1, hD1, fun L' e' hL' => ?_, fun L1 L2 x1 x2 h1 h2 ha => ?_⟩⟩
  · by_cases hq : L' = L
    · subst hq
      rw [va_up_self] at hL'
      cases hL'
      rw [va_up_self]
      exact List.mem_append_right _ List.mem_cons_self
    · rw [va_up_ne _ _ hq] at hL'
      rw [va_up_ne _ _ hq]
      exact List.mem_append_left _ (hm L' e' hL')
  · have far : ∀ M x, V M = some x → ad M ≠ q := fun M x hM ha => by
      obtain ⟨k, hk⟩ := List.getElem?_of_mem (hm M x hM)
      have hl := (List.getElem?_eq_some_iff.mp hk).1
      have := hD1.1 k ws.length (ad M, x) (q, e1) (by rw [List.getElem?_append_left hl]; exact hk) (by rw [List.getElem?_append_right (Nat.le_refl _), Nat.sub_self]; rfl) ha
      omega
    by_cases q1 : L1 = L <;> by_cases q2 : L2 = L
    · rw [q1, q2]
    · subst q1
      rw [va_up_ne _ _ q2] at h2 ha
      rw [va_up_self] at ha
      exact absurd ha.symm (far L2 x2 h2)
    · subst q2
      rw [va_up_ne _ _ q1] at h1 ha
      rw [va_up_self] at ha
      exact absurd ha (far L1 x1 h1)
    · rw [va_up_ne _ _ q1] at h1 ha
      rw [va_up_ne _ _ q2] at h2 ha
      exact hi L1 L2 x1 x2 h1 h2 ha
/-- fewer cells, other words for the same -/
theorem HW.to {D : va_G} {z0 : Nat} {ad ad' : Nat → Nat} {V V' : Nat → Option va_E} {H : Heap} (h : HW D z0 ad V H) (hs : ∀ L e, V' L = some e → V L = some e ∧ ad' L = ad L) : HW D z0 ad' V' H := by
  obtain ⟨ws, hP, hD, hm, hi⟩ := h
  refine ⟨ws, hP, hD, fun L e hL => ?_, fun L1 L2 x1 x2 h1 h2 ha => ?_⟩
  · rw [(hs L e hL).2]; exact hm L e (hs L e hL).1
  · rw [(hs L1 x1 h1).2, (hs L2 x2 h2).2] at ha
    exact hi L1 L2 x1 x2 (hs L1 x1 h1).1 (hs L2 x2 h2).1 ha
abbrev Wd : Type := (Nat → Nat) × (Nat → Option va_E)
def WP (As : List Value) (D : va_G) (cy : Nat → ClassId) (z0 : Nat) (ad : Nat → Nat) (V : Nat → Option va_E) : Array Value → State → Prop := fun v U => v = As.toArray ∧ KB D cy U ∧ z0 ≤ U.heap.size ∧ HW D z0 ad V U.heap
def WB (D : va_G) (z0 : Nat) : Wd → State → Prop := fun u t => HW D z0 u.1 u.2 t.heap
theorem WP.blind {As : List Value} {D : va_G} {cy : Nat → ClassId} {z0 : Nat} {ad : Nat → Nat} {V : Nat → Option va_E} : FrameBlind (WP As D cy z0 ad V) := fun _ _ _ _ h => ⟨h.1, h.2.1.blind, h.2.2⟩
theorem preS {As : List Value} {D : va_G} {cy : Nat → ClassId} {z0 : Nat} {ad : Nat → Nat} {V : Nat → Option va_E} {s : State} {H : Heap} (hK : KB D cy s) (hz : z0 ≤ H.size) (hW : HW D z0 ad V H) : PreS s H (WP As D cy z0 ad V) As :=
  ⟨WP.blind, fun _ hU hw => ⟨rfl, hK.warm hw, by rw [hU]; exact hz, by rw [hU]; exact hW⟩⟩
theorem preV {As : List Value} {D : va_G} {cy : Nat → ClassId} {z0 : Nat} {ad : Nat → Nat} {V : Nat → Option va_E} {s : State} {H : Heap} {C : String} {T : u_T} {N ci L : Nat} {fs : List Value} (hK : KB D cy s) (hz : z0 ≤ H.size) (hW : HW D z0 ad V H) (hV : V L = some (.inr (ci, fs))) (hc : vwCl[ci]? = some (C, T, N)) : PreV s H C (ad L) (WP (.ref (ad L) :: As) D cy z0 ad V) As :=
  ⟨WP.blind, va_recv hK.2 (hW.rd hV) (ci := ci) (q0 := 0) hc rfl, fun _ hU hw => ⟨rfl, hK.warm hw, by rw [hU]; exact hz, by rw [hU]; exact hW⟩⟩
