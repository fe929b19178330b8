/-! new T[n][m] over the world: the outer array at the label LO, the rows from LR on -/
section MN
variable {p : Program} {l : Launch} {e : Env} {R : Room} {s : State} {m : MethodId} {args : Array Value} {below : List Frame} {meth : Method} {c : Code} {H : Heap} {locs : List Loc} {cells slots : Nat} {Q : State → Prop}
variable {cc : ByteArray} {pc : Nat} {ls : Array Slot} {rest : List Value} {D : va_G} {cy : Nat → ClassId} {z0 : Nat} {ad : Nat → Nat} {V : Nat → Option va_E} {H0 : Heap}
def adM (ad : Nat → Nat) (LO LR N q : Nat) (r : Nat → Nat) : Nat → Nat := fun L => if L = LO then q else if LR ≤ L ∧ L < LR + N then r (L - LR) else ad L
def VM (V : Nat → Option va_E) (LO LR N : Nat) (eo ei : va_E) : Nat → Option va_E := fun L => if L = LO then some eo else if LR ≤ L ∧ L < LR + N then some ei else V L
theorem w_mna (hx : p.tables.exec = Jvm.exec) (hb : c.code = cc) {own : String} {index : Nat} {ty : FieldType} (hown : s.vm.findClass own = some m.cls) (hclink : Cond.classLink own index ("[" ++ (FieldType.array ty).toString) ∈ lt) (hover : Cond.arrayOver (.array ty) ∈ lt) (harr : Cond.arrayClass ty ∈ lt) (t0 te : Nat) (ht : (tyL cy)[t0]? = some (cy t0, .array ty)) (hte : (tyL cy)[te]? = some (cy te, ty)) (hra : va_RA s (cy te) ty → s.vm.findClass (FieldType.array ty).toString = some (cy te))
    (hK : KB D cy s) (hW : HW D z0 ad V H) (hS : va_S (AA z0) H0 H locs) (hz : z0 ≤ H0.size) {n k : Int32} {N' K' : Nat} {z : vp_A} (hn : ¬ n < 0) (hk : ¬ k < 0) (hN : n.toNatClampNeg = N') (hM : k.toNatClampNeg = K')
    (hb1 : N' * 4 ≤ 536870912) (hb2 : K' * componentBytes ty ≤ 536870912) (hb3 : K' ≤ 536870912) (hdf : fits ty (defaultValue ty) = true) (hdd : (defaultValue ty).isDefault = true) (hcells : cells + (1 + N') ≤ R.cells) (hslots : slots + (N' + N' * K') ≤ R.slots) (hzz : ∀ c : ClassId, Jvm.Free.Multi.innerC c K' (defaultValue ty) = vp_cell c z) (hdg : decode cc pc = .ok (.multianewarray index 2, 4))
    (LO LR : Nat) (hlo : LO < LR) (hfo : V LO = none) (hfr : ∀ i, i < N' → V (LR + i) = none)
    (kk : ∀ (ad2 : Nat → Nat) (X : Nat → Option va_E) (H1 : Heap), X LO = some (.inl (cy t0, N', .inr (.inr (.inr (.inr (fun i => if i < N' then some (ad2 (LR + i)) else none)))))) → (∀ i, i < N' → X (LR + i) = some (.inl (cy te, z))) → (∀ L, ¬ L = LO → (L < LR ∨ LR + N' ≤ L) → X L = V L ∧ ad2 L = ad L) → HW D z0 ad2 X H1 → va_S (AA z0) H0 H1 locs →
      W p l e R s m args below meth c H1 locs (cells + 1 + N') (slots + N' + N' * K') Q (F0 m (pc + 4) ls (.ref (ad2 LO) :: rest))) : W p l e R s m args below meth c H locs cells slots Q (F0 m pc ls (.int k :: .int n :: rest)) := by
  obtain ⟨ws, hP, hD, hm, hi⟩ := hW
  have e0 : ws ++ va_pl [] (fun _ => (.inl (cy te, z) : va_E)) = ws := by simp [va_pl]
  refine va_mna (X := ws) (L := []) (f := fun _ => (.inl (cy te, z) : va_E)) (cy := cy te) (ty := ty) hx hb hown (hK.1.use args _ hclink) (hK.1 _ hover) (hK.1.use args _ harr) (hra (hK.2.2 te _ hte).2) hK.2 (by rw [e0]; exact hP) (by rw [e0]; exact hD) hS (fun q h => Nat.le_trans hz h) hn hk hN hM hb1 hb2 hb3 hdf hdd hcells hslots hzz hdg (fun q r cA H1 hinj _ hK1 hP1 hD1 hS1 => ?_)
  have e3 : cA = cy t0 := by
    have h1 : va_RA s cA (.array ty) := (hK1.2 8 (cA, .array ty) rfl).2
    have h2 : va_RA s (cy t0) (.array ty) := (hK.2.2 t0 _ ht).2
    exact Option.some.inj (h1.symm.trans h2)
  subst e3
  have hrow : ∀ i, i < N' → (r i, (.inl (cy te, z) : va_E)) ∈ va_pl ([] ++ (List.range N').map r) (vr_up (fun _ => (.inl (cy te, z) : va_E)) ((List.range N').map r) (.inl (cy te, z))) := fun i hi => by
    refine List.mem_map.mpr ⟨r i, List.mem_append_right _ (List.mem_map.mpr ⟨i, List.mem_range.mpr hi, rfl⟩), ?_⟩
    rw [vr_up_in (List.mem_map.mpr ⟨i, List.mem_range.mpr hi, rfl⟩)]
  have hq : ∀ i, i < N' → r i ≠ q := fun i hi e => by
    obtain ⟨k2, hk2⟩ := List.getElem?_of_mem (hrow i hi)
    have h3 := hD1.1 ((ws ++ [(q, _)]).length + k2) ws.length (r i, _) (q, _) (by rw [List.getElem?_append_right (Nat.le_add_right _ _), Nat.add_sub_cancel_left]; exact hk2) (by rw [List.append_assoc, List.getElem?_append_right (Nat.le_refl _), Nat.sub_self]; rfl) e
    simp only [List.length_append, List.length_cons, List.length_nil] at h3
    omega
  have far : ∀ L e', V L = some e' → ad L ≠ q ∧ ∀ i, i < N' → ad L ≠ r i := fun L e' hL => by
    obtain ⟨k1, hk1⟩ := List.getElem?_of_mem (hm L e' hL)
    have hl1 := (List.getElem?_eq_some_iff.mp hk1).1
    refine ⟨fun ea => ?_, fun i hi ea => ?_⟩
    · have := hD1.1 k1 ws.length (ad L, e') (q, _) (by rw [List.append_assoc, List.getElem?_append_left hl1]; exact hk1) (by rw [List.append_assoc, List.getElem?_append_right (Nat.le_refl _), Nat.sub_self]; rfl) ea
      omega
    · obtain ⟨k2, hk2⟩ := List.getElem?_of_mem (hrow i hi)
      have := hD1.1 k1 ((ws ++ [(q, _)]).length + k2) (ad L, e') (r i, _) (by rw [List.append_assoc, List.getElem?_append_left hl1]; exact hk1) (by rw [List.getElem?_append_right (Nat.le_add_right _ _), Nat.add_sub_cancel_left]; exact hk2) ea
      rw [List.length_append] at this
      omega
  have a0 : adM ad LO LR N' q r LO = q := if_pos rfl
  have ar : ∀ i, i < N' → adM ad LO LR N' q r (LR + i) = r i := fun i hi => by
    unfold adM
    rw [if_neg (by omega), if_pos (by omega), Nat.add_sub_cancel_left]
  have ao : ∀ L, ¬ L = LO → (L < LR ∨ LR + N' ≤ L) → adM ad LO LR N' q r L = ad L := fun L h1 h2 => by
    unfold adM
    rw [if_neg h1, if_neg (by omega)]
  have hf : (fun i => if i < N' then some (adM ad LO LR N' q r (LR + i)) else none) = fun i => if i < N' then some (r i) else none := by
    funext i
    by_cases h : i < N'
    · rw [if_pos h, if_pos h, ar i h]
    · rw [if_neg h, if_neg h]
  have key := kk (adM ad LO LR N' q r) (VM V LO LR N' (.inl (cy t0, N', .inr (.inr (.inr (.inr (fun i => if i < N' then some (r i) else none)))))) (.inl (cy te, z))) H1 (by rw [hf]; exact if_pos rfl) (fun i hi => by unfold VM; rw [if_neg (by omega), if_pos (by omega)]) (fun L h1 h2 => ⟨by unfold VM; rw [if_neg h1, if_neg (by omega)], ao L h1 h2⟩) ?_ hS1
  · rw [a0] at key
    exact key
  · refine ⟨_, hP1, hD1, fun L e' hL => ?_, fun L1 L2 x1 x2 h1 h2 ha => ?_⟩
    · unfold VM at hL
      by_cases c1 : L = LO
      · rw [if_pos c1] at hL
        cases hL
        rw [c1, a0]
        exact List.mem_append_left _ (List.mem_append_right _ List.mem_cons_self)
      · rw [if_neg c1] at hL
        by_cases c2 : LR ≤ L ∧ L < LR + N'
        · rw [if_pos c2] at hL
          cases hL
          have := ar (L - LR) (by omega)
          rw [show LR + (L - LR) = L by omega] at this
          rw [this]
          exact List.mem_append_right _ (hrow _ (by omega))
        · rw [if_neg c2] at hL
          rw [ao L c1 (by omega)]
          exact List.mem_append_left _ (List.mem_append_left _ (hm L e' hL))
    · have kind : ∀ L x, VM V LO LR N' (.inl (cy t0, N', .inr (.inr (.inr (.inr (fun i => if i < N' then some (r i) else none)))))) (.inl (cy te, z)) L = some x → (L = LO ∧ adM ad LO LR N' q r L = q) ∨ (∃ i, i < N' ∧ L = LR + i ∧ adM ad LO LR N' q r L = r i) ∨ (V L = some x ∧ adM ad LO LR N' q r L = ad L) := fun L x hL => by
        unfold VM at hL
        by_cases c1 : L = LO
        · exact Or.inl ⟨c1, by rw [c1, a0]⟩
        · rw [if_neg c1] at hL
          by_cases c2 : LR ≤ L ∧ L < LR + N'
          · refine Or.inr (Or.inl ⟨L - LR, by omega, by omega, ?_⟩)
            have := ar (L - LR) (by omega)
            rw [show LR + (L - LR) = L by omega] at this
            exact this
          · rw [if_neg c2] at hL
            exact Or.inr (Or.inr ⟨hL, ao L c1 (by omega)⟩)
      rcases kind L1 x1 h1 with ⟨u1, v1⟩ | ⟨i, ui, u1, v1⟩ | ⟨u1, v1⟩ <;> rcases kind L2 x2 h2 with ⟨u2, v2⟩ | ⟨j, uj, u2, v2⟩ | ⟨u2, v2⟩ <;> rw [v1, v2] at ha
      · omega
      · exact absurd ha.symm (hq j uj)
      · exact absurd ha.symm (far L2 x2 u2).1
      · exact absurd ha (hq i ui)
      · have := hinj i j ui uj ha; omega
      · exact absurd ha.symm ((far L2 x2 u2).2 i ui)
      · exact absurd ha (far L1 x1 u1).1
      · exact absurd ha ((far L1 x1 u1).2 j uj)
      · exact hi L1 L2 x1 x2 u1 u2 ha
end MN
