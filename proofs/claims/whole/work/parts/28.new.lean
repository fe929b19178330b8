theorem tw_oc : Cond.code objectInit ⟨#[0xb1]⟩ 1 none ∈ lt := lt_in (List.mem_append_right _ (List.mem_of_getElem? (i := 18) (by decide +kernel))) (by decide +kernel)
section NA
variable {p : Program} {l : Launch} {e : Env} {R : Room} {s : State} {m : MethodId} {args : Array Value} {below : List Frame} {meth : Method} {c : Code} {H : Heap} {locs : List Loc} {cells slots : Nat} {Q : State → Prop}
variable {cc : ByteArray} {pc : Nat} {ls : Array Slot} {rest : List Value} {D : va_G} {cy : Nat → ClassId} {z0 : Nat} {ad : Nat → Nat} {V : Nat → Option va_E} {H0 : Heap}
theorem w_newI (hx : p.tables.exec = Jvm.exec) (hb : c.code = cc) (hK : KB D cy s) (hW : HW D z0 ad V H) (hS : va_S (AA z0) H0 H locs) (hz : z0 ≤ H0.size) {N : Nat} (M : Nat) (hM : V M = none) (hN : N < 65536) (hcells : cells + 1 ≤ R.cells) (hslots : slots + N ≤ R.slots) (hdg : decode cc pc = .ok (.newarray .int, 2))
    (kk : ∀ (q : Nat) (H1 : Heap), HW D z0 (va_up ad M q) (va_up V M (some (.inl (cy 0, N, (.inl (fun _ => 0)))))) H1 → va_S (AA z0) H0 H1 locs → W p l e R s m args below meth c H1 locs (cells + 1) (slots + N) Q (F0 m (pc + 2) ls (.ref q :: rest))) : W p l e R s m args below meth c H locs cells slots Q (F0 m pc ls (.int (nI N) :: rest)) :=
  w_newa (atype := .int) (ty := .int) hx hb hK hW hS hz 0 rfl tw_64 rfl (fun a b (h1 : s.vm.findClass _ = some a) (h2 : s.vm.findClass _ = some b) => Option.some.inj (h1.symm.trans h2)) M hM (a0 := (N, (.inl (fun _ => 0)))) (fun _ => rfl) (nI_pos (by omega)) (nI_clamp (by omega)) (by show N * 4 ≤ 536870912; omega) hcells hslots hdg kk
theorem w_newJ (hx : p.tables.exec = Jvm.exec) (hb : c.code = cc) (hK : KB D cy s) (hW : HW D z0 ad V H) (hS : va_S (AA z0) H0 H locs) (hz : z0 ≤ H0.size) {N : Nat} (M : Nat) (hM : V M = none) (hN : N < 65536) (hcells : cells + 1 ≤ R.cells) (hslots : slots + N ≤ R.slots) (hdg : decode cc pc = .ok (.newarray .long, 2))
    (kk : ∀ (q : Nat) (H1 : Heap), HW D z0 (va_up ad M q) (va_up V M (some (.inl (cy 1, N, (.inr (.inl (fun _ => 0))))))) H1 → va_S (AA z0) H0 H1 locs → W p l e R s m args below meth c H1 locs (cells + 1) (slots + N) Q (F0 m (pc + 2) ls (.ref q :: rest))) : W p l e R s m args below meth c H locs cells slots Q (F0 m pc ls (.int (nI N) :: rest)) :=
  w_newa (atype := .long) (ty := .long) hx hb hK hW hS hz 1 rfl tw_98 rfl (fun a b (h1 : s.vm.findClass _ = some a) (h2 : s.vm.findClass _ = some b) => Option.some.inj (h1.symm.trans h2)) M hM (a0 := (N, (.inr (.inl (fun _ => 0))))) (fun _ => rfl) (nI_pos (by omega)) (nI_clamp (by omega)) (by show N * 8 ≤ 536870912; omega) hcells hslots hdg kk
theorem w_newZ (hx : p.tables.exec = Jvm.exec) (hb : c.code = cc) (hK : KB D cy s) (hW : HW D z0 ad V H) (hS : va_S (AA z0) H0 H locs) (hz : z0 ≤ H0.size) {N : Nat} (M : Nat) (hM : V M = none) (hN : N < 65536) (hcells : cells + 1 ≤ R.cells) (hslots : slots + N ≤ R.slots) (hdg : decode cc pc = .ok (.newarray .boolean, 2))
    (kk : ∀ (q : Nat) (H1 : Heap), HW D z0 (va_up ad M q) (va_up V M (some (.inl (cy 2, N, (.inl (fun _ => 0)))))) H1 → va_S (AA z0) H0 H1 locs → W p l e R s m args below meth c H1 locs (cells + 1) (slots + N) Q (F0 m (pc + 2) ls (.ref q :: rest))) : W p l e R s m args below meth c H locs cells slots Q (F0 m pc ls (.int (nI N) :: rest)) :=
  w_newa (atype := .boolean) (ty := .boolean) hx hb hK hW hS hz 2 rfl tw_99 rfl (fun a b (h1 : s.vm.findClass _ = some a) (h2 : s.vm.findClass _ = some b) => Option.some.inj (h1.symm.trans h2)) M hM (a0 := (N, (.inl (fun _ => 0)))) (fun _ => rfl) (nI_pos (by omega)) (nI_clamp (by omega)) (by show N * 1 ≤ 536870912; omega) hcells hslots hdg kk
end NA
section M2
variable {ad ad2 : Nat → Nat} {V X : Nat → Option va_E} {cy : Nat → ClassId}
theorem isT.mv2 {B n : Nat} {M : Nat → Nat → Int32} (h : isT ad V cy B n M) (hs : ∀ L, B ≤ L → L < B + 6 → X L = V L ∧ ad2 L = ad L) : isT ad2 X cy B n M := by
  obtain ⟨h0, h1, h2⟩ := h
  refine ⟨?_, ?_, fun m hm => (hs _ (by omega) (by omega)).1.trans (h2 m hm)⟩
  · rw [(hs (B + 1) (by omega) (by omega)).2, (hs B (by omega) (by omega)).1]; exact h0
  · rw [← exF (g := fun i => B + 2 + i) (fun i hi => (hs _ (by omega) (by omega)).2), (hs (B + 1) (by omega) (by omega)).1]; exact h1
theorem isH.mv2 {PB : Nat} {ho hm hv : Nat → Int32} {hk : Nat → Nat → Int64} {nx kn : Nat} (h : isH ad V cy PB ho hm hv hk nx kn) (hs : ∀ L, PB + 15 ≤ L → L < PB + 80 → X L = V L ∧ ad2 L = ad L) : isH ad2 X cy PB ho hm hv hk nx kn := by
  obtain ⟨a0, a1, a2, a3, a4, a5⟩ := h
  refine ⟨?_, (hs _ (by omega) (by omega)).1.trans a1, (hs _ (by omega) (by omega)).1.trans a2, (hs _ (by omega) (by omega)).1.trans a3, ?_, fun i hi => (hs _ (by omega) (by omega)).1.trans (a5 i hi)⟩
  · rw [(hs (PB + 16) (by omega) (by omega)).2, (hs (PB + 17) (by omega) (by omega)).2, (hs (PB + 18) (by omega) (by omega)).2, (hs (PB + 19) (by omega) (by omega)).2, (hs (PB + 15) (by omega) (by omega)).1]; exact a0
  · rw [← exF (g := fun i => PB + 20 + i) (fun i hi => (hs _ (by omega) (by omega)).2), (hs (PB + 19) (by omega) (by omega)).1]; exact a4
end M2
