/-! the whole object: plans, snapshots, rules; what its calls reckon -/
abbrev PlT : Type := (Nat → Nat → Int32) × (Nat → Int64) × (Nat → Bool) × Int32 × Int32 × Int32 × Bool × Nat × (Nat → Int32) × (Nat → Int32) × (Nat → Int32) × (Nat → Nat → Int64) × Nat × Nat
abbrev pM (π : PlT) : Nat → Nat → Int32 := π.1
abbrev pK (π : PlT) : Nat → Int64 := π.2.1
abbrev pF (π : PlT) : Nat → Bool := π.2.2.1
abbrev pCh (π : PlT) : Int32 := π.2.2.2.1
abbrev pCo (π : PlT) : Int32 := π.2.2.2.2.1
abbrev pFo (π : PlT) : Int32 := π.2.2.2.2.2.1
abbrev pBb (π : PlT) : Bool := π.2.2.2.2.2.2.1
abbrev pBn (π : PlT) : Nat := π.2.2.2.2.2.2.2.1
abbrev pHo (π : PlT) : Nat → Int32 := π.2.2.2.2.2.2.2.2.1
abbrev pHm (π : PlT) : Nat → Int32 := π.2.2.2.2.2.2.2.2.2.1
abbrev pHv (π : PlT) : Nat → Int32 := π.2.2.2.2.2.2.2.2.2.2.1
abbrev pHs (π : PlT) : Nat → Nat → Int64 := π.2.2.2.2.2.2.2.2.2.2.2.1
abbrev pNx (π : PlT) : Nat := π.2.2.2.2.2.2.2.2.2.2.2.2.1
abbrev pKn (π : PlT) : Nat := π.2.2.2.2.2.2.2.2.2.2.2.2.2
def isPL (ad : Nat → Nat) (V : Nat → Option va_E) (cy : Nat → ClassId) (PB n : Nat) (π : PlT) : Prop :=
  (∃ n2 M2, isC ad V cy PB n (pM π) n2 M2 (pK π) (pF π) (pCh π) (pCo π) (pFo π) (pBb π) (nI (pBn π)) ∧ n2 ≤ n ∧ Zt n2 M2) ∧ isH ad V cy PB (pHo π) (pHm π) (pHv π) (pHs π) (pNx π) (pKn π)
def okP (n : Nat) (π : PlT) : Prop := Zt n (pM π) ∧ pBn π ≤ 60 ∧ pNx π < 60 ∧ pKn π ≤ 60 ∧ (pBb π = true → pBn π ≤ pKn π) ∧ hOK n (pHo π) (pHm π) (pNx π) (pKn π)
abbrev SnT : Type := Nat × (Nat → Nat → Int32) × (Nat → Int64)
def isSN (ad : Nat → Nat) (V : Nat → Option va_E) (cy : Nat → ClassId) (SB : Nat) (σ : SnT) : Prop :=
  V SB = some (.inr (4, [.ref (ad (SB + 1)), .ref (ad (SB + 7))])) ∧ isT ad V cy (SB + 1) σ.1 σ.2.1 ∧ V (SB + 7) = some (.inl (cy 1, 3, .inr (.inl σ.2.2)))
/-- labels that are not given out yet -/
def frX (k P K : Nat) (V : Nat → Option va_E) : Prop := (∀ r, k ≤ r → r < 12 → V (10 + r) = none) ∧ (∀ q, P ≤ q → q < 4 → ∀ j, j < 80 → V (100 + 100 * q + j) = none) ∧ ∀ i, K ≤ i → i < 20 → ∀ j, j < 8 → V (1000 + 10 * i + j) = none
def isX (ad : Nat → Nat) (V : Nat → Option va_E) (cy : Nat → ClassId) (n k P K : Nat) (ce : Int32) (ρ : RuT) (pl : Nat → PlT) (sn : Nat → SnT) : Prop :=
  V 0 = some (.inr (6, [.ref (ad 1), .ref (ad 3), .ref (ad 4), .int (nI P), .int (nI K), .int ce])) ∧ isBk ad V cy k ρ ∧ V 3 = some (.inl (cy 5, 4, .inr (.inr (.inr (.inr (fun i => if i < P then some (ad (100 + 100 * i)) else none)))))) ∧ V 4 = some (.inl (cy 7, 20, .inr (.inr (.inr (.inr (fun i => if i < K then some (ad (1000 + 10 * i)) else none)))))) ∧ (∀ q, q < P → isPL ad V cy (100 + 100 * q) n (pl q)) ∧ (∀ i, i < K → isSN ad V cy (1000 + 10 * i) (sn i)) ∧ frX k P K V
def okX (n k P K : Nat) (ρ : RuT) (pl : Nat → PlT) (sn : Nat → SnT) : Prop := n ≤ 40 ∧ okR k ρ ∧ 1 ≤ P ∧ P ≤ 4 ∧ K ≤ 20 ∧ (∀ q, q < P → okP n (pl q)) ∧ ∀ i, i < K → (sn i).1 ≤ 40
theorem elP {ad : Nat → Nat} {P j : Nat} (h : j < P) : va_rf ((fun i => if i < P then some (ad (100 + 100 * i)) else none) j) = .ref (ad (100 + 100 * j)) := by
  simp only [h, if_true]
  rfl
theorem elS {ad : Nat → Nat} {P j : Nat} (h : j < P) : va_rf ((fun i => if i < P then some (ad (1000 + 10 * i)) else none) j) = .ref (ad (1000 + 10 * j)) := by
  simp only [h, if_true]
  rfl
theorem isPL.mv {ad : Nat → Nat} {V X : Nat → Option va_E} {cy : Nat → ClassId} {PB n : Nat} {π : PlT} (h : isPL ad V cy PB n π) (hs : ∀ L, PB ≤ L → L < PB + 80 → X L = V L) : isPL ad X cy PB n π := by
  obtain ⟨⟨n2, M2, hC, h1, h2⟩, hH⟩ := h
  exact ⟨⟨n2, M2, hC.mv (fun L a b => hs L a (by omega)), h1, h2⟩, hH.mv (fun L a b => hs L (by omega) b)⟩
theorem isSN.mv {ad : Nat → Nat} {V X : Nat → Option va_E} {cy : Nat → ClassId} {SB : Nat} {σ : SnT} (h : isSN ad V cy SB σ) (hs : ∀ L, SB ≤ L → L < SB + 8 → X L = V L) : isSN ad X cy SB σ :=
  ⟨(hs _ (by omega) (by omega)).trans h.1, h.2.1.mv (fun L a b => hs L (by omega) (by omega)), (hs _ (by omega) (by omega)).trans h.2.2⟩
/-- one plan has changed, nothing else -/
theorem isX.pl {ad : Nat → Nat} {V X : Nat → Option va_E} {cy : Nat → ClassId} {n k P K : Nat} {ce : Int32} {ρ : RuT} {pl : Nat → PlT} {sn : Nat → SnT} (h : isX ad V cy n k P K ce ρ pl sn) (hO : okX n k P K ρ pl sn) {q PB : Nat} (hq : q < P) (hB : PB = 100 + 100 * q) {π : PlT} (hπ : isPL ad X cy PB n π) (hs : ∀ L, (L < PB ∨ PB + 80 ≤ L) → X L = V L) : isX ad X cy n k P K ce ρ (va_up pl q π) sn := by
  obtain ⟨h0, h1, h2, h3, h4, h5, f1, f2, f3⟩ := h
  obtain ⟨o1, o2, o3, o4, o5, o6, o7⟩ := hO
  have o21 := o2.1
  refine ⟨(hs 0 (by omega)).trans h0, h1.mv o2.1 (fun L a b => hs L (by omega)), (hs 3 (by omega)).trans h2, (hs 4 (by omega)).trans h3, fun q2 hq2 => ?_, fun i hi => (h5 i hi).mv (fun L a b => hs L (by omega)), fun r a b => (hs _ (by omega)).trans (f1 r a b), fun q2 a b j c => (hs _ (by omega)).trans (f2 q2 a b j c), fun i a b j c => (hs _ (by omega)).trans (f3 i a b j c)⟩
  by_cases e : q2 = q
  · subst e
    rw [va_up_self, ← hB]
    exact hπ
  · rw [va_up_ne _ _ e]
    exact (h4 q2 hq2).mv (fun L a b => hs L (by omega))
theorem isX.mv {ad : Nat → Nat} {V X : Nat → Option va_E} {cy : Nat → ClassId} {n k P K : Nat} {ce : Int32} {ρ : RuT} {pl : Nat → PlT} {sn : Nat → SnT} (h : isX ad V cy n k P K ce ρ pl sn) (hO : okX n k P K ρ pl sn) (hs : ∀ L, L < 2000 → X L = V L) : isX ad X cy n k P K ce ρ pl sn := by
  obtain ⟨h0, h1, h2, h3, h4, h5, f1, f2, f3⟩ := h
  obtain ⟨o1, o2, o3, o4, o5, o6, o7⟩ := hO
  have o21 := o2.1
  exact ⟨(hs 0 (by omega)).trans h0, h1.mv o2.1 (fun L a b => hs L (by omega)), (hs 3 (by omega)).trans h2, (hs 4 (by omega)).trans h3, fun q2 hq2 => (h4 q2 hq2).mv (fun L a b => hs L (by omega)), fun i hi => (h5 i hi).mv (fun L a b => hs L (by omega)), fun r a b => (hs _ (by omega)).trans (f1 r a b), fun q2 a b j c => (hs _ (by omega)).trans (f2 q2 a b j c), fun i a b j c => (hs _ (by omega)).trans (f3 i a b j c)⟩
theorem up_id {α : Type} (f : Nat → α) (q : Nat) : va_up f q (f q) = f := by
  funext j
  by_cases h : j = q
  · subst h; rw [va_up_self]
  · rw [va_up_ne _ _ h]
section RQ
variable {p : Program} {l : Launch} {e : Env} {R : Room} {s : State} {m : MethodId} {args : Array Value} {below : List Frame} {meth : Method} {c : Code}
variable {cc : ByteArray} {pc : Nat} {ls : Array Slot}
theorem rq {post : Option Nat → Prop} {v : Value} (r : Option Nat) (hv : v = va_rf r) {C : String} (hx : p.tables.exec = Jvm.exec) (hb : c.code = cc) (hr : meth.sig.returnType = some (.object C)) (hlocks : meth.locks = false) (hdg : decode cc pc = .ok (.areturn, 1)) (hp : post r) : W p l e R s m args below meth c s.heap [] 0 0 (MQ below (va_Sq post) args s 0 0 (fun _ => False)) (F0 m pc ls [v]) := by
  subst hv
  exact W.aret hx hb hr (Or.inl ⟨C, rfl⟩) (va_rf_or r) (fun _ ht _ => ⟨r, rfl, hp, ht⟩) (fun _ h => by cases h) hdg hlocks
end RQ
/-! what the calls reckon -/
def stB (P : Nat) (ch : Int32) : Bool := decide (1 < P) || decide (0 < ch)
def ruB (a b x w v : Int32) : Bool := wiB a (nI 0) (nI 5) && wiB b (nI 0) (nI 3) && wiB x (-1000000) 1000000 && wiB w (nI 1) (nI 1000) && wiB v (nI 0) (nI 2)
/-! more cells than before, the old ones as they were -/
def Ext (ad : Nat → Nat) (V : Nat → Option va_E) (ad2 : Nat → Nat) (X : Nat → Option va_E) : Prop := ∀ L e, V L = some e → X L = some e ∧ ad2 L = ad L
section EX
variable {ad ad2 : Nat → Nat} {V X : Nat → Option va_E} {cy : Nat → ClassId}
theorem exF {ad ad2 : Nat → Nat} {N : Nat} {g : Nat → Nat} (h : ∀ i, i < N → ad2 (g i) = ad (g i)) : (fun i => if i < N then some (ad (g i)) else none) = fun i => if i < N then some (ad2 (g i)) else none := by
  funext i
  by_cases hi : i < N
  · rw [if_pos hi, if_pos hi, h i hi]
  · rw [if_neg hi, if_neg hi]
theorem isT.ex {B n : Nat} {M : Nat → Nat → Int32} (h : isT ad V cy B n M) (x : Ext ad V ad2 X) : isT ad2 X cy B n M := by
  obtain ⟨h0, h1, h2⟩ := h
  refine ⟨?_, ?_, fun m hm => (x _ _ (h2 m hm)).1⟩
  · rw [(x _ _ h1).2]; exact (x _ _ h0).1
  · rw [← exF (g := fun i => B + 2 + i) (fun i hi => (x _ _ (h2 i hi)).2)]; exact (x _ _ h1).1
theorem isBk.ex {k : Nat} {ρ : RuT} (h : isBk ad V cy k ρ) (x : Ext ad V ad2 X) : isBk ad2 X cy k ρ := by
  obtain ⟨h0, h1, h2⟩ := h
  refine ⟨?_, ?_, fun r hr => (x _ _ (h2 r hr)).1⟩
  · rw [(x _ _ h1).2]; exact (x _ _ h0).1
  · rw [← exF (g := fun i => 10 + i) (fun i hi => (x _ _ (h2 i hi)).2)]; exact (x _ _ h1).1
theorem isC.ex {PB n : Nat} {M : Nat → Nat → Int32} {n2 : Nat} {M2 : Nat → Nat → Int32} {kp : Nat → Int64} {fb : Nat → Bool} {ch co fo : Int32} {bb : Bool} {bk : Int32} (h : isC ad V cy PB n M n2 M2 kp fb ch co fo bb bk) (x : Ext ad V ad2 X) (h1 : ad2 1 = ad 1) (h15 : ad2 (PB + 15) = ad (PB + 15)) : isC ad2 X cy PB n M n2 M2 kp fb ch co fo bb bk := by
  obtain ⟨a0, a1, a2, a3, a4⟩ := h
  refine ⟨?_, a1.ex x, a2.ex x, (x _ _ a3).1, (x _ _ a4).1⟩
  rw [h1, (x _ _ a1.1).2, (x _ _ a2.1).2, (x _ _ a3).2, (x _ _ a4).2, h15]
  exact (x _ _ a0).1
theorem isH.ex {PB : Nat} {ho hm hv : Nat → Int32} {hk : Nat → Nat → Int64} {nx kn : Nat} (h : isH ad V cy PB ho hm hv hk nx kn) (x : Ext ad V ad2 X) : isH ad2 X cy PB ho hm hv hk nx kn := by
  obtain ⟨a0, a1, a2, a3, a4, a5⟩ := h
  refine ⟨?_, (x _ _ a1).1, (x _ _ a2).1, (x _ _ a3).1, ?_, fun i hi => (x _ _ (a5 i hi)).1⟩
  · rw [(x _ _ a1).2, (x _ _ a2).2, (x _ _ a3).2, (x _ _ a4).2]; exact (x _ _ a0).1
  · rw [← exF (g := fun i => PB + 20 + i) (fun i hi => (x _ _ (a5 i hi)).2)]; exact (x _ _ a4).1
theorem isPL.ex {PB n : Nat} {π : PlT} (h : isPL ad V cy PB n π) (x : Ext ad V ad2 X) (h1 : ad2 1 = ad 1) : isPL ad2 X cy PB n π := by
  obtain ⟨⟨n2, M2, hC, a1, a2⟩, hH⟩ := h
  exact ⟨⟨n2, M2, hC.ex x h1 (x _ _ hH.1).2, a1, a2⟩, hH.ex x⟩
theorem isSN.ex {SB : Nat} {σ : SnT} (h : isSN ad V cy SB σ) (x : Ext ad V ad2 X) : isSN ad2 X cy SB σ := by
  obtain ⟨a0, a1, a2⟩ := h
  refine ⟨?_, a1.ex x, (x _ _ a2).1⟩
  rw [(x _ _ a1.1).2, (x _ _ a2).2]
  exact (x _ _ a0).1
end EX
