/-! the object's cells, but for what is not given out: moved to another world -/
section Y2
variable {ad ad2 : Nat → Nat} {V X : Nat → Option va_E} {cy : Nat → ClassId}
theorem isBk.mv2 {k : Nat} {ρ : RuT} (h : isBk ad V cy k ρ) (hs : ∀ L, 1 ≤ L → L < 10 + k → X L = V L ∧ ad2 L = ad L) : isBk ad2 X cy k ρ := by
  obtain ⟨h0, h1, h2⟩ := h
  refine ⟨?_, ?_, fun r hr => (hs (10 + r) (by omega) (by omega)).1.trans (h2 r hr)⟩
  · rw [(hs 2 (by omega) (by omega)).2, (hs 1 (by omega) (by omega)).1]; exact h0
  · rw [← exF (g := fun i => 10 + i) (fun i hi => (hs _ (by omega) (by omega)).2), (hs 2 (by omega) (by omega)).1]; exact h1
theorem isC.mv2 {PB n : Nat} {M : Nat → Nat → Int32} {n2 : Nat} {M2 : Nat → Nat → Int32} {kp : Nat → Int64} {fb : Nat → Bool} {ch co fo : Int32} {bb : Bool} {bk : Int32} (h : isC ad V cy PB n M n2 M2 kp fb ch co fo bb bk) (h1 : ad2 1 = ad 1) (hs : ∀ L, PB ≤ L → L < PB + 16 → X L = V L ∧ ad2 L = ad L) (h15 : True) : isC ad2 X cy PB n M n2 M2 kp fb ch co fo bb bk := by
  obtain ⟨a0, a1, a2, a3, a4⟩ := h
  refine ⟨?_, a1.mv2 (fun L u v => hs L (by omega) (by omega)), a2.mv2 (fun L u v => hs L (by omega) (by omega)), (hs _ (by omega) (by omega)).1.trans a3, (hs _ (by omega) (by omega)).1.trans a4⟩
  rw [h1, (hs (PB + 1) (by omega) (by omega)).2, (hs (PB + 7) (by omega) (by omega)).2, (hs (PB + 13) (by omega) (by omega)).2, (hs (PB + 14) (by omega) (by omega)).2, (hs (PB + 15) (by omega) (by omega)).2, (hs PB (by omega) (by omega)).1]
  exact a0
theorem isPL.mv2 {PB n : Nat} {π : PlT} (h : isPL ad V cy PB n π) (h1 : ad2 1 = ad 1) (hs : ∀ L, PB ≤ L → L < PB + 80 → X L = V L ∧ ad2 L = ad L) : isPL ad2 X cy PB n π := by
  obtain ⟨⟨n2, M2, hC, a1, a2⟩, hH⟩ := h
  exact ⟨⟨n2, M2, hC.mv2 h1 (fun L u v => hs L u (by omega)) trivial, a1, a2⟩, hH.mv2 (fun L u v => hs L (by omega) v)⟩
theorem isSN.mv2 {SB : Nat} {σ : SnT} (h : isSN ad V cy SB σ) (hs : ∀ L, SB ≤ L → L < SB + 8 → X L = V L ∧ ad2 L = ad L) : isSN ad2 X cy SB σ := by
  obtain ⟨a0, a1, a2⟩ := h
  refine ⟨?_, a1.mv2 (fun L u v => hs L (by omega) (by omega)), (hs _ (by omega) (by omega)).1.trans a2⟩
  rw [(hs (SB + 1) (by omega) (by omega)).2, (hs (SB + 7) (by omega) (by omega)).2, (hs SB (by omega) (by omega)).1]
  exact a0
def isY (ad : Nat → Nat) (V : Nat → Option va_E) (cy : Nat → ClassId) (n k P K : Nat) (ce : Int32) (ρ : RuT) (pl : Nat → PlT) (sn : Nat → SnT) : Prop :=
  V 0 = some (.inr (6, [.ref (ad 1), .ref (ad 3), .ref (ad 4), .int (nI P), .int (nI K), .int ce])) ∧ isBk ad V cy k ρ ∧ V 3 = some (.inl (cy 5, 4, .inr (.inr (.inr (.inr (fun i => if i < P then some (ad (100 + 100 * i)) else none)))))) ∧ V 4 = some (.inl (cy 7, 20, .inr (.inr (.inr (.inr (fun i => if i < K then some (ad (1000 + 10 * i)) else none)))))) ∧ (∀ q, q < P → isPL ad V cy (100 + 100 * q) n (pl q)) ∧ ∀ i, i < K → isSN ad V cy (1000 + 10 * i) (sn i)
theorem isX.y {n k P K : Nat} {ce : Int32} {ρ : RuT} {pl : Nat → PlT} {sn : Nat → SnT} (h : isX ad V cy n k P K ce ρ pl sn) : isY ad V cy n k P K ce ρ pl sn := ⟨h.1, h.2.1, h.2.2.1, h.2.2.2.1, h.2.2.2.2.1, h.2.2.2.2.2.1⟩
theorem isY.x {n k P K : Nat} {ce : Int32} {ρ : RuT} {pl : Nat → PlT} {sn : Nat → SnT} (h : isY ad V cy n k P K ce ρ pl sn) (hf : frX k P K V) : isX ad V cy n k P K ce ρ pl sn := ⟨h.1, h.2.1, h.2.2.1, h.2.2.2.1, h.2.2.2.2.1, h.2.2.2.2.2, hf⟩
theorem isY.mv2 {n k P K : Nat} {ce : Int32} {ρ : RuT} {pl : Nat → PlT} {sn : Nat → SnT} (h : isY ad V cy n k P K ce ρ pl sn) (hP : P ≤ 4) (hk : k ≤ 12) (hs : ∀ L, (L < 10 + k ∨ 22 ≤ L) → ((L < 100 + 100 * P ∨ 1000 ≤ L) ∧ L < 1000 + 10 * K) ∨ L < 22 → X L = V L ∧ ad2 L = ad L) : isY ad2 X cy n k P K ce ρ pl sn := by
  obtain ⟨a0, a1, a2, a3, a4, a5⟩ := h
  have s1 : ∀ L, L < 10 + k → X L = V L ∧ ad2 L = ad L := fun L h => hs L (by omega) (by omega)
  have sp : ∀ L, 100 ≤ L → L < 100 + 100 * P → X L = V L ∧ ad2 L = ad L := fun L h1 h2 => hs L (by omega) (by omega)
  have ss : ∀ L, 1000 ≤ L → L < 1000 + 10 * K → X L = V L ∧ ad2 L = ad L := fun L h1 h2 => hs L (by omega) (by omega)
  refine ⟨?_, a1.mv2 (fun L u v => s1 L (by omega)), ?_, ?_, fun q hq => (a4 q hq).mv2 (s1 1 (by omega)).2 (fun L u v => sp L (by omega) (by omega)), fun i hi => (a5 i hi).mv2 (fun L u v => ss L (by omega) (by omega))⟩
  · rw [(s1 1 (by omega)).2, (s1 3 (by omega)).2, (s1 4 (by omega)).2, (s1 0 (by omega)).1]; exact a0
  · rw [← exF (g := fun i => 100 + 100 * i) (fun i hi => (sp _ (by omega) (by omega)).2), (s1 3 (by omega)).1]; exact a2
  · rw [← exF (g := fun i => 1000 + 10 * i) (fun i hi => (ss _ (by omega) (by omega)).2), (s1 4 (by omega)).1]; exact a3
end Y2
theorem up_if {α : Type} (g : Nat → α) (k : Nat) : va_up (fun i => if i < k then some (g i) else none) k (some (g k)) = fun i => if i < k + 1 then some (g i) else none := by
  funext j
  by_cases h : j = k
  · subst h; rw [va_up_self]; simp
  · rw [va_up_ne _ _ h]
    have : j < k + 1 ↔ j < k := by omega
    simp [this]
/-- SCORES of the first levels, in a row of zeros -/
def scS (ρ : RuT) (kp : Nat → Int64) (k i : Nat) : Nat → Int64 := fun j => if j < i then scL ρ kp (nI j) k else 0
theorem scS_s (ρ : RuT) (kp : Nat → Int64) (k i : Nat) : vp_updL (scS ρ kp k i) i (scL ρ kp (nI i) k) = scS ρ kp k (i + 1) := by
  funext j
  by_cases h : j = i
  · subst h; simp [scS, vp_updL]
  · have : j < i + 1 ↔ j < i := by omega
    simp [scS, vp_updL, h, this]
def zM : Nat → Nat → Int32 := fun _ _ => 0
theorem Zt_z (n : Nat) : Zt n zM := fun _ _ _ => rfl
def plAdd (n k : Nat) (ρ : RuT) (π : PlT) : PlT := (addM n (pM π), kpU (pK π) (fun r => wthR ρ r (addM n (pM π)) (n + 1) - wthR ρ r (pM π) n) k, pF π, pCh π, pCo π, pFo π, pBb π, pBn π, pHo π, pHm π, pHv π, pHs π, pNx π, pKn π)
def xObject (n k P : Nat) (ρ : RuT) (pl : Nat → PlT) : Int32 × Nat × (Nat → PlT) := if stB P (pCh (pl 0)) = true then (-3, n, pl) else if n < 40 then (nI n, n + 1, va_up pl 0 (plAdd n k ρ (pl 0))) else (-4, n, pl)
def ruT (a b x w v : Int32) : Nat × Nat × Int32 × Int32 × Int32 := (a.toNatClampNeg, b.toNatClampNeg, x, w, v)
def plRule (n k : Nat) (ρ : RuT) (π : PlT) : PlT := (pM π, vp_updL (pK π) k (wthR ρ k (pM π) n), pF π, pCh π, pCo π, pFo π, pBb π, pBn π, pHo π, pHm π, pHv π, pHs π, pNx π, pKn π)
def xRule (n k P : Nat) (ρ : RuT) (pl : Nat → PlT) (a b x w v : Int32) : Int32 × Nat × RuT × (Nat → PlT) :=
  if ruB a b x w v = true then (if stB P (pCh (pl 0)) = true then (-3, k, ρ, pl) else if k < 12 then (nI k, k + 1, va_up ρ k (ruT a b x w v), va_up pl 0 (plRule n k (va_up ρ k (ruT a b x w v)) (pl 0))) else (-4, k, ρ, pl)) else (-1, k, ρ, pl)
def plNew (k : Nat) (π : PlT) : PlT := (pM π, cpU (fun _ => 0) (pK π) k, cpU (fun _ => false) (pF π) k, 0, 0, -1, false, 0, fun _ => 0, fun _ => 0, fun _ => 0, fun _ _ => 0, 0, 0)
def xFork (k P : Nat) (pl : Nat → PlT) (pi : Int32) : Int32 × Nat × (Nat → PlT) := if hasB P pi = true then (if P < 4 then (nI P, P + 1, va_up pl P (plNew k (pl pi.toNatClampNeg))) else (-4, P, pl)) else (-1, P, pl)
def xKeep (n k P K : Nat) (ρ : RuT) (pl : Nat → PlT) (sn : Nat → SnT) (pi : Int32) : Int32 × Nat × (Nat → SnT) := if hasB P pi = true then (if K < 20 then (nI K, K + 1, va_up sn K (n, pM (pl pi.toNatClampNeg), scS ρ (pK (pl pi.toNatClampNeg)) k 3)) else (-4, K, sn)) else (-1, K, sn)
