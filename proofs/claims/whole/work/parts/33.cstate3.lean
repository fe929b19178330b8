def isPQ (ad : Nat → Nat) (V : Nat → Option va_E) (cy : Nat → ClassId) (PB n : Nat) (π : PlT) : Prop := isPL ad V cy PB n π
theorem isPQ.mv2 {ad ad2 : Nat → Nat} {V X : Nat → Option va_E} {cy : Nat → ClassId} {PB n : Nat} {π : PlT} (h : isPQ ad V cy PB n π) (hs : ∀ L, (L = 1 ∨ PB ≤ L) → (L = 1 ∨ L < PB + 80) → X L = V L ∧ ad2 L = ad L) : isPQ ad2 X cy PB n π := isPL.mv2 h (hs 1 (by omega) (by omega)).2 (fun L a b => hs L (by omega) (by omega))
theorem isPQ.mv {ad : Nat → Nat} {V X : Nat → Option va_E} {cy : Nat → ClassId} {PB n : Nat} {π : PlT} (h : isPQ ad V cy PB n π) (hs : ∀ L, PB ≤ L → L < PB + 80 → X L = V L) : isPQ ad X cy PB n π := isPL.mv h hs
def pl0 : PlT := (fun _ _ => 0, fun _ => 0, fun _ => false, 0, 0, -1, false, 0, fun _ => 0, fun _ => 0, fun _ => 0, fun _ _ => 0, 0, 0)
theorem no_if {α : Type} (g : Nat → α) : (fun _ => none) = fun i => if i < 0 then some (g i) else none := by
  funext i
  simp
theorem up_if0 {α : Type} (g : Nat → α) : va_up (fun _ => none) 0 (some (g 0)) = fun i => if i < 1 then some (g i) else none := by
  rw [no_if g]
  exact up_if g 0
theorem isX.frs {ad : Nat → Nat} {V : Nat → Option va_E} {cy : Nat → ClassId} {n k P K : Nat} {ce : Int32} {ρ : RuT} {pl : Nat → PlT} {sn : Nat → SnT} (h : isX ad V cy n k P K ce ρ pl sn) : frX k P K V := h.2.2.2.2.2.2
theorem isBk.mv3 {ad : Nat → Nat} {V X : Nat → Option va_E} {cy : Nat → ClassId} {k : Nat} {ρ : RuT} (h : isBk ad V cy k ρ) (hk : k ≤ 12) (hs : ∀ L, (L = 1 ∨ L = 2 ∨ 10 ≤ L) → L < 22 → X L = V L) : isBk ad X cy k ρ :=
  ⟨(hs 1 (by omega) (by omega)).trans h.1, (hs 2 (by omega) (by omega)).trans h.2.1, fun r hr => (hs (10 + r) (by omega) (by omega)).trans (h.2.2 r hr)⟩
