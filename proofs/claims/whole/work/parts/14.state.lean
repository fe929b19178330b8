/-! the plans' own cells; what plans reckon -/
abbrev RuT : Type := Nat → Nat × Nat × Int32 × Int32 × Int32
def isBk (ad : Nat → Nat) (V : Nat → Option va_E) (cy : Nat → ClassId) (k : Nat) (ρ : RuT) : Prop :=
  V 1 = some (.inr (3, [.ref (ad 2), .int (nI k)])) ∧ V 2 = some (.inl (cy 6, 12, .inr (.inr (.inr (.inr (fun i => if i < k then some (ad (10 + i)) else none)))))) ∧ ∀ r, r < k → isR V (10 + r) (ρ r).1 (ρ r).2.1 (ρ r).2.2.1 (ρ r).2.2.2.1 (ρ r).2.2.2.2
def okR (k : Nat) (ρ : RuT) : Prop := k ≤ 12 ∧ ∀ r, r < k → (ρ r).1 < 6 ∧ (ρ r).2.1 < 4
theorem elK {ad : Nat → Nat} {b k j : Nat} (h : j < k) : va_rf ((fun i => if i < k then some (ad (b + i)) else none) j) = .ref (ad (b + j)) := by
  simp only [h, if_true]
  rfl
def isC (ad : Nat → Nat) (V : Nat → Option va_E) (cy : Nat → ClassId) (PB n : Nat) (M : Nat → Nat → Int32) (n2 : Nat) (M2 : Nat → Nat → Int32) (kp : Nat → Int64) (fb : Nat → Bool) (ch co fo : Int32) (bb : Bool) (bk : Int32) : Prop :=
  V PB = some (.inr (1, [.ref (ad 1), .ref (ad (PB + 1)), .ref (ad (PB + 7)), .ref (ad (PB + 13)), .ref (ad (PB + 14)), .ref (ad (PB + 15)), .int ch, .int co, .int fo, .int (b2i bb), .int bk])) ∧ isT ad V cy (PB + 1) n M ∧ isT ad V cy (PB + 7) n2 M2 ∧ V (PB + 13) = some (.inl (cy 1, 12, .inr (.inl kp))) ∧ V (PB + 14) = some (.inl (cy 2, 12, .inl (fun r => b2i (fb r))))
def isH (ad : Nat → Nat) (V : Nat → Option va_E) (cy : Nat → ClassId) (PB : Nat) (ho hm hv : Nat → Int32) (hk : Nat → Nat → Int64) (nx kn : Nat) : Prop :=
  V (PB + 15) = some (.inr (0, [.ref (ad (PB + 16)), .ref (ad (PB + 17)), .ref (ad (PB + 18)), .ref (ad (PB + 19)), .int (nI nx), .int (nI kn)])) ∧ V (PB + 16) = some (.inl (cy 0, 60, .inl ho)) ∧ V (PB + 17) = some (.inl (cy 0, 60, .inl hm)) ∧ V (PB + 18) = some (.inl (cy 0, 60, .inl hv)) ∧ V (PB + 19) = some (.inl (cy 4, 60, .inr (.inr (.inr (.inr (fun i => if i < 60 then some (ad (PB + 20 + i)) else none)))))) ∧ ∀ i, i < 60 → V (PB + 20 + i) = some (.inl (cy 1, 12, .inr (.inl (hk i))))
def wthR (ρ : RuT) (r : Nat) (M : Nat → Nat → Int32) (n : Nat) : Int64 := wth (ρ r).1 (ρ r).2.2.1 (ρ r).2.2.2.1 (M (ρ r).2.1) (M 2) n
def ctR (ρ : RuT) (r : Nat) (M M2 : Nat → Nat → Int32) (n : Nat) : Nat := ctT (ρ r).1 (M (ρ r).2.1) (M2 (ρ r).2.1) (M 2) (M2 2) n
def ffI (P : Nat → Bool) : Nat → Nat → Int32
  | 0, _ => -1
  | j + 1, i => if P i = true then nI i else ffI P j (i + 1)
def flB (ρ : RuT) (M : Nat → Nat → Int32) (n : Nat) (kp : Nat → Int64) (r : Nat) : Bool := decide (¬ kp r = wthR ρ r M n)
def scL (ρ : RuT) (kp : Nat → Int64) (lv : Int32) : Nat → Int64
  | 0 => 0
  | r + 1 => if (ρ r).2.2.2.2 = lv then scL ρ kp lv r + kp r else scL ρ kp lv r
def cfT (fb : Nat → Bool) : Nat → Nat
  | 0 => 0
  | r + 1 => cfT fb r + (if fb r = true then 1 else 0)
def gnL (ρ : RuT) (r : Nat) (fb : Nat → Bool) (M : Nat → Nat → Int32) (n : Nat) (M2 : Nat → Nat → Int32) (n2 : Nat) : Int64 :=
  if fb r = true ∨ ctR ρ r M M2 n = 0 then 0 else wthR ρ r M2 n2 - wthR ρ r M n
def ctS (ρ : RuT) (M M2 : Nat → Nat → Int32) (n : Nat) : Nat → Nat
  | 0 => 0
  | r + 1 => ctS ρ M M2 n r + ctR ρ r M M2 n
theorem ctT_le (kd : Nat) (f f2 g g2 : Nat → Int32) : ∀ n, ctT kd f f2 g g2 n ≤ n
  | 0 => Nat.le_refl 0
  | n + 1 => by
    have := ctT_le kd f f2 g g2 n
    unfold ctT
    split <;> omega
/-- the world outside a range is the same: tables, rules, plans, histories stay -/
theorem isT.mv {ad : Nat → Nat} {V X : Nat → Option va_E} {cy : Nat → ClassId} {B n : Nat} {M : Nat → Nat → Int32} (h : isT ad V cy B n M) (hs : ∀ L, B ≤ L → L < B + 6 → X L = V L) : isT ad X cy B n M :=
  ⟨(hs B (by omega) (by omega)).trans h.1, (hs _ (by omega) (by omega)).trans h.2.1, fun m hm => (hs _ (by omega) (by omega)).trans (h.2.2 m hm)⟩
theorem isBk.mv {ad : Nat → Nat} {V X : Nat → Option va_E} {cy : Nat → ClassId} {k : Nat} {ρ : RuT} (h : isBk ad V cy k ρ) (hk : k ≤ 12) (hs : ∀ L, 1 ≤ L → L < 22 → X L = V L) : isBk ad X cy k ρ :=
  ⟨(hs 1 (by omega) (by omega)).trans h.1, (hs 2 (by omega) (by omega)).trans h.2.1, fun r hr => (hs (10 + r) (by omega) (by omega)).trans (h.2.2 r hr)⟩
theorem isC.mv {ad : Nat → Nat} {V X : Nat → Option va_E} {cy : Nat → ClassId} {PB n : Nat} {M : Nat → Nat → Int32} {n2 : Nat} {M2 : Nat → Nat → Int32} {kp : Nat → Int64} {fb : Nat → Bool} {ch co fo : Int32} {bb : Bool} {bk : Int32} (h : isC ad V cy PB n M n2 M2 kp fb ch co fo bb bk) (hs : ∀ L, PB ≤ L → L < PB + 15 → X L = V L) : isC ad X cy PB n M n2 M2 kp fb ch co fo bb bk :=
  ⟨(hs _ (by omega) (by omega)).trans h.1, h.2.1.mv (fun L h1 h2 => hs L (by omega) (by omega)), h.2.2.1.mv (fun L h1 h2 => hs L (by omega) (by omega)), (hs _ (by omega) (by omega)).trans h.2.2.2.1, (hs _ (by omega) (by omega)).trans h.2.2.2.2⟩
theorem isH.mv {ad : Nat → Nat} {V X : Nat → Option va_E} {cy : Nat → ClassId} {PB : Nat} {ho hm hv : Nat → Int32} {hk : Nat → Nat → Int64} {nx kn : Nat} (h : isH ad V cy PB ho hm hv hk nx kn) (hs : ∀ L, PB + 15 ≤ L → L < PB + 80 → X L = V L) : isH ad X cy PB ho hm hv hk nx kn :=
  ⟨(hs _ (by omega) (by omega)).trans h.1, (hs _ (by omega) (by omega)).trans h.2.1, (hs _ (by omega) (by omega)).trans h.2.2.1, (hs _ (by omega) (by omega)).trans h.2.2.2.1, (hs _ (by omega) (by omega)).trans h.2.2.2.2.1, fun i hi => (hs _ (by omega) (by omega)).trans (h.2.2.2.2.2 i hi)⟩
def fgI (k : Nat) (fb : Nat → Bool) (ch co fo : Int32) (bb : Bool) (kn : Nat) (w : Int32) : Int32 :=
  if w = nI 0 then ch else if w = nI 1 then nI kn else if w = nI 2 then co else if w = nI 3 then fo else if w = nI 4 then b2i bb else if w = nI 5 then nI (cfT fb k) else -1
