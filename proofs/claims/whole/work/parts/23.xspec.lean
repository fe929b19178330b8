/-! the calls of the object, as functions of what it holds -/
def xMember (n P : Nat) (pl : Nat → PlT) (pi o m : Int32) : Int32 := if hasB P pi = true then rdM n (pM (pl pi.toNatClampNeg)) o m else -1000000
def xScore (k P : Nat) (ρ : RuT) (pl : Nat → PlT) (pi lv : Int32) : Int64 := if hasB P pi = true ∧ wiB lv (nI 0) (nI 2) = true then scL ρ (pK (pl pi.toNatClampNeg)) lv k else -1
def xWorth (n k P : Nat) (ρ : RuT) (pl : Nat → PlT) (pi ri how : Int32) : Int64 := if hasB P pi = true ∧ hasB k ri = true ∧ wiB how (nI 0) (nI 1) = true then (if how = 0 then pK (pl pi.toNatClampNeg) ri.toNatClampNeg else wthR ρ ri.toNatClampNeg (pM (pl pi.toNatClampNeg)) n) else -1
def xCheck (n k P : Nat) (ρ : RuT) (pl : Nat → PlT) (pi : Int32) : Int32 := if hasB P pi = true then ffI (flB ρ (pM (pl pi.toNatClampNeg)) n (pK (pl pi.toNatClampNeg))) k 0 else -1
def xKept (K : Nat) (sn : Nat → SnT) (x lv : Int32) : Int64 := if hasB K x = true ∧ wiB lv (nI 0) (nI 2) = true then (sn x.toNatClampNeg).2.2 lv.toNatClampNeg else -1
def xThen (K : Nat) (sn : Nat → SnT) (x o m : Int32) : Int32 := if hasB K x = true then rdM (sn x.toNatClampNeg).1 (sn x.toNatClampNeg).2.1 o m else -1000000
def plTold (k : Nat) (π : PlT) (w : Int32) : Int32 := fgI k (pF π) (pCh π) (pCo π) (pFo π) (pBb π) (pKn π) w
def xTold (k P : Nat) (pl : Nat → PlT) (pi w : Int32) : Int32 := if hasB P pi = true then plTold k (pl pi.toNatClampNeg) w else -1
def xAll (n k P K : Nat) (ce w : Int32) : Int32 := if w = nI 0 then nI n else if w = nI 1 then nI k else if w = nI 2 then nI P else if w = nI 3 then ce else if w = nI 4 then nI K else -1
/-- a plan's own call, in its place -/
def xPl (P : Nat) (pl : Nat → PlT) (pi : Int32) (f : PlT → Int32 × PlT) : Int32 × (Nat → PlT) := if hasB P pi = true then ((f (pl pi.toNatClampNeg)).1, va_up pl pi.toNatClampNeg (f (pl pi.toNatClampNeg)).2) else (-1, pl)
def plChange (n k : Nat) (ce : Int32) (ρ : RuT) (o mi v : Int32) (π : PlT) : Int32 × PlT :=
  if tkB n (pM π 2) o mi v = true then (nI (coT n (pM π) (putM n (pM π) mi.toNatClampNeg o.toNatClampNeg v) 4), (putM n (pM π) mi.toNatClampNeg o.toNatClampNeg v, kpU (pK π) (fun r => gnL ρ r (pF π) (pM π) n (putM n (pM π) mi.toNatClampNeg o.toNatClampNeg v) n) k, pF π, pCh π + nI 1, pCo π + nI (ctS ρ (pM π) (putM n (pM π) mi.toNatClampNeg o.toNatClampNeg v) n k), (if 0 < ce ∧ irm (pCh π + nI 1) ce = 0 then ffI (flB ρ (putM n (pM π) mi.toNatClampNeg o.toNatClampNeg v) n (kpU (pK π) (fun r => gnL ρ r (pF π) (pM π) n (putM n (pM π) mi.toNatClampNeg o.toNatClampNeg v) n) k)) k 0 else pFo π), pBb π, (if pBb π = true then knU (pBn π) else pBn π), upd (pHo π) (pNx π) o, upd (pHm π) (pNx π) mi, upd (pHv π) (pNx π) (pM π mi.toNatClampNeg o.toNatClampNeg), hsU (pHs π) (pNx π) (pK π), nxU (pNx π), knU (pKn π)))
  else (-1, π)
def plTb (n k : Nat) (ρ : RuT) (π : PlT) : TbT := tbF n k ρ (pHo π) (pHm π) (pHv π) (pHs π) (pBb π) (pM π, pK π, pCo π, pNx π, pKn π, pBn π)
def plUndo (n k : Nat) (ρ : RuT) (π : PlT) : Int32 × PlT :=
  if (if pBb π = true then nI (pBn π) else nI (pKn π)) = 0 then (-3, π) else (nI (plTb n k ρ π).2.2.2.2.1, ((plTb n k ρ π).1, (plTb n k ρ π).2.1, pF π, pCh π, (plTb n k ρ π).2.2.1, pFo π, pBb π, (plTb n k ρ π).2.2.2.2.2, pHo π, pHm π, pHv π, pHs π, (plTb n k ρ π).2.2.2.1, (plTb n k ρ π).2.2.2.2.1))
def plBegin (π : PlT) : Int32 × PlT := if pBb π = true then (-3, π) else (nI (pKn π), (pM π, pK π, pF π, pCh π, pCo π, pFo π, true, 0, pHo π, pHm π, pHv π, pHs π, pNx π, pKn π))
def plEy (n k : Nat) (ρ : RuT) (sb : Bool) (π : PlT) : TbT := if sb = true then (pM π, pK π, pCo π, pNx π, pKn π, pBn π) else tbI n k ρ (pHo π) (pHm π) (pHv π) (pHs π) true (pBn π) (pM π, pK π, pCo π, pNx π, pKn π, pBn π)
def plEnd (n k : Nat) (ρ : RuT) (sb : Bool) (π : PlT) : Int32 × PlT :=
  if pBb π = true then (nI (pBn π), ((plEy n k ρ sb π).1, (plEy n k ρ sb π).2.1, pF π, pCh π, (plEy n k ρ sb π).2.2.1, pFo π, false, (plEy n k ρ sb π).2.2.2.2.2, pHo π, pHm π, pHv π, pHs π, (plEy n k ρ sb π).2.2.2.1, (plEy n k ρ sb π).2.2.2.2.1)) else (-3, π)
def plForget (k : Nat) (ri : Int32) (ib : Bool) (π : PlT) : Int32 × PlT :=
  if hasB k ri = true then (b2i (pF π ri.toNatClampNeg), (pM π, pK π, va_up (pF π) ri.toNatClampNeg ib, pCh π, pCo π, pFo π, pBb π, pBn π, pHo π, pHm π, pHv π, pHs π, pNx π, pKn π)) else (-1, π)
def plMend (n k : Nat) (ρ : RuT) (ri : Int32) (π : PlT) : Int32 × PlT :=
  if hasB k ri = true then (b2i (flB ρ (pM π) n (pK π) ri.toNatClampNeg), (pM π, vp_updL (pK π) ri.toNatClampNeg (wthR ρ ri.toNatClampNeg (pM π) n), pF π, pCh π, pCo π, pFo π, pBb π, pBn π, pHo π, pHm π, pHv π, pHs π, pNx π, pKn π)) else (-1, π)
def xAttempt (n k P : Nat) (ρ : RuT) (pl : Nat → PlT) (pi o mi v lv : Int32) : Int64 :=
  if hasB P pi = true ∧ wiB lv (nI 0) (nI 2) = true then (if tkB n (pM (pl pi.toNatClampNeg) 2) o mi v = true then sbL ρ (pK (pl pi.toNatClampNeg)) (pF (pl pi.toNatClampNeg)) lv k (pM (pl pi.toNatClampNeg)) n (putM n (pM (pl pi.toNatClampNeg)) mi.toNatClampNeg o.toNatClampNeg v) k else scL ρ (pK (pl pi.toNatClampNeg)) lv k) else -1
theorem upB (fb : Nat → Bool) (r : Nat) (b : Bool) : upd (fun r => b2i (fb r)) r (b2i b) = fun j => b2i (va_up fb r b j) := by
  funext j
  by_cases h : j = r
  · subst h; simp [upd, va_up]
  · simp [upd, va_up, h]
section XP
variable {ad ad2 : Nat → Nat} {V X : Nat → Option va_E} {cy : Nat → ClassId} {n k P K : Nat} {ce : Int32} {ρ : RuT} {pl : Nat → PlT} {sn : Nat → SnT} {pi r : Int32} {f : PlT → Int32 × PlT}
theorem xPl_none (hX : isX ad V cy n k P K ce ρ pl sn) (hp : ¬ hasB P pi = true) : (-1 : Int32) = (xPl P pl pi f).1 ∧ (ad, V).1 = ad ∧ isX ad (ad, V).2 cy n k P K ce ρ (xPl P pl pi f).2 sn ∧ ∀ L, 2000 ≤ L → (ad, V).2 L = V L := by
  unfold xPl
  rw [if_neg hp]
  exact ⟨rfl, rfl, hX, fun _ _ => rfl⟩
theorem xPl_same (hX : isX ad V cy n k P K ce ρ pl sn) (hp : hasB P pi = true) (h : f (pl pi.toNatClampNeg) = (r, pl pi.toNatClampNeg)) : r = (xPl P pl pi f).1 ∧ (ad, V).1 = ad ∧ isX ad (ad, V).2 cy n k P K ce ρ (xPl P pl pi f).2 sn ∧ ∀ L, 2000 ≤ L → (ad, V).2 L = V L := by
  unfold xPl
  rw [if_pos hp, h]
  refine ⟨rfl, rfl, ?_, fun _ _ => rfl⟩
  show isX ad V cy n k P K ce ρ (va_up pl pi.toNatClampNeg (pl pi.toNatClampNeg)) sn
  rw [up_id]
  exact hX
theorem xPl_new (hX : isX ad V cy n k P K ce ρ pl sn) (hO : okX n k P K ρ pl sn) (hp : hasB P pi = true) {PB : Nat} (hB : PB = 100 + 100 * pi.toNatClampNeg) (e : ad2 = ad) {π : PlT} (h : f (pl pi.toNatClampNeg) = (r, π)) (hπ : isPL ad X cy PB n π) (hs : ∀ L, (L < PB ∨ PB + 80 ≤ L) → X L = V L) : r = (xPl P pl pi f).1 ∧ (ad2, X).1 = ad ∧ isX ad (ad2, X).2 cy n k P K ce ρ (xPl P pl pi f).2 sn ∧ ∀ L, 2000 ≤ L → (ad2, X).2 L = V L := by
  have o4 := hO.2.2.2.1
  have hq := (hasB_of hp (by omega)).2
  unfold xPl
  rw [if_pos hp, h]
  exact ⟨rfl, e, hX.pl hO hq hB hπ hs, fun L hL => hs L (by omega)⟩
end XP
