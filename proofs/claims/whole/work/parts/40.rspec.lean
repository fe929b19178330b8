/-! the reference: what its methods reckon -/
theorem wiB_has {x : Int32} {P : Nat} (hP : P < 2147483648) : wiB x (nI 0) (nI P - nI 1) = hasB P x := by
  have hs : (nI P - nI 1).toInt = (P : Int) - 1 := by
    by_cases h : P < 1
    · have : P = 0 := by omega
      subst this
      decide
    · rw [pk_sub (by omega), nI_toInt (by omega)]; omega
  have h0 : (nI 0).toInt = 0 := nI_toInt (by omega)
  unfold wiB hasB
  have e1 : (nI 0 ≤ x) ↔ ¬ x < 0 := by rw [Int32.le_iff_toInt_le, Int32.lt_iff_toInt_lt, h0, Int32.toInt_zero]; omega
  have e2 : (x ≤ nI P - nI 1) ↔ ¬ nI P ≤ x := by rw [Int32.le_iff_toInt_le, Int32.le_iff_toInt_le, hs, nI_toInt (by omega)]; omega
  simp [e1, e2]
def memV (mem : Nat → Int32) (p : Nat) : Nat → Nat → Int32 := fun m o => mem (160 * p + 4 * o + m)
def oth (w f : Nat → Int32) : Nat → Nat
  | 0 => 0
  | j + 1 => oth w f j + (if w j = f j then 0 else 1)
/-- how many of the first j are like i, behind it -/
def cgT (f : Nat → Int32) (i : Nat) : Nat → Nat
  | 0 => 0
  | j + 1 => cgT f i j + (if f j = f i ∧ i < j then 1 else 0)
def fsB (f : Nat → Int32) (i : Nat) : Nat → Bool
  | 0 => true
  | j + 1 => fsB f i j && (decide (¬ f j = f i) || decide (i ≤ j))
def ovI (c : Int32) : Int32 := if c < 0 then nI 0 else c
def A3 (kd : Nat) (f : Nat → Int32) (i j : Nat) : Int64 := if kd = 3 then lN (cgT f i j) else 0
def A0 (kd : Nat) (f : Nat → Int32) (c : Int32) (i : Nat) : Int64 := if kd = 0 ∧ c < f i then (f i).toInt64 - c.toInt64 else 0
def A4 (kd : Nat) (f : Nat → Int32) (c : Int32) (n i : Nat) : Int64 := if kd = 4 ∧ fsB f i n = true ∧ ovI c < nI (cnt f (f i) 0 n) then (nI (cnt f (f i) 0 n) - ovI c).toInt64 else 0
def A5 (kd : Nat) (f g : Nat → Int32) (i : Nat) : Int64 := if kd = 5 ∧ ¬ g i < 0 ∧ f i < f (g i).toNatClampNeg then 1 else 0
def acW (kd : Nat) (f g : Nat → Int32) (c : Int32) (n : Nat) : Nat → Int64
  | 0 => 0
  | i + 1 => acW kd f g c n i + A3 kd f i n + A0 kd f c i + A4 kd f c n i + A5 kd f g i
def rwO (kd : Nat) (c w : Int32) (f g : Nat → Int32) (n : Nat) : Int64 :=
  (if kd = 1 then (if c.toInt64 < sumL f n then sumL f n - c.toInt64 else 0) else if kd = 2 then (if c.toInt64 < sumL f n then sumL f n - c.toInt64 else c.toInt64 - sumL f n) else acW kd f g c n n) * w.toInt64
def scR (av : Nat → Int32) (kpt : Nat → Int64) (p : Nat) (lv : Int32) : Nat → Int64
  | 0 => 0
  | r + 1 => scR av kpt p lv r + (if av r = lv then kpt (12 * p + r) else 0)
theorem oth_le (w f : Nat → Int32) : ∀ j, oth w f j ≤ j
  | 0 => Nat.le_refl 0
  | j + 1 => by
    have := oth_le w f j
    unfold oth
    split <;> omega
theorem b2i_and (a b : Bool) : b2i a &&& b2i b = b2i (a && b) := by cases a <;> cases b <;> decide
theorem A3_s (kd : Nat) (f : Nat → Int32) (x : Int64) (i j : Nat) : x + A3 kd f i j + (if kd = 3 ∧ f j = f i ∧ i < j then 1 else 0) = x + A3 kd f i (j + 1) := by
  unfold A3
  by_cases h : kd = 3
  · rw [if_pos h, if_pos h]
    by_cases h2 : f j = f i ∧ i < j
    · rw [if_pos ⟨h, h2⟩, Int64.add_assoc, lN_1]
      simp [cgT, h2]
    · rw [if_neg (fun q => h2 q.2)]
      simp [cgT, h2]
  · rw [if_neg h, if_neg h, if_neg (fun q => h q.1)]
    simp
theorem cnt_s (f : Nat → Int32) (x : Int32) (j : Nat) : nI (cnt f x 0 j + (if f j = x then 1 else 0)) = nI (cnt f x 0 (j + 1)) := by
  show _ = nI (cnt f x 0 j + (if f (0 + j) = x then 1 else 0))
  rw [Nat.zero_add]
