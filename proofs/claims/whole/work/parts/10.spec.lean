/-! what is reckoned, as functions -/
def sumL (f : Nat → Int32) : Nat → Int64
  | 0 => 0
  | k + 1 => sumL f k + (f k).toInt64
def cnt (f : Nat → Int32) (x : Int32) (a : Nat) : Nat → Nat
  | 0 => 0
  | k + 1 => cnt f x a k + (if f (a + k) = x then 1 else 0)
def eaL (f : Nat → Int32) (c : Int32) : Nat → Int64
  | 0 => 0
  | k + 1 => eaL f c k + (if nI 0 < f k - c then f k - c else nI 0).toInt64
def epL (f : Nat → Int32) : Nat → Int64
  | 0 => 0
  | k + 1 => epL f k + (nI (cnt f (f k) 0 k)).toInt64
/-- c: what is allowed; n: how many objects there are -/
def crL (f : Nat → Int32) (c : Int32) (n : Nat) : Nat → Int64
  | 0 => 0
  | k + 1 => crL f c n k + (if cnt f (f k) 0 k = 0 then (if nI 0 < nI (cnt f (f k) k (n - k)) - c then nI (cnt f (f k) k (n - k)) - c else nI 0).toInt64 else 0)
def hasB (n : Nat) (x : Int32) : Bool := decide (¬ x < 0) && decide (¬ nI n ≤ x)
theorem hasB_of {n : Nat} {x : Int32} (h : hasB n x = true) (hn : n < 2147483648) : x = nI x.toNatClampNeg ∧ x.toNatClampNeg < n := by
  simp only [hasB, Bool.and_eq_true, decide_eq_true_eq] at h
  obtain ⟨j, hj, e⟩ := nI_of h.1
  have hc : x.toNatClampNeg = j := by rw [e]; exact nI_clamp hj
  rw [hc]
  refine ⟨e, ?_⟩
  have h2 := h.2
  rw [e] at h2
  exact nI_nle' h2 (by omega) hj
theorem hasB_nI {n j : Nat} (hn : n < 2147483648) (hj : j < 2147483648) : hasB n (nI j) = decide (j < n) := by
  unfold hasB
  have h1 : ¬ nI j < 0 := nI_pos (by omega)
  by_cases h : j < n
  · have h2 : ¬ nI n ≤ nI j := nI_ge h (by omega)
    simp [h1, h2, h]
  · have h2 : nI n ≤ nI j := nI_le (by omega) (by omega)
    simp [h2, h]
theorem hasB_m1 {n : Nat} : hasB n (-1) = false := by
  unfold hasB
  simp
/-- g: the row of BEFORE -/
def lbL (n : Nat) (f g : Nat → Int32) : Nat → Int64
  | 0 => 0
  | k + 1 => lbL n f g k + (b2i (hasB n (g k) && decide (¬ f (g k).toNatClampNeg ≤ f k))).toInt64
def ctT (kd : Nat) (f f2 g g2 : Nat → Int32) : Nat → Nat
  | 0 => 0
  | k + 1 => ctT kd f f2 g g2 k + (if ¬ f k = f2 k ∨ (kd = 5 ∧ ¬ g k = g2 k) then 1 else 0)
/-- what a rule is worth from nothing: its kind, bound, weight; f: the row it looks at, g: the row of BEFORE -/
def wth (kd : Nat) (bd wt : Int32) (f g : Nat → Int32) (n : Nat) : Int64 :=
  if kd = 0 then wt.toInt64 * eaL f bd n
  else if kd = 1 then wt.toInt64 * (if sumL f n - bd.toInt64 < 0 then 0 else sumL f n - bd.toInt64)
  else if kd = 2 then wt.toInt64 * (if 0 < sumL f n - bd.toInt64 then sumL f n - bd.toInt64 else -(sumL f n - bd.toInt64))
  else if kd = 3 then wt.toInt64 * epL f n
  else if kd = 4 then wt.toInt64 * crL f (if nI 0 < bd then bd else nI 0) n n
  else wt.toInt64 * lbL n f g n
/-- whether a chain of BEFORE comes from x to t, k steps at most -/
def ldB (n : Nat) (g : Nat → Int32) : Nat → Int32 → Int32 → Bool
  | 0, _, _ => false
  | k + 1, x, t => hasB n x && (decide (x = t) || ldB n g k (g x.toNatClampNeg) t)
def rdT (f f2 : Nat → Int32) : Nat → Nat
  | 0 => 0
  | k + 1 => rdT f f2 k + (if f k = f2 k then 0 else 1)
def coT (n : Nat) (M M2 : Nat → Nat → Int32) : Nat → Nat
  | 0 => 0
  | m + 1 => coT n M M2 m + rdT (M m) (M2 m) n
def wiB (x a b : Int32) : Bool := decide (a ≤ x) && decide (x ≤ b)
def tkB (n : Nat) (g : Nat → Int32) (o m v : Int32) : Bool :=
  hasB n o && (if m = nI 0 then wiB v (-1000) (nI 1000) else if m = nI 1 then wiB v (nI 0) (nI 20) else if m = nI 2 then decide (v = -1) || (hasB n v && !(ldB n g n v o)) else false)
def rdM (n : Nat) (M : Nat → Nat → Int32) (o m : Int32) : Int32 := if hasB n o && wiB m (nI 0) (nI 3) then M m.toNatClampNeg o.toNatClampNeg else -1000000
/-- a table at the label B: n objects, rows M -/
def isT (ad : Nat → Nat) (V : Nat → Option va_E) (cy : Nat → ClassId) (B n : Nat) (M : Nat → Nat → Int32) : Prop :=
  V B = some (.inr (5, [.ref (ad (B + 1)), .int (nI n)])) ∧ V (B + 1) = some (.inl (cy 3, 4, .inr (.inr (.inr (.inr (fun i => if i < 4 then some (ad (B + 2 + i)) else none)))))) ∧ ∀ m, m < 4 → V (B + 2 + m) = some (.inl (cy 0, 40, .inl (M m)))
theorem el4 {ad : Nat → Nat} {B j : Nat} (h : j < 4) : va_rf ((fun i => if i < 4 then some (ad (B + 2 + i)) else none) j) = .ref (ad (B + 2 + j)) := by
  simp only [h, if_true]
  rfl
/-- a rule at the label L -/
def isR (V : Nat → Option va_E) (L kd lk : Nat) (bd wt lv : Int32) : Prop := V L = some (.inr (2, [.int (nI kd), .int (nI lk), .int bd, .int wt, .int lv]))
theorem cnt_le (f : Nat → Int32) (x : Int32) (a : Nat) : ∀ k, cnt f x a k ≤ k
  | 0 => Nat.le_refl 0
  | k + 1 => by
    have := cnt_le f x a k
    unfold cnt
    split <;> omega
theorem swO {m : Int32} (n : Nat) (h : ∀ k, k ≤ n → ¬ m = nI k) : m.toInt < 0 ∨ (n : Int) < m.toInt := by
  by_cases h0 : m < 0
  · left
    rw [Int32.lt_iff_toInt_lt, Int32.toInt_zero] at h0
    exact h0
  · right
    obtain ⟨j, hj, e⟩ := nI_of h0
    rw [e, nI_toInt hj]
    by_cases h1 : j ≤ n
    · exact absurd e (h j h1)
    · omega
theorem wiB_of {b : Nat} {x : Int32} (h : wiB x (nI 0) (nI b) = true) (hb : b < 2147483648) : x = nI x.toNatClampNeg ∧ x.toNatClampNeg ≤ b := by
  simp only [wiB, Bool.and_eq_true, decide_eq_true_eq] at h
  have h0 : ¬ x < 0 := fun q => by
    have h1 := h.1
    rw [Int32.lt_iff_toInt_lt, Int32.toInt_zero] at q
    rw [Int32.le_iff_toInt_le, nI_toInt (by omega)] at h1
    omega
  obtain ⟨j, hj, e⟩ := nI_of h0
  have hc : x.toNatClampNeg = j := by rw [e]; exact nI_clamp hj
  rw [hc]
  refine ⟨e, ?_⟩
  have h2 := h.2
  rw [e] at h2
  exact nI_le' h2 hj (by omega)
def addM (n : Nat) (M : Nat → Nat → Int32) : Nat → Nat → Int32 := fun m => if m = 2 then upd (M 2) n (-1) else M m
def updM (M : Nat → Nat → Int32) (m o : Nat) (v : Int32) : Nat → Nat → Int32 := fun k => if k = m then upd (M m) o v else M k
/-- the ends of the first i objects that lead to o are moved -/
def movM (n : Nat) (M : Nat → Nat → Int32) (o : Nat) (d : Int32) (i : Nat) : Nat → Nat → Int32 := fun k => if k = 3 then (fun x => if x < i ∧ ldB n (M 2) n (nI x) (nI o) = true then M 3 x + d else M 3 x) else M k
def dueM (n : Nat) (M : Nat → Nat → Int32) (o : Nat) : Int32 := M 0 o + (if hasB n (M 2 o) = true then M 3 (M 2 o).toNatClampNeg else nI 0)
def putM (n : Nat) (M : Nat → Nat → Int32) (m o : Nat) (v : Int32) : Nat → Nat → Int32 := movM n (updM M m o v) o (dueM n (updM M m o v) o - updM M m o v 3 o) n
def Zt (n : Nat) (M : Nat → Nat → Int32) : Prop := ∀ m o, n ≤ o → M m o = 0
theorem cpyZ {f g : Nat → Int32} {n : Nat} (hf : ∀ o, n ≤ o → f o = 0) (hg : ∀ o, n ≤ o → g o = 0) : va_cpy f g 0 0 n = f := by
  funext j
  by_cases h : j < n
  · rw [pk_cpy_in (Nat.zero_le _) (by omega)]
    rw [show 0 + (j - 0) = j by omega]
  · rw [pk_cpy_out (Or.inr (by omega)), hg j (by omega), hf j (by omega)]
theorem movM_0 (n : Nat) (M : Nat → Nat → Int32) (o : Nat) (d : Int32) : movM n M o d 0 = M := by
  funext k
  unfold movM
  split
  · next h => subst h; simp
  · rfl
theorem movM_z (n : Nat) (M : Nat → Nat → Int32) (o i j : Nat) : movM n M o 0 i = movM n M o 0 j := by
  funext k
  unfold movM
  split
  · funext x
    simp
  · rfl
theorem movM_no {n : Nat} {M : Nat → Nat → Int32} {o : Nat} {d : Int32} {i : Nat} (h : ldB n (M 2) n (nI i) (nI o) = false) : movM n M o d (i + 1) = movM n M o d i := by
  funext k
  unfold movM
  split
  · funext x
    by_cases hx : x = i
    · subst hx; simp [h]
    · have : x < i + 1 ↔ x < i := by omega
      simp [this]
  · rfl
theorem movM_yes {n : Nat} {M : Nat → Nat → Int32} {o : Nat} {d : Int32} {i : Nat} (h : ldB n (M 2) n (nI i) (nI o) = true) : movM n M o d (i + 1) 3 = upd (movM n M o d i 3) i (movM n M o d i 3 i + d) := by
  funext x
  by_cases hx : x = i
  · subst hx; simp [movM, upd, h]
  · have : x < i + 1 ↔ x < i := by omega
    simp [movM, upd, hx, this]
