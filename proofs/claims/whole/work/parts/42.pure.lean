/-! a rule's worth: the reference's way and the object's are one -/
def bI (x : Int32) (b : Int) : Prop := -b ≤ x.toInt ∧ x.toInt ≤ b
theorem bmod32 {x : Int} (h1 : -2147483648 ≤ x) (h2 : x < 2147483648) : x.bmod (2 ^ 32) = x := by
  rw [Int.bmod_def]
  split <;> omega
theorem bmod64 {x : Int} (h1 : -9223372036854775808 ≤ x) (h2 : x < 9223372036854775808) : x.bmod (2 ^ 64) = x := by
  rw [Int.bmod_def]
  split <;> omega
theorem sub32 {a b : Int32} (h1 : -2147483648 ≤ a.toInt - b.toInt) (h2 : a.toInt - b.toInt < 2147483648) : (a - b).toInt = a.toInt - b.toInt := by
  rw [Int32.toInt_sub]; exact bmod32 h1 h2
theorem add32 {a b : Int32} (h1 : -2147483648 ≤ a.toInt + b.toInt) (h2 : a.toInt + b.toInt < 2147483648) : (a + b).toInt = a.toInt + b.toInt := by
  rw [Int32.toInt_add]; exact bmod32 h1 h2
theorem sub64 {a b : Int64} (h1 : -9223372036854775808 ≤ a.toInt - b.toInt) (h2 : a.toInt - b.toInt < 9223372036854775808) : (a - b).toInt = a.toInt - b.toInt := by
  rw [Int64.toInt_sub]; exact bmod64 h1 h2
theorem add64 {a b : Int64} (h1 : -9223372036854775808 ≤ a.toInt + b.toInt) (h2 : a.toInt + b.toInt < 9223372036854775808) : (a + b).toInt = a.toInt + b.toInt := by
  rw [Int64.toInt_add]; exact bmod64 h1 h2
theorem t64 (x : Int32) : x.toInt64.toInt = x.toInt := Int32.toInt_toInt64 x
theorem b32 (x : Int32) : -2147483648 ≤ x.toInt ∧ x.toInt < 2147483648 := ⟨Int32.minValue_le_toInt x, by have := Int32.toInt_lt x; omega⟩
theorem sub_64 {a b : Int32} (h1 : -2147483648 ≤ a.toInt - b.toInt) (h2 : a.toInt - b.toInt < 2147483648) : (a - b).toInt64 = a.toInt64 - b.toInt64 := by
  have ha := b32 a
  have hb := b32 b
  rw [← Int64.toInt_inj, t64, sub32 h1 h2, sub64 (by rw [t64, t64]; omega) (by rw [t64, t64]; omega), t64, t64]
theorem sumL_b {f : Nat → Int32} {n : Nat} (h : ∀ o, o < n → bI (f o) 40000) : ∀ i, i ≤ n → -(40000 * (i : Int)) ≤ (sumL f i).toInt ∧ (sumL f i).toInt ≤ 40000 * i ∨ 40 < i
  | 0, _ => Or.inl (by simp [sumL])
  | i + 1, hi => by
    by_cases h40 : 40 < i + 1
    · exact Or.inr h40
    · left
      have ih := (sumL_b h i (by omega)).resolve_right (by omega)
      have hb := h i (by omega)
      unfold bI at hb
      have e : (sumL f (i + 1)).toInt = (sumL f i).toInt + (f i).toInt := by
        show (sumL f i + (f i).toInt64).toInt = _
        rw [add64 (by rw [t64]; omega) (by rw [t64]; omega), t64]
      rw [e]
      omega
theorem acW_0 {kd : Nat} {f g : Nat → Int32} {c : Int32} {n : Nat} (h0 : kd ≠ 3) (h1 : kd ≠ 4) (h2 : kd ≠ 5) (h3 : kd ≠ 0) : ∀ i, acW kd f g c n i = 0
  | 0 => rfl
  | i + 1 => by
    unfold acW
    rw [acW_0 h0 h1 h2 h3 i]
    simp [A3, A0, A4, A5, h0, h1, h2, h3]
theorem w0 {f g : Nat → Int32} {c : Int32} {n : Nat} (hf : ∀ o, o < n → bI (f o) 40000) (hc : bI c 1000000) : ∀ i, i ≤ n → acW 0 f g c n i = eaL f c i
  | 0, _ => rfl
  | i + 1, hi => by
    unfold acW eaL
    rw [w0 hf hc i (by omega)]
    have hb := hf i (by omega)
    unfold bI at hb hc
    have e := sub32 (a := f i) (b := c) (by omega) (by omega)
    simp only [A3, A0, A4, A5]
    by_cases h : c < f i
    · have h2 : nI 0 < f i - c := by
        rw [Int32.lt_iff_toInt_lt] at h ⊢
        rw [e, nI_toInt (by omega)]
        omega
      simp [h, h2, sub_64 (a := f i) (b := c) (by omega) (by omega)]
    · have h2 : ¬ nI 0 < f i - c := by
        rw [Int32.lt_iff_toInt_lt] at h ⊢
        rw [e, nI_toInt (by omega)]
        omega
      simp [h, h2, show (nI 0).toInt64 = 0 from by decide]
/-- how many pairs: told from the later one, told from the earlier one -/
def sgT (f : Nat → Int32) (n : Nat) : Nat → Nat
  | 0 => 0
  | i + 1 => sgT f n i + cgT f i n
def spT (f : Nat → Int32) : Nat → Nat
  | 0 => 0
  | i + 1 => spT f i + cnt f (f i) 0 i
theorem cgT_0 (f : Nat → Int32) (i : Nat) : ∀ j, j ≤ i + 1 → cgT f i j = 0
  | 0, _ => rfl
  | j + 1, h => by
    unfold cgT
    rw [cgT_0 f i j (by omega), if_neg (fun q => by omega)]
theorem sgT_s (f : Nat → Int32) (n : Nat) : ∀ i, i ≤ n → sgT f (n + 1) i = sgT f n i + cnt f (f n) 0 i
  | 0, _ => rfl
  | i + 1, h => by
    unfold sgT cnt
    rw [sgT_s f n i (by omega)]
    have e : cgT f i (n + 1) = cgT f i n + (if f n = f i ∧ i < n then 1 else 0) := rfl
    rw [e, Nat.zero_add]
    by_cases h2 : f i = f n
    · rw [if_pos ⟨h2.symm, by omega⟩, if_pos h2]; omega
    · rw [if_neg (fun q => h2 q.1.symm), if_neg h2]; omega
theorem sg_sp (f : Nat → Int32) : ∀ n, sgT f n n = spT f n
  | 0 => rfl
  | n + 1 => by
    show sgT f (n + 1) n + cgT f n (n + 1) = spT f n + cnt f (f n) 0 n
    rw [sgT_s f n n (Nat.le_refl n), cgT_0 f n (n + 1) (Nat.le_refl _), sg_sp f n]
    omega
theorem w3a {f g : Nat → Int32} {c : Int32} {n : Nat} : ∀ i, acW 3 f g c n i = lN (sgT f n i)
  | 0 => rfl
  | i + 1 => by
    unfold acW
    rw [w3a i]
    simp [A3, A0, A4, A5, sgT, lN_add]
theorem w3b {f : Nat → Int32} {n : Nat} (hn : n ≤ 40) : ∀ i, i ≤ n → epL f i = lN (spT f i)
  | 0, _ => rfl
  | i + 1, h => by
    unfold epL
    rw [w3b hn i (by omega), nI_l (by have := cnt_le f (f i) 0 i; omega), lN_add]
    rfl
theorem cnt_add (f : Nat → Int32) (x : Int32) (a b : Nat) : ∀ c, cnt f x a (b + c) = cnt f x a b + cnt f x (a + b) c
  | 0 => rfl
  | c + 1 => by
    have e1 : cnt f x a (b + (c + 1)) = cnt f x a (b + c) + (if f (a + (b + c)) = x then 1 else 0) := rfl
    have e2 : cnt f x (a + b) (c + 1) = cnt f x (a + b) c + (if f (a + b + c) = x then 1 else 0) := rfl
    rw [e1, e2, cnt_add f x a b c, Nat.add_assoc a b c]
    omega
theorem fsB_iff (f : Nat → Int32) (i : Nat) : ∀ j, fsB f i j = true ↔ cnt f (f i) 0 (if j < i then j else i) = 0
  | 0 => by
    have : (if 0 < i then 0 else i) = 0 := by split <;> omega
    rw [this]
    simp [fsB, cnt]
  | j + 1 => by
    unfold fsB
    rw [Bool.and_eq_true, fsB_iff f i j]
    by_cases h : j < i
    · by_cases h2 : j + 1 < i
      · rw [if_pos h, if_pos h2]
        show _ ↔ cnt f (f i) 0 j + (if f (0 + j) = f i then 1 else 0) = 0
        rw [Nat.zero_add]
        by_cases h3 : f j = f i
        · simp [h3]; omega
        · simp [h3]
      · have e : i = j + 1 := by omega
        rw [if_pos h, if_neg h2]
        subst e
        show _ ↔ cnt f (f (j + 1)) 0 j + (if f (0 + j) = f (j + 1) then 1 else 0) = 0
        rw [Nat.zero_add]
        by_cases h3 : f j = f (j + 1)
        · simp [h3]
        · simp [h3]
    · rw [if_neg h, if_neg (by omega)]
      simp [show i ≤ j by omega]
theorem w4 {f g : Nat → Int32} {c : Int32} {n : Nat} (hn : n ≤ 40) (hc : bI c 1000000) : ∀ i, i ≤ n → acW 4 f g c n i = crL f (if nI 0 < c then c else nI 0) n i
  | 0, _ => rfl
  | i + 1, hi => by
    unfold acW crL
    rw [w4 hn hc i (by omega)]
    unfold bI at hc
    have z : (nI 0).toInt = 0 := nI_toInt (by omega)
    have hov : (if nI 0 < c then c else nI 0) = ovI c := by
      unfold ovI
      by_cases h : c < 0
      · rw [if_pos h, if_neg (by rw [Int32.lt_iff_toInt_lt] at h ⊢; rw [Int32.toInt_zero] at h; omega)]
      · rw [if_neg h]
        by_cases h2 : nI 0 < c
        · rw [if_pos h2]
        · rw [if_neg h2, ← Int32.toInt_inj, z]
          rw [Int32.lt_iff_toInt_lt] at h h2
          rw [Int32.toInt_zero] at h
          omega
    rw [hov]
    have ho : 0 ≤ (ovI c).toInt ∧ (ovI c).toInt ≤ 1000000 := by
      unfold ovI
      by_cases h : c < 0
      · rw [if_pos h, z]; omega
      · rw [if_neg h]
        rw [Int32.lt_iff_toInt_lt, Int32.toInt_zero] at h
        omega
    have hs : fsB f i n = true ↔ cnt f (f i) 0 i = 0 := by
      rw [fsB_iff, if_neg (by omega)]
    have hsum : cnt f (f i) 0 n = cnt f (f i) 0 i + cnt f (f i) i (n - i) := by
      have := cnt_add f (f i) 0 i (n - i)
      rw [show i + (n - i) = n by omega, Nat.zero_add] at this
      exact this
    have hle := cnt_le f (f i) i (n - i)
    simp only [A3, A0, A4, A5]
    by_cases h : cnt f (f i) 0 i = 0
    · have h1 := hs.mpr h
      rw [h, Nat.zero_add] at hsum
      rw [hsum]
      have ei : (nI (cnt f (f i) i (n - i))).toInt = (cnt f (f i) i (n - i) : Int) := nI_toInt (by omega)
      have e := sub32 (a := nI (cnt f (f i) i (n - i))) (b := ovI c) (by rw [ei]; omega) (by rw [ei]; omega)
      by_cases h2 : ovI c < nI (cnt f (f i) i (n - i))
      · have h3 : nI 0 < nI (cnt f (f i) i (n - i)) - ovI c := by
          rw [Int32.lt_iff_toInt_lt] at h2 ⊢
          rw [e, z]; omega
        simp [h, h1, h2, h3]
      · have h3 : ¬ nI 0 < nI (cnt f (f i) i (n - i)) - ovI c := by
          rw [Int32.lt_iff_toInt_lt] at h2 ⊢
          rw [e, z]; omega
        simp [h, h1, h2, h3, show (nI 0).toInt64 = 0 from by decide]
    · have h1 : ¬ fsB f i n = true := fun q => h (hs.mp q)
      simp [h, h1]
theorem w5 {f g : Nat → Int32} {c : Int32} {n : Nat} (hn : n ≤ 40) (hg : ∀ o, o < n → g o < 0 ∨ ∃ b, b < n ∧ g o = nI b) : ∀ i, i ≤ n → acW 5 f g c n i = lbL n f g i
  | 0, _ => rfl
  | i + 1, hi => by
    unfold acW lbL
    rw [w5 hn hg i (by omega)]
    simp only [A3, A0, A4, A5]
    rcases hg i (by omega) with h | ⟨b, hb, e⟩
    · have h2 : hasB n (g i) = false := by simp [hasB, h]
      simp [h, h2, b2i]
    · have h1 : ¬ g i < 0 := by rw [e]; exact nI_pos (by omega)
      have h2 : hasB n (g i) = true := by rw [e, hasB_nI (by omega) (by omega)]; simp [hb]
      by_cases h3 : f i < f (g i).toNatClampNeg
      · have h4 : ¬ f (g i).toNatClampNeg ≤ f i := by
          rw [Int32.lt_iff_toInt_lt] at h3
          rw [Int32.le_iff_toInt_le]; omega
        simp [h1, h2, h3, h4, b2i]
      · have h4 : f (g i).toNatClampNeg ≤ f i := by
          rw [Int32.lt_iff_toInt_lt] at h3
          rw [Int32.le_iff_toInt_le]; omega
        simp [h1, h2, h3, h4, b2i]
theorem rw_wth {kd : Nat} {c w : Int32} {f g : Nat → Int32} {n : Nat} (hkd : kd < 6) (hn : n ≤ 40) (hf : ∀ o, o < n → bI (f o) 40000) (hc : bI c 1000000) (hg : ∀ o, o < n → g o < 0 ∨ ∃ b, b < n ∧ g o = nI b) : rwO kd c w f g n = wth kd c w f g n := by
  have hs := (sumL_b hf n (Nat.le_refl n)).resolve_right (by omega)
  have hcc := hc
  unfold bI at hcc
  have e1 : (sumL f n - c.toInt64).toInt = (sumL f n).toInt - c.toInt := by rw [sub64 (by rw [t64]; omega) (by rw [t64]; omega), t64]
  unfold rwO wth
  have h6 : kd = 0 ∨ kd = 1 ∨ kd = 2 ∨ kd = 3 ∨ kd = 4 ∨ kd = 5 := by omega
  rw [Int64.mul_comm]
  rcases h6 with rfl | rfl | rfl | rfl | rfl | rfl
  · simp [w0 hf hc n (Nat.le_refl n)]
  · simp only [Nat.one_ne_zero, if_true, if_false]
    congr 1
    by_cases h : c.toInt64 < sumL f n
    · have h2 : ¬ sumL f n - c.toInt64 < 0 := by
        rw [Int64.lt_iff_toInt_lt] at h ⊢
        rw [e1, Int64.toInt_zero]; rw [t64] at h; omega
      rw [if_pos h, if_neg h2]
    · rw [if_neg h]
      by_cases h2 : sumL f n - c.toInt64 < 0
      · rw [if_pos h2]
      · rw [if_neg h2, ← Int64.toInt_inj, e1, Int64.toInt_zero]
        rw [Int64.lt_iff_toInt_lt] at h h2
        rw [e1, Int64.toInt_zero] at h2
        rw [t64] at h
        omega
  · simp only [show (2 : Nat) ≠ 0 by omega, show (2 : Nat) ≠ 1 by omega, if_true, if_false]
    congr 1
    by_cases h : c.toInt64 < sumL f n
    · have h2 : 0 < sumL f n - c.toInt64 := by
        rw [Int64.lt_iff_toInt_lt] at h ⊢
        rw [e1, Int64.toInt_zero]; rw [t64] at h; omega
      rw [if_pos h, if_pos h2]
    · have h2 : ¬ 0 < sumL f n - c.toInt64 := by
        rw [Int64.lt_iff_toInt_lt] at h ⊢
        rw [e1, Int64.toInt_zero]; rw [t64] at h; omega
      rw [if_neg h, if_neg h2]
      exact (Int64.neg_sub).symm
  · simp [w3a, w3b hn n (Nat.le_refl n), sg_sp]
  · simp [w4 hn hc n (Nat.le_refl n)]
  · simp [w5 hn hg n (Nat.le_refl n)]
