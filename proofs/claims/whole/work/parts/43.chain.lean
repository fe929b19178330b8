/-! chains of BEFORE; ENDS -/
def acy (n : Nat) (g : Nat → Int32) (rk : Nat → Nat) : Prop := ∀ o, o < n → ∀ b, b < n → g o = nI b → rk b < rk o
def crk (rk : Nat → Nat) (x : Nat) : Nat → Nat
  | 0 => 0
  | y + 1 => crk rk x y + (if rk y < rk x then 1 else 0)
theorem crk_le (rk : Nat → Nat) (x : Nat) : ∀ y, crk rk x y ≤ y
  | 0 => Nat.le_refl 0
  | y + 1 => by
    have := crk_le rk x y
    unfold crk
    split <;> omega
theorem crk_lt (rk : Nat → Nat) (x : Nat) : ∀ y, x < y → crk rk x y < y
  | 0, h => by omega
  | y + 1, h => by
    unfold crk
    by_cases e : x = y
    · subst e
      have := crk_le rk x x
      rw [if_neg (by omega)]
      omega
    · have := crk_lt rk x y (by omega)
      split <;> omega
theorem crk_mono {rk : Nat → Nat} {b x : Nat} (h : rk b < rk x) : ∀ y, crk rk b y ≤ crk rk x y ∧ (b < y → crk rk b y < crk rk x y)
  | 0 => ⟨Nat.le_refl 0, fun q => absurd q (Nat.not_lt_zero _)⟩
  | y + 1 => by
    obtain ⟨h1, h2⟩ := crk_mono h y
    unfold crk
    by_cases c1 : rk y < rk b
    · rw [if_pos c1, if_pos (by omega)]
      refine ⟨by omega, fun q => ?_⟩
      by_cases e : b = y
      · subst e; omega
      · have := h2 (by omega); omega
    · rw [if_neg c1]
      by_cases e : b = y
      · subst e
        rw [if_pos h]
        exact ⟨by omega, fun _ => by omega⟩
      · refine ⟨by split <;> omega, fun q => ?_⟩
        have := h2 (by omega)
        split <;> omega
theorem acy_c {n : Nat} {g : Nat → Int32} {rk : Nat → Nat} (h : acy n g rk) : acy n g (fun x => crk rk x n) ∧ ∀ o, o < n → crk rk o n < n :=
  ⟨fun o ho b hb e => (crk_mono (h o ho b hb e) n).2 hb, fun o ho => crk_lt rk o n ho⟩
theorem ld_no {n : Nat} {g : Nat → Int32} {x t : Int32} (h : hasB n x = false) : ∀ k, ldB n g k x t = false
  | 0 => rfl
  | k + 1 => by unfold ldB; rw [h]; rfl
theorem ld_st {n : Nat} {g : Nat → Int32} {dp : Nat → Nat} (h : acy n g dp) (hn : n ≤ 40) (t : Int32) : ∀ k x, x < n → dp x < k → ldB n g (k + 1) (nI x) t = ldB n g k (nI x) t
  | 0, x, _, hk => absurd hk (Nat.not_lt_zero _)
  | k + 1, x, hx, hk => by
    have e1 : ldB n g (k + 1 + 1) (nI x) t = (hasB n (nI x) && (decide (nI x = t) || ldB n g (k + 1) (g (nI x).toNatClampNeg) t)) := rfl
    have e2 : ldB n g (k + 1) (nI x) t = (hasB n (nI x) && (decide (nI x = t) || ldB n g k (g (nI x).toNatClampNeg) t)) := rfl
    rw [e1, e2, nI_clamp (by omega)]
    cases hb : hasB n (g x) with
    | false => rw [ld_no hb, ld_no hb]
    | true =>
      obtain ⟨q1, q2⟩ := hasB_of hb (by omega)
      have := h x hx _ q2 q1
      rw [q1, ld_st h hn t k _ q2 (by omega)]
theorem ld_step {n : Nat} {g : Nat → Int32} {dp : Nat → Nat} (h : acy n g dp) (hd : ∀ o, o < n → dp o < n) (hn : n ≤ 40) {x : Nat} (hx : x < n) (t : Int32) : ldB n g n (nI x) t = (decide (nI x = t) || ldB n g n (g x) t) := by
  obtain ⟨k, rfl⟩ : ∃ k, n = k + 1 := ⟨n - 1, by omega⟩
  have e1 : ldB (k + 1) g (k + 1) (nI x) t = (hasB (k + 1) (nI x) && (decide (nI x = t) || ldB (k + 1) g k (g (nI x).toNatClampNeg) t)) := rfl
  rw [e1, nI_clamp (by omega), hasB_nI (by omega) (by omega)]
  simp only [hx, decide_true, Bool.true_and]
  congr 1
  cases hb : hasB (k + 1) (g x) with
  | false => rw [ld_no hb, ld_no hb]
  | true =>
    obtain ⟨q1, q2⟩ := hasB_of hb (by omega)
    have h1 := h x hx _ q2 q1
    have h2 := hd x hx
    rw [q1, ld_st h hn t k _ q2 (by omega)]
theorem ld_dp {n : Nat} {g : Nat → Int32} {dp : Nat → Nat} (h : acy n g dp) (hn : n ≤ 40) {o : Nat} (ho : o < n) : ∀ k x, x < n → ldB n g k (nI x) (nI o) = true → dp o ≤ dp x
  | 0, _, _, q => by cases q
  | k + 1, x, hx, q => by
    have e1 : ldB n g (k + 1) (nI x) (nI o) = (hasB n (nI x) && (decide (nI x = nI o) || ldB n g k (g (nI x).toNatClampNeg) (nI o))) := rfl
    rw [e1, nI_clamp (by omega), Bool.and_eq_true, Bool.or_eq_true] at q
    rcases q.2 with h1 | h1
    · have := nI_eq' (of_decide_eq_true h1) (by omega) (by omega)
      subst this
      exact Nat.le_refl _
    · cases hb : hasB n (g x) with
      | false => rw [ld_no hb] at h1; cases h1
      | true =>
        obtain ⟨q1, q2⟩ := hasB_of hb (by omega)
        rw [q1] at h1
        have := ld_dp h hn ho k _ q2 h1
        have := h x hx _ q2 q1
        omega
theorem ld_self {n : Nat} {g : Nat → Int32} {dp : Nat → Nat} (h : acy n g dp) (hn : n ≤ 40) {o : Nat} (ho : o < n) (k : Nat) : ldB n g k (g o) (nI o) = false := by
  cases hb : hasB n (g o) with
  | false => exact ld_no hb k
  | true =>
    obtain ⟨q1, q2⟩ := hasB_of hb (by omega)
    cases hl : ldB n g k (g o) (nI o) with
    | false => rfl
    | true =>
      rw [q1] at hl
      have h1 := ld_dp h hn ho k _ q2 hl
      have h2 := h o ho _ q2 q1
      omega
def endK (n : Nat) (M : Nat → Nat → Int32) : Prop := ∀ o, o < n → M 3 o = dueM n M o
theorem updM_3 {M : Nat → Nat → Int32} {m o : Nat} {v : Int32} (hm : m < 3) : updM M m o v 3 = M 3 := by unfold updM; rw [if_neg (by omega)]
theorem updM_ne {M : Nat → Nat → Int32} {m o x k : Nat} {v : Int32} (h : ¬ x = o) : updM M m o v k x = M k x := by
  unfold updM
  by_cases q : k = m
  · rw [if_pos q, pk_un h, q]
  · rw [if_neg q]
theorem end_put {n : Nat} {M : Nat → Nat → Int32} {m o : Nat} {v : Int32} {dp : Nat → Nat} (hn : n ≤ 40) (hm : m < 3) (ho : o < n) (hE : endK n M) (ha : acy n (updM M m o v 2) dp) (hd : ∀ x, x < n → dp x < n) : endK n (putM n M m o v) := by
  unfold putM
  obtain ⟨M1, eM⟩ : ∃ y, y = updM M m o v := ⟨_, rfl⟩
  rw [← eM] at ha ⊢
  have h3 : M1 3 = M 3 := by rw [eM]; exact updM_3 hm
  obtain ⟨d, ed⟩ : ∃ y, y = dueM n M1 o - M1 3 o := ⟨_, rfl⟩
  rw [← ed]
  intro x hx
  have r0 : movM n M1 o d n 0 = M1 0 := rfl
  have r2 : movM n M1 o d n 2 = M1 2 := rfl
  have r3 : ∀ y, y < n → movM n M1 o d n 3 y = if ldB n (M1 2) n (nI y) (nI o) = true then M1 3 y + d else M1 3 y := fun y hy => by
    show (if y < n ∧ ldB n (M1 2) n (nI y) (nI o) = true then _ else _) = _
    simp [hy]
  have st := ld_step ha hd hn hx (nI o)
  unfold dueM
  rw [r0, r2, r3 x hx, st]
  by_cases e : x = o
  · subst e
    simp only [decide_true, Bool.true_or, if_true]
    have hself := ld_self ha hn hx n
    have hdue : M1 3 x + d = dueM n M1 x := by rw [ed, Int32.add_comm]; exact Int32.sub_add_cancel _ _
    rw [hdue]
    unfold dueM
    cases hb : hasB n (M1 2 x) with
    | false => rfl
    | true =>
      obtain ⟨q1, q2⟩ := hasB_of hb (by omega)
      rw [r3 _ q2, ← q1, hself]
      rfl
  · have hne : ¬ nI x = nI o := fun q => e (nI_eq' q (by omega) (by omega))
    simp only [hne, decide_false, Bool.false_or]
    have hE1 : M1 3 x = dueM n M1 x := by
      rw [h3, hE x hx]
      unfold dueM
      have a0 : M1 0 x = M 0 x := by rw [eM]; exact updM_ne e
      have a2 : M1 2 x = M 2 x := by rw [eM]; exact updM_ne e
      rw [a0, a2, h3]
    rw [hE1]
    unfold dueM
    cases hb : hasB n (M1 2 x) with
    | false => rw [ld_no hb]; rfl
    | true =>
      obtain ⟨q1, q2⟩ := hasB_of hb (by omega)
      rw [r3 _ q2, ← q1]
      cases hl : ldB n (M1 2) n (M1 2 x) (nI o) with
      | false => rfl
      | true =>
        simp only [if_true]
        rw [Int32.add_assoc]
theorem end_one {n : Nat} {M M' : Nat → Nat → Int32} {dp : Nat → Nat} (ha : acy n (M 2) dp) (h1 : endK n M) (h2 : endK n M') (h0 : ∀ o, o < n → M' 0 o = M 0 o ∧ M' 2 o = M 2 o) (hn : n ≤ 40) : ∀ d o, o < n → dp o < d → M' 3 o = M 3 o
  | 0, _, _, q => absurd q (Nat.not_lt_zero _)
  | d + 1, o, ho, hd => by
    rw [h1 o ho, h2 o ho]
    unfold dueM
    rw [(h0 o ho).1, (h0 o ho).2]
    cases hb : hasB n (M 2 o) with
    | false => rfl
    | true =>
      obtain ⟨q1, q2⟩ := hasB_of hb (by omega)
      have := ha o ho _ q2 q1
      simp only [if_true]
      rw [end_one ha h1 h2 h0 hn d _ q2 (by omega)]
theorem acy_set {n : Nat} {g : Nat → Int32} {dp : Nat → Nat} {o w : Nat} (h : acy n g dp) (hd : ∀ x, x < n → dp x < n) (hn : n ≤ 40) (ho : o < n) (hw : w < n) (hl : ldB n g n (nI w) (nI o) = false) : ∃ rk, acy n (upd g o (nI w)) rk := by
  refine ⟨fun x => dp x + (if ldB n g n (nI x) (nI o) = true then dp w + 1 else 0), fun x hx b hb e => ?_⟩
  by_cases q : x = o
  · subst q
    rw [pk_us] at e
    have hbw := nI_eq' e (by omega) (by omega)
    subst hbw
    have hs : ldB n g n (nI x) (nI x) = true := by rw [ld_step h hd hn hx]; simp
    dsimp only
    rw [hl, hs]
    simp
    omega
  · rw [pk_un q] at e
    have h1 := h x hx b hb e
    have hs : ldB n g n (nI x) (nI o) = ldB n g n (nI b) (nI o) := by
      rw [ld_step h hd hn hx, e]
      simp [fun r => q (nI_eq' r (by omega) (by omega))]
      intro r
      exact absurd (nI_eq' r (by omega) (by omega)) q
    dsimp only
    rw [hs]
    omega
theorem acy_no {n : Nat} {g : Nat → Int32} {dp : Nat → Nat} {o : Nat} {v : Int32} (h : acy n g dp) (hn : n ≤ 40) (hv : hasB n v = false) : acy n (upd g o v) dp := by
  intro x hx b hb e
  by_cases q : x = o
  · subst q
    rw [pk_us] at e
    rw [e, hasB_nI (by omega) (by omega)] at hv
    simp at hv
    omega
  · rw [pk_un q] at e
    exact h x hx b hb e
