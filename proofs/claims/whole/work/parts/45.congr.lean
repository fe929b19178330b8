/-! only the first n count -/
theorem sumL_c {f f2 : Nat → Int32} : ∀ n, (∀ o, o < n → f o = f2 o) → sumL f n = sumL f2 n
  | 0, _ => rfl
  | n + 1, h => by unfold sumL; rw [sumL_c n (fun o ho => h o (by omega)), h n (by omega)]
theorem cnt_c {f f2 : Nat → Int32} (x : Int32) (a : Nat) : ∀ k, (∀ o, o < a + k → f o = f2 o) → cnt f x a k = cnt f2 x a k
  | 0, _ => rfl
  | k + 1, h => by unfold cnt; rw [cnt_c x a k (fun o ho => h o (by omega)), h (a + k) (by omega)]
theorem eaL_c {f f2 : Nat → Int32} (c : Int32) : ∀ n, (∀ o, o < n → f o = f2 o) → eaL f c n = eaL f2 c n
  | 0, _ => rfl
  | n + 1, h => by unfold eaL; rw [eaL_c c n (fun o ho => h o (by omega)), h n (by omega)]
theorem epL_c {f f2 : Nat → Int32} : ∀ n, (∀ o, o < n → f o = f2 o) → epL f n = epL f2 n
  | 0, _ => rfl
  | n + 1, h => by unfold epL; rw [epL_c n (fun o ho => h o (by omega)), h n (by omega), cnt_c _ 0 n (fun o ho => h o (by omega))]
theorem crL_c {f f2 : Nat → Int32} (c : Int32) (n : Nat) (h : ∀ o, o < n → f o = f2 o) : ∀ i, i ≤ n → crL f c n i = crL f2 c n i
  | 0, _ => rfl
  | i + 1, hi => by unfold crL; rw [crL_c c n h i (by omega), h i (by omega), cnt_c _ 0 i (fun o ho => h o (by omega)), cnt_c _ i (n - i) (fun o ho => h o (by omega))]
theorem lbL_c {f f2 g g2 : Nat → Int32} (n : Nat) (hn : n ≤ 40) (h : ∀ o, o < n → f o = f2 o) (hg : ∀ o, o < n → g o = g2 o) : ∀ i, i ≤ n → lbL n f g i = lbL n f2 g2 i
  | 0, _ => rfl
  | i + 1, hi => by
    unfold lbL
    rw [lbL_c n hn h hg i (by omega), hg i (by omega), h i (by omega)]
    cases hb : hasB n (g2 i) with
    | false => simp
    | true =>
      obtain ⟨q1, q2⟩ := hasB_of hb (by omega)
      rw [h _ q2]
theorem wth_c {kd : Nat} {bd wt : Int32} {f f2 g g2 : Nat → Int32} {n : Nat} (hn : n ≤ 40) (h : ∀ o, o < n → f o = f2 o) (hg : ∀ o, o < n → g o = g2 o) : wth kd bd wt f g n = wth kd bd wt f2 g2 n := by
  unfold wth
  rw [eaL_c bd n h, sumL_c n h, epL_c n h, crL_c _ n h n (Nat.le_refl n), lbL_c n hn h hg n (Nat.le_refl n)]
theorem ctT_c {kd : Nat} {f f' f2 f2' g g' g2 g2' : Nat → Int32} : ∀ n, (∀ o, o < n → f o = f' o) → (∀ o, o < n → f2 o = f2' o) → (∀ o, o < n → g o = g' o) → (∀ o, o < n → g2 o = g2' o) → ctT kd f f2 g g2 n = ctT kd f' f2' g' g2' n
  | 0, _, _, _, _ => rfl
  | n + 1, a, b, c, d => by
    unfold ctT
    rw [ctT_c n (fun o ho => a o (by omega)) (fun o ho => b o (by omega)) (fun o ho => c o (by omega)) (fun o ho => d o (by omega)), a n (by omega), b n (by omega), c n (by omega), d n (by omega)]
def viewR (mem : Nat → Int32) (pp : Nat) (M : Nat → Nat → Int32) : Prop := ∀ m, m < 4 → ∀ o, o < 40 → mem (160 * pp + 4 * o + m) = M m o
def ruleR (k : Nat) (ρ : RuT) (ak al ab aw : Nat → Int32) : Prop := ∀ r, r < k → ak r = nI (ρ r).1 ∧ al r = nI (ρ r).2.1 ∧ ab r = (ρ r).2.2.1 ∧ aw r = (ρ r).2.2.2.1
def okB (k : Nat) (ρ : RuT) : Prop := ∀ r, r < k → bI (ρ r).2.2.1 1000000
theorem worth_v {ρ : RuT} {r n pp : Nat} {mem : Nat → Int32} {M : Nat → Nat → Int32} (hk : (ρ r).1 < 6 ∧ (ρ r).2.1 < 4) (hb : bI (ρ r).2.2.1 1000000) (hn : n ≤ 40) (hv : viewR mem pp M) (hM : okM n M) : rwO (ρ r).1 (ρ r).2.2.1 (ρ r).2.2.2.1 (memV mem pp (ρ r).2.1) (memV mem pp 2) n = wthR ρ r M n := by
  have h1 : ∀ m, m < 4 → ∀ o, o < n → memV mem pp m o = M m o := fun m hm o ho => hv m hm o (by omega)
  rw [rw_wth hk.1 hn (fun o ho => by rw [h1 _ hk.2 o ho]; exact hM.rng hn _ hk.2 o ho) hb (fun o ho => by rw [h1 2 (by omega) o ho]; exact hM.bf o ho)]
  unfold wthR
  exact wth_c hn (h1 _ hk.2) (h1 2 (by omega))
/-- ends put into the first i objects of a plan -/
def feM (mem : Nat → Int32) (pp : Nat) (E : Nat → Int32) (i : Nat) : Nat → Int32 := fun j => if 160 * pp ≤ j ∧ (j - 160 * pp) / 4 < i ∧ (j - 160 * pp) % 4 = 3 then E ((j - 160 * pp) / 4) else mem j
theorem feM_0 (mem : Nat → Int32) (pp : Nat) (E : Nat → Int32) : feM mem pp E 0 = mem := by
  funext j
  unfold feM
  rw [if_neg (by omega)]
theorem feM_s (mem : Nat → Int32) (pp : Nat) (E : Nat → Int32) (i : Nat) : upd (feM mem pp E i) (160 * pp + 4 * i + 3) (E i) = feM mem pp E (i + 1) := by
  funext j
  by_cases h : j = 160 * pp + 4 * i + 3
  · subst h
    rw [pk_us]
    unfold feM
    rw [if_pos ⟨by omega, by omega, by omega⟩, show (160 * pp + 4 * i + 3 - 160 * pp) / 4 = i by omega]
  · rw [pk_un h]
    unfold feM
    by_cases c : 160 * pp ≤ j ∧ (j - 160 * pp) / 4 < i ∧ (j - 160 * pp) % 4 = 3
    · rw [if_pos c, if_pos ⟨c.1, by omega, c.2.2⟩]
    · rw [if_neg c, if_neg (fun q => c ⟨q.1, by omega, q.2.2⟩)]
theorem feM_m {mem : Nat → Int32} {pp : Nat} {E : Nat → Int32} {i o m : Nat} (hm : m < 3) : feM mem pp E i (160 * pp + 4 * o + m) = mem (160 * pp + 4 * o + m) := by
  unfold feM
  rw [if_neg (by omega)]
theorem feM_3 {mem : Nat → Int32} {pp : Nat} {E : Nat → Int32} {i o : Nat} : feM mem pp E i (160 * pp + 4 * o + 3) = if o < i then E o else mem (160 * pp + 4 * o + 3) := by
  unfold feM
  rw [show (160 * pp + 4 * o + 3 - 160 * pp) / 4 = o by omega]
  by_cases h : o < i
  · rw [if_pos ⟨by omega, h, by omega⟩, if_pos h]
  · rw [if_neg (fun q => h q.2.1), if_neg h]
theorem wiB_m1i {n : Nat} {v : Int32} (hn : n < 2147483648) : wiB v (-1) (nI n - nI 1) = (decide (v = -1) || hasB n v) := by
  have hs : (nI n - nI 1).toInt = (n : Int) - 1 := by
    by_cases h : n < 1
    · have : n = 0 := by omega
      subst this
      decide
    · rw [pk_sub (by omega), nI_toInt (by omega)]; omega
  have m1 : (-1 : Int32).toInt = -1 := by decide
  unfold wiB hasB
  have e1 : (-1 ≤ v) ↔ -1 ≤ v.toInt := by rw [Int32.le_iff_toInt_le, m1]
  have e2 : (v ≤ nI n - nI 1) ↔ v.toInt ≤ (n : Int) - 1 := by rw [Int32.le_iff_toInt_le, hs]
  have e3 : (v = -1) ↔ v.toInt = -1 := by rw [← Int32.toInt_inj, m1]
  have e4 : (v < 0) ↔ v.toInt < 0 := by rw [Int32.lt_iff_toInt_lt, Int32.toInt_zero]
  have e5 : (nI n ≤ v) ↔ (n : Int) ≤ v.toInt := by rw [Int32.le_iff_toInt_le, nI_toInt (by omega)]
  simp only [e1, e2, e3, e4, e5]
  rw [Bool.eq_iff_iff]
  simp only [Bool.and_eq_true, Bool.or_eq_true, decide_eq_true_eq]
  omega
theorem wiB_m1 {n : Nat} {v : Int32} (hn : n < 2147483648) (h : wiB v (-1) (nI n - nI 1) = false) : ¬ v = -1 ∧ hasB n v = false := by
  rw [wiB_m1i hn] at h
  simpa using h
theorem wiB_m1t {n : Nat} {v : Int32} (hn : n < 2147483648) (h : wiB v (-1) (nI n - nI 1) = true) : v = -1 ∨ ∃ y, y < n ∧ v = nI y := by
  rw [wiB_m1i hn, Bool.or_eq_true] at h
  rcases h with q | q
  · exact Or.inl (of_decide_eq_true q)
  · obtain ⟨e, hl⟩ := hasB_of q hn
    exact Or.inr ⟨_, hl, e⟩
theorem fit_t {n oo : Nat} {g : Nat → Int32} {dp : Nat → Nat} {v x : Int32} {b : Bool} (ha : acy n g dp) (hd : ∀ o, o < n → dp o < n) (hn : n ≤ 40) (ho : oo < n) (h : b = (decide (v = -1) || (hasB n v && !(ldB n g n v (nI oo))))) (he : ldB n g n v (nI oo) = ldB n g n x (nI oo)) (hx : x = nI oo) : nI 0 = b2i b := by
  have e1 : ldB n g n v (nI oo) = true := by rw [he, hx, ld_step ha hd hn ho]; simp
  have hv : ¬ v = -1 := fun q => by rw [q, ld_no neg1] at e1; cases e1
  rw [h, e1]
  simp [hv, b2i, nI]
theorem fit_f {n oo : Nat} {g : Nat → Int32} {v x : Int32} {b : Bool} (hn : n ≤ 40) (h : b = (decide (v = -1) || (hasB n v && !(ldB n g n v (nI oo))))) (he : ldB n g n v (nI oo) = ldB n g n x (nI oo)) (hx : x < 0) (hv : v = -1 ∨ ∃ y, y < n ∧ v = nI y) : nI 1 = b2i b := by
  have e1 : hasB n x = false := by simp [hasB, hx]
  rw [h, he, ld_no e1]
  rcases hv with q | ⟨y, hy, q⟩
  · simp [q, b2i, nI]
  · rw [q, hasB_nI (by omega) (by omega)]
    simp [hy, b2i, nI]
theorem fit_d {n y : Nat} {g : Nat → Int32} {dp : Nat → Nat} {x : Int32} (ha : acy n g dp) (hn : n ≤ 40) (hg : ∀ o, o < n → g o = -1 ∨ ∃ b, b < n ∧ g o = nI b) (hy : y < n) (ex : x = nI y) : (if g y < 0 then 0 else dp (g y).toNatClampNeg + 1) < (if x < 0 then 0 else dp x.toNatClampNeg + 1) := by
  subst ex
  rw [if_neg (nI_pos (by omega)), nI_clamp (by omega)]
  rcases hg y hy with q | ⟨b, hb, q⟩
  · rw [q]; simp
  · rw [q, if_neg (nI_pos (by omega)), nI_clamp (by omega)]
    have := ha y hy b hb q
    omega
