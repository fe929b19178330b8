/-! what a table is, in every state -/
def okM (n : Nat) (M : Nat → Nat → Int32) : Prop := (∀ o, o < n → bI (M 0 o) 1000) ∧ (∀ o, o < n → M 2 o = -1 ∨ ∃ b, b < n ∧ M 2 o = nI b) ∧ (∃ rk, acy n (M 2) rk) ∧ endK n M ∧ ∀ o, o < n → bI (M 1 o) 20
theorem ld_congr {n : Nat} {g g2 : Nat → Int32} (h : ∀ o, o < n → g o = g2 o) (hn : n ≤ 40) (t : Int32) : ∀ k x, ldB n g k x t = ldB n g2 k x t
  | 0, _ => rfl
  | k + 1, x => by
    unfold ldB
    cases hb : hasB n x with
    | false => rfl
    | true =>
      obtain ⟨q1, q2⟩ := hasB_of hb (by omega)
      rw [h _ q2, ld_congr h hn t k]
theorem acy_congr {n : Nat} {g g2 : Nat → Int32} {rk : Nat → Nat} (h : ∀ o, o < n → g o = g2 o) (ha : acy n g rk) : acy n g2 rk := fun o ho b hb e => ha o ho b hb ((h o ho).trans e)
theorem neg1 {n : Nat} : hasB n (-1) = false := hasB_m1
theorem okM.put {n : Nat} {M : Nat → Nat → Int32} (h : okM n M) (hn : n ≤ 40) {oo mm : Nat} {v : Int32} (ho : oo < n) (hm : mm < 3) (ht : tkB n (M 2) (nI oo) (nI mm) v = true) : okM n (putM n M mm oo v) := by
  obtain ⟨h0, h2, ⟨rk, ha⟩, hE, h1⟩ := h
  obtain ⟨ha, hd⟩ := acy_c ha
  unfold tkB at ht
  rw [Bool.and_eq_true] at ht
  have ht := ht.2
  have r : ∀ k, k < 3 → putM n M mm oo v k = updM M mm oo v k := fun k hk => by unfold putM movM; rw [if_neg (by omega)]
  have a2 : ∃ rk, acy n (updM M mm oo v 2) rk := by
    by_cases e : mm = 2
    · subst e
      have eu : updM M 2 oo v 2 = upd (M 2) oo v := rfl
      rw [eu]
      rw [if_neg (by decide), if_neg (by decide), if_pos rfl, Bool.or_eq_true, Bool.and_eq_true] at ht
      rcases ht with q | ⟨q1, q2⟩
      · rw [of_decide_eq_true q]
        exact ⟨_, acy_no ha hn neg1⟩
      · obtain ⟨q3, q4⟩ := hasB_of q1 (by omega)
        rw [q3] at q2 ⊢
        exact acy_set ha hd hn ho q4 (by simpa using q2)
    · exact ⟨_, acy_congr (fun o ho => by unfold updM; rw [if_neg (by omega)]) ha⟩
  refine ⟨fun o hoo => ?_, fun o hoo => ?_, by rw [r 2 (by omega)]; exact a2, ?_, fun o hoo => ?_⟩
  · rw [r 0 (by omega)]
    by_cases e : o = oo
    · subst e
      by_cases e2 : mm = 0
      · subst e2
        rw [if_pos rfl] at ht
        simp only [wiB, Bool.and_eq_true, decide_eq_true_eq] at ht
        show bI (upd (M 0) o v o) 1000
        rw [pk_us]
        have t1 := ht.1
        have t2 := ht.2
        rw [Int32.le_iff_toInt_le] at t1 t2
        rw [nI_toInt (by omega)] at t2
        have : (-1000 : Int32).toInt = -1000 := by decide
        rw [this] at t1
        unfold bI
        omega
      · unfold updM
        rw [if_neg (by omega)]
        exact h0 o hoo
    · rw [updM_ne e]; exact h0 o hoo
  · rw [r 2 (by omega)]
    by_cases e : o = oo
    · subst e
      by_cases e2 : mm = 2
      · subst e2
        rw [if_neg (by decide), if_neg (by decide), if_pos rfl, Bool.or_eq_true, Bool.and_eq_true] at ht
        show upd (M 2) o v o = -1 ∨ _
        rw [pk_us]
        rcases ht with q | ⟨q1, q2⟩
        · exact Or.inl (of_decide_eq_true q)
        · obtain ⟨q3, q4⟩ := hasB_of q1 (by omega)
          exact Or.inr ⟨_, q4, by show upd (M 2) o v o = _; rw [pk_us]; exact q3⟩
      · unfold updM
        rw [if_neg (by omega)]
        exact h2 o hoo
    · rw [updM_ne e]; exact h2 o hoo
  · obtain ⟨rk2, ha2⟩ := a2
    obtain ⟨ha2, hd2⟩ := acy_c ha2
    exact end_put hn hm ho hE ha2 hd2
  · rw [r 1 (by omega)]
    by_cases e : o = oo
    · subst e
      by_cases e2 : mm = 1
      · subst e2
        rw [if_neg (by decide), if_pos rfl] at ht
        obtain ⟨q1, q2⟩ := wiB_of (b := 20) ht (by omega)
        show bI (upd (M 1) o v o) 20
        rw [pk_us, q1]
        unfold bI
        rw [nI_toInt (by omega)]
        omega
      · unfold updM
        rw [if_neg (by omega)]
        exact h1 o hoo
    · rw [updM_ne e]; exact h1 o hoo
theorem okM.rng {n : Nat} {M : Nat → Nat → Int32} (h : okM n M) (hn : n ≤ 40) : ∀ m, m < 4 → ∀ o, o < n → bI (M m o) 40000 := by
  obtain ⟨h0, h2, ⟨rk, ha⟩, hE, h1⟩ := h
  obtain ⟨ha, hd⟩ := acy_c ha
  have key : ∀ d o, o < n → crk rk o n < d → -(1000 * (crk rk o n + 1 : Int)) ≤ (M 3 o).toInt ∧ (M 3 o).toInt ≤ 1000 * (crk rk o n + 1) := by
    intro d
    induction d with
    | zero => intro o _ q; omega
    | succ d ih =>
      intro o ho hdo
      have hb := h0 o ho
      unfold bI at hb
      have hdn := hd o ho
      rw [hE o ho]
      unfold dueM
      cases hbb : hasB n (M 2 o) with
      | false =>
        have e : (M 0 o + nI 0).toInt = (M 0 o).toInt := by
          have z : (nI 0).toInt = 0 := nI_toInt (by omega)
          rw [add32 (by rw [z]; omega) (by rw [z]; omega), z]; omega
        simp only [Bool.false_eq_true, if_false]
        rw [e]
        omega
      | true =>
        obtain ⟨q1, q2⟩ := hasB_of hbb (by omega)
        have hlt : crk rk (M 2 o).toNatClampNeg n < crk rk o n := ha o ho _ q2 q1
        have h3 := ih _ q2 (by omega)
        simp only [if_true]
        rw [add32 (by omega) (by omega)]
        omega
  intro m hm o ho
  have h4 : m = 0 ∨ m = 1 ∨ m = 2 ∨ m = 3 := by omega
  rcases h4 with rfl | rfl | rfl | rfl
  · have := h0 o ho; unfold bI at this ⊢; omega
  · have := h1 o ho; unfold bI at this ⊢; omega
  · unfold bI
    rcases h2 o ho with e | ⟨b, hb, e⟩
    · rw [e]; decide
    · rw [e, nI_toInt (by omega)]; omega
  · have := key _ o ho (Nat.lt_succ_self _)
    have := hd o ho
    unfold bI
    omega
theorem okM.bf {n : Nat} {M : Nat → Nat → Int32} (h : okM n M) : ∀ o, o < n → M 2 o < 0 ∨ ∃ b, b < n ∧ M 2 o = nI b := fun o ho => (h.2.1 o ho).imp (fun e => by rw [e]; decide) id
/-- taking a change back gives what was -/
theorem put_put {n : Nat} {M : Nat → Nat → Int32} (h : okM n M) (hn : n ≤ 40) {oo mm : Nat} {v : Int32} (ho : oo < n) (hm : mm < 3) (h2 : okM n (putM n M mm oo v)) : putM n (putM n M mm oo v) mm oo (M mm oo) = M := by
  have r : ∀ (N : Nat → Nat → Int32) (w : Int32) k, ¬ k = 3 → putM n N mm oo w k = updM N mm oo w k := fun N w k hk => by unfold putM movM; rw [if_neg hk]
  have rows : ∀ k, ¬ k = 3 → putM n (putM n M mm oo v) mm oo (M mm oo) k = M k := fun k hk => by
    rw [r _ _ k hk]
    unfold updM
    by_cases e : k = mm
    · rw [if_pos e, r M v mm (by omega)]
      unfold updM
      rw [if_pos rfl, e]
      funext x
      by_cases q : x = oo
      · subst q; rw [pk_us]
      · rw [pk_un q, pk_un q]
    · rw [if_neg e, r M v k hk]
      unfold updM
      rw [if_neg e]
  obtain ⟨rk, ha⟩ := h.2.2.1
  obtain ⟨ha, hd⟩ := acy_c ha
  have eu : ∀ o, o < n → M 2 o = updM (putM n M mm oo v) mm oo (M mm oo) 2 o := fun o _ => by
    have := congrFun (rows 2 (by omega)) o
    rw [r _ _ 2 (by omega)] at this
    exact this.symm
  have hE : endK n (putM n (putM n M mm oo v) mm oo (M mm oo)) := end_put hn hm ho h2.2.2.2.1 (acy_congr eu ha) hd
  funext k x
  by_cases e : k = 3
  · subst e
    by_cases hx : x < n
    · exact end_one ha h.2.2.2.1 hE (fun o _ => ⟨congrFun (rows 0 (by omega)) o, congrFun (rows 2 (by omega)) o⟩) hn _ x hx (Nat.lt_succ_self _)
    · have hno : ∀ (N : Nat → Nat → Int32) (w : Int32), putM n N mm oo w 3 x = N 3 x := fun N w => by
        unfold putM movM
        show (if x < n ∧ _ then _ else _) = _
        rw [if_neg (fun q => hx q.1)]
        rw [updM_3 hm]
      rw [hno, hno]
  · rw [rows k e]
