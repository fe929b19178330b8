set_option maxHeartbeats 4000000 in
set_option maxRecDepth 100000 in
theorem c_X1_gain (l : Launch) (D : va_G) (cy : Nat → ClassId) (z0 : Nat) (ad : Nat → Nat) (V : Nat → Option va_E) (PB n n2 k : Nat) (M M2 : Nat → Nat → Int32) (kp : Nat → Int64) (fb : Nat → Bool) (ch co fo bk : Int32) (bb : Bool) (ρ : RuT) (hC : isC ad V cy PB n M n2 M2 kp fb ch co fo bb bk) (hB : isBk ad V cy k ρ) (hk : okR k ρ) (hn40 : n ≤ 40) (hn2 : n2 ≤ 40) (hPB : 100 ≤ PB) (rr : Nat) (hrr : rr < k) : Met l yX1_gain [Cond.code yX1_gain cX1_gain 2 (some .long)] { frames := 3, cells := 0, slots := 0, locals := 75 } (WP [.ref (ad PB), .int (nI rr)] D cy z0 ad V) (vp_Sl (fun r => r = wthR ρ rr M2 n2 - wthR ρ rr M n)) 0 0 (fun _ => False) := by
  refine met_of (by decide) (Nat.le_of_ble_eq_true rfl) (fun p e s m below meth c hx hb hr hml hown hlocks hnm hK hz hW ls hl => ?_)
  have hown : s.vm.findClass RX1 = some m.cls := hown
  have hl : lv_has ls 2 [(0, .ref (ad PB)), (1, .int (nI rr))] := hl
  have hk12 := hk.1
  obtain ⟨hC0, hCT, hCU, hC3, hC4⟩ := id hC
  obtain ⟨hT0, hT1, hTr⟩ := id hCT
  obtain ⟨hU0, hU1, hUr⟩ := id hCU
  obtain ⟨hB0, hB1, hBr⟩ := id hB
  have hBrrr := hBr rr (by omega)
  have hkrr := hk.2 rr (by omega)
  refine lv_aload_n hx hb dX1_gain_0 rfl (lv_at hl 0 rfl) ?_
  refine g_X1_X1_book hx hb hown hK hW hC0 dX1_gain_1 ?_
  refine g_X1_X3_rules hx hb hown hK hW hB0 dX1_gain_4 ?_
  refine lv_iload_n hx hb dX1_gain_7 rfl (lv_at hl 1 rfl) ?_
  refine w_aald hx hb hK hW 6 rfl rfl hB1 (j := rr) (rfl) (by omega) (by omega) dX1_gain_8 ?_
  refine asv (y := .ref (ad (10 + rr))) (elK (by omega)) ?_
  refine lv_aload_n hx hb dX1_gain_9 rfl (lv_at hl 0 rfl) ?_
  refine g_X1_X1_behind hx hb hown hK hW hC0 dX1_gain_10 ?_
  refine vp_callSl (va_Run.run (va_runV (As := [.ref (ad (PB + 7))]) (rest := []) ⟨hx, hb, hml, hown, hK.1.use _⟩ (c_X2_fromNothing l D cy z0 ad V (10 + rr) (ρ rr).1 (ρ rr).2.1 (ρ rr).2.2.1 (ρ rr).2.2.2.1 (ρ rr).2.2.2.2 hBrrr hkrr.1 hkrr.2 (PB + 7) n2 M2 hCU (by omega)) (k_X1_X2_fromNothing hK.1 rfl rfl ⟨Nat.le_of_ble_eq_true rfl, Nat.le_of_ble_eq_true rfl⟩) (preV hK hz hW hBrrr rfl) rfl rfl hl.1 rfl (lv_room (Nat.le_of_ble_eq_true rfl)) dX1_gain_13 ⟨Nat.le_of_ble_eq_true rfl, Nat.le_of_ble_eq_true rfl⟩)) (fun r13 h13 => ?_)
  have h13 : r13 = wthR ρ rr M2 n2 := h13
  subst h13
  refine lv_aload_n hx hb dX1_gain_16 rfl (lv_at hl 0 rfl) ?_
  refine g_X1_X1_book hx hb hown hK hW hC0 dX1_gain_17 ?_
  refine g_X1_X3_rules hx hb hown hK hW hB0 dX1_gain_20 ?_
  refine lv_iload_n hx hb dX1_gain_23 rfl (lv_at hl 1 rfl) ?_
  refine w_aald hx hb hK hW 6 rfl rfl hB1 (j := rr) (rfl) (by omega) (by omega) dX1_gain_24 ?_
  refine asv (y := .ref (ad (10 + rr))) (elK (by omega)) ?_
  refine lv_aload_n hx hb dX1_gain_25 rfl (lv_at hl 0 rfl) ?_
  refine g_X1_X1_now hx hb hown hK hW hC0 dX1_gain_26 ?_
  refine vp_callSl (va_Run.run (va_runV (As := [.ref (ad (PB + 1))]) (rest := [.long (wthR ρ rr M2 n2)]) ⟨hx, hb, hml, hown, hK.1.use _⟩ (c_X2_fromNothing l D cy z0 ad V (10 + rr) (ρ rr).1 (ρ rr).2.1 (ρ rr).2.2.1 (ρ rr).2.2.2.1 (ρ rr).2.2.2.2 hBrrr hkrr.1 hkrr.2 (PB + 1) n M hCT (by omega)) (k_X1_X2_fromNothing hK.1 rfl rfl ⟨Nat.le_of_ble_eq_true rfl, Nat.le_of_ble_eq_true rfl⟩) (preV hK hz hW hBrrr rfl) rfl rfl hl.1 rfl (lv_room (Nat.le_of_ble_eq_true rfl)) dX1_gain_29 ⟨Nat.le_of_ble_eq_true rfl, Nat.le_of_ble_eq_true rfl⟩)) (fun r29 h29 => ?_)
  have h29 : r29 = wthR ρ rr M n := h29
  subst h29
  refine lv_lsub hx hb dX1_gain_32 ?_
  exact rl hx hb hr hlocks dX1_gain_33 (rfl)

set_option maxHeartbeats 4000000 in
set_option maxRecDepth 100000 in
theorem c_X1_fromNothing (l : Launch) (D : va_G) (cy : Nat → ClassId) (z0 : Nat) (ad : Nat → Nat) (V : Nat → Option va_E) (PB n n2 k : Nat) (M M2 : Nat → Nat → Int32) (kp : Nat → Int64) (fb : Nat → Bool) (ch co fo bk : Int32) (bb : Bool) (ρ : RuT) (hC : isC ad V cy PB n M n2 M2 kp fb ch co fo bb bk) (hB : isBk ad V cy k ρ) (hk : okR k ρ) (hn40 : n ≤ 40) (hn2 : n2 ≤ 40) (hPB : 100 ≤ PB) (rr : Nat) (hrr : rr < k) : Met l yX1_fromNothing [Cond.code yX1_fromNothing cX1_fromNothing 2 (some .long)] { frames := 3, cells := 0, slots := 0, locals := 75 } (WP [.ref (ad PB), .int (nI rr)] D cy z0 ad V) (vp_Sl (fun r => r = wthR ρ rr M n)) 0 0 (fun _ => False) := by
  refine met_of (by decide) (Nat.le_of_ble_eq_true rfl) (fun p e s m below meth c hx hb hr hml hown hlocks hnm hK hz hW ls hl => ?_)
  have hown : s.vm.findClass RX1 = some m.cls := hown
  have hl : lv_has ls 2 [(0, .ref (ad PB)), (1, .int (nI rr))] := hl
  have hk12 := hk.1
  obtain ⟨hC0, hCT, hCU, hC3, hC4⟩ := id hC
  obtain ⟨hT0, hT1, hTr⟩ := id hCT
  obtain ⟨hU0, hU1, hUr⟩ := id hCU
  obtain ⟨hB0, hB1, hBr⟩ := id hB
  have hBrrr := hBr rr (by omega)
  have hkrr := hk.2 rr (by omega)
  refine lv_aload_n hx hb dX1_fromNothing_0 rfl (lv_at hl 0 rfl) ?_
  refine g_X1_X1_book hx hb hown hK hW hC0 dX1_fromNothing_1 ?_
  refine g_X1_X3_rules hx hb hown hK hW hB0 dX1_fromNothing_4 ?_
  refine lv_iload_n hx hb dX1_fromNothing_7 rfl (lv_at hl 1 rfl) ?_
  refine w_aald hx hb hK hW 6 rfl rfl hB1 (j := rr) (rfl) (by omega) (by omega) dX1_fromNothing_8 ?_
  refine asv (y := .ref (ad (10 + rr))) (elK (by omega)) ?_
  refine lv_aload_n hx hb dX1_fromNothing_9 rfl (lv_at hl 0 rfl) ?_
  refine g_X1_X1_now hx hb hown hK hW hC0 dX1_fromNothing_10 ?_
  refine vp_callSl (va_Run.run (va_runV (As := [.ref (ad (PB + 1))]) (rest := []) ⟨hx, hb, hml, hown, hK.1.use _⟩ (c_X2_fromNothing l D cy z0 ad V (10 + rr) (ρ rr).1 (ρ rr).2.1 (ρ rr).2.2.1 (ρ rr).2.2.2.1 (ρ rr).2.2.2.2 hBrrr hkrr.1 hkrr.2 (PB + 1) n M hCT (by omega)) (k_X1_X2_fromNothing hK.1 rfl rfl ⟨Nat.le_of_ble_eq_true rfl, Nat.le_of_ble_eq_true rfl⟩) (preV hK hz hW hBrrr rfl) rfl rfl hl.1 rfl (lv_room (Nat.le_of_ble_eq_true rfl)) dX1_fromNothing_13 ⟨Nat.le_of_ble_eq_true rfl, Nat.le_of_ble_eq_true rfl⟩)) (fun r13 h13 => ?_)
  have h13 : r13 = wthR ρ rr M n := h13
  subst h13
  exact rl hx hb hr hlocks dX1_fromNothing_16 (rfl)

set_option maxHeartbeats 4000000 in
set_option maxRecDepth 100000 in
theorem c_X1_isFalse (l : Launch) (D : va_G) (cy : Nat → ClassId) (z0 : Nat) (ad : Nat → Nat) (V : Nat → Option va_E) (PB n n2 k : Nat) (M M2 : Nat → Nat → Int32) (kp : Nat → Int64) (fb : Nat → Bool) (ch co fo bk : Int32) (bb : Bool) (ρ : RuT) (hC : isC ad V cy PB n M n2 M2 kp fb ch co fo bb bk) (hB : isBk ad V cy k ρ) (hk : okR k ρ) (hn40 : n ≤ 40) (hn2 : n2 ≤ 40) (hPB : 100 ≤ PB) (rr : Nat) (hrr : rr < k) : Met l yX1_isFalse [Cond.code yX1_isFalse cX1_isFalse 2 (some .boolean)] { frames := 3, cells := 0, slots := 0, locals := 75 } (WP [.ref (ad PB), .int (nI rr)] D cy z0 ad V) (vp_Si (fun r => r = b2i (flB ρ M n kp rr))) 0 0 (fun _ => False) := by
  refine met_of (by decide) (Nat.le_of_ble_eq_true rfl) (fun p e s m below meth c hx hb hr hml hown hlocks hnm hK hz hW ls hl => ?_)
  have hown : s.vm.findClass RX1 = some m.cls := hown
  have hl : lv_has ls 2 [(0, .ref (ad PB)), (1, .int (nI rr))] := hl
  have hk12 := hk.1
  obtain ⟨hC0, hCT, hCU, hC3, hC4⟩ := id hC
  obtain ⟨hT0, hT1, hTr⟩ := id hCT
  obtain ⟨hU0, hU1, hUr⟩ := id hCU
  obtain ⟨hB0, hB1, hBr⟩ := id hB
  have hBrrr := hBr rr (by omega)
  have hkrr := hk.2 rr (by omega)
  refine lv_aload_n hx hb dX1_isFalse_0 rfl (lv_at hl 0 rfl) ?_
  refine g_X1_X1_keptAt hx hb hown hK hW hC0 dX1_isFalse_1 ?_
  refine lv_iload_n hx hb dX1_isFalse_4 rfl (lv_at hl 1 rfl) ?_
  refine w_lald hx hb hK hW hC3 (j := rr) (rfl) (by omega) (by omega) dX1_isFalse_5 ?_
  refine lv_aload_n hx hb dX1_isFalse_6 rfl (lv_at hl 0 rfl) ?_
  refine g_X1_X1_book hx hb hown hK hW hC0 dX1_isFalse_7 ?_
  refine g_X1_X3_rules hx hb hown hK hW hB0 dX1_isFalse_10 ?_
  refine lv_iload_n hx hb dX1_isFalse_13 rfl (lv_at hl 1 rfl) ?_
  refine w_aald hx hb hK hW 6 rfl rfl hB1 (j := rr) (rfl) (by omega) (by omega) dX1_isFalse_14 ?_
  refine asv (y := .ref (ad (10 + rr))) (elK (by omega)) ?_
  refine lv_aload_n hx hb dX1_isFalse_15 rfl (lv_at hl 0 rfl) ?_
  refine g_X1_X1_now hx hb hown hK hW hC0 dX1_isFalse_16 ?_
  refine vp_callSl (va_Run.run (va_runV (As := [.ref (ad (PB + 1))]) (rest := [.long (kp rr)]) ⟨hx, hb, hml, hown, hK.1.use _⟩ (c_X2_fromNothing l D cy z0 ad V (10 + rr) (ρ rr).1 (ρ rr).2.1 (ρ rr).2.2.1 (ρ rr).2.2.2.1 (ρ rr).2.2.2.2 hBrrr hkrr.1 hkrr.2 (PB + 1) n M hCT (by omega)) (k_X1_X2_fromNothing hK.1 rfl rfl ⟨Nat.le_of_ble_eq_true rfl, Nat.le_of_ble_eq_true rfl⟩) (preV hK hz hW hBrrr rfl) rfl rfl hl.1 rfl (lv_room (Nat.le_of_ble_eq_true rfl)) dX1_isFalse_19 ⟨Nat.le_of_ble_eq_true rfl, Nat.le_of_ble_eq_true rfl⟩)) (fun r19 h19 => ?_)
  have h19 : r19 = wthR ρ rr M n := h19
  subst h19
  refine W.lcmp hx hb dX1_isFalse_22 ?_
  refine lv_if_eq (tgt := 30) hx hb dX1_isFalse_23 (by decide) (fun c23 => ?_) (fun c23 => ?_)
  · skip
    have c23 := (lg_cmp_eq _ _).mp c23
    refine lv_iconst (v := nI 0) hx hb dX1_isFalse_30 (by decide) ?_
    exact rz hx hb hr hlocks dX1_isFalse_31 (by first | exact b2i_n | rfl | decide) (by simp [flB, c23, b2i, nI])
  · skip
    have c23 : ¬ kp rr = wthR ρ rr M n := fun q => c23 ((lg_cmp_eq _ _).mpr q)
    refine lv_iconst (v := nI 1) hx hb dX1_isFalse_26 (by decide) ?_
    refine lv_goto (tgt := 31) hx hb dX1_isFalse_27 (by decide) ?_
    exact rz hx hb hr hlocks dX1_isFalse_31 (by first | exact b2i_n | rfl | decide) (by simp [flB, c23, b2i, nI])

set_option maxHeartbeats 4000000 in
set_option maxRecDepth 100000 in
theorem c_X1_firstFalse (l : Launch) (D : va_G) (cy : Nat → ClassId) (z0 : Nat) (ad : Nat → Nat) (V : Nat → Option va_E) (PB n n2 k : Nat) (M M2 : Nat → Nat → Int32) (kp : Nat → Int64) (fb : Nat → Bool) (ch co fo bk : Int32) (bb : Bool) (ρ : RuT) (hC : isC ad V cy PB n M n2 M2 kp fb ch co fo bb bk) (hB : isBk ad V cy k ρ) (hk : okR k ρ) (hn40 : n ≤ 40) (hn2 : n2 ≤ 40) (hPB : 100 ≤ PB) : Met l yX1_firstFalse [Cond.code yX1_firstFalse cX1_firstFalse 2 (some .int)] { frames := 4, cells := 0, slots := 0, locals := 96 } (WP [.ref (ad PB)] D cy z0 ad V) (vp_Si (fun r => r = ffI (flB ρ M n kp) k 0)) 0 0 (fun _ => False) := by
  refine met_of (by decide) (Nat.le_of_ble_eq_true rfl) (fun p e s m below meth c hx hb hr hml hown hlocks hnm hK hz hW ls hl => ?_)
  have hown : s.vm.findClass RX1 = some m.cls := hown
  have hl : lv_has ls 2 [(0, .ref (ad PB))] := hl
  have hk12 := hk.1
  obtain ⟨hC0, hCT, hCU, hC3, hC4⟩ := id hC
  obtain ⟨hT0, hT1, hTr⟩ := id hCT
  obtain ⟨hU0, hU1, hUr⟩ := id hCU
  obtain ⟨hB0, hB1, hBr⟩ := id hB
  refine lv_iconst (v := nI 0) hx hb dX1_firstFalse_0 (by decide) ?_
  refine lv_istore_n (lv' := [(1, .int (nI 0)), (0, .ref (ad PB))]) hx hb dX1_firstFalse_1 rfl hl (by decide) rfl (fun ls hl => ?_)
  refine wl (ι := Nat) (fun i => k - i) (fun i g => (i ≤ k ∧ ffI (flB ρ M n kp) k 0 = ffI (flB ρ M n kp) (k - i) i) ∧ ∃ ls, g = F0 m 2 ls [] ∧ lv_has ls 2 [(0, .ref (ad PB)), (1, .int (nI i))]) ?_ (0) _ ⟨⟨Nat.zero_le _, rfl⟩, ls, rfl, lv_sub hl [1, 0] rfl⟩
  intro i g hg ih
  obtain ⟨⟨hi, he⟩, ls, rfl, hl⟩ := hg
  refine lv_iload_n hx hb dX1_firstFalse_2 rfl (lv_at hl 1 rfl) ?_
  refine lv_aload_n hx hb dX1_firstFalse_3 rfl (lv_at hl 0 rfl) ?_
  refine g_X1_X1_book hx hb hown hK hW hC0 dX1_firstFalse_4 ?_
  refine g_X1_X3_size hx hb hown hK hW hB0 dX1_firstFalse_7 ?_
  refine lv_icmp_ge (tgt := 29) hx hb dX1_firstFalse_10 (by decide) (fun c10 => ?_) (fun c10 => ?_)
  · skip
    have c10 := nI_le' c10 (by omega) (by omega)
    refine lv_iconst (v := -1) hx hb dX1_firstFalse_29 (by decide) ?_
    exact ri hx hb hr hlocks dX1_firstFalse_30 (by rw [he, show k - i = 0 by omega]; rfl)
  · skip
    have c10 := nI_nle' c10 (by omega) (by omega)
    have hu : ffI (flB ρ M n kp) (k - i) i = (if flB ρ M n kp i = true then nI i else ffI (flB ρ M n kp) (k - (i + 1)) (i + 1)) := by rw [show k - i = (k - (i + 1)) + 1 by omega]; rfl
    refine lv_aload_n hx hb dX1_firstFalse_13 rfl (lv_at hl 0 rfl) ?_
    refine lv_iload_n hx hb dX1_firstFalse_14 rfl (lv_at hl 1 rfl) ?_
    refine vp_callSi (va_Run.run (va_runV (As := [.int (nI i)]) (rest := []) ⟨hx, hb, hml, hown, hK.1.use _⟩ (c_X1_isFalse l D cy z0 ad V PB n n2 k M M2 kp fb ch co fo bk bb ρ hC hB hk hn40 hn2 hPB i (by omega)) (k_X1_X1_isFalse hK.1 rfl rfl ⟨Nat.le_of_ble_eq_true rfl, Nat.le_of_ble_eq_true rfl⟩) (preV hK hz hW hC0 rfl) rfl rfl hl.1 rfl (lv_room (Nat.le_of_ble_eq_true rfl)) dX1_firstFalse_15 ⟨Nat.le_of_ble_eq_true rfl, Nat.le_of_ble_eq_true rfl⟩)) (fun r15 h15 => ?_)
    have h15 : r15 = b2i (flB ρ M n kp i) := h15
    subst h15
    refine lv_if_eq (tgt := 23) hx hb dX1_firstFalse_18 (by decide) (fun c18 => ?_) (fun c18 => ?_)
    · skip
      have c18 := b2i_0.mp c18
      refine lv_iinc (v := nI (i + 1)) (lv' := [(1, .int (nI (i + 1))), (0, .ref (ad PB))]) hx hb dX1_firstFalse_23 hl (k := 1) rfl (by rw [show Int32.ofInt 1 = nI 1 from by decide]; exact nI_add _ _) (by decide) rfl (fun ls hl => ?_)
      refine lv_goto (tgt := 2) hx hb dX1_firstFalse_26 (by decide) ?_
      exact ih (i + 1) _ ⟨⟨by omega, by rw [he, hu]; simp [c18]⟩, ls, rfl, lv_sub hl [1, 0] rfl⟩ (by omega)
    · skip
      have c18 := b2i_1.mp c18
      refine lv_iload_n hx hb dX1_firstFalse_21 rfl (lv_at hl 1 rfl) ?_
      exact ri hx hb hr hlocks dX1_firstFalse_22 (by rw [he, hu]; simp [c18])

set_option maxHeartbeats 4000000 in
set_option maxRecDepth 100000 in
theorem c_X1_scoreNow (l : Launch) (D : va_G) (cy : Nat → ClassId) (z0 : Nat) (ad : Nat → Nat) (V : Nat → Option va_E) (PB n n2 k : Nat) (M M2 : Nat → Nat → Int32) (kp : Nat → Int64) (fb : Nat → Bool) (ch co fo bk : Int32) (bb : Bool) (ρ : RuT) (hC : isC ad V cy PB n M n2 M2 kp fb ch co fo bb bk) (hB : isBk ad V cy k ρ) (hk : okR k ρ) (hn40 : n ≤ 40) (hn2 : n2 ≤ 40) (hPB : 100 ≤ PB) (lv : Int32) : Met l yX1_scoreNow [Cond.code yX1_scoreNow cX1_scoreNow 5 (some .long)] { frames := 0, cells := 0, slots := 0, locals := 0 } (WP [.ref (ad PB), .int (lv)] D cy z0 ad V) (vp_Sl (fun r => r = scL ρ kp lv k)) 0 0 (fun _ => False) := by
  refine met_of (by decide) (Nat.le_of_ble_eq_true rfl) (fun p e s m below meth c hx hb hr hml hown hlocks hnm hK hz hW ls hl => ?_)
  have hown : s.vm.findClass RX1 = some m.cls := hown
  have hl : lv_has ls 5 [(0, .ref (ad PB)), (1, .int (lv))] := hl
  have hk12 := hk.1
  obtain ⟨hC0, hCT, hCU, hC3, hC4⟩ := id hC
  obtain ⟨hT0, hT1, hTr⟩ := id hCT
  obtain ⟨hU0, hU1, hUr⟩ := id hCU
  obtain ⟨hB0, hB1, hBr⟩ := id hB
  refine lv_lconst (v := 0) hx hb dX1_scoreNow_0 (by decide) ?_
  refine lv_lstore_n (lv' := [(2, .long (0)), (0, .ref (ad PB)), (1, .int (lv))]) hx hb dX1_scoreNow_1 rfl hl (by decide) rfl (fun ls hl => ?_)
  refine lv_iconst (v := nI 0) hx hb dX1_scoreNow_2 (by decide) ?_
  refine lv_istore (lv' := [(4, .int (nI 0)), (2, .long (0)), (0, .ref (ad PB)), (1, .int (lv))]) hx hb dX1_scoreNow_3 hl (by decide) rfl (fun ls hl => ?_)
  refine wl (ι := Nat) (fun i => k - i) (fun i g => (i ≤ k) ∧ ∃ ls, g = F0 m 5 ls [] ∧ lv_has ls 5 [(0, .ref (ad PB)), (1, .int (lv)), (2, .long (scL ρ kp lv i)), (4, .int (nI i))]) ?_ (0) _ ⟨Nat.zero_le _, ls, rfl, lv_sub hl [2, 3, 1, 0] rfl⟩
  intro i g hg ih
  obtain ⟨hi, ls, rfl, hl⟩ := hg
  refine lv_iload hx hb dX1_scoreNow_5 (lv_at hl 3 rfl) ?_
  refine lv_aload_n hx hb dX1_scoreNow_7 rfl (lv_at hl 0 rfl) ?_
  refine g_X1_X1_book hx hb hown hK hW hC0 dX1_scoreNow_8 ?_
  refine g_X1_X3_size hx hb hown hK hW hB0 dX1_scoreNow_11 ?_
  refine lv_icmp_ge (tgt := 50) hx hb dX1_scoreNow_14 (by decide) (fun c14 => ?_) (fun c14 => ?_)
  · skip
    have c14 := nI_le' c14 (by omega) (by omega)
    refine lv_lload_n hx hb dX1_scoreNow_50 rfl (lv_at hl 2 rfl) ?_
    exact rl hx hb hr hlocks dX1_scoreNow_51 (by have e9 : i = k := (by omega); rw [e9])
  · skip
    have c14 := nI_nle' c14 (by omega) (by omega)
    have hBri := hBr i (by omega)
    have hki := hk.2 i (by omega)
    refine jl (pcj := 44) (st := []) (nL := 5) (lv := [(2, .long (scL ρ kp lv (i + 1))), (0, .ref (ad PB)), (1, .int (lv)), (4, .int (nI i))]) (fun K => ?_) (fun ls hl => ?_)
    · skip
      refine lv_aload_n hx hb dX1_scoreNow_17 rfl (lv_at hl 0 rfl) ?_
      refine g_X1_X1_book hx hb hown hK hW hC0 dX1_scoreNow_18 ?_
      refine g_X1_X3_rules hx hb hown hK hW hB0 dX1_scoreNow_21 ?_
      refine lv_iload hx hb dX1_scoreNow_24 (lv_at hl 3 rfl) ?_
      refine w_aald hx hb hK hW 6 rfl rfl hB1 (j := i) (rfl) (by omega) (by omega) dX1_scoreNow_26 ?_
      refine asv (y := .ref (ad (10 + i))) (elK (by omega)) ?_
      refine g_X1_X2_level hx hb hown hK hW hBri dX1_scoreNow_27 ?_
      refine lv_iload_n hx hb dX1_scoreNow_30 rfl (lv_at hl 1 rfl) ?_
      refine lv_icmp_ne (tgt := 44) hx hb dX1_scoreNow_31 (by decide) (fun c31 => ?_) (fun c31 => ?_)
      · skip
        have hq2 : (scL ρ kp lv i) = (scL ρ kp lv (i + 1)) := by simp [scL, c31]
        rw [hq2] at hl
        exact K ls (lv_sub hl [2, 0, 1, 3] rfl)
      · skip
        refine lv_lload_n hx hb dX1_scoreNow_34 rfl (lv_at hl 2 rfl) ?_
        refine lv_aload_n hx hb dX1_scoreNow_35 rfl (lv_at hl 0 rfl) ?_
        refine g_X1_X1_keptAt hx hb hown hK hW hC0 dX1_scoreNow_36 ?_
        refine lv_iload hx hb dX1_scoreNow_39 (lv_at hl 3 rfl) ?_
        refine w_lald hx hb hK hW hC3 (j := i) (rfl) (by omega) (by omega) dX1_scoreNow_41 ?_
        refine lv_ladd hx hb dX1_scoreNow_42 ?_
        refine lv_lstore_n (lv' := [(2, .long ((scL ρ kp lv i) + (kp i))), (0, .ref (ad PB)), (1, .int (lv)), (4, .int (nI i))]) hx hb dX1_scoreNow_43 rfl hl (by decide) rfl (fun ls hl => ?_)
        have hq2 : ((scL ρ kp lv i) + (kp i)) = (scL ρ kp lv (i + 1)) := by simp [scL, c31]
        rw [hq2] at hl
        exact K ls (lv_sub hl [0, 1, 2, 3] rfl)
    · skip
      refine lv_iinc (v := nI (i + 1)) (lv' := [(4, .int (nI (i + 1))), (2, .long (scL ρ kp lv (i + 1))), (0, .ref (ad PB)), (1, .int (lv))]) hx hb dX1_scoreNow_44 hl (k := 3) rfl (by rw [show Int32.ofInt 1 = nI 1 from by decide]; exact nI_add _ _) (by decide) rfl (fun ls hl => ?_)
      refine lv_goto (tgt := 5) hx hb dX1_scoreNow_47 (by decide) ?_
      exact ih (i + 1) _ ⟨by omega, ls, rfl, lv_sub hl [2, 3, 1, 0] rfl⟩ (by omega)

set_option maxHeartbeats 4000000 in
set_option maxRecDepth 100000 in
theorem c_X1_countForgetting (l : Launch) (D : va_G) (cy : Nat → ClassId) (z0 : Nat) (ad : Nat → Nat) (V : Nat → Option va_E) (PB n n2 k : Nat) (M M2 : Nat → Nat → Int32) (kp : Nat → Int64) (fb : Nat → Bool) (ch co fo bk : Int32) (bb : Bool) (ρ : RuT) (hC : isC ad V cy PB n M n2 M2 kp fb ch co fo bb bk) (hB : isBk ad V cy k ρ) (hk : okR k ρ) (hn40 : n ≤ 40) (hn2 : n2 ≤ 40) (hPB : 100 ≤ PB) : Met l yX1_countForgetting [Cond.code yX1_countForgetting cX1_countForgetting 3 (some .int)] { frames := 1, cells := 0, slots := 0, locals := 20 } (WP [.ref (ad PB)] D cy z0 ad V) (vp_Si (fun r => r = nI (cfT fb k))) 0 0 (fun _ => False) := by
  refine met_of (by decide) (Nat.le_of_ble_eq_true rfl) (fun p e s m below meth c hx hb hr hml hown hlocks hnm hK hz hW ls hl => ?_)
  have hown : s.vm.findClass RX1 = some m.cls := hown
  have hl : lv_has ls 3 [(0, .ref (ad PB))] := hl
  have hk12 := hk.1
  obtain ⟨hC0, hCT, hCU, hC3, hC4⟩ := id hC
  obtain ⟨hT0, hT1, hTr⟩ := id hCT
  obtain ⟨hU0, hU1, hUr⟩ := id hCU
  obtain ⟨hB0, hB1, hBr⟩ := id hB
  refine lv_iconst (v := nI 0) hx hb dX1_countForgetting_0 (by decide) ?_
  refine lv_istore_n (lv' := [(1, .int (nI 0)), (0, .ref (ad PB))]) hx hb dX1_countForgetting_1 rfl hl (by decide) rfl (fun ls hl => ?_)
  refine lv_iconst (v := nI 0) hx hb dX1_countForgetting_2 (by decide) ?_
  refine lv_istore_n (lv' := [(2, .int (nI 0)), (1, .int (nI 0)), (0, .ref (ad PB))]) hx hb dX1_countForgetting_3 rfl hl (by decide) rfl (fun ls hl => ?_)
  refine wl (ι := Nat) (fun i => k - i) (fun i g => (i ≤ k) ∧ ∃ ls, g = F0 m 4 ls [] ∧ lv_has ls 3 [(0, .ref (ad PB)), (1, .int (nI (cfT fb i))), (2, .int (nI i))]) ?_ (0) _ ⟨Nat.zero_le _, ls, rfl, lv_sub hl [2, 1, 0] rfl⟩
  intro i g hg ih
  obtain ⟨hi, ls, rfl, hl⟩ := hg
  refine lv_iload_n hx hb dX1_countForgetting_4 rfl (lv_at hl 2 rfl) ?_
  refine lv_aload_n hx hb dX1_countForgetting_5 rfl (lv_at hl 0 rfl) ?_
  refine g_X1_X1_book hx hb hown hK hW hC0 dX1_countForgetting_6 ?_
  refine g_X1_X3_size hx hb hown hK hW hB0 dX1_countForgetting_9 ?_
  refine lv_icmp_ge (tgt := 33) hx hb dX1_countForgetting_12 (by decide) (fun c12 => ?_) (fun c12 => ?_)
  · skip
    have c12 := nI_le' c12 (by omega) (by omega)
    refine lv_iload_n hx hb dX1_countForgetting_33 rfl (lv_at hl 1 rfl) ?_
    exact ri hx hb hr hlocks dX1_countForgetting_34 (by have e9 : i = k := (by omega); rw [e9])
  · skip
    have c12 := nI_nle' c12 (by omega) (by omega)
    refine lv_iload_n hx hb dX1_countForgetting_15 rfl (lv_at hl 1 rfl) ?_
    refine lv_aload_n hx hb dX1_countForgetting_16 rfl (lv_at hl 0 rfl) ?_
    refine g_X1_X1_forgets hx hb hown hK hW hC0 dX1_countForgetting_17 ?_
    refine lv_iload_n hx hb dX1_countForgetting_20 rfl (lv_at hl 2 rfl) ?_
    refine w_zald hx hb hK hW hC4 (j := i) (rfl) (by omega) (by omega) dX1_countForgetting_21 ?_
    refine vp_callSi (va_Run.run (va_runSN (As := [.int (b2i (fb i))]) (rest := [.int (nI (cfT fb i))]) ⟨hx, hb, hml, hown, hK.1.use _⟩ (c_X6_oneIf l D cy z0 ad V (fb i)) (k_X1_X6_oneIf hK.1 rfl rfl ⟨Nat.le_of_ble_eq_true rfl, Nat.le_of_ble_eq_true rfl⟩) (preS hK hz hW) rfl rfl hl.1 rfl (lv_room (Nat.le_of_ble_eq_true rfl)) dX1_countForgetting_22 ⟨Nat.le_of_ble_eq_true rfl, Nat.le_of_ble_eq_true rfl⟩)) (fun r22 h22 => ?_)
    have h22 : r22 = b2i (fb i) := h22
    subst h22
    refine lv_iadd hx hb dX1_countForgetting_25 ?_
    refine asi (y := nI (cfT fb (i + 1))) (by simp only [cfT]; rw [← nI_add]; congr 1; by_cases h1 : fb i = true <;> simp [h1, b2i, nI]) ?_
    refine lv_istore_n (lv' := [(1, .int (nI (cfT fb (i + 1)))), (0, .ref (ad PB)), (2, .int (nI i))]) hx hb dX1_countForgetting_26 rfl hl (by decide) rfl (fun ls hl => ?_)
    refine lv_iinc (v := nI (i + 1)) (lv' := [(2, .int (nI (i + 1))), (1, .int (nI (cfT fb (i + 1)))), (0, .ref (ad PB))]) hx hb dX1_countForgetting_27 hl (k := 2) rfl (by rw [show Int32.ofInt 1 = nI 1 from by decide]; exact nI_add _ _) (by decide) rfl (fun ls hl => ?_)
    refine lv_goto (tgt := 4) hx hb dX1_countForgetting_30 (by decide) ?_
    exact ih (i + 1) _ ⟨by omega, ls, rfl, lv_sub hl [2, 1, 0] rfl⟩ (by omega)

set_option maxHeartbeats 4000000 in
set_option maxRecDepth 100000 in
theorem c_X1_gainUnlessForgotten (l : Launch) (D : va_G) (cy : Nat → ClassId) (z0 : Nat) (ad : Nat → Nat) (V : Nat → Option va_E) (PB n n2 k : Nat) (M M2 : Nat → Nat → Int32) (kp : Nat → Int64) (fb : Nat → Bool) (ch co fo bk : Int32) (bb : Bool) (ρ : RuT) (hC : isC ad V cy PB n M n2 M2 kp fb ch co fo bb bk) (hB : isBk ad V cy k ρ) (hk : okR k ρ) (hn40 : n ≤ 40) (hn2 : n2 ≤ 40) (hPB : 100 ≤ PB) (rr : Nat) (hrr : rr < k) : Met l yX1_gainUnlessForgotten [Cond.code yX1_gainUnlessForgotten cX1_gainUnlessForgotten 3 (some .long)] { frames := 4, cells := 0, slots := 0, locals := 96 } (WP [.ref (ad PB), .int (nI rr)] D cy z0 ad V) (vp_Sl (fun r => r = gnL ρ rr fb M n M2 n2)) 0 0 (fun _ => False) := by
  refine met_of (by decide) (Nat.le_of_ble_eq_true rfl) (fun p e s m below meth c hx hb hr hml hown hlocks hnm hK hz hW ls hl => ?_)
  have hown : s.vm.findClass RX1 = some m.cls := hown
  have hl : lv_has ls 3 [(0, .ref (ad PB)), (1, .int (nI rr))] := hl
  have hk12 := hk.1
  obtain ⟨hC0, hCT, hCU, hC3, hC4⟩ := id hC
  obtain ⟨hT0, hT1, hTr⟩ := id hCT
  obtain ⟨hU0, hU1, hUr⟩ := id hCU
  obtain ⟨hB0, hB1, hBr⟩ := id hB
  have hBrrr := hBr rr (by omega)
  have hkrr := hk.2 rr (by omega)
  have hct : ctR ρ rr M M2 n ≤ n := ctT_le _ _ _ _ _ _
  refine jl (pcj := 37) (st := [.int (b2i (decide (fb rr = true ∨ ctR ρ rr M M2 n = 0)))]) (nL := 3) (lv := [(0, .ref (ad PB)), (1, .int (nI rr))]) (fun K => ?_) (fun ls hl => ?_)
  · skip
    refine lv_aload_n hx hb dX1_gainUnlessForgotten_0 rfl (lv_at hl 0 rfl) ?_
    refine g_X1_X1_forgets hx hb hown hK hW hC0 dX1_gainUnlessForgotten_1 ?_
    refine lv_iload_n hx hb dX1_gainUnlessForgotten_4 rfl (lv_at hl 1 rfl) ?_
    refine w_zald hx hb hK hW hC4 (j := rr) (rfl) (by omega) (by omega) dX1_gainUnlessForgotten_5 ?_
    refine lv_if_ne (tgt := 32) hx hb dX1_gainUnlessForgotten_6 (by decide) (fun c6 => ?_) (fun c6 => ?_)
    · skip
      have c6 := b2i_1.mp c6
      refine lv_iconst (v := nI 1) hx hb dX1_gainUnlessForgotten_32 (by decide) ?_
      refine lv_goto (tgt := 37) hx hb dX1_gainUnlessForgotten_33 (by decide) ?_
      refine asi (y := b2i (decide (fb rr = true ∨ ctR ρ rr M M2 n = 0))) (by first | (simp [c6, b2i, nI]; done) | (simp [c6, c29, b2i, nI]; done)) ?_
      exact K ls (lv_sub hl [0, 1] rfl)
    · skip
      have c6 := b2i_0.mp c6
      refine lv_aload_n hx hb dX1_gainUnlessForgotten_9 rfl (lv_at hl 0 rfl) ?_
      refine g_X1_X1_book hx hb hown hK hW hC0 dX1_gainUnlessForgotten_10 ?_
      refine g_X1_X3_rules hx hb hown hK hW hB0 dX1_gainUnlessForgotten_13 ?_
      refine lv_iload_n hx hb dX1_gainUnlessForgotten_16 rfl (lv_at hl 1 rfl) ?_
      refine w_aald hx hb hK hW 6 rfl rfl hB1 (j := rr) (rfl) (by omega) (by omega) dX1_gainUnlessForgotten_17 ?_
      refine asv (y := .ref (ad (10 + rr))) (elK (by omega)) ?_
      refine lv_aload_n hx hb dX1_gainUnlessForgotten_18 rfl (lv_at hl 0 rfl) ?_
      refine g_X1_X1_now hx hb hown hK hW hC0 dX1_gainUnlessForgotten_19 ?_
      refine lv_aload_n hx hb dX1_gainUnlessForgotten_22 rfl (lv_at hl 0 rfl) ?_
      refine g_X1_X1_behind hx hb hown hK hW hC0 dX1_gainUnlessForgotten_23 ?_
      refine vp_callSi (va_Run.run (va_runV (As := [.ref (ad (PB + 1)), .ref (ad (PB + 7))]) (rest := []) ⟨hx, hb, hml, hown, hK.1.use _⟩ (c_X2_countTouched l D cy z0 ad V (10 + rr) (ρ rr).1 (ρ rr).2.1 (ρ rr).2.2.1 (ρ rr).2.2.2.1 (ρ rr).2.2.2.2 hBrrr hkrr.1 hkrr.2 (PB + 1) n M hCT (PB + 7) n2 M2 hCU (by omega)) (k_X1_X2_countTouched hK.1 rfl rfl ⟨Nat.le_of_ble_eq_true rfl, Nat.le_of_ble_eq_true rfl⟩) (preV hK hz hW hBrrr rfl) rfl rfl hl.1 rfl (lv_room (Nat.le_of_ble_eq_true rfl)) dX1_gainUnlessForgotten_26 ⟨Nat.le_of_ble_eq_true rfl, Nat.le_of_ble_eq_true rfl⟩)) (fun r26 h26 => ?_)
      have h26 : r26 = nI (ctR ρ rr M M2 n) := h26
      subst h26
      refine lv_if_ne (tgt := 36) hx hb dX1_gainUnlessForgotten_29 (by decide) (fun c29 => ?_) (fun c29 => ?_)
      · skip
        have c29 := nI_ne' (b := 0) c29 (by omega) (by omega)
        refine lv_iconst (v := nI 0) hx hb dX1_gainUnlessForgotten_36 (by decide) ?_
        refine asi (y := b2i (decide (fb rr = true ∨ ctR ρ rr M M2 n = 0))) (by first | (simp [c6, b2i, nI]; done) | (simp [c6, c29, b2i, nI]; done)) ?_
        exact K ls (lv_sub hl [0, 1] rfl)
      · skip
        have c29 := nI_eq' (b := 0) c29 (by omega) (by omega)
        refine lv_iconst (v := nI 1) hx hb dX1_gainUnlessForgotten_32 (by decide) ?_
        refine lv_goto (tgt := 37) hx hb dX1_gainUnlessForgotten_33 (by decide) ?_
        refine asi (y := b2i (decide (fb rr = true ∨ ctR ρ rr M M2 n = 0))) (by first | (simp [c6, b2i, nI]; done) | (simp [c6, c29, b2i, nI]; done)) ?_
        exact K ls (lv_sub hl [0, 1] rfl)
  · skip
    refine lv_istore_n (lv' := [(2, .int (b2i (decide (fb rr = true ∨ ctR ρ rr M M2 n = 0)))), (0, .ref (ad PB)), (1, .int (nI rr))]) hx hb dX1_gainUnlessForgotten_37 rfl hl (by decide) rfl (fun ls hl => ?_)
    refine lv_iload_n hx hb dX1_gainUnlessForgotten_38 rfl (lv_at hl 0 rfl) ?_
    refine lv_if_eq (tgt := 46) hx hb dX1_gainUnlessForgotten_39 (by decide) (fun c39 => ?_) (fun c39 => ?_)
    · skip
      have c39 := b2i_0.mp c39
      have c39 : ¬ (fb rr = true ∨ ctR ρ rr M M2 n = 0) := by simpa using c39
      refine lv_aload_n hx hb dX1_gainUnlessForgotten_46 rfl (lv_at hl 1 rfl) ?_
      refine lv_iload_n hx hb dX1_gainUnlessForgotten_47 rfl (lv_at hl 2 rfl) ?_
      refine vp_callSl (va_Run.run (va_runV (As := [.int (nI rr)]) (rest := []) ⟨hx, hb, hml, hown, hK.1.use _⟩ (c_X1_gain l D cy z0 ad V PB n n2 k M M2 kp fb ch co fo bk bb ρ hC hB hk hn40 hn2 hPB rr hrr) (k_X1_X1_gain hK.1 rfl rfl ⟨Nat.le_of_ble_eq_true rfl, Nat.le_of_ble_eq_true rfl⟩) (preV hK hz hW hC0 rfl) rfl rfl hl.1 rfl (lv_room (Nat.le_of_ble_eq_true rfl)) dX1_gainUnlessForgotten_48 ⟨Nat.le_of_ble_eq_true rfl, Nat.le_of_ble_eq_true rfl⟩)) (fun r48 h48 => ?_)
      have h48 : r48 = wthR ρ rr M2 n2 - wthR ρ rr M n := h48
      subst h48
      exact rl hx hb hr hlocks dX1_gainUnlessForgotten_51 (by unfold gnL; first | rw [if_neg c39] | rw [if_pos c39])
    · skip
      have c39 := b2i_1.mp c39
      have c39 : fb rr = true ∨ ctR ρ rr M M2 n = 0 := by simpa using c39
      refine lv_lconst (v := 0) hx hb dX1_gainUnlessForgotten_42 (by decide) ?_
      refine lv_goto (tgt := 51) hx hb dX1_gainUnlessForgotten_43 (by decide) ?_
      exact rl hx hb hr hlocks dX1_gainUnlessForgotten_51 (by unfold gnL; first | rw [if_neg c39] | rw [if_pos c39])

set_option maxHeartbeats 4000000 in
set_option maxRecDepth 100000 in
theorem c_X1_undoable (l : Launch) (D : va_G) (cy : Nat → ClassId) (z0 : Nat) (ad : Nat → Nat) (V : Nat → Option va_E) (PB n n2 k : Nat) (M M2 : Nat → Nat → Int32) (kp : Nat → Int64) (fb : Nat → Bool) (ch co fo bk : Int32) (bb : Bool) (ρ : RuT) (hC : isC ad V cy PB n M n2 M2 kp fb ch co fo bb bk) (hB : isBk ad V cy k ρ) (hk : okR k ρ) (hn40 : n ≤ 40) (hn2 : n2 ≤ 40) (hPB : 100 ≤ PB) (ho hm hv : Nat → Int32) (hs : Nat → Nat → Int64) (nx kn : Nat) (hH : isH ad V cy PB ho hm hv hs nx kn) : Met l yX1_undoable [Cond.code yX1_undoable cX1_undoable 1 (some .int)] { frames := 0, cells := 0, slots := 0, locals := 0 } (WP [.ref (ad PB)] D cy z0 ad V) (vp_Si (fun r => r = if bb = true then bk else nI kn)) 0 0 (fun _ => False) := by
  refine met_of (by decide) (Nat.le_of_ble_eq_true rfl) (fun p e s m below meth c hx hb hr hml hown hlocks hnm hK hz hW ls hl => ?_)
  have hown : s.vm.findClass RX1 = some m.cls := hown
  have hl : lv_has ls 1 [(0, .ref (ad PB))] := hl
  have hk12 := hk.1
  obtain ⟨hC0, hCT, hCU, hC3, hC4⟩ := id hC
  obtain ⟨hT0, hT1, hTr⟩ := id hCT
  obtain ⟨hU0, hU1, hUr⟩ := id hCU
  obtain ⟨hB0, hB1, hBr⟩ := id hB
  obtain ⟨hH0, hH1, hH2, hH3, hH4, hHr⟩ := id hH
  refine lv_aload_n hx hb dX1_undoable_0 rfl (lv_at hl 0 rfl) ?_
  refine g_X1_X1_batchBegun hx hb hown hK hW hC0 dX1_undoable_1 ?_
  refine lv_if_eq (tgt := 14) hx hb dX1_undoable_4 (by decide) (fun c4 => ?_) (fun c4 => ?_)
  · skip
    have c4 := b2i_0.mp c4
    refine lv_aload_n hx hb dX1_undoable_14 rfl (lv_at hl 0 rfl) ?_
    refine g_X1_X1_history hx hb hown hK hW hC0 dX1_undoable_15 ?_
    refine g_X1_X0_known hx hb hown hK hW hH0 dX1_undoable_18 ?_
    exact ri hx hb hr hlocks dX1_undoable_21 (by simp [c4])
  · skip
    have c4 := b2i_1.mp c4
    refine lv_aload_n hx hb dX1_undoable_7 rfl (lv_at hl 0 rfl) ?_
    refine g_X1_X1_batchKnown hx hb hown hK hW hC0 dX1_undoable_8 ?_
    refine lv_goto (tgt := 21) hx hb dX1_undoable_11 (by decide) ?_
    exact ri hx hb hr hlocks dX1_undoable_21 (by simp [c4])

set_option maxHeartbeats 4000000 in
set_option maxRecDepth 100000 in
theorem c_X1_figure (l : Launch) (D : va_G) (cy : Nat → ClassId) (z0 : Nat) (ad : Nat → Nat) (V : Nat → Option va_E) (PB n n2 k : Nat) (M M2 : Nat → Nat → Int32) (kp : Nat → Int64) (fb : Nat → Bool) (ch co fo bk : Int32) (bb : Bool) (ρ : RuT) (hC : isC ad V cy PB n M n2 M2 kp fb ch co fo bb bk) (hB : isBk ad V cy k ρ) (hk : okR k ρ) (hn40 : n ≤ 40) (hn2 : n2 ≤ 40) (hPB : 100 ≤ PB) (ho hm hv : Nat → Int32) (hs : Nat → Nat → Int64) (nx kn : Nat) (hH : isH ad V cy PB ho hm hv hs nx kn) (wh : Int32) : Met l yX1_figure [Cond.code yX1_figure cX1_figure 2 (some .int)] { frames := 2, cells := 0, slots := 0, locals := 42 } (WP [.ref (ad PB), .int (wh)] D cy z0 ad V) (vp_Si (fun r => r = fgI k fb ch co fo bb kn wh)) 0 0 (fun _ => False) := by
  refine met_of (by decide) (Nat.le_of_ble_eq_true rfl) (fun p e s m below meth c hx hb hr hml hown hlocks hnm hK hz hW ls hl => ?_)
  have hown : s.vm.findClass RX1 = some m.cls := hown
  have hl : lv_has ls 2 [(0, .ref (ad PB)), (1, .int (wh))] := hl
  have hk12 := hk.1
  obtain ⟨hC0, hCT, hCU, hC3, hC4⟩ := id hC
  obtain ⟨hT0, hT1, hTr⟩ := id hCT
  obtain ⟨hU0, hU1, hUr⟩ := id hCU
  obtain ⟨hB0, hB1, hBr⟩ := id hB
  obtain ⟨hH0, hH1, hH2, hH3, hH4, hHr⟩ := id hH
  refine lv_iload_n hx hb dX1_figure_0 rfl (lv_at hl 1 rfl) ?_
  by_cases hq0 : wh = nI 0
  · skip
    refine asi (y := nI 0) (by rw [hq0]) ?_
    refine lv_tableIn (off := 39) (tgt := 40) hx hb dX1_figure_1 (by decide) (by decide) (by decide) (by decide) ?_
    refine lv_aload_n hx hb dX1_figure_40 rfl (lv_at hl 0 rfl) ?_
    refine g_X1_X1_changes hx hb hown hK hW hC0 dX1_figure_41 ?_
    exact ri hx hb hr hlocks dX1_figure_44 (by unfold fgI; rw [if_pos hq0])
  · skip
    by_cases hq1 : wh = nI 1
    · skip
      refine asi (y := nI 1) (by rw [hq1]) ?_
      refine lv_tableIn (off := 44) (tgt := 45) hx hb dX1_figure_1 (by decide) (by decide) (by decide) (by decide) ?_
      refine lv_aload_n hx hb dX1_figure_45 rfl (lv_at hl 0 rfl) ?_
      refine g_X1_X1_history hx hb hown hK hW hC0 dX1_figure_46 ?_
      refine g_X1_X0_known hx hb hown hK hW hH0 dX1_figure_49 ?_
      exact ri hx hb hr hlocks dX1_figure_52 (by unfold fgI; rw [if_neg hq0, if_pos hq1])
    · skip
      by_cases hq2 : wh = nI 2
      · skip
        refine asi (y := nI 2) (by rw [hq2]) ?_
        refine lv_tableIn (off := 52) (tgt := 53) hx hb dX1_figure_1 (by decide) (by decide) (by decide) (by decide) ?_
        refine lv_aload_n hx hb dX1_figure_53 rfl (lv_at hl 0 rfl) ?_
        refine g_X1_X1_cost hx hb hown hK hW hC0 dX1_figure_54 ?_
        exact ri hx hb hr hlocks dX1_figure_57 (by unfold fgI; rw [if_neg hq0, if_neg hq1, if_pos hq2])
      · skip
        by_cases hq3 : wh = nI 3
        · skip
          refine asi (y := nI 3) (by rw [hq3]) ?_
          refine lv_tableIn (off := 57) (tgt := 58) hx hb dX1_figure_1 (by decide) (by decide) (by decide) (by decide) ?_
          refine lv_aload_n hx hb dX1_figure_58 rfl (lv_at hl 0 rfl) ?_
          refine g_X1_X1_foundFalse hx hb hown hK hW hC0 dX1_figure_59 ?_
          exact ri hx hb hr hlocks dX1_figure_62 (by unfold fgI; rw [if_neg hq0, if_neg hq1, if_neg hq2, if_pos hq3])
        · skip
          by_cases hq4 : wh = nI 4
          · skip
            refine asi (y := nI 4) (by rw [hq4]) ?_
            refine lv_tableIn (off := 62) (tgt := 63) hx hb dX1_figure_1 (by decide) (by decide) (by decide) (by decide) ?_
            refine lv_aload_n hx hb dX1_figure_63 rfl (lv_at hl 0 rfl) ?_
            refine g_X1_X1_batchBegun hx hb hown hK hW hC0 dX1_figure_64 ?_
            refine vp_callSi (va_Run.run (va_runSN (As := [.int (b2i bb)]) (rest := []) ⟨hx, hb, hml, hown, hK.1.use _⟩ (c_X6_oneIf l D cy z0 ad V bb) (k_X1_X6_oneIf hK.1 rfl rfl ⟨Nat.le_of_ble_eq_true rfl, Nat.le_of_ble_eq_true rfl⟩) (preS hK hz hW) rfl rfl hl.1 rfl (lv_room (Nat.le_of_ble_eq_true rfl)) dX1_figure_67 ⟨Nat.le_of_ble_eq_true rfl, Nat.le_of_ble_eq_true rfl⟩)) (fun r67 h67 => ?_)
            have h67 : r67 = b2i bb := h67
            subst h67
            exact ri hx hb hr hlocks dX1_figure_70 (by unfold fgI; rw [if_neg hq0, if_neg hq1, if_neg hq2, if_neg hq3, if_pos hq4])
          · skip
            by_cases hq5 : wh = nI 5
            · skip
              refine asi (y := nI 5) (by rw [hq5]) ?_
              refine lv_tableIn (off := 70) (tgt := 71) hx hb dX1_figure_1 (by decide) (by decide) (by decide) (by decide) ?_
              refine lv_aload_n hx hb dX1_figure_71 rfl (lv_at hl 0 rfl) ?_
              refine vp_callSi (va_Run.run (va_runV (As := []) (rest := []) ⟨hx, hb, hml, hown, hK.1.use _⟩ (c_X1_countForgetting l D cy z0 ad V PB n n2 k M M2 kp fb ch co fo bk bb ρ hC hB hk hn40 hn2 hPB) (k_X1_X1_countForgetting hK.1 rfl rfl ⟨Nat.le_of_ble_eq_true rfl, Nat.le_of_ble_eq_true rfl⟩) (preV hK hz hW hC0 rfl) rfl rfl hl.1 rfl (lv_room (Nat.le_of_ble_eq_true rfl)) dX1_figure_72 ⟨Nat.le_of_ble_eq_true rfl, Nat.le_of_ble_eq_true rfl⟩)) (fun r72 h72 => ?_)
              have h72 : r72 = nI (cfT fb k) := h72
              subst h72
              exact ri hx hb hr hlocks dX1_figure_75 (by unfold fgI; rw [if_neg hq0, if_neg hq1, if_neg hq2, if_neg hq3, if_neg hq4, if_pos hq5])
            · skip
              refine lv_tableOut (tgt := 76) hx hb dX1_figure_1 (swO 5 (fun k hk => by have hk3 : k = 0 ∨ k = 1 ∨ k = 2 ∨ k = 3 ∨ k = 4 ∨ k = 5 := (by omega); rcases hk3 with rfl | rfl | rfl | rfl | rfl | rfl <;> assumption)) (by decide) ?_
              refine lv_iconst (v := -1) hx hb dX1_figure_76 (by decide) ?_
              exact ri hx hb hr hlocks dX1_figure_77 (by unfold fgI; rw [if_neg hq0, if_neg hq1, if_neg hq2, if_neg hq3, if_neg hq4, if_neg hq5])
