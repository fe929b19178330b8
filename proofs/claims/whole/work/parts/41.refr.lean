set_option maxHeartbeats 4000000 in
set_option maxRecDepth 100000 in
theorem c_X7_in (l : Launch) (D : va_G) (cy : Nat → ClassId) (z0 : Nat) (ad : Nat → Nat) (V : Nat → Option va_E) (x a b : Int32) : Met l yX7_in [Cond.code yX7_in cX7_in 3 (some .boolean)] { frames := 0, cells := 0, slots := 0, locals := 0 } (WP [.int (x), .int (a), .int (b)] D cy z0 ad V) (vp_Si (fun r => r = b2i (wiB x a b))) 0 0 (fun _ => False) := by
  refine met_of (by decide) (Nat.le_of_ble_eq_true rfl) (fun p e s m below meth c hx hb hr hml hown hlocks hnm hK hz hW ls hl => ?_)
  have hown : s.vm.findClass RX7 = some m.cls := hown
  have hl : lv_has ls 3 [(0, .int (x)), (1, .int (a)), (2, .int (b))] := hl
  refine lv_iload_n hx hb dX7_in_0 rfl (lv_at hl 0 rfl) ?_
  refine lv_iload_n hx hb dX7_in_1 rfl (lv_at hl 1 rfl) ?_
  refine lv_icmp_lt (tgt := 14) hx hb dX7_in_2 (by decide) (fun c2 => ?_) (fun c2 => ?_)
  · skip
    refine lv_iconst (v := nI 0) hx hb dX7_in_14 (by decide) ?_
    exact rz hx hb hr hlocks dX7_in_15 (by first | exact b2i_n | rfl | decide) (by simp_all [b2i, nI, wiB, Int32.not_lt, ← Int32.not_le])
  · skip
    refine lv_iload_n hx hb dX7_in_5 rfl (lv_at hl 0 rfl) ?_
    refine lv_iload_n hx hb dX7_in_6 rfl (lv_at hl 2 rfl) ?_
    refine lv_icmp_gt (tgt := 14) hx hb dX7_in_7 (by decide) (fun c7 => ?_) (fun c7 => ?_)
    · skip
      refine lv_iconst (v := nI 0) hx hb dX7_in_14 (by decide) ?_
      exact rz hx hb hr hlocks dX7_in_15 (by first | exact b2i_n | rfl | decide) (by simp_all [b2i, nI, wiB, Int32.not_lt, ← Int32.not_le])
    · skip
      refine lv_iconst (v := nI 1) hx hb dX7_in_10 (by decide) ?_
      refine lv_goto (tgt := 15) hx hb dX7_in_11 (by decide) ?_
      exact rz hx hb hr hlocks dX7_in_15 (by first | exact b2i_n | rfl | decide) (by simp_all [b2i, nI, wiB, Int32.not_lt, ← Int32.not_le])

set_option maxHeartbeats 4000000 in
set_option maxRecDepth 100000 in
theorem c_X7_isPlan (l : Launch) (D : va_G) (cy : Nat → ClassId) (z0 : Nat) (ad : Nat → Nat) (V : Nat → Option va_E) (n k P K : Nat) (ev : Int32) (h2000 : V 2000 = some (.inr (7, [.int (nI n), .int (nI k), .ref (ad (2002)), .ref (ad (2003)), .ref (ad (2004)), .ref (ad (2005)), .ref (ad (2006)), .int (nI P), .ref (ad (2008)), .ref (ad (2009)), .ref (ad (2010)), .ref (ad (2011)), .ref (ad (2012)), .ref (ad (2013)), .ref (ad (2014)), .ref (ad (2015)), .ref (ad (2016)), .ref (ad (2017)), .ref (ad (2018)), .ref (ad (2019)), .ref (ad (2020)), .int (ev), .int (nI K), .ref (ad (2023)), .ref (ad (2024)), .ref (ad (2025)), .ref (ad (2026)), .ref (ad (2027))]))) (hb31 : P < 2147483648) (x : Int32) : Met l yX7_isPlan [Cond.code yX7_isPlan cX7_isPlan 2 (some .boolean)] { frames := 1, cells := 0, slots := 0, locals := 22 } (WP [.ref (ad (2000)), .int (x)] D cy z0 ad V) (vp_Si (fun r => r = b2i (hasB P x))) 0 0 (fun _ => False) := by
  refine met_of (by decide) (Nat.le_of_ble_eq_true rfl) (fun p e s m below meth c hx hb hr hml hown hlocks hnm hK hz hW ls hl => ?_)
  have hown : s.vm.findClass RX7 = some m.cls := hown
  have hl : lv_has ls 2 [(0, .ref (ad (2000))), (1, .int (x))] := hl
  refine lv_iload_n hx hb dX7_isPlan_0 rfl (lv_at hl 1 rfl) ?_
  refine lv_iconst (v := nI 0) hx hb dX7_isPlan_1 (by decide) ?_
  refine lv_aload_n hx hb dX7_isPlan_2 rfl (lv_at hl 0 rfl) ?_
  refine g_X7_X7_plans hx hb hown hK hW h2000 dX7_isPlan_3 ?_
  refine lv_iconst (v := nI 1) hx hb dX7_isPlan_6 (by decide) ?_
  refine lv_isub hx hb dX7_isPlan_7 ?_
  refine vp_callSi (va_Run.run (va_runS (As := [.int (x), .int (nI 0), .int ((nI P) - (nI 1))]) (rest := []) ⟨hx, hb, hml, hown, hK.1.use _⟩ (c_X7_in l D cy z0 ad V x (nI 0) (nI P - nI 1)) (k_X7_X7_in hK.1 rfl rfl ⟨Nat.le_of_ble_eq_true rfl, Nat.le_of_ble_eq_true rfl⟩) (preS hK hz hW) rfl rfl hl.1 rfl (lv_room (Nat.le_of_ble_eq_true rfl)) dX7_isPlan_8 ⟨Nat.le_of_ble_eq_true rfl, Nat.le_of_ble_eq_true rfl⟩)) (fun r8 h8 => ?_)
  have h8 : r8 = b2i (wiB x (nI 0) (nI P - nI 1)) := h8
  subst h8
  exact rz hx hb hr hlocks dX7_isPlan_11 (by first | exact b2i_n | rfl | decide) (by rw [wiB_has hb31])

set_option maxHeartbeats 4000000 in
set_option maxRecDepth 100000 in
theorem c_X7_isRule (l : Launch) (D : va_G) (cy : Nat → ClassId) (z0 : Nat) (ad : Nat → Nat) (V : Nat → Option va_E) (n k P K : Nat) (ev : Int32) (h2000 : V 2000 = some (.inr (7, [.int (nI n), .int (nI k), .ref (ad (2002)), .ref (ad (2003)), .ref (ad (2004)), .ref (ad (2005)), .ref (ad (2006)), .int (nI P), .ref (ad (2008)), .ref (ad (2009)), .ref (ad (2010)), .ref (ad (2011)), .ref (ad (2012)), .ref (ad (2013)), .ref (ad (2014)), .ref (ad (2015)), .ref (ad (2016)), .ref (ad (2017)), .ref (ad (2018)), .ref (ad (2019)), .ref (ad (2020)), .int (ev), .int (nI K), .ref (ad (2023)), .ref (ad (2024)), .ref (ad (2025)), .ref (ad (2026)), .ref (ad (2027))]))) (hb31 : k < 2147483648) (x : Int32) : Met l yX7_isRule [Cond.code yX7_isRule cX7_isRule 2 (some .boolean)] { frames := 1, cells := 0, slots := 0, locals := 22 } (WP [.ref (ad (2000)), .int (x)] D cy z0 ad V) (vp_Si (fun r => r = b2i (hasB k x))) 0 0 (fun _ => False) := by
  refine met_of (by decide) (Nat.le_of_ble_eq_true rfl) (fun p e s m below meth c hx hb hr hml hown hlocks hnm hK hz hW ls hl => ?_)
  have hown : s.vm.findClass RX7 = some m.cls := hown
  have hl : lv_has ls 2 [(0, .ref (ad (2000))), (1, .int (x))] := hl
  refine lv_iload_n hx hb dX7_isRule_0 rfl (lv_at hl 1 rfl) ?_
  refine lv_iconst (v := nI 0) hx hb dX7_isRule_1 (by decide) ?_
  refine lv_aload_n hx hb dX7_isRule_2 rfl (lv_at hl 0 rfl) ?_
  refine g_X7_X7_rules hx hb hown hK hW h2000 dX7_isRule_3 ?_
  refine lv_iconst (v := nI 1) hx hb dX7_isRule_6 (by decide) ?_
  refine lv_isub hx hb dX7_isRule_7 ?_
  refine vp_callSi (va_Run.run (va_runS (As := [.int (x), .int (nI 0), .int ((nI k) - (nI 1))]) (rest := []) ⟨hx, hb, hml, hown, hK.1.use _⟩ (c_X7_in l D cy z0 ad V x (nI 0) (nI k - nI 1)) (k_X7_X7_in hK.1 rfl rfl ⟨Nat.le_of_ble_eq_true rfl, Nat.le_of_ble_eq_true rfl⟩) (preS hK hz hW) rfl rfl hl.1 rfl (lv_room (Nat.le_of_ble_eq_true rfl)) dX7_isRule_8 ⟨Nat.le_of_ble_eq_true rfl, Nat.le_of_ble_eq_true rfl⟩)) (fun r8 h8 => ?_)
  have h8 : r8 = b2i (wiB x (nI 0) (nI k - nI 1)) := h8
  subst h8
  exact rz hx hb hr hlocks dX7_isRule_11 (by first | exact b2i_n | rfl | decide) (by rw [wiB_has hb31])

set_option maxHeartbeats 4000000 in
set_option maxRecDepth 100000 in
theorem c_X7_at (l : Launch) (D : va_G) (cy : Nat → ClassId) (z0 : Nat) (ad : Nat → Nat) (V : Nat → Option va_E) (pp oo mm : Nat) : Met l yX7_at [Cond.code yX7_at cX7_at 4 (some .int)] { frames := 0, cells := 0, slots := 0, locals := 0 } (WP [.ref (ad (2000)), .int (nI pp), .int (nI oo), .int (nI mm)] D cy z0 ad V) (vp_Si (fun r => r = nI (160 * pp + 4 * oo + mm))) 0 0 (fun _ => False) := by
  refine met_of (by decide) (Nat.le_of_ble_eq_true rfl) (fun p e s m below meth c hx hb hr hml hown hlocks hnm hK hz hW ls hl => ?_)
  have hown : s.vm.findClass RX7 = some m.cls := hown
  have hl : lv_has ls 4 [(0, .ref (ad (2000))), (1, .int (nI pp)), (2, .int (nI oo)), (3, .int (nI mm))] := hl
  refine lv_sipush (v := nI 160) hx hb dX7_at_0 (by decide) ?_
  refine lv_iload_n hx hb dX7_at_3 rfl (lv_at hl 1 rfl) ?_
  refine lv_imul hx hb dX7_at_4 ?_
  refine asi (y := nI (160 * pp)) (pk_mul _ _) ?_
  refine lv_iconst (v := nI 4) hx hb dX7_at_5 (by decide) ?_
  refine lv_iload_n hx hb dX7_at_6 rfl (lv_at hl 2 rfl) ?_
  refine lv_imul hx hb dX7_at_7 ?_
  refine asi (y := nI (4 * oo)) (pk_mul _ _) ?_
  refine lv_iadd hx hb dX7_at_8 ?_
  refine asi (y := nI ((160 * pp) + (4 * oo))) (nI_add _ _) ?_
  refine lv_iload_n hx hb dX7_at_9 rfl (lv_at hl 3 rfl) ?_
  refine lv_iadd hx hb dX7_at_10 ?_
  refine asi (y := nI (((160 * pp) + (4 * oo)) + mm)) (nI_add _ _) ?_
  exact ri hx hb hr hlocks dX7_at_11 (rfl)

set_option maxHeartbeats 4000000 in
set_option maxRecDepth 100000 in
theorem c_X7_isBegun (l : Launch) (D : va_G) (cy : Nat → ClassId) (z0 : Nat) (ad : Nat → Nat) (V : Nat → Option va_E) (n k P K : Nat) (ev : Int32) (h2000 : V 2000 = some (.inr (7, [.int (nI n), .int (nI k), .ref (ad (2002)), .ref (ad (2003)), .ref (ad (2004)), .ref (ad (2005)), .ref (ad (2006)), .int (nI P), .ref (ad (2008)), .ref (ad (2009)), .ref (ad (2010)), .ref (ad (2011)), .ref (ad (2012)), .ref (ad (2013)), .ref (ad (2014)), .ref (ad (2015)), .ref (ad (2016)), .ref (ad (2017)), .ref (ad (2018)), .ref (ad (2019)), .ref (ad (2020)), .int (ev), .int (nI K), .ref (ad (2023)), .ref (ad (2024)), .ref (ad (2025)), .ref (ad (2026)), .ref (ad (2027))]))) (cha : Nat → Int32) (h2011 : V 2011 = some (.inl (cy 0, 4, .inl cha))) (hb31 : P < 2147483648) : Met l yX7_isBegun [Cond.code yX7_isBegun cX7_isBegun 1 (some .boolean)] { frames := 0, cells := 0, slots := 0, locals := 0 } (WP [.ref (ad (2000))] D cy z0 ad V) (vp_Si (fun r => r = b2i (stB P (cha 0)))) 0 0 (fun _ => False) := by
  refine met_of (by decide) (Nat.le_of_ble_eq_true rfl) (fun p e s m below meth c hx hb hr hml hown hlocks hnm hK hz hW ls hl => ?_)
  have hown : s.vm.findClass RX7 = some m.cls := hown
  have hl : lv_has ls 1 [(0, .ref (ad (2000)))] := hl
  refine lv_aload_n hx hb dX7_isBegun_0 rfl (lv_at hl 0 rfl) ?_
  refine g_X7_X7_plans hx hb hown hK hW h2000 dX7_isBegun_1 ?_
  refine lv_iconst (v := nI 1) hx hb dX7_isBegun_4 (by decide) ?_
  refine lv_icmp_gt (tgt := 17) hx hb dX7_isBegun_5 (by decide) (fun c5 => ?_) (fun c5 => ?_)
  · skip
    have c5 := nI_lt' c5 (by omega) (by omega)
    refine lv_iconst (v := nI 1) hx hb dX7_isBegun_17 (by decide) ?_
    refine lv_goto (tgt := 22) hx hb dX7_isBegun_18 (by decide) ?_
    exact rz hx hb hr hlocks dX7_isBegun_22 (by first | exact b2i_n | rfl | decide) (by first | (simp [stB, c5, b2i, nI]; done) | (simp [stB, c5, c14, b2i, nI]; done) | (have c5 : ¬ 1 < P := (by omega); simp [stB, c5, c14, b2i, nI]; done))
  · skip
    have c5 := nI_nlt' c5 (by omega) (by omega)
    refine lv_aload_n hx hb dX7_isBegun_8 rfl (lv_at hl 0 rfl) ?_
    refine g_X7_X7_changes hx hb hown hK hW h2000 dX7_isBegun_9 ?_
    refine lv_iconst (v := nI 0) hx hb dX7_isBegun_12 (by decide) ?_
    refine w_iald hx hb hK hW h2011 (j := 0) (rfl) (by omega) (by omega) dX7_isBegun_13 ?_
    refine lv_if_le (tgt := 21) hx hb dX7_isBegun_14 (by decide) (fun c14 => ?_) (fun c14 => ?_)
    · skip
      have c14 : ¬ 0 < cha 0 := fun q => by rw [Int32.lt_iff_toInt_lt] at q; rw [Int32.le_iff_toInt_le] at c14; omega
      refine lv_iconst (v := nI 0) hx hb dX7_isBegun_21 (by decide) ?_
      exact rz hx hb hr hlocks dX7_isBegun_22 (by first | exact b2i_n | rfl | decide) (by first | (simp [stB, c5, b2i, nI]; done) | (simp [stB, c5, c14, b2i, nI]; done) | (have c5 : ¬ 1 < P := (by omega); simp [stB, c5, c14, b2i, nI]; done))
    · skip
      have c14 : 0 < cha 0 := by rw [Int32.le_iff_toInt_le] at c14; rw [Int32.lt_iff_toInt_lt]; omega
      refine lv_iconst (v := nI 1) hx hb dX7_isBegun_17 (by decide) ?_
      refine lv_goto (tgt := 22) hx hb dX7_isBegun_18 (by decide) ?_
      exact rz hx hb hr hlocks dX7_isBegun_22 (by first | exact b2i_n | rfl | decide) (by first | (simp [stB, c5, b2i, nI]; done) | (simp [stB, c5, c14, b2i, nI]; done) | (have c5 : ¬ 1 < P := (by omega); simp [stB, c5, c14, b2i, nI]; done))

set_option maxHeartbeats 4000000 in
set_option maxRecDepth 100000 in
theorem c_X7_scoreOf (l : Launch) (D : va_G) (cy : Nat → ClassId) (z0 : Nat) (ad : Nat → Nat) (V : Nat → Option va_E) (n k P K : Nat) (ev : Int32) (h2000 : V 2000 = some (.inr (7, [.int (nI n), .int (nI k), .ref (ad (2002)), .ref (ad (2003)), .ref (ad (2004)), .ref (ad (2005)), .ref (ad (2006)), .int (nI P), .ref (ad (2008)), .ref (ad (2009)), .ref (ad (2010)), .ref (ad (2011)), .ref (ad (2012)), .ref (ad (2013)), .ref (ad (2014)), .ref (ad (2015)), .ref (ad (2016)), .ref (ad (2017)), .ref (ad (2018)), .ref (ad (2019)), .ref (ad (2020)), .int (ev), .int (nI K), .ref (ad (2023)), .ref (ad (2024)), .ref (ad (2025)), .ref (ad (2026)), .ref (ad (2027))]))) (av : Nat → Int32) (h2006 : V 2006 = some (.inl (cy 0, 12, .inl av))) (kpt : Nat → Int64) (h2009 : V 2009 = some (.inl (cy 1, 48, .inr (.inl kpt)))) (hk12 : k ≤ 12) (pp : Nat) (hp4 : pp < 4) (lv : Int32) : Met l yX7_scoreOf [Cond.code yX7_scoreOf cX7_scoreOf 6 (some .long)] { frames := 0, cells := 0, slots := 0, locals := 0 } (WP [.ref (ad (2000)), .int (nI pp), .int (lv)] D cy z0 ad V) (vp_Sl (fun r => r = scR av kpt pp lv k)) 0 0 (fun _ => False) := by
  refine met_of (by decide) (Nat.le_of_ble_eq_true rfl) (fun p e s m below meth c hx hb hr hml hown hlocks hnm hK hz hW ls hl => ?_)
  have hown : s.vm.findClass RX7 = some m.cls := hown
  have hl : lv_has ls 6 [(0, .ref (ad (2000))), (1, .int (nI pp)), (2, .int (lv))] := hl
  refine lv_lconst (v := 0) hx hb dX7_scoreOf_0 (by decide) ?_
  refine lv_lstore_n (lv' := [(3, .long (0)), (0, .ref (ad (2000))), (1, .int (nI pp)), (2, .int (lv))]) hx hb dX7_scoreOf_1 rfl hl (by decide) rfl (fun ls hl => ?_)
  refine lv_iconst (v := nI 0) hx hb dX7_scoreOf_2 (by decide) ?_
  refine lv_istore (lv' := [(5, .int (nI 0)), (3, .long (0)), (0, .ref (ad (2000))), (1, .int (nI pp)), (2, .int (lv))]) hx hb dX7_scoreOf_3 hl (by decide) rfl (fun ls hl => ?_)
  refine wl (ι := Nat) (fun i => k - i) (fun i g => (i ≤ k) ∧ ∃ ls, g = F0 m 5 ls [] ∧ lv_has ls 6 [(0, .ref (ad (2000))), (1, .int (nI pp)), (2, .int (lv)), (3, .long (scR av kpt pp lv i)), (5, .int (nI i))]) ?_ (0) _ ⟨Nat.zero_le _, ls, rfl, lv_sub hl [2, 3, 4, 1, 0] rfl⟩
  intro i g hg ih
  obtain ⟨hi, ls, rfl, hl⟩ := hg
  refine lv_iload hx hb dX7_scoreOf_5 (lv_at hl 4 rfl) ?_
  refine lv_aload_n hx hb dX7_scoreOf_7 rfl (lv_at hl 0 rfl) ?_
  refine g_X7_X7_rules hx hb hown hK hW h2000 dX7_scoreOf_8 ?_
  refine lv_icmp_ge (tgt := 50) hx hb dX7_scoreOf_11 (by decide) (fun c11 => ?_) (fun c11 => ?_)
  · skip
    have c11 := nI_le' c11 (by omega) (by omega)
    refine lv_lload_n hx hb dX7_scoreOf_50 rfl (lv_at hl 3 rfl) ?_
    exact rl hx hb hr hlocks dX7_scoreOf_51 (by have e9 : i = k := (by omega); rw [e9])
  · skip
    have c11 := nI_nle' c11 (by omega) (by omega)
    refine lv_lload_n hx hb dX7_scoreOf_14 rfl (lv_at hl 3 rfl) ?_
    refine jl (pcj := 42) (st := [.long (if av i = lv then kpt (12 * pp + i) else 0), .long (scR av kpt pp lv i)]) (nL := 6) (lv := [(0, .ref (ad (2000))), (1, .int (nI pp)), (2, .int (lv)), (3, .long (scR av kpt pp lv i)), (5, .int (nI i))]) (fun K => ?_) (fun ls hl => ?_)
    · skip
      refine lv_aload_n hx hb dX7_scoreOf_15 rfl (lv_at hl 0 rfl) ?_
      refine g_X7_X7_level hx hb hown hK hW h2000 dX7_scoreOf_16 ?_
      refine lv_iload hx hb dX7_scoreOf_19 (lv_at hl 4 rfl) ?_
      refine w_iald hx hb hK hW h2006 (j := i) (rfl) (by omega) (by omega) dX7_scoreOf_21 ?_
      refine lv_iload_n hx hb dX7_scoreOf_22 rfl (lv_at hl 2 rfl) ?_
      refine lv_icmp_ne (tgt := 41) hx hb dX7_scoreOf_23 (by decide) (fun c23 => ?_) (fun c23 => ?_)
      · skip
        refine lv_lconst (v := 0) hx hb dX7_scoreOf_41 (by decide) ?_
        refine asl (y := if av i = lv then kpt (12 * pp + i) else 0) (by simp [c23]) ?_
        exact K ls (lv_sub hl [0, 1, 2, 3, 4] rfl)
      · skip
        refine lv_aload_n hx hb dX7_scoreOf_26 rfl (lv_at hl 0 rfl) ?_
        refine g_X7_X7_kept hx hb hown hK hW h2000 dX7_scoreOf_27 ?_
        refine lv_bipush (v := nI 12) hx hb dX7_scoreOf_30 (by decide) ?_
        refine lv_iload_n hx hb dX7_scoreOf_32 rfl (lv_at hl 1 rfl) ?_
        refine lv_imul hx hb dX7_scoreOf_33 ?_
        refine asi (y := nI (12 * pp)) (pk_mul _ _) ?_
        refine lv_iload hx hb dX7_scoreOf_34 (lv_at hl 4 rfl) ?_
        refine lv_iadd hx hb dX7_scoreOf_36 ?_
        refine asi (y := nI ((12 * pp) + i)) (nI_add _ _) ?_
        refine w_lald hx hb hK hW h2009 (j := (12 * pp) + i) (rfl) (by omega) (by omega) dX7_scoreOf_37 ?_
        refine lv_goto (tgt := 42) hx hb dX7_scoreOf_38 (by decide) ?_
        refine asl (y := if av i = lv then kpt (12 * pp + i) else 0) (by simp [c23]) ?_
        exact K ls (lv_sub hl [0, 1, 2, 3, 4] rfl)
    · skip
      refine lv_ladd hx hb dX7_scoreOf_42 ?_
      refine asl (y := scR av kpt pp lv (i + 1)) (rfl) ?_
      refine lv_lstore_n (lv' := [(3, .long (scR av kpt pp lv (i + 1))), (0, .ref (ad (2000))), (1, .int (nI pp)), (2, .int (lv)), (5, .int (nI i))]) hx hb dX7_scoreOf_43 rfl hl (by decide) rfl (fun ls hl => ?_)
      refine lv_iinc (v := nI (i + 1)) (lv' := [(5, .int (nI (i + 1))), (3, .long (scR av kpt pp lv (i + 1))), (0, .ref (ad (2000))), (1, .int (nI pp)), (2, .int (lv))]) hx hb dX7_scoreOf_44 hl (k := 4) rfl (by rw [show Int32.ofInt 1 = nI 1 from by decide]; exact nI_add _ _) (by decide) rfl (fun ls hl => ?_)
      refine lv_goto (tgt := 5) hx hb dX7_scoreOf_47 (by decide) ?_
      exact ih (i + 1) _ ⟨by omega, ls, rfl, lv_sub hl [2, 3, 4, 1, 0] rfl⟩ (by omega)

set_option maxHeartbeats 4000000 in
set_option maxRecDepth 100000 in
theorem c_X7_others (l : Launch) (D : va_G) (cy : Nat → ClassId) (z0 : Nat) (ad : Nat → Nat) (V : Nat → Option va_E) (n k P K : Nat) (ev : Int32) (h2000 : V 2000 = some (.inr (7, [.int (nI n), .int (nI k), .ref (ad (2002)), .ref (ad (2003)), .ref (ad (2004)), .ref (ad (2005)), .ref (ad (2006)), .int (nI P), .ref (ad (2008)), .ref (ad (2009)), .ref (ad (2010)), .ref (ad (2011)), .ref (ad (2012)), .ref (ad (2013)), .ref (ad (2014)), .ref (ad (2015)), .ref (ad (2016)), .ref (ad (2017)), .ref (ad (2018)), .ref (ad (2019)), .ref (ad (2020)), .int (ev), .int (nI K), .ref (ad (2023)), .ref (ad (2024)), .ref (ad (2025)), .ref (ad (2026)), .ref (ad (2027))]))) (mem : Nat → Int32) (h2008 : V 2008 = some (.inl (cy 0, 640, .inl mem))) (was : Nat → Int32) (h2026 : V 2026 = some (.inl (cy 0, 160, .inl was))) (hn40 : n ≤ 40) (pp : Nat) (hp4 : pp < 4) : Met l yX7_others [Cond.code yX7_others cX7_others 4 (some .int)] { frames := 0, cells := 0, slots := 0, locals := 0 } (WP [.ref (ad (2000)), .int (nI pp)] D cy z0 ad V) (vp_Si (fun r => r = nI (oth was (fun j => mem (160 * pp + j)) (4 * n)))) 0 0 (fun _ => False) := by
  refine met_of (by decide) (Nat.le_of_ble_eq_true rfl) (fun p e s m below meth c hx hb hr hml hown hlocks hnm hK hz hW ls hl => ?_)
  have hown : s.vm.findClass RX7 = some m.cls := hown
  have hl : lv_has ls 4 [(0, .ref (ad (2000))), (1, .int (nI pp))] := hl
  refine lv_iconst (v := nI 0) hx hb dX7_others_0 (by decide) ?_
  refine lv_istore_n (lv' := [(2, .int (nI 0)), (0, .ref (ad (2000))), (1, .int (nI pp))]) hx hb dX7_others_1 rfl hl (by decide) rfl (fun ls hl => ?_)
  refine lv_iconst (v := nI 0) hx hb dX7_others_2 (by decide) ?_
  refine lv_istore_n (lv' := [(3, .int (nI 0)), (2, .int (nI 0)), (0, .ref (ad (2000))), (1, .int (nI pp))]) hx hb dX7_others_3 rfl hl (by decide) rfl (fun ls hl => ?_)
  refine wl (ι := Nat) (fun i => 4 * n - i) (fun i g => (i ≤ 4 * n) ∧ ∃ ls, g = F0 m 4 ls [] ∧ lv_has ls 4 [(0, .ref (ad (2000))), (1, .int (nI pp)), (2, .int (nI (oth was (fun j => mem (160 * pp + j)) i))), (3, .int (nI i))]) ?_ (0) _ ⟨Nat.zero_le _, ls, rfl, lv_sub hl [2, 3, 1, 0] rfl⟩
  intro i g hg ih
  obtain ⟨hi, ls, rfl, hl⟩ := hg
  refine lv_iload_n hx hb dX7_others_4 rfl (lv_at hl 3 rfl) ?_
  refine lv_iconst (v := nI 4) hx hb dX7_others_5 (by decide) ?_
  refine lv_aload_n hx hb dX7_others_6 rfl (lv_at hl 0 rfl) ?_
  refine g_X7_X7_objects hx hb hown hK hW h2000 dX7_others_7 ?_
  refine lv_imul hx hb dX7_others_10 ?_
  refine asi (y := nI (4 * n)) (pk_mul _ _) ?_
  refine lv_icmp_ge (tgt := 49) hx hb dX7_others_11 (by decide) (fun c11 => ?_) (fun c11 => ?_)
  · skip
    have c11 := nI_le' c11 (by omega) (by omega)
    refine lv_iload_n hx hb dX7_others_49 rfl (lv_at hl 2 rfl) ?_
    exact ri hx hb hr hlocks dX7_others_50 (by have e9 : i = 4 * n := (by omega); rw [e9])
  · skip
    have c11 := nI_nle' c11 (by omega) (by omega)
    refine lv_iload_n hx hb dX7_others_14 rfl (lv_at hl 2 rfl) ?_
    refine jl (pcj := 41) (st := [.int (nI (if was i = mem (160 * pp + i) then 0 else 1)), .int (nI (oth was (fun j => mem (160 * pp + j)) i))]) (nL := 4) (lv := [(0, .ref (ad (2000))), (1, .int (nI pp)), (2, .int (nI (oth was (fun j => mem (160 * pp + j)) i))), (3, .int (nI i))]) (fun K => ?_) (fun ls hl => ?_)
    · skip
      refine lv_aload_n hx hb dX7_others_15 rfl (lv_at hl 0 rfl) ?_
      refine g_X7_X7_was hx hb hown hK hW h2000 dX7_others_16 ?_
      refine lv_iload_n hx hb dX7_others_19 rfl (lv_at hl 3 rfl) ?_
      refine w_iald hx hb hK hW h2026 (j := i) (rfl) (by omega) (by omega) dX7_others_20 ?_
      refine lv_aload_n hx hb dX7_others_21 rfl (lv_at hl 0 rfl) ?_
      refine g_X7_X7_member hx hb hown hK hW h2000 dX7_others_22 ?_
      refine lv_sipush (v := nI 160) hx hb dX7_others_25 (by decide) ?_
      refine lv_iload_n hx hb dX7_others_28 rfl (lv_at hl 1 rfl) ?_
      refine lv_imul hx hb dX7_others_29 ?_
      refine asi (y := nI (160 * pp)) (pk_mul _ _) ?_
      refine lv_iload_n hx hb dX7_others_30 rfl (lv_at hl 3 rfl) ?_
      refine lv_iadd hx hb dX7_others_31 ?_
      refine asi (y := nI ((160 * pp) + i)) (nI_add _ _) ?_
      refine w_iald hx hb hK hW h2008 (j := (160 * pp) + i) (rfl) (by omega) (by omega) dX7_others_32 ?_
      refine lv_icmp_ne (tgt := 40) hx hb dX7_others_33 (by decide) (fun c33 => ?_) (fun c33 => ?_)
      · skip
        refine lv_iconst (v := nI 1) hx hb dX7_others_40 (by decide) ?_
        refine asi (y := nI (if was i = mem (160 * pp + i) then 0 else 1)) (by simp [c33]) ?_
        exact K ls (lv_sub hl [0, 1, 2, 3] rfl)
      · skip
        refine lv_iconst (v := nI 0) hx hb dX7_others_36 (by decide) ?_
        refine lv_goto (tgt := 41) hx hb dX7_others_37 (by decide) ?_
        refine asi (y := nI (if was i = mem (160 * pp + i) then 0 else 1)) (by simp [c33]) ?_
        exact K ls (lv_sub hl [0, 1, 2, 3] rfl)
    · skip
      refine lv_iadd hx hb dX7_others_41 ?_
      refine asi (y := nI ((oth was (fun j => mem (160 * pp + j)) i) + (if was i = mem (160 * pp + i) then 0 else 1))) (nI_add _ _) ?_
      refine asi (y := nI (oth was (fun j => mem (160 * pp + j)) (i + 1))) (rfl) ?_
      refine lv_istore_n (lv' := [(2, .int (nI (oth was (fun j => mem (160 * pp + j)) (i + 1)))), (0, .ref (ad (2000))), (1, .int (nI pp)), (3, .int (nI i))]) hx hb dX7_others_42 rfl hl (by decide) rfl (fun ls hl => ?_)
      refine lv_iinc (v := nI (i + 1)) (lv' := [(3, .int (nI (i + 1))), (2, .int (nI (oth was (fun j => mem (160 * pp + j)) (i + 1)))), (0, .ref (ad (2000))), (1, .int (nI pp))]) hx hb dX7_others_43 hl (k := 3) rfl (by rw [show Int32.ofInt 1 = nI 1 from by decide]; exact nI_add _ _) (by decide) rfl (fun ls hl => ?_)
      refine lv_goto (tgt := 4) hx hb dX7_others_46 (by decide) ?_
      exact ih (i + 1) _ ⟨by omega, ls, rfl, lv_sub hl [2, 3, 1, 0] rfl⟩ (by omega)

set_option maxHeartbeats 4000000 in
set_option maxRecDepth 100000 in
theorem c_X7_worthOf (l : Launch) (D : va_G) (cy : Nat → ClassId) (z0 : Nat) (ad : Nat → Nat) (V : Nat → Option va_E) (n k P K : Nat) (ev : Int32) (h2000 : V 2000 = some (.inr (7, [.int (nI n), .int (nI k), .ref (ad (2002)), .ref (ad (2003)), .ref (ad (2004)), .ref (ad (2005)), .ref (ad (2006)), .int (nI P), .ref (ad (2008)), .ref (ad (2009)), .ref (ad (2010)), .ref (ad (2011)), .ref (ad (2012)), .ref (ad (2013)), .ref (ad (2014)), .ref (ad (2015)), .ref (ad (2016)), .ref (ad (2017)), .ref (ad (2018)), .ref (ad (2019)), .ref (ad (2020)), .int (ev), .int (nI K), .ref (ad (2023)), .ref (ad (2024)), .ref (ad (2025)), .ref (ad (2026)), .ref (ad (2027))]))) (ak : Nat → Int32) (h2002 : V 2002 = some (.inl (cy 0, 12, .inl ak))) (al : Nat → Int32) (h2003 : V 2003 = some (.inl (cy 0, 12, .inl al))) (ab : Nat → Int32) (h2004 : V 2004 = some (.inl (cy 0, 12, .inl ab))) (aw : Nat → Int32) (h2005 : V 2005 = some (.inl (cy 0, 12, .inl aw))) (mem : Nat → Int32) (h2008 : V 2008 = some (.inl (cy 0, 640, .inl mem))) (hn40 : n ≤ 40) (pp rr kd lk : Nat) (bd wt : Int32) (hp4 : pp < 4) (hr12 : rr < 12) (hkd : kd < 6) (hlk : lk < 4) (ek : ak rr = nI kd) (el : al rr = nI lk) (eb : ab rr = bd) (ew : aw rr = wt) (hbf : ∀ o, o < n → memV mem pp 2 o < 0 ∨ ∃ b, b < n ∧ memV mem pp 2 o = nI b) : Met l yX7_worthOf [Cond.code yX7_worthOf cX7_worthOf 15 (some .long)] { frames := 1, cells := 0, slots := 0, locals := 23 } (WP [.ref (ad (2000)), .int (nI pp), .int (nI rr)] D cy z0 ad V) (vp_Sl (fun r => r = rwO kd bd wt (memV mem pp lk) (memV mem pp 2) n)) 0 0 (fun _ => False) := by
  refine met_of (by decide) (Nat.le_of_ble_eq_true rfl) (fun p e s m below meth c hx hb hr hml hown hlocks hnm hK hz hW ls hl => ?_)
  have hown : s.vm.findClass RX7 = some m.cls := hown
  have hl : lv_has ls 15 [(0, .ref (ad (2000))), (1, .int (nI pp)), (2, .int (nI rr))] := hl
  refine lv_lconst (v := 0) hx hb dX7_worthOf_0 (by decide) ?_
  refine lv_lstore_n (lv' := [(3, .long (0)), (0, .ref (ad (2000))), (1, .int (nI pp)), (2, .int (nI rr))]) hx hb dX7_worthOf_1 rfl hl (by decide) rfl (fun ls hl => ?_)
  refine lv_lconst (v := 0) hx hb dX7_worthOf_2 (by decide) ?_
  refine lv_lstore (lv' := [(5, .long (0)), (3, .long (0)), (0, .ref (ad (2000))), (1, .int (nI pp)), (2, .int (nI rr))]) hx hb dX7_worthOf_3 hl (by decide) rfl (fun ls hl => ?_)
  refine lv_aload_n hx hb dX7_worthOf_5 rfl (lv_at hl 2 rfl) ?_
  refine g_X7_X7_bound hx hb hown hK hW h2000 dX7_worthOf_6 ?_
  refine lv_iload_n hx hb dX7_worthOf_9 rfl (lv_at hl 4 rfl) ?_
  refine w_iald hx hb hK hW h2004 (j := rr) (rfl) (by omega) (by omega) dX7_worthOf_10 ?_
  refine asi (y := bd) (eb) ?_
  refine lv_istore (lv' := [(7, .int (bd)), (5, .long (0)), (3, .long (0)), (0, .ref (ad (2000))), (1, .int (nI pp)), (2, .int (nI rr))]) hx hb dX7_worthOf_11 hl (by decide) rfl (fun ls hl => ?_)
  refine lv_aload_n hx hb dX7_worthOf_13 rfl (lv_at hl 3 rfl) ?_
  refine g_X7_X7_looks hx hb hown hK hW h2000 dX7_worthOf_14 ?_
  refine lv_iload_n hx hb dX7_worthOf_17 rfl (lv_at hl 5 rfl) ?_
  refine w_iald hx hb hK hW h2003 (j := rr) (rfl) (by omega) (by omega) dX7_worthOf_18 ?_
  refine asi (y := nI lk) (el) ?_
  refine lv_istore (lv' := [(8, .int (nI lk)), (7, .int (bd)), (5, .long (0)), (3, .long (0)), (0, .ref (ad (2000))), (1, .int (nI pp)), (2, .int (nI rr))]) hx hb dX7_worthOf_19 hl (by decide) rfl (fun ls hl => ?_)
  refine lv_iconst (v := nI 0) hx hb dX7_worthOf_21 (by decide) ?_
  refine lv_istore (lv' := [(9, .int (nI 0)), (8, .int (nI lk)), (7, .int (bd)), (5, .long (0)), (3, .long (0)), (0, .ref (ad (2000))), (1, .int (nI pp)), (2, .int (nI rr))]) hx hb dX7_worthOf_22 hl (by decide) rfl (fun ls hl => ?_)
  refine wl (ι := Nat) (fun i => n - i) (fun i g => (i ≤ n) ∧ ∃ ls, g = F0 m 24 ls [] ∧ lv_has ls 15 [(0, .ref (ad (2000))), (1, .int (nI pp)), (2, .int (nI rr)), (3, .long (acW kd (memV mem pp lk) (memV mem pp 2) bd n i)), (5, .long (sumL (memV mem pp lk) i)), (7, .int (bd)), (8, .int (nI lk)), (9, .int (nI i))]) ?_ (0) _ ⟨Nat.zero_le _, ls, rfl, lv_sub hl [5, 6, 7, 4, 3, 2, 1, 0] rfl⟩
  intro i g hg ih
  obtain ⟨hi, ls, rfl, hl⟩ := hg
  have ihA := ih
  refine lv_iload hx hb dX7_worthOf_24 (lv_at hl 7 rfl) ?_
  refine lv_aload_n hx hb dX7_worthOf_26 rfl (lv_at hl 0 rfl) ?_
  refine g_X7_X7_objects hx hb hown hK hW h2000 dX7_worthOf_27 ?_
  refine lv_icmp_ge (tgt := 315) hx hb dX7_worthOf_30 (by decide) (fun c30 => ?_) (fun c30 => ?_)
  · skip
    have c30 := nI_le' c30 (by omega) (by omega)
    have e9 : i = n := by omega
    rw [e9] at hl
    refine jl (pcj := 383) (st := []) (nL := 15) (lv := [(3, .long ((if kd = 1 then (if bd.toInt64 < sumL (memV mem pp lk) n then sumL (memV mem pp lk) n - bd.toInt64 else 0) else if kd = 2 then (if bd.toInt64 < sumL (memV mem pp lk) n then sumL (memV mem pp lk) n - bd.toInt64 else bd.toInt64 - sumL (memV mem pp lk) n) else acW kd (memV mem pp lk) (memV mem pp 2) bd n n))), (0, .ref (ad (2000))), (2, .int (nI rr))]) (fun K => ?_) (fun ls hl => ?_)
    · skip
      refine lv_aload_n hx hb dX7_worthOf_315 rfl (lv_at hl 0 rfl) ?_
      refine g_X7_X7_kind hx hb hown hK hW h2000 dX7_worthOf_316 ?_
      refine lv_iload_n hx hb dX7_worthOf_319 rfl (lv_at hl 2 rfl) ?_
      refine w_iald hx hb hK hW h2002 (j := rr) (rfl) (by omega) (by omega) dX7_worthOf_320 ?_
      refine asi (y := nI kd) (ek) ?_
      refine lv_iconst (v := nI 1) hx hb dX7_worthOf_321 (by decide) ?_
      refine lv_icmp_ne (tgt := 348) hx hb dX7_worthOf_322 (by decide) (fun c322 => ?_) (fun c322 => ?_)
      · skip
        have c322 := nI_ne' c322 (by omega) (by omega)
        refine lv_aload_n hx hb dX7_worthOf_348 rfl (lv_at hl 0 rfl) ?_
        refine g_X7_X7_kind hx hb hown hK hW h2000 dX7_worthOf_349 ?_
        refine lv_iload_n hx hb dX7_worthOf_352 rfl (lv_at hl 2 rfl) ?_
        refine w_iald hx hb hK hW h2002 (j := rr) (rfl) (by omega) (by omega) dX7_worthOf_353 ?_
        refine asi (y := nI kd) (ek) ?_
        refine lv_iconst (v := nI 2) hx hb dX7_worthOf_354 (by decide) ?_
        refine lv_icmp_ne (tgt := 383) hx hb dX7_worthOf_355 (by decide) (fun c355 => ?_) (fun c355 => ?_)
        · skip
          have c355 := nI_ne' c355 (by omega) (by omega)
          have hq3 : (acW kd (memV mem pp lk) (memV mem pp 2) bd n n) = ((if kd = 1 then (if bd.toInt64 < sumL (memV mem pp lk) n then sumL (memV mem pp lk) n - bd.toInt64 else 0) else if kd = 2 then (if bd.toInt64 < sumL (memV mem pp lk) n then sumL (memV mem pp lk) n - bd.toInt64 else bd.toInt64 - sumL (memV mem pp lk) n) else acW kd (memV mem pp lk) (memV mem pp 2) bd n n)) := by first | (rw [if_pos c322, if_pos ((lg_cmp_gt _ _).mp (by rw [Int32.le_iff_toInt_le] at c331; rw [Int32.lt_iff_toInt_lt]; omega))]; done) | (rw [if_pos c322, if_neg (fun q => by have q2 := (lg_cmp_gt _ _).mpr q; rw [Int32.lt_iff_toInt_lt] at q2; rw [Int32.le_iff_toInt_le] at c331; omega)]; done) | (rw [if_neg c322, if_neg c355]; done) | (rw [if_neg c322, if_pos c355, if_pos ((lg_cmp_gt _ _).mp (by rw [Int32.le_iff_toInt_le] at c364; rw [Int32.lt_iff_toInt_lt]; omega))]; done) | (rw [if_neg c322, if_pos c355, if_neg (fun q => by have q2 := (lg_cmp_gt _ _).mpr q; rw [Int32.lt_iff_toInt_lt] at q2; rw [Int32.le_iff_toInt_le] at c364; omega)]; done)
          rw [hq3] at hl
          exact K ls (lv_sub hl [3, 0, 2] rfl)
        · skip
          have c355 := nI_eq' c355 (by omega) (by omega)
          refine lv_lload hx hb dX7_worthOf_358 (lv_at hl 4 rfl) ?_
          refine lv_iload hx hb dX7_worthOf_360 (lv_at hl 5 rfl) ?_
          refine lv_i2l (v := bd.toInt64) hx hb dX7_worthOf_362 rfl ?_
          refine W.lcmp hx hb dX7_worthOf_363 ?_
          refine lv_if_le (tgt := 376) hx hb dX7_worthOf_364 (by decide) (fun c364 => ?_) (fun c364 => ?_)
          · skip
            refine lv_iload hx hb dX7_worthOf_376 (lv_at hl 5 rfl) ?_
            refine lv_i2l (v := bd.toInt64) hx hb dX7_worthOf_378 rfl ?_
            refine lv_lload hx hb dX7_worthOf_379 (lv_at hl 4 rfl) ?_
            refine lv_lsub hx hb dX7_worthOf_381 ?_
            refine lv_lstore_n (lv' := [(3, .long (bd.toInt64 - (sumL (memV mem pp lk) n))), (0, .ref (ad (2000))), (1, .int (nI pp)), (2, .int (nI rr)), (5, .long (sumL (memV mem pp lk) n)), (7, .int (bd)), (8, .int (nI lk)), (9, .int (nI n))]) hx hb dX7_worthOf_382 rfl hl (by decide) rfl (fun ls hl => ?_)
            have hq3 : (bd.toInt64 - (sumL (memV mem pp lk) n)) = ((if kd = 1 then (if bd.toInt64 < sumL (memV mem pp lk) n then sumL (memV mem pp lk) n - bd.toInt64 else 0) else if kd = 2 then (if bd.toInt64 < sumL (memV mem pp lk) n then sumL (memV mem pp lk) n - bd.toInt64 else bd.toInt64 - sumL (memV mem pp lk) n) else acW kd (memV mem pp lk) (memV mem pp 2) bd n n)) := by first | (rw [if_pos c322, if_pos ((lg_cmp_gt _ _).mp (by rw [Int32.le_iff_toInt_le] at c331; rw [Int32.lt_iff_toInt_lt]; omega))]; done) | (rw [if_pos c322, if_neg (fun q => by have q2 := (lg_cmp_gt _ _).mpr q; rw [Int32.lt_iff_toInt_lt] at q2; rw [Int32.le_iff_toInt_le] at c331; omega)]; done) | (rw [if_neg c322, if_neg c355]; done) | (rw [if_neg c322, if_pos c355, if_pos ((lg_cmp_gt _ _).mp (by rw [Int32.le_iff_toInt_le] at c364; rw [Int32.lt_iff_toInt_lt]; omega))]; done) | (rw [if_neg c322, if_pos c355, if_neg (fun q => by have q2 := (lg_cmp_gt _ _).mpr q; rw [Int32.lt_iff_toInt_lt] at q2; rw [Int32.le_iff_toInt_le] at c364; omega)]; done)
            rw [hq3] at hl
            exact K ls (lv_sub hl [0, 1, 3] rfl)
          · skip
            refine lv_lload hx hb dX7_worthOf_367 (lv_at hl 4 rfl) ?_
            refine lv_iload hx hb dX7_worthOf_369 (lv_at hl 5 rfl) ?_
            refine lv_i2l (v := bd.toInt64) hx hb dX7_worthOf_371 rfl ?_
            refine lv_lsub hx hb dX7_worthOf_372 ?_
            refine lv_goto (tgt := 382) hx hb dX7_worthOf_373 (by decide) ?_
            refine lv_lstore_n (lv' := [(3, .long ((sumL (memV mem pp lk) n) - bd.toInt64)), (0, .ref (ad (2000))), (1, .int (nI pp)), (2, .int (nI rr)), (5, .long (sumL (memV mem pp lk) n)), (7, .int (bd)), (8, .int (nI lk)), (9, .int (nI n))]) hx hb dX7_worthOf_382 rfl hl (by decide) rfl (fun ls hl => ?_)
            have hq3 : ((sumL (memV mem pp lk) n) - bd.toInt64) = ((if kd = 1 then (if bd.toInt64 < sumL (memV mem pp lk) n then sumL (memV mem pp lk) n - bd.toInt64 else 0) else if kd = 2 then (if bd.toInt64 < sumL (memV mem pp lk) n then sumL (memV mem pp lk) n - bd.toInt64 else bd.toInt64 - sumL (memV mem pp lk) n) else acW kd (memV mem pp lk) (memV mem pp 2) bd n n)) := by first | (rw [if_pos c322, if_pos ((lg_cmp_gt _ _).mp (by rw [Int32.le_iff_toInt_le] at c331; rw [Int32.lt_iff_toInt_lt]; omega))]; done) | (rw [if_pos c322, if_neg (fun q => by have q2 := (lg_cmp_gt _ _).mpr q; rw [Int32.lt_iff_toInt_lt] at q2; rw [Int32.le_iff_toInt_le] at c331; omega)]; done) | (rw [if_neg c322, if_neg c355]; done) | (rw [if_neg c322, if_pos c355, if_pos ((lg_cmp_gt _ _).mp (by rw [Int32.le_iff_toInt_le] at c364; rw [Int32.lt_iff_toInt_lt]; omega))]; done) | (rw [if_neg c322, if_pos c355, if_neg (fun q => by have q2 := (lg_cmp_gt _ _).mpr q; rw [Int32.lt_iff_toInt_lt] at q2; rw [Int32.le_iff_toInt_le] at c364; omega)]; done)
            rw [hq3] at hl
            exact K ls (lv_sub hl [0, 1, 3] rfl)
      · skip
        have c322 := nI_eq' c322 (by omega) (by omega)
        refine lv_lload hx hb dX7_worthOf_325 (lv_at hl 4 rfl) ?_
        refine lv_iload hx hb dX7_worthOf_327 (lv_at hl 5 rfl) ?_
        refine lv_i2l (v := bd.toInt64) hx hb dX7_worthOf_329 rfl ?_
        refine W.lcmp hx hb dX7_worthOf_330 ?_
        refine lv_if_le (tgt := 343) hx hb dX7_worthOf_331 (by decide) (fun c331 => ?_) (fun c331 => ?_)
        · skip
          refine lv_lconst (v := 0) hx hb dX7_worthOf_343 (by decide) ?_
          refine lv_lstore_n (lv' := [(3, .long (0)), (0, .ref (ad (2000))), (1, .int (nI pp)), (2, .int (nI rr)), (5, .long (sumL (memV mem pp lk) n)), (7, .int (bd)), (8, .int (nI lk)), (9, .int (nI n))]) hx hb dX7_worthOf_344 rfl hl (by decide) rfl (fun ls hl => ?_)
          refine lv_goto (tgt := 383) hx hb dX7_worthOf_345 (by decide) ?_
          have hq3 : (0) = ((if kd = 1 then (if bd.toInt64 < sumL (memV mem pp lk) n then sumL (memV mem pp lk) n - bd.toInt64 else 0) else if kd = 2 then (if bd.toInt64 < sumL (memV mem pp lk) n then sumL (memV mem pp lk) n - bd.toInt64 else bd.toInt64 - sumL (memV mem pp lk) n) else acW kd (memV mem pp lk) (memV mem pp 2) bd n n)) := by first | (rw [if_pos c322, if_pos ((lg_cmp_gt _ _).mp (by rw [Int32.le_iff_toInt_le] at c331; rw [Int32.lt_iff_toInt_lt]; omega))]; done) | (rw [if_pos c322, if_neg (fun q => by have q2 := (lg_cmp_gt _ _).mpr q; rw [Int32.lt_iff_toInt_lt] at q2; rw [Int32.le_iff_toInt_le] at c331; omega)]; done) | (rw [if_neg c322, if_neg c355]; done) | (rw [if_neg c322, if_pos c355, if_pos ((lg_cmp_gt _ _).mp (by rw [Int32.le_iff_toInt_le] at c364; rw [Int32.lt_iff_toInt_lt]; omega))]; done) | (rw [if_neg c322, if_pos c355, if_neg (fun q => by have q2 := (lg_cmp_gt _ _).mpr q; rw [Int32.lt_iff_toInt_lt] at q2; rw [Int32.le_iff_toInt_le] at c364; omega)]; done)
          rw [hq3] at hl
          exact K ls (lv_sub hl [0, 1, 3] rfl)
        · skip
          refine lv_lload hx hb dX7_worthOf_334 (lv_at hl 4 rfl) ?_
          refine lv_iload hx hb dX7_worthOf_336 (lv_at hl 5 rfl) ?_
          refine lv_i2l (v := bd.toInt64) hx hb dX7_worthOf_338 rfl ?_
          refine lv_lsub hx hb dX7_worthOf_339 ?_
          refine lv_goto (tgt := 344) hx hb dX7_worthOf_340 (by decide) ?_
          refine lv_lstore_n (lv' := [(3, .long ((sumL (memV mem pp lk) n) - bd.toInt64)), (0, .ref (ad (2000))), (1, .int (nI pp)), (2, .int (nI rr)), (5, .long (sumL (memV mem pp lk) n)), (7, .int (bd)), (8, .int (nI lk)), (9, .int (nI n))]) hx hb dX7_worthOf_344 rfl hl (by decide) rfl (fun ls hl => ?_)
          refine lv_goto (tgt := 383) hx hb dX7_worthOf_345 (by decide) ?_
          have hq3 : ((sumL (memV mem pp lk) n) - bd.toInt64) = ((if kd = 1 then (if bd.toInt64 < sumL (memV mem pp lk) n then sumL (memV mem pp lk) n - bd.toInt64 else 0) else if kd = 2 then (if bd.toInt64 < sumL (memV mem pp lk) n then sumL (memV mem pp lk) n - bd.toInt64 else bd.toInt64 - sumL (memV mem pp lk) n) else acW kd (memV mem pp lk) (memV mem pp 2) bd n n)) := by first | (rw [if_pos c322, if_pos ((lg_cmp_gt _ _).mp (by rw [Int32.le_iff_toInt_le] at c331; rw [Int32.lt_iff_toInt_lt]; omega))]; done) | (rw [if_pos c322, if_neg (fun q => by have q2 := (lg_cmp_gt _ _).mpr q; rw [Int32.lt_iff_toInt_lt] at q2; rw [Int32.le_iff_toInt_le] at c331; omega)]; done) | (rw [if_neg c322, if_neg c355]; done) | (rw [if_neg c322, if_pos c355, if_pos ((lg_cmp_gt _ _).mp (by rw [Int32.le_iff_toInt_le] at c364; rw [Int32.lt_iff_toInt_lt]; omega))]; done) | (rw [if_neg c322, if_pos c355, if_neg (fun q => by have q2 := (lg_cmp_gt _ _).mpr q; rw [Int32.lt_iff_toInt_lt] at q2; rw [Int32.le_iff_toInt_le] at c364; omega)]; done)
          rw [hq3] at hl
          exact K ls (lv_sub hl [0, 1, 3] rfl)
    · skip
      refine lv_lload_n hx hb dX7_worthOf_383 rfl (lv_at hl 0 rfl) ?_
      refine lv_aload_n hx hb dX7_worthOf_384 rfl (lv_at hl 1 rfl) ?_
      refine g_X7_X7_weight hx hb hown hK hW h2000 dX7_worthOf_385 ?_
      refine lv_iload_n hx hb dX7_worthOf_388 rfl (lv_at hl 2 rfl) ?_
      refine w_iald hx hb hK hW h2005 (j := rr) (rfl) (by omega) (by omega) dX7_worthOf_389 ?_
      refine asi (y := wt) (ew) ?_
      refine lv_i2l (v := wt.toInt64) hx hb dX7_worthOf_390 rfl ?_
      refine lv_lmul hx hb dX7_worthOf_391 ?_
      exact rl hx hb hr hlocks dX7_worthOf_392 (rfl)
  · skip
    have c30 := nI_nle' c30 (by omega) (by omega)
    refine lv_aload_n hx hb dX7_worthOf_33 rfl (lv_at hl 0 rfl) ?_
    refine g_X7_X7_member hx hb hown hK hW h2000 dX7_worthOf_34 ?_
    refine lv_aload_n hx hb dX7_worthOf_37 rfl (lv_at hl 0 rfl) ?_
    refine lv_iload_n hx hb dX7_worthOf_38 rfl (lv_at hl 1 rfl) ?_
    refine lv_iload hx hb dX7_worthOf_39 (lv_at hl 7 rfl) ?_
    refine lv_iload hx hb dX7_worthOf_41 (lv_at hl 6 rfl) ?_
    refine vp_callSi (va_Run.run (va_runV (As := [.int (nI pp), .int (nI i), .int (nI lk)]) (rest := [.ref (ad (2008))]) ⟨hx, hb, hml, hown, hK.1.use _⟩ (c_X7_at l D cy z0 ad V pp i lk) (k_X7_X7_at hK.1 rfl rfl ⟨Nat.le_of_ble_eq_true rfl, Nat.le_of_ble_eq_true rfl⟩) (preV hK hz hW h2000 rfl) rfl rfl hl.1 rfl (lv_room (Nat.le_of_ble_eq_true rfl)) dX7_worthOf_43 ⟨Nat.le_of_ble_eq_true rfl, Nat.le_of_ble_eq_true rfl⟩)) (fun r43 h43 => ?_)
    have h43 : r43 = nI (160 * pp + 4 * i + lk) := h43
    subst h43
    refine w_iald hx hb hK hW h2008 (j := 160 * pp + 4 * i + lk) (rfl) (by omega) (by omega) dX7_worthOf_46 ?_
    refine asi (y := (memV mem pp lk) i) (rfl) ?_
    refine lv_istore (lv' := [(10, .int ((memV mem pp lk) i)), (0, .ref (ad (2000))), (1, .int (nI pp)), (2, .int (nI rr)), (3, .long (acW kd (memV mem pp lk) (memV mem pp 2) bd n i)), (5, .long (sumL (memV mem pp lk) i)), (7, .int (bd)), (8, .int (nI lk)), (9, .int (nI i))]) hx hb dX7_worthOf_47 hl (by decide) rfl (fun ls hl => ?_)
    refine lv_lload hx hb dX7_worthOf_49 (lv_at hl 5 rfl) ?_
    refine lv_iload hx hb dX7_worthOf_51 (lv_at hl 0 rfl) ?_
    refine lv_i2l (v := ((memV mem pp lk) i).toInt64) hx hb dX7_worthOf_53 rfl ?_
    refine lv_ladd hx hb dX7_worthOf_54 ?_
    refine asl (y := sumL (memV mem pp lk) (i + 1)) (rfl) ?_
    refine lv_lstore (lv' := [(5, .long (sumL (memV mem pp lk) (i + 1))), (10, .int ((memV mem pp lk) i)), (0, .ref (ad (2000))), (1, .int (nI pp)), (2, .int (nI rr)), (3, .long (acW kd (memV mem pp lk) (memV mem pp 2) bd n i)), (7, .int (bd)), (8, .int (nI lk)), (9, .int (nI i))]) hx hb dX7_worthOf_55 hl (by decide) rfl (fun ls hl => ?_)
    have hz0 : acW kd (memV mem pp lk) (memV mem pp 2) bd n i + A3 kd (memV mem pp lk) i 0 = acW kd (memV mem pp lk) (memV mem pp 2) bd n i := by unfold A3; split <;> simp [cgT, lN]
    refine lv_iconst (v := nI 0) hx hb dX7_worthOf_57 (by decide) ?_
    refine lv_istore (lv' := [(11, .int (nI 0)), (5, .long (sumL (memV mem pp lk) (i + 1))), (10, .int ((memV mem pp lk) i)), (0, .ref (ad (2000))), (1, .int (nI pp)), (2, .int (nI rr)), (3, .long (acW kd (memV mem pp lk) (memV mem pp 2) bd n i)), (7, .int (bd)), (8, .int (nI lk)), (9, .int (nI i))]) hx hb dX7_worthOf_58 hl (by decide) rfl (fun ls hl => ?_)
    refine lv_iconst (v := nI 1) hx hb dX7_worthOf_60 (by decide) ?_
    refine lv_istore (lv' := [(12, .int (nI 1)), (11, .int (nI 0)), (5, .long (sumL (memV mem pp lk) (i + 1))), (10, .int ((memV mem pp lk) i)), (0, .ref (ad (2000))), (1, .int (nI pp)), (2, .int (nI rr)), (3, .long (acW kd (memV mem pp lk) (memV mem pp 2) bd n i)), (7, .int (bd)), (8, .int (nI lk)), (9, .int (nI i))]) hx hb dX7_worthOf_61 hl (by decide) rfl (fun ls hl => ?_)
    have hq63_3 : (acW kd (memV mem pp lk) (memV mem pp 2) bd n i) = (acW kd (memV mem pp lk) (memV mem pp 2) bd n i + A3 kd (memV mem pp lk) i 0) := hz0.symm
    rw [hq63_3] at hl
    refine lv_iconst (v := nI 0) hx hb dX7_worthOf_63 (by decide) ?_
    refine lv_istore (lv' := [(13, .int (nI 0)), (12, .int (nI 1)), (11, .int (nI 0)), (5, .long (sumL (memV mem pp lk) (i + 1))), (10, .int ((memV mem pp lk) i)), (0, .ref (ad (2000))), (1, .int (nI pp)), (2, .int (nI rr)), (3, .long (acW kd (memV mem pp lk) (memV mem pp 2) bd n i + A3 kd (memV mem pp lk) i 0)), (7, .int (bd)), (8, .int (nI lk)), (9, .int (nI i))]) hx hb dX7_worthOf_64 hl (by decide) rfl (fun ls hl => ?_)
    refine wl (ι := Nat) (fun j => n - j) (fun j g => (j ≤ n) ∧ ∃ ls, g = F0 m 66 ls [] ∧ lv_has ls 15 [(0, .ref (ad (2000))), (1, .int (nI pp)), (2, .int (nI rr)), (3, .long (acW kd (memV mem pp lk) (memV mem pp 2) bd n i + A3 kd (memV mem pp lk) i j)), (5, .long (sumL (memV mem pp lk) (i + 1))), (7, .int (bd)), (8, .int (nI lk)), (9, .int (nI i)), (10, .int ((memV mem pp lk) i)), (11, .int (nI (cnt (memV mem pp lk) ((memV mem pp lk) i) 0 j))), (12, .int (b2i (fsB (memV mem pp lk) i j))), (13, .int (nI j))]) ?_ (0) _ ⟨Nat.zero_le _, ls, rfl, lv_sub hl [5, 6, 7, 8, 3, 9, 10, 11, 4, 2, 1, 0] rfl⟩
    intro j g hg ih
    obtain ⟨hj, ls, rfl, hl⟩ := hg
    refine lv_iload hx hb dX7_worthOf_66 (lv_at hl 11 rfl) ?_
    refine lv_aload_n hx hb dX7_worthOf_68 rfl (lv_at hl 0 rfl) ?_
    refine g_X7_X7_objects hx hb hown hK hW h2000 dX7_worthOf_69 ?_
    refine lv_icmp_ge (tgt := 174) hx hb dX7_worthOf_72 (by decide) (fun c72 => ?_) (fun c72 => ?_)
    · skip
      have c72 := nI_le' c72 (by omega) (by omega)
      have e9 : j = n := by omega
      rw [e9] at hl
      refine jl (pcj := 185) (st := [.int (ovI bd)]) (nL := 15) (lv := [(0, .ref (ad (2000))), (1, .int (nI pp)), (2, .int (nI rr)), (3, .long (acW kd (memV mem pp lk) (memV mem pp 2) bd n i + A3 kd (memV mem pp lk) i n)), (5, .long (sumL (memV mem pp lk) (i + 1))), (7, .int (bd)), (8, .int (nI lk)), (9, .int (nI i)), (10, .int ((memV mem pp lk) i)), (11, .int (nI (cnt (memV mem pp lk) ((memV mem pp lk) i) 0 n))), (12, .int (b2i (fsB (memV mem pp lk) i n))), (13, .int (nI n))]) (fun K => ?_) (fun ls hl => ?_)
      · skip
        refine lv_iload hx hb dX7_worthOf_174 (lv_at hl 5 rfl) ?_
        refine lv_if_ge (tgt := 183) hx hb dX7_worthOf_176 (by decide) (fun c176 => ?_) (fun c176 => ?_)
        · skip
          refine lv_iload hx hb dX7_worthOf_183 (lv_at hl 5 rfl) ?_
          refine asi (y := ovI bd) (by unfold ovI; first | rw [if_neg (by rw [Int32.le_iff_toInt_le] at c176; rw [Int32.lt_iff_toInt_lt]; omega)] | rw [if_pos (by rw [Int32.le_iff_toInt_le] at c176; rw [Int32.lt_iff_toInt_lt]; omega)]) ?_
          exact K ls (lv_sub hl [0, 1, 2, 3, 4, 5, 6, 7, 8, 9, 10, 11] rfl)
        · skip
          refine lv_iconst (v := nI 0) hx hb dX7_worthOf_179 (by decide) ?_
          refine lv_goto (tgt := 185) hx hb dX7_worthOf_180 (by decide) ?_
          refine asi (y := ovI bd) (by unfold ovI; first | rw [if_neg (by rw [Int32.le_iff_toInt_le] at c176; rw [Int32.lt_iff_toInt_lt]; omega)] | rw [if_pos (by rw [Int32.le_iff_toInt_le] at c176; rw [Int32.lt_iff_toInt_lt]; omega)]) ?_
          exact K ls (lv_sub hl [0, 1, 2, 3, 4, 5, 6, 7, 8, 9, 10, 11] rfl)
      · skip
        refine lv_istore (lv' := [(13, .int (ovI bd)), (0, .ref (ad (2000))), (1, .int (nI pp)), (2, .int (nI rr)), (3, .long (acW kd (memV mem pp lk) (memV mem pp 2) bd n i + A3 kd (memV mem pp lk) i n)), (5, .long (sumL (memV mem pp lk) (i + 1))), (7, .int (bd)), (8, .int (nI lk)), (9, .int (nI i)), (10, .int ((memV mem pp lk) i)), (11, .int (nI (cnt (memV mem pp lk) ((memV mem pp lk) i) 0 n))), (12, .int (b2i (fsB (memV mem pp lk) i n)))]) hx hb dX7_worthOf_185 hl (by decide) rfl (fun ls hl => ?_)
        refine lv_aload_n hx hb dX7_worthOf_187 rfl (lv_at hl 1 rfl) ?_
        refine g_X7_X7_member hx hb hown hK hW h2000 dX7_worthOf_188 ?_
        refine lv_aload_n hx hb dX7_worthOf_191 rfl (lv_at hl 1 rfl) ?_
        refine lv_iload_n hx hb dX7_worthOf_192 rfl (lv_at hl 2 rfl) ?_
        refine lv_iload hx hb dX7_worthOf_193 (lv_at hl 8 rfl) ?_
        refine lv_iconst (v := nI 2) hx hb dX7_worthOf_195 (by decide) ?_
        refine vp_callSi (va_Run.run (va_runV (As := [.int (nI pp), .int (nI i), .int (nI 2)]) (rest := [.ref (ad (2008))]) ⟨hx, hb, hml, hown, hK.1.use _⟩ (c_X7_at l D cy z0 ad V pp i 2) (k_X7_X7_at hK.1 rfl rfl ⟨Nat.le_of_ble_eq_true rfl, Nat.le_of_ble_eq_true rfl⟩) (preV hK hz hW h2000 rfl) rfl rfl hl.1 rfl (lv_room (Nat.le_of_ble_eq_true rfl)) dX7_worthOf_196 ⟨Nat.le_of_ble_eq_true rfl, Nat.le_of_ble_eq_true rfl⟩)) (fun r196 h196 => ?_)
        have h196 : r196 = nI (160 * pp + 4 * i + 2) := h196
        subst h196
        refine w_iald hx hb hK hW h2008 (j := 160 * pp + 4 * i + 2) (rfl) (by omega) (by omega) dX7_worthOf_199 ?_
        refine asi (y := (memV mem pp 2) i) (rfl) ?_
        refine lv_istore (lv' := [(14, .int ((memV mem pp 2) i)), (13, .int (ovI bd)), (0, .ref (ad (2000))), (1, .int (nI pp)), (2, .int (nI rr)), (3, .long (acW kd (memV mem pp lk) (memV mem pp 2) bd n i + A3 kd (memV mem pp lk) i n)), (5, .long (sumL (memV mem pp lk) (i + 1))), (7, .int (bd)), (8, .int (nI lk)), (9, .int (nI i)), (10, .int ((memV mem pp lk) i)), (11, .int (nI (cnt (memV mem pp lk) ((memV mem pp lk) i) 0 n))), (12, .int (b2i (fsB (memV mem pp lk) i n)))]) hx hb dX7_worthOf_200 hl (by decide) rfl (fun ls hl => ?_)
        refine lv_lload_n hx hb dX7_worthOf_202 rfl (lv_at hl 5 rfl) ?_
        refine jl (pcj := 230) (st := [.long (A0 kd (memV mem pp lk) bd i), .long (acW kd (memV mem pp lk) (memV mem pp 2) bd n i + A3 kd (memV mem pp lk) i n)]) (nL := 15) (lv := [(14, .int ((memV mem pp 2) i)), (13, .int (ovI bd)), (0, .ref (ad (2000))), (1, .int (nI pp)), (2, .int (nI rr)), (3, .long (acW kd (memV mem pp lk) (memV mem pp 2) bd n i + A3 kd (memV mem pp lk) i n)), (5, .long (sumL (memV mem pp lk) (i + 1))), (7, .int (bd)), (8, .int (nI lk)), (9, .int (nI i)), (10, .int ((memV mem pp lk) i)), (11, .int (nI (cnt (memV mem pp lk) ((memV mem pp lk) i) 0 n))), (12, .int (b2i (fsB (memV mem pp lk) i n)))]) (fun K => ?_) (fun ls hl => ?_)
        · skip
          refine lv_aload_n hx hb dX7_worthOf_203 rfl (lv_at hl 2 rfl) ?_
          refine g_X7_X7_kind hx hb hown hK hW h2000 dX7_worthOf_204 ?_
          refine lv_iload_n hx hb dX7_worthOf_207 rfl (lv_at hl 4 rfl) ?_
          refine w_iald hx hb hK hW h2002 (j := rr) (rfl) (by omega) (by omega) dX7_worthOf_208 ?_
          refine asi (y := nI kd) (ek) ?_
          refine lv_if_ne (tgt := 229) hx hb dX7_worthOf_209 (by decide) (fun c209 => ?_) (fun c209 => ?_)
          · skip
            have c209 := nI_ne' (b := 0) c209 (by omega) (by omega)
            refine lv_lconst (v := 0) hx hb dX7_worthOf_229 (by decide) ?_
            refine asl (y := A0 kd (memV mem pp lk) bd i) (by unfold A0; first | (rw [if_neg (fun q => c209 q.1)]; done) | (rw [if_neg (fun q => by have q2 := q.2; rw [Int32.lt_iff_toInt_lt] at q2; rw [Int32.le_iff_toInt_le] at c216; omega)]; done) | (rw [if_pos ⟨c209, by rw [Int32.le_iff_toInt_le] at c216; rw [Int32.lt_iff_toInt_lt]; omega⟩]; done)) ?_
            exact K ls (lv_sub hl [0, 1, 2, 3, 4, 5, 6, 7, 8, 9, 10, 11, 12] rfl)
          · skip
            have c209 := nI_eq' (b := 0) c209 (by omega) (by omega)
            refine lv_iload hx hb dX7_worthOf_212 (lv_at hl 10 rfl) ?_
            refine lv_iload hx hb dX7_worthOf_214 (lv_at hl 7 rfl) ?_
            refine lv_icmp_le (tgt := 229) hx hb dX7_worthOf_216 (by decide) (fun c216 => ?_) (fun c216 => ?_)
            · skip
              refine lv_lconst (v := 0) hx hb dX7_worthOf_229 (by decide) ?_
              refine asl (y := A0 kd (memV mem pp lk) bd i) (by unfold A0; first | (rw [if_neg (fun q => c209 q.1)]; done) | (rw [if_neg (fun q => by have q2 := q.2; rw [Int32.lt_iff_toInt_lt] at q2; rw [Int32.le_iff_toInt_le] at c216; omega)]; done) | (rw [if_pos ⟨c209, by rw [Int32.le_iff_toInt_le] at c216; rw [Int32.lt_iff_toInt_lt]; omega⟩]; done)) ?_
              exact K ls (lv_sub hl [0, 1, 2, 3, 4, 5, 6, 7, 8, 9, 10, 11, 12] rfl)
            · skip
              refine lv_iload hx hb dX7_worthOf_219 (lv_at hl 10 rfl) ?_
              refine lv_i2l (v := ((memV mem pp lk) i).toInt64) hx hb dX7_worthOf_221 rfl ?_
              refine lv_iload hx hb dX7_worthOf_222 (lv_at hl 7 rfl) ?_
              refine lv_i2l (v := bd.toInt64) hx hb dX7_worthOf_224 rfl ?_
              refine lv_lsub hx hb dX7_worthOf_225 ?_
              refine lv_goto (tgt := 230) hx hb dX7_worthOf_226 (by decide) ?_
              refine asl (y := A0 kd (memV mem pp lk) bd i) (by unfold A0; first | (rw [if_neg (fun q => c209 q.1)]; done) | (rw [if_neg (fun q => by have q2 := q.2; rw [Int32.lt_iff_toInt_lt] at q2; rw [Int32.le_iff_toInt_le] at c216; omega)]; done) | (rw [if_pos ⟨c209, by rw [Int32.le_iff_toInt_le] at c216; rw [Int32.lt_iff_toInt_lt]; omega⟩]; done)) ?_
              exact K ls (lv_sub hl [0, 1, 2, 3, 4, 5, 6, 7, 8, 9, 10, 11, 12] rfl)
        · skip
          refine lv_ladd hx hb dX7_worthOf_230 ?_
          refine asl (y := acW kd (memV mem pp lk) (memV mem pp 2) bd n i + A3 kd (memV mem pp lk) i n + A0 kd (memV mem pp lk) bd i) (rfl) ?_
          refine lv_lstore_n (lv' := [(3, .long (acW kd (memV mem pp lk) (memV mem pp 2) bd n i + A3 kd (memV mem pp lk) i n + A0 kd (memV mem pp lk) bd i)), (14, .int ((memV mem pp 2) i)), (13, .int (ovI bd)), (0, .ref (ad (2000))), (1, .int (nI pp)), (2, .int (nI rr)), (5, .long (sumL (memV mem pp lk) (i + 1))), (7, .int (bd)), (8, .int (nI lk)), (9, .int (nI i)), (10, .int ((memV mem pp lk) i)), (11, .int (nI (cnt (memV mem pp lk) ((memV mem pp lk) i) 0 n))), (12, .int (b2i (fsB (memV mem pp lk) i n)))]) hx hb dX7_worthOf_231 rfl hl (by decide) rfl (fun ls hl => ?_)
          refine lv_lload_n hx hb dX7_worthOf_232 rfl (lv_at hl 0 rfl) ?_
          refine jl (pcj := 265) (st := [.long (A4 kd (memV mem pp lk) bd n i), .long (acW kd (memV mem pp lk) (memV mem pp 2) bd n i + A3 kd (memV mem pp lk) i n + A0 kd (memV mem pp lk) bd i)]) (nL := 15) (lv := [(3, .long (acW kd (memV mem pp lk) (memV mem pp 2) bd n i + A3 kd (memV mem pp lk) i n + A0 kd (memV mem pp lk) bd i)), (14, .int ((memV mem pp 2) i)), (13, .int (ovI bd)), (0, .ref (ad (2000))), (1, .int (nI pp)), (2, .int (nI rr)), (5, .long (sumL (memV mem pp lk) (i + 1))), (7, .int (bd)), (8, .int (nI lk)), (9, .int (nI i)), (10, .int ((memV mem pp lk) i)), (11, .int (nI (cnt (memV mem pp lk) ((memV mem pp lk) i) 0 n))), (12, .int (b2i (fsB (memV mem pp lk) i n)))]) (fun K => ?_) (fun ls hl => ?_)
          · skip
            refine lv_aload_n hx hb dX7_worthOf_233 rfl (lv_at hl 3 rfl) ?_
            refine g_X7_X7_kind hx hb hown hK hW h2000 dX7_worthOf_234 ?_
            refine lv_iload_n hx hb dX7_worthOf_237 rfl (lv_at hl 5 rfl) ?_
            refine w_iald hx hb hK hW h2002 (j := rr) (rfl) (by omega) (by omega) dX7_worthOf_238 ?_
            refine asi (y := nI kd) (ek) ?_
            refine lv_iconst (v := nI 4) hx hb dX7_worthOf_239 (by decide) ?_
            refine lv_icmp_ne (tgt := 264) hx hb dX7_worthOf_240 (by decide) (fun c240 => ?_) (fun c240 => ?_)
            · skip
              have c240 := nI_ne' c240 (by omega) (by omega)
              refine lv_lconst (v := 0) hx hb dX7_worthOf_264 (by decide) ?_
              refine asl (y := A4 kd (memV mem pp lk) bd n i) (by unfold A4; first | (rw [if_neg (fun q => c240 q.1)]; done) | (rw [if_neg (fun q => absurd (c245.symm.trans q.2.1) (by decide))]; done) | (rw [if_neg (fun q => by have q2 := q.2.2; rw [Int32.lt_iff_toInt_lt] at q2; rw [Int32.le_iff_toInt_le] at c252; omega)]; done) | (rw [if_pos ⟨c240, c245, by rw [Int32.le_iff_toInt_le] at c252; rw [Int32.lt_iff_toInt_lt]; omega⟩]; done)) ?_
              exact K ls (lv_sub hl [0, 1, 2, 3, 4, 5, 6, 7, 8, 9, 10, 11, 12] rfl)
            · skip
              have c240 := nI_eq' c240 (by omega) (by omega)
              refine lv_iload hx hb dX7_worthOf_243 (lv_at hl 12 rfl) ?_
              refine lv_if_eq (tgt := 264) hx hb dX7_worthOf_245 (by decide) (fun c245 => ?_) (fun c245 => ?_)
              · skip
                have c245 := b2i_0.mp c245
                refine lv_lconst (v := 0) hx hb dX7_worthOf_264 (by decide) ?_
                refine asl (y := A4 kd (memV mem pp lk) bd n i) (by unfold A4; first | (rw [if_neg (fun q => c240 q.1)]; done) | (rw [if_neg (fun q => absurd (c245.symm.trans q.2.1) (by decide))]; done) | (rw [if_neg (fun q => by have q2 := q.2.2; rw [Int32.lt_iff_toInt_lt] at q2; rw [Int32.le_iff_toInt_le] at c252; omega)]; done) | (rw [if_pos ⟨c240, c245, by rw [Int32.le_iff_toInt_le] at c252; rw [Int32.lt_iff_toInt_lt]; omega⟩]; done)) ?_
                exact K ls (lv_sub hl [0, 1, 2, 3, 4, 5, 6, 7, 8, 9, 10, 11, 12] rfl)
              · skip
                have c245 := b2i_1.mp c245
                refine lv_iload hx hb dX7_worthOf_248 (lv_at hl 11 rfl) ?_
                refine lv_iload hx hb dX7_worthOf_250 (lv_at hl 2 rfl) ?_
                refine lv_icmp_le (tgt := 264) hx hb dX7_worthOf_252 (by decide) (fun c252 => ?_) (fun c252 => ?_)
                · skip
                  refine lv_lconst (v := 0) hx hb dX7_worthOf_264 (by decide) ?_
                  refine asl (y := A4 kd (memV mem pp lk) bd n i) (by unfold A4; first | (rw [if_neg (fun q => c240 q.1)]; done) | (rw [if_neg (fun q => absurd (c245.symm.trans q.2.1) (by decide))]; done) | (rw [if_neg (fun q => by have q2 := q.2.2; rw [Int32.lt_iff_toInt_lt] at q2; rw [Int32.le_iff_toInt_le] at c252; omega)]; done) | (rw [if_pos ⟨c240, c245, by rw [Int32.le_iff_toInt_le] at c252; rw [Int32.lt_iff_toInt_lt]; omega⟩]; done)) ?_
                  exact K ls (lv_sub hl [0, 1, 2, 3, 4, 5, 6, 7, 8, 9, 10, 11, 12] rfl)
                · skip
                  refine lv_iload hx hb dX7_worthOf_255 (lv_at hl 11 rfl) ?_
                  refine lv_iload hx hb dX7_worthOf_257 (lv_at hl 2 rfl) ?_
                  refine lv_isub hx hb dX7_worthOf_259 ?_
                  refine lv_i2l (v := ((nI (cnt (memV mem pp lk) ((memV mem pp lk) i) 0 n)) - (ovI bd)).toInt64) hx hb dX7_worthOf_260 rfl ?_
                  refine lv_goto (tgt := 265) hx hb dX7_worthOf_261 (by decide) ?_
                  refine asl (y := A4 kd (memV mem pp lk) bd n i) (by unfold A4; first | (rw [if_neg (fun q => c240 q.1)]; done) | (rw [if_neg (fun q => absurd (c245.symm.trans q.2.1) (by decide))]; done) | (rw [if_neg (fun q => by have q2 := q.2.2; rw [Int32.lt_iff_toInt_lt] at q2; rw [Int32.le_iff_toInt_le] at c252; omega)]; done) | (rw [if_pos ⟨c240, c245, by rw [Int32.le_iff_toInt_le] at c252; rw [Int32.lt_iff_toInt_lt]; omega⟩]; done)) ?_
                  exact K ls (lv_sub hl [0, 1, 2, 3, 4, 5, 6, 7, 8, 9, 10, 11, 12] rfl)
          · skip
            refine lv_ladd hx hb dX7_worthOf_265 ?_
            refine asl (y := acW kd (memV mem pp lk) (memV mem pp 2) bd n i + A3 kd (memV mem pp lk) i n + A0 kd (memV mem pp lk) bd i + A4 kd (memV mem pp lk) bd n i) (rfl) ?_
            refine lv_lstore_n (lv' := [(3, .long (acW kd (memV mem pp lk) (memV mem pp 2) bd n i + A3 kd (memV mem pp lk) i n + A0 kd (memV mem pp lk) bd i + A4 kd (memV mem pp lk) bd n i)), (14, .int ((memV mem pp 2) i)), (13, .int (ovI bd)), (0, .ref (ad (2000))), (1, .int (nI pp)), (2, .int (nI rr)), (5, .long (sumL (memV mem pp lk) (i + 1))), (7, .int (bd)), (8, .int (nI lk)), (9, .int (nI i)), (10, .int ((memV mem pp lk) i)), (11, .int (nI (cnt (memV mem pp lk) ((memV mem pp lk) i) 0 n))), (12, .int (b2i (fsB (memV mem pp lk) i n)))]) hx hb dX7_worthOf_266 rfl hl (by decide) rfl (fun ls hl => ?_)
            refine lv_lload_n hx hb dX7_worthOf_267 rfl (lv_at hl 0 rfl) ?_
            refine jl (pcj := 307) (st := [.long (A5 kd (memV mem pp lk) (memV mem pp 2) i), .long (acW kd (memV mem pp lk) (memV mem pp 2) bd n i + A3 kd (memV mem pp lk) i n + A0 kd (memV mem pp lk) bd i + A4 kd (memV mem pp lk) bd n i)]) (nL := 15) (lv := [(3, .long (acW kd (memV mem pp lk) (memV mem pp 2) bd n i + A3 kd (memV mem pp lk) i n + A0 kd (memV mem pp lk) bd i + A4 kd (memV mem pp lk) bd n i)), (14, .int ((memV mem pp 2) i)), (13, .int (ovI bd)), (0, .ref (ad (2000))), (1, .int (nI pp)), (2, .int (nI rr)), (5, .long (sumL (memV mem pp lk) (i + 1))), (7, .int (bd)), (8, .int (nI lk)), (9, .int (nI i)), (10, .int ((memV mem pp lk) i)), (11, .int (nI (cnt (memV mem pp lk) ((memV mem pp lk) i) 0 n))), (12, .int (b2i (fsB (memV mem pp lk) i n)))]) (fun K => ?_) (fun ls hl => ?_)
            · skip
              refine lv_aload_n hx hb dX7_worthOf_268 rfl (lv_at hl 3 rfl) ?_
              refine g_X7_X7_kind hx hb hown hK hW h2000 dX7_worthOf_269 ?_
              refine lv_iload_n hx hb dX7_worthOf_272 rfl (lv_at hl 5 rfl) ?_
              refine w_iald hx hb hK hW h2002 (j := rr) (rfl) (by omega) (by omega) dX7_worthOf_273 ?_
              refine asi (y := nI kd) (ek) ?_
              refine lv_iconst (v := nI 5) hx hb dX7_worthOf_274 (by decide) ?_
              refine lv_icmp_ne (tgt := 306) hx hb dX7_worthOf_275 (by decide) (fun c275 => ?_) (fun c275 => ?_)
              · skip
                have c275 := nI_ne' c275 (by omega) (by omega)
                refine lv_lconst (v := 0) hx hb dX7_worthOf_306 (by decide) ?_
                refine asl (y := A5 kd (memV mem pp lk) (memV mem pp 2) i) (by unfold A5; first | (rw [if_neg (fun q => c275 q.1)]; done) | (rw [if_neg (fun q => q.2.1 c280)]; done) | (rw [if_neg (fun q => by have q2 := q.2.2; rw [ebc, Int32.lt_iff_toInt_lt] at q2; rw [Int32.le_iff_toInt_le] at c299; omega)]; done) | (rw [if_pos ⟨c275, c280, by rw [ebc, Int32.lt_iff_toInt_lt]; rw [Int32.le_iff_toInt_le] at c299; omega⟩]; done)) ?_
                exact K ls (lv_sub hl [0, 1, 2, 3, 4, 5, 6, 7, 8, 9, 10, 11, 12] rfl)
              · skip
                have c275 := nI_eq' c275 (by omega) (by omega)
                refine lv_iload hx hb dX7_worthOf_278 (lv_at hl 1 rfl) ?_
                refine lv_if_lt (tgt := 306) hx hb dX7_worthOf_280 (by decide) (fun c280 => ?_) (fun c280 => ?_)
                · skip
                  refine lv_lconst (v := 0) hx hb dX7_worthOf_306 (by decide) ?_
                  refine asl (y := A5 kd (memV mem pp lk) (memV mem pp 2) i) (by unfold A5; first | (rw [if_neg (fun q => c275 q.1)]; done) | (rw [if_neg (fun q => q.2.1 c280)]; done) | (rw [if_neg (fun q => by have q2 := q.2.2; rw [ebc, Int32.lt_iff_toInt_lt] at q2; rw [Int32.le_iff_toInt_le] at c299; omega)]; done) | (rw [if_pos ⟨c275, c280, by rw [ebc, Int32.lt_iff_toInt_lt]; rw [Int32.le_iff_toInt_le] at c299; omega⟩]; done)) ?_
                  exact K ls (lv_sub hl [0, 1, 2, 3, 4, 5, 6, 7, 8, 9, 10, 11, 12] rfl)
                · skip
                  have hb9 : ∃ b, b < n ∧ (memV mem pp 2) i = nI b := (hbf i (by omega)).resolve_left c280
                  obtain ⟨bo, hbo, ebo⟩ := hb9
                  have ebc : ((memV mem pp 2) i).toNatClampNeg = bo := by rw [ebo]; exact nI_clamp (by omega)
                  refine lv_aload_n hx hb dX7_worthOf_283 rfl (lv_at hl 3 rfl) ?_
                  refine g_X7_X7_member hx hb hown hK hW h2000 dX7_worthOf_284 ?_
                  refine lv_aload_n hx hb dX7_worthOf_287 rfl (lv_at hl 3 rfl) ?_
                  refine lv_iload_n hx hb dX7_worthOf_288 rfl (lv_at hl 4 rfl) ?_
                  refine lv_iload hx hb dX7_worthOf_289 (lv_at hl 1 rfl) ?_
                  refine lv_iload hx hb dX7_worthOf_291 (lv_at hl 8 rfl) ?_
                  refine W.eq (g2 := F0 m 293 ls [.int (nI lk), .int (nI bo), .int (nI pp), .ref (ad (2000)), .ref (ad (2008)), .long (acW kd (memV mem pp lk) (memV mem pp 2) bd n i + A3 kd (memV mem pp lk) i n + A0 kd (memV mem pp lk) bd i + A4 kd (memV mem pp lk) bd n i)]) (by rw [ebo]) ?_
                  refine vp_callSi (va_Run.run (va_runV (As := [.int (nI pp), .int (nI bo), .int (nI lk)]) (rest := [.ref (ad (2008)), .long (acW kd (memV mem pp lk) (memV mem pp 2) bd n i + A3 kd (memV mem pp lk) i n + A0 kd (memV mem pp lk) bd i + A4 kd (memV mem pp lk) bd n i)]) ⟨hx, hb, hml, hown, hK.1.use _⟩ (c_X7_at l D cy z0 ad V pp bo lk) (k_X7_X7_at hK.1 rfl rfl ⟨Nat.le_of_ble_eq_true rfl, Nat.le_of_ble_eq_true rfl⟩) (preV hK hz hW h2000 rfl) rfl rfl hl.1 rfl (lv_room (Nat.le_of_ble_eq_true rfl)) dX7_worthOf_293 ⟨Nat.le_of_ble_eq_true rfl, Nat.le_of_ble_eq_true rfl⟩)) (fun r293 h293 => ?_)
                  have h293 : r293 = nI (160 * pp + 4 * bo + lk) := h293
                  subst h293
                  refine w_iald hx hb hK hW h2008 (j := 160 * pp + 4 * bo + lk) (rfl) (by omega) (by omega) dX7_worthOf_296 ?_
                  refine asi (y := (memV mem pp lk) bo) (rfl) ?_
                  refine lv_iload hx hb dX7_worthOf_297 (lv_at hl 10 rfl) ?_
                  refine lv_icmp_le (tgt := 306) hx hb dX7_worthOf_299 (by decide) (fun c299 => ?_) (fun c299 => ?_)
                  · skip
                    refine lv_lconst (v := 0) hx hb dX7_worthOf_306 (by decide) ?_
                    refine asl (y := A5 kd (memV mem pp lk) (memV mem pp 2) i) (by unfold A5; first | (rw [if_neg (fun q => c275 q.1)]; done) | (rw [if_neg (fun q => q.2.1 c280)]; done) | (rw [if_neg (fun q => by have q2 := q.2.2; rw [ebc, Int32.lt_iff_toInt_lt] at q2; rw [Int32.le_iff_toInt_le] at c299; omega)]; done) | (rw [if_pos ⟨c275, c280, by rw [ebc, Int32.lt_iff_toInt_lt]; rw [Int32.le_iff_toInt_le] at c299; omega⟩]; done)) ?_
                    exact K ls (lv_sub hl [0, 1, 2, 3, 4, 5, 6, 7, 8, 9, 10, 11, 12] rfl)
                  · skip
                    refine lv_lconst (v := 1) hx hb dX7_worthOf_302 (by decide) ?_
                    refine lv_goto (tgt := 307) hx hb dX7_worthOf_303 (by decide) ?_
                    refine asl (y := A5 kd (memV mem pp lk) (memV mem pp 2) i) (by unfold A5; first | (rw [if_neg (fun q => c275 q.1)]; done) | (rw [if_neg (fun q => q.2.1 c280)]; done) | (rw [if_neg (fun q => by have q2 := q.2.2; rw [ebc, Int32.lt_iff_toInt_lt] at q2; rw [Int32.le_iff_toInt_le] at c299; omega)]; done) | (rw [if_pos ⟨c275, c280, by rw [ebc, Int32.lt_iff_toInt_lt]; rw [Int32.le_iff_toInt_le] at c299; omega⟩]; done)) ?_
                    exact K ls (lv_sub hl [0, 1, 2, 3, 4, 5, 6, 7, 8, 9, 10, 11, 12] rfl)
            · skip
              refine lv_ladd hx hb dX7_worthOf_307 ?_
              refine asl (y := acW kd (memV mem pp lk) (memV mem pp 2) bd n (i + 1)) (rfl) ?_
              refine lv_lstore_n (lv' := [(3, .long (acW kd (memV mem pp lk) (memV mem pp 2) bd n (i + 1))), (14, .int ((memV mem pp 2) i)), (13, .int (ovI bd)), (0, .ref (ad (2000))), (1, .int (nI pp)), (2, .int (nI rr)), (5, .long (sumL (memV mem pp lk) (i + 1))), (7, .int (bd)), (8, .int (nI lk)), (9, .int (nI i)), (10, .int ((memV mem pp lk) i)), (11, .int (nI (cnt (memV mem pp lk) ((memV mem pp lk) i) 0 n))), (12, .int (b2i (fsB (memV mem pp lk) i n)))]) hx hb dX7_worthOf_308 rfl hl (by decide) rfl (fun ls hl => ?_)
              refine lv_iinc (v := nI (i + 1)) (lv' := [(9, .int (nI (i + 1))), (3, .long (acW kd (memV mem pp lk) (memV mem pp 2) bd n (i + 1))), (14, .int ((memV mem pp 2) i)), (13, .int (ovI bd)), (0, .ref (ad (2000))), (1, .int (nI pp)), (2, .int (nI rr)), (5, .long (sumL (memV mem pp lk) (i + 1))), (7, .int (bd)), (8, .int (nI lk)), (10, .int ((memV mem pp lk) i)), (11, .int (nI (cnt (memV mem pp lk) ((memV mem pp lk) i) 0 n))), (12, .int (b2i (fsB (memV mem pp lk) i n)))]) hx hb dX7_worthOf_309 hl (k := 9) rfl (by rw [show Int32.ofInt 1 = nI 1 from by decide]; exact nI_add _ _) (by decide) rfl (fun ls hl => ?_)
              refine lv_goto (tgt := 24) hx hb dX7_worthOf_312 (by decide) ?_
              exact ihA (i + 1) _ ⟨by omega, ls, rfl, lv_sub hl [4, 5, 6, 1, 7, 8, 9, 0] rfl⟩ (by omega)
    · skip
      have c72 := nI_nle' c72 (by omega) (by omega)
      refine jl (pcj := 99) (st := [.int (b2i (decide ((memV mem pp lk) j = (memV mem pp lk) i)))]) (nL := 15) (lv := [(0, .ref (ad (2000))), (1, .int (nI pp)), (2, .int (nI rr)), (3, .long (acW kd (memV mem pp lk) (memV mem pp 2) bd n i + A3 kd (memV mem pp lk) i j)), (5, .long (sumL (memV mem pp lk) (i + 1))), (7, .int (bd)), (8, .int (nI lk)), (9, .int (nI i)), (10, .int ((memV mem pp lk) i)), (11, .int (nI (cnt (memV mem pp lk) ((memV mem pp lk) i) 0 j))), (12, .int (b2i (fsB (memV mem pp lk) i j))), (13, .int (nI j))]) (fun K => ?_) (fun ls hl => ?_)
      · skip
        refine lv_aload_n hx hb dX7_worthOf_75 rfl (lv_at hl 0 rfl) ?_
        refine g_X7_X7_member hx hb hown hK hW h2000 dX7_worthOf_76 ?_
        refine lv_aload_n hx hb dX7_worthOf_79 rfl (lv_at hl 0 rfl) ?_
        refine lv_iload_n hx hb dX7_worthOf_80 rfl (lv_at hl 1 rfl) ?_
        refine lv_iload hx hb dX7_worthOf_81 (lv_at hl 11 rfl) ?_
        refine lv_iload hx hb dX7_worthOf_83 (lv_at hl 6 rfl) ?_
        refine vp_callSi (va_Run.run (va_runV (As := [.int (nI pp), .int (nI j), .int (nI lk)]) (rest := [.ref (ad (2008))]) ⟨hx, hb, hml, hown, hK.1.use _⟩ (c_X7_at l D cy z0 ad V pp j lk) (k_X7_X7_at hK.1 rfl rfl ⟨Nat.le_of_ble_eq_true rfl, Nat.le_of_ble_eq_true rfl⟩) (preV hK hz hW h2000 rfl) rfl rfl hl.1 rfl (lv_room (Nat.le_of_ble_eq_true rfl)) dX7_worthOf_85 ⟨Nat.le_of_ble_eq_true rfl, Nat.le_of_ble_eq_true rfl⟩)) (fun r85 h85 => ?_)
        have h85 : r85 = nI (160 * pp + 4 * j + lk) := h85
        subst h85
        refine w_iald hx hb hK hW h2008 (j := 160 * pp + 4 * j + lk) (rfl) (by omega) (by omega) dX7_worthOf_88 ?_
        refine asi (y := (memV mem pp lk) j) (rfl) ?_
        refine lv_iload hx hb dX7_worthOf_89 (lv_at hl 8 rfl) ?_
        refine lv_icmp_ne (tgt := 98) hx hb dX7_worthOf_91 (by decide) (fun c91 => ?_) (fun c91 => ?_)
        · skip
          refine lv_iconst (v := nI 0) hx hb dX7_worthOf_98 (by decide) ?_
          refine asi (y := b2i (decide ((memV mem pp lk) j = (memV mem pp lk) i))) (by simp [b2i, nI, c91]) ?_
          exact K ls (lv_sub hl [0, 1, 2, 3, 4, 5, 6, 7, 8, 9, 10, 11] rfl)
        · skip
          refine lv_iconst (v := nI 1) hx hb dX7_worthOf_94 (by decide) ?_
          refine lv_goto (tgt := 99) hx hb dX7_worthOf_95 (by decide) ?_
          refine asi (y := b2i (decide ((memV mem pp lk) j = (memV mem pp lk) i))) (by simp [b2i, nI, c91]) ?_
          exact K ls (lv_sub hl [0, 1, 2, 3, 4, 5, 6, 7, 8, 9, 10, 11] rfl)
      · skip
        refine lv_istore (lv' := [(14, .int (b2i (decide ((memV mem pp lk) j = (memV mem pp lk) i)))), (0, .ref (ad (2000))), (1, .int (nI pp)), (2, .int (nI rr)), (3, .long (acW kd (memV mem pp lk) (memV mem pp 2) bd n i + A3 kd (memV mem pp lk) i j)), (5, .long (sumL (memV mem pp lk) (i + 1))), (7, .int (bd)), (8, .int (nI lk)), (9, .int (nI i)), (10, .int ((memV mem pp lk) i)), (11, .int (nI (cnt (memV mem pp lk) ((memV mem pp lk) i) 0 j))), (12, .int (b2i (fsB (memV mem pp lk) i j))), (13, .int (nI j))]) hx hb dX7_worthOf_99 hl (by decide) rfl (fun ls hl => ?_)
        refine lv_iload hx hb dX7_worthOf_101 (lv_at hl 10 rfl) ?_
        refine jl (pcj := 113) (st := [.int (nI (if (memV mem pp lk) j = (memV mem pp lk) i then 1 else 0)), .int (nI (cnt (memV mem pp lk) ((memV mem pp lk) i) 0 j))]) (nL := 15) (lv := [(14, .int (b2i (decide ((memV mem pp lk) j = (memV mem pp lk) i)))), (0, .ref (ad (2000))), (1, .int (nI pp)), (2, .int (nI rr)), (3, .long (acW kd (memV mem pp lk) (memV mem pp 2) bd n i + A3 kd (memV mem pp lk) i j)), (5, .long (sumL (memV mem pp lk) (i + 1))), (7, .int (bd)), (8, .int (nI lk)), (9, .int (nI i)), (10, .int ((memV mem pp lk) i)), (11, .int (nI (cnt (memV mem pp lk) ((memV mem pp lk) i) 0 j))), (12, .int (b2i (fsB (memV mem pp lk) i j))), (13, .int (nI j))]) (fun K => ?_) (fun ls hl => ?_)
        · skip
          refine lv_iload hx hb dX7_worthOf_103 (lv_at hl 0 rfl) ?_
          refine lv_if_eq (tgt := 112) hx hb dX7_worthOf_105 (by decide) (fun c105 => ?_) (fun c105 => ?_)
          · skip
            have c105 := b2i_0.mp c105
            refine lv_iconst (v := nI 0) hx hb dX7_worthOf_112 (by decide) ?_
            refine asi (y := nI (if (memV mem pp lk) j = (memV mem pp lk) i then 1 else 0)) (by simp at c105; simp [c105]) ?_
            exact K ls (lv_sub hl [0, 1, 2, 3, 4, 5, 6, 7, 8, 9, 10, 11, 12] rfl)
          · skip
            have c105 := b2i_1.mp c105
            refine lv_iconst (v := nI 1) hx hb dX7_worthOf_108 (by decide) ?_
            refine lv_goto (tgt := 113) hx hb dX7_worthOf_109 (by decide) ?_
            refine asi (y := nI (if (memV mem pp lk) j = (memV mem pp lk) i then 1 else 0)) (by simp at c105; simp [c105]) ?_
            exact K ls (lv_sub hl [0, 1, 2, 3, 4, 5, 6, 7, 8, 9, 10, 11, 12] rfl)
        · skip
          refine lv_iadd hx hb dX7_worthOf_113 ?_
          refine asi (y := nI ((cnt (memV mem pp lk) ((memV mem pp lk) i) 0 j) + (if (memV mem pp lk) j = (memV mem pp lk) i then 1 else 0))) (nI_add _ _) ?_
          refine asi (y := nI (cnt (memV mem pp lk) ((memV mem pp lk) i) 0 (j + 1))) (cnt_s _ _ _) ?_
          refine lv_istore (lv' := [(11, .int (nI (cnt (memV mem pp lk) ((memV mem pp lk) i) 0 (j + 1)))), (14, .int (b2i (decide ((memV mem pp lk) j = (memV mem pp lk) i)))), (0, .ref (ad (2000))), (1, .int (nI pp)), (2, .int (nI rr)), (3, .long (acW kd (memV mem pp lk) (memV mem pp 2) bd n i + A3 kd (memV mem pp lk) i j)), (5, .long (sumL (memV mem pp lk) (i + 1))), (7, .int (bd)), (8, .int (nI lk)), (9, .int (nI i)), (10, .int ((memV mem pp lk) i)), (12, .int (b2i (fsB (memV mem pp lk) i j))), (13, .int (nI j))]) hx hb dX7_worthOf_114 hl (by decide) rfl (fun ls hl => ?_)
          refine lv_iload hx hb dX7_worthOf_116 (lv_at hl 11 rfl) ?_
          refine jl (pcj := 135) (st := [.int (b2i (decide (¬ (memV mem pp lk) j = (memV mem pp lk) i) || decide (i ≤ j))), .int (b2i (fsB (memV mem pp lk) i j))]) (nL := 15) (lv := [(11, .int (nI (cnt (memV mem pp lk) ((memV mem pp lk) i) 0 (j + 1)))), (14, .int (b2i (decide ((memV mem pp lk) j = (memV mem pp lk) i)))), (0, .ref (ad (2000))), (1, .int (nI pp)), (2, .int (nI rr)), (3, .long (acW kd (memV mem pp lk) (memV mem pp 2) bd n i + A3 kd (memV mem pp lk) i j)), (5, .long (sumL (memV mem pp lk) (i + 1))), (7, .int (bd)), (8, .int (nI lk)), (9, .int (nI i)), (10, .int ((memV mem pp lk) i)), (12, .int (b2i (fsB (memV mem pp lk) i j))), (13, .int (nI j))]) (fun K => ?_) (fun ls hl => ?_)
          · skip
            refine lv_iload hx hb dX7_worthOf_118 (lv_at hl 1 rfl) ?_
            refine lv_if_eq (tgt := 130) hx hb dX7_worthOf_120 (by decide) (fun c120 => ?_) (fun c120 => ?_)
            · skip
              have c120 := b2i_0.mp c120
              refine lv_iconst (v := nI 1) hx hb dX7_worthOf_130 (by decide) ?_
              refine lv_goto (tgt := 135) hx hb dX7_worthOf_131 (by decide) ?_
              refine asi (y := b2i (decide (¬ (memV mem pp lk) j = (memV mem pp lk) i) || decide (i ≤ j))) (by first | (simp at c120; simp [c120, b2i, nI]; done) | (simp at c120; have c127 : _ := c127; simp [c120, b2i, nI]; omega) | (simp at c120; simp [c120, b2i, nI, show ¬ i ≤ j by omega]; done) | (simp at c120; simp [c120, b2i, nI, show i ≤ j by omega]; done)) ?_
              exact K ls (lv_sub hl [0, 1, 2, 3, 4, 5, 6, 7, 8, 9, 10, 11, 12] rfl)
            · skip
              have c120 := b2i_1.mp c120
              refine lv_iload hx hb dX7_worthOf_123 (lv_at hl 12 rfl) ?_
              refine lv_iload hx hb dX7_worthOf_125 (lv_at hl 9 rfl) ?_
              refine lv_icmp_lt (tgt := 134) hx hb dX7_worthOf_127 (by decide) (fun c127 => ?_) (fun c127 => ?_)
              · skip
                have c127 := nI_lt' c127 (by omega) (by omega)
                refine lv_iconst (v := nI 0) hx hb dX7_worthOf_134 (by decide) ?_
                refine asi (y := b2i (decide (¬ (memV mem pp lk) j = (memV mem pp lk) i) || decide (i ≤ j))) (by first | (simp at c120; simp [c120, b2i, nI]; done) | (simp at c120; have c127 : _ := c127; simp [c120, b2i, nI]; omega) | (simp at c120; simp [c120, b2i, nI, show ¬ i ≤ j by omega]; done) | (simp at c120; simp [c120, b2i, nI, show i ≤ j by omega]; done)) ?_
                exact K ls (lv_sub hl [0, 1, 2, 3, 4, 5, 6, 7, 8, 9, 10, 11, 12] rfl)
              · skip
                have c127 := nI_nlt' c127 (by omega) (by omega)
                refine lv_iconst (v := nI 1) hx hb dX7_worthOf_130 (by decide) ?_
                refine lv_goto (tgt := 135) hx hb dX7_worthOf_131 (by decide) ?_
                refine asi (y := b2i (decide (¬ (memV mem pp lk) j = (memV mem pp lk) i) || decide (i ≤ j))) (by first | (simp at c120; simp [c120, b2i, nI]; done) | (simp at c120; have c127 : _ := c127; simp [c120, b2i, nI]; omega) | (simp at c120; simp [c120, b2i, nI, show ¬ i ≤ j by omega]; done) | (simp at c120; simp [c120, b2i, nI, show i ≤ j by omega]; done)) ?_
                exact K ls (lv_sub hl [0, 1, 2, 3, 4, 5, 6, 7, 8, 9, 10, 11, 12] rfl)
          · skip
            refine lv_iand hx hb dX7_worthOf_135 ?_
            refine asi (y := b2i (fsB (memV mem pp lk) i (j + 1))) (b2i_and _ _) ?_
            refine lv_istore (lv' := [(12, .int (b2i (fsB (memV mem pp lk) i (j + 1)))), (11, .int (nI (cnt (memV mem pp lk) ((memV mem pp lk) i) 0 (j + 1)))), (14, .int (b2i (decide ((memV mem pp lk) j = (memV mem pp lk) i)))), (0, .ref (ad (2000))), (1, .int (nI pp)), (2, .int (nI rr)), (3, .long (acW kd (memV mem pp lk) (memV mem pp 2) bd n i + A3 kd (memV mem pp lk) i j)), (5, .long (sumL (memV mem pp lk) (i + 1))), (7, .int (bd)), (8, .int (nI lk)), (9, .int (nI i)), (10, .int ((memV mem pp lk) i)), (13, .int (nI j))]) hx hb dX7_worthOf_136 hl (by decide) rfl (fun ls hl => ?_)
            refine lv_lload_n hx hb dX7_worthOf_138 rfl (lv_at hl 6 rfl) ?_
            refine jl (pcj := 166) (st := [.long (if kd = 3 ∧ (memV mem pp lk) j = (memV mem pp lk) i ∧ i < j then 1 else 0), .long (acW kd (memV mem pp lk) (memV mem pp 2) bd n i + A3 kd (memV mem pp lk) i j)]) (nL := 15) (lv := [(12, .int (b2i (fsB (memV mem pp lk) i (j + 1)))), (11, .int (nI (cnt (memV mem pp lk) ((memV mem pp lk) i) 0 (j + 1)))), (14, .int (b2i (decide ((memV mem pp lk) j = (memV mem pp lk) i)))), (0, .ref (ad (2000))), (1, .int (nI pp)), (2, .int (nI rr)), (3, .long (acW kd (memV mem pp lk) (memV mem pp 2) bd n i + A3 kd (memV mem pp lk) i j)), (5, .long (sumL (memV mem pp lk) (i + 1))), (7, .int (bd)), (8, .int (nI lk)), (9, .int (nI i)), (10, .int ((memV mem pp lk) i)), (13, .int (nI j))]) (fun K => ?_) (fun ls hl => ?_)
            · skip
              refine lv_aload_n hx hb dX7_worthOf_139 rfl (lv_at hl 3 rfl) ?_
              refine g_X7_X7_kind hx hb hown hK hW h2000 dX7_worthOf_140 ?_
              refine lv_iload_n hx hb dX7_worthOf_143 rfl (lv_at hl 5 rfl) ?_
              refine w_iald hx hb hK hW h2002 (j := rr) (rfl) (by omega) (by omega) dX7_worthOf_144 ?_
              refine asi (y := nI kd) (ek) ?_
              refine lv_iconst (v := nI 3) hx hb dX7_worthOf_145 (by decide) ?_
              refine lv_icmp_ne (tgt := 165) hx hb dX7_worthOf_146 (by decide) (fun c146 => ?_) (fun c146 => ?_)
              · skip
                have c146 := nI_ne' c146 (by omega) (by omega)
                refine lv_lconst (v := 0) hx hb dX7_worthOf_165 (by decide) ?_
                refine asl (y := if kd = 3 ∧ (memV mem pp lk) j = (memV mem pp lk) i ∧ i < j then 1 else 0) (by first | (rw [if_neg (fun q => c146 q.1)]; done) | (simp at c151; rw [if_neg (fun q => c151 q.2.1)]; done) | (rw [if_neg (fun q => by omega)]; done) | (simp at c151; rw [if_pos ⟨c146, c151, by omega⟩]; done)) ?_
                exact K ls (lv_sub hl [0, 1, 2, 3, 4, 5, 6, 7, 8, 9, 10, 11, 12] rfl)
              · skip
                have c146 := nI_eq' c146 (by omega) (by omega)
                refine lv_iload hx hb dX7_worthOf_149 (lv_at hl 2 rfl) ?_
                refine lv_if_eq (tgt := 165) hx hb dX7_worthOf_151 (by decide) (fun c151 => ?_) (fun c151 => ?_)
                · skip
                  have c151 := b2i_0.mp c151
                  refine lv_lconst (v := 0) hx hb dX7_worthOf_165 (by decide) ?_
                  refine asl (y := if kd = 3 ∧ (memV mem pp lk) j = (memV mem pp lk) i ∧ i < j then 1 else 0) (by first | (rw [if_neg (fun q => c146 q.1)]; done) | (simp at c151; rw [if_neg (fun q => c151 q.2.1)]; done) | (rw [if_neg (fun q => by omega)]; done) | (simp at c151; rw [if_pos ⟨c146, c151, by omega⟩]; done)) ?_
                  exact K ls (lv_sub hl [0, 1, 2, 3, 4, 5, 6, 7, 8, 9, 10, 11, 12] rfl)
                · skip
                  have c151 := b2i_1.mp c151
                  refine lv_iload hx hb dX7_worthOf_154 (lv_at hl 12 rfl) ?_
                  refine lv_iload hx hb dX7_worthOf_156 (lv_at hl 10 rfl) ?_
                  refine lv_icmp_le (tgt := 165) hx hb dX7_worthOf_158 (by decide) (fun c158 => ?_) (fun c158 => ?_)
                  · skip
                    have c158 := nI_le' c158 (by omega) (by omega)
                    refine lv_lconst (v := 0) hx hb dX7_worthOf_165 (by decide) ?_
                    refine asl (y := if kd = 3 ∧ (memV mem pp lk) j = (memV mem pp lk) i ∧ i < j then 1 else 0) (by first | (rw [if_neg (fun q => c146 q.1)]; done) | (simp at c151; rw [if_neg (fun q => c151 q.2.1)]; done) | (rw [if_neg (fun q => by omega)]; done) | (simp at c151; rw [if_pos ⟨c146, c151, by omega⟩]; done)) ?_
                    exact K ls (lv_sub hl [0, 1, 2, 3, 4, 5, 6, 7, 8, 9, 10, 11, 12] rfl)
                  · skip
                    have c158 := nI_nle' c158 (by omega) (by omega)
                    refine lv_lconst (v := 1) hx hb dX7_worthOf_161 (by decide) ?_
                    refine lv_goto (tgt := 166) hx hb dX7_worthOf_162 (by decide) ?_
                    refine asl (y := if kd = 3 ∧ (memV mem pp lk) j = (memV mem pp lk) i ∧ i < j then 1 else 0) (by first | (rw [if_neg (fun q => c146 q.1)]; done) | (simp at c151; rw [if_neg (fun q => c151 q.2.1)]; done) | (rw [if_neg (fun q => by omega)]; done) | (simp at c151; rw [if_pos ⟨c146, c151, by omega⟩]; done)) ?_
                    exact K ls (lv_sub hl [0, 1, 2, 3, 4, 5, 6, 7, 8, 9, 10, 11, 12] rfl)
            · skip
              refine lv_ladd hx hb dX7_worthOf_166 ?_
              refine asl (y := acW kd (memV mem pp lk) (memV mem pp 2) bd n i + A3 kd (memV mem pp lk) i (j + 1)) (A3_s _ _ _ _ _) ?_
              refine lv_lstore_n (lv' := [(3, .long (acW kd (memV mem pp lk) (memV mem pp 2) bd n i + A3 kd (memV mem pp lk) i (j + 1))), (12, .int (b2i (fsB (memV mem pp lk) i (j + 1)))), (11, .int (nI (cnt (memV mem pp lk) ((memV mem pp lk) i) 0 (j + 1)))), (14, .int (b2i (decide ((memV mem pp lk) j = (memV mem pp lk) i)))), (0, .ref (ad (2000))), (1, .int (nI pp)), (2, .int (nI rr)), (5, .long (sumL (memV mem pp lk) (i + 1))), (7, .int (bd)), (8, .int (nI lk)), (9, .int (nI i)), (10, .int ((memV mem pp lk) i)), (13, .int (nI j))]) hx hb dX7_worthOf_167 rfl hl (by decide) rfl (fun ls hl => ?_)
              refine lv_iinc (v := nI (j + 1)) (lv' := [(13, .int (nI (j + 1))), (3, .long (acW kd (memV mem pp lk) (memV mem pp 2) bd n i + A3 kd (memV mem pp lk) i (j + 1))), (12, .int (b2i (fsB (memV mem pp lk) i (j + 1)))), (11, .int (nI (cnt (memV mem pp lk) ((memV mem pp lk) i) 0 (j + 1)))), (14, .int (b2i (decide ((memV mem pp lk) j = (memV mem pp lk) i)))), (0, .ref (ad (2000))), (1, .int (nI pp)), (2, .int (nI rr)), (5, .long (sumL (memV mem pp lk) (i + 1))), (7, .int (bd)), (8, .int (nI lk)), (9, .int (nI i)), (10, .int ((memV mem pp lk) i))]) hx hb dX7_worthOf_168 hl (k := 12) rfl (by rw [show Int32.ofInt 1 = nI 1 from by decide]; exact nI_add _ _) (by decide) rfl (fun ls hl => ?_)
              refine lv_goto (tgt := 66) hx hb dX7_worthOf_171 (by decide) ?_
              exact ih (j + 1) _ ⟨by omega, ls, rfl, lv_sub hl [5, 6, 7, 1, 8, 9, 10, 11, 12, 3, 2, 0] rfl⟩ (by omega)
