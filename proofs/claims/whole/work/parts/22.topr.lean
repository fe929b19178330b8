set_option maxHeartbeats 4000000 in
set_option maxRecDepth 100000 in
theorem c_X3_has (l : Launch) (D : va_G) (cy : Nat → ClassId) (z0 : Nat) (ad : Nat → Nat) (V : Nat → Option va_E) (k : Nat) (ρ : RuT) (hB : isBk ad V cy k ρ) (x : Int32) : Met l yX3_has [Cond.code yX3_has cX3_has 2 (some .boolean)] { frames := 0, cells := 0, slots := 0, locals := 0 } (WP [.ref (ad 1), .int (x)] D cy z0 ad V) (vp_Si (fun r => r = b2i (hasB k x))) 0 0 (fun _ => False) := by
  refine met_of (by decide) (Nat.le_of_ble_eq_true rfl) (fun p e s m below meth c hx hb hr hml hown hlocks hnm hK hz hW ls hl => ?_)
  have hown : s.vm.findClass RX3 = some m.cls := hown
  have hl : lv_has ls 2 [(0, .ref (ad 1)), (1, .int (x))] := hl
  obtain ⟨hB0, hB1, hBr⟩ := id hB
  refine lv_iload_n hx hb dX3_has_0 rfl (lv_at hl 1 rfl) ?_
  refine lv_if_lt (tgt := 16) hx hb dX3_has_1 (by decide) (fun c1 => ?_) (fun c1 => ?_)
  · skip
    refine lv_iconst (v := nI 0) hx hb dX3_has_16 (by decide) ?_
    exact rz hx hb hr hlocks dX3_has_17 (by first | exact b2i_n | rfl | decide) (by simp_all [b2i, nI, hasB])
  · skip
    refine lv_iload_n hx hb dX3_has_4 rfl (lv_at hl 1 rfl) ?_
    refine lv_aload_n hx hb dX3_has_5 rfl (lv_at hl 0 rfl) ?_
    refine g_X3_X3_size hx hb hown hK hW hB0 dX3_has_6 ?_
    refine lv_icmp_ge (tgt := 16) hx hb dX3_has_9 (by decide) (fun c9 => ?_) (fun c9 => ?_)
    · skip
      refine lv_iconst (v := nI 0) hx hb dX3_has_16 (by decide) ?_
      exact rz hx hb hr hlocks dX3_has_17 (by first | exact b2i_n | rfl | decide) (by simp_all [b2i, nI, hasB])
    · skip
      refine lv_iconst (v := nI 1) hx hb dX3_has_12 (by decide) ?_
      refine lv_goto (tgt := 17) hx hb dX3_has_13 (by decide) ?_
      exact rz hx hb hr hlocks dX3_has_17 (by first | exact b2i_n | rfl | decide) (by simp_all [b2i, nI, hasB])

set_option maxHeartbeats 4000000 in
set_option maxRecDepth 100000 in
theorem c_X6_isLevel (l : Launch) (D : va_G) (cy : Nat → ClassId) (z0 : Nat) (ad : Nat → Nat) (V : Nat → Option va_E) (x : Int32) : Met l yX6_isLevel [Cond.code yX6_isLevel cX6_isLevel 1 (some .boolean)] { frames := 1, cells := 0, slots := 0, locals := 22 } (WP [.int (x)] D cy z0 ad V) (vp_Si (fun r => r = b2i (wiB x (nI 0) (nI 2)))) 0 0 (fun _ => False) := by
  refine met_of (by decide) (Nat.le_of_ble_eq_true rfl) (fun p e s m below meth c hx hb hr hml hown hlocks hnm hK hz hW ls hl => ?_)
  have hown : s.vm.findClass RX6 = some m.cls := hown
  have hl : lv_has ls 1 [(0, .int (x))] := hl
  refine lv_iload_n hx hb dX6_isLevel_0 rfl (lv_at hl 0 rfl) ?_
  refine lv_iconst (v := nI 0) hx hb dX6_isLevel_1 (by decide) ?_
  refine lv_iconst (v := nI 2) hx hb dX6_isLevel_2 (by decide) ?_
  refine vp_callSi (va_Run.run (va_runS (As := [.int (x), .int (nI 0), .int (nI 2)]) (rest := []) ⟨hx, hb, hml, hown, hK.1.use _⟩ (c_X6_within l D cy z0 ad V x (nI 0) (nI 2)) (k_X6_X6_within hK.1 rfl rfl ⟨Nat.le_of_ble_eq_true rfl, Nat.le_of_ble_eq_true rfl⟩) (preS hK hz hW) rfl rfl hl.1 rfl (lv_room (Nat.le_of_ble_eq_true rfl)) dX6_isLevel_3 ⟨Nat.le_of_ble_eq_true rfl, Nat.le_of_ble_eq_true rfl⟩)) (fun r3 h3 => ?_)
  have h3 : r3 = b2i (wiB x (nI 0) (nI 2)) := h3
  subst h3
  exact rz hx hb hr hlocks dX6_isLevel_6 (by first | exact b2i_n | rfl | decide) (rfl)

set_option maxHeartbeats 4000000 in
set_option maxRecDepth 100000 in
theorem c_X6_isRule (l : Launch) (D : va_G) (cy : Nat → ClassId) (z0 : Nat) (ad : Nat → Nat) (V : Nat → Option va_E) (a b x w v : Int32) : Met l yX6_isRule [Cond.code yX6_isRule cX6_isRule 5 (some .boolean)] { frames := 2, cells := 0, slots := 0, locals := 42 } (WP [.int (a), .int (b), .int (x), .int (w), .int (v)] D cy z0 ad V) (vp_Si (fun r => r = b2i (ruB a b x w v))) 0 0 (fun _ => False) := by
  refine met_of (by decide) (Nat.le_of_ble_eq_true rfl) (fun p e s m below meth c hx hb hr hml hown hlocks hnm hK hz hW ls hl => ?_)
  have hown : s.vm.findClass RX6 = some m.cls := hown
  have hl : lv_has ls 5 [(0, .int (a)), (1, .int (b)), (2, .int (x)), (3, .int (w)), (4, .int (v))] := hl
  refine lv_iload_n hx hb dX6_isRule_0 rfl (lv_at hl 0 rfl) ?_
  refine lv_iconst (v := nI 0) hx hb dX6_isRule_1 (by decide) ?_
  refine lv_iconst (v := nI 5) hx hb dX6_isRule_2 (by decide) ?_
  refine vp_callSi (va_Run.run (va_runS (As := [.int (a), .int (nI 0), .int (nI 5)]) (rest := []) ⟨hx, hb, hml, hown, hK.1.use _⟩ (c_X6_within l D cy z0 ad V a (nI 0) (nI 5)) (k_X6_X6_within hK.1 rfl rfl ⟨Nat.le_of_ble_eq_true rfl, Nat.le_of_ble_eq_true rfl⟩) (preS hK hz hW) rfl rfl hl.1 rfl (lv_room (Nat.le_of_ble_eq_true rfl)) dX6_isRule_3 ⟨Nat.le_of_ble_eq_true rfl, Nat.le_of_ble_eq_true rfl⟩)) (fun r3 h3 => ?_)
  have h3 : r3 = b2i (wiB a (nI 0) (nI 5)) := h3
  subst h3
  refine lv_if_eq (tgt := 52) hx hb dX6_isRule_6 (by decide) (fun c6 => ?_) (fun c6 => ?_)
  · skip
    have c6 := b2i_0.mp c6
    refine lv_iconst (v := nI 0) hx hb dX6_isRule_52 (by decide) ?_
    exact rz hx hb hr hlocks dX6_isRule_53 (by first | exact b2i_n | rfl | decide) (by first | (simp only [ruB, c6, Bool.false_and]; rfl) | (simp only [ruB, c6, c15, Bool.true_and, Bool.false_and]; rfl) | (simp only [ruB, c6, c15, c26, Bool.true_and, Bool.false_and]; rfl) | (simp only [ruB, c6, c15, c26, c37, Bool.true_and, Bool.false_and]; rfl) | (simp only [ruB, c6, c15, c26, c37, c45, Bool.true_and, Bool.false_and]; rfl))
  · skip
    have c6 := b2i_1.mp c6
    refine lv_iload_n hx hb dX6_isRule_9 rfl (lv_at hl 1 rfl) ?_
    refine lv_iconst (v := nI 0) hx hb dX6_isRule_10 (by decide) ?_
    refine lv_iconst (v := nI 3) hx hb dX6_isRule_11 (by decide) ?_
    refine vp_callSi (va_Run.run (va_runS (As := [.int (b), .int (nI 0), .int (nI 3)]) (rest := []) ⟨hx, hb, hml, hown, hK.1.use _⟩ (c_X6_within l D cy z0 ad V b (nI 0) (nI 3)) (k_X6_X6_within hK.1 rfl rfl ⟨Nat.le_of_ble_eq_true rfl, Nat.le_of_ble_eq_true rfl⟩) (preS hK hz hW) rfl rfl hl.1 rfl (lv_room (Nat.le_of_ble_eq_true rfl)) dX6_isRule_12 ⟨Nat.le_of_ble_eq_true rfl, Nat.le_of_ble_eq_true rfl⟩)) (fun r12 h12 => ?_)
    have h12 : r12 = b2i (wiB b (nI 0) (nI 3)) := h12
    subst h12
    refine lv_if_eq (tgt := 52) hx hb dX6_isRule_15 (by decide) (fun c15 => ?_) (fun c15 => ?_)
    · skip
      have c15 := b2i_0.mp c15
      refine lv_iconst (v := nI 0) hx hb dX6_isRule_52 (by decide) ?_
      exact rz hx hb hr hlocks dX6_isRule_53 (by first | exact b2i_n | rfl | decide) (by first | (simp only [ruB, c6, Bool.false_and]; rfl) | (simp only [ruB, c6, c15, Bool.true_and, Bool.false_and]; rfl) | (simp only [ruB, c6, c15, c26, Bool.true_and, Bool.false_and]; rfl) | (simp only [ruB, c6, c15, c26, c37, Bool.true_and, Bool.false_and]; rfl) | (simp only [ruB, c6, c15, c26, c37, c45, Bool.true_and, Bool.false_and]; rfl))
    · skip
      have c15 := b2i_1.mp c15
      refine lv_iload_n hx hb dX6_isRule_18 rfl (lv_at hl 2 rfl) ?_
      refine lv_ldc (v := -1000000) hx hb hown (hK.1.use _ _ tw_241) dX6_isRule_19 ?_
      refine lv_ldc (v := 1000000) hx hb hown (hK.1.use _ _ tw_242) dX6_isRule_21 ?_
      refine vp_callSi (va_Run.run (va_runS (As := [.int (x), .int (-1000000), .int (1000000)]) (rest := []) ⟨hx, hb, hml, hown, hK.1.use _⟩ (c_X6_within l D cy z0 ad V x (-1000000) 1000000) (k_X6_X6_within hK.1 rfl rfl ⟨Nat.le_of_ble_eq_true rfl, Nat.le_of_ble_eq_true rfl⟩) (preS hK hz hW) rfl rfl hl.1 rfl (lv_room (Nat.le_of_ble_eq_true rfl)) dX6_isRule_23 ⟨Nat.le_of_ble_eq_true rfl, Nat.le_of_ble_eq_true rfl⟩)) (fun r23 h23 => ?_)
      have h23 : r23 = b2i (wiB x (-1000000) 1000000) := h23
      subst h23
      refine lv_if_eq (tgt := 52) hx hb dX6_isRule_26 (by decide) (fun c26 => ?_) (fun c26 => ?_)
      · skip
        have c26 := b2i_0.mp c26
        refine lv_iconst (v := nI 0) hx hb dX6_isRule_52 (by decide) ?_
        exact rz hx hb hr hlocks dX6_isRule_53 (by first | exact b2i_n | rfl | decide) (by first | (simp only [ruB, c6, Bool.false_and]; rfl) | (simp only [ruB, c6, c15, Bool.true_and, Bool.false_and]; rfl) | (simp only [ruB, c6, c15, c26, Bool.true_and, Bool.false_and]; rfl) | (simp only [ruB, c6, c15, c26, c37, Bool.true_and, Bool.false_and]; rfl) | (simp only [ruB, c6, c15, c26, c37, c45, Bool.true_and, Bool.false_and]; rfl))
      · skip
        have c26 := b2i_1.mp c26
        refine lv_iload_n hx hb dX6_isRule_29 rfl (lv_at hl 3 rfl) ?_
        refine lv_iconst (v := nI 1) hx hb dX6_isRule_30 (by decide) ?_
        refine lv_sipush (v := nI 1000) hx hb dX6_isRule_31 (by decide) ?_
        refine vp_callSi (va_Run.run (va_runS (As := [.int (w), .int (nI 1), .int (nI 1000)]) (rest := []) ⟨hx, hb, hml, hown, hK.1.use _⟩ (c_X6_within l D cy z0 ad V w (nI 1) (nI 1000)) (k_X6_X6_within hK.1 rfl rfl ⟨Nat.le_of_ble_eq_true rfl, Nat.le_of_ble_eq_true rfl⟩) (preS hK hz hW) rfl rfl hl.1 rfl (lv_room (Nat.le_of_ble_eq_true rfl)) dX6_isRule_34 ⟨Nat.le_of_ble_eq_true rfl, Nat.le_of_ble_eq_true rfl⟩)) (fun r34 h34 => ?_)
        have h34 : r34 = b2i (wiB w (nI 1) (nI 1000)) := h34
        subst h34
        refine lv_if_eq (tgt := 52) hx hb dX6_isRule_37 (by decide) (fun c37 => ?_) (fun c37 => ?_)
        · skip
          have c37 := b2i_0.mp c37
          refine lv_iconst (v := nI 0) hx hb dX6_isRule_52 (by decide) ?_
          exact rz hx hb hr hlocks dX6_isRule_53 (by first | exact b2i_n | rfl | decide) (by first | (simp only [ruB, c6, Bool.false_and]; rfl) | (simp only [ruB, c6, c15, Bool.true_and, Bool.false_and]; rfl) | (simp only [ruB, c6, c15, c26, Bool.true_and, Bool.false_and]; rfl) | (simp only [ruB, c6, c15, c26, c37, Bool.true_and, Bool.false_and]; rfl) | (simp only [ruB, c6, c15, c26, c37, c45, Bool.true_and, Bool.false_and]; rfl))
        · skip
          have c37 := b2i_1.mp c37
          refine lv_iload hx hb dX6_isRule_40 (lv_at hl 4 rfl) ?_
          refine vp_callSi (va_Run.run (va_runS (As := [.int (v)]) (rest := []) ⟨hx, hb, hml, hown, hK.1.use _⟩ (c_X6_isLevel l D cy z0 ad V v) (k_X6_X6_isLevel hK.1 rfl rfl ⟨Nat.le_of_ble_eq_true rfl, Nat.le_of_ble_eq_true rfl⟩) (preS hK hz hW) rfl rfl hl.1 rfl (lv_room (Nat.le_of_ble_eq_true rfl)) dX6_isRule_42 ⟨Nat.le_of_ble_eq_true rfl, Nat.le_of_ble_eq_true rfl⟩)) (fun r42 h42 => ?_)
          have h42 : r42 = b2i (wiB v (nI 0) (nI 2)) := h42
          subst h42
          refine lv_if_eq (tgt := 52) hx hb dX6_isRule_45 (by decide) (fun c45 => ?_) (fun c45 => ?_)
          · skip
            have c45 := b2i_0.mp c45
            refine lv_iconst (v := nI 0) hx hb dX6_isRule_52 (by decide) ?_
            exact rz hx hb hr hlocks dX6_isRule_53 (by first | exact b2i_n | rfl | decide) (by first | (simp only [ruB, c6, Bool.false_and]; rfl) | (simp only [ruB, c6, c15, Bool.true_and, Bool.false_and]; rfl) | (simp only [ruB, c6, c15, c26, Bool.true_and, Bool.false_and]; rfl) | (simp only [ruB, c6, c15, c26, c37, Bool.true_and, Bool.false_and]; rfl) | (simp only [ruB, c6, c15, c26, c37, c45, Bool.true_and, Bool.false_and]; rfl))
          · skip
            have c45 := b2i_1.mp c45
            refine lv_iconst (v := nI 1) hx hb dX6_isRule_48 (by decide) ?_
            refine lv_goto (tgt := 53) hx hb dX6_isRule_49 (by decide) ?_
            exact rz hx hb hr hlocks dX6_isRule_53 (by first | exact b2i_n | rfl | decide) (by first | (simp only [ruB, c6, Bool.false_and]; rfl) | (simp only [ruB, c6, c15, Bool.true_and, Bool.false_and]; rfl) | (simp only [ruB, c6, c15, c26, Bool.true_and, Bool.false_and]; rfl) | (simp only [ruB, c6, c15, c26, c37, Bool.true_and, Bool.false_and]; rfl) | (simp only [ruB, c6, c15, c26, c37, c45, Bool.true_and, Bool.false_and]; rfl))

set_option maxHeartbeats 4000000 in
set_option maxRecDepth 100000 in
theorem c_X6_planAt (l : Launch) (D : va_G) (cy : Nat → ClassId) (z0 : Nat) (ad : Nat → Nat) (V : Nat → Option va_E) (n k P K : Nat) (ce : Int32) (ρ : RuT) (pl : Nat → PlT) (sn : Nat → SnT) (hX : isX ad V cy n k P K ce ρ pl sn) (hO : okX n k P K ρ pl sn) (x : Int32) : Met l yX6_planAt [Cond.code yX6_planAt cX6_planAt 2 (some (.object "ScoreDifferences$Plan"))] { frames := 0, cells := 0, slots := 0, locals := 0 } (WP [.ref (ad 0), .int (x)] D cy z0 ad V) (va_Sq (fun r => r = (if hasB P x = true then some (ad (100 + 100 * x.toNatClampNeg)) else none))) 0 0 (fun _ => False) := by
  refine met_of (by decide) (Nat.le_of_ble_eq_true rfl) (fun p e s m below meth c hx hb hr hml hown hlocks hnm hK hz hW ls hl => ?_)
  have hown : s.vm.findClass RX6 = some m.cls := hown
  have hl : lv_has ls 2 [(0, .ref (ad 0)), (1, .int (x))] := hl
  obtain ⟨hX0, hB, hX3, hX4, hXp, hXs, hFx⟩ := id hX
  obtain ⟨hn40, hk, hP1, hP4, hK20, hOp, hOs⟩ := id hO
  have hk12 := hk.1
  obtain ⟨hB0, hB1, hBr⟩ := id hB
  refine lv_iload_n hx hb dX6_planAt_0 rfl (lv_at hl 1 rfl) ?_
  refine lv_if_lt (tgt := 21) hx hb dX6_planAt_1 (by decide) (fun c1 => ?_) (fun c1 => ?_)
  · skip
    refine lv_null hx hb dX6_planAt_21 ?_
    exact rq (none) (rfl) hx hb hr hlocks dX6_planAt_22 (by first | rw [if_neg (fun q => by simp only [hasB, Bool.and_eq_true, decide_eq_true_eq] at q; exact q.1 c1)] | rw [if_neg (fun q => by simp only [hasB, Bool.and_eq_true, decide_eq_true_eq] at q; exact q.2 c9)])
  · skip
    refine lv_iload_n hx hb dX6_planAt_4 rfl (lv_at hl 1 rfl) ?_
    refine lv_aload_n hx hb dX6_planAt_5 rfl (lv_at hl 0 rfl) ?_
    refine g_X6_X6_planCount hx hb hown hK hW hX0 dX6_planAt_6 ?_
    refine lv_icmp_ge (tgt := 21) hx hb dX6_planAt_9 (by decide) (fun c9 => ?_) (fun c9 => ?_)
    · skip
      refine lv_null hx hb dX6_planAt_21 ?_
      exact rq (none) (rfl) hx hb hr hlocks dX6_planAt_22 (by first | rw [if_neg (fun q => by simp only [hasB, Bool.and_eq_true, decide_eq_true_eq] at q; exact q.1 c1)] | rw [if_neg (fun q => by simp only [hasB, Bool.and_eq_true, decide_eq_true_eq] at q; exact q.2 c9)])
    · skip
      have hh : hasB P x = true := by simp only [hasB, Bool.and_eq_true, decide_eq_true_eq]; exact ⟨c1, c9⟩
      have hb9 := hasB_of hh (by omega)
      refine lv_aload_n hx hb dX6_planAt_12 rfl (lv_at hl 0 rfl) ?_
      refine g_X6_X6_plans hx hb hown hK hW hX0 dX6_planAt_13 ?_
      refine lv_iload_n hx hb dX6_planAt_16 rfl (lv_at hl 1 rfl) ?_
      refine w_aald hx hb hK hW 5 rfl rfl hX3 (j := x.toNatClampNeg) (hb9.1) (by omega) (by omega) dX6_planAt_17 ?_
      refine asv (y := .ref (ad (100 + 100 * x.toNatClampNeg))) (elP (by omega)) ?_
      refine lv_goto (tgt := 22) hx hb dX6_planAt_18 (by decide) ?_
      exact rq (some (ad (100 + 100 * x.toNatClampNeg))) (rfl) hx hb hr hlocks dX6_planAt_22 (by rw [if_pos hh])

set_option maxHeartbeats 4000000 in
set_option maxRecDepth 100000 in
theorem c_X6_snapshotAt (l : Launch) (D : va_G) (cy : Nat → ClassId) (z0 : Nat) (ad : Nat → Nat) (V : Nat → Option va_E) (n k P K : Nat) (ce : Int32) (ρ : RuT) (pl : Nat → PlT) (sn : Nat → SnT) (hX : isX ad V cy n k P K ce ρ pl sn) (hO : okX n k P K ρ pl sn) (x : Int32) : Met l yX6_snapshotAt [Cond.code yX6_snapshotAt cX6_snapshotAt 2 (some (.object "ScoreDifferences$Snapshot"))] { frames := 0, cells := 0, slots := 0, locals := 0 } (WP [.ref (ad 0), .int (x)] D cy z0 ad V) (va_Sq (fun r => r = (if hasB K x = true then some (ad (1000 + 10 * x.toNatClampNeg)) else none))) 0 0 (fun _ => False) := by
  refine met_of (by decide) (Nat.le_of_ble_eq_true rfl) (fun p e s m below meth c hx hb hr hml hown hlocks hnm hK hz hW ls hl => ?_)
  have hown : s.vm.findClass RX6 = some m.cls := hown
  have hl : lv_has ls 2 [(0, .ref (ad 0)), (1, .int (x))] := hl
  obtain ⟨hX0, hB, hX3, hX4, hXp, hXs, hFx⟩ := id hX
  obtain ⟨hn40, hk, hP1, hP4, hK20, hOp, hOs⟩ := id hO
  have hk12 := hk.1
  obtain ⟨hB0, hB1, hBr⟩ := id hB
  refine lv_iload_n hx hb dX6_snapshotAt_0 rfl (lv_at hl 1 rfl) ?_
  refine lv_if_lt (tgt := 21) hx hb dX6_snapshotAt_1 (by decide) (fun c1 => ?_) (fun c1 => ?_)
  · skip
    refine lv_null hx hb dX6_snapshotAt_21 ?_
    exact rq (none) (rfl) hx hb hr hlocks dX6_snapshotAt_22 (by first | rw [if_neg (fun q => by simp only [hasB, Bool.and_eq_true, decide_eq_true_eq] at q; exact q.1 c1)] | rw [if_neg (fun q => by simp only [hasB, Bool.and_eq_true, decide_eq_true_eq] at q; exact q.2 c9)])
  · skip
    refine lv_iload_n hx hb dX6_snapshotAt_4 rfl (lv_at hl 1 rfl) ?_
    refine lv_aload_n hx hb dX6_snapshotAt_5 rfl (lv_at hl 0 rfl) ?_
    refine g_X6_X6_snapshotCount hx hb hown hK hW hX0 dX6_snapshotAt_6 ?_
    refine lv_icmp_ge (tgt := 21) hx hb dX6_snapshotAt_9 (by decide) (fun c9 => ?_) (fun c9 => ?_)
    · skip
      refine lv_null hx hb dX6_snapshotAt_21 ?_
      exact rq (none) (rfl) hx hb hr hlocks dX6_snapshotAt_22 (by first | rw [if_neg (fun q => by simp only [hasB, Bool.and_eq_true, decide_eq_true_eq] at q; exact q.1 c1)] | rw [if_neg (fun q => by simp only [hasB, Bool.and_eq_true, decide_eq_true_eq] at q; exact q.2 c9)])
    · skip
      have hh : hasB K x = true := by simp only [hasB, Bool.and_eq_true, decide_eq_true_eq]; exact ⟨c1, c9⟩
      have hb9 := hasB_of hh (by omega)
      refine lv_aload_n hx hb dX6_snapshotAt_12 rfl (lv_at hl 0 rfl) ?_
      refine g_X6_X6_snapshots hx hb hown hK hW hX0 dX6_snapshotAt_13 ?_
      refine lv_iload_n hx hb dX6_snapshotAt_16 rfl (lv_at hl 1 rfl) ?_
      refine w_aald hx hb hK hW 7 rfl rfl hX4 (j := x.toNatClampNeg) (hb9.1) (by omega) (by omega) dX6_snapshotAt_17 ?_
      refine asv (y := .ref (ad (1000 + 10 * x.toNatClampNeg))) (elS (by omega)) ?_
      refine lv_goto (tgt := 22) hx hb dX6_snapshotAt_18 (by decide) ?_
      exact rq (some (ad (1000 + 10 * x.toNatClampNeg))) (rfl) hx hb hr hlocks dX6_snapshotAt_22 (by rw [if_pos hh])

set_option maxHeartbeats 4000000 in
set_option maxRecDepth 100000 in
theorem c_X6_isSettled (l : Launch) (D : va_G) (cy : Nat → ClassId) (z0 : Nat) (ad : Nat → Nat) (V : Nat → Option va_E) (n k P K : Nat) (ce : Int32) (ρ : RuT) (pl : Nat → PlT) (sn : Nat → SnT) (hX : isX ad V cy n k P K ce ρ pl sn) (hO : okX n k P K ρ pl sn) : Met l yX6_isSettled [Cond.code yX6_isSettled cX6_isSettled 1 (some .boolean)] { frames := 0, cells := 0, slots := 0, locals := 0 } (WP [.ref (ad 0)] D cy z0 ad V) (vp_Si (fun r => r = b2i (stB P (pCh (pl 0))))) 0 0 (fun _ => False) := by
  refine met_of (by decide) (Nat.le_of_ble_eq_true rfl) (fun p e s m below meth c hx hb hr hml hown hlocks hnm hK hz hW ls hl => ?_)
  have hown : s.vm.findClass RX6 = some m.cls := hown
  have hl : lv_has ls 1 [(0, .ref (ad 0))] := hl
  obtain ⟨hX0, hB, hX3, hX4, hXp, hXs, hFx⟩ := id hX
  obtain ⟨hn40, hk, hP1, hP4, hK20, hOp, hOs⟩ := id hO
  have hk12 := hk.1
  obtain ⟨hB0, hB1, hBr⟩ := id hB
  obtain ⟨⟨n2, M2, hC, hnn, hZ2⟩, hH⟩ := hXp 0 (by omega)
  obtain ⟨hC0, hCT, hCU, hC3, hC4⟩ := id hC
  refine lv_aload_n hx hb dX6_isSettled_0 rfl (lv_at hl 0 rfl) ?_
  refine g_X6_X6_planCount hx hb hown hK hW hX0 dX6_isSettled_1 ?_
  refine lv_iconst (v := nI 1) hx hb dX6_isSettled_4 (by decide) ?_
  refine lv_icmp_gt (tgt := 20) hx hb dX6_isSettled_5 (by decide) (fun c5 => ?_) (fun c5 => ?_)
  · skip
    have c5 := nI_lt' c5 (by omega) (by omega)
    refine lv_iconst (v := nI 1) hx hb dX6_isSettled_20 (by decide) ?_
    refine lv_goto (tgt := 25) hx hb dX6_isSettled_21 (by decide) ?_
    exact rz hx hb hr hlocks dX6_isSettled_25 (by first | exact b2i_n | rfl | decide) (by first | (simp [stB, c5, b2i, nI]; done) | (simp [stB, c5, c17, b2i, nI]; done) | (have c5 : ¬ 1 < P := (by omega); simp [stB, c5, c17, b2i, nI]; done))
  · skip
    have c5 := nI_nlt' c5 (by omega) (by omega)
    refine lv_aload_n hx hb dX6_isSettled_8 rfl (lv_at hl 0 rfl) ?_
    refine g_X6_X6_plans hx hb hown hK hW hX0 dX6_isSettled_9 ?_
    refine lv_iconst (v := nI 0) hx hb dX6_isSettled_12 (by decide) ?_
    refine w_aald hx hb hK hW 5 rfl rfl hX3 (j := 0) (rfl) (by omega) (by omega) dX6_isSettled_13 ?_
    refine asv (y := .ref (ad (100 + 100 * 0))) (elP (by omega)) ?_
    refine g_X6_X1_changes hx hb hown hK hW hC0 dX6_isSettled_14 ?_
    refine lv_if_le (tgt := 24) hx hb dX6_isSettled_17 (by decide) (fun c17 => ?_) (fun c17 => ?_)
    · skip
      have c17 : ¬ 0 < pCh (pl 0) := fun q => by rw [Int32.lt_iff_toInt_lt] at q; rw [Int32.le_iff_toInt_le] at c17; omega
      refine lv_iconst (v := nI 0) hx hb dX6_isSettled_24 (by decide) ?_
      exact rz hx hb hr hlocks dX6_isSettled_25 (by first | exact b2i_n | rfl | decide) (by first | (simp [stB, c5, b2i, nI]; done) | (simp [stB, c5, c17, b2i, nI]; done) | (have c5 : ¬ 1 < P := (by omega); simp [stB, c5, c17, b2i, nI]; done))
    · skip
      have c17 : 0 < pCh (pl 0) := by rw [Int32.le_iff_toInt_le] at c17; rw [Int32.lt_iff_toInt_lt]; omega
      refine lv_iconst (v := nI 1) hx hb dX6_isSettled_20 (by decide) ?_
      refine lv_goto (tgt := 25) hx hb dX6_isSettled_21 (by decide) ?_
      exact rz hx hb hr hlocks dX6_isSettled_25 (by first | exact b2i_n | rfl | decide) (by first | (simp [stB, c5, b2i, nI]; done) | (simp [stB, c5, c17, b2i, nI]; done) | (have c5 : ¬ 1 < P := (by omega); simp [stB, c5, c17, b2i, nI]; done))
