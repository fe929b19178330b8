set_option maxHeartbeats 4000000 in
set_option maxRecDepth 100000 in
theorem c_X7_member (l : Launch) (D : va_G) (cy : Nat → ClassId) (z0 : Nat) (ad : Nat → Nat) (V : Nat → Option va_E) (c0 n k P K : Nat) (ce : Int32) (ρ : RuT) (pl : Nat → PlT) (sn : Nat → SnT) (hM : isM ad V cy n k P K ce ρ pl sn) (hG : gdX c0 n k P K ρ pl sn) (pi o mi : Int32) : Met l yX7_member [Cond.code yX7_member cX7_member 4 (some .int)] { frames := 2, cells := 0, slots := 0, locals := 43 } (WP [.ref (ad (2000)), .int (pi), .int (o), .int (mi)] D cy z0 ad V) (vp_Si (fun r => r = xMember n P pl pi o mi)) 0 0 (fun _ => False) := by
  refine met_of (by decide) (Nat.le_of_ble_eq_true rfl) (fun p e s m below meth c hx hb hr hml hown hlocks hnm hK hz hW ls hl => ?_)
  have hown : s.vm.findClass RX7 = some m.cls := hown
  have hl : lv_has ls 4 [(0, .ref (ad (2000))), (1, .int (pi)), (2, .int (o)), (3, .int (mi))] := hl
  obtain ⟨ak, al, ab, aw, av, mem, kpt, fgt, cha, cos, fnd, isb, bat, kno, oob, ome, onu, oke, ksc, kme, kob, was, wwa, ⟨h2000, h2002, h2003, h2004, h2005, h2006, h2008, h2009, h2010, h2011, h2012, h2013, h2014, h2015, h2016, h2017, h2018, h2019, h2020, h2023, h2024, h2025, h2026, h2027⟩, ⟨hru, hlv⟩, hrp, hrs⟩ := id hM
  obtain ⟨hO, hkb, hgd⟩ := id hG
  obtain ⟨hn40, hk, hP1, hP4, hK20, hOp, hOs⟩ := id hO
  have hk12 := hk.1
  refine lv_aload_n hx hb dX7_member_0 rfl (lv_at hl 0 rfl) ?_
  refine lv_iload_n hx hb dX7_member_1 rfl (lv_at hl 1 rfl) ?_
  refine vp_callSi (va_Run.run (va_runV (As := [.int (pi)]) (rest := []) ⟨hx, hb, hml, hown, hK.1.use _⟩ (c_X7_isPlan l D cy z0 ad V n k P K ce h2000  (by omega) pi) (k_X7_X7_isPlan hK.1 rfl rfl ⟨Nat.le_of_ble_eq_true rfl, Nat.le_of_ble_eq_true rfl⟩) (preV hK hz hW h2000 rfl) rfl rfl hl.1 rfl (lv_room (Nat.le_of_ble_eq_true rfl)) dX7_member_2 ⟨Nat.le_of_ble_eq_true rfl, Nat.le_of_ble_eq_true rfl⟩)) (fun r2 h2 => ?_)
  have h2 : r2 = b2i (hasB P pi) := h2
  subst h2
  refine lv_if_eq (tgt := 46) hx hb dX7_member_5 (by decide) (fun c5 => ?_) (fun c5 => ?_)
  · skip
    have c5 := b2i_0.mp c5
    have hp : ¬ hasB P pi = true := by rw [c5]; decide
    refine lv_ldc (v := -1000000) hx hb hown (hK.1.use _ _ tw_601) dX7_member_46 ?_
    exact ri hx hb hr hlocks dX7_member_48 (by unfold xMember; rw [if_neg hp])
  · skip
    have c5 := b2i_1.mp c5
    have hp : hasB P pi = true := c5
    obtain ⟨epi, hpp⟩ := hasB_of hp (by omega)
    obtain ⟨pp, epp⟩ : ∃ y, y = pi.toNatClampNeg := ⟨_, rfl⟩
    rw [← epp] at epi hpp
    have hPq := hrp.1 pp hpp
    have hgp := hgd pp hpp
    obtain ⟨π, eπ⟩ : ∃ π, π = pl pp := ⟨_, rfl⟩
    rw [← eπ] at hPq hgp
    obtain ⟨hvw, hkp, hfg, ech, eco, efo, ebb, ebt, ekn, hhi⟩ := id hPq
    have hM0 := hgp.ok
    obtain ⟨hZ, hb60, hnx, hkn, hbk, hOk⟩ := id hgp.1
    have hq8_1 : (pi) = (nI pp) := epi
    rw [hq8_1] at hl
    refine lv_iload_n hx hb dX7_member_8 rfl (lv_at hl 2 rfl) ?_
    refine lv_iconst (v := nI 0) hx hb dX7_member_9 (by decide) ?_
    refine lv_aload_n hx hb dX7_member_10 rfl (lv_at hl 0 rfl) ?_
    refine g_X7_X7_objects hx hb hown hK hW h2000 dX7_member_11 ?_
    refine lv_iconst (v := nI 1) hx hb dX7_member_14 (by decide) ?_
    refine lv_isub hx hb dX7_member_15 ?_
    refine vp_callSi (va_Run.run (va_runS (As := [.int (o), .int (nI 0), .int ((nI n) - (nI 1))]) (rest := []) ⟨hx, hb, hml, hown, hK.1.use _⟩ (c_X7_in l D cy z0 ad V o (nI 0) (nI n - nI 1)) (k_X7_X7_in hK.1 rfl rfl ⟨Nat.le_of_ble_eq_true rfl, Nat.le_of_ble_eq_true rfl⟩) (preS hK hz hW) rfl rfl hl.1 rfl (lv_room (Nat.le_of_ble_eq_true rfl)) dX7_member_16 ⟨Nat.le_of_ble_eq_true rfl, Nat.le_of_ble_eq_true rfl⟩)) (fun r16 h16 => ?_)
    have h16 : r16 = b2i (wiB o (nI 0) (nI n - nI 1)) := h16
    subst h16
    refine lv_if_eq (tgt := 46) hx hb dX7_member_19 (by decide) (fun c19 => ?_) (fun c19 => ?_)
    · skip
      have c19 := b2i_0.mp c19
      have c19 : hasB n o = false := by rw [← wiB_has (by omega)]; exact c19
      refine lv_ldc (v := -1000000) hx hb hown (hK.1.use _ _ tw_601) dX7_member_46 ?_
      exact ri hx hb hr hlocks dX7_member_48 (by unfold xMember; rw [if_pos hp]; unfold rdM; rw [if_neg (by simp [c19])])
    · skip
      have c19 := b2i_1.mp c19
      have c19 : hasB n o = true := by rw [← wiB_has (by omega)]; exact c19
      obtain ⟨e_oo, h_oo⟩ := hasB_of c19 (by omega)
      obtain ⟨oo, d_oo⟩ : ∃ y, y = o.toNatClampNeg := ⟨_, rfl⟩
      rw [← d_oo] at e_oo h_oo
      refine lv_iload_n hx hb dX7_member_22 rfl (lv_at hl 3 rfl) ?_
      refine lv_iconst (v := nI 0) hx hb dX7_member_23 (by decide) ?_
      refine lv_iconst (v := nI 3) hx hb dX7_member_24 (by decide) ?_
      refine vp_callSi (va_Run.run (va_runS (As := [.int (mi), .int (nI 0), .int (nI 3)]) (rest := []) ⟨hx, hb, hml, hown, hK.1.use _⟩ (c_X7_in l D cy z0 ad V mi (nI 0) (nI 3)) (k_X7_X7_in hK.1 rfl rfl ⟨Nat.le_of_ble_eq_true rfl, Nat.le_of_ble_eq_true rfl⟩) (preS hK hz hW) rfl rfl hl.1 rfl (lv_room (Nat.le_of_ble_eq_true rfl)) dX7_member_25 ⟨Nat.le_of_ble_eq_true rfl, Nat.le_of_ble_eq_true rfl⟩)) (fun r25 h25 => ?_)
      have h25 : r25 = b2i (wiB mi (nI 0) (nI 3)) := h25
      subst h25
      refine lv_if_eq (tgt := 46) hx hb dX7_member_28 (by decide) (fun c28 => ?_) (fun c28 => ?_)
      · skip
        have c28 := b2i_0.mp c28
        refine lv_ldc (v := -1000000) hx hb hown (hK.1.use _ _ tw_601) dX7_member_46 ?_
        exact ri hx hb hr hlocks dX7_member_48 (by unfold xMember; rw [if_pos hp]; unfold rdM; rw [if_neg (by simp [c28])])
      · skip
        have c28 := b2i_1.mp c28
        obtain ⟨e_mm, h_mm⟩ := wiB_of (b := 3) c28 (by omega)
        obtain ⟨mm, d_mm⟩ : ∃ y, y = mi.toNatClampNeg := ⟨_, rfl⟩
        rw [← d_mm] at e_mm h_mm
        have hq31_2 : (o) = (nI oo) := e_oo
        rw [hq31_2] at hl
        have hq31_3 : (mi) = (nI mm) := e_mm
        rw [hq31_3] at hl
        refine lv_aload_n hx hb dX7_member_31 rfl (lv_at hl 0 rfl) ?_
        refine g_X7_X7_member hx hb hown hK hW h2000 dX7_member_32 ?_
        refine lv_aload_n hx hb dX7_member_35 rfl (lv_at hl 0 rfl) ?_
        refine lv_iload_n hx hb dX7_member_36 rfl (lv_at hl 1 rfl) ?_
        refine lv_iload_n hx hb dX7_member_37 rfl (lv_at hl 2 rfl) ?_
        refine lv_iload_n hx hb dX7_member_38 rfl (lv_at hl 3 rfl) ?_
        refine vp_callSi (va_Run.run (va_runV (As := [.int (nI pp), .int (nI oo), .int (nI mm)]) (rest := [.ref (ad (2008))]) ⟨hx, hb, hml, hown, hK.1.use _⟩ (c_X7_at l D cy z0 ad V pp oo mm) (k_X7_X7_at hK.1 rfl rfl ⟨Nat.le_of_ble_eq_true rfl, Nat.le_of_ble_eq_true rfl⟩) (preV hK hz hW h2000 rfl) rfl rfl hl.1 rfl (lv_room (Nat.le_of_ble_eq_true rfl)) dX7_member_39 ⟨Nat.le_of_ble_eq_true rfl, Nat.le_of_ble_eq_true rfl⟩)) (fun r39 h39 => ?_)
        have h39 : r39 = nI (160 * pp + 4 * oo + mm) := h39
        subst h39
        refine w_iald hx hb hK hW h2008 (j := 160 * pp + 4 * oo + mm) (rfl) (by omega) (by omega) dX7_member_42 ?_
        refine asi (y := pM π mm oo) (hvw mm (by omega) oo (by omega)) ?_
        refine lv_goto (tgt := 48) hx hb dX7_member_43 (by decide) ?_
        exact ri hx hb hr hlocks dX7_member_48 (by unfold xMember; rw [if_pos hp]; unfold rdM; rw [if_pos (by rw [c19, c28]; rfl), ← epp, ← eπ, ← d_oo, ← d_mm])

set_option maxHeartbeats 4000000 in
set_option maxRecDepth 100000 in
theorem c_X7_score (l : Launch) (D : va_G) (cy : Nat → ClassId) (z0 : Nat) (ad : Nat → Nat) (V : Nat → Option va_E) (c0 n k P K : Nat) (ce : Int32) (ρ : RuT) (pl : Nat → PlT) (sn : Nat → SnT) (hM : isM ad V cy n k P K ce ρ pl sn) (hG : gdX c0 n k P K ρ pl sn) (pi lv : Int32) : Met l yX7_score [Cond.code yX7_score cX7_score 3 (some .long)] { frames := 2, cells := 0, slots := 0, locals := 43 } (WP [.ref (ad (2000)), .int (pi), .int (lv)] D cy z0 ad V) (vp_Sl (fun r => r = xScore k P ρ pl pi lv)) 0 0 (fun _ => False) := by
  refine met_of (by decide) (Nat.le_of_ble_eq_true rfl) (fun p e s m below meth c hx hb hr hml hown hlocks hnm hK hz hW ls hl => ?_)
  have hown : s.vm.findClass RX7 = some m.cls := hown
  have hl : lv_has ls 3 [(0, .ref (ad (2000))), (1, .int (pi)), (2, .int (lv))] := hl
  obtain ⟨ak, al, ab, aw, av, mem, kpt, fgt, cha, cos, fnd, isb, bat, kno, oob, ome, onu, oke, ksc, kme, kob, was, wwa, ⟨h2000, h2002, h2003, h2004, h2005, h2006, h2008, h2009, h2010, h2011, h2012, h2013, h2014, h2015, h2016, h2017, h2018, h2019, h2020, h2023, h2024, h2025, h2026, h2027⟩, ⟨hru, hlv⟩, hrp, hrs⟩ := id hM
  obtain ⟨hO, hkb, hgd⟩ := id hG
  obtain ⟨hn40, hk, hP1, hP4, hK20, hOp, hOs⟩ := id hO
  have hk12 := hk.1
  refine lv_aload_n hx hb dX7_score_0 rfl (lv_at hl 0 rfl) ?_
  refine lv_iload_n hx hb dX7_score_1 rfl (lv_at hl 1 rfl) ?_
  refine vp_callSi (va_Run.run (va_runV (As := [.int (pi)]) (rest := []) ⟨hx, hb, hml, hown, hK.1.use _⟩ (c_X7_isPlan l D cy z0 ad V n k P K ce h2000  (by omega) pi) (k_X7_X7_isPlan hK.1 rfl rfl ⟨Nat.le_of_ble_eq_true rfl, Nat.le_of_ble_eq_true rfl⟩) (preV hK hz hW h2000 rfl) rfl rfl hl.1 rfl (lv_room (Nat.le_of_ble_eq_true rfl)) dX7_score_2 ⟨Nat.le_of_ble_eq_true rfl, Nat.le_of_ble_eq_true rfl⟩)) (fun r2 h2 => ?_)
  have h2 : r2 = b2i (hasB P pi) := h2
  subst h2
  refine lv_if_eq (tgt := 26) hx hb dX7_score_5 (by decide) (fun c5 => ?_) (fun c5 => ?_)
  · skip
    have c5 := b2i_0.mp c5
    have hp : ¬ hasB P pi = true := by rw [c5]; decide
    refine lv_ldc2 (v := -1) hx hb hown (hK.1.use _ _ tw_655) dX7_score_26 ?_
    exact rl hx hb hr hlocks dX7_score_29 (by
      unfold xScore
      first
        | (rw [if_neg (fun q => hp q.1)]; done)
        | (rw [if_neg (fun q => absurd (c14.symm.trans q.2) (by decide))]; done)
        | (rw [if_pos ⟨hp, c14⟩, ← epp, ← eπ]; exact scr_eq k hlv hkp))
  · skip
    have c5 := b2i_1.mp c5
    have hp : hasB P pi = true := c5
    obtain ⟨epi, hpp⟩ := hasB_of hp (by omega)
    obtain ⟨pp, epp⟩ : ∃ y, y = pi.toNatClampNeg := ⟨_, rfl⟩
    rw [← epp] at epi hpp
    have hPq := hrp.1 pp hpp
    have hgp := hgd pp hpp
    obtain ⟨π, eπ⟩ : ∃ π, π = pl pp := ⟨_, rfl⟩
    rw [← eπ] at hPq hgp
    obtain ⟨hvw, hkp, hfg, ech, eco, efo, ebb, ebt, ekn, hhi⟩ := id hPq
    have hM0 := hgp.ok
    obtain ⟨hZ, hb60, hnx, hkn, hbk, hOk⟩ := id hgp.1
    have hq8_1 : (pi) = (nI pp) := epi
    rw [hq8_1] at hl
    refine lv_iload_n hx hb dX7_score_8 rfl (lv_at hl 2 rfl) ?_
    refine lv_iconst (v := nI 0) hx hb dX7_score_9 (by decide) ?_
    refine lv_iconst (v := nI 2) hx hb dX7_score_10 (by decide) ?_
    refine vp_callSi (va_Run.run (va_runS (As := [.int (lv), .int (nI 0), .int (nI 2)]) (rest := []) ⟨hx, hb, hml, hown, hK.1.use _⟩ (c_X7_in l D cy z0 ad V lv (nI 0) (nI 2)) (k_X7_X7_in hK.1 rfl rfl ⟨Nat.le_of_ble_eq_true rfl, Nat.le_of_ble_eq_true rfl⟩) (preS hK hz hW) rfl rfl hl.1 rfl (lv_room (Nat.le_of_ble_eq_true rfl)) dX7_score_11 ⟨Nat.le_of_ble_eq_true rfl, Nat.le_of_ble_eq_true rfl⟩)) (fun r11 h11 => ?_)
    have h11 : r11 = b2i (wiB lv (nI 0) (nI 2)) := h11
    subst h11
    refine lv_if_eq (tgt := 26) hx hb dX7_score_14 (by decide) (fun c14 => ?_) (fun c14 => ?_)
    · skip
      have c14 := b2i_0.mp c14
      refine lv_ldc2 (v := -1) hx hb hown (hK.1.use _ _ tw_655) dX7_score_26 ?_
      exact rl hx hb hr hlocks dX7_score_29 (by
      unfold xScore
      first
        | (rw [if_neg (fun q => hp q.1)]; done)
        | (rw [if_neg (fun q => absurd (c14.symm.trans q.2) (by decide))]; done)
        | (rw [if_pos ⟨hp, c14⟩, ← epp, ← eπ]; exact scr_eq k hlv hkp))
    · skip
      have c14 := b2i_1.mp c14
      refine lv_aload_n hx hb dX7_score_17 rfl (lv_at hl 0 rfl) ?_
      refine lv_iload_n hx hb dX7_score_18 rfl (lv_at hl 1 rfl) ?_
      refine lv_iload_n hx hb dX7_score_19 rfl (lv_at hl 2 rfl) ?_
      refine vp_callSl (va_Run.run (va_runV (As := [.int (nI pp), .int (lv)]) (rest := []) ⟨hx, hb, hml, hown, hK.1.use _⟩ (c_X7_scoreOf l D cy z0 ad V n k P K ce h2000 av h2006 kpt h2009 hk12 pp (by omega) lv) (k_X7_X7_scoreOf hK.1 rfl rfl ⟨Nat.le_of_ble_eq_true rfl, Nat.le_of_ble_eq_true rfl⟩) (preV hK hz hW h2000 rfl) rfl rfl hl.1 rfl (lv_room (Nat.le_of_ble_eq_true rfl)) dX7_score_20 ⟨Nat.le_of_ble_eq_true rfl, Nat.le_of_ble_eq_true rfl⟩)) (fun r20 h20 => ?_)
      have h20 : r20 = scR av kpt pp lv k := h20
      subst h20
      refine lv_goto (tgt := 29) hx hb dX7_score_23 (by decide) ?_
      exact rl hx hb hr hlocks dX7_score_29 (by
      unfold xScore
      first
        | (rw [if_neg (fun q => hp q.1)]; done)
        | (rw [if_neg (fun q => absurd (c14.symm.trans q.2) (by decide))]; done)
        | (rw [if_pos ⟨hp, c14⟩, ← epp, ← eπ]; exact scr_eq k hlv hkp))

set_option maxHeartbeats 4000000 in
set_option maxRecDepth 100000 in
theorem c_X7_worth (l : Launch) (D : va_G) (cy : Nat → ClassId) (z0 : Nat) (ad : Nat → Nat) (V : Nat → Option va_E) (c0 n k P K : Nat) (ce : Int32) (ρ : RuT) (pl : Nat → PlT) (sn : Nat → SnT) (hM : isM ad V cy n k P K ce ρ pl sn) (hG : gdX c0 n k P K ρ pl sn) (pi ri how : Int32) : Met l yX7_worth [Cond.code yX7_worth cX7_worth 4 (some .long)] { frames := 2, cells := 0, slots := 0, locals := 57 } (WP [.ref (ad (2000)), .int (pi), .int (ri), .int (how)] D cy z0 ad V) (vp_Sl (fun r => r = xWorth n k P ρ pl pi ri how)) 0 0 (fun _ => False) := by
  refine met_of (by decide) (Nat.le_of_ble_eq_true rfl) (fun p e s m below meth c hx hb hr hml hown hlocks hnm hK hz hW ls hl => ?_)
  have hown : s.vm.findClass RX7 = some m.cls := hown
  have hl : lv_has ls 4 [(0, .ref (ad (2000))), (1, .int (pi)), (2, .int (ri)), (3, .int (how))] := hl
  obtain ⟨ak, al, ab, aw, av, mem, kpt, fgt, cha, cos, fnd, isb, bat, kno, oob, ome, onu, oke, ksc, kme, kob, was, wwa, ⟨h2000, h2002, h2003, h2004, h2005, h2006, h2008, h2009, h2010, h2011, h2012, h2013, h2014, h2015, h2016, h2017, h2018, h2019, h2020, h2023, h2024, h2025, h2026, h2027⟩, ⟨hru, hlv⟩, hrp, hrs⟩ := id hM
  obtain ⟨hO, hkb, hgd⟩ := id hG
  obtain ⟨hn40, hk, hP1, hP4, hK20, hOp, hOs⟩ := id hO
  have hk12 := hk.1
  refine lv_aload_n hx hb dX7_worth_0 rfl (lv_at hl 0 rfl) ?_
  refine lv_iload_n hx hb dX7_worth_1 rfl (lv_at hl 1 rfl) ?_
  refine vp_callSi (va_Run.run (va_runV (As := [.int (pi)]) (rest := []) ⟨hx, hb, hml, hown, hK.1.use _⟩ (c_X7_isPlan l D cy z0 ad V n k P K ce h2000  (by omega) pi) (k_X7_X7_isPlan hK.1 rfl rfl ⟨Nat.le_of_ble_eq_true rfl, Nat.le_of_ble_eq_true rfl⟩) (preV hK hz hW h2000 rfl) rfl rfl hl.1 rfl (lv_room (Nat.le_of_ble_eq_true rfl)) dX7_worth_2 ⟨Nat.le_of_ble_eq_true rfl, Nat.le_of_ble_eq_true rfl⟩)) (fun r2 h2 => ?_)
  have h2 : r2 = b2i (hasB P pi) := h2
  subst h2
  refine lv_if_eq (tgt := 25) hx hb dX7_worth_5 (by decide) (fun c5 => ?_) (fun c5 => ?_)
  · skip
    have c5 := b2i_0.mp c5
    have hp : ¬ hasB P pi = true := by rw [c5]; decide
    refine lv_ldc2 (v := -1) hx hb hown (hK.1.use _ _ tw_655) dX7_worth_25 ?_
    exact rl hx hb hr hlocks dX7_worth_28 (by
      unfold xWorth
      first
        | (rw [if_neg (fun q => hp q.1)]; done)
        | (rw [if_neg (fun q => absurd (c13.symm.trans q.2.1) (by decide))]; done)
        | (rw [if_neg (fun q => absurd (c22.symm.trans q.2.2) (by decide))]; done)
        | (rw [if_pos ⟨hp, c13, c22⟩, if_pos c30, ← epp, ← eπ, ← d_rr]; done)
        | (rw [if_pos ⟨hp, c13, c22⟩, if_neg c30, ← epp, ← eπ, ← d_rr]; done))
  · skip
    have c5 := b2i_1.mp c5
    have hp : hasB P pi = true := c5
    obtain ⟨epi, hpp⟩ := hasB_of hp (by omega)
    obtain ⟨pp, epp⟩ : ∃ y, y = pi.toNatClampNeg := ⟨_, rfl⟩
    rw [← epp] at epi hpp
    have hPq := hrp.1 pp hpp
    have hgp := hgd pp hpp
    obtain ⟨π, eπ⟩ : ∃ π, π = pl pp := ⟨_, rfl⟩
    rw [← eπ] at hPq hgp
    obtain ⟨hvw, hkp, hfg, ech, eco, efo, ebb, ebt, ekn, hhi⟩ := id hPq
    have hM0 := hgp.ok
    obtain ⟨hZ, hb60, hnx, hkn, hbk, hOk⟩ := id hgp.1
    have hq8_1 : (pi) = (nI pp) := epi
    rw [hq8_1] at hl
    refine lv_aload_n hx hb dX7_worth_8 rfl (lv_at hl 0 rfl) ?_
    refine lv_iload_n hx hb dX7_worth_9 rfl (lv_at hl 2 rfl) ?_
    refine vp_callSi (va_Run.run (va_runV (As := [.int (ri)]) (rest := []) ⟨hx, hb, hml, hown, hK.1.use _⟩ (c_X7_isRule l D cy z0 ad V n k P K ce h2000  (by omega) ri) (k_X7_X7_isRule hK.1 rfl rfl ⟨Nat.le_of_ble_eq_true rfl, Nat.le_of_ble_eq_true rfl⟩) (preV hK hz hW h2000 rfl) rfl rfl hl.1 rfl (lv_room (Nat.le_of_ble_eq_true rfl)) dX7_worth_10 ⟨Nat.le_of_ble_eq_true rfl, Nat.le_of_ble_eq_true rfl⟩)) (fun r10 h10 => ?_)
    have h10 : r10 = b2i (hasB k ri) := h10
    subst h10
    refine lv_if_eq (tgt := 25) hx hb dX7_worth_13 (by decide) (fun c13 => ?_) (fun c13 => ?_)
    · skip
      have c13 := b2i_0.mp c13
      refine lv_ldc2 (v := -1) hx hb hown (hK.1.use _ _ tw_655) dX7_worth_25 ?_
      exact rl hx hb hr hlocks dX7_worth_28 (by
      unfold xWorth
      first
        | (rw [if_neg (fun q => hp q.1)]; done)
        | (rw [if_neg (fun q => absurd (c13.symm.trans q.2.1) (by decide))]; done)
        | (rw [if_neg (fun q => absurd (c22.symm.trans q.2.2) (by decide))]; done)
        | (rw [if_pos ⟨hp, c13, c22⟩, if_pos c30, ← epp, ← eπ, ← d_rr]; done)
        | (rw [if_pos ⟨hp, c13, c22⟩, if_neg c30, ← epp, ← eπ, ← d_rr]; done))
    · skip
      have c13 := b2i_1.mp c13
      obtain ⟨e_rr, h_rr⟩ := hasB_of c13 (by omega)
      obtain ⟨rr, d_rr⟩ : ∃ y, y = ri.toNatClampNeg := ⟨_, rfl⟩
      rw [← d_rr] at e_rr h_rr
      have hq16_2 : (ri) = (nI rr) := e_rr
      rw [hq16_2] at hl
      refine lv_iload_n hx hb dX7_worth_16 rfl (lv_at hl 3 rfl) ?_
      refine lv_iconst (v := nI 0) hx hb dX7_worth_17 (by decide) ?_
      refine lv_iconst (v := nI 1) hx hb dX7_worth_18 (by decide) ?_
      refine vp_callSi (va_Run.run (va_runS (As := [.int (how), .int (nI 0), .int (nI 1)]) (rest := []) ⟨hx, hb, hml, hown, hK.1.use _⟩ (c_X7_in l D cy z0 ad V how (nI 0) (nI 1)) (k_X7_X7_in hK.1 rfl rfl ⟨Nat.le_of_ble_eq_true rfl, Nat.le_of_ble_eq_true rfl⟩) (preS hK hz hW) rfl rfl hl.1 rfl (lv_room (Nat.le_of_ble_eq_true rfl)) dX7_worth_19 ⟨Nat.le_of_ble_eq_true rfl, Nat.le_of_ble_eq_true rfl⟩)) (fun r19 h19 => ?_)
      have h19 : r19 = b2i (wiB how (nI 0) (nI 1)) := h19
      subst h19
      refine lv_if_ne (tgt := 29) hx hb dX7_worth_22 (by decide) (fun c22 => ?_) (fun c22 => ?_)
      · skip
        have c22 := b2i_1.mp c22
        refine lv_iload_n hx hb dX7_worth_29 rfl (lv_at hl 3 rfl) ?_
        refine lv_if_ne (tgt := 47) hx hb dX7_worth_30 (by decide) (fun c30 => ?_) (fun c30 => ?_)
        · skip
          refine lv_aload_n hx hb dX7_worth_47 rfl (lv_at hl 0 rfl) ?_
          refine lv_iload_n hx hb dX7_worth_48 rfl (lv_at hl 1 rfl) ?_
          refine lv_iload_n hx hb dX7_worth_49 rfl (lv_at hl 2 rfl) ?_
          refine vp_callSl (va_Run.run (va_runV (As := [.int (nI pp), .int (nI rr)]) (rest := []) ⟨hx, hb, hml, hown, hK.1.use _⟩ (c_X7_worthP l D cy z0 ad V n k P K ce h2000 ak h2002 al h2003 ab h2004 aw h2005 mem h2008 hn40 pp (by omega) ρ ((pM π)) hvw hM0 rr (by have := hk.1; omega) (hk.2 rr (by omega)) (hkb rr (by omega)) (hru rr (by omega))) (k_X7_X7_worthOf hK.1 rfl rfl ⟨Nat.le_of_ble_eq_true rfl, Nat.le_of_ble_eq_true rfl⟩) (preV hK hz hW h2000 rfl) rfl rfl hl.1 rfl (lv_room (Nat.le_of_ble_eq_true rfl)) dX7_worth_50 ⟨Nat.le_of_ble_eq_true rfl, Nat.le_of_ble_eq_true rfl⟩)) (fun r50 h50 => ?_)
          have h50 : r50 = wthR ρ rr ((pM π)) n := h50
          subst h50
          exact rl hx hb hr hlocks dX7_worth_53 (by
      unfold xWorth
      first
        | (rw [if_neg (fun q => hp q.1)]; done)
        | (rw [if_neg (fun q => absurd (c13.symm.trans q.2.1) (by decide))]; done)
        | (rw [if_neg (fun q => absurd (c22.symm.trans q.2.2) (by decide))]; done)
        | (rw [if_pos ⟨hp, c13, c22⟩, if_pos c30, ← epp, ← eπ, ← d_rr]; done)
        | (rw [if_pos ⟨hp, c13, c22⟩, if_neg c30, ← epp, ← eπ, ← d_rr]; done))
        · skip
          refine lv_aload_n hx hb dX7_worth_33 rfl (lv_at hl 0 rfl) ?_
          refine g_X7_X7_kept hx hb hown hK hW h2000 dX7_worth_34 ?_
          refine lv_bipush (v := nI 12) hx hb dX7_worth_37 (by decide) ?_
          refine lv_iload_n hx hb dX7_worth_39 rfl (lv_at hl 1 rfl) ?_
          refine lv_imul hx hb dX7_worth_40 ?_
          refine asi (y := nI (12 * pp)) (pk_mul _ _) ?_
          refine lv_iload_n hx hb dX7_worth_41 rfl (lv_at hl 2 rfl) ?_
          refine lv_iadd hx hb dX7_worth_42 ?_
          refine asi (y := nI ((12 * pp) + rr)) (nI_add _ _) ?_
          refine w_lald hx hb hK hW h2009 (j := (12 * pp) + rr) (rfl) (by omega) (by omega) dX7_worth_43 ?_
          refine asl (y := pK π rr) (hkp rr h_rr) ?_
          refine lv_goto (tgt := 53) hx hb dX7_worth_44 (by decide) ?_
          exact rl hx hb hr hlocks dX7_worth_53 (by
      unfold xWorth
      first
        | (rw [if_neg (fun q => hp q.1)]; done)
        | (rw [if_neg (fun q => absurd (c13.symm.trans q.2.1) (by decide))]; done)
        | (rw [if_neg (fun q => absurd (c22.symm.trans q.2.2) (by decide))]; done)
        | (rw [if_pos ⟨hp, c13, c22⟩, if_pos c30, ← epp, ← eπ, ← d_rr]; done)
        | (rw [if_pos ⟨hp, c13, c22⟩, if_neg c30, ← epp, ← eπ, ← d_rr]; done))
      · skip
        have c22 := b2i_0.mp c22
        refine lv_ldc2 (v := -1) hx hb hown (hK.1.use _ _ tw_655) dX7_worth_25 ?_
        exact rl hx hb hr hlocks dX7_worth_28 (by
      unfold xWorth
      first
        | (rw [if_neg (fun q => hp q.1)]; done)
        | (rw [if_neg (fun q => absurd (c13.symm.trans q.2.1) (by decide))]; done)
        | (rw [if_neg (fun q => absurd (c22.symm.trans q.2.2) (by decide))]; done)
        | (rw [if_pos ⟨hp, c13, c22⟩, if_pos c30, ← epp, ← eπ, ← d_rr]; done)
        | (rw [if_pos ⟨hp, c13, c22⟩, if_neg c30, ← epp, ← eπ, ← d_rr]; done))

set_option maxHeartbeats 4000000 in
set_option maxRecDepth 100000 in
theorem c_X7_check (l : Launch) (D : va_G) (cy : Nat → ClassId) (z0 : Nat) (ad : Nat → Nat) (V : Nat → Option va_E) (c0 n k P K : Nat) (ce : Int32) (ρ : RuT) (pl : Nat → PlT) (sn : Nat → SnT) (hM : isM ad V cy n k P K ce ρ pl sn) (hG : gdX c0 n k P K ρ pl sn) (pi : Int32) : Met l yX7_check [Cond.code yX7_check cX7_check 2 (some .int)] { frames := 3, cells := 0, slots := 0, locals := 79 } (WP [.ref (ad (2000)), .int (pi)] D cy z0 ad V) (vp_Si (fun r => r = xCheck n k P ρ pl pi)) 0 0 (fun _ => False) := by
  refine met_of (by decide) (Nat.le_of_ble_eq_true rfl) (fun p e s m below meth c hx hb hr hml hown hlocks hnm hK hz hW ls hl => ?_)
  have hown : s.vm.findClass RX7 = some m.cls := hown
  have hl : lv_has ls 2 [(0, .ref (ad (2000))), (1, .int (pi))] := hl
  obtain ⟨ak, al, ab, aw, av, mem, kpt, fgt, cha, cos, fnd, isb, bat, kno, oob, ome, onu, oke, ksc, kme, kob, was, wwa, ⟨h2000, h2002, h2003, h2004, h2005, h2006, h2008, h2009, h2010, h2011, h2012, h2013, h2014, h2015, h2016, h2017, h2018, h2019, h2020, h2023, h2024, h2025, h2026, h2027⟩, ⟨hru, hlv⟩, hrp, hrs⟩ := id hM
  obtain ⟨hO, hkb, hgd⟩ := id hG
  obtain ⟨hn40, hk, hP1, hP4, hK20, hOp, hOs⟩ := id hO
  have hk12 := hk.1
  refine lv_aload_n hx hb dX7_check_0 rfl (lv_at hl 0 rfl) ?_
  refine lv_iload_n hx hb dX7_check_1 rfl (lv_at hl 1 rfl) ?_
  refine vp_callSi (va_Run.run (va_runV (As := [.int (pi)]) (rest := []) ⟨hx, hb, hml, hown, hK.1.use _⟩ (c_X7_isPlan l D cy z0 ad V n k P K ce h2000  (by omega) pi) (k_X7_X7_isPlan hK.1 rfl rfl ⟨Nat.le_of_ble_eq_true rfl, Nat.le_of_ble_eq_true rfl⟩) (preV hK hz hW h2000 rfl) rfl rfl hl.1 rfl (lv_room (Nat.le_of_ble_eq_true rfl)) dX7_check_2 ⟨Nat.le_of_ble_eq_true rfl, Nat.le_of_ble_eq_true rfl⟩)) (fun r2 h2 => ?_)
  have h2 : r2 = b2i (hasB P pi) := h2
  subst h2
  refine lv_if_eq (tgt := 16) hx hb dX7_check_5 (by decide) (fun c5 => ?_) (fun c5 => ?_)
  · skip
    have c5 := b2i_0.mp c5
    have hp : ¬ hasB P pi = true := by rw [c5]; decide
    refine lv_iconst (v := -1) hx hb dX7_check_16 (by decide) ?_
    exact ri hx hb hr hlocks dX7_check_17 (by
      unfold xCheck
      first
        | (rw [if_neg hp]; done)
        | (rw [if_pos hp, ← epp, ← eπ]; exact fl_c hkp))
  · skip
    have c5 := b2i_1.mp c5
    have hp : hasB P pi = true := c5
    obtain ⟨epi, hpp⟩ := hasB_of hp (by omega)
    obtain ⟨pp, epp⟩ : ∃ y, y = pi.toNatClampNeg := ⟨_, rfl⟩
    rw [← epp] at epi hpp
    have hPq := hrp.1 pp hpp
    have hgp := hgd pp hpp
    obtain ⟨π, eπ⟩ : ∃ π, π = pl pp := ⟨_, rfl⟩
    rw [← eπ] at hPq hgp
    obtain ⟨hvw, hkp, hfg, ech, eco, efo, ebb, ebt, ekn, hhi⟩ := id hPq
    have hM0 := hgp.ok
    obtain ⟨hZ, hb60, hnx, hkn, hbk, hOk⟩ := id hgp.1
    have hq8_1 : (pi) = (nI pp) := epi
    rw [hq8_1] at hl
    refine lv_aload_n hx hb dX7_check_8 rfl (lv_at hl 0 rfl) ?_
    refine lv_iload_n hx hb dX7_check_9 rfl (lv_at hl 1 rfl) ?_
    refine vp_callSi (va_Run.run (va_runV (As := [.int (nI pp)]) (rest := []) ⟨hx, hb, hml, hown, hK.1.use _⟩ (c_X7_firstFalse l D cy z0 ad V n k P K ce h2000 ak h2002 al h2003 ab h2004 aw h2005 mem h2008 kpt h2009 hn40 pp (by omega) ρ hk hkb hru (pM π) hvw hM0) (k_X7_X7_firstFalse hK.1 rfl rfl ⟨Nat.le_of_ble_eq_true rfl, Nat.le_of_ble_eq_true rfl⟩) (preV hK hz hW h2000 rfl) rfl rfl hl.1 rfl (lv_room (Nat.le_of_ble_eq_true rfl)) dX7_check_10 ⟨Nat.le_of_ble_eq_true rfl, Nat.le_of_ble_eq_true rfl⟩)) (fun r10 h10 => ?_)
    have h10 : r10 = ffI (flB ρ (pM π) n (fun r => kpt (12 * pp + r))) k 0 := h10
    subst h10
    refine lv_goto (tgt := 17) hx hb dX7_check_13 (by decide) ?_
    exact ri hx hb hr hlocks dX7_check_17 (by
      unfold xCheck
      first
        | (rw [if_neg hp]; done)
        | (rw [if_pos hp, ← epp, ← eπ]; exact fl_c hkp))

set_option maxHeartbeats 4000000 in
set_option maxRecDepth 100000 in
theorem c_X7_every (l : Launch) (D : va_G) (cy : Nat → ClassId) (z0 : Nat) (ad : Nat → Nat) (V : Nat → Option va_E) (c0 n k P K : Nat) (ce : Int32) (ρ : RuT) (pl : Nat → PlT) (sn : Nat → SnT) (hM : isM ad V cy n k P K ce ρ pl sn) (hG : gdX c0 n k P K ρ pl sn) (x : Int32) : Met l yX7_every [Cond.code yX7_every cX7_every 3 (some .int)] { frames := 1, cells := 0, slots := 0, locals := 22 } (WP [.ref (ad (2000)), .int (x)] D cy z0 ad V) (va_Qi (fun r u => r = (if wiB x (nI 0) (nI 100) = true then ce else -1) ∧ u.1 = ad ∧ isM ad u.2 cy n k P K (if wiB x (nI 0) (nI 100) = true then x else ce) ρ pl sn ∧ ∀ L, L < 2000 → u.2 L = V L) (WB D z0) (AA z0)) 0 0 (AA z0) := by
  refine met_of (by decide) (Nat.le_of_ble_eq_true rfl) (fun p e s m below meth c hx hb hr hml hown hlocks hnm hK hz hW ls hl => ?_)
  have hown : s.vm.findClass RX7 = some m.cls := hown
  have hl : lv_has ls 3 [(0, .ref (ad (2000))), (1, .int (x))] := hl
  have hS : va_S (AA z0) s.heap s.heap [] := va_S.rf
  obtain ⟨ak, al, ab, aw, av, mem, kpt, fgt, cha, cos, fnd, isb, bat, kno, oob, ome, onu, oke, ksc, kme, kob, was, wwa, ⟨h2000, h2002, h2003, h2004, h2005, h2006, h2008, h2009, h2010, h2011, h2012, h2013, h2014, h2015, h2016, h2017, h2018, h2019, h2020, h2023, h2024, h2025, h2026, h2027⟩, ⟨hru, hlv⟩, hrp, hrs⟩ := id hM
  obtain ⟨hO, hkb, hgd⟩ := id hG
  obtain ⟨hn40, hk, hP1, hP4, hK20, hOp, hOs⟩ := id hO
  have hk12 := hk.1
  refine lv_iload_n hx hb dX7_every_0 rfl (lv_at hl 1 rfl) ?_
  refine lv_iconst (v := nI 0) hx hb dX7_every_1 (by decide) ?_
  refine lv_bipush (v := nI 100) hx hb dX7_every_2 (by decide) ?_
  refine vp_callSi (va_Run.run (va_runS (As := [.int (x), .int (nI 0), .int (nI 100)]) (rest := []) ⟨hx, hb, hml, hown, hK.1.use _⟩ (c_X7_in l D cy z0 ad V x (nI 0) (nI 100)) (k_X7_X7_in hK.1 rfl rfl ⟨Nat.le_of_ble_eq_true rfl, Nat.le_of_ble_eq_true rfl⟩) (preS hK hz hW) rfl rfl hl.1 rfl (lv_room (Nat.le_of_ble_eq_true rfl)) dX7_every_4 ⟨Nat.le_of_ble_eq_true rfl, Nat.le_of_ble_eq_true rfl⟩)) (fun r4 h4 => ?_)
  have h4 : r4 = b2i (wiB x (nI 0) (nI 100)) := h4
  subst h4
  refine lv_if_ne (tgt := 12) hx hb dX7_every_7 (by decide) (fun c7 => ?_) (fun c7 => ?_)
  · skip
    have c7 := b2i_1.mp c7
    refine lv_aload_n hx hb dX7_every_12 rfl (lv_at hl 0 rfl) ?_
    refine g_X7_X7_every hx hb hown hK hW h2000 dX7_every_13 ?_
    refine lv_istore_n (lv' := [(2, .int (ce)), (0, .ref (ad (2000))), (1, .int (x))]) hx hb dX7_every_16 rfl hl (by decide) rfl (fun ls hl => ?_)
    refine lv_aload_n hx hb dX7_every_17 rfl (lv_at hl 1 rfl) ?_
    refine lv_iload_n hx hb dX7_every_18 rfl (lv_at hl 2 rfl) ?_
    refine p_X7_X7_every hx hb hown hK hW hS h2000 dX7_every_19 (fun H locs hW hS => ?_)
    obtain ⟨V1, eV1⟩ : ∃ x9, x9 = va_up V (2000) (some (.inr (7, [.int (nI n), .int (nI k), .ref (ad (2002)), .ref (ad (2003)), .ref (ad (2004)), .ref (ad (2005)), .ref (ad (2006)), .int (nI P), .ref (ad (2008)), .ref (ad (2009)), .ref (ad (2010)), .ref (ad (2011)), .ref (ad (2012)), .ref (ad (2013)), .ref (ad (2014)), .ref (ad (2015)), .ref (ad (2016)), .ref (ad (2017)), .ref (ad (2018)), .ref (ad (2019)), .ref (ad (2020)), .int (x), .int (nI K), .ref (ad (2023)), .ref (ad (2024)), .ref (ad (2025)), .ref (ad (2026)), .ref (ad (2027))]))) := ⟨_, rfl⟩
    rw [← eV1] at hW
    have h2002 : V1 (2002) = some (.inl (cy 0, 12, .inl ak)) := by rw [eV1, va_up_ne _ _ (by omega)]; exact h2002
    have h2003 : V1 (2003) = some (.inl (cy 0, 12, .inl al)) := by rw [eV1, va_up_ne _ _ (by omega)]; exact h2003
    have h2004 : V1 (2004) = some (.inl (cy 0, 12, .inl ab)) := by rw [eV1, va_up_ne _ _ (by omega)]; exact h2004
    have h2005 : V1 (2005) = some (.inl (cy 0, 12, .inl aw)) := by rw [eV1, va_up_ne _ _ (by omega)]; exact h2005
    have h2006 : V1 (2006) = some (.inl (cy 0, 12, .inl av)) := by rw [eV1, va_up_ne _ _ (by omega)]; exact h2006
    have h2008 : V1 (2008) = some (.inl (cy 0, 640, .inl mem)) := by rw [eV1, va_up_ne _ _ (by omega)]; exact h2008
    have h2009 : V1 (2009) = some (.inl (cy 1, 48, .inr (.inl kpt))) := by rw [eV1, va_up_ne _ _ (by omega)]; exact h2009
    have h2010 : V1 (2010) = some (.inl (cy 2, 48, .inl (fun r => b2i (fgt r)))) := by rw [eV1, va_up_ne _ _ (by omega)]; exact h2010
    have h2011 : V1 (2011) = some (.inl (cy 0, 4, .inl cha)) := by rw [eV1, va_up_ne _ _ (by omega)]; exact h2011
    have h2012 : V1 (2012) = some (.inl (cy 0, 4, .inl cos)) := by rw [eV1, va_up_ne _ _ (by omega)]; exact h2012
    have h2013 : V1 (2013) = some (.inl (cy 0, 4, .inl fnd)) := by rw [eV1, va_up_ne _ _ (by omega)]; exact h2013
    have h2014 : V1 (2014) = some (.inl (cy 2, 4, .inl (fun r => b2i (isb r)))) := by rw [eV1, va_up_ne _ _ (by omega)]; exact h2014
    have h2015 : V1 (2015) = some (.inl (cy 0, 4, .inl bat)) := by rw [eV1, va_up_ne _ _ (by omega)]; exact h2015
    have h2016 : V1 (2016) = some (.inl (cy 0, 4, .inl kno)) := by rw [eV1, va_up_ne _ _ (by omega)]; exact h2016
    have h2017 : V1 (2017) = some (.inl (cy 0, 240, .inl oob)) := by rw [eV1, va_up_ne _ _ (by omega)]; exact h2017
    have h2018 : V1 (2018) = some (.inl (cy 0, 240, .inl ome)) := by rw [eV1, va_up_ne _ _ (by omega)]; exact h2018
    have h2019 : V1 (2019) = some (.inl (cy 0, 240, .inl onu)) := by rw [eV1, va_up_ne _ _ (by omega)]; exact h2019
    have h2020 : V1 (2020) = some (.inl (cy 1, 2880, .inr (.inl oke))) := by rw [eV1, va_up_ne _ _ (by omega)]; exact h2020
    have h2023 : V1 (2023) = some (.inl (cy 1, 60, .inr (.inl ksc))) := by rw [eV1, va_up_ne _ _ (by omega)]; exact h2023
    have h2024 : V1 (2024) = some (.inl (cy 0, 3200, .inl kme)) := by rw [eV1, va_up_ne _ _ (by omega)]; exact h2024
    have h2025 : V1 (2025) = some (.inl (cy 0, 20, .inl kob)) := by rw [eV1, va_up_ne _ _ (by omega)]; exact h2025
    have h2026 : V1 (2026) = some (.inl (cy 0, 160, .inl was)) := by rw [eV1, va_up_ne _ _ (by omega)]; exact h2026
    have h2027 : V1 (2027) = some (.inl (cy 1, 12, .inr (.inl wwa))) := by rw [eV1, va_up_ne _ _ (by omega)]; exact h2027
    have h2000 : V1 (2000) = some (.inr (7, [.int (nI n), .int (nI k), .ref (ad (2002)), .ref (ad (2003)), .ref (ad (2004)), .ref (ad (2005)), .ref (ad (2006)), .int (nI P), .ref (ad (2008)), .ref (ad (2009)), .ref (ad (2010)), .ref (ad (2011)), .ref (ad (2012)), .ref (ad (2013)), .ref (ad (2014)), .ref (ad (2015)), .ref (ad (2016)), .ref (ad (2017)), .ref (ad (2018)), .ref (ad (2019)), .ref (ad (2020)), .int (x), .int (nI K), .ref (ad (2023)), .ref (ad (2024)), .ref (ad (2025)), .ref (ad (2026)), .ref (ad (2027))])) := by rw [eV1, va_up_self]
    refine lv_iload_n hx hb dX7_every_22 rfl (lv_at hl 0 rfl) ?_
    exact rwi hx hb hr hlocks dX7_every_23 hW hS (⟨by rw [c7]; rfl, rfl, by rw [c7]; exact ⟨_, _, _, _, _, _, _, _, _, _, _, _, _, _, _, _, _, _, _, _, _, _, _, ⟨h2000, h2002, h2003, h2004, h2005, h2006, h2008, h2009, h2010, h2011, h2012, h2013, h2014, h2015, h2016, h2017, h2018, h2019, h2020, h2023, h2024, h2025, h2026, h2027⟩, ⟨hru, hlv⟩, hrp, hrs⟩, fun L hL => by show V1 L = _; rw [eV1, va_up_ne _ _ (by omega)]⟩)
  · skip
    have c7 := b2i_0.mp c7
    refine lv_iconst (v := -1) hx hb dX7_every_10 (by decide) ?_
    exact rwi hx hb hr hlocks dX7_every_11 hW hS (⟨by rw [c7]; rfl, rfl, by rw [c7]; exact hM, fun L _ => rfl⟩)

set_option maxHeartbeats 4000000 in
set_option maxRecDepth 100000 in
theorem c_X7_kept (l : Launch) (D : va_G) (cy : Nat → ClassId) (z0 : Nat) (ad : Nat → Nat) (V : Nat → Option va_E) (c0 n k P K : Nat) (ce : Int32) (ρ : RuT) (pl : Nat → PlT) (sn : Nat → SnT) (hM : isM ad V cy n k P K ce ρ pl sn) (hG : gdX c0 n k P K ρ pl sn) (x lv : Int32) : Met l yX7_kept [Cond.code yX7_kept cX7_kept 3 (some .long)] { frames := 1, cells := 0, slots := 0, locals := 22 } (WP [.ref (ad (2000)), .int (x), .int (lv)] D cy z0 ad V) (vp_Sl (fun r => r = xKept K sn x lv)) 0 0 (fun _ => False) := by
  refine met_of (by decide) (Nat.le_of_ble_eq_true rfl) (fun p e s m below meth c hx hb hr hml hown hlocks hnm hK hz hW ls hl => ?_)
  have hown : s.vm.findClass RX7 = some m.cls := hown
  have hl : lv_has ls 3 [(0, .ref (ad (2000))), (1, .int (x)), (2, .int (lv))] := hl
  obtain ⟨ak, al, ab, aw, av, mem, kpt, fgt, cha, cos, fnd, isb, bat, kno, oob, ome, onu, oke, ksc, kme, kob, was, wwa, ⟨h2000, h2002, h2003, h2004, h2005, h2006, h2008, h2009, h2010, h2011, h2012, h2013, h2014, h2015, h2016, h2017, h2018, h2019, h2020, h2023, h2024, h2025, h2026, h2027⟩, ⟨hru, hlv⟩, hrp, hrs⟩ := id hM
  obtain ⟨hO, hkb, hgd⟩ := id hG
  obtain ⟨hn40, hk, hP1, hP4, hK20, hOp, hOs⟩ := id hO
  have hk12 := hk.1
  refine lv_iload_n hx hb dX7_kept_0 rfl (lv_at hl 1 rfl) ?_
  refine lv_iconst (v := nI 0) hx hb dX7_kept_1 (by decide) ?_
  refine lv_aload_n hx hb dX7_kept_2 rfl (lv_at hl 0 rfl) ?_
  refine g_X7_X7_keeps hx hb hown hK hW h2000 dX7_kept_3 ?_
  refine lv_iconst (v := nI 1) hx hb dX7_kept_6 (by decide) ?_
  refine lv_isub hx hb dX7_kept_7 ?_
  refine vp_callSi (va_Run.run (va_runS (As := [.int (x), .int (nI 0), .int ((nI K) - (nI 1))]) (rest := []) ⟨hx, hb, hml, hown, hK.1.use _⟩ (c_X7_in l D cy z0 ad V x (nI 0) (nI K - nI 1)) (k_X7_X7_in hK.1 rfl rfl ⟨Nat.le_of_ble_eq_true rfl, Nat.le_of_ble_eq_true rfl⟩) (preS hK hz hW) rfl rfl hl.1 rfl (lv_room (Nat.le_of_ble_eq_true rfl)) dX7_kept_8 ⟨Nat.le_of_ble_eq_true rfl, Nat.le_of_ble_eq_true rfl⟩)) (fun r8 h8 => ?_)
  have h8 : r8 = b2i (wiB x (nI 0) (nI K - nI 1)) := h8
  subst h8
  refine lv_if_eq (tgt := 36) hx hb dX7_kept_11 (by decide) (fun c11 => ?_) (fun c11 => ?_)
  · skip
    have c11 := b2i_0.mp c11
    have c11 : hasB K x = false := by rw [← wiB_has (by omega)]; exact c11
    refine lv_ldc2 (v := -1) hx hb hown (hK.1.use _ _ tw_655) dX7_kept_36 ?_
    exact rl hx hb hr hlocks dX7_kept_39 (by
      unfold xKept
      first
        | (rw [if_neg (fun q => absurd (c11.symm.trans q.1) (by decide))]; done)
        | (rw [if_neg (fun q => absurd (c20.symm.trans q.2) (by decide))]; done)
        | (rw [if_pos ⟨c11, c20⟩, ← d_xx, ← d_ll]; done))
  · skip
    have c11 := b2i_1.mp c11
    have c11 : hasB K x = true := by rw [← wiB_has (by omega)]; exact c11
    obtain ⟨e_xx, h_xx⟩ := hasB_of c11 (by omega)
    obtain ⟨xx, d_xx⟩ : ∃ y, y = x.toNatClampNeg := ⟨_, rfl⟩
    rw [← d_xx] at e_xx h_xx
    obtain ⟨es, em, ek⟩ := hrs xx h_xx
    have hq14_1 : (x) = (nI xx) := e_xx
    rw [hq14_1] at hl
    refine lv_iload_n hx hb dX7_kept_14 rfl (lv_at hl 2 rfl) ?_
    refine lv_iconst (v := nI 0) hx hb dX7_kept_15 (by decide) ?_
    refine lv_iconst (v := nI 2) hx hb dX7_kept_16 (by decide) ?_
    refine vp_callSi (va_Run.run (va_runS (As := [.int (lv), .int (nI 0), .int (nI 2)]) (rest := []) ⟨hx, hb, hml, hown, hK.1.use _⟩ (c_X7_in l D cy z0 ad V lv (nI 0) (nI 2)) (k_X7_X7_in hK.1 rfl rfl ⟨Nat.le_of_ble_eq_true rfl, Nat.le_of_ble_eq_true rfl⟩) (preS hK hz hW) rfl rfl hl.1 rfl (lv_room (Nat.le_of_ble_eq_true rfl)) dX7_kept_17 ⟨Nat.le_of_ble_eq_true rfl, Nat.le_of_ble_eq_true rfl⟩)) (fun r17 h17 => ?_)
    have h17 : r17 = b2i (wiB lv (nI 0) (nI 2)) := h17
    subst h17
    refine lv_if_eq (tgt := 36) hx hb dX7_kept_20 (by decide) (fun c20 => ?_) (fun c20 => ?_)
    · skip
      have c20 := b2i_0.mp c20
      refine lv_ldc2 (v := -1) hx hb hown (hK.1.use _ _ tw_655) dX7_kept_36 ?_
      exact rl hx hb hr hlocks dX7_kept_39 (by
      unfold xKept
      first
        | (rw [if_neg (fun q => absurd (c11.symm.trans q.1) (by decide))]; done)
        | (rw [if_neg (fun q => absurd (c20.symm.trans q.2) (by decide))]; done)
        | (rw [if_pos ⟨c11, c20⟩, ← d_xx, ← d_ll]; done))
    · skip
      have c20 := b2i_1.mp c20
      obtain ⟨e_ll, h_ll⟩ := wiB_of (b := 2) c20 (by omega)
      obtain ⟨ll, d_ll⟩ : ∃ y, y = lv.toNatClampNeg := ⟨_, rfl⟩
      rw [← d_ll] at e_ll h_ll
      have hq23_2 : (lv) = (nI ll) := e_ll
      rw [hq23_2] at hl
      refine lv_aload_n hx hb dX7_kept_23 rfl (lv_at hl 0 rfl) ?_
      refine g_X7_X7_keptScore hx hb hown hK hW h2000 dX7_kept_24 ?_
      refine lv_iconst (v := nI 3) hx hb dX7_kept_27 (by decide) ?_
      refine lv_iload_n hx hb dX7_kept_28 rfl (lv_at hl 1 rfl) ?_
      refine lv_imul hx hb dX7_kept_29 ?_
      refine asi (y := nI (3 * xx)) (pk_mul _ _) ?_
      refine lv_iload_n hx hb dX7_kept_30 rfl (lv_at hl 2 rfl) ?_
      refine lv_iadd hx hb dX7_kept_31 ?_
      refine asi (y := nI ((3 * xx) + ll)) (nI_add _ _) ?_
      refine w_lald hx hb hK hW h2023 (j := (3 * xx) + ll) (rfl) (by omega) (by omega) dX7_kept_32 ?_
      refine asl (y := (sn xx).2.2 ll) (ek ll (by omega)) ?_
      refine lv_goto (tgt := 39) hx hb dX7_kept_33 (by decide) ?_
      exact rl hx hb hr hlocks dX7_kept_39 (by
      unfold xKept
      first
        | (rw [if_neg (fun q => absurd (c11.symm.trans q.1) (by decide))]; done)
        | (rw [if_neg (fun q => absurd (c20.symm.trans q.2) (by decide))]; done)
        | (rw [if_pos ⟨c11, c20⟩, ← d_xx, ← d_ll]; done))

set_option maxHeartbeats 4000000 in
set_option maxRecDepth 100000 in
theorem c_X7_then (l : Launch) (D : va_G) (cy : Nat → ClassId) (z0 : Nat) (ad : Nat → Nat) (V : Nat → Option va_E) (c0 n k P K : Nat) (ce : Int32) (ρ : RuT) (pl : Nat → PlT) (sn : Nat → SnT) (hM : isM ad V cy n k P K ce ρ pl sn) (hG : gdX c0 n k P K ρ pl sn) (x o mi : Int32) : Met l yX7_then [Cond.code yX7_then cX7_then 4 (some .int)] { frames := 1, cells := 0, slots := 0, locals := 22 } (WP [.ref (ad (2000)), .int (x), .int (o), .int (mi)] D cy z0 ad V) (vp_Si (fun r => r = xThen K sn x o mi)) 0 0 (fun _ => False) := by
  refine met_of (by decide) (Nat.le_of_ble_eq_true rfl) (fun p e s m below meth c hx hb hr hml hown hlocks hnm hK hz hW ls hl => ?_)
  have hown : s.vm.findClass RX7 = some m.cls := hown
  have hl : lv_has ls 4 [(0, .ref (ad (2000))), (1, .int (x)), (2, .int (o)), (3, .int (mi))] := hl
  obtain ⟨ak, al, ab, aw, av, mem, kpt, fgt, cha, cos, fnd, isb, bat, kno, oob, ome, onu, oke, ksc, kme, kob, was, wwa, ⟨h2000, h2002, h2003, h2004, h2005, h2006, h2008, h2009, h2010, h2011, h2012, h2013, h2014, h2015, h2016, h2017, h2018, h2019, h2020, h2023, h2024, h2025, h2026, h2027⟩, ⟨hru, hlv⟩, hrp, hrs⟩ := id hM
  obtain ⟨hO, hkb, hgd⟩ := id hG
  obtain ⟨hn40, hk, hP1, hP4, hK20, hOp, hOs⟩ := id hO
  have hk12 := hk.1
  refine lv_iload_n hx hb dX7_then_0 rfl (lv_at hl 1 rfl) ?_
  refine lv_iconst (v := nI 0) hx hb dX7_then_1 (by decide) ?_
  refine lv_aload_n hx hb dX7_then_2 rfl (lv_at hl 0 rfl) ?_
  refine g_X7_X7_keeps hx hb hown hK hW h2000 dX7_then_3 ?_
  refine lv_iconst (v := nI 1) hx hb dX7_then_6 (by decide) ?_
  refine lv_isub hx hb dX7_then_7 ?_
  refine vp_callSi (va_Run.run (va_runS (As := [.int (x), .int (nI 0), .int ((nI K) - (nI 1))]) (rest := []) ⟨hx, hb, hml, hown, hK.1.use _⟩ (c_X7_in l D cy z0 ad V x (nI 0) (nI K - nI 1)) (k_X7_X7_in hK.1 rfl rfl ⟨Nat.le_of_ble_eq_true rfl, Nat.le_of_ble_eq_true rfl⟩) (preS hK hz hW) rfl rfl hl.1 rfl (lv_room (Nat.le_of_ble_eq_true rfl)) dX7_then_8 ⟨Nat.le_of_ble_eq_true rfl, Nat.le_of_ble_eq_true rfl⟩)) (fun r8 h8 => ?_)
  have h8 : r8 = b2i (wiB x (nI 0) (nI K - nI 1)) := h8
  subst h8
  refine lv_if_eq (tgt := 58) hx hb dX7_then_11 (by decide) (fun c11 => ?_) (fun c11 => ?_)
  · skip
    have c11 := b2i_0.mp c11
    have c11 : hasB K x = false := by rw [← wiB_has (by omega)]; exact c11
    refine lv_ldc (v := -1000000) hx hb hown (hK.1.use _ _ tw_601) dX7_then_58 ?_
    exact ri hx hb hr hlocks dX7_then_60 (by unfold xThen; rw [if_neg (by rw [c11]; decide)])
  · skip
    have c11 := b2i_1.mp c11
    have c11 : hasB K x = true := by rw [← wiB_has (by omega)]; exact c11
    obtain ⟨e_xx, h_xx⟩ := hasB_of c11 (by omega)
    obtain ⟨xx, d_xx⟩ : ∃ y, y = x.toNatClampNeg := ⟨_, rfl⟩
    rw [← d_xx] at e_xx h_xx
    obtain ⟨es, em, ek⟩ := hrs xx h_xx
    have hs40 := hOs xx h_xx
    have hq14_1 : (x) = (nI xx) := e_xx
    rw [hq14_1] at hl
    refine lv_iload_n hx hb dX7_then_14 rfl (lv_at hl 2 rfl) ?_
    refine lv_iconst (v := nI 0) hx hb dX7_then_15 (by decide) ?_
    refine lv_aload_n hx hb dX7_then_16 rfl (lv_at hl 0 rfl) ?_
    refine g_X7_X7_keptObjects hx hb hown hK hW h2000 dX7_then_17 ?_
    refine lv_iload_n hx hb dX7_then_20 rfl (lv_at hl 1 rfl) ?_
    refine w_iald hx hb hK hW h2025 (j := xx) (rfl) (by omega) (by omega) dX7_then_21 ?_
    refine asi (y := nI ((sn xx).1)) (es) ?_
    refine lv_iconst (v := nI 1) hx hb dX7_then_22 (by decide) ?_
    refine lv_isub hx hb dX7_then_23 ?_
    refine vp_callSi (va_Run.run (va_runS (As := [.int (o), .int (nI 0), .int ((nI ((sn xx).1)) - (nI 1))]) (rest := []) ⟨hx, hb, hml, hown, hK.1.use _⟩ (c_X7_in l D cy z0 ad V o (nI 0) (nI ((sn xx).1) - nI 1)) (k_X7_X7_in hK.1 rfl rfl ⟨Nat.le_of_ble_eq_true rfl, Nat.le_of_ble_eq_true rfl⟩) (preS hK hz hW) rfl rfl hl.1 rfl (lv_room (Nat.le_of_ble_eq_true rfl)) dX7_then_24 ⟨Nat.le_of_ble_eq_true rfl, Nat.le_of_ble_eq_true rfl⟩)) (fun r24 h24 => ?_)
    have h24 : r24 = b2i (wiB o (nI 0) (nI ((sn xx).1) - nI 1)) := h24
    subst h24
    refine lv_if_eq (tgt := 58) hx hb dX7_then_27 (by decide) (fun c27 => ?_) (fun c27 => ?_)
    · skip
      have c27 := b2i_0.mp c27
      have c27 : hasB (sn xx).1 o = false := by rw [← wiB_has (by omega)]; exact c27
      refine lv_ldc (v := -1000000) hx hb hown (hK.1.use _ _ tw_601) dX7_then_58 ?_
      exact ri hx hb hr hlocks dX7_then_60 (by unfold xThen; rw [if_pos c11, ← d_xx]; unfold rdM; rw [if_neg (by simp [c27])])
    · skip
      have c27 := b2i_1.mp c27
      have c27 : hasB (sn xx).1 o = true := by rw [← wiB_has (by omega)]; exact c27
      obtain ⟨e_oo, h_oo⟩ := hasB_of c27 (by omega)
      obtain ⟨oo, d_oo⟩ : ∃ y, y = o.toNatClampNeg := ⟨_, rfl⟩
      rw [← d_oo] at e_oo h_oo
      refine lv_iload_n hx hb dX7_then_30 rfl (lv_at hl 3 rfl) ?_
      refine lv_iconst (v := nI 0) hx hb dX7_then_31 (by decide) ?_
      refine lv_iconst (v := nI 3) hx hb dX7_then_32 (by decide) ?_
      refine vp_callSi (va_Run.run (va_runS (As := [.int (mi), .int (nI 0), .int (nI 3)]) (rest := []) ⟨hx, hb, hml, hown, hK.1.use _⟩ (c_X7_in l D cy z0 ad V mi (nI 0) (nI 3)) (k_X7_X7_in hK.1 rfl rfl ⟨Nat.le_of_ble_eq_true rfl, Nat.le_of_ble_eq_true rfl⟩) (preS hK hz hW) rfl rfl hl.1 rfl (lv_room (Nat.le_of_ble_eq_true rfl)) dX7_then_33 ⟨Nat.le_of_ble_eq_true rfl, Nat.le_of_ble_eq_true rfl⟩)) (fun r33 h33 => ?_)
      have h33 : r33 = b2i (wiB mi (nI 0) (nI 3)) := h33
      subst h33
      refine lv_if_eq (tgt := 58) hx hb dX7_then_36 (by decide) (fun c36 => ?_) (fun c36 => ?_)
      · skip
        have c36 := b2i_0.mp c36
        refine lv_ldc (v := -1000000) hx hb hown (hK.1.use _ _ tw_601) dX7_then_58 ?_
        exact ri hx hb hr hlocks dX7_then_60 (by unfold xThen; rw [if_pos c11, ← d_xx]; unfold rdM; rw [if_neg (by simp [c36])])
      · skip
        have c36 := b2i_1.mp c36
        obtain ⟨e_mm, h_mm⟩ := wiB_of (b := 3) c36 (by omega)
        obtain ⟨mm, d_mm⟩ : ∃ y, y = mi.toNatClampNeg := ⟨_, rfl⟩
        rw [← d_mm] at e_mm h_mm
        have hq39_2 : (o) = (nI oo) := e_oo
        rw [hq39_2] at hl
        have hq39_3 : (mi) = (nI mm) := e_mm
        rw [hq39_3] at hl
        refine lv_aload_n hx hb dX7_then_39 rfl (lv_at hl 0 rfl) ?_
        refine g_X7_X7_keptMember hx hb hown hK hW h2000 dX7_then_40 ?_
        refine lv_sipush (v := nI 160) hx hb dX7_then_43 (by decide) ?_
        refine lv_iload_n hx hb dX7_then_46 rfl (lv_at hl 1 rfl) ?_
        refine lv_imul hx hb dX7_then_47 ?_
        refine asi (y := nI (160 * xx)) (pk_mul _ _) ?_
        refine lv_iconst (v := nI 4) hx hb dX7_then_48 (by decide) ?_
        refine lv_iload_n hx hb dX7_then_49 rfl (lv_at hl 2 rfl) ?_
        refine lv_imul hx hb dX7_then_50 ?_
        refine asi (y := nI (4 * oo)) (pk_mul _ _) ?_
        refine lv_iadd hx hb dX7_then_51 ?_
        refine asi (y := nI ((160 * xx) + (4 * oo))) (nI_add _ _) ?_
        refine lv_iload_n hx hb dX7_then_52 rfl (lv_at hl 3 rfl) ?_
        refine lv_iadd hx hb dX7_then_53 ?_
        refine asi (y := nI (((160 * xx) + (4 * oo)) + mm)) (nI_add _ _) ?_
        refine w_iald hx hb hK hW h2024 (j := ((160 * xx) + (4 * oo)) + mm) (rfl) (by omega) (by omega) dX7_then_54 ?_
        refine asi (y := (sn xx).2.1 mm oo) (em mm (by omega) oo (by omega)) ?_
        refine lv_goto (tgt := 60) hx hb dX7_then_55 (by decide) ?_
        exact ri hx hb hr hlocks dX7_then_60 (by unfold xThen; rw [if_pos c11, ← d_xx]; unfold rdM; rw [if_pos (by rw [c27, c36]; rfl), ← d_oo, ← d_mm])

set_option maxHeartbeats 4000000 in
set_option maxRecDepth 100000 in
theorem c_X7_told (l : Launch) (D : va_G) (cy : Nat → ClassId) (z0 : Nat) (ad : Nat → Nat) (V : Nat → Option va_E) (c0 n k P K : Nat) (ce : Int32) (ρ : RuT) (pl : Nat → PlT) (sn : Nat → SnT) (hM : isM ad V cy n k P K ce ρ pl sn) (hG : gdX c0 n k P K ρ pl sn) (pi x : Int32) : Met l yX7_told [Cond.code yX7_told cX7_told 5 (some .int)] { frames := 2, cells := 0, slots := 0, locals := 43 } (WP [.ref (ad (2000)), .int (pi), .int (x)] D cy z0 ad V) (vp_Si (fun r => r = xTold k P pl pi x)) 0 0 (fun _ => False) := by
  refine met_of (by decide) (Nat.le_of_ble_eq_true rfl) (fun p e s m below meth c hx hb hr hml hown hlocks hnm hK hz hW ls hl => ?_)
  have hown : s.vm.findClass RX7 = some m.cls := hown
  have hl : lv_has ls 5 [(0, .ref (ad (2000))), (1, .int (pi)), (2, .int (x))] := hl
  obtain ⟨ak, al, ab, aw, av, mem, kpt, fgt, cha, cos, fnd, isb, bat, kno, oob, ome, onu, oke, ksc, kme, kob, was, wwa, ⟨h2000, h2002, h2003, h2004, h2005, h2006, h2008, h2009, h2010, h2011, h2012, h2013, h2014, h2015, h2016, h2017, h2018, h2019, h2020, h2023, h2024, h2025, h2026, h2027⟩, ⟨hru, hlv⟩, hrp, hrs⟩ := id hM
  obtain ⟨hO, hkb, hgd⟩ := id hG
  obtain ⟨hn40, hk, hP1, hP4, hK20, hOp, hOs⟩ := id hO
  have hk12 := hk.1
  refine lv_aload_n hx hb dX7_told_0 rfl (lv_at hl 0 rfl) ?_
  refine lv_iload_n hx hb dX7_told_1 rfl (lv_at hl 1 rfl) ?_
  refine vp_callSi (va_Run.run (va_runV (As := [.int (pi)]) (rest := []) ⟨hx, hb, hml, hown, hK.1.use _⟩ (c_X7_isPlan l D cy z0 ad V n k P K ce h2000  (by omega) pi) (k_X7_X7_isPlan hK.1 rfl rfl ⟨Nat.le_of_ble_eq_true rfl, Nat.le_of_ble_eq_true rfl⟩) (preV hK hz hW h2000 rfl) rfl rfl hl.1 rfl (lv_room (Nat.le_of_ble_eq_true rfl)) dX7_told_2 ⟨Nat.le_of_ble_eq_true rfl, Nat.le_of_ble_eq_true rfl⟩)) (fun r2 h2 => ?_)
  have h2 : r2 = b2i (hasB P pi) := h2
  subst h2
  refine lv_if_eq (tgt := 17) hx hb dX7_told_5 (by decide) (fun c5 => ?_) (fun c5 => ?_)
  · skip
    have c5 := b2i_0.mp c5
    have hp : ¬ hasB P pi = true := by rw [c5]; decide
    refine lv_iconst (v := -1) hx hb dX7_told_17 (by decide) ?_
    exact ri hx hb hr hlocks dX7_told_18 (by unfold xTold; rw [if_neg hp])
  · skip
    have c5 := b2i_1.mp c5
    have hp : hasB P pi = true := c5
    obtain ⟨epi, hpp⟩ := hasB_of hp (by omega)
    obtain ⟨pp, epp⟩ : ∃ y, y = pi.toNatClampNeg := ⟨_, rfl⟩
    rw [← epp] at epi hpp
    have hPq := hrp.1 pp hpp
    have hgp := hgd pp hpp
    obtain ⟨π, eπ⟩ : ∃ π, π = pl pp := ⟨_, rfl⟩
    rw [← eπ] at hPq hgp
    obtain ⟨hvw, hkp, hfg, ech, eco, efo, ebb, ebt, ekn, hhi⟩ := id hPq
    have hM0 := hgp.ok
    obtain ⟨hZ, hb60, hnx, hkn, hbk, hOk⟩ := id hgp.1
    have hq8_1 : (pi) = (nI pp) := epi
    rw [hq8_1] at hl
    refine lv_iload_n hx hb dX7_told_8 rfl (lv_at hl 2 rfl) ?_
    refine lv_iconst (v := nI 0) hx hb dX7_told_9 (by decide) ?_
    refine lv_iconst (v := nI 5) hx hb dX7_told_10 (by decide) ?_
    refine vp_callSi (va_Run.run (va_runS (As := [.int (x), .int (nI 0), .int (nI 5)]) (rest := []) ⟨hx, hb, hml, hown, hK.1.use _⟩ (c_X7_in l D cy z0 ad V x (nI 0) (nI 5)) (k_X7_X7_in hK.1 rfl rfl ⟨Nat.le_of_ble_eq_true rfl, Nat.le_of_ble_eq_true rfl⟩) (preS hK hz hW) rfl rfl hl.1 rfl (lv_room (Nat.le_of_ble_eq_true rfl)) dX7_told_11 ⟨Nat.le_of_ble_eq_true rfl, Nat.le_of_ble_eq_true rfl⟩)) (fun r11 h11 => ?_)
    have h11 : r11 = b2i (wiB x (nI 0) (nI 5)) := h11
    subst h11
    refine lv_if_ne (tgt := 19) hx hb dX7_told_14 (by decide) (fun c14 => ?_) (fun c14 => ?_)
    · skip
      have c14 := b2i_1.mp c14
      obtain ⟨e_xx, h_xx⟩ := wiB_of (b := 5) c14 (by omega)
      obtain ⟨xx, d_xx⟩ : ∃ y, y = x.toNatClampNeg := ⟨_, rfl⟩
      rw [← d_xx] at e_xx h_xx
      refine lv_iconst (v := nI 0) hx hb dX7_told_19 (by decide) ?_
      refine lv_istore_n (lv' := [(3, .int (nI 0)), (0, .ref (ad (2000))), (1, .int (nI pp)), (2, .int (x))]) hx hb dX7_told_20 rfl hl (by decide) rfl (fun ls hl => ?_)
      refine lv_iconst (v := nI 0) hx hb dX7_told_21 (by decide) ?_
      refine lv_istore (lv' := [(4, .int (nI 0)), (3, .int (nI 0)), (0, .ref (ad (2000))), (1, .int (nI pp)), (2, .int (x))]) hx hb dX7_told_22 hl (by decide) rfl (fun ls hl => ?_)
      refine wl (ι := Nat) (fun i => k - i) (fun i g => (i ≤ k) ∧ ∃ ls, g = F0 m 24 ls [] ∧ lv_has ls 5 [(0, .ref (ad (2000))), (1, .int (nI pp)), (2, .int (x)), (3, .int (nI (cfT (pF π) i))), (4, .int (nI i))]) ?_ (0) _ ⟨Nat.zero_le _, ls, rfl, lv_sub hl [2, 3, 4, 1, 0] rfl⟩
      intro i g hg ih
      obtain ⟨hi, ls, rfl, hl⟩ := hg
      refine lv_iload hx hb dX7_told_24 (lv_at hl 4 rfl) ?_
      refine lv_aload_n hx hb dX7_told_26 rfl (lv_at hl 0 rfl) ?_
      refine g_X7_X7_rules hx hb hown hK hW h2000 dX7_told_27 ?_
      refine lv_icmp_ge (tgt := 62) hx hb dX7_told_30 (by decide) (fun c30 => ?_) (fun c30 => ?_)
      · skip
        have c30 := nI_le' c30 (by omega) (by omega)
        have hq62_3 : (nI (cfT (pF π) i)) = (nI (cfT (pF π) k)) := by have e9 : i = k := (by omega); rw [e9]
        rw [hq62_3] at hl
        refine lv_iload_n hx hb dX7_told_62 rfl (lv_at hl 2 rfl) ?_
        refine lv_if_ne (tgt := 75) hx hb dX7_told_63 (by decide) (fun c63 => ?_) (fun c63 => ?_)
        · skip
          have c63 : ¬ x = nI 0 := c63
          refine lv_iload_n hx hb dX7_told_75 rfl (lv_at hl 2 rfl) ?_
          refine lv_iconst (v := nI 1) hx hb dX7_told_76 (by decide) ?_
          refine lv_icmp_ne (tgt := 89) hx hb dX7_told_77 (by decide) (fun c77 => ?_) (fun c77 => ?_)
          · skip
            refine lv_iload_n hx hb dX7_told_89 rfl (lv_at hl 2 rfl) ?_
            refine lv_iconst (v := nI 2) hx hb dX7_told_90 (by decide) ?_
            refine lv_icmp_ne (tgt := 103) hx hb dX7_told_91 (by decide) (fun c91 => ?_) (fun c91 => ?_)
            · skip
              refine lv_iload_n hx hb dX7_told_103 rfl (lv_at hl 2 rfl) ?_
              refine lv_iconst (v := nI 3) hx hb dX7_told_104 (by decide) ?_
              refine lv_icmp_ne (tgt := 117) hx hb dX7_told_105 (by decide) (fun c105 => ?_) (fun c105 => ?_)
              · skip
                refine lv_iload_n hx hb dX7_told_117 rfl (lv_at hl 2 rfl) ?_
                refine lv_iconst (v := nI 4) hx hb dX7_told_118 (by decide) ?_
                refine lv_icmp_ne (tgt := 139) hx hb dX7_told_119 (by decide) (fun c119 => ?_) (fun c119 => ?_)
                · skip
                  refine lv_iload_n hx hb dX7_told_139 rfl (lv_at hl 3 rfl) ?_
                  exact ri hx hb hr hlocks dX7_told_140 (by
      have h5 : x = nI 5 := by
        rw [e_xx]
        congr 1
        have q0 : ¬ xx = 0 := fun q => c63 (by rw [e_xx, q])
        have q1 : ¬ xx = 1 := fun q => c77 (by rw [e_xx, q])
        have q2 : ¬ xx = 2 := fun q => c91 (by rw [e_xx, q])
        have q3 : ¬ xx = 3 := fun q => c105 (by rw [e_xx, q])
        have q4 : ¬ xx = 4 := fun q => c119 (by rw [e_xx, q])
        omega
      unfold xTold; rw [if_pos hp, ← epp, ← eπ]; unfold plTold fgI; rw [if_neg c63, if_neg c77, if_neg c91, if_neg c105, if_neg c119, if_pos h5])
                · skip
                  refine lv_aload_n hx hb dX7_told_122 rfl (lv_at hl 0 rfl) ?_
                  refine g_X7_X7_isBatch hx hb hown hK hW h2000 dX7_told_123 ?_
                  refine lv_iload_n hx hb dX7_told_126 rfl (lv_at hl 1 rfl) ?_
                  refine w_zald hx hb hK hW h2014 (j := pp) (rfl) (by omega) (by omega) dX7_told_127 ?_
                  refine asi (y := b2i (pBb π)) (by rw [ebb]) ?_
                  refine lv_if_eq (tgt := 135) hx hb dX7_told_128 (by decide) (fun c128 => ?_) (fun c128 => ?_)
                  · skip
                    have c128 := b2i_0.mp c128
                    refine lv_iconst (v := nI 0) hx hb dX7_told_135 (by decide) ?_
                    refine lv_goto (tgt := 140) hx hb dX7_told_136 (by decide) ?_
                    exact ri hx hb hr hlocks dX7_told_140 (by unfold xTold; rw [if_pos hp, ← epp, ← eπ]; unfold plTold fgI; rw [if_neg c63, if_neg c77, if_neg c91, if_neg c105, if_pos c119, c128]; rfl)
                  · skip
                    have c128 := b2i_1.mp c128
                    refine lv_iconst (v := nI 1) hx hb dX7_told_131 (by decide) ?_
                    refine lv_goto (tgt := 140) hx hb dX7_told_132 (by decide) ?_
                    exact ri hx hb hr hlocks dX7_told_140 (by unfold xTold; rw [if_pos hp, ← epp, ← eπ]; unfold plTold fgI; rw [if_neg c63, if_neg c77, if_neg c91, if_neg c105, if_pos c119, c128]; rfl)
              · skip
                refine lv_aload_n hx hb dX7_told_108 rfl (lv_at hl 0 rfl) ?_
                refine g_X7_X7_found hx hb hown hK hW h2000 dX7_told_109 ?_
                refine lv_iload_n hx hb dX7_told_112 rfl (lv_at hl 1 rfl) ?_
                refine w_iald hx hb hK hW h2013 (j := pp) (rfl) (by omega) (by omega) dX7_told_113 ?_
                refine asi (y := pFo π) (efo) ?_
                refine lv_goto (tgt := 140) hx hb dX7_told_114 (by decide) ?_
                exact ri hx hb hr hlocks dX7_told_140 (by unfold xTold; rw [if_pos hp, ← epp, ← eπ]; unfold plTold fgI; rw [if_neg c63, if_neg c77, if_neg c91, if_pos c105])
            · skip
              refine lv_aload_n hx hb dX7_told_94 rfl (lv_at hl 0 rfl) ?_
              refine g_X7_X7_cost hx hb hown hK hW h2000 dX7_told_95 ?_
              refine lv_iload_n hx hb dX7_told_98 rfl (lv_at hl 1 rfl) ?_
              refine w_iald hx hb hK hW h2012 (j := pp) (rfl) (by omega) (by omega) dX7_told_99 ?_
              refine asi (y := pCo π) (eco) ?_
              refine lv_goto (tgt := 140) hx hb dX7_told_100 (by decide) ?_
              exact ri hx hb hr hlocks dX7_told_140 (by unfold xTold; rw [if_pos hp, ← epp, ← eπ]; unfold plTold fgI; rw [if_neg c63, if_neg c77, if_pos c91])
          · skip
            refine lv_aload_n hx hb dX7_told_80 rfl (lv_at hl 0 rfl) ?_
            refine g_X7_X7_known hx hb hown hK hW h2000 dX7_told_81 ?_
            refine lv_iload_n hx hb dX7_told_84 rfl (lv_at hl 1 rfl) ?_
            refine w_iald hx hb hK hW h2016 (j := pp) (rfl) (by omega) (by omega) dX7_told_85 ?_
            refine asi (y := nI (pKn π)) (ekn) ?_
            refine lv_goto (tgt := 140) hx hb dX7_told_86 (by decide) ?_
            exact ri hx hb hr hlocks dX7_told_140 (by unfold xTold; rw [if_pos hp, ← epp, ← eπ]; unfold plTold fgI; rw [if_neg c63, if_pos c77])
        · skip
          have c63 : x = nI 0 := c63
          refine lv_aload_n hx hb dX7_told_66 rfl (lv_at hl 0 rfl) ?_
          refine g_X7_X7_changes hx hb hown hK hW h2000 dX7_told_67 ?_
          refine lv_iload_n hx hb dX7_told_70 rfl (lv_at hl 1 rfl) ?_
          refine w_iald hx hb hK hW h2011 (j := pp) (rfl) (by omega) (by omega) dX7_told_71 ?_
          refine asi (y := pCh π) (ech) ?_
          refine lv_goto (tgt := 140) hx hb dX7_told_72 (by decide) ?_
          exact ri hx hb hr hlocks dX7_told_140 (by unfold xTold; rw [if_pos hp, ← epp, ← eπ]; unfold plTold fgI; rw [if_pos c63])
      · skip
        have c30 := nI_nle' c30 (by omega) (by omega)
        refine lv_iload_n hx hb dX7_told_33 rfl (lv_at hl 3 rfl) ?_
        refine jl (pcj := 54) (st := [.int (nI (if pF π i = true then 1 else 0)), .int (nI (cfT (pF π) i))]) (nL := 5) (lv := [(0, .ref (ad (2000))), (1, .int (nI pp)), (2, .int (x)), (3, .int (nI (cfT (pF π) i))), (4, .int (nI i))]) (fun KJ => ?_) (fun ls hl => ?_)
        · skip
          refine lv_aload_n hx hb dX7_told_34 rfl (lv_at hl 0 rfl) ?_
          refine g_X7_X7_forgets hx hb hown hK hW h2000 dX7_told_35 ?_
          refine lv_bipush (v := nI 12) hx hb dX7_told_38 (by decide) ?_
          refine lv_iload_n hx hb dX7_told_40 rfl (lv_at hl 1 rfl) ?_
          refine lv_imul hx hb dX7_told_41 ?_
          refine asi (y := nI (12 * pp)) (pk_mul _ _) ?_
          refine lv_iload hx hb dX7_told_42 (lv_at hl 4 rfl) ?_
          refine lv_iadd hx hb dX7_told_44 ?_
          refine asi (y := nI ((12 * pp) + i)) (nI_add _ _) ?_
          refine w_zald hx hb hK hW h2010 (j := (12 * pp) + i) (rfl) (by omega) (by omega) dX7_told_45 ?_
          refine asi (y := b2i (pF π i)) (by rw [hfg i (by omega)]) ?_
          refine lv_if_eq (tgt := 53) hx hb dX7_told_46 (by decide) (fun c46 => ?_) (fun c46 => ?_)
          · skip
            have c46 := b2i_0.mp c46
            refine lv_iconst (v := nI 0) hx hb dX7_told_53 (by decide) ?_
            refine asi (y := nI (if pF π i = true then 1 else 0)) (by simp [c46]) ?_
            exact KJ ls (lv_sub hl [0, 1, 2, 3, 4] rfl)
          · skip
            have c46 := b2i_1.mp c46
            refine lv_iconst (v := nI 1) hx hb dX7_told_49 (by decide) ?_
            refine lv_goto (tgt := 54) hx hb dX7_told_50 (by decide) ?_
            refine asi (y := nI (if pF π i = true then 1 else 0)) (by simp [c46]) ?_
            exact KJ ls (lv_sub hl [0, 1, 2, 3, 4] rfl)
        · skip
          refine lv_iadd hx hb dX7_told_54 ?_
          refine asi (y := nI ((cfT (pF π) i) + (if pF π i = true then 1 else 0))) (nI_add _ _) ?_
          refine asi (y := nI (cfT (pF π) (i + 1))) (rfl) ?_
          refine lv_istore_n (lv' := [(3, .int (nI (cfT (pF π) (i + 1)))), (0, .ref (ad (2000))), (1, .int (nI pp)), (2, .int (x)), (4, .int (nI i))]) hx hb dX7_told_55 rfl hl (by decide) rfl (fun ls hl => ?_)
          refine lv_iinc (v := nI (i + 1)) (lv' := [(4, .int (nI (i + 1))), (3, .int (nI (cfT (pF π) (i + 1)))), (0, .ref (ad (2000))), (1, .int (nI pp)), (2, .int (x))]) hx hb dX7_told_56 hl (k := 4) rfl (by rw [show Int32.ofInt 1 = nI 1 from by decide]; exact nI_add _ _) (by decide) rfl (fun ls hl => ?_)
          refine lv_goto (tgt := 24) hx hb dX7_told_59 (by decide) ?_
          exact ih (i + 1) _ ⟨by omega, ls, rfl, lv_sub hl [2, 3, 4, 1, 0] rfl⟩ (by omega)
    · skip
      have c14 := b2i_0.mp c14
      refine lv_iconst (v := -1) hx hb dX7_told_17 (by decide) ?_
      exact ri hx hb hr hlocks dX7_told_18 (by unfold xTold; rw [if_pos hp]; unfold plTold fgI; rw [if_neg (fun q => by rw [q] at c14; exact absurd c14 (by decide)), if_neg (fun q => by rw [q] at c14; exact absurd c14 (by decide)), if_neg (fun q => by rw [q] at c14; exact absurd c14 (by decide)), if_neg (fun q => by rw [q] at c14; exact absurd c14 (by decide)), if_neg (fun q => by rw [q] at c14; exact absurd c14 (by decide)), if_neg (fun q => by rw [q] at c14; exact absurd c14 (by decide))])

set_option maxHeartbeats 4000000 in
set_option maxRecDepth 100000 in
theorem c_X7_all (l : Launch) (D : va_G) (cy : Nat → ClassId) (z0 : Nat) (ad : Nat → Nat) (V : Nat → Option va_E) (c0 n k P K : Nat) (ce : Int32) (ρ : RuT) (pl : Nat → PlT) (sn : Nat → SnT) (hM : isM ad V cy n k P K ce ρ pl sn) (hG : gdX c0 n k P K ρ pl sn) (x : Int32) : Met l yX7_all [Cond.code yX7_all cX7_all 2 (some .int)] { frames := 0, cells := 0, slots := 0, locals := 0 } (WP [.ref (ad (2000)), .int (x)] D cy z0 ad V) (vp_Si (fun r => r = xAll n k P K ce x)) 0 0 (fun _ => False) := by
  refine met_of (by decide) (Nat.le_of_ble_eq_true rfl) (fun p e s m below meth c hx hb hr hml hown hlocks hnm hK hz hW ls hl => ?_)
  have hown : s.vm.findClass RX7 = some m.cls := hown
  have hl : lv_has ls 2 [(0, .ref (ad (2000))), (1, .int (x))] := hl
  obtain ⟨ak, al, ab, aw, av, mem, kpt, fgt, cha, cos, fnd, isb, bat, kno, oob, ome, onu, oke, ksc, kme, kob, was, wwa, ⟨h2000, h2002, h2003, h2004, h2005, h2006, h2008, h2009, h2010, h2011, h2012, h2013, h2014, h2015, h2016, h2017, h2018, h2019, h2020, h2023, h2024, h2025, h2026, h2027⟩, ⟨hru, hlv⟩, hrp, hrs⟩ := id hM
  obtain ⟨hO, hkb, hgd⟩ := id hG
  obtain ⟨hn40, hk, hP1, hP4, hK20, hOp, hOs⟩ := id hO
  have hk12 := hk.1
  refine lv_iload_n hx hb dX7_all_0 rfl (lv_at hl 1 rfl) ?_
  refine lv_if_ne (tgt := 11) hx hb dX7_all_1 (by decide) (fun c1 => ?_) (fun c1 => ?_)
  · skip
    have c1 : ¬ x = nI 0 := c1
    refine lv_iload_n hx hb dX7_all_11 rfl (lv_at hl 1 rfl) ?_
    refine lv_iconst (v := nI 1) hx hb dX7_all_12 (by decide) ?_
    refine lv_icmp_ne (tgt := 23) hx hb dX7_all_13 (by decide) (fun c13 => ?_) (fun c13 => ?_)
    · skip
      refine lv_iload_n hx hb dX7_all_23 rfl (lv_at hl 1 rfl) ?_
      refine lv_iconst (v := nI 2) hx hb dX7_all_24 (by decide) ?_
      refine lv_icmp_ne (tgt := 35) hx hb dX7_all_25 (by decide) (fun c25 => ?_) (fun c25 => ?_)
      · skip
        refine lv_iload_n hx hb dX7_all_35 rfl (lv_at hl 1 rfl) ?_
        refine lv_iconst (v := nI 3) hx hb dX7_all_36 (by decide) ?_
        refine lv_icmp_ne (tgt := 47) hx hb dX7_all_37 (by decide) (fun c37 => ?_) (fun c37 => ?_)
        · skip
          refine lv_iload_n hx hb dX7_all_47 rfl (lv_at hl 1 rfl) ?_
          refine lv_iconst (v := nI 4) hx hb dX7_all_48 (by decide) ?_
          refine lv_icmp_ne (tgt := 59) hx hb dX7_all_49 (by decide) (fun c49 => ?_) (fun c49 => ?_)
          · skip
            refine lv_iconst (v := -1) hx hb dX7_all_59 (by decide) ?_
            exact ri hx hb hr hlocks dX7_all_60 (by
      unfold xAll
      first
        | (rw [if_pos c1]; done)
        | (rw [if_neg c1, if_pos c13]; done)
        | (rw [if_neg c1, if_neg c13, if_pos c25]; done)
        | (rw [if_neg c1, if_neg c13, if_neg c25, if_pos c37]; done)
        | (rw [if_neg c1, if_neg c13, if_neg c25, if_neg c37, if_pos c49]; done)
        | (rw [if_neg c1, if_neg c13, if_neg c25, if_neg c37, if_neg c49]; done))
          · skip
            refine lv_aload_n hx hb dX7_all_52 rfl (lv_at hl 0 rfl) ?_
            refine g_X7_X7_keeps hx hb hown hK hW h2000 dX7_all_53 ?_
            refine lv_goto (tgt := 60) hx hb dX7_all_56 (by decide) ?_
            exact ri hx hb hr hlocks dX7_all_60 (by
      unfold xAll
      first
        | (rw [if_pos c1]; done)
        | (rw [if_neg c1, if_pos c13]; done)
        | (rw [if_neg c1, if_neg c13, if_pos c25]; done)
        | (rw [if_neg c1, if_neg c13, if_neg c25, if_pos c37]; done)
        | (rw [if_neg c1, if_neg c13, if_neg c25, if_neg c37, if_pos c49]; done)
        | (rw [if_neg c1, if_neg c13, if_neg c25, if_neg c37, if_neg c49]; done))
        · skip
          refine lv_aload_n hx hb dX7_all_40 rfl (lv_at hl 0 rfl) ?_
          refine g_X7_X7_every hx hb hown hK hW h2000 dX7_all_41 ?_
          refine lv_goto (tgt := 60) hx hb dX7_all_44 (by decide) ?_
          exact ri hx hb hr hlocks dX7_all_60 (by
      unfold xAll
      first
        | (rw [if_pos c1]; done)
        | (rw [if_neg c1, if_pos c13]; done)
        | (rw [if_neg c1, if_neg c13, if_pos c25]; done)
        | (rw [if_neg c1, if_neg c13, if_neg c25, if_pos c37]; done)
        | (rw [if_neg c1, if_neg c13, if_neg c25, if_neg c37, if_pos c49]; done)
        | (rw [if_neg c1, if_neg c13, if_neg c25, if_neg c37, if_neg c49]; done))
      · skip
        refine lv_aload_n hx hb dX7_all_28 rfl (lv_at hl 0 rfl) ?_
        refine g_X7_X7_plans hx hb hown hK hW h2000 dX7_all_29 ?_
        refine lv_goto (tgt := 60) hx hb dX7_all_32 (by decide) ?_
        exact ri hx hb hr hlocks dX7_all_60 (by
      unfold xAll
      first
        | (rw [if_pos c1]; done)
        | (rw [if_neg c1, if_pos c13]; done)
        | (rw [if_neg c1, if_neg c13, if_pos c25]; done)
        | (rw [if_neg c1, if_neg c13, if_neg c25, if_pos c37]; done)
        | (rw [if_neg c1, if_neg c13, if_neg c25, if_neg c37, if_pos c49]; done)
        | (rw [if_neg c1, if_neg c13, if_neg c25, if_neg c37, if_neg c49]; done))
    · skip
      refine lv_aload_n hx hb dX7_all_16 rfl (lv_at hl 0 rfl) ?_
      refine g_X7_X7_rules hx hb hown hK hW h2000 dX7_all_17 ?_
      refine lv_goto (tgt := 60) hx hb dX7_all_20 (by decide) ?_
      exact ri hx hb hr hlocks dX7_all_60 (by
      unfold xAll
      first
        | (rw [if_pos c1]; done)
        | (rw [if_neg c1, if_pos c13]; done)
        | (rw [if_neg c1, if_neg c13, if_pos c25]; done)
        | (rw [if_neg c1, if_neg c13, if_neg c25, if_pos c37]; done)
        | (rw [if_neg c1, if_neg c13, if_neg c25, if_neg c37, if_pos c49]; done)
        | (rw [if_neg c1, if_neg c13, if_neg c25, if_neg c37, if_neg c49]; done))
  · skip
    have c1 : x = nI 0 := c1
    refine lv_aload_n hx hb dX7_all_4 rfl (lv_at hl 0 rfl) ?_
    refine g_X7_X7_objects hx hb hown hK hW h2000 dX7_all_5 ?_
    refine lv_goto (tgt := 60) hx hb dX7_all_8 (by decide) ?_
    exact ri hx hb hr hlocks dX7_all_60 (by
      unfold xAll
      first
        | (rw [if_pos c1]; done)
        | (rw [if_neg c1, if_pos c13]; done)
        | (rw [if_neg c1, if_neg c13, if_pos c25]; done)
        | (rw [if_neg c1, if_neg c13, if_neg c25, if_pos c37]; done)
        | (rw [if_neg c1, if_neg c13, if_neg c25, if_neg c37, if_pos c49]; done)
        | (rw [if_neg c1, if_neg c13, if_neg c25, if_neg c37, if_neg c49]; done))
