set_option maxHeartbeats 4000000 in
set_option maxRecDepth 100000 in
theorem c_X6_member (l : Launch) (D : va_G) (cy : Nat → ClassId) (z0 : Nat) (ad : Nat → Nat) (V : Nat → Option va_E) (n k P K : Nat) (ce : Int32) (ρ : RuT) (pl : Nat → PlT) (sn : Nat → SnT) (hX : isX ad V cy n k P K ce ρ pl sn) (hO : okX n k P K ρ pl sn) (pi o mi : Int32) : Met l yX6_member [Cond.code yX6_member cX6_member 5 (some .int)] { frames := 2, cells := 0, slots := 0, locals := 44 } (WP [.ref (ad 0), .int (pi), .int (o), .int (mi)] D cy z0 ad V) (vp_Si (fun r => r = xMember n P pl pi o mi)) 0 0 (fun _ => False) := by
  refine met_of (by decide) (Nat.le_of_ble_eq_true rfl) (fun p e s m below meth c hx hb hr hml hown hlocks hnm hK hz hW ls hl => ?_)
  have hown : s.vm.findClass RX6 = some m.cls := hown
  have hl : lv_has ls 5 [(0, .ref (ad 0)), (1, .int (pi)), (2, .int (o)), (3, .int (mi))] := hl
  obtain ⟨hX0, hB, hX3, hX4, hXp, hXs, hFx⟩ := id hX
  obtain ⟨hn40, hk, hP1, hP4, hK20, hOp, hOs⟩ := id hO
  have hk12 := hk.1
  obtain ⟨hB0, hB1, hBr⟩ := id hB
  refine lv_aload_n hx hb dX6_member_0 rfl (lv_at hl 0 rfl) ?_
  refine lv_iload_n hx hb dX6_member_1 rfl (lv_at hl 1 rfl) ?_
  refine va_csq (va_Run.run (va_runV (As := [.int (pi)]) (rest := []) ⟨hx, hb, hml, hown, hK.1.use _⟩ (c_X6_planAt l D cy z0 ad V n k P K ce ρ pl sn hX hO pi) (k_X6_X6_planAt hK.1 rfl rfl ⟨Nat.le_of_ble_eq_true rfl, Nat.le_of_ble_eq_true rfl⟩) (preV hK hz hW hX0 rfl) rfl rfl hl.1 rfl (lv_room (Nat.le_of_ble_eq_true rfl)) dX6_member_2 ⟨Nat.le_of_ble_eq_true rfl, Nat.le_of_ble_eq_true rfl⟩)) (fun r2 h2 => ?_)
  have h2 : r2 = if hasB P pi = true then some (ad (100 + 100 * pi.toNatClampNeg)) else none := h2
  subst h2
  by_cases hp : hasB P pi = true
  · skip
    have hb9 := hasB_of hp (by omega)
    obtain ⟨PB, ePB⟩ : ∃ PB, PB = 100 + 100 * pi.toNatClampNeg := ⟨_, rfl⟩
    refine asv (y := .ref (ad PB)) (by rw [if_pos hp, ← ePB]; rfl) ?_
    have hPq := hXp _ hb9.2
    have hOq := hOp _ hb9.2
    rw [← ePB] at hPq
    obtain ⟨π, eπ⟩ : ∃ π, π = pl pi.toNatClampNeg := ⟨_, rfl⟩
    rw [← eπ] at hPq hOq
    obtain ⟨M, kp, fb, ch, co, fo, bb, bn, ho, hm, hv, hs, nx, kn⟩ := π
    obtain ⟨⟨n2, M2, hC, hnn, hZ2⟩, hH⟩ := id hPq
    obtain ⟨hZ, hb60, hnx, hkn, hbk, hOk⟩ := hOq
    have hC : isC ad V cy PB n M n2 M2 kp fb ch co fo bb (nI bn) := hC
    have hH : isH ad V cy PB ho hm hv hs nx kn := hH
    have hZ : Zt n M := hZ
    have hb60 : bn ≤ 60 := hb60
    have hnx : nx < 60 := hnx
    have hkn : kn ≤ 60 := hkn
    have hbk : bb = true → bn ≤ kn := hbk
    have hOk : hOK n ho hm nx kn := hOk
    have hPB : 100 ≤ PB := by omega
    have hn2 : n2 ≤ 40 := by omega
    have hk12 := hk.1
    obtain ⟨hC0, hCT, hCU, hC3, hC4⟩ := id hC
    obtain ⟨hT0, hT1, hTr⟩ := id hCT
    obtain ⟨hU0, hU1, hUr⟩ := id hCU
    obtain ⟨hB0, hB1, hBr⟩ := id hB
    obtain ⟨hH0, hH1, hH2, hH3, hH4, hHr⟩ := id hH
    refine lv_astore (lv' := [(4, .ref (ad PB)), (0, .ref (ad 0)), (1, .int (pi)), (2, .int (o)), (3, .int (mi))]) hx hb dX6_member_5 hl (by decide) rfl (fun ls hl => ?_)
    refine lv_aload hx hb dX6_member_7 (lv_at hl 0 rfl) ?_
    refine lv_ifnonnull (tgt := 17) hx hb dX6_member_9 (by decide) ?_
    refine lv_aload hx hb dX6_member_17 (lv_at hl 0 rfl) ?_
    refine g_X6_X1_now hx hb hown hK hW hC0 dX6_member_19 ?_
    refine lv_iload_n hx hb dX6_member_22 rfl (lv_at hl 3 rfl) ?_
    refine lv_iload_n hx hb dX6_member_23 rfl (lv_at hl 4 rfl) ?_
    refine vp_callSi (va_Run.run (va_runV (As := [.int (o), .int (mi)]) (rest := []) ⟨hx, hb, hml, hown, hK.1.use _⟩ (c_X5_read l D cy z0 ad V (PB + 1) n M hCT hn40 o mi) (k_X6_X5_read hK.1 rfl rfl ⟨Nat.le_of_ble_eq_true rfl, Nat.le_of_ble_eq_true rfl⟩) (preV hK hz hW hT0 rfl) rfl rfl hl.1 rfl (lv_room (Nat.le_of_ble_eq_true rfl)) dX6_member_24 ⟨Nat.le_of_ble_eq_true rfl, Nat.le_of_ble_eq_true rfl⟩)) (fun r24 h24 => ?_)
    have h24 : r24 = rdM n M o mi := h24
    subst h24
    exact ri hx hb hr hlocks dX6_member_27 (by unfold xMember; first | rw [if_neg hp] | rw [if_pos hp, ← eπ])
  · skip
    refine asv (y := .null) (by rw [if_neg hp]; rfl) ?_
    refine lv_astoreN (lv' := [(4, .null), (0, .ref (ad 0)), (1, .int (pi)), (2, .int (o)), (3, .int (mi))]) hx hb dX6_member_5 hl (by decide) rfl (fun ls hl => ?_)
    refine lv_aloadN hx hb dX6_member_7 (lv_at hl 0 rfl) ?_
    refine lv_ifnonnullN hx hb dX6_member_9 ?_
    refine lv_ldc (v := -1000000) hx hb hown (hK.1.use _ _ tw_241) dX6_member_12 ?_
    refine lv_goto (tgt := 27) hx hb dX6_member_14 (by decide) ?_
    exact ri hx hb hr hlocks dX6_member_27 (by unfold xMember; first | rw [if_neg hp] | rw [if_pos hp, ← eπ])

set_option maxHeartbeats 4000000 in
set_option maxRecDepth 100000 in
theorem c_X6_score (l : Launch) (D : va_G) (cy : Nat → ClassId) (z0 : Nat) (ad : Nat → Nat) (V : Nat → Option va_E) (n k P K : Nat) (ce : Int32) (ρ : RuT) (pl : Nat → PlT) (sn : Nat → SnT) (hX : isX ad V cy n k P K ce ρ pl sn) (hO : okX n k P K ρ pl sn) (pi lv : Int32) : Met l yX6_score [Cond.code yX6_score cX6_score 4 (some .long)] { frames := 2, cells := 0, slots := 0, locals := 42 } (WP [.ref (ad 0), .int (pi), .int (lv)] D cy z0 ad V) (vp_Sl (fun r => r = xScore k P ρ pl pi lv)) 0 0 (fun _ => False) := by
  refine met_of (by decide) (Nat.le_of_ble_eq_true rfl) (fun p e s m below meth c hx hb hr hml hown hlocks hnm hK hz hW ls hl => ?_)
  have hown : s.vm.findClass RX6 = some m.cls := hown
  have hl : lv_has ls 4 [(0, .ref (ad 0)), (1, .int (pi)), (2, .int (lv))] := hl
  obtain ⟨hX0, hB, hX3, hX4, hXp, hXs, hFx⟩ := id hX
  obtain ⟨hn40, hk, hP1, hP4, hK20, hOp, hOs⟩ := id hO
  have hk12 := hk.1
  obtain ⟨hB0, hB1, hBr⟩ := id hB
  refine lv_aload_n hx hb dX6_score_0 rfl (lv_at hl 0 rfl) ?_
  refine lv_iload_n hx hb dX6_score_1 rfl (lv_at hl 1 rfl) ?_
  refine va_csq (va_Run.run (va_runV (As := [.int (pi)]) (rest := []) ⟨hx, hb, hml, hown, hK.1.use _⟩ (c_X6_planAt l D cy z0 ad V n k P K ce ρ pl sn hX hO pi) (k_X6_X6_planAt hK.1 rfl rfl ⟨Nat.le_of_ble_eq_true rfl, Nat.le_of_ble_eq_true rfl⟩) (preV hK hz hW hX0 rfl) rfl rfl hl.1 rfl (lv_room (Nat.le_of_ble_eq_true rfl)) dX6_score_2 ⟨Nat.le_of_ble_eq_true rfl, Nat.le_of_ble_eq_true rfl⟩)) (fun r2 h2 => ?_)
  have h2 : r2 = if hasB P pi = true then some (ad (100 + 100 * pi.toNatClampNeg)) else none := h2
  subst h2
  by_cases hp : hasB P pi = true
  · skip
    have hb9 := hasB_of hp (by omega)
    obtain ⟨PB, ePB⟩ : ∃ PB, PB = 100 + 100 * pi.toNatClampNeg := ⟨_, rfl⟩
    refine asv (y := .ref (ad PB)) (by rw [if_pos hp, ← ePB]; rfl) ?_
    have hPq := hXp _ hb9.2
    have hOq := hOp _ hb9.2
    rw [← ePB] at hPq
    obtain ⟨π, eπ⟩ : ∃ π, π = pl pi.toNatClampNeg := ⟨_, rfl⟩
    rw [← eπ] at hPq hOq
    obtain ⟨M, kp, fb, ch, co, fo, bb, bn, ho, hm, hv, hs, nx, kn⟩ := π
    obtain ⟨⟨n2, M2, hC, hnn, hZ2⟩, hH⟩ := id hPq
    obtain ⟨hZ, hb60, hnx, hkn, hbk, hOk⟩ := hOq
    have hC : isC ad V cy PB n M n2 M2 kp fb ch co fo bb (nI bn) := hC
    have hH : isH ad V cy PB ho hm hv hs nx kn := hH
    have hZ : Zt n M := hZ
    have hb60 : bn ≤ 60 := hb60
    have hnx : nx < 60 := hnx
    have hkn : kn ≤ 60 := hkn
    have hbk : bb = true → bn ≤ kn := hbk
    have hOk : hOK n ho hm nx kn := hOk
    have hPB : 100 ≤ PB := by omega
    have hn2 : n2 ≤ 40 := by omega
    have hk12 := hk.1
    obtain ⟨hC0, hCT, hCU, hC3, hC4⟩ := id hC
    obtain ⟨hT0, hT1, hTr⟩ := id hCT
    obtain ⟨hU0, hU1, hUr⟩ := id hCU
    obtain ⟨hB0, hB1, hBr⟩ := id hB
    obtain ⟨hH0, hH1, hH2, hH3, hH4, hHr⟩ := id hH
    refine lv_astore_n (lv' := [(3, .ref (ad PB)), (0, .ref (ad 0)), (1, .int (pi)), (2, .int (lv))]) hx hb dX6_score_5 rfl hl (by decide) rfl (fun ls hl => ?_)
    refine lv_aload_n hx hb dX6_score_6 rfl (lv_at hl 0 rfl) ?_
    refine lv_ifnull hx hb dX6_score_7 ?_
    refine lv_iload_n hx hb dX6_score_10 rfl (lv_at hl 3 rfl) ?_
    refine vp_callSi (va_Run.run (va_runS (As := [.int (lv)]) (rest := []) ⟨hx, hb, hml, hown, hK.1.use _⟩ (c_X6_isLevel l D cy z0 ad V lv) (k_X6_X6_isLevel hK.1 rfl rfl ⟨Nat.le_of_ble_eq_true rfl, Nat.le_of_ble_eq_true rfl⟩) (preS hK hz hW) rfl rfl hl.1 rfl (lv_room (Nat.le_of_ble_eq_true rfl)) dX6_score_11 ⟨Nat.le_of_ble_eq_true rfl, Nat.le_of_ble_eq_true rfl⟩)) (fun r11 h11 => ?_)
    have h11 : r11 = b2i (wiB lv (nI 0) (nI 2)) := h11
    subst h11
    refine lv_if_ne (tgt := 23) hx hb dX6_score_14 (by decide) (fun c14 => ?_) (fun c14 => ?_)
    · skip
      have c14 := b2i_1.mp c14
      refine lv_aload_n hx hb dX6_score_23 rfl (lv_at hl 0 rfl) ?_
      refine lv_iload_n hx hb dX6_score_24 rfl (lv_at hl 3 rfl) ?_
      refine vp_callSl (va_Run.run (va_runV (As := [.int (lv)]) (rest := []) ⟨hx, hb, hml, hown, hK.1.use _⟩ (c_X1_scoreNow l D cy z0 ad V PB n n2 k M M2 kp fb ch co fo (nI bn) bb ρ hC hB hk hn40 hn2 hPB lv) (k_X6_X1_scoreNow hK.1 rfl rfl ⟨Nat.le_of_ble_eq_true rfl, Nat.le_of_ble_eq_true rfl⟩) (preV hK hz hW hC0 rfl) rfl rfl hl.1 rfl (lv_room (Nat.le_of_ble_eq_true rfl)) dX6_score_25 ⟨Nat.le_of_ble_eq_true rfl, Nat.le_of_ble_eq_true rfl⟩)) (fun r25 h25 => ?_)
      have h25 : r25 = scL ρ kp lv k := h25
      subst h25
      exact rl hx hb hr hlocks dX6_score_28 (by unfold xScore; first | rw [if_neg (fun q => hp q.1)] | (rw [if_pos ⟨hp, c14⟩, ← eπ]; done) | rw [if_neg (fun q => absurd (c14.symm.trans q.2) (by decide))])
    · skip
      have c14 := b2i_0.mp c14
      refine lv_ldc2 (v := -1) hx hb hown (hK.1.use _ _ tw_361) dX6_score_17 ?_
      refine lv_goto (tgt := 28) hx hb dX6_score_20 (by decide) ?_
      exact rl hx hb hr hlocks dX6_score_28 (by unfold xScore; first | rw [if_neg (fun q => hp q.1)] | (rw [if_pos ⟨hp, c14⟩, ← eπ]; done) | rw [if_neg (fun q => absurd (c14.symm.trans q.2) (by decide))])
  · skip
    refine asv (y := .null) (by rw [if_neg hp]; rfl) ?_
    refine lv_astore_nN (lv' := [(3, .null), (0, .ref (ad 0)), (1, .int (pi)), (2, .int (lv))]) hx hb dX6_score_5 rfl hl (by decide) rfl (fun ls hl => ?_)
    refine lv_aload_nN hx hb dX6_score_6 rfl (lv_at hl 0 rfl) ?_
    refine lv_ifnullN (tgt := 17) hx hb dX6_score_7 (by decide) ?_
    refine lv_ldc2 (v := -1) hx hb hown (hK.1.use _ _ tw_361) dX6_score_17 ?_
    refine lv_goto (tgt := 28) hx hb dX6_score_20 (by decide) ?_
    exact rl hx hb hr hlocks dX6_score_28 (by unfold xScore; first | rw [if_neg (fun q => hp q.1)] | (rw [if_pos ⟨hp, c14⟩, ← eπ]; done) | rw [if_neg (fun q => absurd (c14.symm.trans q.2) (by decide))])

set_option maxHeartbeats 4000000 in
set_option maxRecDepth 100000 in
theorem c_X6_worth (l : Launch) (D : va_G) (cy : Nat → ClassId) (z0 : Nat) (ad : Nat → Nat) (V : Nat → Option va_E) (n k P K : Nat) (ce : Int32) (ρ : RuT) (pl : Nat → PlT) (sn : Nat → SnT) (hX : isX ad V cy n k P K ce ρ pl sn) (hO : okX n k P K ρ pl sn) (pi ri how : Int32) : Met l yX6_worth [Cond.code yX6_worth cX6_worth 5 (some .long)] { frames := 4, cells := 0, slots := 0, locals := 96 } (WP [.ref (ad 0), .int (pi), .int (ri), .int (how)] D cy z0 ad V) (vp_Sl (fun r => r = xWorth n k P ρ pl pi ri how)) 0 0 (fun _ => False) := by
  refine met_of (by decide) (Nat.le_of_ble_eq_true rfl) (fun p e s m below meth c hx hb hr hml hown hlocks hnm hK hz hW ls hl => ?_)
  have hown : s.vm.findClass RX6 = some m.cls := hown
  have hl : lv_has ls 5 [(0, .ref (ad 0)), (1, .int (pi)), (2, .int (ri)), (3, .int (how))] := hl
  obtain ⟨hX0, hB, hX3, hX4, hXp, hXs, hFx⟩ := id hX
  obtain ⟨hn40, hk, hP1, hP4, hK20, hOp, hOs⟩ := id hO
  have hk12 := hk.1
  obtain ⟨hB0, hB1, hBr⟩ := id hB
  refine lv_aload_n hx hb dX6_worth_0 rfl (lv_at hl 0 rfl) ?_
  refine lv_iload_n hx hb dX6_worth_1 rfl (lv_at hl 1 rfl) ?_
  refine va_csq (va_Run.run (va_runV (As := [.int (pi)]) (rest := []) ⟨hx, hb, hml, hown, hK.1.use _⟩ (c_X6_planAt l D cy z0 ad V n k P K ce ρ pl sn hX hO pi) (k_X6_X6_planAt hK.1 rfl rfl ⟨Nat.le_of_ble_eq_true rfl, Nat.le_of_ble_eq_true rfl⟩) (preV hK hz hW hX0 rfl) rfl rfl hl.1 rfl (lv_room (Nat.le_of_ble_eq_true rfl)) dX6_worth_2 ⟨Nat.le_of_ble_eq_true rfl, Nat.le_of_ble_eq_true rfl⟩)) (fun r2 h2 => ?_)
  have h2 : r2 = if hasB P pi = true then some (ad (100 + 100 * pi.toNatClampNeg)) else none := h2
  subst h2
  by_cases hp : hasB P pi = true
  · skip
    have hb9 := hasB_of hp (by omega)
    obtain ⟨PB, ePB⟩ : ∃ PB, PB = 100 + 100 * pi.toNatClampNeg := ⟨_, rfl⟩
    refine asv (y := .ref (ad PB)) (by rw [if_pos hp, ← ePB]; rfl) ?_
    have hPq := hXp _ hb9.2
    have hOq := hOp _ hb9.2
    rw [← ePB] at hPq
    obtain ⟨π, eπ⟩ : ∃ π, π = pl pi.toNatClampNeg := ⟨_, rfl⟩
    rw [← eπ] at hPq hOq
    obtain ⟨M, kp, fb, ch, co, fo, bb, bn, ho, hm, hv, hs, nx, kn⟩ := π
    obtain ⟨⟨n2, M2, hC, hnn, hZ2⟩, hH⟩ := id hPq
    obtain ⟨hZ, hb60, hnx, hkn, hbk, hOk⟩ := hOq
    have hC : isC ad V cy PB n M n2 M2 kp fb ch co fo bb (nI bn) := hC
    have hH : isH ad V cy PB ho hm hv hs nx kn := hH
    have hZ : Zt n M := hZ
    have hb60 : bn ≤ 60 := hb60
    have hnx : nx < 60 := hnx
    have hkn : kn ≤ 60 := hkn
    have hbk : bb = true → bn ≤ kn := hbk
    have hOk : hOK n ho hm nx kn := hOk
    have hPB : 100 ≤ PB := by omega
    have hn2 : n2 ≤ 40 := by omega
    have hk12 := hk.1
    obtain ⟨hC0, hCT, hCU, hC3, hC4⟩ := id hC
    obtain ⟨hT0, hT1, hTr⟩ := id hCT
    obtain ⟨hU0, hU1, hUr⟩ := id hCU
    obtain ⟨hB0, hB1, hBr⟩ := id hB
    obtain ⟨hH0, hH1, hH2, hH3, hH4, hHr⟩ := id hH
    refine lv_astore (lv' := [(4, .ref (ad PB)), (0, .ref (ad 0)), (1, .int (pi)), (2, .int (ri)), (3, .int (how))]) hx hb dX6_worth_5 hl (by decide) rfl (fun ls hl => ?_)
    refine lv_aload hx hb dX6_worth_7 (lv_at hl 0 rfl) ?_
    refine lv_ifnull hx hb dX6_worth_9 ?_
    refine lv_aload_n hx hb dX6_worth_12 rfl (lv_at hl 1 rfl) ?_
    refine g_X6_X6_book hx hb hown hK hW hX0 dX6_worth_13 ?_
    refine lv_iload_n hx hb dX6_worth_16 rfl (lv_at hl 3 rfl) ?_
    refine vp_callSi (va_Run.run (va_runV (As := [.int (ri)]) (rest := []) ⟨hx, hb, hml, hown, hK.1.use _⟩ (c_X3_has l D cy z0 ad V k ρ hB ri) (k_X6_X3_has hK.1 rfl rfl ⟨Nat.le_of_ble_eq_true rfl, Nat.le_of_ble_eq_true rfl⟩) (preV hK hz hW hB0 rfl) rfl rfl hl.1 rfl (lv_room (Nat.le_of_ble_eq_true rfl)) dX6_worth_17 ⟨Nat.le_of_ble_eq_true rfl, Nat.le_of_ble_eq_true rfl⟩)) (fun r17 h17 => ?_)
    have h17 : r17 = b2i (hasB k ri) := h17
    subst h17
    refine lv_if_eq (tgt := 32) hx hb dX6_worth_20 (by decide) (fun c20 => ?_) (fun c20 => ?_)
    · skip
      have c20 := b2i_0.mp c20
      refine lv_ldc2 (v := -1) hx hb hown (hK.1.use _ _ tw_361) dX6_worth_32 ?_
      exact rl hx hb hr hlocks dX6_worth_35 (by unfold xWorth; first | rw [if_neg (fun q => hp q.1)] | rw [if_neg (fun q => absurd (c20.symm.trans q.2.1) (by decide))] | rw [if_neg (fun q => absurd (c29.symm.trans q.2.2) (by decide))] | (rw [if_pos ⟨hp, c20, c29⟩, if_pos c37, ← eπ]; done) | (rw [if_pos ⟨hp, c20, c29⟩, if_neg c37, ← eπ]; done))
    · skip
      have c20 := b2i_1.mp c20
      have hr9 := hasB_of c20 (by omega)
      refine lv_iload_n hx hb dX6_worth_23 rfl (lv_at hl 4 rfl) ?_
      refine lv_iconst (v := nI 0) hx hb dX6_worth_24 (by decide) ?_
      refine lv_iconst (v := nI 1) hx hb dX6_worth_25 (by decide) ?_
      refine vp_callSi (va_Run.run (va_runS (As := [.int (how), .int (nI 0), .int (nI 1)]) (rest := []) ⟨hx, hb, hml, hown, hK.1.use _⟩ (c_X6_within l D cy z0 ad V how (nI 0) (nI 1)) (k_X6_X6_within hK.1 rfl rfl ⟨Nat.le_of_ble_eq_true rfl, Nat.le_of_ble_eq_true rfl⟩) (preS hK hz hW) rfl rfl hl.1 rfl (lv_room (Nat.le_of_ble_eq_true rfl)) dX6_worth_26 ⟨Nat.le_of_ble_eq_true rfl, Nat.le_of_ble_eq_true rfl⟩)) (fun r26 h26 => ?_)
      have h26 : r26 = b2i (wiB how (nI 0) (nI 1)) := h26
      subst h26
      refine lv_if_ne (tgt := 36) hx hb dX6_worth_29 (by decide) (fun c29 => ?_) (fun c29 => ?_)
      · skip
        have c29 := b2i_1.mp c29
        refine lv_iload_n hx hb dX6_worth_36 rfl (lv_at hl 4 rfl) ?_
        refine lv_if_ne (tgt := 50) hx hb dX6_worth_37 (by decide) (fun c37 => ?_) (fun c37 => ?_)
        · skip
          refine lv_aload hx hb dX6_worth_50 (lv_at hl 0 rfl) ?_
          refine lv_iload_n hx hb dX6_worth_52 rfl (lv_at hl 3 rfl) ?_
          refine asi (y := nI ri.toNatClampNeg) hr9.1 ?_
          refine vp_callSl (va_Run.run (va_runV (As := [.int (nI ri.toNatClampNeg)]) (rest := []) ⟨hx, hb, hml, hown, hK.1.use _⟩ (c_X1_fromNothing l D cy z0 ad V PB n n2 k M M2 kp fb ch co fo (nI bn) bb ρ hC hB hk hn40 hn2 hPB ri.toNatClampNeg hr9.2) (k_X6_X1_fromNothing hK.1 rfl rfl ⟨Nat.le_of_ble_eq_true rfl, Nat.le_of_ble_eq_true rfl⟩) (preV hK hz hW hC0 rfl) rfl rfl hl.1 rfl (lv_room (Nat.le_of_ble_eq_true rfl)) dX6_worth_53 ⟨Nat.le_of_ble_eq_true rfl, Nat.le_of_ble_eq_true rfl⟩)) (fun r53 h53 => ?_)
          have h53 : r53 = wthR ρ ri.toNatClampNeg M n := h53
          subst h53
          exact rl hx hb hr hlocks dX6_worth_56 (by unfold xWorth; first | rw [if_neg (fun q => hp q.1)] | rw [if_neg (fun q => absurd (c20.symm.trans q.2.1) (by decide))] | rw [if_neg (fun q => absurd (c29.symm.trans q.2.2) (by decide))] | (rw [if_pos ⟨hp, c20, c29⟩, if_pos c37, ← eπ]; done) | (rw [if_pos ⟨hp, c20, c29⟩, if_neg c37, ← eπ]; done))
        · skip
          refine lv_aload hx hb dX6_worth_40 (lv_at hl 0 rfl) ?_
          refine g_X6_X1_keptAt hx hb hown hK hW hC0 dX6_worth_42 ?_
          refine lv_iload_n hx hb dX6_worth_45 rfl (lv_at hl 3 rfl) ?_
          refine w_lald hx hb hK hW hC3 (j := ri.toNatClampNeg) (hr9.1) (by omega) (by omega) dX6_worth_46 ?_
          refine lv_goto (tgt := 56) hx hb dX6_worth_47 (by decide) ?_
          exact rl hx hb hr hlocks dX6_worth_56 (by unfold xWorth; first | rw [if_neg (fun q => hp q.1)] | rw [if_neg (fun q => absurd (c20.symm.trans q.2.1) (by decide))] | rw [if_neg (fun q => absurd (c29.symm.trans q.2.2) (by decide))] | (rw [if_pos ⟨hp, c20, c29⟩, if_pos c37, ← eπ]; done) | (rw [if_pos ⟨hp, c20, c29⟩, if_neg c37, ← eπ]; done))
      · skip
        have c29 := b2i_0.mp c29
        refine lv_ldc2 (v := -1) hx hb hown (hK.1.use _ _ tw_361) dX6_worth_32 ?_
        exact rl hx hb hr hlocks dX6_worth_35 (by unfold xWorth; first | rw [if_neg (fun q => hp q.1)] | rw [if_neg (fun q => absurd (c20.symm.trans q.2.1) (by decide))] | rw [if_neg (fun q => absurd (c29.symm.trans q.2.2) (by decide))] | (rw [if_pos ⟨hp, c20, c29⟩, if_pos c37, ← eπ]; done) | (rw [if_pos ⟨hp, c20, c29⟩, if_neg c37, ← eπ]; done))
  · skip
    refine asv (y := .null) (by rw [if_neg hp]; rfl) ?_
    refine lv_astoreN (lv' := [(4, .null), (0, .ref (ad 0)), (1, .int (pi)), (2, .int (ri)), (3, .int (how))]) hx hb dX6_worth_5 hl (by decide) rfl (fun ls hl => ?_)
    refine lv_aloadN hx hb dX6_worth_7 (lv_at hl 0 rfl) ?_
    refine lv_ifnullN (tgt := 32) hx hb dX6_worth_9 (by decide) ?_
    refine lv_ldc2 (v := -1) hx hb hown (hK.1.use _ _ tw_361) dX6_worth_32 ?_
    exact rl hx hb hr hlocks dX6_worth_35 (by unfold xWorth; first | rw [if_neg (fun q => hp q.1)] | rw [if_neg (fun q => absurd (c20.symm.trans q.2.1) (by decide))] | rw [if_neg (fun q => absurd (c29.symm.trans q.2.2) (by decide))] | (rw [if_pos ⟨hp, c20, c29⟩, if_pos c37, ← eπ]; done) | (rw [if_pos ⟨hp, c20, c29⟩, if_neg c37, ← eπ]; done))

set_option maxHeartbeats 4000000 in
set_option maxRecDepth 100000 in
theorem c_X6_check (l : Launch) (D : va_G) (cy : Nat → ClassId) (z0 : Nat) (ad : Nat → Nat) (V : Nat → Option va_E) (n k P K : Nat) (ce : Int32) (ρ : RuT) (pl : Nat → PlT) (sn : Nat → SnT) (hX : isX ad V cy n k P K ce ρ pl sn) (hO : okX n k P K ρ pl sn) (pi : Int32) : Met l yX6_check [Cond.code yX6_check cX6_check 3 (some .int)] { frames := 5, cells := 0, slots := 0, locals := 117 } (WP [.ref (ad 0), .int (pi)] D cy z0 ad V) (vp_Si (fun r => r = xCheck n k P ρ pl pi)) 0 0 (fun _ => False) := by
  refine met_of (by decide) (Nat.le_of_ble_eq_true rfl) (fun p e s m below meth c hx hb hr hml hown hlocks hnm hK hz hW ls hl => ?_)
  have hown : s.vm.findClass RX6 = some m.cls := hown
  have hl : lv_has ls 3 [(0, .ref (ad 0)), (1, .int (pi))] := hl
  obtain ⟨hX0, hB, hX3, hX4, hXp, hXs, hFx⟩ := id hX
  obtain ⟨hn40, hk, hP1, hP4, hK20, hOp, hOs⟩ := id hO
  have hk12 := hk.1
  obtain ⟨hB0, hB1, hBr⟩ := id hB
  refine lv_aload_n hx hb dX6_check_0 rfl (lv_at hl 0 rfl) ?_
  refine lv_iload_n hx hb dX6_check_1 rfl (lv_at hl 1 rfl) ?_
  refine va_csq (va_Run.run (va_runV (As := [.int (pi)]) (rest := []) ⟨hx, hb, hml, hown, hK.1.use _⟩ (c_X6_planAt l D cy z0 ad V n k P K ce ρ pl sn hX hO pi) (k_X6_X6_planAt hK.1 rfl rfl ⟨Nat.le_of_ble_eq_true rfl, Nat.le_of_ble_eq_true rfl⟩) (preV hK hz hW hX0 rfl) rfl rfl hl.1 rfl (lv_room (Nat.le_of_ble_eq_true rfl)) dX6_check_2 ⟨Nat.le_of_ble_eq_true rfl, Nat.le_of_ble_eq_true rfl⟩)) (fun r2 h2 => ?_)
  have h2 : r2 = if hasB P pi = true then some (ad (100 + 100 * pi.toNatClampNeg)) else none := h2
  subst h2
  by_cases hp : hasB P pi = true
  · skip
    have hb9 := hasB_of hp (by omega)
    obtain ⟨PB, ePB⟩ : ∃ PB, PB = 100 + 100 * pi.toNatClampNeg := ⟨_, rfl⟩
    refine asv (y := .ref (ad PB)) (by rw [if_pos hp, ← ePB]; rfl) ?_
    have hPq := hXp _ hb9.2
    have hOq := hOp _ hb9.2
    rw [← ePB] at hPq
    obtain ⟨π, eπ⟩ : ∃ π, π = pl pi.toNatClampNeg := ⟨_, rfl⟩
    rw [← eπ] at hPq hOq
    obtain ⟨M, kp, fb, ch, co, fo, bb, bn, ho, hm, hv, hs, nx, kn⟩ := π
    obtain ⟨⟨n2, M2, hC, hnn, hZ2⟩, hH⟩ := id hPq
    obtain ⟨hZ, hb60, hnx, hkn, hbk, hOk⟩ := hOq
    have hC : isC ad V cy PB n M n2 M2 kp fb ch co fo bb (nI bn) := hC
    have hH : isH ad V cy PB ho hm hv hs nx kn := hH
    have hZ : Zt n M := hZ
    have hb60 : bn ≤ 60 := hb60
    have hnx : nx < 60 := hnx
    have hkn : kn ≤ 60 := hkn
    have hbk : bb = true → bn ≤ kn := hbk
    have hOk : hOK n ho hm nx kn := hOk
    have hPB : 100 ≤ PB := by omega
    have hn2 : n2 ≤ 40 := by omega
    have hk12 := hk.1
    obtain ⟨hC0, hCT, hCU, hC3, hC4⟩ := id hC
    obtain ⟨hT0, hT1, hTr⟩ := id hCT
    obtain ⟨hU0, hU1, hUr⟩ := id hCU
    obtain ⟨hB0, hB1, hBr⟩ := id hB
    obtain ⟨hH0, hH1, hH2, hH3, hH4, hHr⟩ := id hH
    refine lv_astore_n (lv' := [(2, .ref (ad PB)), (0, .ref (ad 0)), (1, .int (pi))]) hx hb dX6_check_5 rfl hl (by decide) rfl (fun ls hl => ?_)
    refine lv_aload_n hx hb dX6_check_6 rfl (lv_at hl 0 rfl) ?_
    refine lv_ifnonnull (tgt := 14) hx hb dX6_check_7 (by decide) ?_
    refine lv_aload_n hx hb dX6_check_14 rfl (lv_at hl 0 rfl) ?_
    refine vp_callSi (va_Run.run (va_runV (As := []) (rest := []) ⟨hx, hb, hml, hown, hK.1.use _⟩ (c_X1_firstFalse l D cy z0 ad V PB n n2 k M M2 kp fb ch co fo (nI bn) bb ρ hC hB hk hn40 hn2 hPB) (k_X6_X1_firstFalse hK.1 rfl rfl ⟨Nat.le_of_ble_eq_true rfl, Nat.le_of_ble_eq_true rfl⟩) (preV hK hz hW hC0 rfl) rfl rfl hl.1 rfl (lv_room (Nat.le_of_ble_eq_true rfl)) dX6_check_15 ⟨Nat.le_of_ble_eq_true rfl, Nat.le_of_ble_eq_true rfl⟩)) (fun r15 h15 => ?_)
    have h15 : r15 = ffI (flB ρ M n kp) k 0 := h15
    subst h15
    exact ri hx hb hr hlocks dX6_check_18 (by unfold xCheck; first | rw [if_neg hp] | rw [if_pos hp, ← eπ])
  · skip
    refine asv (y := .null) (by rw [if_neg hp]; rfl) ?_
    refine lv_astore_nN (lv' := [(2, .null), (0, .ref (ad 0)), (1, .int (pi))]) hx hb dX6_check_5 rfl hl (by decide) rfl (fun ls hl => ?_)
    refine lv_aload_nN hx hb dX6_check_6 rfl (lv_at hl 0 rfl) ?_
    refine lv_ifnonnullN hx hb dX6_check_7 ?_
    refine lv_iconst (v := -1) hx hb dX6_check_10 (by decide) ?_
    refine lv_goto (tgt := 18) hx hb dX6_check_11 (by decide) ?_
    exact ri hx hb hr hlocks dX6_check_18 (by unfold xCheck; first | rw [if_neg hp] | rw [if_pos hp, ← eπ])

set_option maxHeartbeats 4000000 in
set_option maxRecDepth 100000 in
theorem c_X6_told (l : Launch) (D : va_G) (cy : Nat → ClassId) (z0 : Nat) (ad : Nat → Nat) (V : Nat → Option va_E) (n k P K : Nat) (ce : Int32) (ρ : RuT) (pl : Nat → PlT) (sn : Nat → SnT) (hX : isX ad V cy n k P K ce ρ pl sn) (hO : okX n k P K ρ pl sn) (pi wh : Int32) : Met l yX6_told [Cond.code yX6_told cX6_told 4 (some .int)] { frames := 3, cells := 0, slots := 0, locals := 63 } (WP [.ref (ad 0), .int (pi), .int (wh)] D cy z0 ad V) (vp_Si (fun r => r = xTold k P pl pi wh)) 0 0 (fun _ => False) := by
  refine met_of (by decide) (Nat.le_of_ble_eq_true rfl) (fun p e s m below meth c hx hb hr hml hown hlocks hnm hK hz hW ls hl => ?_)
  have hown : s.vm.findClass RX6 = some m.cls := hown
  have hl : lv_has ls 4 [(0, .ref (ad 0)), (1, .int (pi)), (2, .int (wh))] := hl
  obtain ⟨hX0, hB, hX3, hX4, hXp, hXs, hFx⟩ := id hX
  obtain ⟨hn40, hk, hP1, hP4, hK20, hOp, hOs⟩ := id hO
  have hk12 := hk.1
  obtain ⟨hB0, hB1, hBr⟩ := id hB
  refine lv_aload_n hx hb dX6_told_0 rfl (lv_at hl 0 rfl) ?_
  refine lv_iload_n hx hb dX6_told_1 rfl (lv_at hl 1 rfl) ?_
  refine va_csq (va_Run.run (va_runV (As := [.int (pi)]) (rest := []) ⟨hx, hb, hml, hown, hK.1.use _⟩ (c_X6_planAt l D cy z0 ad V n k P K ce ρ pl sn hX hO pi) (k_X6_X6_planAt hK.1 rfl rfl ⟨Nat.le_of_ble_eq_true rfl, Nat.le_of_ble_eq_true rfl⟩) (preV hK hz hW hX0 rfl) rfl rfl hl.1 rfl (lv_room (Nat.le_of_ble_eq_true rfl)) dX6_told_2 ⟨Nat.le_of_ble_eq_true rfl, Nat.le_of_ble_eq_true rfl⟩)) (fun r2 h2 => ?_)
  have h2 : r2 = if hasB P pi = true then some (ad (100 + 100 * pi.toNatClampNeg)) else none := h2
  subst h2
  by_cases hp : hasB P pi = true
  · skip
    have hb9 := hasB_of hp (by omega)
    obtain ⟨PB, ePB⟩ : ∃ PB, PB = 100 + 100 * pi.toNatClampNeg := ⟨_, rfl⟩
    refine asv (y := .ref (ad PB)) (by rw [if_pos hp, ← ePB]; rfl) ?_
    have hPq := hXp _ hb9.2
    have hOq := hOp _ hb9.2
    rw [← ePB] at hPq
    obtain ⟨π, eπ⟩ : ∃ π, π = pl pi.toNatClampNeg := ⟨_, rfl⟩
    rw [← eπ] at hPq hOq
    obtain ⟨M, kp, fb, ch, co, fo, bb, bn, ho, hm, hv, hs, nx, kn⟩ := π
    obtain ⟨⟨n2, M2, hC, hnn, hZ2⟩, hH⟩ := id hPq
    obtain ⟨hZ, hb60, hnx, hkn, hbk, hOk⟩ := hOq
    have hC : isC ad V cy PB n M n2 M2 kp fb ch co fo bb (nI bn) := hC
    have hH : isH ad V cy PB ho hm hv hs nx kn := hH
    have hZ : Zt n M := hZ
    have hb60 : bn ≤ 60 := hb60
    have hnx : nx < 60 := hnx
    have hkn : kn ≤ 60 := hkn
    have hbk : bb = true → bn ≤ kn := hbk
    have hOk : hOK n ho hm nx kn := hOk
    have hPB : 100 ≤ PB := by omega
    have hn2 : n2 ≤ 40 := by omega
    have hk12 := hk.1
    obtain ⟨hC0, hCT, hCU, hC3, hC4⟩ := id hC
    obtain ⟨hT0, hT1, hTr⟩ := id hCT
    obtain ⟨hU0, hU1, hUr⟩ := id hCU
    obtain ⟨hB0, hB1, hBr⟩ := id hB
    obtain ⟨hH0, hH1, hH2, hH3, hH4, hHr⟩ := id hH
    refine lv_astore_n (lv' := [(3, .ref (ad PB)), (0, .ref (ad 0)), (1, .int (pi)), (2, .int (wh))]) hx hb dX6_told_5 rfl hl (by decide) rfl (fun ls hl => ?_)
    refine lv_aload_n hx hb dX6_told_6 rfl (lv_at hl 0 rfl) ?_
    refine lv_ifnonnull (tgt := 14) hx hb dX6_told_7 (by decide) ?_
    refine lv_aload_n hx hb dX6_told_14 rfl (lv_at hl 0 rfl) ?_
    refine lv_iload_n hx hb dX6_told_15 rfl (lv_at hl 3 rfl) ?_
    refine vp_callSi (va_Run.run (va_runV (As := [.int (wh)]) (rest := []) ⟨hx, hb, hml, hown, hK.1.use _⟩ (c_X1_figure l D cy z0 ad V PB n n2 k M M2 kp fb ch co fo (nI bn) bb ρ hC hB hk hn40 hn2 hPB ho hm hv hs nx kn hH wh) (k_X6_X1_figure hK.1 rfl rfl ⟨Nat.le_of_ble_eq_true rfl, Nat.le_of_ble_eq_true rfl⟩) (preV hK hz hW hC0 rfl) rfl rfl hl.1 rfl (lv_room (Nat.le_of_ble_eq_true rfl)) dX6_told_16 ⟨Nat.le_of_ble_eq_true rfl, Nat.le_of_ble_eq_true rfl⟩)) (fun r16 h16 => ?_)
    have h16 : r16 = fgI k fb ch co fo bb kn wh := h16
    subst h16
    exact ri hx hb hr hlocks dX6_told_19 (by unfold xTold; first | rw [if_neg hp] | (rw [if_pos hp, ← eπ]; rfl))
  · skip
    refine asv (y := .null) (by rw [if_neg hp]; rfl) ?_
    refine lv_astore_nN (lv' := [(3, .null), (0, .ref (ad 0)), (1, .int (pi)), (2, .int (wh))]) hx hb dX6_told_5 rfl hl (by decide) rfl (fun ls hl => ?_)
    refine lv_aload_nN hx hb dX6_told_6 rfl (lv_at hl 0 rfl) ?_
    refine lv_ifnonnullN hx hb dX6_told_7 ?_
    refine lv_iconst (v := -1) hx hb dX6_told_10 (by decide) ?_
    refine lv_goto (tgt := 19) hx hb dX6_told_11 (by decide) ?_
    exact ri hx hb hr hlocks dX6_told_19 (by unfold xTold; first | rw [if_neg hp] | (rw [if_pos hp, ← eπ]; rfl))

set_option maxHeartbeats 4000000 in
set_option maxRecDepth 100000 in
theorem c_X6_kept (l : Launch) (D : va_G) (cy : Nat → ClassId) (z0 : Nat) (ad : Nat → Nat) (V : Nat → Option va_E) (n k P K : Nat) (ce : Int32) (ρ : RuT) (pl : Nat → PlT) (sn : Nat → SnT) (hX : isX ad V cy n k P K ce ρ pl sn) (hO : okX n k P K ρ pl sn) (x lv : Int32) : Met l yX6_kept [Cond.code yX6_kept cX6_kept 4 (some .long)] { frames := 2, cells := 0, slots := 0, locals := 42 } (WP [.ref (ad 0), .int (x), .int (lv)] D cy z0 ad V) (vp_Sl (fun r => r = xKept K sn x lv)) 0 0 (fun _ => False) := by
  refine met_of (by decide) (Nat.le_of_ble_eq_true rfl) (fun p e s m below meth c hx hb hr hml hown hlocks hnm hK hz hW ls hl => ?_)
  have hown : s.vm.findClass RX6 = some m.cls := hown
  have hl : lv_has ls 4 [(0, .ref (ad 0)), (1, .int (x)), (2, .int (lv))] := hl
  obtain ⟨hX0, hB, hX3, hX4, hXp, hXs, hFx⟩ := id hX
  obtain ⟨hn40, hk, hP1, hP4, hK20, hOp, hOs⟩ := id hO
  have hk12 := hk.1
  obtain ⟨hB0, hB1, hBr⟩ := id hB
  refine lv_aload_n hx hb dX6_kept_0 rfl (lv_at hl 0 rfl) ?_
  refine lv_iload_n hx hb dX6_kept_1 rfl (lv_at hl 1 rfl) ?_
  refine va_csq (va_Run.run (va_runV (As := [.int (x)]) (rest := []) ⟨hx, hb, hml, hown, hK.1.use _⟩ (c_X6_snapshotAt l D cy z0 ad V n k P K ce ρ pl sn hX hO x) (k_X6_X6_snapshotAt hK.1 rfl rfl ⟨Nat.le_of_ble_eq_true rfl, Nat.le_of_ble_eq_true rfl⟩) (preV hK hz hW hX0 rfl) rfl rfl hl.1 rfl (lv_room (Nat.le_of_ble_eq_true rfl)) dX6_kept_2 ⟨Nat.le_of_ble_eq_true rfl, Nat.le_of_ble_eq_true rfl⟩)) (fun r2 h2 => ?_)
  have h2 : r2 = if hasB K x = true then some (ad (1000 + 10 * x.toNatClampNeg)) else none := h2
  subst h2
  by_cases hp : hasB K x = true
  · skip
    have hb9 := hasB_of hp (by omega)
    obtain ⟨SB, eSB⟩ : ∃ SB, SB = 1000 + 10 * x.toNatClampNeg := ⟨_, rfl⟩
    refine asv (y := .ref (ad SB)) (by rw [if_pos hp, ← eSB]; rfl) ?_
    have hPq := hXs _ hb9.2
    have hOq := hOs _ hb9.2
    rw [← eSB] at hPq
    obtain ⟨σ, eσ⟩ : ∃ σ, σ = sn x.toNatClampNeg := ⟨_, rfl⟩
    rw [← eσ] at hPq hOq
    obtain ⟨ns, Ms, sc⟩ := σ
    obtain ⟨hS0, hST, hS2⟩ := id hPq
    dsimp only at hS0 hST hS2 hOq
    obtain ⟨hT0, hT1, hTr⟩ := id hST
    refine lv_astore_n (lv' := [(3, .ref (ad SB)), (0, .ref (ad 0)), (1, .int (x)), (2, .int (lv))]) hx hb dX6_kept_5 rfl hl (by decide) rfl (fun ls hl => ?_)
    refine lv_aload_n hx hb dX6_kept_6 rfl (lv_at hl 0 rfl) ?_
    refine lv_ifnull hx hb dX6_kept_7 ?_
    refine lv_iload_n hx hb dX6_kept_10 rfl (lv_at hl 3 rfl) ?_
    refine vp_callSi (va_Run.run (va_runS (As := [.int (lv)]) (rest := []) ⟨hx, hb, hml, hown, hK.1.use _⟩ (c_X6_isLevel l D cy z0 ad V lv) (k_X6_X6_isLevel hK.1 rfl rfl ⟨Nat.le_of_ble_eq_true rfl, Nat.le_of_ble_eq_true rfl⟩) (preS hK hz hW) rfl rfl hl.1 rfl (lv_room (Nat.le_of_ble_eq_true rfl)) dX6_kept_11 ⟨Nat.le_of_ble_eq_true rfl, Nat.le_of_ble_eq_true rfl⟩)) (fun r11 h11 => ?_)
    have h11 : r11 = b2i (wiB lv (nI 0) (nI 2)) := h11
    subst h11
    refine lv_if_ne (tgt := 23) hx hb dX6_kept_14 (by decide) (fun c14 => ?_) (fun c14 => ?_)
    · skip
      have c14 := b2i_1.mp c14
      have hl9 := wiB_of (b := 2) c14 (by omega)
      refine lv_aload_n hx hb dX6_kept_23 rfl (lv_at hl 0 rfl) ?_
      refine g_X6_X4_scores hx hb hown hK hW hS0 dX6_kept_24 ?_
      refine lv_iload_n hx hb dX6_kept_27 rfl (lv_at hl 3 rfl) ?_
      refine w_lald hx hb hK hW hS2 (j := lv.toNatClampNeg) (hl9.1) (by omega) (by omega) dX6_kept_28 ?_
      exact rl hx hb hr hlocks dX6_kept_29 (by unfold xKept; first | rw [if_neg (fun q => hp q.1)] | (rw [if_pos ⟨hp, c14⟩, ← eσ]; done) | rw [if_neg (fun q => absurd (c14.symm.trans q.2) (by decide))])
    · skip
      have c14 := b2i_0.mp c14
      refine lv_ldc2 (v := -1) hx hb hown (hK.1.use _ _ tw_361) dX6_kept_17 ?_
      refine lv_goto (tgt := 29) hx hb dX6_kept_20 (by decide) ?_
      exact rl hx hb hr hlocks dX6_kept_29 (by unfold xKept; first | rw [if_neg (fun q => hp q.1)] | (rw [if_pos ⟨hp, c14⟩, ← eσ]; done) | rw [if_neg (fun q => absurd (c14.symm.trans q.2) (by decide))])
  · skip
    refine asv (y := .null) (by rw [if_neg hp]; rfl) ?_
    refine lv_astore_nN (lv' := [(3, .null), (0, .ref (ad 0)), (1, .int (x)), (2, .int (lv))]) hx hb dX6_kept_5 rfl hl (by decide) rfl (fun ls hl => ?_)
    refine lv_aload_nN hx hb dX6_kept_6 rfl (lv_at hl 0 rfl) ?_
    refine lv_ifnullN (tgt := 17) hx hb dX6_kept_7 (by decide) ?_
    refine lv_ldc2 (v := -1) hx hb hown (hK.1.use _ _ tw_361) dX6_kept_17 ?_
    refine lv_goto (tgt := 29) hx hb dX6_kept_20 (by decide) ?_
    exact rl hx hb hr hlocks dX6_kept_29 (by unfold xKept; first | rw [if_neg (fun q => hp q.1)] | (rw [if_pos ⟨hp, c14⟩, ← eσ]; done) | rw [if_neg (fun q => absurd (c14.symm.trans q.2) (by decide))])

set_option maxHeartbeats 4000000 in
set_option maxRecDepth 100000 in
theorem c_X6_then (l : Launch) (D : va_G) (cy : Nat → ClassId) (z0 : Nat) (ad : Nat → Nat) (V : Nat → Option va_E) (n k P K : Nat) (ce : Int32) (ρ : RuT) (pl : Nat → PlT) (sn : Nat → SnT) (hX : isX ad V cy n k P K ce ρ pl sn) (hO : okX n k P K ρ pl sn) (x o mi : Int32) : Met l yX6_then [Cond.code yX6_then cX6_then 5 (some .int)] { frames := 2, cells := 0, slots := 0, locals := 44 } (WP [.ref (ad 0), .int (x), .int (o), .int (mi)] D cy z0 ad V) (vp_Si (fun r => r = xThen K sn x o mi)) 0 0 (fun _ => False) := by
  refine met_of (by decide) (Nat.le_of_ble_eq_true rfl) (fun p e s m below meth c hx hb hr hml hown hlocks hnm hK hz hW ls hl => ?_)
  have hown : s.vm.findClass RX6 = some m.cls := hown
  have hl : lv_has ls 5 [(0, .ref (ad 0)), (1, .int (x)), (2, .int (o)), (3, .int (mi))] := hl
  obtain ⟨hX0, hB, hX3, hX4, hXp, hXs, hFx⟩ := id hX
  obtain ⟨hn40, hk, hP1, hP4, hK20, hOp, hOs⟩ := id hO
  have hk12 := hk.1
  obtain ⟨hB0, hB1, hBr⟩ := id hB
  refine lv_aload_n hx hb dX6_then_0 rfl (lv_at hl 0 rfl) ?_
  refine lv_iload_n hx hb dX6_then_1 rfl (lv_at hl 1 rfl) ?_
  refine va_csq (va_Run.run (va_runV (As := [.int (x)]) (rest := []) ⟨hx, hb, hml, hown, hK.1.use _⟩ (c_X6_snapshotAt l D cy z0 ad V n k P K ce ρ pl sn hX hO x) (k_X6_X6_snapshotAt hK.1 rfl rfl ⟨Nat.le_of_ble_eq_true rfl, Nat.le_of_ble_eq_true rfl⟩) (preV hK hz hW hX0 rfl) rfl rfl hl.1 rfl (lv_room (Nat.le_of_ble_eq_true rfl)) dX6_then_2 ⟨Nat.le_of_ble_eq_true rfl, Nat.le_of_ble_eq_true rfl⟩)) (fun r2 h2 => ?_)
  have h2 : r2 = if hasB K x = true then some (ad (1000 + 10 * x.toNatClampNeg)) else none := h2
  subst h2
  by_cases hp : hasB K x = true
  · skip
    have hb9 := hasB_of hp (by omega)
    obtain ⟨SB, eSB⟩ : ∃ SB, SB = 1000 + 10 * x.toNatClampNeg := ⟨_, rfl⟩
    refine asv (y := .ref (ad SB)) (by rw [if_pos hp, ← eSB]; rfl) ?_
    have hPq := hXs _ hb9.2
    have hOq := hOs _ hb9.2
    rw [← eSB] at hPq
    obtain ⟨σ, eσ⟩ : ∃ σ, σ = sn x.toNatClampNeg := ⟨_, rfl⟩
    rw [← eσ] at hPq hOq
    obtain ⟨ns, Ms, sc⟩ := σ
    obtain ⟨hS0, hST, hS2⟩ := id hPq
    dsimp only at hS0 hST hS2 hOq
    obtain ⟨hT0, hT1, hTr⟩ := id hST
    refine lv_astore (lv' := [(4, .ref (ad SB)), (0, .ref (ad 0)), (1, .int (x)), (2, .int (o)), (3, .int (mi))]) hx hb dX6_then_5 hl (by decide) rfl (fun ls hl => ?_)
    refine lv_aload hx hb dX6_then_7 (lv_at hl 0 rfl) ?_
    refine lv_ifnonnull (tgt := 17) hx hb dX6_then_9 (by decide) ?_
    refine lv_aload hx hb dX6_then_17 (lv_at hl 0 rfl) ?_
    refine g_X6_X4_members hx hb hown hK hW hS0 dX6_then_19 ?_
    refine lv_iload_n hx hb dX6_then_22 rfl (lv_at hl 3 rfl) ?_
    refine lv_iload_n hx hb dX6_then_23 rfl (lv_at hl 4 rfl) ?_
    refine vp_callSi (va_Run.run (va_runV (As := [.int (o), .int (mi)]) (rest := []) ⟨hx, hb, hml, hown, hK.1.use _⟩ (c_X5_read l D cy z0 ad V (SB + 1) ns Ms hST hOq o mi) (k_X6_X5_read hK.1 rfl rfl ⟨Nat.le_of_ble_eq_true rfl, Nat.le_of_ble_eq_true rfl⟩) (preV hK hz hW hT0 rfl) rfl rfl hl.1 rfl (lv_room (Nat.le_of_ble_eq_true rfl)) dX6_then_24 ⟨Nat.le_of_ble_eq_true rfl, Nat.le_of_ble_eq_true rfl⟩)) (fun r24 h24 => ?_)
    have h24 : r24 = rdM ns Ms o mi := h24
    subst h24
    exact ri hx hb hr hlocks dX6_then_27 (by unfold xThen; first | rw [if_neg hp] | rw [if_pos hp, ← eσ])
  · skip
    refine asv (y := .null) (by rw [if_neg hp]; rfl) ?_
    refine lv_astoreN (lv' := [(4, .null), (0, .ref (ad 0)), (1, .int (x)), (2, .int (o)), (3, .int (mi))]) hx hb dX6_then_5 hl (by decide) rfl (fun ls hl => ?_)
    refine lv_aloadN hx hb dX6_then_7 (lv_at hl 0 rfl) ?_
    refine lv_ifnonnullN hx hb dX6_then_9 ?_
    refine lv_ldc (v := -1000000) hx hb hown (hK.1.use _ _ tw_241) dX6_then_12 ?_
    refine lv_goto (tgt := 27) hx hb dX6_then_14 (by decide) ?_
    exact ri hx hb hr hlocks dX6_then_27 (by unfold xThen; first | rw [if_neg hp] | rw [if_pos hp, ← eσ])

set_option maxHeartbeats 4000000 in
set_option maxRecDepth 100000 in
theorem c_X6_all (l : Launch) (D : va_G) (cy : Nat → ClassId) (z0 : Nat) (ad : Nat → Nat) (V : Nat → Option va_E) (n k P K : Nat) (ce : Int32) (ρ : RuT) (pl : Nat → PlT) (sn : Nat → SnT) (hX : isX ad V cy n k P K ce ρ pl sn) (hO : okX n k P K ρ pl sn) (wh : Int32) : Met l yX6_all [Cond.code yX6_all cX6_all 2 (some .int)] { frames := 0, cells := 0, slots := 0, locals := 0 } (WP [.ref (ad 0), .int (wh)] D cy z0 ad V) (vp_Si (fun r => r = xAll n k P K ce wh)) 0 0 (fun _ => False) := by
  refine met_of (by decide) (Nat.le_of_ble_eq_true rfl) (fun p e s m below meth c hx hb hr hml hown hlocks hnm hK hz hW ls hl => ?_)
  have hown : s.vm.findClass RX6 = some m.cls := hown
  have hl : lv_has ls 2 [(0, .ref (ad 0)), (1, .int (wh))] := hl
  obtain ⟨hX0, hB, hX3, hX4, hXp, hXs, hFx⟩ := id hX
  obtain ⟨hn40, hk, hP1, hP4, hK20, hOp, hOs⟩ := id hO
  have hk12 := hk.1
  obtain ⟨hB0, hB1, hBr⟩ := id hB
  obtain ⟨⟨n2, M2, hC, hnn, hZ2⟩, hH⟩ := hXp 0 (by omega)
  obtain ⟨hC0, hCT, hCU, hC3, hC4⟩ := id hC
  obtain ⟨hT0, hT1, hTr⟩ := id hCT
  refine lv_iload_n hx hb dX6_all_0 rfl (lv_at hl 1 rfl) ?_
  by_cases hq0 : wh = nI 0
  · skip
    refine asi (y := nI 0) (by rw [hq0]) ?_
    refine lv_tableIn (off := 35) (tgt := 36) hx hb dX6_all_1 (by decide) (by decide) (by decide) (by decide) ?_
    refine lv_aload_n hx hb dX6_all_36 rfl (lv_at hl 0 rfl) ?_
    refine g_X6_X6_plans hx hb hown hK hW hX0 dX6_all_37 ?_
    refine lv_iconst (v := nI 0) hx hb dX6_all_40 (by decide) ?_
    refine w_aald hx hb hK hW 5 rfl rfl hX3 (j := 0) (rfl) (by omega) (by omega) dX6_all_41 ?_
    refine asv (y := .ref (ad (100 + 100 * 0))) (elP (by omega)) ?_
    refine g_X6_X1_now hx hb hown hK hW hC0 dX6_all_42 ?_
    refine g_X6_X5_objects hx hb hown hK hW hT0 dX6_all_45 ?_
    exact ri hx hb hr hlocks dX6_all_48 (by unfold xAll; rw [if_pos hq0])
  · skip
    by_cases hq1 : wh = nI 1
    · skip
      refine asi (y := nI 1) (by rw [hq1]) ?_
      refine lv_tableIn (off := 48) (tgt := 49) hx hb dX6_all_1 (by decide) (by decide) (by decide) (by decide) ?_
      refine lv_aload_n hx hb dX6_all_49 rfl (lv_at hl 0 rfl) ?_
      refine g_X6_X6_book hx hb hown hK hW hX0 dX6_all_50 ?_
      refine g_X6_X3_size hx hb hown hK hW hB0 dX6_all_53 ?_
      exact ri hx hb hr hlocks dX6_all_56 (by unfold xAll; rw [if_neg hq0, if_pos hq1])
    · skip
      by_cases hq2 : wh = nI 2
      · skip
        refine asi (y := nI 2) (by rw [hq2]) ?_
        refine lv_tableIn (off := 56) (tgt := 57) hx hb dX6_all_1 (by decide) (by decide) (by decide) (by decide) ?_
        refine lv_aload_n hx hb dX6_all_57 rfl (lv_at hl 0 rfl) ?_
        refine g_X6_X6_planCount hx hb hown hK hW hX0 dX6_all_58 ?_
        exact ri hx hb hr hlocks dX6_all_61 (by unfold xAll; rw [if_neg hq0, if_neg hq1, if_pos hq2])
      · skip
        by_cases hq3 : wh = nI 3
        · skip
          refine asi (y := nI 3) (by rw [hq3]) ?_
          refine lv_tableIn (off := 61) (tgt := 62) hx hb dX6_all_1 (by decide) (by decide) (by decide) (by decide) ?_
          refine lv_aload_n hx hb dX6_all_62 rfl (lv_at hl 0 rfl) ?_
          refine g_X6_X6_checkEvery hx hb hown hK hW hX0 dX6_all_63 ?_
          exact ri hx hb hr hlocks dX6_all_66 (by unfold xAll; rw [if_neg hq0, if_neg hq1, if_neg hq2, if_pos hq3])
        · skip
          by_cases hq4 : wh = nI 4
          · skip
            refine asi (y := nI 4) (by rw [hq4]) ?_
            refine lv_tableIn (off := 66) (tgt := 67) hx hb dX6_all_1 (by decide) (by decide) (by decide) (by decide) ?_
            refine lv_aload_n hx hb dX6_all_67 rfl (lv_at hl 0 rfl) ?_
            refine g_X6_X6_snapshotCount hx hb hown hK hW hX0 dX6_all_68 ?_
            exact ri hx hb hr hlocks dX6_all_71 (by unfold xAll; rw [if_neg hq0, if_neg hq1, if_neg hq2, if_neg hq3, if_pos hq4])
          · skip
            refine lv_tableOut (tgt := 72) hx hb dX6_all_1 (swO 4 (fun k hk => by have hk3 : k = 0 ∨ k = 1 ∨ k = 2 ∨ k = 3 ∨ k = 4 := (by omega); rcases hk3 with rfl | rfl | rfl | rfl | rfl <;> assumption)) (by decide) ?_
            refine lv_iconst (v := -1) hx hb dX6_all_72 (by decide) ?_
            exact ri hx hb hr hlocks dX6_all_73 (by unfold xAll; rw [if_neg hq0, if_neg hq1, if_neg hq2, if_neg hq3, if_neg hq4])
