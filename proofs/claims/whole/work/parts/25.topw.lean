set_option maxHeartbeats 4000000 in
set_option maxRecDepth 100000 in
theorem c_X6_change (l : Launch) (D : va_G) (cy : Nat → ClassId) (z0 : Nat) (ad : Nat → Nat) (V : Nat → Option va_E) (n k P K : Nat) (ce : Int32) (ρ : RuT) (pl : Nat → PlT) (sn : Nat → SnT) (hX : isX ad V cy n k P K ce ρ pl sn) (hO : okX n k P K ρ pl sn) (pi o mi v : Int32) : Met l yX6_change [Cond.code yX6_change cX6_change 6 (some .int)] { frames := 6, cells := 0, slots := 0, locals := 143 } (WP [.ref (ad 0), .int (pi), .int (o), .int (mi), .int (v)] D cy z0 ad V) (va_Qi (fun r u => r = (xPl P pl pi (plChange n k ce ρ o mi v)).1 ∧ u.1 = ad ∧ isX ad u.2 cy n k P K ce ρ (xPl P pl pi (plChange n k ce ρ o mi v)).2 sn ∧ ∀ L, 2000 ≤ L → u.2 L = V L) (WB D z0) (AA z0)) 0 0 (AA z0) := by
  refine met_of (by decide) (Nat.le_of_ble_eq_true rfl) (fun p e s m below meth c hx hb hr hml hown hlocks hnm hK hz hW ls hl => ?_)
  have hown : s.vm.findClass RX6 = some m.cls := hown
  have hl : lv_has ls 6 [(0, .ref (ad 0)), (1, .int (pi)), (2, .int (o)), (3, .int (mi)), (4, .int (v))] := hl
  have hS : va_S (AA z0) s.heap s.heap [] := va_S.rf
  obtain ⟨hX0, hB, hX3, hX4, hXp, hXs, hFx⟩ := id hX
  obtain ⟨hn40, hk, hP1, hP4, hK20, hOp, hOs⟩ := id hO
  have hk12 := hk.1
  obtain ⟨hB0, hB1, hBr⟩ := id hB
  refine lv_aload_n hx hb dX6_change_0 rfl (lv_at hl 0 rfl) ?_
  refine lv_iload_n hx hb dX6_change_1 rfl (lv_at hl 1 rfl) ?_
  refine va_csq (va_Run.run (va_runV (As := [.int (pi)]) (rest := []) ⟨hx, hb, hml, hown, hK.1.use _⟩ (c_X6_planAt l D cy z0 ad V n k P K ce ρ pl sn hX hO pi) (k_X6_X6_planAt hK.1 rfl rfl ⟨Nat.le_of_ble_eq_true rfl, Nat.le_of_ble_eq_true rfl⟩) (preV hK hz hW hX0 rfl) rfl rfl hl.1 rfl (lv_room (Nat.le_of_ble_eq_true rfl)) dX6_change_2 ⟨Nat.le_of_ble_eq_true rfl, Nat.le_of_ble_eq_true rfl⟩)) (fun r2 h2 => ?_)
  have h2 : r2 = if hasB P pi = true then some (ad (100 + 100 * pi.toNatClampNeg)) else none := h2
  subst h2
  by_cases hp : hasB P pi = true
  · skip
    have hb9 := hasB_of hp (by omega)
    obtain ⟨PB, ePB⟩ : ∃ PB, PB = 100 + 100 * pi.toNatClampNeg := ⟨_, rfl⟩
    refine asv (y := .ref (ad PB)) (by rw [if_pos hp, ← ePB]; rfl) ?_
    have hPq := hXp _ hb9.2
    have hOq := hOp _ hb9.2
    rw [← ePB] at hPq
    obtain ⟨π, eπ⟩ : ∃ π, π = pl pi.toNatClampNeg := ⟨_, rfl⟩
    rw [← eπ] at hPq hOq
    obtain ⟨M, kp, fb, ch, co, fo, bb, bn, ho, hm, hv, hs, nx, kn⟩ := π
    obtain ⟨⟨n2, M2, hC, hnn, hZ2⟩, hH⟩ := id hPq
    obtain ⟨hZ, hb60, hnx, hkn, hbk, hOk⟩ := hOq
    have hC : isC ad V cy PB n M n2 M2 kp fb ch co fo bb (nI bn) := hC
    have hH : isH ad V cy PB ho hm hv hs nx kn := hH
    have hZ : Zt n M := hZ
    have hb60 : bn ≤ 60 := hb60
    have hnx : nx < 60 := hnx
    have hkn : kn ≤ 60 := hkn
    have hbk : bb = true → bn ≤ kn := hbk
    have hOk : hOK n ho hm nx kn := hOk
    have hPB : 100 ≤ PB := by omega
    have hn2 : n2 ≤ 40 := by omega
    have hk12 := hk.1
    obtain ⟨hC0, hCT, hCU, hC3, hC4⟩ := id hC
    obtain ⟨hT0, hT1, hTr⟩ := id hCT
    obtain ⟨hU0, hU1, hUr⟩ := id hCU
    obtain ⟨hB0, hB1, hBr⟩ := id hB
    obtain ⟨hH0, hH1, hH2, hH3, hH4, hHr⟩ := id hH
    refine lv_astore (lv' := [(5, .ref (ad PB)), (0, .ref (ad 0)), (1, .int (pi)), (2, .int (o)), (3, .int (mi)), (4, .int (v))]) hx hb dX6_change_5 hl (by decide) rfl (fun ls hl => ?_)
    refine lv_aload hx hb dX6_change_7 (lv_at hl 0 rfl) ?_
    refine lv_ifnonnull (tgt := 16) hx hb dX6_change_9 (by decide) ?_
    refine lv_aload hx hb dX6_change_16 (lv_at hl 0 rfl) ?_
    refine lv_iload_n hx hb dX6_change_18 rfl (lv_at hl 3 rfl) ?_
    refine lv_iload_n hx hb dX6_change_19 rfl (lv_at hl 4 rfl) ?_
    refine lv_iload hx hb dX6_change_20 (lv_at hl 5 rfl) ?_
    refine lv_aload_n hx hb dX6_change_22 rfl (lv_at hl 1 rfl) ?_
    refine g_X6_X6_checkEvery hx hb hown hK hW hX0 dX6_change_23 ?_
    refine ci (va_runV (As := [.int (o), .int (mi), .int (v), .int (ce)]) (rest := []) ⟨hx, hb, hml, hown, hK.1.use _⟩ (c_X1_makeChange l D cy z0 ad V PB n n2 k M M2 kp fb ch co fo (nI bn) bb ρ hC hB hk hn40 hn2 hPB ho hm hv hs nx kn hH hnn hZ hZ2 bn rfl hb60 hnx hkn o mi v ce) (k_X6_X1_makeChange hK.1 rfl rfl ⟨Nat.le_of_ble_eq_true rfl, Nat.le_of_ble_eq_true rfl⟩) (preV hK hz hW hC0 rfl) rfl rfl hl.1 rfl (lv_room (Nat.le_of_ble_eq_true rfl)) dX6_change_26 ⟨Nat.le_of_ble_eq_true rfl, Nat.le_of_ble_eq_true rfl⟩) hS (fun r26 ad26 Vc26 H locs h26 hW hS => ?_)
    exact rwi hx hb hr hlocks dX6_change_29 hW hS (by
      by_cases ht : tkB n (M 2) o mi v = true
      · obtain ⟨g1, g2, g3, g4, g5⟩ := h26.2 ht
        obtain ⟨oo, mm, hoo, eo, hm3, em⟩ := tkB_of ht (by omega)
        have eoc : o.toNatClampNeg = oo := by rw [eo]; exact nI_clamp (by omega)
        exact xPl_new hX hO hp ePB g2 (by rw [← eπ, g1]; exact if_pos ht) ⟨⟨n, _, g3, Nat.le_refl n, Zt_put hZ v (by omega)⟩, g4⟩ g5
      · obtain ⟨g1, g2⟩ := h26.1 (by simpa using ht)
        obtain ⟨rfl, rfl⟩ : ad26 = ad ∧ Vc26 = V := Prod.mk.inj g2
        rw [g1]
        exact xPl_same hX hp (by rw [← eπ]; exact if_neg ht))
  · skip
    refine asv (y := .null) (by rw [if_neg hp]; rfl) ?_
    refine lv_astoreN (lv' := [(5, .null), (0, .ref (ad 0)), (1, .int (pi)), (2, .int (o)), (3, .int (mi)), (4, .int (v))]) hx hb dX6_change_5 hl (by decide) rfl (fun ls hl => ?_)
    refine lv_aloadN hx hb dX6_change_7 (lv_at hl 0 rfl) ?_
    refine lv_ifnonnullN hx hb dX6_change_9 ?_
    refine lv_iconst (v := -1) hx hb dX6_change_12 (by decide) ?_
    refine lv_goto (tgt := 29) hx hb dX6_change_13 (by decide) ?_
    exact rwi hx hb hr hlocks dX6_change_29 hW hS (xPl_none hX hp)

set_option maxHeartbeats 4000000 in
set_option maxRecDepth 100000 in
theorem c_X6_attempt (l : Launch) (D : va_G) (cy : Nat → ClassId) (z0 : Nat) (ad : Nat → Nat) (V : Nat → Option va_E) (n k P K : Nat) (ce : Int32) (ρ : RuT) (pl : Nat → PlT) (sn : Nat → SnT) (hX : isX ad V cy n k P K ce ρ pl sn) (hO : okX n k P K ρ pl sn) (pi o mi v lv : Int32) : Met l yX6_attempt [Cond.code yX6_attempt cX6_attempt 7 (some .long)] { frames := 6, cells := 0, slots := 0, locals := 145 } (WP [.ref (ad 0), .int (pi), .int (o), .int (mi), .int (v), .int (lv)] D cy z0 ad V) (va_Ql (fun r u => r = xAttempt n k P ρ pl pi o mi v lv ∧ u.1 = ad ∧ isX ad u.2 cy n k P K ce ρ pl sn ∧ ∀ L, 2000 ≤ L → u.2 L = V L) (WB D z0) (AA z0)) 0 0 (AA z0) := by
  refine met_of (by decide) (Nat.le_of_ble_eq_true rfl) (fun p e s m below meth c hx hb hr hml hown hlocks hnm hK hz hW ls hl => ?_)
  have hown : s.vm.findClass RX6 = some m.cls := hown
  have hl : lv_has ls 7 [(0, .ref (ad 0)), (1, .int (pi)), (2, .int (o)), (3, .int (mi)), (4, .int (v)), (5, .int (lv))] := hl
  have hS : va_S (AA z0) s.heap s.heap [] := va_S.rf
  obtain ⟨hX0, hB, hX3, hX4, hXp, hXs, hFx⟩ := id hX
  obtain ⟨hn40, hk, hP1, hP4, hK20, hOp, hOs⟩ := id hO
  have hk12 := hk.1
  obtain ⟨hB0, hB1, hBr⟩ := id hB
  refine lv_aload_n hx hb dX6_attempt_0 rfl (lv_at hl 0 rfl) ?_
  refine lv_iload_n hx hb dX6_attempt_1 rfl (lv_at hl 1 rfl) ?_
  refine va_csq (va_Run.run (va_runV (As := [.int (pi)]) (rest := []) ⟨hx, hb, hml, hown, hK.1.use _⟩ (c_X6_planAt l D cy z0 ad V n k P K ce ρ pl sn hX hO pi) (k_X6_X6_planAt hK.1 rfl rfl ⟨Nat.le_of_ble_eq_true rfl, Nat.le_of_ble_eq_true rfl⟩) (preV hK hz hW hX0 rfl) rfl rfl hl.1 rfl (lv_room (Nat.le_of_ble_eq_true rfl)) dX6_attempt_2 ⟨Nat.le_of_ble_eq_true rfl, Nat.le_of_ble_eq_true rfl⟩)) (fun r2 h2 => ?_)
  have h2 : r2 = if hasB P pi = true then some (ad (100 + 100 * pi.toNatClampNeg)) else none := h2
  subst h2
  by_cases hp : hasB P pi = true
  · skip
    have hb9 := hasB_of hp (by omega)
    obtain ⟨PB, ePB⟩ : ∃ PB, PB = 100 + 100 * pi.toNatClampNeg := ⟨_, rfl⟩
    refine asv (y := .ref (ad PB)) (by rw [if_pos hp, ← ePB]; rfl) ?_
    have hPq := hXp _ hb9.2
    have hOq := hOp _ hb9.2
    rw [← ePB] at hPq
    obtain ⟨π, eπ⟩ : ∃ π, π = pl pi.toNatClampNeg := ⟨_, rfl⟩
    rw [← eπ] at hPq hOq
    obtain ⟨M, kp, fb, ch, co, fo, bb, bn, ho, hm, hv, hs, nx, kn⟩ := π
    obtain ⟨⟨n2, M2, hC, hnn, hZ2⟩, hH⟩ := id hPq
    obtain ⟨hZ, hb60, hnx, hkn, hbk, hOk⟩ := hOq
    have hC : isC ad V cy PB n M n2 M2 kp fb ch co fo bb (nI bn) := hC
    have hH : isH ad V cy PB ho hm hv hs nx kn := hH
    have hZ : Zt n M := hZ
    have hb60 : bn ≤ 60 := hb60
    have hnx : nx < 60 := hnx
    have hkn : kn ≤ 60 := hkn
    have hbk : bb = true → bn ≤ kn := hbk
    have hOk : hOK n ho hm nx kn := hOk
    have hPB : 100 ≤ PB := by omega
    have hn2 : n2 ≤ 40 := by omega
    have hk12 := hk.1
    obtain ⟨hC0, hCT, hCU, hC3, hC4⟩ := id hC
    obtain ⟨hT0, hT1, hTr⟩ := id hCT
    obtain ⟨hU0, hU1, hUr⟩ := id hCU
    obtain ⟨hB0, hB1, hBr⟩ := id hB
    obtain ⟨hH0, hH1, hH2, hH3, hH4, hHr⟩ := id hH
    refine lv_astore (lv' := [(6, .ref (ad PB)), (0, .ref (ad 0)), (1, .int (pi)), (2, .int (o)), (3, .int (mi)), (4, .int (v)), (5, .int (lv))]) hx hb dX6_attempt_5 hl (by decide) rfl (fun ls hl => ?_)
    refine lv_aload hx hb dX6_attempt_7 (lv_at hl 0 rfl) ?_
    refine lv_ifnull hx hb dX6_attempt_9 ?_
    refine lv_iload hx hb dX6_attempt_12 (lv_at hl 6 rfl) ?_
    refine vp_callSi (va_Run.run (va_runS (As := [.int (lv)]) (rest := []) ⟨hx, hb, hml, hown, hK.1.use _⟩ (c_X6_isLevel l D cy z0 ad V lv) (k_X6_X6_isLevel hK.1 rfl rfl ⟨Nat.le_of_ble_eq_true rfl, Nat.le_of_ble_eq_true rfl⟩) (preS hK hz hW) rfl rfl hl.1 rfl (lv_room (Nat.le_of_ble_eq_true rfl)) dX6_attempt_14 ⟨Nat.le_of_ble_eq_true rfl, Nat.le_of_ble_eq_true rfl⟩)) (fun r14 h14 => ?_)
    have h14 : r14 = b2i (wiB lv (nI 0) (nI 2)) := h14
    subst h14
    refine lv_if_ne (tgt := 26) hx hb dX6_attempt_17 (by decide) (fun c17 => ?_) (fun c17 => ?_)
    · skip
      have c17 := b2i_1.mp c17
      refine lv_aload hx hb dX6_attempt_26 (lv_at hl 0 rfl) ?_
      refine lv_iload_n hx hb dX6_attempt_28 rfl (lv_at hl 3 rfl) ?_
      refine lv_iload_n hx hb dX6_attempt_29 rfl (lv_at hl 4 rfl) ?_
      refine lv_iload hx hb dX6_attempt_30 (lv_at hl 5 rfl) ?_
      refine lv_iload hx hb dX6_attempt_32 (lv_at hl 6 rfl) ?_
      refine cl (va_runV (As := [.int (o), .int (mi), .int (v), .int (lv)]) (rest := []) ⟨hx, hb, hml, hown, hK.1.use _⟩ (c_X1_scoreBehind l D cy z0 ad V PB n n2 k M M2 kp fb ch co fo (nI bn) bb ρ hC hB hk hn40 hn2 hPB hnn hZ hZ2 o mi v lv) (k_X6_X1_scoreBehind hK.1 rfl rfl ⟨Nat.le_of_ble_eq_true rfl, Nat.le_of_ble_eq_true rfl⟩) (preV hK hz hW hC0 rfl) rfl rfl hl.1 rfl (lv_room (Nat.le_of_ble_eq_true rfl)) dX6_attempt_34 ⟨Nat.le_of_ble_eq_true rfl, Nat.le_of_ble_eq_true rfl⟩) hS (fun r34 ad34 Vc34 H locs h34 hW hS => ?_)
      exact rwl hx hb hr hlocks dX6_attempt_37 hW hS (by
      obtain ⟨g1, g2, ⟨n3, M3, g3, g4, g5⟩, g6⟩ := h34
      have hq : isX ad Vc34 cy n k P K ce ρ (va_up pl pi.toNatClampNeg (pl pi.toNatClampNeg)) sn := hX.pl hO hb9.2 ePB (by rw [← eπ]; exact ⟨⟨n3, M3, g3, g4, g5⟩, hH.mv (fun L a b => g6 L (by omega))⟩) (fun L hL => g6 L (by omega))
      rw [up_id] at hq
      refine ⟨?_, g2, hq, fun L hL => g6 L (by omega)⟩
      unfold xAttempt
      rw [← eπ]
      exact g1.trans (if_pos ⟨hp, c17⟩).symm)
    · skip
      have c17 := b2i_0.mp c17
      refine lv_ldc2 (v := -1) hx hb hown (hK.1.use _ _ tw_361) dX6_attempt_20 ?_
      refine lv_goto (tgt := 37) hx hb dX6_attempt_23 (by decide) ?_
      exact rwl hx hb hr hlocks dX6_attempt_37 hW hS (⟨by unfold xAttempt; first | rw [if_neg (fun q => hp q.1)] | rw [if_neg (fun q => absurd (c17.symm.trans q.2) (by decide))], rfl, hX, fun L _ => rfl⟩)
  · skip
    refine asv (y := .null) (by rw [if_neg hp]; rfl) ?_
    refine lv_astoreN (lv' := [(6, .null), (0, .ref (ad 0)), (1, .int (pi)), (2, .int (o)), (3, .int (mi)), (4, .int (v)), (5, .int (lv))]) hx hb dX6_attempt_5 hl (by decide) rfl (fun ls hl => ?_)
    refine lv_aloadN hx hb dX6_attempt_7 (lv_at hl 0 rfl) ?_
    refine lv_ifnullN (tgt := 20) hx hb dX6_attempt_9 (by decide) ?_
    refine lv_ldc2 (v := -1) hx hb hown (hK.1.use _ _ tw_361) dX6_attempt_20 ?_
    refine lv_goto (tgt := 37) hx hb dX6_attempt_23 (by decide) ?_
    exact rwl hx hb hr hlocks dX6_attempt_37 hW hS (⟨by unfold xAttempt; first | rw [if_neg (fun q => hp q.1)] | rw [if_neg (fun q => absurd (c17.symm.trans q.2) (by decide))], rfl, hX, fun L _ => rfl⟩)

set_option maxHeartbeats 4000000 in
set_option maxRecDepth 100000 in
theorem c_X6_undo (l : Launch) (D : va_G) (cy : Nat → ClassId) (z0 : Nat) (ad : Nat → Nat) (V : Nat → Option va_E) (n k P K : Nat) (ce : Int32) (ρ : RuT) (pl : Nat → PlT) (sn : Nat → SnT) (hX : isX ad V cy n k P K ce ρ pl sn) (hO : okX n k P K ρ pl sn) (pi : Int32) : Met l yX6_undo [Cond.code yX6_undo cX6_undo 3 (some .int)] { frames := 5, cells := 0, slots := 0, locals := 126 } (WP [.ref (ad 0), .int (pi)] D cy z0 ad V) (va_Qi (fun r u => r = (xPl P pl pi (plUndo n k ρ)).1 ∧ u.1 = ad ∧ isX ad u.2 cy n k P K ce ρ (xPl P pl pi (plUndo n k ρ)).2 sn ∧ ∀ L, 2000 ≤ L → u.2 L = V L) (WB D z0) (AA z0)) 0 0 (AA z0) := by
  refine met_of (by decide) (Nat.le_of_ble_eq_true rfl) (fun p e s m below meth c hx hb hr hml hown hlocks hnm hK hz hW ls hl => ?_)
  have hown : s.vm.findClass RX6 = some m.cls := hown
  have hl : lv_has ls 3 [(0, .ref (ad 0)), (1, .int (pi))] := hl
  have hS : va_S (AA z0) s.heap s.heap [] := va_S.rf
  obtain ⟨hX0, hB, hX3, hX4, hXp, hXs, hFx⟩ := id hX
  obtain ⟨hn40, hk, hP1, hP4, hK20, hOp, hOs⟩ := id hO
  have hk12 := hk.1
  obtain ⟨hB0, hB1, hBr⟩ := id hB
  refine lv_aload_n hx hb dX6_undo_0 rfl (lv_at hl 0 rfl) ?_
  refine lv_iload_n hx hb dX6_undo_1 rfl (lv_at hl 1 rfl) ?_
  refine va_csq (va_Run.run (va_runV (As := [.int (pi)]) (rest := []) ⟨hx, hb, hml, hown, hK.1.use _⟩ (c_X6_planAt l D cy z0 ad V n k P K ce ρ pl sn hX hO pi) (k_X6_X6_planAt hK.1 rfl rfl ⟨Nat.le_of_ble_eq_true rfl, Nat.le_of_ble_eq_true rfl⟩) (preV hK hz hW hX0 rfl) rfl rfl hl.1 rfl (lv_room (Nat.le_of_ble_eq_true rfl)) dX6_undo_2 ⟨Nat.le_of_ble_eq_true rfl, Nat.le_of_ble_eq_true rfl⟩)) (fun r2 h2 => ?_)
  have h2 : r2 = if hasB P pi = true then some (ad (100 + 100 * pi.toNatClampNeg)) else none := h2
  subst h2
  by_cases hp : hasB P pi = true
  · skip
    have hb9 := hasB_of hp (by omega)
    obtain ⟨PB, ePB⟩ : ∃ PB, PB = 100 + 100 * pi.toNatClampNeg := ⟨_, rfl⟩
    refine asv (y := .ref (ad PB)) (by rw [if_pos hp, ← ePB]; rfl) ?_
    have hPq := hXp _ hb9.2
    have hOq := hOp _ hb9.2
    rw [← ePB] at hPq
    obtain ⟨π, eπ⟩ : ∃ π, π = pl pi.toNatClampNeg := ⟨_, rfl⟩
    rw [← eπ] at hPq hOq
    obtain ⟨M, kp, fb, ch, co, fo, bb, bn, ho, hm, hv, hs, nx, kn⟩ := π
    obtain ⟨⟨n2, M2, hC, hnn, hZ2⟩, hH⟩ := id hPq
    obtain ⟨hZ, hb60, hnx, hkn, hbk, hOk⟩ := hOq
    have hC : isC ad V cy PB n M n2 M2 kp fb ch co fo bb (nI bn) := hC
    have hH : isH ad V cy PB ho hm hv hs nx kn := hH
    have hZ : Zt n M := hZ
    have hb60 : bn ≤ 60 := hb60
    have hnx : nx < 60 := hnx
    have hkn : kn ≤ 60 := hkn
    have hbk : bb = true → bn ≤ kn := hbk
    have hOk : hOK n ho hm nx kn := hOk
    have hPB : 100 ≤ PB := by omega
    have hn2 : n2 ≤ 40 := by omega
    have hk12 := hk.1
    obtain ⟨hC0, hCT, hCU, hC3, hC4⟩ := id hC
    obtain ⟨hT0, hT1, hTr⟩ := id hCT
    obtain ⟨hU0, hU1, hUr⟩ := id hCU
    obtain ⟨hB0, hB1, hBr⟩ := id hB
    obtain ⟨hH0, hH1, hH2, hH3, hH4, hHr⟩ := id hH
    refine lv_astore_n (lv' := [(2, .ref (ad PB)), (0, .ref (ad 0)), (1, .int (pi))]) hx hb dX6_undo_5 rfl hl (by decide) rfl (fun ls hl => ?_)
    refine lv_aload_n hx hb dX6_undo_6 rfl (lv_at hl 0 rfl) ?_
    refine lv_ifnonnull (tgt := 12) hx hb dX6_undo_7 (by decide) ?_
    refine lv_aload_n hx hb dX6_undo_12 rfl (lv_at hl 0 rfl) ?_
    refine vp_callSi (va_Run.run (va_runV (As := []) (rest := []) ⟨hx, hb, hml, hown, hK.1.use _⟩ (c_X1_undoable l D cy z0 ad V PB n n2 k M M2 kp fb ch co fo (nI bn) bb ρ hC hB hk hn40 hn2 hPB ho hm hv hs nx kn hH) (k_X6_X1_undoable hK.1 rfl rfl ⟨Nat.le_of_ble_eq_true rfl, Nat.le_of_ble_eq_true rfl⟩) (preV hK hz hW hC0 rfl) rfl rfl hl.1 rfl (lv_room (Nat.le_of_ble_eq_true rfl)) dX6_undo_13 ⟨Nat.le_of_ble_eq_true rfl, Nat.le_of_ble_eq_true rfl⟩)) (fun r13 h13 => ?_)
    have h13 : r13 = if bb = true then nI bn else nI kn := h13
    subst h13
    refine lv_if_ne (tgt := 22) hx hb dX6_undo_16 (by decide) (fun c16 => ?_) (fun c16 => ?_)
    · skip
      have hk0 : 0 < kn := by
        by_cases hbb : bb = true
        · rw [if_pos hbb] at c16; have := nI_ne' (b := 0) c16 (by omega) (by omega); have := hbk hbb; omega
        · rw [if_neg hbb] at c16; have := nI_ne' (b := 0) c16 (by omega) (by omega); omega
      have hb0 : bb = true → 0 < bn := fun hbb => by rw [if_pos hbb] at c16; have := nI_ne' (b := 0) c16 (by omega) (by omega); omega
      refine lv_aload_n hx hb dX6_undo_22 rfl (lv_at hl 0 rfl) ?_
      refine cv (va_runV (As := []) (rest := []) ⟨hx, hb, hml, hown, hK.1.use _⟩ (c_X1_takeBack l D cy z0 ad V PB n n2 k M M2 kp fb ch co fo (nI bn) bb ρ hC hB hk hn40 hn2 hPB ho hm hv hs nx kn hH hnn hZ hZ2 bn rfl hb60 hnx hkn hk0 hb0 hOk) (k_X6_X1_takeBack hK.1 rfl rfl ⟨Nat.le_of_ble_eq_true rfl, Nat.le_of_ble_eq_true rfl⟩) (preV hK hz hW hC0 rfl) rfl rfl hl.1 rfl (lv_room (Nat.le_of_ble_eq_true rfl)) dX6_undo_23 ⟨Nat.le_of_ble_eq_true rfl, Nat.le_of_ble_eq_true rfl⟩) hS (fun ad23 Vc23 H locs h23 hW hS => ?_)
      obtain ⟨e23, g3, g4, g5⟩ := h23
      obtain rfl : ad = ad23 := e23.symm
      obtain ⟨y, ey⟩ : ∃ y, y = tbF n k ρ ho hm hv hs bb (M, kp, co, nx, kn, bn) := ⟨_, rfl⟩
      rw [← ey] at g3 g4
      obtain ⟨hC0, hCT, hCU, hC3, hC4⟩ := id g3
      obtain ⟨hH0, hH1, hH2, hH3, hH4, hHr⟩ := id g4
      refine lv_aload_n hx hb dX6_undo_26 rfl (lv_at hl 0 rfl) ?_
      refine g_X6_X1_history hx hb hown hK hW hC0 dX6_undo_27 ?_
      refine g_X6_X0_known hx hb hown hK hW hH0 dX6_undo_30 ?_
      exact rwi hx hb hr hlocks dX6_undo_33 hW hS (by
      obtain ⟨oo, mm, hoo, hm3, eo, em⟩ := hOk 0 hk0
      rw [rix_0 hnx] at eo
      have hz : Zt n y.1 := by rw [ey]; show Zt n (tbM n ho hm hv M (nxD nx)); unfold tbM; exact Zt_put hZ _ (by rw [eo, nI_clamp (by omega)]; exact hoo)
      exact xPl_new (π := (y.1, y.2.1, fb, ch, y.2.2.1, fo, bb, y.2.2.2.2.2, ho, hm, hv, hs, y.2.2.2.1, y.2.2.2.2.1)) hX hO hp ePB rfl (by rw [← eπ, ey]; exact if_neg c16) ⟨⟨n, y.1, g3, Nat.le_refl n, hz⟩, g4⟩ g5)
    · skip
      refine lv_bipush (v := -3) hx hb dX6_undo_19 (by decide) ?_
      exact rwi hx hb hr hlocks dX6_undo_21 hW hS (xPl_same hX hp (by rw [← eπ]; exact if_pos c16))
  · skip
    refine asv (y := .null) (by rw [if_neg hp]; rfl) ?_
    refine lv_astore_nN (lv' := [(2, .null), (0, .ref (ad 0)), (1, .int (pi))]) hx hb dX6_undo_5 rfl hl (by decide) rfl (fun ls hl => ?_)
    refine lv_aload_nN hx hb dX6_undo_6 rfl (lv_at hl 0 rfl) ?_
    refine lv_ifnonnullN hx hb dX6_undo_7 ?_
    refine lv_iconst (v := -1) hx hb dX6_undo_10 (by decide) ?_
    exact rwi hx hb hr hlocks dX6_undo_11 hW hS (xPl_none hX hp)

set_option maxHeartbeats 4000000 in
set_option maxRecDepth 100000 in
theorem c_X6_begin (l : Launch) (D : va_G) (cy : Nat → ClassId) (z0 : Nat) (ad : Nat → Nat) (V : Nat → Option va_E) (n k P K : Nat) (ce : Int32) (ρ : RuT) (pl : Nat → PlT) (sn : Nat → SnT) (hX : isX ad V cy n k P K ce ρ pl sn) (hO : okX n k P K ρ pl sn) (pi : Int32) : Met l yX6_begin [Cond.code yX6_begin cX6_begin 3 (some .int)] { frames := 1, cells := 0, slots := 0, locals := 21 } (WP [.ref (ad 0), .int (pi)] D cy z0 ad V) (va_Qi (fun r u => r = (xPl P pl pi (plBegin)).1 ∧ u.1 = ad ∧ isX ad u.2 cy n k P K ce ρ (xPl P pl pi (plBegin)).2 sn ∧ ∀ L, 2000 ≤ L → u.2 L = V L) (WB D z0) (AA z0)) 0 0 (AA z0) := by
  refine met_of (by decide) (Nat.le_of_ble_eq_true rfl) (fun p e s m below meth c hx hb hr hml hown hlocks hnm hK hz hW ls hl => ?_)
  have hown : s.vm.findClass RX6 = some m.cls := hown
  have hl : lv_has ls 3 [(0, .ref (ad 0)), (1, .int (pi))] := hl
  have hS : va_S (AA z0) s.heap s.heap [] := va_S.rf
  obtain ⟨hX0, hB, hX3, hX4, hXp, hXs, hFx⟩ := id hX
  obtain ⟨hn40, hk, hP1, hP4, hK20, hOp, hOs⟩ := id hO
  have hk12 := hk.1
  obtain ⟨hB0, hB1, hBr⟩ := id hB
  refine lv_aload_n hx hb dX6_begin_0 rfl (lv_at hl 0 rfl) ?_
  refine lv_iload_n hx hb dX6_begin_1 rfl (lv_at hl 1 rfl) ?_
  refine va_csq (va_Run.run (va_runV (As := [.int (pi)]) (rest := []) ⟨hx, hb, hml, hown, hK.1.use _⟩ (c_X6_planAt l D cy z0 ad V n k P K ce ρ pl sn hX hO pi) (k_X6_X6_planAt hK.1 rfl rfl ⟨Nat.le_of_ble_eq_true rfl, Nat.le_of_ble_eq_true rfl⟩) (preV hK hz hW hX0 rfl) rfl rfl hl.1 rfl (lv_room (Nat.le_of_ble_eq_true rfl)) dX6_begin_2 ⟨Nat.le_of_ble_eq_true rfl, Nat.le_of_ble_eq_true rfl⟩)) (fun r2 h2 => ?_)
  have h2 : r2 = if hasB P pi = true then some (ad (100 + 100 * pi.toNatClampNeg)) else none := h2
  subst h2
  by_cases hp : hasB P pi = true
  · skip
    have hb9 := hasB_of hp (by omega)
    obtain ⟨PB, ePB⟩ : ∃ PB, PB = 100 + 100 * pi.toNatClampNeg := ⟨_, rfl⟩
    refine asv (y := .ref (ad PB)) (by rw [if_pos hp, ← ePB]; rfl) ?_
    have hPq := hXp _ hb9.2
    have hOq := hOp _ hb9.2
    rw [← ePB] at hPq
    obtain ⟨π, eπ⟩ : ∃ π, π = pl pi.toNatClampNeg := ⟨_, rfl⟩
    rw [← eπ] at hPq hOq
    obtain ⟨M, kp, fb, ch, co, fo, bb, bn, ho, hm, hv, hs, nx, kn⟩ := π
    obtain ⟨⟨n2, M2, hC, hnn, hZ2⟩, hH⟩ := id hPq
    obtain ⟨hZ, hb60, hnx, hkn, hbk, hOk⟩ := hOq
    have hC : isC ad V cy PB n M n2 M2 kp fb ch co fo bb (nI bn) := hC
    have hH : isH ad V cy PB ho hm hv hs nx kn := hH
    have hZ : Zt n M := hZ
    have hb60 : bn ≤ 60 := hb60
    have hnx : nx < 60 := hnx
    have hkn : kn ≤ 60 := hkn
    have hbk : bb = true → bn ≤ kn := hbk
    have hOk : hOK n ho hm nx kn := hOk
    have hPB : 100 ≤ PB := by omega
    have hn2 : n2 ≤ 40 := by omega
    have hk12 := hk.1
    obtain ⟨hC0, hCT, hCU, hC3, hC4⟩ := id hC
    obtain ⟨hT0, hT1, hTr⟩ := id hCT
    obtain ⟨hU0, hU1, hUr⟩ := id hCU
    obtain ⟨hB0, hB1, hBr⟩ := id hB
    obtain ⟨hH0, hH1, hH2, hH3, hH4, hHr⟩ := id hH
    refine lv_astore_n (lv' := [(2, .ref (ad PB)), (0, .ref (ad 0)), (1, .int (pi))]) hx hb dX6_begin_5 rfl hl (by decide) rfl (fun ls hl => ?_)
    refine lv_aload_n hx hb dX6_begin_6 rfl (lv_at hl 0 rfl) ?_
    refine lv_ifnonnull (tgt := 12) hx hb dX6_begin_7 (by decide) ?_
    refine lv_aload_n hx hb dX6_begin_12 rfl (lv_at hl 0 rfl) ?_
    refine g_X6_X1_batchBegun hx hb hown hK hW hC0 dX6_begin_13 ?_
    refine lv_if_eq (tgt := 22) hx hb dX6_begin_16 (by decide) (fun c16 => ?_) (fun c16 => ?_)
    · skip
      have c16 := b2i_0.mp c16
      refine lv_aload_n hx hb dX6_begin_22 rfl (lv_at hl 0 rfl) ?_
      refine lv_iconst (v := nI 1) hx hb dX6_begin_23 (by decide) ?_
      refine asi (y := b2i true) (by decide) ?_
      refine p_X6_X1_batchBegun hx hb hown hK hW hS hC0 (b2i_n) (b2i_f) dX6_begin_24 (fun H locs hW hS => ?_)
      obtain ⟨V1, eV1⟩ : ∃ x9, x9 = va_up V (PB) (some (.inr (1, [.ref (ad (1)), .ref (ad (PB + 1)), .ref (ad (PB + 7)), .ref (ad (PB + 13)), .ref (ad (PB + 14)), .ref (ad (PB + 15)), .int (ch), .int (co), .int (fo), .int (b2i true), .int (nI bn)]))) := ⟨_, rfl⟩
      rw [← eV1] at hW
      have hX0 : V1 (0) = some (.inr (6, [.ref (ad (1)), .ref (ad (3)), .ref (ad (4)), .int (nI P), .int (nI K), .int (ce)])) := by rw [eV1, va_up_ne _ _ (by omega)]; exact hX0
      have hX3 : V1 (3) = some (.inl (cy 5, 4, .inr (.inr (.inr (.inr (fun i => if i < P then some (ad (100 + 100 * i)) else none)))))) := by rw [eV1, va_up_ne _ _ (by omega)]; exact hX3
      have hX4 : V1 (4) = some (.inl (cy 7, 20, .inr (.inr (.inr (.inr (fun i => if i < K then some (ad (1000 + 10 * i)) else none)))))) := by rw [eV1, va_up_ne _ _ (by omega)]; exact hX4
      have hB0 : V1 (1) = some (.inr (3, [.ref (ad (2)), .int (nI k)])) := by rw [eV1, va_up_ne _ _ (by omega)]; exact hB0
      have hB1 : V1 (2) = some (.inl (cy 6, 12, .inr (.inr (.inr (.inr (fun i => if i < k then some (ad (10 + i)) else none)))))) := by rw [eV1, va_up_ne _ _ (by omega)]; exact hB1
      have hC3 : V1 (PB + 13) = some (.inl (cy 1, 12, .inr (.inl kp))) := by rw [eV1, va_up_ne _ _ (by omega)]; exact hC3
      have hC4 : V1 (PB + 14) = some (.inl (cy 2, 12, .inl (fun r => b2i (fb r)))) := by rw [eV1, va_up_ne _ _ (by omega)]; exact hC4
      have hT0 : V1 (PB + 1) = some (.inr (5, [.ref (ad (PB + 1 + 1)), .int (nI n)])) := by rw [eV1, va_up_ne _ _ (by omega)]; exact hT0
      have hT1 : V1 (PB + 1 + 1) = some (.inl (cy 3, 4, .inr (.inr (.inr (.inr (fun i => if i < 4 then some (ad (PB + 1 + 2 + i)) else none)))))) := by rw [eV1, va_up_ne _ _ (by omega)]; exact hT1
      have hU0 : V1 (PB + 7) = some (.inr (5, [.ref (ad (PB + 7 + 1)), .int (nI n2)])) := by rw [eV1, va_up_ne _ _ (by omega)]; exact hU0
      have hU1 : V1 (PB + 7 + 1) = some (.inl (cy 3, 4, .inr (.inr (.inr (.inr (fun i => if i < 4 then some (ad (PB + 7 + 2 + i)) else none)))))) := by rw [eV1, va_up_ne _ _ (by omega)]; exact hU1
      have hH0 : V1 (PB + 15) = some (.inr (0, [.ref (ad (PB + 16)), .ref (ad (PB + 17)), .ref (ad (PB + 18)), .ref (ad (PB + 19)), .int (nI nx), .int (nI kn)])) := by rw [eV1, va_up_ne _ _ (by omega)]; exact hH0
      have hH1 : V1 (PB + 16) = some (.inl (cy 0, 60, .inl ho)) := by rw [eV1, va_up_ne _ _ (by omega)]; exact hH1
      have hH2 : V1 (PB + 17) = some (.inl (cy 0, 60, .inl hm)) := by rw [eV1, va_up_ne _ _ (by omega)]; exact hH2
      have hH3 : V1 (PB + 18) = some (.inl (cy 0, 60, .inl hv)) := by rw [eV1, va_up_ne _ _ (by omega)]; exact hH3
      have hH4 : V1 (PB + 19) = some (.inl (cy 4, 60, .inr (.inr (.inr (.inr (fun i => if i < 60 then some (ad (PB + 20 + i)) else none)))))) := by rw [eV1, va_up_ne _ _ (by omega)]; exact hH4
      have hC0 : V1 (PB) = some (.inr (1, [.ref (ad (1)), .ref (ad (PB + 1)), .ref (ad (PB + 7)), .ref (ad (PB + 13)), .ref (ad (PB + 14)), .ref (ad (PB + 15)), .int (ch), .int (co), .int (fo), .int (b2i true), .int (nI bn)])) := by rw [eV1, va_up_self]
      refine lv_aload_n hx hb dX6_begin_27 rfl (lv_at hl 0 rfl) ?_
      refine lv_iconst (v := nI 0) hx hb dX6_begin_28 (by decide) ?_
      refine p_X6_X1_batchKnown hx hb hown hK hW hS hC0 dX6_begin_29 (fun H locs hW hS => ?_)
      obtain ⟨V2, eV2⟩ : ∃ x9, x9 = va_up V1 (PB) (some (.inr (1, [.ref (ad (1)), .ref (ad (PB + 1)), .ref (ad (PB + 7)), .ref (ad (PB + 13)), .ref (ad (PB + 14)), .ref (ad (PB + 15)), .int (ch), .int (co), .int (fo), .int (b2i true), .int (nI 0)]))) := ⟨_, rfl⟩
      rw [← eV2] at hW
      have hX0 : V2 (0) = some (.inr (6, [.ref (ad (1)), .ref (ad (3)), .ref (ad (4)), .int (nI P), .int (nI K), .int (ce)])) := by rw [eV2, va_up_ne _ _ (by omega)]; exact hX0
      have hX3 : V2 (3) = some (.inl (cy 5, 4, .inr (.inr (.inr (.inr (fun i => if i < P then some (ad (100 + 100 * i)) else none)))))) := by rw [eV2, va_up_ne _ _ (by omega)]; exact hX3
      have hX4 : V2 (4) = some (.inl (cy 7, 20, .inr (.inr (.inr (.inr (fun i => if i < K then some (ad (1000 + 10 * i)) else none)))))) := by rw [eV2, va_up_ne _ _ (by omega)]; exact hX4
      have hB0 : V2 (1) = some (.inr (3, [.ref (ad (2)), .int (nI k)])) := by rw [eV2, va_up_ne _ _ (by omega)]; exact hB0
      have hB1 : V2 (2) = some (.inl (cy 6, 12, .inr (.inr (.inr (.inr (fun i => if i < k then some (ad (10 + i)) else none)))))) := by rw [eV2, va_up_ne _ _ (by omega)]; exact hB1
      have hC3 : V2 (PB + 13) = some (.inl (cy 1, 12, .inr (.inl kp))) := by rw [eV2, va_up_ne _ _ (by omega)]; exact hC3
      have hC4 : V2 (PB + 14) = some (.inl (cy 2, 12, .inl (fun r => b2i (fb r)))) := by rw [eV2, va_up_ne _ _ (by omega)]; exact hC4
      have hT0 : V2 (PB + 1) = some (.inr (5, [.ref (ad (PB + 1 + 1)), .int (nI n)])) := by rw [eV2, va_up_ne _ _ (by omega)]; exact hT0
      have hT1 : V2 (PB + 1 + 1) = some (.inl (cy 3, 4, .inr (.inr (.inr (.inr (fun i => if i < 4 then some (ad (PB + 1 + 2 + i)) else none)))))) := by rw [eV2, va_up_ne _ _ (by omega)]; exact hT1
      have hU0 : V2 (PB + 7) = some (.inr (5, [.ref (ad (PB + 7 + 1)), .int (nI n2)])) := by rw [eV2, va_up_ne _ _ (by omega)]; exact hU0
      have hU1 : V2 (PB + 7 + 1) = some (.inl (cy 3, 4, .inr (.inr (.inr (.inr (fun i => if i < 4 then some (ad (PB + 7 + 2 + i)) else none)))))) := by rw [eV2, va_up_ne _ _ (by omega)]; exact hU1
      have hH0 : V2 (PB + 15) = some (.inr (0, [.ref (ad (PB + 16)), .ref (ad (PB + 17)), .ref (ad (PB + 18)), .ref (ad (PB + 19)), .int (nI nx), .int (nI kn)])) := by rw [eV2, va_up_ne _ _ (by omega)]; exact hH0
      have hH1 : V2 (PB + 16) = some (.inl (cy 0, 60, .inl ho)) := by rw [eV2, va_up_ne _ _ (by omega)]; exact hH1
      have hH2 : V2 (PB + 17) = some (.inl (cy 0, 60, .inl hm)) := by rw [eV2, va_up_ne _ _ (by omega)]; exact hH2
      have hH3 : V2 (PB + 18) = some (.inl (cy 0, 60, .inl hv)) := by rw [eV2, va_up_ne _ _ (by omega)]; exact hH3
      have hH4 : V2 (PB + 19) = some (.inl (cy 4, 60, .inr (.inr (.inr (.inr (fun i => if i < 60 then some (ad (PB + 20 + i)) else none)))))) := by rw [eV2, va_up_ne _ _ (by omega)]; exact hH4
      have hC0 : V2 (PB) = some (.inr (1, [.ref (ad (1)), .ref (ad (PB + 1)), .ref (ad (PB + 7)), .ref (ad (PB + 13)), .ref (ad (PB + 14)), .ref (ad (PB + 15)), .int (ch), .int (co), .int (fo), .int (b2i true), .int (nI 0)])) := by rw [eV2, va_up_self]
      refine lv_aload_n hx hb dX6_begin_32 rfl (lv_at hl 0 rfl) ?_
      refine g_X6_X1_history hx hb hown hK hW hC0 dX6_begin_33 ?_
      refine g_X6_X0_known hx hb hown hK hW hH0 dX6_begin_36 ?_
      exact rwi hx hb hr hlocks dX6_begin_39 hW hS (xPl_new (π := (M, kp, fb, ch, co, fo, true, 0, ho, hm, hv, hs, nx, kn)) hX hO hp ePB rfl (by rw [← eπ]; exact if_neg (by show ¬ bb = true; rw [c16]; decide)) ⟨⟨n2, M2, ⟨hC0, hC.2.1.mv (fun L h1 h2 => by rw [eV2, va_up_ne _ _ (by omega), eV1, va_up_ne _ _ (by omega)]), hC.2.2.1.mv (fun L h1 h2 => by rw [eV2, va_up_ne _ _ (by omega), eV1, va_up_ne _ _ (by omega)]), hC3, hC4⟩, hnn, hZ2⟩, hH.mv (fun L h1 h2 => by rw [eV2, va_up_ne _ _ (by omega), eV1, va_up_ne _ _ (by omega)])⟩ (fun L hL => by rw [eV2, va_up_ne _ _ (by omega), eV1, va_up_ne _ _ (by omega)]))
    · skip
      have c16 := b2i_1.mp c16
      refine lv_bipush (v := -3) hx hb dX6_begin_19 (by decide) ?_
      exact rwi hx hb hr hlocks dX6_begin_21 hW hS (xPl_same hX hp (by rw [← eπ]; exact if_pos c16))
  · skip
    refine asv (y := .null) (by rw [if_neg hp]; rfl) ?_
    refine lv_astore_nN (lv' := [(2, .null), (0, .ref (ad 0)), (1, .int (pi))]) hx hb dX6_begin_5 rfl hl (by decide) rfl (fun ls hl => ?_)
    refine lv_aload_nN hx hb dX6_begin_6 rfl (lv_at hl 0 rfl) ?_
    refine lv_ifnonnullN hx hb dX6_begin_7 ?_
    refine lv_iconst (v := -1) hx hb dX6_begin_10 (by decide) ?_
    exact rwi hx hb hr hlocks dX6_begin_11 hW hS (xPl_none hX hp)

set_option maxHeartbeats 4000000 in
set_option maxRecDepth 100000 in
theorem c_X6_end (l : Launch) (D : va_G) (cy : Nat → ClassId) (z0 : Nat) (ad : Nat → Nat) (V : Nat → Option va_E) (n k P K : Nat) (ce : Int32) (ρ : RuT) (pl : Nat → PlT) (sn : Nat → SnT) (hX : isX ad V cy n k P K ce ρ pl sn) (hO : okX n k P K ρ pl sn) (pi : Int32) (sb : Bool) : Met l yX6_end [Cond.code yX6_end cX6_end 4 (some .int)] { frames := 6, cells := 0, slots := 0, locals := 149 } (WP [.ref (ad 0), .int (pi), .int (b2i sb)] D cy z0 ad V) (va_Qi (fun r u => r = (xPl P pl pi (plEnd n k ρ sb)).1 ∧ u.1 = ad ∧ isX ad u.2 cy n k P K ce ρ (xPl P pl pi (plEnd n k ρ sb)).2 sn ∧ ∀ L, 2000 ≤ L → u.2 L = V L) (WB D z0) (AA z0)) 0 0 (AA z0) := by
  refine met_of (by decide) (Nat.le_of_ble_eq_true rfl) (fun p e s m below meth c hx hb hr hml hown hlocks hnm hK hz hW ls hl => ?_)
  have hown : s.vm.findClass RX6 = some m.cls := hown
  have hl : lv_has ls 4 [(0, .ref (ad 0)), (1, .int (pi)), (2, .int (b2i sb))] := hl
  have hS : va_S (AA z0) s.heap s.heap [] := va_S.rf
  obtain ⟨hX0, hB, hX3, hX4, hXp, hXs, hFx⟩ := id hX
  obtain ⟨hn40, hk, hP1, hP4, hK20, hOp, hOs⟩ := id hO
  have hk12 := hk.1
  obtain ⟨hB0, hB1, hBr⟩ := id hB
  refine lv_aload_n hx hb dX6_end_0 rfl (lv_at hl 0 rfl) ?_
  refine lv_iload_n hx hb dX6_end_1 rfl (lv_at hl 1 rfl) ?_
  refine va_csq (va_Run.run (va_runV (As := [.int (pi)]) (rest := []) ⟨hx, hb, hml, hown, hK.1.use _⟩ (c_X6_planAt l D cy z0 ad V n k P K ce ρ pl sn hX hO pi) (k_X6_X6_planAt hK.1 rfl rfl ⟨Nat.le_of_ble_eq_true rfl, Nat.le_of_ble_eq_true rfl⟩) (preV hK hz hW hX0 rfl) rfl rfl hl.1 rfl (lv_room (Nat.le_of_ble_eq_true rfl)) dX6_end_2 ⟨Nat.le_of_ble_eq_true rfl, Nat.le_of_ble_eq_true rfl⟩)) (fun r2 h2 => ?_)
  have h2 : r2 = if hasB P pi = true then some (ad (100 + 100 * pi.toNatClampNeg)) else none := h2
  subst h2
  by_cases hp : hasB P pi = true
  · skip
    have hb9 := hasB_of hp (by omega)
    obtain ⟨PB, ePB⟩ : ∃ PB, PB = 100 + 100 * pi.toNatClampNeg := ⟨_, rfl⟩
    refine asv (y := .ref (ad PB)) (by rw [if_pos hp, ← ePB]; rfl) ?_
    have hPq := hXp _ hb9.2
    have hOq := hOp _ hb9.2
    rw [← ePB] at hPq
    obtain ⟨π, eπ⟩ : ∃ π, π = pl pi.toNatClampNeg := ⟨_, rfl⟩
    rw [← eπ] at hPq hOq
    obtain ⟨M, kp, fb, ch, co, fo, bb, bn, ho, hm, hv, hs, nx, kn⟩ := π
    obtain ⟨⟨n2, M2, hC, hnn, hZ2⟩, hH⟩ := id hPq
    obtain ⟨hZ, hb60, hnx, hkn, hbk, hOk⟩ := hOq
    have hC : isC ad V cy PB n M n2 M2 kp fb ch co fo bb (nI bn) := hC
    have hH : isH ad V cy PB ho hm hv hs nx kn := hH
    have hZ : Zt n M := hZ
    have hb60 : bn ≤ 60 := hb60
    have hnx : nx < 60 := hnx
    have hkn : kn ≤ 60 := hkn
    have hbk : bb = true → bn ≤ kn := hbk
    have hOk : hOK n ho hm nx kn := hOk
    have hPB : 100 ≤ PB := by omega
    have hn2 : n2 ≤ 40 := by omega
    have hk12 := hk.1
    obtain ⟨hC0, hCT, hCU, hC3, hC4⟩ := id hC
    obtain ⟨hT0, hT1, hTr⟩ := id hCT
    obtain ⟨hU0, hU1, hUr⟩ := id hCU
    obtain ⟨hB0, hB1, hBr⟩ := id hB
    obtain ⟨hH0, hH1, hH2, hH3, hH4, hHr⟩ := id hH
    refine lv_astore_n (lv' := [(3, .ref (ad PB)), (0, .ref (ad 0)), (1, .int (pi)), (2, .int (b2i sb))]) hx hb dX6_end_5 rfl hl (by decide) rfl (fun ls hl => ?_)
    refine lv_aload_n hx hb dX6_end_6 rfl (lv_at hl 0 rfl) ?_
    refine lv_ifnonnull (tgt := 12) hx hb dX6_end_7 (by decide) ?_
    refine lv_aload_n hx hb dX6_end_12 rfl (lv_at hl 0 rfl) ?_
    refine g_X6_X1_batchBegun hx hb hown hK hW hC0 dX6_end_13 ?_
    refine lv_if_eq (tgt := 27) hx hb dX6_end_16 (by decide) (fun c16 => ?_) (fun c16 => ?_)
    · skip
      have c16 := b2i_0.mp c16
      refine lv_bipush (v := -3) hx hb dX6_end_27 (by decide) ?_
      exact rwi hx hb hr hlocks dX6_end_29 hW hS (xPl_same hX hp (by rw [← eπ]; exact if_neg (by show ¬ bb = true; rw [c16]; decide)))
    · skip
      have c16 := b2i_1.mp c16
      refine lv_aload_n hx hb dX6_end_19 rfl (lv_at hl 0 rfl) ?_
      refine lv_iload_n hx hb dX6_end_20 rfl (lv_at hl 3 rfl) ?_
      refine ci (va_runV (As := [.int (b2i sb)]) (rest := []) ⟨hx, hb, hml, hown, hK.1.use _⟩ (c_X1_closeBatch l D cy z0 ad V PB n n2 k M M2 kp fb ch co fo (nI bn) bb ρ hC hB hk hn40 hn2 hPB ho hm hv hs nx kn hH hnn hZ hZ2 bn rfl hb60 hnx hkn c16 (hbk c16) hOk sb) (k_X6_X1_closeBatch hK.1 rfl rfl ⟨Nat.le_of_ble_eq_true rfl, Nat.le_of_ble_eq_true rfl⟩) (preV hK hz hW hC0 rfl) rfl rfl hl.1 rfl (lv_room (Nat.le_of_ble_eq_true rfl)) dX6_end_21 ⟨Nat.le_of_ble_eq_true rfl, Nat.le_of_ble_eq_true rfl⟩) hS (fun r21 ad21 Vc21 H locs h21 hW hS => ?_)
      refine lv_goto (tgt := 29) hx hb dX6_end_24 (by decide) ?_
      exact rwi hx hb hr hlocks dX6_end_29 hW hS (by
      obtain ⟨g1, g2, ⟨n3, M3, g3, g4, g5⟩, g6, g7⟩ := h21
      exact xPl_new hX hO hp ePB g2 (by rw [← eπ, g1]; exact if_pos c16) ⟨⟨n3, M3, g3, g4, g5⟩, g6⟩ g7)
  · skip
    refine asv (y := .null) (by rw [if_neg hp]; rfl) ?_
    refine lv_astore_nN (lv' := [(3, .null), (0, .ref (ad 0)), (1, .int (pi)), (2, .int (b2i sb))]) hx hb dX6_end_5 rfl hl (by decide) rfl (fun ls hl => ?_)
    refine lv_aload_nN hx hb dX6_end_6 rfl (lv_at hl 0 rfl) ?_
    refine lv_ifnonnullN hx hb dX6_end_7 ?_
    refine lv_iconst (v := -1) hx hb dX6_end_10 (by decide) ?_
    exact rwi hx hb hr hlocks dX6_end_11 hW hS (xPl_none hX hp)

set_option maxHeartbeats 4000000 in
set_option maxRecDepth 100000 in
theorem c_X6_forget (l : Launch) (D : va_G) (cy : Nat → ClassId) (z0 : Nat) (ad : Nat → Nat) (V : Nat → Option va_E) (n k P K : Nat) (ce : Int32) (ρ : RuT) (pl : Nat → PlT) (sn : Nat → SnT) (hX : isX ad V cy n k P K ce ρ pl sn) (hO : okX n k P K ρ pl sn) (pi ri : Int32) (ib : Bool) : Met l yX6_forget [Cond.code yX6_forget cX6_forget 6 (some .int)] { frames := 1, cells := 0, slots := 0, locals := 21 } (WP [.ref (ad 0), .int (pi), .int (ri), .int (b2i ib)] D cy z0 ad V) (va_Qi (fun r u => r = (xPl P pl pi (plForget k ri ib)).1 ∧ u.1 = ad ∧ isX ad u.2 cy n k P K ce ρ (xPl P pl pi (plForget k ri ib)).2 sn ∧ ∀ L, 2000 ≤ L → u.2 L = V L) (WB D z0) (AA z0)) 0 0 (AA z0) := by
  refine met_of (by decide) (Nat.le_of_ble_eq_true rfl) (fun p e s m below meth c hx hb hr hml hown hlocks hnm hK hz hW ls hl => ?_)
  have hown : s.vm.findClass RX6 = some m.cls := hown
  have hl : lv_has ls 6 [(0, .ref (ad 0)), (1, .int (pi)), (2, .int (ri)), (3, .int (b2i ib))] := hl
  have hS : va_S (AA z0) s.heap s.heap [] := va_S.rf
  obtain ⟨hX0, hB, hX3, hX4, hXp, hXs, hFx⟩ := id hX
  obtain ⟨hn40, hk, hP1, hP4, hK20, hOp, hOs⟩ := id hO
  have hk12 := hk.1
  obtain ⟨hB0, hB1, hBr⟩ := id hB
  refine lv_aload_n hx hb dX6_forget_0 rfl (lv_at hl 0 rfl) ?_
  refine lv_iload_n hx hb dX6_forget_1 rfl (lv_at hl 1 rfl) ?_
  refine va_csq (va_Run.run (va_runV (As := [.int (pi)]) (rest := []) ⟨hx, hb, hml, hown, hK.1.use _⟩ (c_X6_planAt l D cy z0 ad V n k P K ce ρ pl sn hX hO pi) (k_X6_X6_planAt hK.1 rfl rfl ⟨Nat.le_of_ble_eq_true rfl, Nat.le_of_ble_eq_true rfl⟩) (preV hK hz hW hX0 rfl) rfl rfl hl.1 rfl (lv_room (Nat.le_of_ble_eq_true rfl)) dX6_forget_2 ⟨Nat.le_of_ble_eq_true rfl, Nat.le_of_ble_eq_true rfl⟩)) (fun r2 h2 => ?_)
  have h2 : r2 = if hasB P pi = true then some (ad (100 + 100 * pi.toNatClampNeg)) else none := h2
  subst h2
  by_cases hp : hasB P pi = true
  · skip
    have hb9 := hasB_of hp (by omega)
    obtain ⟨PB, ePB⟩ : ∃ PB, PB = 100 + 100 * pi.toNatClampNeg := ⟨_, rfl⟩
    refine asv (y := .ref (ad PB)) (by rw [if_pos hp, ← ePB]; rfl) ?_
    have hPq := hXp _ hb9.2
    have hOq := hOp _ hb9.2
    rw [← ePB] at hPq
    obtain ⟨π, eπ⟩ : ∃ π, π = pl pi.toNatClampNeg := ⟨_, rfl⟩
    rw [← eπ] at hPq hOq
    obtain ⟨M, kp, fb, ch, co, fo, bb, bn, ho, hm, hv, hs, nx, kn⟩ := π
    obtain ⟨⟨n2, M2, hC, hnn, hZ2⟩, hH⟩ := id hPq
    obtain ⟨hZ, hb60, hnx, hkn, hbk, hOk⟩ := hOq
    have hC : isC ad V cy PB n M n2 M2 kp fb ch co fo bb (nI bn) := hC
    have hH : isH ad V cy PB ho hm hv hs nx kn := hH
    have hZ : Zt n M := hZ
    have hb60 : bn ≤ 60 := hb60
    have hnx : nx < 60 := hnx
    have hkn : kn ≤ 60 := hkn
    have hbk : bb = true → bn ≤ kn := hbk
    have hOk : hOK n ho hm nx kn := hOk
    have hPB : 100 ≤ PB := by omega
    have hn2 : n2 ≤ 40 := by omega
    have hk12 := hk.1
    obtain ⟨hC0, hCT, hCU, hC3, hC4⟩ := id hC
    obtain ⟨hT0, hT1, hTr⟩ := id hCT
    obtain ⟨hU0, hU1, hUr⟩ := id hCU
    obtain ⟨hB0, hB1, hBr⟩ := id hB
    obtain ⟨hH0, hH1, hH2, hH3, hH4, hHr⟩ := id hH
    refine lv_astore (lv' := [(4, .ref (ad PB)), (0, .ref (ad 0)), (1, .int (pi)), (2, .int (ri)), (3, .int (b2i ib))]) hx hb dX6_forget_5 hl (by decide) rfl (fun ls hl => ?_)
    refine lv_aload hx hb dX6_forget_7 (lv_at hl 0 rfl) ?_
    refine lv_ifnull hx hb dX6_forget_9 ?_
    refine lv_aload_n hx hb dX6_forget_12 rfl (lv_at hl 1 rfl) ?_
    refine g_X6_X6_book hx hb hown hK hW hX0 dX6_forget_13 ?_
    refine lv_iload_n hx hb dX6_forget_16 rfl (lv_at hl 3 rfl) ?_
    refine vp_callSi (va_Run.run (va_runV (As := [.int (ri)]) (rest := []) ⟨hx, hb, hml, hown, hK.1.use _⟩ (c_X3_has l D cy z0 ad V k ρ hB ri) (k_X6_X3_has hK.1 rfl rfl ⟨Nat.le_of_ble_eq_true rfl, Nat.le_of_ble_eq_true rfl⟩) (preV hK hz hW hB0 rfl) rfl rfl hl.1 rfl (lv_room (Nat.le_of_ble_eq_true rfl)) dX6_forget_17 ⟨Nat.le_of_ble_eq_true rfl, Nat.le_of_ble_eq_true rfl⟩)) (fun r17 h17 => ?_)
    have h17 : r17 = b2i (hasB k ri) := h17
    subst h17
    refine lv_if_ne (tgt := 25) hx hb dX6_forget_20 (by decide) (fun c20 => ?_) (fun c20 => ?_)
    · skip
      have c20 := b2i_1.mp c20
      have hr9 := hasB_of c20 (by omega)
      refine lv_aload hx hb dX6_forget_25 (lv_at hl 0 rfl) ?_
      refine g_X6_X1_forgets hx hb hown hK hW hC0 dX6_forget_27 ?_
      refine lv_iload_n hx hb dX6_forget_30 rfl (lv_at hl 3 rfl) ?_
      refine w_zald hx hb hK hW hC4 (j := ri.toNatClampNeg) (hr9.1) (by omega) (by omega) dX6_forget_31 ?_
      refine lv_istore (lv' := [(5, .int (b2i (fb ri.toNatClampNeg))), (4, .ref (ad PB)), (0, .ref (ad 0)), (1, .int (pi)), (2, .int (ri)), (3, .int (b2i ib))]) hx hb dX6_forget_32 hl (by decide) rfl (fun ls hl => ?_)
      refine lv_aload hx hb dX6_forget_34 (lv_at hl 1 rfl) ?_
      refine g_X6_X1_forgets hx hb hown hK hW hC0 dX6_forget_36 ?_
      refine lv_iload_n hx hb dX6_forget_39 rfl (lv_at hl 4 rfl) ?_
      refine lv_iload_n hx hb dX6_forget_40 rfl (lv_at hl 5 rfl) ?_
      refine w_zast hx hb hK hW hS hC4 (j := ri.toNatClampNeg) (hr9.1) (by omega) (by omega) (b2i_v) dX6_forget_41 (fun H locs hW hS => ?_)
      obtain ⟨V1, eV1⟩ : ∃ x9, x9 = va_up V (PB + 14) (some (.inl (cy 2, 12, .inl (upd (fun r => b2i (fb r)) ri.toNatClampNeg (b2i ib))))) := ⟨_, rfl⟩
      rw [← eV1] at hW
      have hX0 : V1 (0) = some (.inr (6, [.ref (ad (1)), .ref (ad (3)), .ref (ad (4)), .int (nI P), .int (nI K), .int (ce)])) := by rw [eV1, va_up_ne _ _ (by omega)]; exact hX0
      have hX3 : V1 (3) = some (.inl (cy 5, 4, .inr (.inr (.inr (.inr (fun i => if i < P then some (ad (100 + 100 * i)) else none)))))) := by rw [eV1, va_up_ne _ _ (by omega)]; exact hX3
      have hX4 : V1 (4) = some (.inl (cy 7, 20, .inr (.inr (.inr (.inr (fun i => if i < K then some (ad (1000 + 10 * i)) else none)))))) := by rw [eV1, va_up_ne _ _ (by omega)]; exact hX4
      have hB0 : V1 (1) = some (.inr (3, [.ref (ad (2)), .int (nI k)])) := by rw [eV1, va_up_ne _ _ (by omega)]; exact hB0
      have hB1 : V1 (2) = some (.inl (cy 6, 12, .inr (.inr (.inr (.inr (fun i => if i < k then some (ad (10 + i)) else none)))))) := by rw [eV1, va_up_ne _ _ (by omega)]; exact hB1
      have hC0 : V1 (PB) = some (.inr (1, [.ref (ad (1)), .ref (ad (PB + 1)), .ref (ad (PB + 7)), .ref (ad (PB + 13)), .ref (ad (PB + 14)), .ref (ad (PB + 15)), .int (ch), .int (co), .int (fo), .int (b2i bb), .int (nI bn)])) := by rw [eV1, va_up_ne _ _ (by omega)]; exact hC0
      have hC3 : V1 (PB + 13) = some (.inl (cy 1, 12, .inr (.inl kp))) := by rw [eV1, va_up_ne _ _ (by omega)]; exact hC3
      have hT0 : V1 (PB + 1) = some (.inr (5, [.ref (ad (PB + 1 + 1)), .int (nI n)])) := by rw [eV1, va_up_ne _ _ (by omega)]; exact hT0
      have hT1 : V1 (PB + 1 + 1) = some (.inl (cy 3, 4, .inr (.inr (.inr (.inr (fun i => if i < 4 then some (ad (PB + 1 + 2 + i)) else none)))))) := by rw [eV1, va_up_ne _ _ (by omega)]; exact hT1
      have hU0 : V1 (PB + 7) = some (.inr (5, [.ref (ad (PB + 7 + 1)), .int (nI n2)])) := by rw [eV1, va_up_ne _ _ (by omega)]; exact hU0
      have hU1 : V1 (PB + 7 + 1) = some (.inl (cy 3, 4, .inr (.inr (.inr (.inr (fun i => if i < 4 then some (ad (PB + 7 + 2 + i)) else none)))))) := by rw [eV1, va_up_ne _ _ (by omega)]; exact hU1
      have hH0 : V1 (PB + 15) = some (.inr (0, [.ref (ad (PB + 16)), .ref (ad (PB + 17)), .ref (ad (PB + 18)), .ref (ad (PB + 19)), .int (nI nx), .int (nI kn)])) := by rw [eV1, va_up_ne _ _ (by omega)]; exact hH0
      have hH1 : V1 (PB + 16) = some (.inl (cy 0, 60, .inl ho)) := by rw [eV1, va_up_ne _ _ (by omega)]; exact hH1
      have hH2 : V1 (PB + 17) = some (.inl (cy 0, 60, .inl hm)) := by rw [eV1, va_up_ne _ _ (by omega)]; exact hH2
      have hH3 : V1 (PB + 18) = some (.inl (cy 0, 60, .inl hv)) := by rw [eV1, va_up_ne _ _ (by omega)]; exact hH3
      have hH4 : V1 (PB + 19) = some (.inl (cy 4, 60, .inr (.inr (.inr (.inr (fun i => if i < 60 then some (ad (PB + 20 + i)) else none)))))) := by rw [eV1, va_up_ne _ _ (by omega)]; exact hH4
      have hC4 : V1 (PB + 14) = some (.inl (cy 2, 12, .inl (upd (fun r => b2i (fb r)) ri.toNatClampNeg (b2i ib)))) := by rw [eV1, va_up_self]
      refine lv_iload hx hb dX6_forget_42 (lv_at hl 0 rfl) ?_
      refine vp_callSi (va_Run.run (va_runS (As := [.int (b2i (fb ri.toNatClampNeg))]) (rest := []) ⟨hx, hb, hml, hown, hK.1.use _⟩ (c_X6_oneIf l D cy z0 ad V1 (fb ri.toNatClampNeg)) (k_X6_X6_oneIf hK.1 rfl rfl ⟨Nat.le_of_ble_eq_true rfl, Nat.le_of_ble_eq_true rfl⟩) (preS hK (Nat.le_trans hz hS.1) hW) rfl rfl hl.1 rfl (lv_room (Nat.le_of_ble_eq_true rfl)) dX6_forget_44 ⟨Nat.le_of_ble_eq_true rfl, Nat.le_of_ble_eq_true rfl⟩)) (fun r44 h44 => ?_)
      have h44 : r44 = b2i (fb ri.toNatClampNeg) := h44
      subst h44
      exact rwi hx hb hr hlocks dX6_forget_47 hW hS (xPl_new (π := (M, kp, va_up fb ri.toNatClampNeg ib, ch, co, fo, bb, bn, ho, hm, hv, hs, nx, kn)) hX hO hp ePB rfl (by rw [← eπ]; exact if_pos c20) ⟨⟨n2, M2, ⟨hC0, hC.2.1.mv (fun L h1 h2 => by rw [eV1, va_up_ne _ _ (by omega)]), hC.2.2.1.mv (fun L h1 h2 => by rw [eV1, va_up_ne _ _ (by omega)]), hC3, by rw [upB] at hC4; exact hC4⟩, hnn, hZ2⟩, hH.mv (fun L h1 h2 => by rw [eV1, va_up_ne _ _ (by omega)])⟩ (fun L hL => by rw [eV1, va_up_ne _ _ (by omega)]))
    · skip
      have c20 := b2i_0.mp c20
      refine lv_iconst (v := -1) hx hb dX6_forget_23 (by decide) ?_
      exact rwi hx hb hr hlocks dX6_forget_24 hW hS (xPl_same hX hp (by rw [← eπ]; exact if_neg (by rw [c20]; decide)))
  · skip
    refine asv (y := .null) (by rw [if_neg hp]; rfl) ?_
    refine lv_astoreN (lv' := [(4, .null), (0, .ref (ad 0)), (1, .int (pi)), (2, .int (ri)), (3, .int (b2i ib))]) hx hb dX6_forget_5 hl (by decide) rfl (fun ls hl => ?_)
    refine lv_aloadN hx hb dX6_forget_7 (lv_at hl 0 rfl) ?_
    refine lv_ifnullN (tgt := 23) hx hb dX6_forget_9 (by decide) ?_
    refine lv_iconst (v := -1) hx hb dX6_forget_23 (by decide) ?_
    exact rwi hx hb hr hlocks dX6_forget_24 hW hS (xPl_none hX hp)

set_option maxHeartbeats 4000000 in
set_option maxRecDepth 100000 in
theorem c_X6_mend (l : Launch) (D : va_G) (cy : Nat → ClassId) (z0 : Nat) (ad : Nat → Nat) (V : Nat → Option va_E) (n k P K : Nat) (ce : Int32) (ρ : RuT) (pl : Nat → PlT) (sn : Nat → SnT) (hX : isX ad V cy n k P K ce ρ pl sn) (hO : okX n k P K ρ pl sn) (pi ri : Int32) : Met l yX6_mend [Cond.code yX6_mend cX6_mend 5 (some .int)] { frames := 4, cells := 0, slots := 0, locals := 96 } (WP [.ref (ad 0), .int (pi), .int (ri)] D cy z0 ad V) (va_Qi (fun r u => r = (xPl P pl pi (plMend n k ρ ri)).1 ∧ u.1 = ad ∧ isX ad u.2 cy n k P K ce ρ (xPl P pl pi (plMend n k ρ ri)).2 sn ∧ ∀ L, 2000 ≤ L → u.2 L = V L) (WB D z0) (AA z0)) 0 0 (AA z0) := by
  refine met_of (by decide) (Nat.le_of_ble_eq_true rfl) (fun p e s m below meth c hx hb hr hml hown hlocks hnm hK hz hW ls hl => ?_)
  have hown : s.vm.findClass RX6 = some m.cls := hown
  have hl : lv_has ls 5 [(0, .ref (ad 0)), (1, .int (pi)), (2, .int (ri))] := hl
  have hS : va_S (AA z0) s.heap s.heap [] := va_S.rf
  obtain ⟨hX0, hB, hX3, hX4, hXp, hXs, hFx⟩ := id hX
  obtain ⟨hn40, hk, hP1, hP4, hK20, hOp, hOs⟩ := id hO
  have hk12 := hk.1
  obtain ⟨hB0, hB1, hBr⟩ := id hB
  refine lv_aload_n hx hb dX6_mend_0 rfl (lv_at hl 0 rfl) ?_
  refine lv_iload_n hx hb dX6_mend_1 rfl (lv_at hl 1 rfl) ?_
  refine va_csq (va_Run.run (va_runV (As := [.int (pi)]) (rest := []) ⟨hx, hb, hml, hown, hK.1.use _⟩ (c_X6_planAt l D cy z0 ad V n k P K ce ρ pl sn hX hO pi) (k_X6_X6_planAt hK.1 rfl rfl ⟨Nat.le_of_ble_eq_true rfl, Nat.le_of_ble_eq_true rfl⟩) (preV hK hz hW hX0 rfl) rfl rfl hl.1 rfl (lv_room (Nat.le_of_ble_eq_true rfl)) dX6_mend_2 ⟨Nat.le_of_ble_eq_true rfl, Nat.le_of_ble_eq_true rfl⟩)) (fun r2 h2 => ?_)
  have h2 : r2 = if hasB P pi = true then some (ad (100 + 100 * pi.toNatClampNeg)) else none := h2
  subst h2
  by_cases hp : hasB P pi = true
  · skip
    have hb9 := hasB_of hp (by omega)
    obtain ⟨PB, ePB⟩ : ∃ PB, PB = 100 + 100 * pi.toNatClampNeg := ⟨_, rfl⟩
    refine asv (y := .ref (ad PB)) (by rw [if_pos hp, ← ePB]; rfl) ?_
    have hPq := hXp _ hb9.2
    have hOq := hOp _ hb9.2
    rw [← ePB] at hPq
    obtain ⟨π, eπ⟩ : ∃ π, π = pl pi.toNatClampNeg := ⟨_, rfl⟩
    rw [← eπ] at hPq hOq
    obtain ⟨M, kp, fb, ch, co, fo, bb, bn, ho, hm, hv, hs, nx, kn⟩ := π
    obtain ⟨⟨n2, M2, hC, hnn, hZ2⟩, hH⟩ := id hPq
    obtain ⟨hZ, hb60, hnx, hkn, hbk, hOk⟩ := hOq
    have hC : isC ad V cy PB n M n2 M2 kp fb ch co fo bb (nI bn) := hC
    have hH : isH ad V cy PB ho hm hv hs nx kn := hH
    have hZ : Zt n M := hZ
    have hb60 : bn ≤ 60 := hb60
    have hnx : nx < 60 := hnx
    have hkn : kn ≤ 60 := hkn
    have hbk : bb = true → bn ≤ kn := hbk
    have hOk : hOK n ho hm nx kn := hOk
    have hPB : 100 ≤ PB := by omega
    have hn2 : n2 ≤ 40 := by omega
    have hk12 := hk.1
    obtain ⟨hC0, hCT, hCU, hC3, hC4⟩ := id hC
    obtain ⟨hT0, hT1, hTr⟩ := id hCT
    obtain ⟨hU0, hU1, hUr⟩ := id hCU
    obtain ⟨hB0, hB1, hBr⟩ := id hB
    obtain ⟨hH0, hH1, hH2, hH3, hH4, hHr⟩ := id hH
    refine lv_astore_n (lv' := [(3, .ref (ad PB)), (0, .ref (ad 0)), (1, .int (pi)), (2, .int (ri))]) hx hb dX6_mend_5 rfl hl (by decide) rfl (fun ls hl => ?_)
    refine lv_aload_n hx hb dX6_mend_6 rfl (lv_at hl 0 rfl) ?_
    refine lv_ifnull hx hb dX6_mend_7 ?_
    refine lv_aload_n hx hb dX6_mend_10 rfl (lv_at hl 1 rfl) ?_
    refine g_X6_X6_book hx hb hown hK hW hX0 dX6_mend_11 ?_
    refine lv_iload_n hx hb dX6_mend_14 rfl (lv_at hl 3 rfl) ?_
    refine vp_callSi (va_Run.run (va_runV (As := [.int (ri)]) (rest := []) ⟨hx, hb, hml, hown, hK.1.use _⟩ (c_X3_has l D cy z0 ad V k ρ hB ri) (k_X6_X3_has hK.1 rfl rfl ⟨Nat.le_of_ble_eq_true rfl, Nat.le_of_ble_eq_true rfl⟩) (preV hK hz hW hB0 rfl) rfl rfl hl.1 rfl (lv_room (Nat.le_of_ble_eq_true rfl)) dX6_mend_15 ⟨Nat.le_of_ble_eq_true rfl, Nat.le_of_ble_eq_true rfl⟩)) (fun r15 h15 => ?_)
    have h15 : r15 = b2i (hasB k ri) := h15
    subst h15
    refine lv_if_ne (tgt := 23) hx hb dX6_mend_18 (by decide) (fun c18 => ?_) (fun c18 => ?_)
    · skip
      have c18 := b2i_1.mp c18
      have hr9 := hasB_of c18 (by omega)
      refine lv_aload_n hx hb dX6_mend_23 rfl (lv_at hl 0 rfl) ?_
      refine lv_iload_n hx hb dX6_mend_24 rfl (lv_at hl 3 rfl) ?_
      refine asi (y := nI ri.toNatClampNeg) hr9.1 ?_
      refine vp_callSi (va_Run.run (va_runV (As := [.int (nI ri.toNatClampNeg)]) (rest := []) ⟨hx, hb, hml, hown, hK.1.use _⟩ (c_X1_isFalse l D cy z0 ad V PB n n2 k M M2 kp fb ch co fo (nI bn) bb ρ hC hB hk hn40 hn2 hPB ri.toNatClampNeg hr9.2) (k_X6_X1_isFalse hK.1 rfl rfl ⟨Nat.le_of_ble_eq_true rfl, Nat.le_of_ble_eq_true rfl⟩) (preV hK hz hW hC0 rfl) rfl rfl hl.1 rfl (lv_room (Nat.le_of_ble_eq_true rfl)) dX6_mend_25 ⟨Nat.le_of_ble_eq_true rfl, Nat.le_of_ble_eq_true rfl⟩)) (fun r25 h25 => ?_)
      have h25 : r25 = b2i (flB ρ M n kp ri.toNatClampNeg) := h25
      subst h25
      refine lv_istore (lv' := [(4, .int (b2i (flB ρ M n kp ri.toNatClampNeg))), (3, .ref (ad PB)), (0, .ref (ad 0)), (1, .int (pi)), (2, .int (ri))]) hx hb dX6_mend_28 hl (by decide) rfl (fun ls hl => ?_)
      refine lv_aload_n hx hb dX6_mend_30 rfl (lv_at hl 1 rfl) ?_
      refine g_X6_X1_keptAt hx hb hown hK hW hC0 dX6_mend_31 ?_
      refine lv_iload_n hx hb dX6_mend_34 rfl (lv_at hl 4 rfl) ?_
      refine lv_aload_n hx hb dX6_mend_35 rfl (lv_at hl 1 rfl) ?_
      refine lv_iload_n hx hb dX6_mend_36 rfl (lv_at hl 4 rfl) ?_
      refine asi (y := nI ri.toNatClampNeg) hr9.1 ?_
      refine vp_callSl (va_Run.run (va_runV (As := [.int (nI ri.toNatClampNeg)]) (rest := [.int (ri), .ref (ad (PB + 13))]) ⟨hx, hb, hml, hown, hK.1.use _⟩ (c_X1_fromNothing l D cy z0 ad V PB n n2 k M M2 kp fb ch co fo (nI bn) bb ρ hC hB hk hn40 hn2 hPB ri.toNatClampNeg hr9.2) (k_X6_X1_fromNothing hK.1 rfl rfl ⟨Nat.le_of_ble_eq_true rfl, Nat.le_of_ble_eq_true rfl⟩) (preV hK hz hW hC0 rfl) rfl rfl hl.1 rfl (lv_room (Nat.le_of_ble_eq_true rfl)) dX6_mend_37 ⟨Nat.le_of_ble_eq_true rfl, Nat.le_of_ble_eq_true rfl⟩)) (fun r37 h37 => ?_)
      have h37 : r37 = wthR ρ ri.toNatClampNeg M n := h37
      subst h37
      refine w_last hx hb hK hW hS hC3 (j := ri.toNatClampNeg) (hr9.1) (by omega) (by omega) dX6_mend_40 (fun H locs hW hS => ?_)
      obtain ⟨V1, eV1⟩ : ∃ x9, x9 = va_up V (PB + 13) (some (.inl (cy 1, 12, .inr (.inl (vp_updL kp ri.toNatClampNeg (wthR ρ ri.toNatClampNeg M n)))))) := ⟨_, rfl⟩
      rw [← eV1] at hW
      have hX0 : V1 (0) = some (.inr (6, [.ref (ad (1)), .ref (ad (3)), .ref (ad (4)), .int (nI P), .int (nI K), .int (ce)])) := by rw [eV1, va_up_ne _ _ (by omega)]; exact hX0
      have hX3 : V1 (3) = some (.inl (cy 5, 4, .inr (.inr (.inr (.inr (fun i => if i < P then some (ad (100 + 100 * i)) else none)))))) := by rw [eV1, va_up_ne _ _ (by omega)]; exact hX3
      have hX4 : V1 (4) = some (.inl (cy 7, 20, .inr (.inr (.inr (.inr (fun i => if i < K then some (ad (1000 + 10 * i)) else none)))))) := by rw [eV1, va_up_ne _ _ (by omega)]; exact hX4
      have hB0 : V1 (1) = some (.inr (3, [.ref (ad (2)), .int (nI k)])) := by rw [eV1, va_up_ne _ _ (by omega)]; exact hB0
      have hB1 : V1 (2) = some (.inl (cy 6, 12, .inr (.inr (.inr (.inr (fun i => if i < k then some (ad (10 + i)) else none)))))) := by rw [eV1, va_up_ne _ _ (by omega)]; exact hB1
      have hC0 : V1 (PB) = some (.inr (1, [.ref (ad (1)), .ref (ad (PB + 1)), .ref (ad (PB + 7)), .ref (ad (PB + 13)), .ref (ad (PB + 14)), .ref (ad (PB + 15)), .int (ch), .int (co), .int (fo), .int (b2i bb), .int (nI bn)])) := by rw [eV1, va_up_ne _ _ (by omega)]; exact hC0
      have hC4 : V1 (PB + 14) = some (.inl (cy 2, 12, .inl (fun r => b2i (fb r)))) := by rw [eV1, va_up_ne _ _ (by omega)]; exact hC4
      have hT0 : V1 (PB + 1) = some (.inr (5, [.ref (ad (PB + 1 + 1)), .int (nI n)])) := by rw [eV1, va_up_ne _ _ (by omega)]; exact hT0
      have hT1 : V1 (PB + 1 + 1) = some (.inl (cy 3, 4, .inr (.inr (.inr (.inr (fun i => if i < 4 then some (ad (PB + 1 + 2 + i)) else none)))))) := by rw [eV1, va_up_ne _ _ (by omega)]; exact hT1
      have hU0 : V1 (PB + 7) = some (.inr (5, [.ref (ad (PB + 7 + 1)), .int (nI n2)])) := by rw [eV1, va_up_ne _ _ (by omega)]; exact hU0
      have hU1 : V1 (PB + 7 + 1) = some (.inl (cy 3, 4, .inr (.inr (.inr (.inr (fun i => if i < 4 then some (ad (PB + 7 + 2 + i)) else none)))))) := by rw [eV1, va_up_ne _ _ (by omega)]; exact hU1
      have hH0 : V1 (PB + 15) = some (.inr (0, [.ref (ad (PB + 16)), .ref (ad (PB + 17)), .ref (ad (PB + 18)), .ref (ad (PB + 19)), .int (nI nx), .int (nI kn)])) := by rw [eV1, va_up_ne _ _ (by omega)]; exact hH0
      have hH1 : V1 (PB + 16) = some (.inl (cy 0, 60, .inl ho)) := by rw [eV1, va_up_ne _ _ (by omega)]; exact hH1
      have hH2 : V1 (PB + 17) = some (.inl (cy 0, 60, .inl hm)) := by rw [eV1, va_up_ne _ _ (by omega)]; exact hH2
      have hH3 : V1 (PB + 18) = some (.inl (cy 0, 60, .inl hv)) := by rw [eV1, va_up_ne _ _ (by omega)]; exact hH3
      have hH4 : V1 (PB + 19) = some (.inl (cy 4, 60, .inr (.inr (.inr (.inr (fun i => if i < 60 then some (ad (PB + 20 + i)) else none)))))) := by rw [eV1, va_up_ne _ _ (by omega)]; exact hH4
      have hC3 : V1 (PB + 13) = some (.inl (cy 1, 12, .inr (.inl (vp_updL kp ri.toNatClampNeg (wthR ρ ri.toNatClampNeg M n))))) := by rw [eV1, va_up_self]
      refine lv_iload hx hb dX6_mend_41 (lv_at hl 0 rfl) ?_
      refine vp_callSi (va_Run.run (va_runS (As := [.int (b2i (flB ρ M n kp ri.toNatClampNeg))]) (rest := []) ⟨hx, hb, hml, hown, hK.1.use _⟩ (c_X6_oneIf l D cy z0 ad V1 (flB ρ M n kp ri.toNatClampNeg)) (k_X6_X6_oneIf hK.1 rfl rfl ⟨Nat.le_of_ble_eq_true rfl, Nat.le_of_ble_eq_true rfl⟩) (preS hK (Nat.le_trans hz hS.1) hW) rfl rfl hl.1 rfl (lv_room (Nat.le_of_ble_eq_true rfl)) dX6_mend_43 ⟨Nat.le_of_ble_eq_true rfl, Nat.le_of_ble_eq_true rfl⟩)) (fun r43 h43 => ?_)
      have h43 : r43 = b2i (flB ρ M n kp ri.toNatClampNeg) := h43
      subst h43
      exact rwi hx hb hr hlocks dX6_mend_46 hW hS (xPl_new (π := (M, vp_updL kp ri.toNatClampNeg (wthR ρ ri.toNatClampNeg M n), fb, ch, co, fo, bb, bn, ho, hm, hv, hs, nx, kn)) hX hO hp ePB rfl (by rw [← eπ]; exact if_pos c18) ⟨⟨n2, M2, ⟨hC0, hC.2.1.mv (fun L h1 h2 => by rw [eV1, va_up_ne _ _ (by omega)]), hC.2.2.1.mv (fun L h1 h2 => by rw [eV1, va_up_ne _ _ (by omega)]), hC3, hC4⟩, hnn, hZ2⟩, hH.mv (fun L h1 h2 => by rw [eV1, va_up_ne _ _ (by omega)])⟩ (fun L hL => by rw [eV1, va_up_ne _ _ (by omega)]))
    · skip
      have c18 := b2i_0.mp c18
      refine lv_iconst (v := -1) hx hb dX6_mend_21 (by decide) ?_
      exact rwi hx hb hr hlocks dX6_mend_22 hW hS (xPl_same hX hp (by rw [← eπ]; exact if_neg (by rw [c18]; decide)))
  · skip
    refine asv (y := .null) (by rw [if_neg hp]; rfl) ?_
    refine lv_astore_nN (lv' := [(3, .null), (0, .ref (ad 0)), (1, .int (pi)), (2, .int (ri))]) hx hb dX6_mend_5 rfl hl (by decide) rfl (fun ls hl => ?_)
    refine lv_aload_nN hx hb dX6_mend_6 rfl (lv_at hl 0 rfl) ?_
    refine lv_ifnullN (tgt := 21) hx hb dX6_mend_7 (by decide) ?_
    refine lv_iconst (v := -1) hx hb dX6_mend_21 (by decide) ?_
    exact rwi hx hb hr hlocks dX6_mend_22 hW hS (xPl_none hX hp)

set_option maxHeartbeats 4000000 in
set_option maxRecDepth 100000 in
theorem c_X6_every (l : Launch) (D : va_G) (cy : Nat → ClassId) (z0 : Nat) (ad : Nat → Nat) (V : Nat → Option va_E) (n k P K : Nat) (ce : Int32) (ρ : RuT) (pl : Nat → PlT) (sn : Nat → SnT) (hX : isX ad V cy n k P K ce ρ pl sn) (hO : okX n k P K ρ pl sn) (x : Int32) : Met l yX6_every [Cond.code yX6_every cX6_every 3 (some .int)] { frames := 1, cells := 0, slots := 0, locals := 22 } (WP [.ref (ad 0), .int (x)] D cy z0 ad V) (va_Qi (fun r u => r = (if wiB x (nI 0) (nI 100) = true then ce else -1) ∧ u.1 = ad ∧ isX ad u.2 cy n k P K (if wiB x (nI 0) (nI 100) = true then x else ce) ρ pl sn ∧ ∀ L, 2000 ≤ L → u.2 L = V L) (WB D z0) (AA z0)) 0 0 (AA z0) := by
  refine met_of (by decide) (Nat.le_of_ble_eq_true rfl) (fun p e s m below meth c hx hb hr hml hown hlocks hnm hK hz hW ls hl => ?_)
  have hown : s.vm.findClass RX6 = some m.cls := hown
  have hl : lv_has ls 3 [(0, .ref (ad 0)), (1, .int (x))] := hl
  have hS : va_S (AA z0) s.heap s.heap [] := va_S.rf
  obtain ⟨hX0, hB, hX3, hX4, hXp, hXs, hFx⟩ := id hX
  obtain ⟨hn40, hk, hP1, hP4, hK20, hOp, hOs⟩ := id hO
  have hk12 := hk.1
  obtain ⟨hB0, hB1, hBr⟩ := id hB
  refine lv_iload_n hx hb dX6_every_0 rfl (lv_at hl 1 rfl) ?_
  refine lv_iconst (v := nI 0) hx hb dX6_every_1 (by decide) ?_
  refine lv_bipush (v := nI 100) hx hb dX6_every_2 (by decide) ?_
  refine vp_callSi (va_Run.run (va_runS (As := [.int (x), .int (nI 0), .int (nI 100)]) (rest := []) ⟨hx, hb, hml, hown, hK.1.use _⟩ (c_X6_within l D cy z0 ad V x (nI 0) (nI 100)) (k_X6_X6_within hK.1 rfl rfl ⟨Nat.le_of_ble_eq_true rfl, Nat.le_of_ble_eq_true rfl⟩) (preS hK hz hW) rfl rfl hl.1 rfl (lv_room (Nat.le_of_ble_eq_true rfl)) dX6_every_4 ⟨Nat.le_of_ble_eq_true rfl, Nat.le_of_ble_eq_true rfl⟩)) (fun r4 h4 => ?_)
  have h4 : r4 = b2i (wiB x (nI 0) (nI 100)) := h4
  subst h4
  refine lv_if_ne (tgt := 12) hx hb dX6_every_7 (by decide) (fun c7 => ?_) (fun c7 => ?_)
  · skip
    have c7 := b2i_1.mp c7
    refine lv_aload_n hx hb dX6_every_12 rfl (lv_at hl 0 rfl) ?_
    refine g_X6_X6_checkEvery hx hb hown hK hW hX0 dX6_every_13 ?_
    refine lv_istore_n (lv' := [(2, .int (ce)), (0, .ref (ad 0)), (1, .int (x))]) hx hb dX6_every_16 rfl hl (by decide) rfl (fun ls hl => ?_)
    refine lv_aload_n hx hb dX6_every_17 rfl (lv_at hl 1 rfl) ?_
    refine lv_iload_n hx hb dX6_every_18 rfl (lv_at hl 2 rfl) ?_
    refine p_X6_X6_checkEvery hx hb hown hK hW hS hX0 dX6_every_19 (fun H locs hW hS => ?_)
    obtain ⟨V1, eV1⟩ : ∃ x9, x9 = va_up V (0) (some (.inr (6, [.ref (ad (1)), .ref (ad (3)), .ref (ad (4)), .int (nI P), .int (nI K), .int (x)]))) := ⟨_, rfl⟩
    rw [← eV1] at hW
    have hX3 : V1 (3) = some (.inl (cy 5, 4, .inr (.inr (.inr (.inr (fun i => if i < P then some (ad (100 + 100 * i)) else none)))))) := by rw [eV1, va_up_ne _ _ (by omega)]; exact hX3
    have hX4 : V1 (4) = some (.inl (cy 7, 20, .inr (.inr (.inr (.inr (fun i => if i < K then some (ad (1000 + 10 * i)) else none)))))) := by rw [eV1, va_up_ne _ _ (by omega)]; exact hX4
    have hB0 : V1 (1) = some (.inr (3, [.ref (ad (2)), .int (nI k)])) := by rw [eV1, va_up_ne _ _ (by omega)]; exact hB0
    have hB1 : V1 (2) = some (.inl (cy 6, 12, .inr (.inr (.inr (.inr (fun i => if i < k then some (ad (10 + i)) else none)))))) := by rw [eV1, va_up_ne _ _ (by omega)]; exact hB1
    have hX0 : V1 (0) = some (.inr (6, [.ref (ad (1)), .ref (ad (3)), .ref (ad (4)), .int (nI P), .int (nI K), .int (x)])) := by rw [eV1, va_up_self]
    refine lv_iload_n hx hb dX6_every_22 rfl (lv_at hl 0 rfl) ?_
    exact rwi hx hb hr hlocks dX6_every_23 hW hS (⟨by rw [c7]; rfl, rfl, by rw [c7]; exact ⟨hX0, hB.mv hk.1 (fun L h1 h2 => by show V1 L = _; rw [eV1, va_up_ne _ _ (by omega)]), hX3, hX4, fun q hq => (hXp q hq).mv (fun L h1 h2 => by show V1 L = _; rw [eV1, va_up_ne _ _ (by omega)]), fun i hi => (hXs i hi).mv (fun L h1 h2 => by show V1 L = _; rw [eV1, va_up_ne _ _ (by omega)]), ⟨fun r a b => by show V1 _ = _; rw [eV1, va_up_ne _ _ (by omega)]; exact hFx.1 r a b, fun q a b j c => by show V1 _ = _; rw [eV1, va_up_ne _ _ (by omega)]; exact hFx.2.1 q a b j c, fun i a b j c => by show V1 _ = _; rw [eV1, va_up_ne _ _ (by omega)]; exact hFx.2.2 i a b j c⟩⟩, fun L hL => by show V1 L = _; rw [eV1, va_up_ne _ _ (by omega)]⟩)
  · skip
    have c7 := b2i_0.mp c7
    refine lv_iconst (v := -1) hx hb dX6_every_10 (by decide) ?_
    exact rwi hx hb hr hlocks dX6_every_11 hW hS (⟨by rw [c7]; rfl, rfl, by rw [c7]; exact hX, fun L _ => rfl⟩)
