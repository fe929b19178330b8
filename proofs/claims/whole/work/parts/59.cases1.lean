set_option maxHeartbeats 4000000 in
set_option maxRecDepth 100000 in
theorem lc_10 {p : Program} {l : Launch} {e : Env} {s : State} {m : MethodId} {below : List Frame} {meth : Method} {c : Code} {b L : Nat} {xs : Nat → Int32} {D : va_G} {cy : Nat → ClassId} {z0 i n k P K : Nat} {ce : Int32} {ρ : RuT} {pl : Nat → PlT} {sn : Nat → SnT} {ad : Nat → Nat} {V : Nat → Option va_E} {H : Heap} {locs : List Loc} {ls : Array Slot} (hL : L ≤ 3072) (C0 : lw_At p s m meth c b L xs) (hK : KB D cy s) (hz : z0 ≤ s.heap.size) (hz2 : s.heap.size ≤ z0) (hi : 6 * i + 6 ≤ L) (hX : isX ad V cy n k P K ce ρ pl sn) (hM : isM ad V cy n k P K ce ρ pl sn) (hG : gdX i n k P K ρ pl sn) (hW : HW D z0 ad V H) (hS : va_S (AA z0) s.heap H locs) (hl : lv_has ls 4 [(0, .ref b), (1, .ref (ad 0)), (2, .ref (ad 2000)), (3, .int (nI (6 * i)))]) (KK : lcK p l e s m below meth c b D cy z0 i) : W p l e room_1 s m #[Value.ref b] below meth c H locs (200 + 80 * i) (10000 + 1333 * i) (lw_Z below #[Value.ref b] s) (F0 m 541 ls []) := by
  obtain ⟨hx, hb, hr, hml, hown, hts, hXs, hbl, hlocks, hgv⟩ := id C0
  have hown : s.vm.findClass RL = some m.cls := hown
  have hbA : ¬ AA z0 b := fun q => absurd (Nat.lt_of_lt_of_le hbl hz2) (Nat.not_lt.mpr q)
  have hO := hG.1
  have hX0 := hX.1
  obtain ⟨fs7, h2000⟩ := hM.o
  refine lv_aload_n hx hb dL_law_541 rfl (lv_at hl 1 rfl) ?_
  refine lv_aload_n hx hb dL_law_542 rfl (lv_at hl 0 rfl) ?_
  refine lv_iload_n hx hb dL_law_543 rfl (lv_at hl 3 rfl) ?_
  refine lv_iconst (v := nI 1) hx hb dL_law_544 (by decide) ?_
  refine lv_iadd hx hb dL_law_545 ?_
  refine asi (y := nI ((6 * i) + 1)) (nI_add _ _) ?_
  refine va_sld hx hb hXs hbl hbA hS (vp_in_nI (n := (6 * i) + 1) (N := L) (by omega) (by omega)) dL_law_546 ?_
  refine asi (y := xs ((6 * i) + 1)) (by rw [nI_clamp (by omega)]) ?_
  refine lv_aload_n hx hb dL_law_547 rfl (lv_at hl 0 rfl) ?_
  refine lv_iload_n hx hb dL_law_548 rfl (lv_at hl 3 rfl) ?_
  refine lv_iconst (v := nI 2) hx hb dL_law_549 (by decide) ?_
  refine lv_iadd hx hb dL_law_550 ?_
  refine asi (y := nI ((6 * i) + 2)) (nI_add _ _) ?_
  refine va_sld hx hb hXs hbl hbA hS (vp_in_nI (n := (6 * i) + 2) (N := L) (by omega) (by omega)) dL_law_551 ?_
  refine asi (y := xs ((6 * i) + 2)) (by rw [nI_clamp (by omega)]) ?_
  refine vp_callSl (va_Run.run (va_runV (As := [.int (xs ((6 * i) + 1)), .int (xs ((6 * i) + 2))]) (rest := []) ⟨hx, hb, hml, hown, hK.1.use _⟩ (c_X6_score l D cy z0 ad V n k P K ce ρ pl sn hX hO (xs (6 * i + 1)) (xs (6 * i + 2))) (k_L_X6_score hK.1 rfl rfl ⟨Nat.le_of_ble_eq_true rfl, Nat.le_of_ble_eq_true rfl⟩) (preV hK (Nat.le_trans hz hS.1) hW hX0 rfl) rfl rfl hl.1 rfl (lv_room (Nat.le_of_ble_eq_true rfl)) dL_law_552 ⟨by show 200 + 80 * i + 0 ≤ 600000; omega, by show 10000 + 1333 * i + 0 ≤ 7302250; omega⟩)) (fun r552 h552 => ?_)
  have h552 : r552 = xScore k P ρ pl (xs (6 * i + 1)) (xs (6 * i + 2)) := h552
  subst h552
  refine lv_aload_n hx hb dL_law_555 rfl (lv_at hl 2 rfl) ?_
  refine lv_aload_n hx hb dL_law_556 rfl (lv_at hl 0 rfl) ?_
  refine lv_iload_n hx hb dL_law_557 rfl (lv_at hl 3 rfl) ?_
  refine lv_iconst (v := nI 1) hx hb dL_law_558 (by decide) ?_
  refine lv_iadd hx hb dL_law_559 ?_
  refine asi (y := nI ((6 * i) + 1)) (nI_add _ _) ?_
  refine va_sld hx hb hXs hbl hbA hS (vp_in_nI (n := (6 * i) + 1) (N := L) (by omega) (by omega)) dL_law_560 ?_
  refine asi (y := xs ((6 * i) + 1)) (by rw [nI_clamp (by omega)]) ?_
  refine lv_aload_n hx hb dL_law_561 rfl (lv_at hl 0 rfl) ?_
  refine lv_iload_n hx hb dL_law_562 rfl (lv_at hl 3 rfl) ?_
  refine lv_iconst (v := nI 2) hx hb dL_law_563 (by decide) ?_
  refine lv_iadd hx hb dL_law_564 ?_
  refine asi (y := nI ((6 * i) + 2)) (nI_add _ _) ?_
  refine va_sld hx hb hXs hbl hbA hS (vp_in_nI (n := (6 * i) + 2) (N := L) (by omega) (by omega)) dL_law_565 ?_
  refine asi (y := xs ((6 * i) + 2)) (by rw [nI_clamp (by omega)]) ?_
  refine vp_callSl (va_Run.run (va_runV (As := [.int (xs ((6 * i) + 1)), .int (xs ((6 * i) + 2))]) (rest := [.long (xScore k P ρ pl (xs (6 * i + 1)) (xs (6 * i + 2)))]) ⟨hx, hb, hml, hown, hK.1.use _⟩ (c_X7_score l D cy z0 ad V i n k P K ce ρ pl sn hM hG (xs (6 * i + 1)) (xs (6 * i + 2))) (k_L_X7_score hK.1 rfl rfl ⟨Nat.le_of_ble_eq_true rfl, Nat.le_of_ble_eq_true rfl⟩) (preV hK (Nat.le_trans hz hS.1) hW h2000 rfl) rfl rfl hl.1 rfl (lv_room (Nat.le_of_ble_eq_true rfl)) dL_law_566 ⟨by show 200 + 80 * i + 0 ≤ 600000; omega, by show 10000 + 1333 * i + 0 ≤ 7302250; omega⟩)) (fun r566 h566 => ?_)
  have h566 : r566 = xScore k P ρ pl (xs (6 * i + 1)) (xs (6 * i + 2)) := h566
  subst h566
  refine W.lcmp hx hb dL_law_569 ?_
  refine lv_if_eq (tgt := 854) hx hb dL_law_570 (by decide) (fun c570 => ?_) (fun c570 => ?_)
  · skip
    refine W.widen (k := 200 + 80 * (i + 1)) (n := 10000 + 1333 * (i + 1)) (by omega) (by omega) ?_
    exact KK n k P K ce ρ pl sn ad V H locs ls hX hM (gdX_s hG) hW hS (lv_sub hl [0, 1, 2, 3] rfl)
  · skip
    exact absurd ((lg_cmp_eq _ _).mpr rfl) c570

set_option maxHeartbeats 4000000 in
set_option maxRecDepth 100000 in
theorem lc_11 {p : Program} {l : Launch} {e : Env} {s : State} {m : MethodId} {below : List Frame} {meth : Method} {c : Code} {b L : Nat} {xs : Nat → Int32} {D : va_G} {cy : Nat → ClassId} {z0 i n k P K : Nat} {ce : Int32} {ρ : RuT} {pl : Nat → PlT} {sn : Nat → SnT} {ad : Nat → Nat} {V : Nat → Option va_E} {H : Heap} {locs : List Loc} {ls : Array Slot} (hL : L ≤ 3072) (C0 : lw_At p s m meth c b L xs) (hK : KB D cy s) (hz : z0 ≤ s.heap.size) (hz2 : s.heap.size ≤ z0) (hi : 6 * i + 6 ≤ L) (hX : isX ad V cy n k P K ce ρ pl sn) (hM : isM ad V cy n k P K ce ρ pl sn) (hG : gdX i n k P K ρ pl sn) (hW : HW D z0 ad V H) (hS : va_S (AA z0) s.heap H locs) (hl : lv_has ls 4 [(0, .ref b), (1, .ref (ad 0)), (2, .ref (ad 2000)), (3, .int (nI (6 * i)))]) (KK : lcK p l e s m below meth c b D cy z0 i) : W p l e room_1 s m #[Value.ref b] below meth c H locs (200 + 80 * i) (10000 + 1333 * i) (lw_Z below #[Value.ref b] s) (F0 m 575 ls []) := by
  obtain ⟨hx, hb, hr, hml, hown, hts, hXs, hbl, hlocks, hgv⟩ := id C0
  have hown : s.vm.findClass RL = some m.cls := hown
  have hbA : ¬ AA z0 b := fun q => absurd (Nat.lt_of_lt_of_le hbl hz2) (Nat.not_lt.mpr q)
  have hO := hG.1
  have hX0 := hX.1
  obtain ⟨fs7, h2000⟩ := hM.o
  refine lv_aload_n hx hb dL_law_575 rfl (lv_at hl 1 rfl) ?_
  refine lv_aload_n hx hb dL_law_576 rfl (lv_at hl 0 rfl) ?_
  refine lv_iload_n hx hb dL_law_577 rfl (lv_at hl 3 rfl) ?_
  refine lv_iconst (v := nI 1) hx hb dL_law_578 (by decide) ?_
  refine lv_iadd hx hb dL_law_579 ?_
  refine asi (y := nI ((6 * i) + 1)) (nI_add _ _) ?_
  refine va_sld hx hb hXs hbl hbA hS (vp_in_nI (n := (6 * i) + 1) (N := L) (by omega) (by omega)) dL_law_580 ?_
  refine asi (y := xs ((6 * i) + 1)) (by rw [nI_clamp (by omega)]) ?_
  refine lv_aload_n hx hb dL_law_581 rfl (lv_at hl 0 rfl) ?_
  refine lv_iload_n hx hb dL_law_582 rfl (lv_at hl 3 rfl) ?_
  refine lv_iconst (v := nI 2) hx hb dL_law_583 (by decide) ?_
  refine lv_iadd hx hb dL_law_584 ?_
  refine asi (y := nI ((6 * i) + 2)) (nI_add _ _) ?_
  refine va_sld hx hb hXs hbl hbA hS (vp_in_nI (n := (6 * i) + 2) (N := L) (by omega) (by omega)) dL_law_585 ?_
  refine asi (y := xs ((6 * i) + 2)) (by rw [nI_clamp (by omega)]) ?_
  refine lv_aload_n hx hb dL_law_586 rfl (lv_at hl 0 rfl) ?_
  refine lv_iload_n hx hb dL_law_587 rfl (lv_at hl 3 rfl) ?_
  refine lv_iconst (v := nI 3) hx hb dL_law_588 (by decide) ?_
  refine lv_iadd hx hb dL_law_589 ?_
  refine asi (y := nI ((6 * i) + 3)) (nI_add _ _) ?_
  refine va_sld hx hb hXs hbl hbA hS (vp_in_nI (n := (6 * i) + 3) (N := L) (by omega) (by omega)) dL_law_590 ?_
  refine asi (y := xs ((6 * i) + 3)) (by rw [nI_clamp (by omega)]) ?_
  refine vp_callSl (va_Run.run (va_runV (As := [.int (xs ((6 * i) + 1)), .int (xs ((6 * i) + 2)), .int (xs ((6 * i) + 3))]) (rest := []) ⟨hx, hb, hml, hown, hK.1.use _⟩ (c_X6_worth l D cy z0 ad V n k P K ce ρ pl sn hX hO (xs (6 * i + 1)) (xs (6 * i + 2)) (xs (6 * i + 3))) (k_L_X6_worth hK.1 rfl rfl ⟨Nat.le_of_ble_eq_true rfl, Nat.le_of_ble_eq_true rfl⟩) (preV hK (Nat.le_trans hz hS.1) hW hX0 rfl) rfl rfl hl.1 rfl (lv_room (Nat.le_of_ble_eq_true rfl)) dL_law_591 ⟨by show 200 + 80 * i + 0 ≤ 600000; omega, by show 10000 + 1333 * i + 0 ≤ 7302250; omega⟩)) (fun r591 h591 => ?_)
  have h591 : r591 = xWorth n k P ρ pl (xs (6 * i + 1)) (xs (6 * i + 2)) (xs (6 * i + 3)) := h591
  subst h591
  refine lv_aload_n hx hb dL_law_594 rfl (lv_at hl 2 rfl) ?_
  refine lv_aload_n hx hb dL_law_595 rfl (lv_at hl 0 rfl) ?_
  refine lv_iload_n hx hb dL_law_596 rfl (lv_at hl 3 rfl) ?_
  refine lv_iconst (v := nI 1) hx hb dL_law_597 (by decide) ?_
  refine lv_iadd hx hb dL_law_598 ?_
  refine asi (y := nI ((6 * i) + 1)) (nI_add _ _) ?_
  refine va_sld hx hb hXs hbl hbA hS (vp_in_nI (n := (6 * i) + 1) (N := L) (by omega) (by omega)) dL_law_599 ?_
  refine asi (y := xs ((6 * i) + 1)) (by rw [nI_clamp (by omega)]) ?_
  refine lv_aload_n hx hb dL_law_600 rfl (lv_at hl 0 rfl) ?_
  refine lv_iload_n hx hb dL_law_601 rfl (lv_at hl 3 rfl) ?_
  refine lv_iconst (v := nI 2) hx hb dL_law_602 (by decide) ?_
  refine lv_iadd hx hb dL_law_603 ?_
  refine asi (y := nI ((6 * i) + 2)) (nI_add _ _) ?_
  refine va_sld hx hb hXs hbl hbA hS (vp_in_nI (n := (6 * i) + 2) (N := L) (by omega) (by omega)) dL_law_604 ?_
  refine asi (y := xs ((6 * i) + 2)) (by rw [nI_clamp (by omega)]) ?_
  refine lv_aload_n hx hb dL_law_605 rfl (lv_at hl 0 rfl) ?_
  refine lv_iload_n hx hb dL_law_606 rfl (lv_at hl 3 rfl) ?_
  refine lv_iconst (v := nI 3) hx hb dL_law_607 (by decide) ?_
  refine lv_iadd hx hb dL_law_608 ?_
  refine asi (y := nI ((6 * i) + 3)) (nI_add _ _) ?_
  refine va_sld hx hb hXs hbl hbA hS (vp_in_nI (n := (6 * i) + 3) (N := L) (by omega) (by omega)) dL_law_609 ?_
  refine asi (y := xs ((6 * i) + 3)) (by rw [nI_clamp (by omega)]) ?_
  refine vp_callSl (va_Run.run (va_runV (As := [.int (xs ((6 * i) + 1)), .int (xs ((6 * i) + 2)), .int (xs ((6 * i) + 3))]) (rest := [.long (xWorth n k P ρ pl (xs (6 * i + 1)) (xs (6 * i + 2)) (xs (6 * i + 3)))]) ⟨hx, hb, hml, hown, hK.1.use _⟩ (c_X7_worth l D cy z0 ad V i n k P K ce ρ pl sn hM hG (xs (6 * i + 1)) (xs (6 * i + 2)) (xs (6 * i + 3))) (k_L_X7_worth hK.1 rfl rfl ⟨Nat.le_of_ble_eq_true rfl, Nat.le_of_ble_eq_true rfl⟩) (preV hK (Nat.le_trans hz hS.1) hW h2000 rfl) rfl rfl hl.1 rfl (lv_room (Nat.le_of_ble_eq_true rfl)) dL_law_610 ⟨by show 200 + 80 * i + 0 ≤ 600000; omega, by show 10000 + 1333 * i + 0 ≤ 7302250; omega⟩)) (fun r610 h610 => ?_)
  have h610 : r610 = xWorth n k P ρ pl (xs (6 * i + 1)) (xs (6 * i + 2)) (xs (6 * i + 3)) := h610
  subst h610
  refine W.lcmp hx hb dL_law_613 ?_
  refine lv_if_eq (tgt := 854) hx hb dL_law_614 (by decide) (fun c614 => ?_) (fun c614 => ?_)
  · skip
    refine W.widen (k := 200 + 80 * (i + 1)) (n := 10000 + 1333 * (i + 1)) (by omega) (by omega) ?_
    exact KK n k P K ce ρ pl sn ad V H locs ls hX hM (gdX_s hG) hW hS (lv_sub hl [0, 1, 2, 3] rfl)
  · skip
    exact absurd ((lg_cmp_eq _ _).mpr rfl) c614

set_option maxHeartbeats 4000000 in
set_option maxRecDepth 100000 in
theorem lc_12 {p : Program} {l : Launch} {e : Env} {s : State} {m : MethodId} {below : List Frame} {meth : Method} {c : Code} {b L : Nat} {xs : Nat → Int32} {D : va_G} {cy : Nat → ClassId} {z0 i n k P K : Nat} {ce : Int32} {ρ : RuT} {pl : Nat → PlT} {sn : Nat → SnT} {ad : Nat → Nat} {V : Nat → Option va_E} {H : Heap} {locs : List Loc} {ls : Array Slot} (hL : L ≤ 3072) (C0 : lw_At p s m meth c b L xs) (hK : KB D cy s) (hz : z0 ≤ s.heap.size) (hz2 : s.heap.size ≤ z0) (hi : 6 * i + 6 ≤ L) (hX : isX ad V cy n k P K ce ρ pl sn) (hM : isM ad V cy n k P K ce ρ pl sn) (hG : gdX i n k P K ρ pl sn) (hW : HW D z0 ad V H) (hS : va_S (AA z0) s.heap H locs) (hl : lv_has ls 4 [(0, .ref b), (1, .ref (ad 0)), (2, .ref (ad 2000)), (3, .int (nI (6 * i)))]) (KK : lcK p l e s m below meth c b D cy z0 i) : W p l e room_1 s m #[Value.ref b] below meth c H locs (200 + 80 * i) (10000 + 1333 * i) (lw_Z below #[Value.ref b] s) (F0 m 619 ls []) := by
  obtain ⟨hx, hb, hr, hml, hown, hts, hXs, hbl, hlocks, hgv⟩ := id C0
  have hown : s.vm.findClass RL = some m.cls := hown
  have hbA : ¬ AA z0 b := fun q => absurd (Nat.lt_of_lt_of_le hbl hz2) (Nat.not_lt.mpr q)
  have hO := hG.1
  have hX0 := hX.1
  obtain ⟨fs7, h2000⟩ := hM.o
  refine lv_aload_n hx hb dL_law_619 rfl (lv_at hl 1 rfl) ?_
  refine lv_aload_n hx hb dL_law_620 rfl (lv_at hl 0 rfl) ?_
  refine lv_iload_n hx hb dL_law_621 rfl (lv_at hl 3 rfl) ?_
  refine lv_iconst (v := nI 1) hx hb dL_law_622 (by decide) ?_
  refine lv_iadd hx hb dL_law_623 ?_
  refine asi (y := nI ((6 * i) + 1)) (nI_add _ _) ?_
  refine va_sld hx hb hXs hbl hbA hS (vp_in_nI (n := (6 * i) + 1) (N := L) (by omega) (by omega)) dL_law_624 ?_
  refine asi (y := xs ((6 * i) + 1)) (by rw [nI_clamp (by omega)]) ?_
  refine vp_callSi (va_Run.run (va_runV (As := [.int (xs ((6 * i) + 1))]) (rest := []) ⟨hx, hb, hml, hown, hK.1.use _⟩ (c_X6_check l D cy z0 ad V n k P K ce ρ pl sn hX hO (xs (6 * i + 1))) (k_L_X6_check hK.1 rfl rfl ⟨Nat.le_of_ble_eq_true rfl, Nat.le_of_ble_eq_true rfl⟩) (preV hK (Nat.le_trans hz hS.1) hW hX0 rfl) rfl rfl hl.1 rfl (lv_room (Nat.le_of_ble_eq_true rfl)) dL_law_625 ⟨by show 200 + 80 * i + 0 ≤ 600000; omega, by show 10000 + 1333 * i + 0 ≤ 7302250; omega⟩)) (fun r625 h625 => ?_)
  have h625 : r625 = xCheck n k P ρ pl (xs (6 * i + 1)) := h625
  subst h625
  refine lv_aload_n hx hb dL_law_628 rfl (lv_at hl 2 rfl) ?_
  refine lv_aload_n hx hb dL_law_629 rfl (lv_at hl 0 rfl) ?_
  refine lv_iload_n hx hb dL_law_630 rfl (lv_at hl 3 rfl) ?_
  refine lv_iconst (v := nI 1) hx hb dL_law_631 (by decide) ?_
  refine lv_iadd hx hb dL_law_632 ?_
  refine asi (y := nI ((6 * i) + 1)) (nI_add _ _) ?_
  refine va_sld hx hb hXs hbl hbA hS (vp_in_nI (n := (6 * i) + 1) (N := L) (by omega) (by omega)) dL_law_633 ?_
  refine asi (y := xs ((6 * i) + 1)) (by rw [nI_clamp (by omega)]) ?_
  refine vp_callSi (va_Run.run (va_runV (As := [.int (xs ((6 * i) + 1))]) (rest := [.int (xCheck n k P ρ pl (xs (6 * i + 1)))]) ⟨hx, hb, hml, hown, hK.1.use _⟩ (c_X7_check l D cy z0 ad V i n k P K ce ρ pl sn hM hG (xs (6 * i + 1))) (k_L_X7_check hK.1 rfl rfl ⟨Nat.le_of_ble_eq_true rfl, Nat.le_of_ble_eq_true rfl⟩) (preV hK (Nat.le_trans hz hS.1) hW h2000 rfl) rfl rfl hl.1 rfl (lv_room (Nat.le_of_ble_eq_true rfl)) dL_law_634 ⟨by show 200 + 80 * i + 0 ≤ 600000; omega, by show 10000 + 1333 * i + 0 ≤ 7302250; omega⟩)) (fun r634 h634 => ?_)
  have h634 : r634 = xCheck n k P ρ pl (xs (6 * i + 1)) := h634
  subst h634
  refine lv_icmp_eq (tgt := 854) hx hb dL_law_637 (by decide) (fun c637 => ?_) (fun c637 => ?_)
  · skip
    refine W.widen (k := 200 + 80 * (i + 1)) (n := 10000 + 1333 * (i + 1)) (by omega) (by omega) ?_
    exact KK n k P K ce ρ pl sn ad V H locs ls hX hM (gdX_s hG) hW hS (lv_sub hl [0, 1, 2, 3] rfl)
  · skip
    exact absurd rfl c637

set_option maxHeartbeats 4000000 in
set_option maxRecDepth 100000 in
theorem lc_13 {p : Program} {l : Launch} {e : Env} {s : State} {m : MethodId} {below : List Frame} {meth : Method} {c : Code} {b L : Nat} {xs : Nat → Int32} {D : va_G} {cy : Nat → ClassId} {z0 i n k P K : Nat} {ce : Int32} {ρ : RuT} {pl : Nat → PlT} {sn : Nat → SnT} {ad : Nat → Nat} {V : Nat → Option va_E} {H : Heap} {locs : List Loc} {ls : Array Slot} (hL : L ≤ 3072) (C0 : lw_At p s m meth c b L xs) (hK : KB D cy s) (hz : z0 ≤ s.heap.size) (hz2 : s.heap.size ≤ z0) (hi : 6 * i + 6 ≤ L) (hX : isX ad V cy n k P K ce ρ pl sn) (hM : isM ad V cy n k P K ce ρ pl sn) (hG : gdX i n k P K ρ pl sn) (hW : HW D z0 ad V H) (hS : va_S (AA z0) s.heap H locs) (hl : lv_has ls 4 [(0, .ref b), (1, .ref (ad 0)), (2, .ref (ad 2000)), (3, .int (nI (6 * i)))]) (KK : lcK p l e s m below meth c b D cy z0 i) : W p l e room_1 s m #[Value.ref b] below meth c H locs (200 + 80 * i) (10000 + 1333 * i) (lw_Z below #[Value.ref b] s) (F0 m 642 ls []) := by
  obtain ⟨hx, hb, hr, hml, hown, hts, hXs, hbl, hlocks, hgv⟩ := id C0
  have hown : s.vm.findClass RL = some m.cls := hown
  have hbA : ¬ AA z0 b := fun q => absurd (Nat.lt_of_lt_of_le hbl hz2) (Nat.not_lt.mpr q)
  have hO := hG.1
  have hX0 := hX.1
  obtain ⟨fs7, h2000⟩ := hM.o
  refine lv_aload_n hx hb dL_law_642 rfl (lv_at hl 1 rfl) ?_
  refine lv_aload_n hx hb dL_law_643 rfl (lv_at hl 0 rfl) ?_
  refine lv_iload_n hx hb dL_law_644 rfl (lv_at hl 3 rfl) ?_
  refine lv_iconst (v := nI 1) hx hb dL_law_645 (by decide) ?_
  refine lv_iadd hx hb dL_law_646 ?_
  refine asi (y := nI ((6 * i) + 1)) (nI_add _ _) ?_
  refine va_sld hx hb hXs hbl hbA hS (vp_in_nI (n := (6 * i) + 1) (N := L) (by omega) (by omega)) dL_law_647 ?_
  refine asi (y := xs ((6 * i) + 1)) (by rw [nI_clamp (by omega)]) ?_
  refine ci (va_runV (As := [.int (xs ((6 * i) + 1))]) (rest := []) ⟨hx, hb, hml, hown, hK.1.use _⟩ (c_X6_every l D cy z0 ad V n k P K ce ρ pl sn hX hO (xs (6 * i + 1))) (k_L_X6_every hK.1 rfl rfl ⟨Nat.le_of_ble_eq_true rfl, Nat.le_of_ble_eq_true rfl⟩) (preV hK (Nat.le_trans hz hS.1) hW hX0 rfl) rfl rfl hl.1 rfl (lv_room (Nat.le_of_ble_eq_true rfl)) dL_law_648 ⟨by show 200 + 80 * i + 0 ≤ 600000; omega, by show 10000 + 1333 * i + 0 ≤ 7302250; omega⟩) hS (fun r648 ad648 Vc648 H locs h648 hW hS => ?_)
  obtain ⟨hr1, e1, hX1, hf1⟩ := h648
  obtain rfl : ad = ad648 := e1.symm
  have hM1 : isM ad Vc648 cy n k P K ce ρ pl sn := hM.mv (fun L hL => ⟨hf1 L hL, rfl⟩)
  have hr1 : r648 = (if wiB (xs (6 * i + 1)) (nI 0) (nI 100) = true then ce else -1) := hr1
  subst hr1
  obtain ⟨fs8, h2001⟩ := hM1.o
  refine lv_aload_n hx hb dL_law_651 rfl (lv_at hl 2 rfl) ?_
  refine lv_aload_n hx hb dL_law_652 rfl (lv_at hl 0 rfl) ?_
  refine lv_iload_n hx hb dL_law_653 rfl (lv_at hl 3 rfl) ?_
  refine lv_iconst (v := nI 1) hx hb dL_law_654 (by decide) ?_
  refine lv_iadd hx hb dL_law_655 ?_
  refine asi (y := nI ((6 * i) + 1)) (nI_add _ _) ?_
  refine va_sld hx hb hXs hbl hbA hS (vp_in_nI (n := (6 * i) + 1) (N := L) (by omega) (by omega)) dL_law_656 ?_
  refine asi (y := xs ((6 * i) + 1)) (by rw [nI_clamp (by omega)]) ?_
  refine ci (va_runV (As := [.int (xs ((6 * i) + 1))]) (rest := [.int ((if wiB (xs (6 * i + 1)) (nI 0) (nI 100) = true then ce else -1))]) ⟨hx, hb, hml, hown, hK.1.use _⟩ (c_X7_every l D cy z0 ad Vc648 i n k P K ce ρ pl sn hM1 hG (xs (6 * i + 1))) (k_L_X7_every hK.1 rfl rfl ⟨Nat.le_of_ble_eq_true rfl, Nat.le_of_ble_eq_true rfl⟩) (preV hK (Nat.le_trans hz hS.1) hW h2001 rfl) rfl rfl hl.1 rfl (lv_room (Nat.le_of_ble_eq_true rfl)) dL_law_657 ⟨by show 200 + 80 * i + 0 + 0 ≤ 600000; omega, by show 10000 + 1333 * i + 0 + 0 ≤ 7302250; omega⟩) hS (fun r657 ad657 Vc657 H locs h657 hW hS => ?_)
  obtain ⟨hr2, e2, hM2, hf2⟩ := h657
  obtain rfl : ad = ad657 := e2.symm
  have hr2 : r657 = (if wiB (xs (6 * i + 1)) (nI 0) (nI 100) = true then ce else -1) := hr2
  subst hr2
  have hG2 : gdX (i + 1) n k P K ρ pl sn := gdX_s hG
  have hX2 := hX1.mv hG2.1 hf2
  refine lv_icmp_eq (tgt := 854) hx hb dL_law_660 (by decide) (fun c660 => ?_) (fun c660 => ?_)
  · skip
    refine W.widen (k := 200 + 80 * (i + 1)) (n := 10000 + 1333 * (i + 1)) (by omega) (by omega) ?_
    exact KK _ _ _ _ _ _ _ _ _ _ _ _ ls hX2 hM2 hG2 hW hS (lv_sub hl [0, 1, 2, 3] rfl)
  · skip
    exact absurd rfl c660

set_option maxHeartbeats 4000000 in
set_option maxRecDepth 100000 in
theorem lc_14 {p : Program} {l : Launch} {e : Env} {s : State} {m : MethodId} {below : List Frame} {meth : Method} {c : Code} {b L : Nat} {xs : Nat → Int32} {D : va_G} {cy : Nat → ClassId} {z0 i n k P K : Nat} {ce : Int32} {ρ : RuT} {pl : Nat → PlT} {sn : Nat → SnT} {ad : Nat → Nat} {V : Nat → Option va_E} {H : Heap} {locs : List Loc} {ls : Array Slot} (hL : L ≤ 3072) (C0 : lw_At p s m meth c b L xs) (hK : KB D cy s) (hz : z0 ≤ s.heap.size) (hz2 : s.heap.size ≤ z0) (hi : 6 * i + 6 ≤ L) (hX : isX ad V cy n k P K ce ρ pl sn) (hM : isM ad V cy n k P K ce ρ pl sn) (hG : gdX i n k P K ρ pl sn) (hW : HW D z0 ad V H) (hS : va_S (AA z0) s.heap H locs) (hl : lv_has ls 4 [(0, .ref b), (1, .ref (ad 0)), (2, .ref (ad 2000)), (3, .int (nI (6 * i)))]) (KK : lcK p l e s m below meth c b D cy z0 i) : W p l e room_1 s m #[Value.ref b] below meth c H locs (200 + 80 * i) (10000 + 1333 * i) (lw_Z below #[Value.ref b] s) (F0 m 665 ls []) := by
  obtain ⟨hx, hb, hr, hml, hown, hts, hXs, hbl, hlocks, hgv⟩ := id C0
  have hown : s.vm.findClass RL = some m.cls := hown
  have hbA : ¬ AA z0 b := fun q => absurd (Nat.lt_of_lt_of_le hbl hz2) (Nat.not_lt.mpr q)
  have hO := hG.1
  have hX0 := hX.1
  obtain ⟨fs7, h2000⟩ := hM.o
  refine lv_aload_n hx hb dL_law_665 rfl (lv_at hl 1 rfl) ?_
  refine lv_aload_n hx hb dL_law_666 rfl (lv_at hl 0 rfl) ?_
  refine lv_iload_n hx hb dL_law_667 rfl (lv_at hl 3 rfl) ?_
  refine lv_iconst (v := nI 1) hx hb dL_law_668 (by decide) ?_
  refine lv_iadd hx hb dL_law_669 ?_
  refine asi (y := nI ((6 * i) + 1)) (nI_add _ _) ?_
  refine va_sld hx hb hXs hbl hbA hS (vp_in_nI (n := (6 * i) + 1) (N := L) (by omega) (by omega)) dL_law_670 ?_
  refine asi (y := xs ((6 * i) + 1)) (by rw [nI_clamp (by omega)]) ?_
  refine lv_aload_n hx hb dL_law_671 rfl (lv_at hl 0 rfl) ?_
  refine lv_iload_n hx hb dL_law_672 rfl (lv_at hl 3 rfl) ?_
  refine lv_iconst (v := nI 2) hx hb dL_law_673 (by decide) ?_
  refine lv_iadd hx hb dL_law_674 ?_
  refine asi (y := nI ((6 * i) + 2)) (nI_add _ _) ?_
  refine va_sld hx hb hXs hbl hbA hS (vp_in_nI (n := (6 * i) + 2) (N := L) (by omega) (by omega)) dL_law_675 ?_
  refine asi (y := xs ((6 * i) + 2)) (by rw [nI_clamp (by omega)]) ?_
  refine ci (va_runV (As := [.int (xs ((6 * i) + 1)), .int (xs ((6 * i) + 2))]) (rest := []) ⟨hx, hb, hml, hown, hK.1.use _⟩ (c_X6_mend l D cy z0 ad V n k P K ce ρ pl sn hX hO (xs (6 * i + 1)) (xs (6 * i + 2))) (k_L_X6_mend hK.1 rfl rfl ⟨Nat.le_of_ble_eq_true rfl, Nat.le_of_ble_eq_true rfl⟩) (preV hK (Nat.le_trans hz hS.1) hW hX0 rfl) rfl rfl hl.1 rfl (lv_room (Nat.le_of_ble_eq_true rfl)) dL_law_676 ⟨by show 200 + 80 * i + 0 ≤ 600000; omega, by show 10000 + 1333 * i + 0 ≤ 7302250; omega⟩) hS (fun r676 ad676 Vc676 H locs h676 hW hS => ?_)
  obtain ⟨hr1, e1, hX1, hf1⟩ := h676
  obtain rfl : ad = ad676 := e1.symm
  have hM1 : isM ad Vc676 cy n k P K ce ρ pl sn := hM.mv (fun L hL => ⟨hf1 L hL, rfl⟩)
  have hr1 : r676 = (xPl P pl (xs (6 * i + 1)) (plMend n k ρ (xs (6 * i + 2)))).1 := hr1
  subst hr1
  obtain ⟨fs8, h2001⟩ := hM1.o
  refine lv_aload_n hx hb dL_law_679 rfl (lv_at hl 2 rfl) ?_
  refine lv_aload_n hx hb dL_law_680 rfl (lv_at hl 0 rfl) ?_
  refine lv_iload_n hx hb dL_law_681 rfl (lv_at hl 3 rfl) ?_
  refine lv_iconst (v := nI 1) hx hb dL_law_682 (by decide) ?_
  refine lv_iadd hx hb dL_law_683 ?_
  refine asi (y := nI ((6 * i) + 1)) (nI_add _ _) ?_
  refine va_sld hx hb hXs hbl hbA hS (vp_in_nI (n := (6 * i) + 1) (N := L) (by omega) (by omega)) dL_law_684 ?_
  refine asi (y := xs ((6 * i) + 1)) (by rw [nI_clamp (by omega)]) ?_
  refine lv_aload_n hx hb dL_law_685 rfl (lv_at hl 0 rfl) ?_
  refine lv_iload_n hx hb dL_law_686 rfl (lv_at hl 3 rfl) ?_
  refine lv_iconst (v := nI 2) hx hb dL_law_687 (by decide) ?_
  refine lv_iadd hx hb dL_law_688 ?_
  refine asi (y := nI ((6 * i) + 2)) (nI_add _ _) ?_
  refine va_sld hx hb hXs hbl hbA hS (vp_in_nI (n := (6 * i) + 2) (N := L) (by omega) (by omega)) dL_law_689 ?_
  refine asi (y := xs ((6 * i) + 2)) (by rw [nI_clamp (by omega)]) ?_
  refine ci (va_runV (As := [.int (xs ((6 * i) + 1)), .int (xs ((6 * i) + 2))]) (rest := [.int ((xPl P pl (xs (6 * i + 1)) (plMend n k ρ (xs (6 * i + 2)))).1)]) ⟨hx, hb, hml, hown, hK.1.use _⟩ (c_X7_mend l D cy z0 ad Vc676 i n k P K ce ρ pl sn hM1 hG (xs (6 * i + 1)) (xs (6 * i + 2))) (k_L_X7_mend hK.1 rfl rfl ⟨Nat.le_of_ble_eq_true rfl, Nat.le_of_ble_eq_true rfl⟩) (preV hK (Nat.le_trans hz hS.1) hW h2001 rfl) rfl rfl hl.1 rfl (lv_room (Nat.le_of_ble_eq_true rfl)) dL_law_690 ⟨by show 200 + 80 * i + 0 + 0 ≤ 600000; omega, by show 10000 + 1333 * i + 0 + 0 ≤ 7302250; omega⟩) hS (fun r690 ad690 Vc690 H locs h690 hW hS => ?_)
  obtain ⟨hr2, e2, hM2, hf2⟩ := h690
  obtain rfl : ad = ad690 := e2.symm
  have hr2 : r690 = (xPl P pl (xs (6 * i + 1)) (plMend n k ρ (xs (6 * i + 2)))).1 := hr2
  subst hr2
  have hG2 : gdX (i + 1) n k P K ρ (xPl P pl (xs (6 * i + 1)) (plMend n k ρ (xs (6 * i + 2)))).2 sn := gdX_pl hG (fun π h => gd_mend h)
  have hX2 := hX1.mv hG2.1 hf2
  refine lv_icmp_eq (tgt := 854) hx hb dL_law_693 (by decide) (fun c693 => ?_) (fun c693 => ?_)
  · skip
    refine W.widen (k := 200 + 80 * (i + 1)) (n := 10000 + 1333 * (i + 1)) (by omega) (by omega) ?_
    exact KK _ _ _ _ _ _ _ _ _ _ _ _ ls hX2 hM2 hG2 hW hS (lv_sub hl [0, 1, 2, 3] rfl)
  · skip
    exact absurd rfl c693

set_option maxHeartbeats 4000000 in
set_option maxRecDepth 100000 in
theorem lc_15 {p : Program} {l : Launch} {e : Env} {s : State} {m : MethodId} {below : List Frame} {meth : Method} {c : Code} {b L : Nat} {xs : Nat → Int32} {D : va_G} {cy : Nat → ClassId} {z0 i n k P K : Nat} {ce : Int32} {ρ : RuT} {pl : Nat → PlT} {sn : Nat → SnT} {ad : Nat → Nat} {V : Nat → Option va_E} {H : Heap} {locs : List Loc} {ls : Array Slot} (hL : L ≤ 3072) (C0 : lw_At p s m meth c b L xs) (hK : KB D cy s) (hz : z0 ≤ s.heap.size) (hz2 : s.heap.size ≤ z0) (hi : 6 * i + 6 ≤ L) (hX : isX ad V cy n k P K ce ρ pl sn) (hM : isM ad V cy n k P K ce ρ pl sn) (hG : gdX i n k P K ρ pl sn) (hW : HW D z0 ad V H) (hS : va_S (AA z0) s.heap H locs) (hl : lv_has ls 4 [(0, .ref b), (1, .ref (ad 0)), (2, .ref (ad 2000)), (3, .int (nI (6 * i)))]) (KK : lcK p l e s m below meth c b D cy z0 i) : W p l e room_1 s m #[Value.ref b] below meth c H locs (200 + 80 * i) (10000 + 1333 * i) (lw_Z below #[Value.ref b] s) (F0 m 698 ls []) := by
  obtain ⟨hx, hb, hr, hml, hown, hts, hXs, hbl, hlocks, hgv⟩ := id C0
  have hown : s.vm.findClass RL = some m.cls := hown
  have hbA : ¬ AA z0 b := fun q => absurd (Nat.lt_of_lt_of_le hbl hz2) (Nat.not_lt.mpr q)
  have hO := hG.1
  have hX0 := hX.1
  obtain ⟨fs7, h2000⟩ := hM.o
  refine lv_aload_n hx hb dL_law_698 rfl (lv_at hl 1 rfl) ?_
  refine lv_aload_n hx hb dL_law_699 rfl (lv_at hl 0 rfl) ?_
  refine lv_iload_n hx hb dL_law_700 rfl (lv_at hl 3 rfl) ?_
  refine lv_iconst (v := nI 1) hx hb dL_law_701 (by decide) ?_
  refine lv_iadd hx hb dL_law_702 ?_
  refine asi (y := nI ((6 * i) + 1)) (nI_add _ _) ?_
  refine va_sld hx hb hXs hbl hbA hS (vp_in_nI (n := (6 * i) + 1) (N := L) (by omega) (by omega)) dL_law_703 ?_
  refine asi (y := xs ((6 * i) + 1)) (by rw [nI_clamp (by omega)]) ?_
  refine ci (va_runV (As := [.int (xs ((6 * i) + 1))]) (rest := []) ⟨hx, hb, hml, hown, hK.1.use _⟩ (c_X6_keep l D cy z0 ad V n k P K ce ρ pl sn hX hO (xs (6 * i + 1))) (k_L_X6_keep hK.1 rfl rfl ⟨Nat.le_of_ble_eq_true rfl, Nat.le_of_ble_eq_true rfl⟩) (preV hK (Nat.le_trans hz hS.1) hW hX0 rfl) rfl rfl hl.1 rfl (lv_room (Nat.le_of_ble_eq_true rfl)) dL_law_704 ⟨by show 200 + 80 * i + 8 ≤ 600000; omega, by show 10000 + 1333 * i + 173 ≤ 7302250; omega⟩) hS (fun r704 ad704 Vc704 H locs h704 hW hS => ?_)
  obtain ⟨hr1, hX1, hf1, ha0⟩ := h704
  have hM1 : isM ad704 Vc704 cy n k P K ce ρ pl sn := hM.mv hf1
  have ha2 : ad704 2000 = ad 2000 := (hf1 2000 (by omega)).2
  have ha0 : ad704 0 = ad 0 := ha0
  have hl : lv_has ls 4 [(0, .ref (b)), (1, .ref (ad704 (0))), (2, .ref (ad704 (2000))), (3, .int (nI (6 * i)))] := by rw [ha0, ha2]; exact lv_sub hl [0, 1, 2, 3] rfl
  have hr1 : r704 = (xKeep n k P K ρ pl sn (xs (6 * i + 1))).1 := hr1
  subst hr1
  obtain ⟨fs8, h2001⟩ := hM1.o
  refine lv_aload_n hx hb dL_law_707 rfl (lv_at hl 2 rfl) ?_
  refine lv_aload_n hx hb dL_law_708 rfl (lv_at hl 0 rfl) ?_
  refine lv_iload_n hx hb dL_law_709 rfl (lv_at hl 3 rfl) ?_
  refine lv_iconst (v := nI 1) hx hb dL_law_710 (by decide) ?_
  refine lv_iadd hx hb dL_law_711 ?_
  refine asi (y := nI ((6 * i) + 1)) (nI_add _ _) ?_
  refine va_sld hx hb hXs hbl hbA hS (vp_in_nI (n := (6 * i) + 1) (N := L) (by omega) (by omega)) dL_law_712 ?_
  refine asi (y := xs ((6 * i) + 1)) (by rw [nI_clamp (by omega)]) ?_
  refine ci (va_runV (As := [.int (xs ((6 * i) + 1))]) (rest := [.int ((xKeep n k P K ρ pl sn (xs (6 * i + 1))).1)]) ⟨hx, hb, hml, hown, hK.1.use _⟩ (c_X7_keep l D cy z0 ad704 Vc704 i n k P K ce ρ pl sn hM1 hG (xs (6 * i + 1))) (k_L_X7_keep hK.1 rfl rfl ⟨Nat.le_of_ble_eq_true rfl, Nat.le_of_ble_eq_true rfl⟩) (preV hK (Nat.le_trans hz hS.1) hW h2001 rfl) rfl rfl hl.1 rfl (lv_room (Nat.le_of_ble_eq_true rfl)) dL_law_713 ⟨by show 200 + 80 * i + 8 + 0 ≤ 600000; omega, by show 10000 + 1333 * i + 173 + 0 ≤ 7302250; omega⟩) hS (fun r713 ad713 Vc713 H locs h713 hW hS => ?_)
  obtain ⟨hr2, e2, hM2, hf2⟩ := h713
  obtain rfl : ad704 = ad713 := e2.symm
  have hr2 : r713 = (xKeep n k P K ρ pl sn (xs (6 * i + 1))).1 := hr2
  subst hr2
  have hG2 : gdX (i + 1) n k P (xKeep n k P K ρ pl sn (xs (6 * i + 1))).2.1 ρ pl (xKeep n k P K ρ pl sn (xs (6 * i + 1))).2.2 := gdX_keep hG
  have hX2 := hX1.mv hG2.1 hf2
  refine lv_icmp_eq (tgt := 854) hx hb dL_law_716 (by decide) (fun c716 => ?_) (fun c716 => ?_)
  · skip
    refine W.widen (k := 200 + 80 * (i + 1)) (n := 10000 + 1333 * (i + 1)) (by omega) (by omega) ?_
    exact KK _ _ _ _ _ _ _ _ _ _ _ _ ls hX2 hM2 hG2 hW hS (lv_sub hl [0, 1, 2, 3] rfl)
  · skip
    exact absurd rfl c716

set_option maxHeartbeats 4000000 in
set_option maxRecDepth 100000 in
theorem lc_16 {p : Program} {l : Launch} {e : Env} {s : State} {m : MethodId} {below : List Frame} {meth : Method} {c : Code} {b L : Nat} {xs : Nat → Int32} {D : va_G} {cy : Nat → ClassId} {z0 i n k P K : Nat} {ce : Int32} {ρ : RuT} {pl : Nat → PlT} {sn : Nat → SnT} {ad : Nat → Nat} {V : Nat → Option va_E} {H : Heap} {locs : List Loc} {ls : Array Slot} (hL : L ≤ 3072) (C0 : lw_At p s m meth c b L xs) (hK : KB D cy s) (hz : z0 ≤ s.heap.size) (hz2 : s.heap.size ≤ z0) (hi : 6 * i + 6 ≤ L) (hX : isX ad V cy n k P K ce ρ pl sn) (hM : isM ad V cy n k P K ce ρ pl sn) (hG : gdX i n k P K ρ pl sn) (hW : HW D z0 ad V H) (hS : va_S (AA z0) s.heap H locs) (hl : lv_has ls 4 [(0, .ref b), (1, .ref (ad 0)), (2, .ref (ad 2000)), (3, .int (nI (6 * i)))]) (KK : lcK p l e s m below meth c b D cy z0 i) : W p l e room_1 s m #[Value.ref b] below meth c H locs (200 + 80 * i) (10000 + 1333 * i) (lw_Z below #[Value.ref b] s) (F0 m 721 ls []) := by
  obtain ⟨hx, hb, hr, hml, hown, hts, hXs, hbl, hlocks, hgv⟩ := id C0
  have hown : s.vm.findClass RL = some m.cls := hown
  have hbA : ¬ AA z0 b := fun q => absurd (Nat.lt_of_lt_of_le hbl hz2) (Nat.not_lt.mpr q)
  have hO := hG.1
  have hX0 := hX.1
  obtain ⟨fs7, h2000⟩ := hM.o
  refine lv_aload_n hx hb dL_law_721 rfl (lv_at hl 1 rfl) ?_
  refine lv_aload_n hx hb dL_law_722 rfl (lv_at hl 0 rfl) ?_
  refine lv_iload_n hx hb dL_law_723 rfl (lv_at hl 3 rfl) ?_
  refine lv_iconst (v := nI 1) hx hb dL_law_724 (by decide) ?_
  refine lv_iadd hx hb dL_law_725 ?_
  refine asi (y := nI ((6 * i) + 1)) (nI_add _ _) ?_
  refine va_sld hx hb hXs hbl hbA hS (vp_in_nI (n := (6 * i) + 1) (N := L) (by omega) (by omega)) dL_law_726 ?_
  refine asi (y := xs ((6 * i) + 1)) (by rw [nI_clamp (by omega)]) ?_
  refine lv_aload_n hx hb dL_law_727 rfl (lv_at hl 0 rfl) ?_
  refine lv_iload_n hx hb dL_law_728 rfl (lv_at hl 3 rfl) ?_
  refine lv_iconst (v := nI 2) hx hb dL_law_729 (by decide) ?_
  refine lv_iadd hx hb dL_law_730 ?_
  refine asi (y := nI ((6 * i) + 2)) (nI_add _ _) ?_
  refine va_sld hx hb hXs hbl hbA hS (vp_in_nI (n := (6 * i) + 2) (N := L) (by omega) (by omega)) dL_law_731 ?_
  refine asi (y := xs ((6 * i) + 2)) (by rw [nI_clamp (by omega)]) ?_
  refine vp_callSl (va_Run.run (va_runV (As := [.int (xs ((6 * i) + 1)), .int (xs ((6 * i) + 2))]) (rest := []) ⟨hx, hb, hml, hown, hK.1.use _⟩ (c_X6_kept l D cy z0 ad V n k P K ce ρ pl sn hX hO (xs (6 * i + 1)) (xs (6 * i + 2))) (k_L_X6_kept hK.1 rfl rfl ⟨Nat.le_of_ble_eq_true rfl, Nat.le_of_ble_eq_true rfl⟩) (preV hK (Nat.le_trans hz hS.1) hW hX0 rfl) rfl rfl hl.1 rfl (lv_room (Nat.le_of_ble_eq_true rfl)) dL_law_732 ⟨by show 200 + 80 * i + 0 ≤ 600000; omega, by show 10000 + 1333 * i + 0 ≤ 7302250; omega⟩)) (fun r732 h732 => ?_)
  have h732 : r732 = xKept K sn (xs (6 * i + 1)) (xs (6 * i + 2)) := h732
  subst h732
  refine lv_aload_n hx hb dL_law_735 rfl (lv_at hl 2 rfl) ?_
  refine lv_aload_n hx hb dL_law_736 rfl (lv_at hl 0 rfl) ?_
  refine lv_iload_n hx hb dL_law_737 rfl (lv_at hl 3 rfl) ?_
  refine lv_iconst (v := nI 1) hx hb dL_law_738 (by decide) ?_
  refine lv_iadd hx hb dL_law_739 ?_
  refine asi (y := nI ((6 * i) + 1)) (nI_add _ _) ?_
  refine va_sld hx hb hXs hbl hbA hS (vp_in_nI (n := (6 * i) + 1) (N := L) (by omega) (by omega)) dL_law_740 ?_
  refine asi (y := xs ((6 * i) + 1)) (by rw [nI_clamp (by omega)]) ?_
  refine lv_aload_n hx hb dL_law_741 rfl (lv_at hl 0 rfl) ?_
  refine lv_iload_n hx hb dL_law_742 rfl (lv_at hl 3 rfl) ?_
  refine lv_iconst (v := nI 2) hx hb dL_law_743 (by decide) ?_
  refine lv_iadd hx hb dL_law_744 ?_
  refine asi (y := nI ((6 * i) + 2)) (nI_add _ _) ?_
  refine va_sld hx hb hXs hbl hbA hS (vp_in_nI (n := (6 * i) + 2) (N := L) (by omega) (by omega)) dL_law_745 ?_
  refine asi (y := xs ((6 * i) + 2)) (by rw [nI_clamp (by omega)]) ?_
  refine vp_callSl (va_Run.run (va_runV (As := [.int (xs ((6 * i) + 1)), .int (xs ((6 * i) + 2))]) (rest := [.long (xKept K sn (xs (6 * i + 1)) (xs (6 * i + 2)))]) ⟨hx, hb, hml, hown, hK.1.use _⟩ (c_X7_kept l D cy z0 ad V i n k P K ce ρ pl sn hM hG (xs (6 * i + 1)) (xs (6 * i + 2))) (k_L_X7_kept hK.1 rfl rfl ⟨Nat.le_of_ble_eq_true rfl, Nat.le_of_ble_eq_true rfl⟩) (preV hK (Nat.le_trans hz hS.1) hW h2000 rfl) rfl rfl hl.1 rfl (lv_room (Nat.le_of_ble_eq_true rfl)) dL_law_746 ⟨by show 200 + 80 * i + 0 ≤ 600000; omega, by show 10000 + 1333 * i + 0 ≤ 7302250; omega⟩)) (fun r746 h746 => ?_)
  have h746 : r746 = xKept K sn (xs (6 * i + 1)) (xs (6 * i + 2)) := h746
  subst h746
  refine W.lcmp hx hb dL_law_749 ?_
  refine lv_if_eq (tgt := 854) hx hb dL_law_750 (by decide) (fun c750 => ?_) (fun c750 => ?_)
  · skip
    refine W.widen (k := 200 + 80 * (i + 1)) (n := 10000 + 1333 * (i + 1)) (by omega) (by omega) ?_
    exact KK n k P K ce ρ pl sn ad V H locs ls hX hM (gdX_s hG) hW hS (lv_sub hl [0, 1, 2, 3] rfl)
  · skip
    exact absurd ((lg_cmp_eq _ _).mpr rfl) c750

set_option maxHeartbeats 4000000 in
set_option maxRecDepth 100000 in
theorem lc_17 {p : Program} {l : Launch} {e : Env} {s : State} {m : MethodId} {below : List Frame} {meth : Method} {c : Code} {b L : Nat} {xs : Nat → Int32} {D : va_G} {cy : Nat → ClassId} {z0 i n k P K : Nat} {ce : Int32} {ρ : RuT} {pl : Nat → PlT} {sn : Nat → SnT} {ad : Nat → Nat} {V : Nat → Option va_E} {H : Heap} {locs : List Loc} {ls : Array Slot} (hL : L ≤ 3072) (C0 : lw_At p s m meth c b L xs) (hK : KB D cy s) (hz : z0 ≤ s.heap.size) (hz2 : s.heap.size ≤ z0) (hi : 6 * i + 6 ≤ L) (hX : isX ad V cy n k P K ce ρ pl sn) (hM : isM ad V cy n k P K ce ρ pl sn) (hG : gdX i n k P K ρ pl sn) (hW : HW D z0 ad V H) (hS : va_S (AA z0) s.heap H locs) (hl : lv_has ls 4 [(0, .ref b), (1, .ref (ad 0)), (2, .ref (ad 2000)), (3, .int (nI (6 * i)))]) (KK : lcK p l e s m below meth c b D cy z0 i) : W p l e room_1 s m #[Value.ref b] below meth c H locs (200 + 80 * i) (10000 + 1333 * i) (lw_Z below #[Value.ref b] s) (F0 m 755 ls []) := by
  obtain ⟨hx, hb, hr, hml, hown, hts, hXs, hbl, hlocks, hgv⟩ := id C0
  have hown : s.vm.findClass RL = some m.cls := hown
  have hbA : ¬ AA z0 b := fun q => absurd (Nat.lt_of_lt_of_le hbl hz2) (Nat.not_lt.mpr q)
  have hO := hG.1
  have hX0 := hX.1
  obtain ⟨fs7, h2000⟩ := hM.o
  refine lv_aload_n hx hb dL_law_755 rfl (lv_at hl 1 rfl) ?_
  refine lv_aload_n hx hb dL_law_756 rfl (lv_at hl 0 rfl) ?_
  refine lv_iload_n hx hb dL_law_757 rfl (lv_at hl 3 rfl) ?_
  refine lv_iconst (v := nI 1) hx hb dL_law_758 (by decide) ?_
  refine lv_iadd hx hb dL_law_759 ?_
  refine asi (y := nI ((6 * i) + 1)) (nI_add _ _) ?_
  refine va_sld hx hb hXs hbl hbA hS (vp_in_nI (n := (6 * i) + 1) (N := L) (by omega) (by omega)) dL_law_760 ?_
  refine asi (y := xs ((6 * i) + 1)) (by rw [nI_clamp (by omega)]) ?_
  refine lv_aload_n hx hb dL_law_761 rfl (lv_at hl 0 rfl) ?_
  refine lv_iload_n hx hb dL_law_762 rfl (lv_at hl 3 rfl) ?_
  refine lv_iconst (v := nI 2) hx hb dL_law_763 (by decide) ?_
  refine lv_iadd hx hb dL_law_764 ?_
  refine asi (y := nI ((6 * i) + 2)) (nI_add _ _) ?_
  refine va_sld hx hb hXs hbl hbA hS (vp_in_nI (n := (6 * i) + 2) (N := L) (by omega) (by omega)) dL_law_765 ?_
  refine asi (y := xs ((6 * i) + 2)) (by rw [nI_clamp (by omega)]) ?_
  refine lv_aload_n hx hb dL_law_766 rfl (lv_at hl 0 rfl) ?_
  refine lv_iload_n hx hb dL_law_767 rfl (lv_at hl 3 rfl) ?_
  refine lv_iconst (v := nI 3) hx hb dL_law_768 (by decide) ?_
  refine lv_iadd hx hb dL_law_769 ?_
  refine asi (y := nI ((6 * i) + 3)) (nI_add _ _) ?_
  refine va_sld hx hb hXs hbl hbA hS (vp_in_nI (n := (6 * i) + 3) (N := L) (by omega) (by omega)) dL_law_770 ?_
  refine asi (y := xs ((6 * i) + 3)) (by rw [nI_clamp (by omega)]) ?_
  refine vp_callSi (va_Run.run (va_runV (As := [.int (xs ((6 * i) + 1)), .int (xs ((6 * i) + 2)), .int (xs ((6 * i) + 3))]) (rest := []) ⟨hx, hb, hml, hown, hK.1.use _⟩ (c_X6_then l D cy z0 ad V n k P K ce ρ pl sn hX hO (xs (6 * i + 1)) (xs (6 * i + 2)) (xs (6 * i + 3))) (k_L_X6_then hK.1 rfl rfl ⟨Nat.le_of_ble_eq_true rfl, Nat.le_of_ble_eq_true rfl⟩) (preV hK (Nat.le_trans hz hS.1) hW hX0 rfl) rfl rfl hl.1 rfl (lv_room (Nat.le_of_ble_eq_true rfl)) dL_law_771 ⟨by show 200 + 80 * i + 0 ≤ 600000; omega, by show 10000 + 1333 * i + 0 ≤ 7302250; omega⟩)) (fun r771 h771 => ?_)
  have h771 : r771 = xThen K sn (xs (6 * i + 1)) (xs (6 * i + 2)) (xs (6 * i + 3)) := h771
  subst h771
  refine lv_aload_n hx hb dL_law_774 rfl (lv_at hl 2 rfl) ?_
  refine lv_aload_n hx hb dL_law_775 rfl (lv_at hl 0 rfl) ?_
  refine lv_iload_n hx hb dL_law_776 rfl (lv_at hl 3 rfl) ?_
  refine lv_iconst (v := nI 1) hx hb dL_law_777 (by decide) ?_
  refine lv_iadd hx hb dL_law_778 ?_
  refine asi (y := nI ((6 * i) + 1)) (nI_add _ _) ?_
  refine va_sld hx hb hXs hbl hbA hS (vp_in_nI (n := (6 * i) + 1) (N := L) (by omega) (by omega)) dL_law_779 ?_
  refine asi (y := xs ((6 * i) + 1)) (by rw [nI_clamp (by omega)]) ?_
  refine lv_aload_n hx hb dL_law_780 rfl (lv_at hl 0 rfl) ?_
  refine lv_iload_n hx hb dL_law_781 rfl (lv_at hl 3 rfl) ?_
  refine lv_iconst (v := nI 2) hx hb dL_law_782 (by decide) ?_
  refine lv_iadd hx hb dL_law_783 ?_
  refine asi (y := nI ((6 * i) + 2)) (nI_add _ _) ?_
  refine va_sld hx hb hXs hbl hbA hS (vp_in_nI (n := (6 * i) + 2) (N := L) (by omega) (by omega)) dL_law_784 ?_
  refine asi (y := xs ((6 * i) + 2)) (by rw [nI_clamp (by omega)]) ?_
  refine lv_aload_n hx hb dL_law_785 rfl (lv_at hl 0 rfl) ?_
  refine lv_iload_n hx hb dL_law_786 rfl (lv_at hl 3 rfl) ?_
  refine lv_iconst (v := nI 3) hx hb dL_law_787 (by decide) ?_
  refine lv_iadd hx hb dL_law_788 ?_
  refine asi (y := nI ((6 * i) + 3)) (nI_add _ _) ?_
  refine va_sld hx hb hXs hbl hbA hS (vp_in_nI (n := (6 * i) + 3) (N := L) (by omega) (by omega)) dL_law_789 ?_
  refine asi (y := xs ((6 * i) + 3)) (by rw [nI_clamp (by omega)]) ?_
  refine vp_callSi (va_Run.run (va_runV (As := [.int (xs ((6 * i) + 1)), .int (xs ((6 * i) + 2)), .int (xs ((6 * i) + 3))]) (rest := [.int (xThen K sn (xs (6 * i + 1)) (xs (6 * i + 2)) (xs (6 * i + 3)))]) ⟨hx, hb, hml, hown, hK.1.use _⟩ (c_X7_then l D cy z0 ad V i n k P K ce ρ pl sn hM hG (xs (6 * i + 1)) (xs (6 * i + 2)) (xs (6 * i + 3))) (k_L_X7_then hK.1 rfl rfl ⟨Nat.le_of_ble_eq_true rfl, Nat.le_of_ble_eq_true rfl⟩) (preV hK (Nat.le_trans hz hS.1) hW h2000 rfl) rfl rfl hl.1 rfl (lv_room (Nat.le_of_ble_eq_true rfl)) dL_law_790 ⟨by show 200 + 80 * i + 0 ≤ 600000; omega, by show 10000 + 1333 * i + 0 ≤ 7302250; omega⟩)) (fun r790 h790 => ?_)
  have h790 : r790 = xThen K sn (xs (6 * i + 1)) (xs (6 * i + 2)) (xs (6 * i + 3)) := h790
  subst h790
  refine lv_icmp_eq (tgt := 854) hx hb dL_law_793 (by decide) (fun c793 => ?_) (fun c793 => ?_)
  · skip
    refine W.widen (k := 200 + 80 * (i + 1)) (n := 10000 + 1333 * (i + 1)) (by omega) (by omega) ?_
    exact KK n k P K ce ρ pl sn ad V H locs ls hX hM (gdX_s hG) hW hS (lv_sub hl [0, 1, 2, 3] rfl)
  · skip
    exact absurd rfl c793

set_option maxHeartbeats 4000000 in
set_option maxRecDepth 100000 in
theorem lc_18 {p : Program} {l : Launch} {e : Env} {s : State} {m : MethodId} {below : List Frame} {meth : Method} {c : Code} {b L : Nat} {xs : Nat → Int32} {D : va_G} {cy : Nat → ClassId} {z0 i n k P K : Nat} {ce : Int32} {ρ : RuT} {pl : Nat → PlT} {sn : Nat → SnT} {ad : Nat → Nat} {V : Nat → Option va_E} {H : Heap} {locs : List Loc} {ls : Array Slot} (hL : L ≤ 3072) (C0 : lw_At p s m meth c b L xs) (hK : KB D cy s) (hz : z0 ≤ s.heap.size) (hz2 : s.heap.size ≤ z0) (hi : 6 * i + 6 ≤ L) (hX : isX ad V cy n k P K ce ρ pl sn) (hM : isM ad V cy n k P K ce ρ pl sn) (hG : gdX i n k P K ρ pl sn) (hW : HW D z0 ad V H) (hS : va_S (AA z0) s.heap H locs) (hl : lv_has ls 4 [(0, .ref b), (1, .ref (ad 0)), (2, .ref (ad 2000)), (3, .int (nI (6 * i)))]) (KK : lcK p l e s m below meth c b D cy z0 i) : W p l e room_1 s m #[Value.ref b] below meth c H locs (200 + 80 * i) (10000 + 1333 * i) (lw_Z below #[Value.ref b] s) (F0 m 798 ls []) := by
  obtain ⟨hx, hb, hr, hml, hown, hts, hXs, hbl, hlocks, hgv⟩ := id C0
  have hown : s.vm.findClass RL = some m.cls := hown
  have hbA : ¬ AA z0 b := fun q => absurd (Nat.lt_of_lt_of_le hbl hz2) (Nat.not_lt.mpr q)
  have hO := hG.1
  have hX0 := hX.1
  obtain ⟨fs7, h2000⟩ := hM.o
  refine lv_aload_n hx hb dL_law_798 rfl (lv_at hl 1 rfl) ?_
  refine lv_aload_n hx hb dL_law_799 rfl (lv_at hl 0 rfl) ?_
  refine lv_iload_n hx hb dL_law_800 rfl (lv_at hl 3 rfl) ?_
  refine lv_iconst (v := nI 1) hx hb dL_law_801 (by decide) ?_
  refine lv_iadd hx hb dL_law_802 ?_
  refine asi (y := nI ((6 * i) + 1)) (nI_add _ _) ?_
  refine va_sld hx hb hXs hbl hbA hS (vp_in_nI (n := (6 * i) + 1) (N := L) (by omega) (by omega)) dL_law_803 ?_
  refine asi (y := xs ((6 * i) + 1)) (by rw [nI_clamp (by omega)]) ?_
  refine lv_aload_n hx hb dL_law_804 rfl (lv_at hl 0 rfl) ?_
  refine lv_iload_n hx hb dL_law_805 rfl (lv_at hl 3 rfl) ?_
  refine lv_iconst (v := nI 2) hx hb dL_law_806 (by decide) ?_
  refine lv_iadd hx hb dL_law_807 ?_
  refine asi (y := nI ((6 * i) + 2)) (nI_add _ _) ?_
  refine va_sld hx hb hXs hbl hbA hS (vp_in_nI (n := (6 * i) + 2) (N := L) (by omega) (by omega)) dL_law_808 ?_
  refine asi (y := xs ((6 * i) + 2)) (by rw [nI_clamp (by omega)]) ?_
  refine vp_callSi (va_Run.run (va_runV (As := [.int (xs ((6 * i) + 1)), .int (xs ((6 * i) + 2))]) (rest := []) ⟨hx, hb, hml, hown, hK.1.use _⟩ (c_X6_told l D cy z0 ad V n k P K ce ρ pl sn hX hO (xs (6 * i + 1)) (xs (6 * i + 2))) (k_L_X6_told hK.1 rfl rfl ⟨Nat.le_of_ble_eq_true rfl, Nat.le_of_ble_eq_true rfl⟩) (preV hK (Nat.le_trans hz hS.1) hW hX0 rfl) rfl rfl hl.1 rfl (lv_room (Nat.le_of_ble_eq_true rfl)) dL_law_809 ⟨by show 200 + 80 * i + 0 ≤ 600000; omega, by show 10000 + 1333 * i + 0 ≤ 7302250; omega⟩)) (fun r809 h809 => ?_)
  have h809 : r809 = xTold k P pl (xs (6 * i + 1)) (xs (6 * i + 2)) := h809
  subst h809
  refine lv_aload_n hx hb dL_law_812 rfl (lv_at hl 2 rfl) ?_
  refine lv_aload_n hx hb dL_law_813 rfl (lv_at hl 0 rfl) ?_
  refine lv_iload_n hx hb dL_law_814 rfl (lv_at hl 3 rfl) ?_
  refine lv_iconst (v := nI 1) hx hb dL_law_815 (by decide) ?_
  refine lv_iadd hx hb dL_law_816 ?_
  refine asi (y := nI ((6 * i) + 1)) (nI_add _ _) ?_
  refine va_sld hx hb hXs hbl hbA hS (vp_in_nI (n := (6 * i) + 1) (N := L) (by omega) (by omega)) dL_law_817 ?_
  refine asi (y := xs ((6 * i) + 1)) (by rw [nI_clamp (by omega)]) ?_
  refine lv_aload_n hx hb dL_law_818 rfl (lv_at hl 0 rfl) ?_
  refine lv_iload_n hx hb dL_law_819 rfl (lv_at hl 3 rfl) ?_
  refine lv_iconst (v := nI 2) hx hb dL_law_820 (by decide) ?_
  refine lv_iadd hx hb dL_law_821 ?_
  refine asi (y := nI ((6 * i) + 2)) (nI_add _ _) ?_
  refine va_sld hx hb hXs hbl hbA hS (vp_in_nI (n := (6 * i) + 2) (N := L) (by omega) (by omega)) dL_law_822 ?_
  refine asi (y := xs ((6 * i) + 2)) (by rw [nI_clamp (by omega)]) ?_
  refine vp_callSi (va_Run.run (va_runV (As := [.int (xs ((6 * i) + 1)), .int (xs ((6 * i) + 2))]) (rest := [.int (xTold k P pl (xs (6 * i + 1)) (xs (6 * i + 2)))]) ⟨hx, hb, hml, hown, hK.1.use _⟩ (c_X7_told l D cy z0 ad V i n k P K ce ρ pl sn hM hG (xs (6 * i + 1)) (xs (6 * i + 2))) (k_L_X7_told hK.1 rfl rfl ⟨Nat.le_of_ble_eq_true rfl, Nat.le_of_ble_eq_true rfl⟩) (preV hK (Nat.le_trans hz hS.1) hW h2000 rfl) rfl rfl hl.1 rfl (lv_room (Nat.le_of_ble_eq_true rfl)) dL_law_823 ⟨by show 200 + 80 * i + 0 ≤ 600000; omega, by show 10000 + 1333 * i + 0 ≤ 7302250; omega⟩)) (fun r823 h823 => ?_)
  have h823 : r823 = xTold k P pl (xs (6 * i + 1)) (xs (6 * i + 2)) := h823
  subst h823
  refine lv_icmp_eq (tgt := 854) hx hb dL_law_826 (by decide) (fun c826 => ?_) (fun c826 => ?_)
  · skip
    refine W.widen (k := 200 + 80 * (i + 1)) (n := 10000 + 1333 * (i + 1)) (by omega) (by omega) ?_
    exact KK n k P K ce ρ pl sn ad V H locs ls hX hM (gdX_s hG) hW hS (lv_sub hl [0, 1, 2, 3] rfl)
  · skip
    exact absurd rfl c826

set_option maxHeartbeats 4000000 in
set_option maxRecDepth 100000 in
theorem lc_19 {p : Program} {l : Launch} {e : Env} {s : State} {m : MethodId} {below : List Frame} {meth : Method} {c : Code} {b L : Nat} {xs : Nat → Int32} {D : va_G} {cy : Nat → ClassId} {z0 i n k P K : Nat} {ce : Int32} {ρ : RuT} {pl : Nat → PlT} {sn : Nat → SnT} {ad : Nat → Nat} {V : Nat → Option va_E} {H : Heap} {locs : List Loc} {ls : Array Slot} (hL : L ≤ 3072) (C0 : lw_At p s m meth c b L xs) (hK : KB D cy s) (hz : z0 ≤ s.heap.size) (hz2 : s.heap.size ≤ z0) (hi : 6 * i + 6 ≤ L) (hX : isX ad V cy n k P K ce ρ pl sn) (hM : isM ad V cy n k P K ce ρ pl sn) (hG : gdX i n k P K ρ pl sn) (hW : HW D z0 ad V H) (hS : va_S (AA z0) s.heap H locs) (hl : lv_has ls 4 [(0, .ref b), (1, .ref (ad 0)), (2, .ref (ad 2000)), (3, .int (nI (6 * i)))]) (KK : lcK p l e s m below meth c b D cy z0 i) : W p l e room_1 s m #[Value.ref b] below meth c H locs (200 + 80 * i) (10000 + 1333 * i) (lw_Z below #[Value.ref b] s) (F0 m 831 ls []) := by
  obtain ⟨hx, hb, hr, hml, hown, hts, hXs, hbl, hlocks, hgv⟩ := id C0
  have hown : s.vm.findClass RL = some m.cls := hown
  have hbA : ¬ AA z0 b := fun q => absurd (Nat.lt_of_lt_of_le hbl hz2) (Nat.not_lt.mpr q)
  have hO := hG.1
  have hX0 := hX.1
  obtain ⟨fs7, h2000⟩ := hM.o
  refine lv_aload_n hx hb dL_law_831 rfl (lv_at hl 1 rfl) ?_
  refine lv_aload_n hx hb dL_law_832 rfl (lv_at hl 0 rfl) ?_
  refine lv_iload_n hx hb dL_law_833 rfl (lv_at hl 3 rfl) ?_
  refine lv_iconst (v := nI 1) hx hb dL_law_834 (by decide) ?_
  refine lv_iadd hx hb dL_law_835 ?_
  refine asi (y := nI ((6 * i) + 1)) (nI_add _ _) ?_
  refine va_sld hx hb hXs hbl hbA hS (vp_in_nI (n := (6 * i) + 1) (N := L) (by omega) (by omega)) dL_law_836 ?_
  refine asi (y := xs ((6 * i) + 1)) (by rw [nI_clamp (by omega)]) ?_
  refine vp_callSi (va_Run.run (va_runV (As := [.int (xs ((6 * i) + 1))]) (rest := []) ⟨hx, hb, hml, hown, hK.1.use _⟩ (c_X6_all l D cy z0 ad V n k P K ce ρ pl sn hX hO (xs (6 * i + 1))) (k_L_X6_all hK.1 rfl rfl ⟨Nat.le_of_ble_eq_true rfl, Nat.le_of_ble_eq_true rfl⟩) (preV hK (Nat.le_trans hz hS.1) hW hX0 rfl) rfl rfl hl.1 rfl (lv_room (Nat.le_of_ble_eq_true rfl)) dL_law_837 ⟨by show 200 + 80 * i + 0 ≤ 600000; omega, by show 10000 + 1333 * i + 0 ≤ 7302250; omega⟩)) (fun r837 h837 => ?_)
  have h837 : r837 = xAll n k P K ce (xs (6 * i + 1)) := h837
  subst h837
  refine lv_aload_n hx hb dL_law_840 rfl (lv_at hl 2 rfl) ?_
  refine lv_aload_n hx hb dL_law_841 rfl (lv_at hl 0 rfl) ?_
  refine lv_iload_n hx hb dL_law_842 rfl (lv_at hl 3 rfl) ?_
  refine lv_iconst (v := nI 1) hx hb dL_law_843 (by decide) ?_
  refine lv_iadd hx hb dL_law_844 ?_
  refine asi (y := nI ((6 * i) + 1)) (nI_add _ _) ?_
  refine va_sld hx hb hXs hbl hbA hS (vp_in_nI (n := (6 * i) + 1) (N := L) (by omega) (by omega)) dL_law_845 ?_
  refine asi (y := xs ((6 * i) + 1)) (by rw [nI_clamp (by omega)]) ?_
  refine vp_callSi (va_Run.run (va_runV (As := [.int (xs ((6 * i) + 1))]) (rest := [.int (xAll n k P K ce (xs (6 * i + 1)))]) ⟨hx, hb, hml, hown, hK.1.use _⟩ (c_X7_all l D cy z0 ad V i n k P K ce ρ pl sn hM hG (xs (6 * i + 1))) (k_L_X7_all hK.1 rfl rfl ⟨Nat.le_of_ble_eq_true rfl, Nat.le_of_ble_eq_true rfl⟩) (preV hK (Nat.le_trans hz hS.1) hW h2000 rfl) rfl rfl hl.1 rfl (lv_room (Nat.le_of_ble_eq_true rfl)) dL_law_846 ⟨by show 200 + 80 * i + 0 ≤ 600000; omega, by show 10000 + 1333 * i + 0 ≤ 7302250; omega⟩)) (fun r846 h846 => ?_)
  have h846 : r846 = xAll n k P K ce (xs (6 * i + 1)) := h846
  subst h846
  refine lv_icmp_eq (tgt := 854) hx hb dL_law_849 (by decide) (fun c849 => ?_) (fun c849 => ?_)
  · skip
    refine W.widen (k := 200 + 80 * (i + 1)) (n := 10000 + 1333 * (i + 1)) (by omega) (by omega) ?_
    exact KK n k P K ce ρ pl sn ad V H locs ls hX hM (gdX_s hG) hW hS (lv_sub hl [0, 1, 2, 3] rfl)
  · skip
    exact absurd rfl c849
