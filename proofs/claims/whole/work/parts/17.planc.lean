set_option maxHeartbeats 4000000 in
set_option maxRecDepth 100000 in
theorem c_X1_scoreBehind (l : Launch) (D : va_G) (cy : Nat → ClassId) (z0 : Nat) (ad : Nat → Nat) (V : Nat → Option va_E) (PB n n2 k : Nat) (M M2 : Nat → Nat → Int32) (kp : Nat → Int64) (fb : Nat → Bool) (ch co fo bk : Int32) (bb : Bool) (ρ : RuT) (hC : isC ad V cy PB n M n2 M2 kp fb ch co fo bb bk) (hB : isBk ad V cy k ρ) (hk : okR k ρ) (hn40 : n ≤ 40) (hn2 : n2 ≤ 40) (hPB : 100 ≤ PB) (hnn : n2 ≤ n) (hZ : Zt n M) (hZ2 : Zt n2 M2) (o mi v lv : Int32) : Met l yX1_scoreBehind [Cond.code yX1_scoreBehind cX1_scoreBehind 8 (some .long)] { frames := 5, cells := 0, slots := 0, locals := 118 } (WP [.ref (ad PB), .int (o), .int (mi), .int (v), .int (lv)] D cy z0 ad V) (va_Ql (fun r u => r = (if tkB n (M 2) o mi v = true then sbL ρ kp fb lv k M n (putM n M mi.toNatClampNeg o.toNatClampNeg v) k else scL ρ kp lv k) ∧ u.1 = ad ∧ (∃ n3 M3, isC ad u.2 cy PB n M n3 M3 kp fb ch co fo bb bk ∧ n3 ≤ n ∧ Zt n3 M3) ∧ ∀ L, (L < PB + 7 ∨ PB + 7 + 6 ≤ L) → u.2 L = V L) (WB D z0) (AA z0)) 0 0 (AA z0) := by
  refine met_of (by decide) (Nat.le_of_ble_eq_true rfl) (fun p e s m below meth c hx hb hr hml hown hlocks hnm hK hz hW ls hl => ?_)
  have hown : s.vm.findClass RX1 = some m.cls := hown
  have hl : lv_has ls 8 [(0, .ref (ad PB)), (1, .int (o)), (2, .int (mi)), (3, .int (v)), (4, .int (lv))] := hl
  have hS : va_S (AA z0) s.heap s.heap [] := va_S.rf
  have hk12 := hk.1
  obtain ⟨hC0, hCT, hCU, hC3, hC4⟩ := id hC
  obtain ⟨hT0, hT1, hTr⟩ := id hCT
  obtain ⟨hU0, hU1, hUr⟩ := id hCU
  obtain ⟨hB0, hB1, hBr⟩ := id hB
  refine lv_aload_n hx hb dX1_scoreBehind_0 rfl (lv_at hl 0 rfl) ?_
  refine lv_iload hx hb dX1_scoreBehind_1 (lv_at hl 4 rfl) ?_
  refine vp_callSl (va_Run.run (va_runV (As := [.int (lv)]) (rest := []) ⟨hx, hb, hml, hown, hK.1.use _⟩ (c_X1_scoreNow l D cy z0 ad V PB n n2 k M M2 kp fb ch co fo bk bb ρ hC hB hk hn40 hn2 hPB lv) (k_X1_X1_scoreNow hK.1 rfl rfl ⟨Nat.le_of_ble_eq_true rfl, Nat.le_of_ble_eq_true rfl⟩) (preV hK hz hW hC0 rfl) rfl rfl hl.1 rfl (lv_room (Nat.le_of_ble_eq_true rfl)) dX1_scoreBehind_3 ⟨Nat.le_of_ble_eq_true rfl, Nat.le_of_ble_eq_true rfl⟩)) (fun r3 h3 => ?_)
  have h3 : r3 = scL ρ kp lv k := h3
  subst h3
  refine lv_lstore (lv' := [(5, .long (scL ρ kp lv k)), (0, .ref (ad PB)), (1, .int (o)), (2, .int (mi)), (3, .int (v)), (4, .int (lv))]) hx hb dX1_scoreBehind_6 hl (by decide) rfl (fun ls hl => ?_)
  refine lv_aload_n hx hb dX1_scoreBehind_8 rfl (lv_at hl 1 rfl) ?_
  refine g_X1_X1_now hx hb hown hK hW hC0 dX1_scoreBehind_9 ?_
  refine lv_iload_n hx hb dX1_scoreBehind_12 rfl (lv_at hl 2 rfl) ?_
  refine lv_iload_n hx hb dX1_scoreBehind_13 rfl (lv_at hl 3 rfl) ?_
  refine lv_iload_n hx hb dX1_scoreBehind_14 rfl (lv_at hl 4 rfl) ?_
  refine vp_callSi (va_Run.run (va_runV (As := [.int (o), .int (mi), .int (v)]) (rest := []) ⟨hx, hb, hml, hown, hK.1.use _⟩ (c_X5_takes l D cy z0 ad V (PB + 1) n M hCT hn40 o mi v) (k_X1_X5_takes hK.1 rfl rfl ⟨Nat.le_of_ble_eq_true rfl, Nat.le_of_ble_eq_true rfl⟩) (preV hK hz hW hT0 rfl) rfl rfl hl.1 rfl (lv_room (Nat.le_of_ble_eq_true rfl)) dX1_scoreBehind_15 ⟨Nat.le_of_ble_eq_true rfl, Nat.le_of_ble_eq_true rfl⟩)) (fun r15 h15 => ?_)
  have h15 : r15 = b2i (tkB n (M 2) o mi v) := h15
  subst h15
  refine lv_if_ne (tgt := 24) hx hb dX1_scoreBehind_18 (by decide) (fun c18 => ?_) (fun c18 => ?_)
  · skip
    have c18 := b2i_1.mp c18
    obtain ⟨oo, mm, hoo, eo, hm3, em⟩ := tkB_of c18 (by omega)
    have eoc : o.toNatClampNeg = oo := by rw [eo]; exact nI_clamp (by omega)
    have emc : mi.toNatClampNeg = mm := by rw [em]; exact nI_clamp (by omega)
    subst eo
    subst em
    refine lv_aload_n hx hb dX1_scoreBehind_24 rfl (lv_at hl 1 rfl) ?_
    refine lv_iload_n hx hb dX1_scoreBehind_25 rfl (lv_at hl 2 rfl) ?_
    refine lv_iload_n hx hb dX1_scoreBehind_26 rfl (lv_at hl 3 rfl) ?_
    refine lv_iload_n hx hb dX1_scoreBehind_27 rfl (lv_at hl 4 rfl) ?_
    refine cv (va_runV (As := [.int (nI oo), .int (nI mm), .int (v)]) (rest := []) ⟨hx, hb, hml, hown, hK.1.use _⟩ (c_X1_layOut l D cy z0 ad V PB n n2 k M M2 kp fb ch co fo bk bb ρ hC hB hk hn40 hn2 hPB hnn hZ hZ2 mm oo v hm3 hoo) (k_X1_X1_layOut hK.1 rfl rfl ⟨Nat.le_of_ble_eq_true rfl, Nat.le_of_ble_eq_true rfl⟩) (preV hK hz hW hC0 rfl) rfl rfl hl.1 rfl (lv_room (Nat.le_of_ble_eq_true rfl)) dX1_scoreBehind_28 ⟨Nat.le_of_ble_eq_true rfl, Nat.le_of_ble_eq_true rfl⟩) hS (fun ad28 Vc28 H locs h28 hW hS => ?_)
    obtain ⟨e28, hT8, hfr8⟩ := h28
    obtain rfl : ad = ad28 := e28.symm
    have hC8 := hC.lay hT8 hfr8
    have hB8 := hB.mv hk.1 (fun L h1 h2 => hfr8 L (by omega))
    have hk12 := hk.1
    obtain ⟨hC0, hCT, hCU, hC3, hC4⟩ := id hC8
    obtain ⟨hT0, hT1, hTr⟩ := id hCT
    obtain ⟨hU0, hU1, hUr⟩ := id hCU
    obtain ⟨hB0, hB1, hBr⟩ := id hB8
    refine lv_iconst (v := nI 0) hx hb dX1_scoreBehind_31 (by decide) ?_
    refine lv_istore (lv' := [(7, .int (nI 0)), (5, .long (scL ρ kp lv k)), (0, .ref (ad PB)), (1, .int (nI oo)), (2, .int (nI mm)), (3, .int (v)), (4, .int (lv))]) hx hb dX1_scoreBehind_32 hl (by decide) rfl (fun ls hl => ?_)
    refine wl (ι := Nat) (fun i => k - i) (fun i g => (i ≤ k) ∧ ∃ ls, g = F0 m 34 ls [] ∧ lv_has ls 8 [(0, .ref (ad PB)), (4, .int (lv)), (5, .long (sbL ρ kp fb lv k M n (putM n M mm oo v) i)), (7, .int (nI i))]) ?_ (0) _ ⟨Nat.zero_le _, ls, rfl, lv_sub hl [2, 6, 1, 0] rfl⟩
    intro i g hg ih
    obtain ⟨hi, ls, rfl, hl⟩ := hg
    refine lv_iload hx hb dX1_scoreBehind_34 (lv_at hl 3 rfl) ?_
    refine lv_aload_n hx hb dX1_scoreBehind_36 rfl (lv_at hl 0 rfl) ?_
    refine g_X1_X1_book hx hb hown hK hW hC0 dX1_scoreBehind_37 ?_
    refine g_X1_X3_size hx hb hown hK hW hB0 dX1_scoreBehind_40 ?_
    refine lv_icmp_ge (tgt := 81) hx hb dX1_scoreBehind_43 (by decide) (fun c43 => ?_) (fun c43 => ?_)
    · skip
      have c43 := nI_le' c43 (by omega) (by omega)
      refine lv_lload hx hb dX1_scoreBehind_81 (lv_at hl 2 rfl) ?_
      exact rwl hx hb hr hlocks dX1_scoreBehind_83 hW hS (⟨by have e9 : i = k := (by omega); rw [e9]; simp [c18, eoc, emc], rfl, ⟨n, _, hC8, Nat.le_refl _, Zt_put hZ v hoo⟩, hfr8⟩)
    · skip
      have c43 := nI_nle' c43 (by omega) (by omega)
      have hBri := hBr i (by omega)
      have hki := hk.2 i (by omega)
      refine jl (pcj := 75) (st := []) (nL := 8) (lv := [(5, .long (sbL ρ kp fb lv k M n (putM n M mm oo v) (i + 1))), (0, .ref (ad PB)), (4, .int (lv)), (7, .int (nI i))]) (fun K => ?_) (fun ls hl => ?_)
      · skip
        refine lv_aload_n hx hb dX1_scoreBehind_46 rfl (lv_at hl 0 rfl) ?_
        refine g_X1_X1_book hx hb hown hK hW hC0 dX1_scoreBehind_47 ?_
        refine g_X1_X3_rules hx hb hown hK hW hB0 dX1_scoreBehind_50 ?_
        refine lv_iload hx hb dX1_scoreBehind_53 (lv_at hl 3 rfl) ?_
        refine w_aald hx hb hK hW 6 rfl rfl hB1 (j := i) (rfl) (by omega) (by omega) dX1_scoreBehind_55 ?_
        refine asv (y := .ref (ad (10 + i))) (elK (by omega)) ?_
        refine g_X1_X2_level hx hb hown hK hW hBri dX1_scoreBehind_56 ?_
        refine lv_iload hx hb dX1_scoreBehind_59 (lv_at hl 1 rfl) ?_
        refine lv_icmp_ne (tgt := 75) hx hb dX1_scoreBehind_61 (by decide) (fun c61 => ?_) (fun c61 => ?_)
        · skip
          have hq5 : (sbL ρ kp fb lv k M n (putM n M mm oo v) i) = (sbL ρ kp fb lv k M n (putM n M mm oo v) (i + 1)) := by simp [sbL, c61]
          rw [hq5] at hl
          exact K ls (lv_sub hl [2, 0, 1, 3] rfl)
        · skip
          refine lv_lload hx hb dX1_scoreBehind_64 (lv_at hl 2 rfl) ?_
          refine lv_aload_n hx hb dX1_scoreBehind_66 rfl (lv_at hl 0 rfl) ?_
          refine lv_iload hx hb dX1_scoreBehind_67 (lv_at hl 3 rfl) ?_
          refine vp_callSl (va_Run.run (va_runV (As := [.int (nI i)]) (rest := [.long (sbL ρ kp fb lv k M n (putM n M mm oo v) i)]) ⟨hx, hb, hml, hown, hK.1.use _⟩ (c_X1_gainUnlessForgotten l D cy z0 ad Vc28 PB n n k M (putM n M mm oo v) kp fb ch co fo bk bb ρ hC8 hB8 hk hn40 hn40 hPB i (by omega)) (k_X1_X1_gainUnlessForgotten hK.1 rfl rfl ⟨Nat.le_of_ble_eq_true rfl, Nat.le_of_ble_eq_true rfl⟩) (preV hK (Nat.le_trans hz hS.1) hW hC0 rfl) rfl rfl hl.1 rfl (lv_room (Nat.le_of_ble_eq_true rfl)) dX1_scoreBehind_69 ⟨Nat.le_of_ble_eq_true rfl, Nat.le_of_ble_eq_true rfl⟩)) (fun r69 h69 => ?_)
          have h69 : r69 = gnL ρ i fb M n (putM n M mm oo v) n := h69
          subst h69
          refine lv_ladd hx hb dX1_scoreBehind_72 ?_
          refine lv_lstore (lv' := [(5, .long ((sbL ρ kp fb lv k M n (putM n M mm oo v) i) + (gnL ρ i fb M n (putM n M mm oo v) n))), (0, .ref (ad PB)), (4, .int (lv)), (7, .int (nI i))]) hx hb dX1_scoreBehind_73 hl (by decide) rfl (fun ls hl => ?_)
          have hq5 : ((sbL ρ kp fb lv k M n (putM n M mm oo v) i) + (gnL ρ i fb M n (putM n M mm oo v) n)) = (sbL ρ kp fb lv k M n (putM n M mm oo v) (i + 1)) := by simp [sbL, c61]
          rw [hq5] at hl
          exact K ls (lv_sub hl [0, 1, 2, 3] rfl)
      · skip
        refine lv_iinc (v := nI (i + 1)) (lv' := [(7, .int (nI (i + 1))), (5, .long (sbL ρ kp fb lv k M n (putM n M mm oo v) (i + 1))), (0, .ref (ad PB)), (4, .int (lv))]) hx hb dX1_scoreBehind_75 hl (k := 3) rfl (by rw [show Int32.ofInt 1 = nI 1 from by decide]; exact nI_add _ _) (by decide) rfl (fun ls hl => ?_)
        refine lv_goto (tgt := 34) hx hb dX1_scoreBehind_78 (by decide) ?_
        exact ih (i + 1) _ ⟨by omega, ls, rfl, lv_sub hl [2, 3, 1, 0] rfl⟩ (by omega)
  · skip
    have c18 := b2i_0.mp c18
    refine lv_lload hx hb dX1_scoreBehind_21 (lv_at hl 0 rfl) ?_
    exact rwl hx hb hr hlocks dX1_scoreBehind_23 hW hS (⟨by simp [c18], rfl, ⟨n2, M2, hC, hnn, hZ2⟩, fun L _ => rfl⟩)

set_option maxHeartbeats 4000000 in
set_option maxRecDepth 100000 in
theorem c_X1_takeBack (l : Launch) (D : va_G) (cy : Nat → ClassId) (z0 : Nat) (ad : Nat → Nat) (V : Nat → Option va_E) (PB n n2 k : Nat) (M M2 : Nat → Nat → Int32) (kp : Nat → Int64) (fb : Nat → Bool) (ch co fo bk : Int32) (bb : Bool) (ρ : RuT) (hC : isC ad V cy PB n M n2 M2 kp fb ch co fo bb bk) (hB : isBk ad V cy k ρ) (hk : okR k ρ) (hn40 : n ≤ 40) (hn2 : n2 ≤ 40) (hPB : 100 ≤ PB) (ho hm hv : Nat → Int32) (hs : Nat → Nat → Int64) (nx kn : Nat) (hH : isH ad V cy PB ho hm hv hs nx kn) (hnn : n2 ≤ n) (hZ : Zt n M) (hZ2 : Zt n2 M2) (bn : Nat) (hbn : bk = nI bn) (hb60 : bn ≤ 60) (hnx : nx < 60) (hkn : kn ≤ 60) (hk0 : 0 < kn) (hb0 : bb = true → 0 < bn) (hOk : hOK n ho hm nx kn) : Met l yX1_takeBack [Cond.code yX1_takeBack cX1_takeBack 2 none] { frames := 4, cells := 0, slots := 0, locals := 105 } (WP [.ref (ad PB)] D cy z0 ad V) (va_Qv (fun u => u.1 = ad ∧ isC ad u.2 cy PB n (tbF n k ρ ho hm hv hs bb (M, kp, co, nx, kn, bn)).1 n (tbF n k ρ ho hm hv hs bb (M, kp, co, nx, kn, bn)).1 (tbF n k ρ ho hm hv hs bb (M, kp, co, nx, kn, bn)).2.1 fb ch (tbF n k ρ ho hm hv hs bb (M, kp, co, nx, kn, bn)).2.2.1 fo bb (nI (tbF n k ρ ho hm hv hs bb (M, kp, co, nx, kn, bn)).2.2.2.2.2) ∧ isH ad u.2 cy PB ho hm hv hs (tbF n k ρ ho hm hv hs bb (M, kp, co, nx, kn, bn)).2.2.2.1 (tbF n k ρ ho hm hv hs bb (M, kp, co, nx, kn, bn)).2.2.2.2.1 ∧ ∀ L, (L < PB ∨ PB + 80 ≤ L) → u.2 L = V L) (WB D z0) (AA z0)) 0 0 (AA z0) := by
  refine met_of (by decide) (Nat.le_of_ble_eq_true rfl) (fun p e s m below meth c hx hb hr hml hown hlocks hnm hK hz hW ls hl => ?_)
  have hown : s.vm.findClass RX1 = some m.cls := hown
  have hl : lv_has ls 2 [(0, .ref (ad PB))] := hl
  have hS : va_S (AA z0) s.heap s.heap [] := va_S.rf
  have hk12 := hk.1
  obtain ⟨hC0, hCT, hCU, hC3, hC4⟩ := id hC
  obtain ⟨hT0, hT1, hTr⟩ := id hCT
  obtain ⟨hU0, hU1, hUr⟩ := id hCU
  obtain ⟨hB0, hB1, hBr⟩ := id hB
  obtain ⟨hH0, hH1, hH2, hH3, hH4, hHr⟩ := id hH
  obtain ⟨oo, mm, hoo, hm3, eo, em⟩ := hOk 0 hk0
  rw [rix_0 hnx] at eo em
  obtain ⟨j, ej⟩ : ∃ j, j = nxD nx := ⟨_, rfl⟩
  have hj : j < 60 := by rw [ej]; exact nxD_lt hnx
  rw [← ej] at eo em
  refine lv_aload_n hx hb dX1_takeBack_0 rfl (lv_at hl 0 rfl) ?_
  refine g_X1_X1_history hx hb hown hK hW hC0 dX1_takeBack_1 ?_
  refine ci (va_runV (As := []) (rest := []) ⟨hx, hb, hml, hown, hK.1.use _⟩ (c_X0_pop l D cy z0 ad V PB ho hm hv hs nx kn hH hnx hkn hk0) (k_X1_X0_pop hK.1 rfl rfl ⟨Nat.le_of_ble_eq_true rfl, Nat.le_of_ble_eq_true rfl⟩) (preV hK hz hW hH0 rfl) rfl rfl hl.1 rfl (lv_room (Nat.le_of_ble_eq_true rfl)) dX1_takeBack_4 ⟨Nat.le_of_ble_eq_true rfl, Nat.le_of_ble_eq_true rfl⟩) hS (fun r4 ad4 Vc4 H locs h4 hW hS => ?_)
  obtain ⟨hr4, e4, hH4_, hfr4⟩ := h4
  obtain rfl : ad = ad4 := e4.symm
  have hr4 : r4 = nI (nxD nx) := hr4
  subst hr4
  rw [← ej] at hH4_ ⊢
  have hC4_ := hC.mv (fun L h1 h2 => hfr4 L (by omega))
  have hB4_ := hB.mv hk.1 (fun L h1 h2 => hfr4 L (by omega))
  have hk12 := hk.1
  obtain ⟨hC0, hCT, hCU, hC3, hC4⟩ := id hC4_
  obtain ⟨hT0, hT1, hTr⟩ := id hCT
  obtain ⟨hU0, hU1, hUr⟩ := id hCU
  obtain ⟨hB0, hB1, hBr⟩ := id hB4_
  obtain ⟨hH0, hH1, hH2, hH3, hH4, hHr⟩ := id hH4_
  refine lv_istore_n (lv' := [(1, .int (nI j)), (0, .ref (ad PB))]) hx hb dX1_takeBack_7 rfl hl (by decide) rfl (fun ls hl => ?_)
  refine jlh (I := fun H locs => (∃ X, (isC ad X cy PB n M n2 M2 kp fb ch co fo bb (nI (if bb = true then bn - 1 else bn)) ∧ isH ad X cy PB ho hm hv hs j (kn - 1) ∧ ∀ L, (L < PB ∨ PB + 80 ≤ L) → X L = V L) ∧ HW D z0 ad X H) ∧ va_S (AA z0) s.heap H locs) (pcj := 25) (st := []) (nL := 2) (lv := [(1, .int (nI j)), (0, .ref (ad PB))]) (fun K => ?_) (fun H locs ls hI hl => ?_)
  · skip
    refine lv_aload_n hx hb dX1_takeBack_8 rfl (lv_at hl 1 rfl) ?_
    refine g_X1_X1_batchBegun hx hb hown hK hW hC0 dX1_takeBack_9 ?_
    refine lv_if_eq (tgt := 25) hx hb dX1_takeBack_12 (by decide) (fun c12 => ?_) (fun c12 => ?_)
    · skip
      have c12 := b2i_0.mp c12
      exact K _ _ ls ⟨⟨_, ⟨by rw [if_neg (by simp [c12]), ← hbn]; exact hC4_, hH4_, fun L hL => hfr4 L (by omega)⟩, hW⟩, hS⟩ (lv_sub hl [0, 1] rfl)
    · skip
      have c12 := b2i_1.mp c12
      have hb1 := hb0 c12
      refine lv_aload_n hx hb dX1_takeBack_15 rfl (lv_at hl 1 rfl) ?_
      refine lv_dup hx hb dX1_takeBack_16 rfl ?_
      refine g_X1_X1_batchKnown hx hb hown hK hW hC0 dX1_takeBack_17 ?_
      refine asi (y := nI bn) (hbn) ?_
      refine lv_iconst (v := nI 1) hx hb dX1_takeBack_20 (by decide) ?_
      refine lv_isub hx hb dX1_takeBack_21 ?_
      refine asi (y := nI (bn - 1)) (pk_sub (by omega)) ?_
      refine p_X1_X1_batchKnown hx hb hown hK hW hS hC0 dX1_takeBack_22 (fun H locs hW hS => ?_)
      obtain ⟨V1, eV1⟩ : ∃ x, x = va_up Vc4 (PB) (some (.inr (1, [.ref (ad (1)), .ref (ad (PB + 1)), .ref (ad (PB + 7)), .ref (ad (PB + 13)), .ref (ad (PB + 14)), .ref (ad (PB + 15)), .int (ch), .int (co), .int (fo), .int (b2i bb), .int (nI (bn - 1))]))) := ⟨_, rfl⟩
      rw [← eV1] at hW
      have hC3 : V1 (PB + 13) = some (.inl (cy 1, 12, .inr (.inl kp))) := by rw [eV1, va_up_ne _ _ (by omega)]; exact hC3
      have hC4 : V1 (PB + 14) = some (.inl (cy 2, 12, .inl (fun r => b2i (fb r)))) := by rw [eV1, va_up_ne _ _ (by omega)]; exact hC4
      have hT0 : V1 (PB + 1) = some (.inr (5, [.ref (ad (PB + 1 + 1)), .int (nI n)])) := by rw [eV1, va_up_ne _ _ (by omega)]; exact hT0
      have hT1 : V1 (PB + 1 + 1) = some (.inl (cy 3, 4, .inr (.inr (.inr (.inr (fun i => if i < 4 then some (ad (PB + 1 + 2 + i)) else none)))))) := by rw [eV1, va_up_ne _ _ (by omega)]; exact hT1
      have hU0 : V1 (PB + 7) = some (.inr (5, [.ref (ad (PB + 7 + 1)), .int (nI n2)])) := by rw [eV1, va_up_ne _ _ (by omega)]; exact hU0
      have hU1 : V1 (PB + 7 + 1) = some (.inl (cy 3, 4, .inr (.inr (.inr (.inr (fun i => if i < 4 then some (ad (PB + 7 + 2 + i)) else none)))))) := by rw [eV1, va_up_ne _ _ (by omega)]; exact hU1
      have hB0 : V1 (1) = some (.inr (3, [.ref (ad (2)), .int (nI k)])) := by rw [eV1, va_up_ne _ _ (by omega)]; exact hB0
      have hB1 : V1 (2) = some (.inl (cy 6, 12, .inr (.inr (.inr (.inr (fun i => if i < k then some (ad (10 + i)) else none)))))) := by rw [eV1, va_up_ne _ _ (by omega)]; exact hB1
      have hH0 : V1 (PB + 15) = some (.inr (0, [.ref (ad (PB + 16)), .ref (ad (PB + 17)), .ref (ad (PB + 18)), .ref (ad (PB + 19)), .int (nI j), .int (nI (kn - 1))])) := by rw [eV1, va_up_ne _ _ (by omega)]; exact hH0
      have hH1 : V1 (PB + 16) = some (.inl (cy 0, 60, .inl ho)) := by rw [eV1, va_up_ne _ _ (by omega)]; exact hH1
      have hH2 : V1 (PB + 17) = some (.inl (cy 0, 60, .inl hm)) := by rw [eV1, va_up_ne _ _ (by omega)]; exact hH2
      have hH3 : V1 (PB + 18) = some (.inl (cy 0, 60, .inl hv)) := by rw [eV1, va_up_ne _ _ (by omega)]; exact hH3
      have hH4 : V1 (PB + 19) = some (.inl (cy 4, 60, .inr (.inr (.inr (.inr (fun i => if i < 60 then some (ad (PB + 20 + i)) else none)))))) := by rw [eV1, va_up_ne _ _ (by omega)]; exact hH4
      have hC0 : V1 (PB) = some (.inr (1, [.ref (ad (1)), .ref (ad (PB + 1)), .ref (ad (PB + 7)), .ref (ad (PB + 13)), .ref (ad (PB + 14)), .ref (ad (PB + 15)), .int (ch), .int (co), .int (fo), .int (b2i bb), .int (nI (bn - 1))])) := by rw [eV1, va_up_self]
      exact K _ _ ls ⟨⟨_, ⟨⟨by rw [if_pos c12]; exact hC0, hCT.mv (fun L h1 h2 => by rw [eV1, va_up_ne _ _ (by omega)]), hCU.mv (fun L h1 h2 => by rw [eV1, va_up_ne _ _ (by omega)]), hC3, hC4⟩, hH4_.mv (fun L h1 h2 => by rw [eV1, va_up_ne _ _ (by omega)]), fun L hL => by rw [eV1, va_up_ne _ _ (by omega)]; exact hfr4 L (by omega)⟩, hW⟩, hS⟩ (lv_sub hl [0, 1] rfl)
  · skip
    obtain ⟨⟨Vj, ⟨hCj, hHj, hfrj⟩, hW⟩, hS⟩ := hI
    have hBj := hB.mv hk.1 (fun L h1 h2 => hfrj L (by omega))
    obtain ⟨hC0, hCT, hCU, hC3, hC4⟩ := id hCj
    obtain ⟨hT0, hT1, hTr⟩ := id hCT
    obtain ⟨hU0, hU1, hUr⟩ := id hCU
    obtain ⟨hB0, hB1, hBr⟩ := id hBj
    obtain ⟨hH0, hH1, hH2, hH3, hH4, hHr⟩ := id hHj
    refine lv_aload_n hx hb dX1_takeBack_25 rfl (lv_at hl 1 rfl) ?_
    refine lv_aload_n hx hb dX1_takeBack_26 rfl (lv_at hl 1 rfl) ?_
    refine g_X1_X1_history hx hb hown hK hW hC0 dX1_takeBack_27 ?_
    refine g_X1_X0_objects hx hb hown hK hW hH0 dX1_takeBack_30 ?_
    refine lv_iload_n hx hb dX1_takeBack_33 rfl (lv_at hl 0 rfl) ?_
    refine w_iald hx hb hK hW hH1 (j := j) (rfl) (by omega) (by omega) dX1_takeBack_34 ?_
    refine asi (y := nI oo) (eo) ?_
    refine lv_aload_n hx hb dX1_takeBack_35 rfl (lv_at hl 1 rfl) ?_
    refine g_X1_X1_history hx hb hown hK hW hC0 dX1_takeBack_36 ?_
    refine g_X1_X0_members hx hb hown hK hW hH0 dX1_takeBack_39 ?_
    refine lv_iload_n hx hb dX1_takeBack_42 rfl (lv_at hl 0 rfl) ?_
    refine w_iald hx hb hK hW hH2 (j := j) (rfl) (by omega) (by omega) dX1_takeBack_43 ?_
    refine asi (y := nI mm) (em) ?_
    refine lv_aload_n hx hb dX1_takeBack_44 rfl (lv_at hl 1 rfl) ?_
    refine g_X1_X1_history hx hb hown hK hW hC0 dX1_takeBack_45 ?_
    refine g_X1_X0_numbers hx hb hown hK hW hH0 dX1_takeBack_48 ?_
    refine lv_iload_n hx hb dX1_takeBack_51 rfl (lv_at hl 0 rfl) ?_
    refine w_iald hx hb hK hW hH3 (j := j) (rfl) (by omega) (by omega) dX1_takeBack_52 ?_
    refine cv (va_runV (As := [.int (nI oo), .int (nI mm), .int (hv j)]) (rest := []) ⟨hx, hb, hml, hown, hK.1.use _⟩ (c_X1_layOut l D cy z0 ad Vj PB n n2 k M M2 kp fb ch co fo (nI (if bb = true then bn - 1 else bn)) bb ρ hCj hBj hk hn40 hn2 hPB hnn hZ hZ2 mm oo (hv j) hm3 hoo) (k_X1_X1_layOut hK.1 rfl rfl ⟨Nat.le_of_ble_eq_true rfl, Nat.le_of_ble_eq_true rfl⟩) (preV hK (Nat.le_trans hz hS.1) hW hC0 rfl) rfl rfl hl.1 rfl (lv_room (Nat.le_of_ble_eq_true rfl)) dX1_takeBack_53 ⟨Nat.le_of_ble_eq_true rfl, Nat.le_of_ble_eq_true rfl⟩) hS (fun ad53 Vc53 H locs h53 hW hS => ?_)
    obtain ⟨e53, hT5, hfr5⟩ := h53
    obtain rfl : ad = ad53 := e53.symm
    have hC5 := hCj.lay hT5 hfr5
    have hB5 := hBj.mv hk.1 (fun L h1 h2 => hfr5 L (by omega))
    have hH5 := hHj.mv (fun L h1 h2 => hfr5 L (by omega))
    have hk12 := hk.1
    obtain ⟨hC0, hCT, hCU, hC3, hC4⟩ := id hC5
    obtain ⟨hT0, hT1, hTr⟩ := id hCT
    obtain ⟨hU0, hU1, hUr⟩ := id hCU
    obtain ⟨hB0, hB1, hBr⟩ := id hB5
    obtain ⟨hH0, hH1, hH2, hH3, hH4, hHr⟩ := id hH5
    have hHx := hHr j hj
    refine lv_aload_n hx hb dX1_takeBack_56 rfl (lv_at hl 1 rfl) ?_
    refine g_X1_X1_history hx hb hown hK hW hC0 dX1_takeBack_57 ?_
    refine g_X1_X0_keptAt hx hb hown hK hW hH0 dX1_takeBack_60 ?_
    refine lv_iload_n hx hb dX1_takeBack_63 rfl (lv_at hl 0 rfl) ?_
    refine w_aald hx hb hK hW 4 rfl rfl hH4 (j := j) (rfl) (by omega) (by omega) dX1_takeBack_64 ?_
    refine asv (y := .ref (ad (PB + 20 + j))) (elK (by omega)) ?_
    refine lv_iconst (v := nI 0) hx hb dX1_takeBack_65 (by decide) ?_
    refine lv_aload_n hx hb dX1_takeBack_66 rfl (lv_at hl 1 rfl) ?_
    refine g_X1_X1_keptAt hx hb hown hK hW hC0 dX1_takeBack_67 ?_
    refine lv_iconst (v := nI 0) hx hb dX1_takeBack_70 (by decide) ?_
    refine lv_bipush (v := nI 12) hx hb dX1_takeBack_71 (by decide) ?_
    refine w_copyl hx hb (hml.trans hl.1.symm) hown k_X1_arraycopy tw_181 tw_180 tw_7 hK hW hS hHx hC3 (a := 0) (b := 0) (k := 12) rfl rfl rfl (by omega) (by omega) (by omega) (by omega) (Nat.le_of_ble_eq_true rfl) (Nat.le_of_ble_eq_true rfl) dX1_takeBack_73 (fun H locs hW hS => ?_)
    obtain ⟨V2, eV2⟩ : ∃ x, x = va_up Vc53 (PB + 13) (some (.inl (cy 1, 12, .inr (.inl (va_cpy (hs j) kp 0 0 12))))) := ⟨_, rfl⟩
    rw [← eV2] at hW
    have hC0 : V2 (PB) = some (.inr (1, [.ref (ad (1)), .ref (ad (PB + 1)), .ref (ad (PB + 7)), .ref (ad (PB + 13)), .ref (ad (PB + 14)), .ref (ad (PB + 15)), .int (ch), .int (co), .int (fo), .int (b2i bb), .int (nI (if bb = true then bn - 1 else bn))])) := by rw [eV2, va_up_ne _ _ (by omega)]; exact hC0
    have hC4 : V2 (PB + 14) = some (.inl (cy 2, 12, .inl (fun r => b2i (fb r)))) := by rw [eV2, va_up_ne _ _ (by omega)]; exact hC4
    have hT0 : V2 (PB + 1) = some (.inr (5, [.ref (ad (PB + 1 + 1)), .int (nI n)])) := by rw [eV2, va_up_ne _ _ (by omega)]; exact hT0
    have hT1 : V2 (PB + 1 + 1) = some (.inl (cy 3, 4, .inr (.inr (.inr (.inr (fun i => if i < 4 then some (ad (PB + 1 + 2 + i)) else none)))))) := by rw [eV2, va_up_ne _ _ (by omega)]; exact hT1
    have hU0 : V2 (PB + 7) = some (.inr (5, [.ref (ad (PB + 7 + 1)), .int (nI n)])) := by rw [eV2, va_up_ne _ _ (by omega)]; exact hU0
    have hU1 : V2 (PB + 7 + 1) = some (.inl (cy 3, 4, .inr (.inr (.inr (.inr (fun i => if i < 4 then some (ad (PB + 7 + 2 + i)) else none)))))) := by rw [eV2, va_up_ne _ _ (by omega)]; exact hU1
    have hB0 : V2 (1) = some (.inr (3, [.ref (ad (2)), .int (nI k)])) := by rw [eV2, va_up_ne _ _ (by omega)]; exact hB0
    have hB1 : V2 (2) = some (.inl (cy 6, 12, .inr (.inr (.inr (.inr (fun i => if i < k then some (ad (10 + i)) else none)))))) := by rw [eV2, va_up_ne _ _ (by omega)]; exact hB1
    have hH0 : V2 (PB + 15) = some (.inr (0, [.ref (ad (PB + 16)), .ref (ad (PB + 17)), .ref (ad (PB + 18)), .ref (ad (PB + 19)), .int (nI j), .int (nI (kn - 1))])) := by rw [eV2, va_up_ne _ _ (by omega)]; exact hH0
    have hH1 : V2 (PB + 16) = some (.inl (cy 0, 60, .inl ho)) := by rw [eV2, va_up_ne _ _ (by omega)]; exact hH1
    have hH2 : V2 (PB + 17) = some (.inl (cy 0, 60, .inl hm)) := by rw [eV2, va_up_ne _ _ (by omega)]; exact hH2
    have hH3 : V2 (PB + 18) = some (.inl (cy 0, 60, .inl hv)) := by rw [eV2, va_up_ne _ _ (by omega)]; exact hH3
    have hH4 : V2 (PB + 19) = some (.inl (cy 4, 60, .inr (.inr (.inr (.inr (fun i => if i < 60 then some (ad (PB + 20 + i)) else none)))))) := by rw [eV2, va_up_ne _ _ (by omega)]; exact hH4
    have hHx : V2 (PB + 20 + j) = some (.inl (cy 1, 12, .inr (.inl (hs j)))) := by rw [eV2, va_up_ne _ _ (by omega)]; exact hHx
    have hC3 : V2 (PB + 13) = some (.inl (cy 1, 12, .inr (.inl (va_cpy (hs j) kp 0 0 12)))) := by rw [eV2, va_up_self]
    have hC6 : isC ad V2 cy PB n M n (putM n M mm oo (hv j)) (va_cpy (hs j) kp 0 0 12) fb ch co fo bb (nI (if bb = true then bn - 1 else bn)) := ⟨hC0, hC5.2.1.mv (fun L h1 h2 => by rw [eV2, va_up_ne _ _ (by omega)]), hC5.2.2.1.mv (fun L h1 h2 => by rw [eV2, va_up_ne _ _ (by omega)]), hC3, hC4⟩
    have hB6 := hB5.mv (X := V2) hk.1 (fun L h1 h2 => by rw [eV2, va_up_ne _ _ (by omega)])
    have hH6 := hH5.mv (X := V2) (fun L h1 h2 => by rw [eV2, va_up_ne _ _ (by omega)])
    have hfr6 : ∀ L, (L < PB ∨ PB + 80 ≤ L) → V2 L = V L := fun L hL => by rw [eV2, va_up_ne _ _ (by omega)]; exact (hfr5 L (by omega)).trans (hfrj L hL)
    refine lv_aload_n hx hb dX1_takeBack_76 rfl (lv_at hl 1 rfl) ?_
    refine cv (va_runV (As := []) (rest := []) ⟨hx, hb, hml, hown, hK.1.use _⟩ (c_X1_moveOn l D cy z0 ad V2 PB n n k M (putM n M mm oo (hv j)) (va_cpy (hs j) kp 0 0 12) fb ch co fo (nI (if bb = true then bn - 1 else bn)) bb ρ hC6 hB6 hk hn40 hn40 hPB (Nat.le_refl n) hZ (Zt_put hZ (hv j) hoo)) (k_X1_X1_moveOn hK.1 rfl rfl ⟨Nat.le_of_ble_eq_true rfl, Nat.le_of_ble_eq_true rfl⟩) (preV hK (Nat.le_trans hz hS.1) hW hC0 rfl) rfl rfl hl.1 rfl (lv_room (Nat.le_of_ble_eq_true rfl)) dX1_takeBack_77 ⟨Nat.le_of_ble_eq_true rfl, Nat.le_of_ble_eq_true rfl⟩) hS (fun ad77 Vc77 H locs h77 hW hS => ?_)
    obtain ⟨e77, hC7, hfr7⟩ := h77
    obtain rfl : ad = ad77 := e77.symm
    exact rwv hx hb hr hlocks dX1_takeBack_80 hW hS (by
    have e1 : tbM n ho hm hv M j = (putM n M mm oo (hv j)) := by unfold tbM; rw [eo, em, nI_clamp (by omega), nI_clamp (by omega)]
    have e2 : (tbF n k ρ ho hm hv hs bb (M, kp, co, nx, kn, bn)) = ((putM n M mm oo (hv j)), va_cpy (hs j) kp 0 0 12, co + nI (ctS ρ M (putM n M mm oo (hv j)) n k), j, kn - 1, if bb = true then bn - 1 else bn) := by unfold tbF; dsimp only; rw [← ej, e1]
    rw [e2]
    exact ⟨rfl, hC7, hH6.mv (fun L h1 h2 => hfr7 L (by omega)), fun L hL => (hfr7 L (by omega)).trans (hfr6 L hL)⟩)
