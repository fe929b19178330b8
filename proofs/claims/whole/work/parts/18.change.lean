set_option maxHeartbeats 4000000 in
set_option maxRecDepth 100000 in
theorem c_X1_makeChange (l : Launch) (D : va_G) (cy : Nat → ClassId) (z0 : Nat) (ad : Nat → Nat) (V : Nat → Option va_E) (PB n n2 k : Nat) (M M2 : Nat → Nat → Int32) (kp : Nat → Int64) (fb : Nat → Bool) (ch co fo bk : Int32) (bb : Bool) (ρ : RuT) (hC : isC ad V cy PB n M n2 M2 kp fb ch co fo bb bk) (hB : isBk ad V cy k ρ) (hk : okR k ρ) (hn40 : n ≤ 40) (hn2 : n2 ≤ 40) (hPB : 100 ≤ PB) (ho hm hv : Nat → Int32) (hs : Nat → Nat → Int64) (nx kn : Nat) (hH : isH ad V cy PB ho hm hv hs nx kn) (hnn : n2 ≤ n) (hZ : Zt n M) (hZ2 : Zt n2 M2) (bn : Nat) (hbn : bk = nI bn) (hb60 : bn ≤ 60) (hnx : nx < 60) (hkn : kn ≤ 60) (o mi v ce : Int32) : Met l yX1_makeChange [Cond.code yX1_makeChange cX1_makeChange 6 (some .int)] { frames := 5, cells := 0, slots := 0, locals := 118 } (WP [.ref (ad PB), .int (o), .int (mi), .int (v), .int (ce)] D cy z0 ad V) (va_Qi (fun r u => (tkB n (M 2) o mi v = false → r = -1 ∧ u = (ad, V)) ∧ (tkB n (M 2) o mi v = true → r = nI (coT n M (putM n M mi.toNatClampNeg o.toNatClampNeg v) 4) ∧ u.1 = ad ∧ isC ad u.2 cy PB n (putM n M mi.toNatClampNeg o.toNatClampNeg v) n (putM n M mi.toNatClampNeg o.toNatClampNeg v) (kpU kp (fun r => gnL ρ r fb M n (putM n M mi.toNatClampNeg o.toNatClampNeg v) n) k) fb (ch + nI 1) (co + nI (ctS ρ M (putM n M mi.toNatClampNeg o.toNatClampNeg v) n k)) (if 0 < ce ∧ irm (ch + nI 1) ce = 0 then ffI (flB ρ (putM n M mi.toNatClampNeg o.toNatClampNeg v) n (kpU kp (fun r => gnL ρ r fb M n (putM n M mi.toNatClampNeg o.toNatClampNeg v) n) k)) k 0 else fo) bb (nI (if bb = true then knU bn else bn)) ∧ isH ad u.2 cy PB (upd ho nx o) (upd hm nx mi) (upd hv nx (M mi.toNatClampNeg o.toNatClampNeg)) (hsU hs nx kp) (nxU nx) (knU kn) ∧ ∀ L, (L < PB ∨ PB + 80 ≤ L) → u.2 L = V L)) (WB D z0) (AA z0)) 0 0 (AA z0) := by
  refine met_of (by decide) (Nat.le_of_ble_eq_true rfl) (fun p e s m below meth c hx hb hr hml hown hlocks hnm hK hz hW ls hl => ?_)
  have hown : s.vm.findClass RX1 = some m.cls := hown
  have hl : lv_has ls 6 [(0, .ref (ad PB)), (1, .int (o)), (2, .int (mi)), (3, .int (v)), (4, .int (ce))] := hl
  have hS : va_S (AA z0) s.heap s.heap [] := va_S.rf
  have hk12 := hk.1
  obtain ⟨hC0, hCT, hCU, hC3, hC4⟩ := id hC
  obtain ⟨hT0, hT1, hTr⟩ := id hCT
  obtain ⟨hU0, hU1, hUr⟩ := id hCU
  obtain ⟨hB0, hB1, hBr⟩ := id hB
  obtain ⟨hH0, hH1, hH2, hH3, hH4, hHr⟩ := id hH
  refine lv_aload_n hx hb dX1_makeChange_0 rfl (lv_at hl 0 rfl) ?_
  refine g_X1_X1_now hx hb hown hK hW hC0 dX1_makeChange_1 ?_
  refine lv_iload_n hx hb dX1_makeChange_4 rfl (lv_at hl 1 rfl) ?_
  refine lv_iload_n hx hb dX1_makeChange_5 rfl (lv_at hl 2 rfl) ?_
  refine lv_iload_n hx hb dX1_makeChange_6 rfl (lv_at hl 3 rfl) ?_
  refine vp_callSi (va_Run.run (va_runV (As := [.int (o), .int (mi), .int (v)]) (rest := []) ⟨hx, hb, hml, hown, hK.1.use _⟩ (c_X5_takes l D cy z0 ad V (PB + 1) n M hCT hn40 o mi v) (k_X1_X5_takes hK.1 rfl rfl ⟨Nat.le_of_ble_eq_true rfl, Nat.le_of_ble_eq_true rfl⟩) (preV hK hz hW hT0 rfl) rfl rfl hl.1 rfl (lv_room (Nat.le_of_ble_eq_true rfl)) dX1_makeChange_7 ⟨Nat.le_of_ble_eq_true rfl, Nat.le_of_ble_eq_true rfl⟩)) (fun r7 h7 => ?_)
  have h7 : r7 = b2i (tkB n (M 2) o mi v) := h7
  subst h7
  refine lv_if_ne (tgt := 15) hx hb dX1_makeChange_10 (by decide) (fun c10 => ?_) (fun c10 => ?_)
  · skip
    have c10 := b2i_1.mp c10
    obtain ⟨oo, mm, hoo, eo, hm3, em⟩ := tkB_of c10 (by omega)
    have eoc : o.toNatClampNeg = oo := by rw [eo]; exact nI_clamp (by omega)
    have emc : mi.toNatClampNeg = mm := by rw [em]; exact nI_clamp (by omega)
    rw [eoc, emc]
    subst eo
    subst em
    have hTrmm := hTr mm (by omega)
    refine lv_aload_n hx hb dX1_makeChange_15 rfl (lv_at hl 0 rfl) ?_
    refine g_X1_X1_history hx hb hown hK hW hC0 dX1_makeChange_16 ?_
    refine lv_iload_n hx hb dX1_makeChange_19 rfl (lv_at hl 1 rfl) ?_
    refine lv_iload_n hx hb dX1_makeChange_20 rfl (lv_at hl 2 rfl) ?_
    refine lv_aload_n hx hb dX1_makeChange_21 rfl (lv_at hl 0 rfl) ?_
    refine g_X1_X1_now hx hb hown hK hW hC0 dX1_makeChange_22 ?_
    refine g_X1_X5_rows hx hb hown hK hW hT0 dX1_makeChange_25 ?_
    refine lv_iload_n hx hb dX1_makeChange_28 rfl (lv_at hl 2 rfl) ?_
    refine w_aald hx hb hK hW 3 rfl rfl hT1 (j := mm) (rfl) (by omega) (by omega) dX1_makeChange_29 ?_
    refine asv (y := .ref (ad (PB + 1 + 2 + mm))) (el4 (by omega)) ?_
    refine lv_iload_n hx hb dX1_makeChange_30 rfl (lv_at hl 1 rfl) ?_
    refine w_iald hx hb hK hW hTrmm (j := oo) (rfl) (by omega) (by omega) dX1_makeChange_31 ?_
    refine lv_aload_n hx hb dX1_makeChange_32 rfl (lv_at hl 0 rfl) ?_
    refine g_X1_X1_keptAt hx hb hown hK hW hC0 dX1_makeChange_33 ?_
    refine cv (va_runV (As := [.int (nI oo), .int (nI mm), .int ((M mm) oo), .ref (ad (PB + 13))]) (rest := []) ⟨hx, hb, hml, hown, hK.1.use _⟩ (c_X0_push l D cy z0 ad V PB ho hm hv hs nx kn hH kp hC3 hnx hkn (nI oo) (nI mm) (M mm oo)) (k_X1_X0_push hK.1 rfl rfl ⟨Nat.le_of_ble_eq_true rfl, Nat.le_of_ble_eq_true rfl⟩) (preV hK hz hW hH0 rfl) rfl rfl hl.1 rfl (lv_room (Nat.le_of_ble_eq_true rfl)) dX1_makeChange_36 ⟨Nat.le_of_ble_eq_true rfl, Nat.le_of_ble_eq_true rfl⟩) hS (fun ad36 Vc36 H locs h36 hW hS => ?_)
    obtain ⟨e36, hH4_, hfr4⟩ := h36
    obtain rfl : ad = ad36 := e36.symm
    have hC4_ := hC.mv (fun L h1 h2 => hfr4 L (by omega))
    have hB4_ := hB.mv hk.1 (fun L h1 h2 => hfr4 L (by omega))
    have hk12 := hk.1
    obtain ⟨hC0, hCT, hCU, hC3, hC4⟩ := id hC4_
    obtain ⟨hT0, hT1, hTr⟩ := id hCT
    obtain ⟨hU0, hU1, hUr⟩ := id hCU
    obtain ⟨hB0, hB1, hBr⟩ := id hB4_
    refine jlh (I := fun H locs => (∃ X, (isC ad X cy PB n M n2 M2 kp fb ch co fo bb (nI (if bb = true then knU bn else bn)) ∧ isH ad X cy PB (upd ho nx (nI oo)) (upd hm nx (nI mm)) (upd hv nx (M mm oo)) (hsU hs nx kp) (nxU nx) (knU kn) ∧ ∀ L, (L < PB ∨ PB + 80 ≤ L) → X L = V L) ∧ HW D z0 ad X H) ∧ va_S (AA z0) s.heap H locs) (pcj := 61) (st := []) (nL := 6) (lv := [(0, .ref (ad PB)), (1, .int (nI oo)), (2, .int (nI mm)), (3, .int (v)), (4, .int (ce))]) (fun K => ?_) (fun H locs ls hI hl => ?_)
    · skip
      refine lv_aload_n hx hb dX1_makeChange_39 rfl (lv_at hl 0 rfl) ?_
      refine g_X1_X1_batchBegun hx hb hown hK hW hC0 dX1_makeChange_40 ?_
      refine lv_if_eq (tgt := 61) hx hb dX1_makeChange_43 (by decide) (fun c43 => ?_) (fun c43 => ?_)
      · skip
        have c43 := b2i_0.mp c43
        exact K _ _ ls ⟨⟨_, ⟨by rw [if_neg (by simp [c43]), ← hbn]; exact hC4_, hH4_, fun L hL => hfr4 L (by omega)⟩, hW⟩, hS⟩ (lv_sub hl [0, 1, 2, 3, 4] rfl)
      · skip
        have c43 := b2i_1.mp c43
        refine lv_aload_n hx hb dX1_makeChange_46 rfl (lv_at hl 0 rfl) ?_
        refine lv_aload_n hx hb dX1_makeChange_47 rfl (lv_at hl 0 rfl) ?_
        refine g_X1_X1_batchKnown hx hb hown hK hW hC0 dX1_makeChange_48 ?_
        refine asi (y := nI bn) (hbn) ?_
        refine lv_iconst (v := nI 1) hx hb dX1_makeChange_51 (by decide) ?_
        refine lv_iadd hx hb dX1_makeChange_52 ?_
        refine asi (y := nI (bn + 1)) (nI_add _ _) ?_
        refine lv_bipush (v := nI 60) hx hb dX1_makeChange_53 (by decide) ?_
        refine k_X1_mmin hx hb (hml.trans hl.1.symm) hown hK (Nat.le_of_ble_eq_true rfl) (Nat.le_of_ble_eq_true rfl) (Nat.zero_le _) (Nat.zero_le _) dX1_makeChange_55 ?_
        refine asi (y := nI (knU bn)) (knU_eq hb60) ?_
        refine p_X1_X1_batchKnown hx hb hown hK hW hS hC0 dX1_makeChange_58 (fun H locs hW hS => ?_)
        obtain ⟨V1, eV1⟩ : ∃ x, x = va_up Vc36 (PB) (some (.inr (1, [.ref (ad (1)), .ref (ad (PB + 1)), .ref (ad (PB + 7)), .ref (ad (PB + 13)), .ref (ad (PB + 14)), .ref (ad (PB + 15)), .int (ch), .int (co), .int (fo), .int (b2i bb), .int (nI (knU bn))]))) := ⟨_, rfl⟩
        rw [← eV1] at hW
        have hC3 : V1 (PB + 13) = some (.inl (cy 1, 12, .inr (.inl kp))) := by rw [eV1, va_up_ne _ _ (by omega)]; exact hC3
        have hC4 : V1 (PB + 14) = some (.inl (cy 2, 12, .inl (fun r => b2i (fb r)))) := by rw [eV1, va_up_ne _ _ (by omega)]; exact hC4
        have hT0 : V1 (PB + 1) = some (.inr (5, [.ref (ad (PB + 1 + 1)), .int (nI n)])) := by rw [eV1, va_up_ne _ _ (by omega)]; exact hT0
        have hT1 : V1 (PB + 1 + 1) = some (.inl (cy 3, 4, .inr (.inr (.inr (.inr (fun i => if i < 4 then some (ad (PB + 1 + 2 + i)) else none)))))) := by rw [eV1, va_up_ne _ _ (by omega)]; exact hT1
        have hU0 : V1 (PB + 7) = some (.inr (5, [.ref (ad (PB + 7 + 1)), .int (nI n2)])) := by rw [eV1, va_up_ne _ _ (by omega)]; exact hU0
        have hU1 : V1 (PB + 7 + 1) = some (.inl (cy 3, 4, .inr (.inr (.inr (.inr (fun i => if i < 4 then some (ad (PB + 7 + 2 + i)) else none)))))) := by rw [eV1, va_up_ne _ _ (by omega)]; exact hU1
        have hB0 : V1 (1) = some (.inr (3, [.ref (ad (2)), .int (nI k)])) := by rw [eV1, va_up_ne _ _ (by omega)]; exact hB0
        have hB1 : V1 (2) = some (.inl (cy 6, 12, .inr (.inr (.inr (.inr (fun i => if i < k then some (ad (10 + i)) else none)))))) := by rw [eV1, va_up_ne _ _ (by omega)]; exact hB1
        have hC0 : V1 (PB) = some (.inr (1, [.ref (ad (1)), .ref (ad (PB + 1)), .ref (ad (PB + 7)), .ref (ad (PB + 13)), .ref (ad (PB + 14)), .ref (ad (PB + 15)), .int (ch), .int (co), .int (fo), .int (b2i bb), .int (nI (knU bn))])) := by rw [eV1, va_up_self]
        exact K _ _ ls ⟨⟨_, ⟨⟨by rw [if_pos c43]; exact hC0, hCT.mv (fun L h1 h2 => by rw [eV1, va_up_ne _ _ (by omega)]), hCU.mv (fun L h1 h2 => by rw [eV1, va_up_ne _ _ (by omega)]), hC3, hC4⟩, hH4_.mv (fun L h1 h2 => by rw [eV1, va_up_ne _ _ (by omega)]), fun L hL => by rw [eV1, va_up_ne _ _ (by omega)]; exact hfr4 L (by omega)⟩, hW⟩, hS⟩ (lv_sub hl [0, 1, 2, 3, 4] rfl)
    · skip
      obtain ⟨⟨Vj, ⟨hCj, hHj, hfrj⟩, hW⟩, hS⟩ := hI
      have hBj := hB.mv hk.1 (fun L h1 h2 => hfrj L (by omega))
      obtain ⟨hC0, hCT, hCU, hC3, hC4⟩ := id hCj
      obtain ⟨hT0, hT1, hTr⟩ := id hCT
      obtain ⟨hU0, hU1, hUr⟩ := id hCU
      obtain ⟨hB0, hB1, hBr⟩ := id hBj
      refine lv_aload_n hx hb dX1_makeChange_61 rfl (lv_at hl 0 rfl) ?_
      refine lv_iload_n hx hb dX1_makeChange_62 rfl (lv_at hl 1 rfl) ?_
      refine lv_iload_n hx hb dX1_makeChange_63 rfl (lv_at hl 2 rfl) ?_
      refine lv_iload_n hx hb dX1_makeChange_64 rfl (lv_at hl 3 rfl) ?_
      refine cv (va_runV (As := [.int (nI oo), .int (nI mm), .int (v)]) (rest := []) ⟨hx, hb, hml, hown, hK.1.use _⟩ (c_X1_layOut l D cy z0 ad Vj PB n n2 k M M2 kp fb ch co fo (nI (if bb = true then knU bn else bn)) bb ρ hCj hBj hk hn40 hn2 hPB hnn hZ hZ2 mm oo v hm3 hoo) (k_X1_X1_layOut hK.1 rfl rfl ⟨Nat.le_of_ble_eq_true rfl, Nat.le_of_ble_eq_true rfl⟩) (preV hK (Nat.le_trans hz hS.1) hW hC0 rfl) rfl rfl hl.1 rfl (lv_room (Nat.le_of_ble_eq_true rfl)) dX1_makeChange_65 ⟨Nat.le_of_ble_eq_true rfl, Nat.le_of_ble_eq_true rfl⟩) hS (fun ad65 Vc65 H locs h65 hW hS => ?_)
      obtain ⟨e65, hT5, hfr5⟩ := h65
      obtain rfl : ad = ad65 := e65.symm
      have hC5 := hCj.lay hT5 hfr5
      have hB5 := hBj.mv hk.1 (fun L h1 h2 => hfr5 L (by omega))
      have hH5 := hHj.mv (fun L h1 h2 => hfr5 L (by omega))
      have hfr5 : ∀ L, (L < PB ∨ PB + 80 ≤ L) → Vc65 L = V L := fun L hL => (hfr5 L (by omega)).trans (hfrj L hL)
      have hk12 := hk.1
      obtain ⟨hC0, hCT, hCU, hC3, hC4⟩ := id hC5
      obtain ⟨hT0, hT1, hTr⟩ := id hCT
      obtain ⟨hU0, hU1, hUr⟩ := id hCU
      obtain ⟨hB0, hB1, hBr⟩ := id hB5
      refine lv_iconst (v := nI 0) hx hb dX1_makeChange_68 (by decide) ?_
      refine lv_istore (lv' := [(5, .int (nI 0)), (0, .ref (ad PB)), (1, .int (nI oo)), (2, .int (nI mm)), (3, .int (v)), (4, .int (ce))]) hx hb dX1_makeChange_69 hl (by decide) rfl (fun ls hl => ?_)
      refine wlh (ι := Nat) (fun i => k - i) (fun i H locs g => (i ≤ k) ∧ (∃ X, (isC ad X cy PB n M n (putM n M mm oo v) (kpU kp (fun r => gnL ρ r fb M n (putM n M mm oo v) n) i) fb ch co fo bb (nI (if bb = true then knU bn else bn)) ∧ isH ad X cy PB (upd ho nx (nI oo)) (upd hm nx (nI mm)) (upd hv nx (M mm oo)) (hsU hs nx kp) (nxU nx) (knU kn) ∧ ∀ L, (L < PB ∨ PB + 80 ≤ L) → X L = V L) ∧ HW D z0 ad X H) ∧ va_S (AA z0) s.heap H locs ∧ ∃ ls, g = F0 m 71 ls [] ∧ lv_has ls 6 [(0, .ref (ad PB)), (4, .int (ce)), (5, .int (nI i))]) ?_ (0) _ _ _ ⟨Nat.zero_le _, ⟨_, ⟨by rw [kpU_0]; exact hC5, hH5, hfr5⟩, hW⟩, hS, ls, rfl, lv_sub hl [1, 5, 0] rfl⟩
      intro i H locs g hg ih
      obtain ⟨hi, ⟨Vl, ⟨hCl, hHl, hfrl⟩, hW⟩, hS, ls, rfl, hl⟩ := hg
      have hBl := hB.mv hk.1 (fun L h1 h2 => hfrl L (by omega))
      obtain ⟨hC0, hCT, hCU, hC3, hC4⟩ := id hCl
      obtain ⟨hT0, hT1, hTr⟩ := id hCT
      obtain ⟨hU0, hU1, hUr⟩ := id hCU
      obtain ⟨hB0, hB1, hBr⟩ := id hBl
      refine lv_iload hx hb dX1_makeChange_71 (lv_at hl 2 rfl) ?_
      refine lv_aload_n hx hb dX1_makeChange_73 rfl (lv_at hl 0 rfl) ?_
      refine g_X1_X1_book hx hb hown hK hW hC0 dX1_makeChange_74 ?_
      refine g_X1_X3_size hx hb hown hK hW hB0 dX1_makeChange_77 ?_
      refine lv_icmp_ge (tgt := 105) hx hb dX1_makeChange_80 (by decide) (fun c80 => ?_) (fun c80 => ?_)
      · skip
        have c80 := nI_le' c80 (by omega) (by omega)
        have e9 : i = k := by omega
        rw [e9] at hCl hC3
        refine lv_aload_n hx hb dX1_makeChange_105 rfl (lv_at hl 0 rfl) ?_
        refine g_X1_X1_now hx hb hown hK hW hC0 dX1_makeChange_106 ?_
        refine lv_aload_n hx hb dX1_makeChange_109 rfl (lv_at hl 0 rfl) ?_
        refine g_X1_X1_behind hx hb hown hK hW hC0 dX1_makeChange_110 ?_
        refine vp_callSi (va_Run.run (va_runV (As := [.ref (ad (PB + 7))]) (rest := []) ⟨hx, hb, hml, hown, hK.1.use _⟩ (c_X5_countOther l D cy z0 ad Vl (PB + 1) n M hCT (PB + 7) n (putM n M mm oo v) hCU hn40) (k_X1_X5_countOther hK.1 rfl rfl ⟨Nat.le_of_ble_eq_true rfl, Nat.le_of_ble_eq_true rfl⟩) (preV hK (Nat.le_trans hz hS.1) hW hT0 rfl) rfl rfl hl.1 rfl (lv_room (Nat.le_of_ble_eq_true rfl)) dX1_makeChange_113 ⟨Nat.le_of_ble_eq_true rfl, Nat.le_of_ble_eq_true rfl⟩)) (fun r113 h113 => ?_)
        have h113 : r113 = nI (coT n M (putM n M mm oo v) 4) := h113
        subst h113
        refine lv_istore (lv' := [(5, .int (nI (coT n M (putM n M mm oo v) 4))), (0, .ref (ad PB)), (4, .int (ce))]) hx hb dX1_makeChange_116 hl (by decide) rfl (fun ls hl => ?_)
        refine lv_aload_n hx hb dX1_makeChange_118 rfl (lv_at hl 1 rfl) ?_
        refine cv (va_runV (As := []) (rest := []) ⟨hx, hb, hml, hown, hK.1.use _⟩ (c_X1_moveOn l D cy z0 ad Vl PB n n k M (putM n M mm oo v) (kpU kp (fun r => gnL ρ r fb M n (putM n M mm oo v) n) k) fb ch co fo (nI (if bb = true then knU bn else bn)) bb ρ hCl hBl hk hn40 hn40 hPB (Nat.le_refl n) hZ (Zt_put hZ v hoo)) (k_X1_X1_moveOn hK.1 rfl rfl ⟨Nat.le_of_ble_eq_true rfl, Nat.le_of_ble_eq_true rfl⟩) (preV hK (Nat.le_trans hz hS.1) hW hC0 rfl) rfl rfl hl.1 rfl (lv_room (Nat.le_of_ble_eq_true rfl)) dX1_makeChange_119 ⟨Nat.le_of_ble_eq_true rfl, Nat.le_of_ble_eq_true rfl⟩) hS (fun ad119 Vc119 H locs h119 hW hS => ?_)
        obtain ⟨e119, hC6, hfr6⟩ := h119
        obtain rfl : ad = ad119 := e119.symm
        have hB6 := hBl.mv hk.1 (fun L h1 h2 => hfr6 L (by omega))
        have hH6 := hHl.mv (fun L h1 h2 => hfr6 L (by omega))
        have hfr6 : ∀ L, (L < PB ∨ PB + 80 ≤ L) → Vc119 L = V L := fun L hL => (hfr6 L (by omega)).trans (hfrl L hL)
        have hk12 := hk.1
        obtain ⟨hC0, hCT, hCU, hC3, hC4⟩ := id hC6
        obtain ⟨hT0, hT1, hTr⟩ := id hCT
        obtain ⟨hU0, hU1, hUr⟩ := id hCU
        obtain ⟨hB0, hB1, hBr⟩ := id hB6
        refine lv_aload_n hx hb dX1_makeChange_122 rfl (lv_at hl 1 rfl) ?_
        refine lv_dup hx hb dX1_makeChange_123 rfl ?_
        refine g_X1_X1_changes hx hb hown hK hW hC0 dX1_makeChange_124 ?_
        refine lv_iconst (v := nI 1) hx hb dX1_makeChange_127 (by decide) ?_
        refine lv_iadd hx hb dX1_makeChange_128 ?_
        refine p_X1_X1_changes hx hb hown hK hW hS hC0 dX1_makeChange_129 (fun H locs hW hS => ?_)
        obtain ⟨V2, eV2⟩ : ∃ x, x = va_up Vc119 (PB) (some (.inr (1, [.ref (ad (1)), .ref (ad (PB + 1)), .ref (ad (PB + 7)), .ref (ad (PB + 13)), .ref (ad (PB + 14)), .ref (ad (PB + 15)), .int (ch + (nI 1)), .int (co + nI (ctS ρ M (putM n M mm oo v) n k)), .int (fo), .int (b2i bb), .int (nI (if bb = true then knU bn else bn))]))) := ⟨_, rfl⟩
        rw [← eV2] at hW
        have hC3 : V2 (PB + 13) = some (.inl (cy 1, 12, .inr (.inl (kpU kp (fun r => gnL ρ r fb M n (putM n M mm oo v) n) k)))) := by rw [eV2, va_up_ne _ _ (by omega)]; exact hC3
        have hC4 : V2 (PB + 14) = some (.inl (cy 2, 12, .inl (fun r => b2i (fb r)))) := by rw [eV2, va_up_ne _ _ (by omega)]; exact hC4
        have hT0 : V2 (PB + 1) = some (.inr (5, [.ref (ad (PB + 1 + 1)), .int (nI n)])) := by rw [eV2, va_up_ne _ _ (by omega)]; exact hT0
        have hT1 : V2 (PB + 1 + 1) = some (.inl (cy 3, 4, .inr (.inr (.inr (.inr (fun i => if i < 4 then some (ad (PB + 1 + 2 + i)) else none)))))) := by rw [eV2, va_up_ne _ _ (by omega)]; exact hT1
        have hU0 : V2 (PB + 7) = some (.inr (5, [.ref (ad (PB + 7 + 1)), .int (nI n)])) := by rw [eV2, va_up_ne _ _ (by omega)]; exact hU0
        have hU1 : V2 (PB + 7 + 1) = some (.inl (cy 3, 4, .inr (.inr (.inr (.inr (fun i => if i < 4 then some (ad (PB + 7 + 2 + i)) else none)))))) := by rw [eV2, va_up_ne _ _ (by omega)]; exact hU1
        have hB0 : V2 (1) = some (.inr (3, [.ref (ad (2)), .int (nI k)])) := by rw [eV2, va_up_ne _ _ (by omega)]; exact hB0
        have hB1 : V2 (2) = some (.inl (cy 6, 12, .inr (.inr (.inr (.inr (fun i => if i < k then some (ad (10 + i)) else none)))))) := by rw [eV2, va_up_ne _ _ (by omega)]; exact hB1
        have hC0 : V2 (PB) = some (.inr (1, [.ref (ad (1)), .ref (ad (PB + 1)), .ref (ad (PB + 7)), .ref (ad (PB + 13)), .ref (ad (PB + 14)), .ref (ad (PB + 15)), .int (ch + (nI 1)), .int (co + nI (ctS ρ M (putM n M mm oo v) n k)), .int (fo), .int (b2i bb), .int (nI (if bb = true then knU bn else bn))])) := by rw [eV2, va_up_self]
        have hC7 : isC ad V2 cy PB n (putM n M mm oo v) n (putM n M mm oo v) (kpU kp (fun r => gnL ρ r fb M n (putM n M mm oo v) n) k) fb (ch + nI 1) (co + nI (ctS ρ M (putM n M mm oo v) n k)) fo bb (nI (if bb = true then knU bn else bn)) := ⟨hC0, hC6.2.1.mv (fun L h1 h2 => by rw [eV2, va_up_ne _ _ (by omega)]), hC6.2.2.1.mv (fun L h1 h2 => by rw [eV2, va_up_ne _ _ (by omega)]), hC3, hC4⟩
        have hB7 := hB6.mv (X := V2) hk.1 (fun L h1 h2 => by rw [eV2, va_up_ne _ _ (by omega)])
        have hH7 := hH6.mv (X := V2) (fun L h1 h2 => by rw [eV2, va_up_ne _ _ (by omega)])
        have hfr7 : ∀ L, (L < PB ∨ PB + 80 ≤ L) → V2 L = V L := fun L hL => by rw [eV2, va_up_ne _ _ (by omega)]; exact hfr6 L hL
        refine lv_iload hx hb dX1_makeChange_132 (lv_at hl 2 rfl) ?_
        refine lv_if_le (tgt := 155) hx hb dX1_makeChange_134 (by decide) (fun c134 => ?_) (fun c134 => ?_)
        · skip
          have c134 : ¬ 0 < ce := fun q => by rw [Int32.lt_iff_toInt_lt] at q; rw [Int32.le_iff_toInt_le] at c134; omega
          refine lv_iload hx hb dX1_makeChange_155 (lv_at hl 0 rfl) ?_
          exact rwi hx hb hr hlocks dX1_makeChange_157 hW hS (⟨fun q => absurd (c10.symm.trans q) (by decide), fun _ => ⟨rfl, rfl, by first | (rw [if_neg (fun q => c134 q.1)]; exact hC7) | (rw [if_neg (fun q => c144 q.2)]; exact hC7), hH7, hfr7⟩⟩)
        · skip
          have c134 : 0 < ce := by rw [Int32.le_iff_toInt_le] at c134; rw [Int32.lt_iff_toInt_lt]; omega
          have hce : ¬ ce = 0 := fun q => by rw [q, Int32.lt_iff_toInt_lt] at c134; omega
          refine lv_aload_n hx hb dX1_makeChange_137 rfl (lv_at hl 1 rfl) ?_
          refine g_X1_X1_changes hx hb hown hK hW hC0 dX1_makeChange_138 ?_
          refine lv_iload hx hb dX1_makeChange_141 (lv_at hl 2 rfl) ?_
          refine lv_irem hx hb dX1_makeChange_143 (hce) ?_
          refine lv_if_ne (tgt := 155) hx hb dX1_makeChange_144 (by decide) (fun c144 => ?_) (fun c144 => ?_)
          · skip
            refine lv_iload hx hb dX1_makeChange_155 (lv_at hl 0 rfl) ?_
            exact rwi hx hb hr hlocks dX1_makeChange_157 hW hS (⟨fun q => absurd (c10.symm.trans q) (by decide), fun _ => ⟨rfl, rfl, by first | (rw [if_neg (fun q => c134 q.1)]; exact hC7) | (rw [if_neg (fun q => c144 q.2)]; exact hC7), hH7, hfr7⟩⟩)
          · skip
            refine lv_aload_n hx hb dX1_makeChange_147 rfl (lv_at hl 1 rfl) ?_
            refine lv_aload_n hx hb dX1_makeChange_148 rfl (lv_at hl 1 rfl) ?_
            refine vp_callSi (va_Run.run (va_runV (As := []) (rest := [.ref (ad PB)]) ⟨hx, hb, hml, hown, hK.1.use _⟩ (c_X1_firstFalse l D cy z0 ad V2 PB n n k (putM n M mm oo v) (putM n M mm oo v) (kpU kp (fun r => gnL ρ r fb M n (putM n M mm oo v) n) k) fb (ch + nI 1) (co + nI (ctS ρ M (putM n M mm oo v) n k)) fo (nI (if bb = true then knU bn else bn)) bb ρ hC7 hB7 hk hn40 hn40 hPB) (k_X1_X1_firstFalse hK.1 rfl rfl ⟨Nat.le_of_ble_eq_true rfl, Nat.le_of_ble_eq_true rfl⟩) (preV hK (Nat.le_trans hz hS.1) hW hC0 rfl) rfl rfl hl.1 rfl (lv_room (Nat.le_of_ble_eq_true rfl)) dX1_makeChange_149 ⟨Nat.le_of_ble_eq_true rfl, Nat.le_of_ble_eq_true rfl⟩)) (fun r149 h149 => ?_)
            have h149 : r149 = ffI (flB ρ (putM n M mm oo v) n (kpU kp (fun r => gnL ρ r fb M n (putM n M mm oo v) n) k)) k 0 := h149
            subst h149
            refine p_X1_X1_foundFalse hx hb hown hK hW hS hC0 dX1_makeChange_152 (fun H locs hW hS => ?_)
            obtain ⟨V3, eV3⟩ : ∃ x, x = va_up V2 (PB) (some (.inr (1, [.ref (ad (1)), .ref (ad (PB + 1)), .ref (ad (PB + 7)), .ref (ad (PB + 13)), .ref (ad (PB + 14)), .ref (ad (PB + 15)), .int (ch + (nI 1)), .int (co + nI (ctS ρ M (putM n M mm oo v) n k)), .int (ffI (flB ρ (putM n M mm oo v) n (kpU kp (fun r => gnL ρ r fb M n (putM n M mm oo v) n) k)) k 0), .int (b2i bb), .int (nI (if bb = true then knU bn else bn))]))) := ⟨_, rfl⟩
            rw [← eV3] at hW
            have hC3 : V3 (PB + 13) = some (.inl (cy 1, 12, .inr (.inl (kpU kp (fun r => gnL ρ r fb M n (putM n M mm oo v) n) k)))) := by rw [eV3, va_up_ne _ _ (by omega)]; exact hC3
            have hC4 : V3 (PB + 14) = some (.inl (cy 2, 12, .inl (fun r => b2i (fb r)))) := by rw [eV3, va_up_ne _ _ (by omega)]; exact hC4
            have hT0 : V3 (PB + 1) = some (.inr (5, [.ref (ad (PB + 1 + 1)), .int (nI n)])) := by rw [eV3, va_up_ne _ _ (by omega)]; exact hT0
            have hT1 : V3 (PB + 1 + 1) = some (.inl (cy 3, 4, .inr (.inr (.inr (.inr (fun i => if i < 4 then some (ad (PB + 1 + 2 + i)) else none)))))) := by rw [eV3, va_up_ne _ _ (by omega)]; exact hT1
            have hU0 : V3 (PB + 7) = some (.inr (5, [.ref (ad (PB + 7 + 1)), .int (nI n)])) := by rw [eV3, va_up_ne _ _ (by omega)]; exact hU0
            have hU1 : V3 (PB + 7 + 1) = some (.inl (cy 3, 4, .inr (.inr (.inr (.inr (fun i => if i < 4 then some (ad (PB + 7 + 2 + i)) else none)))))) := by rw [eV3, va_up_ne _ _ (by omega)]; exact hU1
            have hB0 : V3 (1) = some (.inr (3, [.ref (ad (2)), .int (nI k)])) := by rw [eV3, va_up_ne _ _ (by omega)]; exact hB0
            have hB1 : V3 (2) = some (.inl (cy 6, 12, .inr (.inr (.inr (.inr (fun i => if i < k then some (ad (10 + i)) else none)))))) := by rw [eV3, va_up_ne _ _ (by omega)]; exact hB1
            have hC0 : V3 (PB) = some (.inr (1, [.ref (ad (1)), .ref (ad (PB + 1)), .ref (ad (PB + 7)), .ref (ad (PB + 13)), .ref (ad (PB + 14)), .ref (ad (PB + 15)), .int (ch + (nI 1)), .int (co + nI (ctS ρ M (putM n M mm oo v) n k)), .int (ffI (flB ρ (putM n M mm oo v) n (kpU kp (fun r => gnL ρ r fb M n (putM n M mm oo v) n) k)) k 0), .int (b2i bb), .int (nI (if bb = true then knU bn else bn))])) := by rw [eV3, va_up_self]
            refine lv_iload hx hb dX1_makeChange_155 (lv_at hl 0 rfl) ?_
            exact rwi hx hb hr hlocks dX1_makeChange_157 hW hS (⟨fun q => absurd (c10.symm.trans q) (by decide), fun _ => ⟨rfl, rfl, ⟨by rw [if_pos ⟨c134, c144⟩]; exact hC0, hC7.2.1.mv (fun L h1 h2 => by show V3 L = _; rw [eV3, va_up_ne _ _ (by omega)]), hC7.2.2.1.mv (fun L h1 h2 => by show V3 L = _; rw [eV3, va_up_ne _ _ (by omega)]), hC3, hC4⟩, hH7.mv (fun L h1 h2 => by show V3 L = _; rw [eV3, va_up_ne _ _ (by omega)]), fun L hL => by show V3 L = V L; rw [eV3, va_up_ne _ _ (by omega)]; exact hfr7 L hL⟩⟩)
      · skip
        have c80 := nI_nle' c80 (by omega) (by omega)
        refine lv_aload_n hx hb dX1_makeChange_83 rfl (lv_at hl 0 rfl) ?_
        refine g_X1_X1_keptAt hx hb hown hK hW hC0 dX1_makeChange_84 ?_
        refine lv_iload hx hb dX1_makeChange_87 (lv_at hl 2 rfl) ?_
        refine lv_dup2_11 hx hb dX1_makeChange_89 rfl rfl ?_
        refine w_lald hx hb hK hW hC3 (j := i) (rfl) (by omega) (by omega) dX1_makeChange_90 ?_
        refine lv_aload_n hx hb dX1_makeChange_91 rfl (lv_at hl 0 rfl) ?_
        refine lv_iload hx hb dX1_makeChange_92 (lv_at hl 2 rfl) ?_
        refine vp_callSl (va_Run.run (va_runV (As := [.int (nI i)]) (rest := [.long ((kpU kp (fun r => gnL ρ r fb M n (putM n M mm oo v) n) i) i), .int (nI i), .ref (ad (PB + 13))]) ⟨hx, hb, hml, hown, hK.1.use _⟩ (c_X1_gainUnlessForgotten l D cy z0 ad Vl PB n n k M (putM n M mm oo v) (kpU kp (fun r => gnL ρ r fb M n (putM n M mm oo v) n) i) fb ch co fo (nI (if bb = true then knU bn else bn)) bb ρ hCl hBl hk hn40 hn40 hPB i (by omega)) (k_X1_X1_gainUnlessForgotten hK.1 rfl rfl ⟨Nat.le_of_ble_eq_true rfl, Nat.le_of_ble_eq_true rfl⟩) (preV hK (Nat.le_trans hz hS.1) hW hC0 rfl) rfl rfl hl.1 rfl (lv_room (Nat.le_of_ble_eq_true rfl)) dX1_makeChange_94 ⟨Nat.le_of_ble_eq_true rfl, Nat.le_of_ble_eq_true rfl⟩)) (fun r94 h94 => ?_)
        have h94 : r94 = gnL ρ i fb M n (putM n M mm oo v) n := h94
        subst h94
        refine lv_ladd hx hb dX1_makeChange_97 ?_
        refine w_last hx hb hK hW hS hC3 (j := i) (rfl) (by omega) (by omega) dX1_makeChange_98 (fun H locs hW hS => ?_)
        obtain ⟨V4, eV4⟩ : ∃ x, x = va_up Vl (PB + 13) (some (.inl (cy 1, 12, .inr (.inl (vp_updL (kpU kp (fun r => gnL ρ r fb M n (putM n M mm oo v) n) i) i (((kpU kp (fun r => gnL ρ r fb M n (putM n M mm oo v) n) i) i) + (gnL ρ i fb M n (putM n M mm oo v) n))))))) := ⟨_, rfl⟩
        rw [← eV4] at hW
        have hC0 : V4 (PB) = some (.inr (1, [.ref (ad (1)), .ref (ad (PB + 1)), .ref (ad (PB + 7)), .ref (ad (PB + 13)), .ref (ad (PB + 14)), .ref (ad (PB + 15)), .int (ch), .int (co), .int (fo), .int (b2i bb), .int (nI (if bb = true then knU bn else bn))])) := by rw [eV4, va_up_ne _ _ (by omega)]; exact hC0
        have hC4 : V4 (PB + 14) = some (.inl (cy 2, 12, .inl (fun r => b2i (fb r)))) := by rw [eV4, va_up_ne _ _ (by omega)]; exact hC4
        have hT0 : V4 (PB + 1) = some (.inr (5, [.ref (ad (PB + 1 + 1)), .int (nI n)])) := by rw [eV4, va_up_ne _ _ (by omega)]; exact hT0
        have hT1 : V4 (PB + 1 + 1) = some (.inl (cy 3, 4, .inr (.inr (.inr (.inr (fun i => if i < 4 then some (ad (PB + 1 + 2 + i)) else none)))))) := by rw [eV4, va_up_ne _ _ (by omega)]; exact hT1
        have hU0 : V4 (PB + 7) = some (.inr (5, [.ref (ad (PB + 7 + 1)), .int (nI n)])) := by rw [eV4, va_up_ne _ _ (by omega)]; exact hU0
        have hU1 : V4 (PB + 7 + 1) = some (.inl (cy 3, 4, .inr (.inr (.inr (.inr (fun i => if i < 4 then some (ad (PB + 7 + 2 + i)) else none)))))) := by rw [eV4, va_up_ne _ _ (by omega)]; exact hU1
        have hB0 : V4 (1) = some (.inr (3, [.ref (ad (2)), .int (nI k)])) := by rw [eV4, va_up_ne _ _ (by omega)]; exact hB0
        have hB1 : V4 (2) = some (.inl (cy 6, 12, .inr (.inr (.inr (.inr (fun i => if i < k then some (ad (10 + i)) else none)))))) := by rw [eV4, va_up_ne _ _ (by omega)]; exact hB1
        have hC3 : V4 (PB + 13) = some (.inl (cy 1, 12, .inr (.inl (vp_updL (kpU kp (fun r => gnL ρ r fb M n (putM n M mm oo v) n) i) i (((kpU kp (fun r => gnL ρ r fb M n (putM n M mm oo v) n) i) i) + (gnL ρ i fb M n (putM n M mm oo v) n)))))) := by rw [eV4, va_up_self]
        rw [kpU_s kp (fun r => gnL ρ r fb M n (putM n M mm oo v) n) i] at hC3
        refine lv_iinc (v := nI (i + 1)) (lv' := [(5, .int (nI (i + 1))), (0, .ref (ad PB)), (4, .int (ce))]) hx hb dX1_makeChange_99 hl (k := 2) rfl (by rw [show Int32.ofInt 1 = nI 1 from by decide]; exact nI_add _ _) (by decide) rfl (fun ls hl => ?_)
        refine lv_goto (tgt := 71) hx hb dX1_makeChange_102 (by decide) ?_
        exact ih (i + 1) _ _ _ ⟨by omega, ⟨_, ⟨⟨hC0, hCT.mv (fun L h1 h2 => by rw [eV4, va_up_ne _ _ (by omega)]), hCU.mv (fun L h1 h2 => by rw [eV4, va_up_ne _ _ (by omega)]), hC3, hC4⟩, hHl.mv (fun L h1 h2 => by rw [eV4, va_up_ne _ _ (by omega)]), fun L hL => by rw [eV4, va_up_ne _ _ (by omega)]; exact hfrl L hL⟩, hW⟩, hS, ls, rfl, lv_sub hl [1, 2, 0] rfl⟩ (by omega)
  · skip
    have c10 := b2i_0.mp c10
    refine lv_iconst (v := -1) hx hb dX1_makeChange_13 (by decide) ?_
    exact rwi hx hb hr hlocks dX1_makeChange_14 hW hS (⟨fun _ => ⟨rfl, rfl⟩, fun q => absurd (c10.symm.trans q) (by decide)⟩)
