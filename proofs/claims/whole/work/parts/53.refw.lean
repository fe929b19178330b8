set_option maxHeartbeats 4000000 in
set_option maxRecDepth 100000 in
theorem c_X7_forget (l : Launch) (D : va_G) (cy : Nat → ClassId) (z0 : Nat) (ad : Nat → Nat) (V : Nat → Option va_E) (c0 n k P K : Nat) (ce : Int32) (ρ : RuT) (pl : Nat → PlT) (sn : Nat → SnT) (hM : isM ad V cy n k P K ce ρ pl sn) (hG : gdX c0 n k P K ρ pl sn) (pi ri : Int32) (ib : Bool) : Met l yX7_forget [Cond.code yX7_forget cX7_forget 5 (some .int)] { frames := 2, cells := 0, slots := 0, locals := 43 } (WP [.ref (ad (2000)), .int (pi), .int (ri), .int (b2i ib)] D cy z0 ad V) (va_Qi (fun r u => r = (xPl P pl pi (plForget k ri ib)).1 ∧ u.1 = ad ∧ isM ad u.2 cy n k P K ce ρ (xPl P pl pi (plForget k ri ib)).2 sn ∧ ∀ L, L < 2000 → u.2 L = V L) (WB D z0) (AA z0)) 0 0 (AA z0) := by
  refine met_of (by decide) (Nat.le_of_ble_eq_true rfl) (fun p e s m below meth c hx hb hr hml hown hlocks hnm hK hz hW ls hl => ?_)
  have hown : s.vm.findClass RX7 = some m.cls := hown
  have hl : lv_has ls 5 [(0, .ref (ad (2000))), (1, .int (pi)), (2, .int (ri)), (3, .int (b2i ib))] := hl
  have hS : va_S (AA z0) s.heap s.heap [] := va_S.rf
  obtain ⟨ak, al, ab, aw, av, mem, kpt, fgt, cha, cos, fnd, isb, bat, kno, oob, ome, onu, oke, ksc, kme, kob, was, wwa, ⟨h2000, h2002, h2003, h2004, h2005, h2006, h2008, h2009, h2010, h2011, h2012, h2013, h2014, h2015, h2016, h2017, h2018, h2019, h2020, h2023, h2024, h2025, h2026, h2027⟩, ⟨hru, hlv⟩, hrp, hrs⟩ := id hM
  obtain ⟨hO, hkb, hgd⟩ := id hG
  obtain ⟨hn40, hk, hP1, hP4, hK20, hOp, hOs⟩ := id hO
  have hk12 := hk.1
  refine lv_aload_n hx hb dX7_forget_0 rfl (lv_at hl 0 rfl) ?_
  refine lv_iload_n hx hb dX7_forget_1 rfl (lv_at hl 1 rfl) ?_
  refine vp_callSi (va_Run.run (va_runV (As := [.int (pi)]) (rest := []) ⟨hx, hb, hml, hown, hK.1.use _⟩ (c_X7_isPlan l D cy z0 ad V n k P K ce h2000  (by omega) pi) (k_X7_X7_isPlan hK.1 rfl rfl ⟨Nat.le_of_ble_eq_true rfl, Nat.le_of_ble_eq_true rfl⟩) (preV hK hz hW h2000 rfl) rfl rfl hl.1 rfl (lv_room (Nat.le_of_ble_eq_true rfl)) dX7_forget_2 ⟨Nat.le_of_ble_eq_true rfl, Nat.le_of_ble_eq_true rfl⟩)) (fun r2 h2 => ?_)
  have h2 : r2 = b2i (hasB P pi) := h2
  subst h2
  refine lv_if_eq (tgt := 16) hx hb dX7_forget_5 (by decide) (fun c5 => ?_) (fun c5 => ?_)
  · skip
    have c5 := b2i_0.mp c5
    have hp : ¬ hasB P pi = true := by rw [c5]; decide
    refine lv_iconst (v := -1) hx hb dX7_forget_16 (by decide) ?_
    exact rwi hx hb hr hlocks dX7_forget_17 hW hS (xM_none hM hp)
  · skip
    have c5 := b2i_1.mp c5
    have hp : hasB P pi = true := c5
    obtain ⟨epi, hpp⟩ := hasB_of hp (by omega)
    obtain ⟨pp, epp⟩ : ∃ y, y = pi.toNatClampNeg := ⟨_, rfl⟩
    rw [← epp] at epi hpp
    have hPq := hrp.1 pp hpp
    have hgp := hgd pp hpp
    obtain ⟨π, eπ⟩ : ∃ π, π = pl pp := ⟨_, rfl⟩
    rw [← eπ] at hPq hgp
    obtain ⟨hvw, hkp, hfg, ech, eco, efo, ebb, ebt, ekn, hhi⟩ := id hPq
    have hM0 := hgp.ok
    obtain ⟨hZ, hb60, hnx, hkn, hbk, hOk⟩ := id hgp.1
    have hq8_1 : (pi) = (nI pp) := epi
    rw [hq8_1] at hl
    refine lv_aload_n hx hb dX7_forget_8 rfl (lv_at hl 0 rfl) ?_
    refine lv_iload_n hx hb dX7_forget_9 rfl (lv_at hl 2 rfl) ?_
    refine vp_callSi (va_Run.run (va_runV (As := [.int (ri)]) (rest := []) ⟨hx, hb, hml, hown, hK.1.use _⟩ (c_X7_isRule l D cy z0 ad V n k P K ce h2000  (by omega) ri) (k_X7_X7_isRule hK.1 rfl rfl ⟨Nat.le_of_ble_eq_true rfl, Nat.le_of_ble_eq_true rfl⟩) (preV hK hz hW h2000 rfl) rfl rfl hl.1 rfl (lv_room (Nat.le_of_ble_eq_true rfl)) dX7_forget_10 ⟨Nat.le_of_ble_eq_true rfl, Nat.le_of_ble_eq_true rfl⟩)) (fun r10 h10 => ?_)
    have h10 : r10 = b2i (hasB k ri) := h10
    subst h10
    refine lv_if_ne (tgt := 18) hx hb dX7_forget_13 (by decide) (fun c13 => ?_) (fun c13 => ?_)
    · skip
      have c13 := b2i_1.mp c13
      obtain ⟨e_rr, h_rr⟩ := hasB_of c13 (by omega)
      obtain ⟨rr, d_rr⟩ : ∃ y, y = ri.toNatClampNeg := ⟨_, rfl⟩
      rw [← d_rr] at e_rr h_rr
      have hq18_2 : (ri) = (nI rr) := e_rr
      rw [hq18_2] at hl
      refine lv_aload_n hx hb dX7_forget_18 rfl (lv_at hl 0 rfl) ?_
      refine g_X7_X7_forgets hx hb hown hK hW h2000 dX7_forget_19 ?_
      refine lv_bipush (v := nI 12) hx hb dX7_forget_22 (by decide) ?_
      refine lv_iload_n hx hb dX7_forget_24 rfl (lv_at hl 1 rfl) ?_
      refine lv_imul hx hb dX7_forget_25 ?_
      refine asi (y := nI (12 * pp)) (pk_mul _ _) ?_
      refine lv_iload_n hx hb dX7_forget_26 rfl (lv_at hl 2 rfl) ?_
      refine lv_iadd hx hb dX7_forget_27 ?_
      refine asi (y := nI ((12 * pp) + rr)) (nI_add _ _) ?_
      refine w_zald hx hb hK hW h2010 (j := (12 * pp) + rr) (rfl) (by omega) (by omega) dX7_forget_28 ?_
      refine asi (y := b2i (pF π rr)) (by rw [hfg rr (by omega)]) ?_
      refine lv_istore (lv' := [(4, .int (b2i (pF π rr))), (0, .ref (ad (2000))), (1, .int (nI pp)), (2, .int (nI rr)), (3, .int (b2i ib))]) hx hb dX7_forget_29 hl (by decide) rfl (fun ls hl => ?_)
      refine lv_aload_n hx hb dX7_forget_31 rfl (lv_at hl 1 rfl) ?_
      refine g_X7_X7_forgets hx hb hown hK hW h2000 dX7_forget_32 ?_
      refine lv_bipush (v := nI 12) hx hb dX7_forget_35 (by decide) ?_
      refine lv_iload_n hx hb dX7_forget_37 rfl (lv_at hl 2 rfl) ?_
      refine lv_imul hx hb dX7_forget_38 ?_
      refine asi (y := nI (12 * pp)) (pk_mul _ _) ?_
      refine lv_iload_n hx hb dX7_forget_39 rfl (lv_at hl 3 rfl) ?_
      refine lv_iadd hx hb dX7_forget_40 ?_
      refine asi (y := nI ((12 * pp) + rr)) (nI_add _ _) ?_
      refine lv_iload_n hx hb dX7_forget_41 rfl (lv_at hl 4 rfl) ?_
      refine w_zast hx hb hK hW hS h2010 (j := (12 * pp) + rr) (rfl) (by omega) (by omega) (b2i_v) dX7_forget_42 (fun H locs hW hS => ?_)
      obtain ⟨V1, eV1⟩ : ∃ x9, x9 = va_up V (2010) (some (.inl (cy 2, 48, .inl (upd (fun r => b2i (fgt r)) ((12 * pp) + rr) (b2i ib))))) := ⟨_, rfl⟩
      rw [← eV1] at hW
      have h2000 : V1 (2000) = some (.inr (7, [.int (nI n), .int (nI k), .ref (ad (2002)), .ref (ad (2003)), .ref (ad (2004)), .ref (ad (2005)), .ref (ad (2006)), .int (nI P), .ref (ad (2008)), .ref (ad (2009)), .ref (ad (2010)), .ref (ad (2011)), .ref (ad (2012)), .ref (ad (2013)), .ref (ad (2014)), .ref (ad (2015)), .ref (ad (2016)), .ref (ad (2017)), .ref (ad (2018)), .ref (ad (2019)), .ref (ad (2020)), .int (ce), .int (nI K), .ref (ad (2023)), .ref (ad (2024)), .ref (ad (2025)), .ref (ad (2026)), .ref (ad (2027))])) := by rw [eV1, va_up_ne _ _ (by omega)]; exact h2000
      have h2002 : V1 (2002) = some (.inl (cy 0, 12, .inl ak)) := by rw [eV1, va_up_ne _ _ (by omega)]; exact h2002
      have h2003 : V1 (2003) = some (.inl (cy 0, 12, .inl al)) := by rw [eV1, va_up_ne _ _ (by omega)]; exact h2003
      have h2004 : V1 (2004) = some (.inl (cy 0, 12, .inl ab)) := by rw [eV1, va_up_ne _ _ (by omega)]; exact h2004
      have h2005 : V1 (2005) = some (.inl (cy 0, 12, .inl aw)) := by rw [eV1, va_up_ne _ _ (by omega)]; exact h2005
      have h2006 : V1 (2006) = some (.inl (cy 0, 12, .inl av)) := by rw [eV1, va_up_ne _ _ (by omega)]; exact h2006
      have h2008 : V1 (2008) = some (.inl (cy 0, 640, .inl mem)) := by rw [eV1, va_up_ne _ _ (by omega)]; exact h2008
      have h2009 : V1 (2009) = some (.inl (cy 1, 48, .inr (.inl kpt))) := by rw [eV1, va_up_ne _ _ (by omega)]; exact h2009
      have h2011 : V1 (2011) = some (.inl (cy 0, 4, .inl cha)) := by rw [eV1, va_up_ne _ _ (by omega)]; exact h2011
      have h2012 : V1 (2012) = some (.inl (cy 0, 4, .inl cos)) := by rw [eV1, va_up_ne _ _ (by omega)]; exact h2012
      have h2013 : V1 (2013) = some (.inl (cy 0, 4, .inl fnd)) := by rw [eV1, va_up_ne _ _ (by omega)]; exact h2013
      have h2014 : V1 (2014) = some (.inl (cy 2, 4, .inl (fun r => b2i (isb r)))) := by rw [eV1, va_up_ne _ _ (by omega)]; exact h2014
      have h2015 : V1 (2015) = some (.inl (cy 0, 4, .inl bat)) := by rw [eV1, va_up_ne _ _ (by omega)]; exact h2015
      have h2016 : V1 (2016) = some (.inl (cy 0, 4, .inl kno)) := by rw [eV1, va_up_ne _ _ (by omega)]; exact h2016
      have h2017 : V1 (2017) = some (.inl (cy 0, 240, .inl oob)) := by rw [eV1, va_up_ne _ _ (by omega)]; exact h2017
      have h2018 : V1 (2018) = some (.inl (cy 0, 240, .inl ome)) := by rw [eV1, va_up_ne _ _ (by omega)]; exact h2018
      have h2019 : V1 (2019) = some (.inl (cy 0, 240, .inl onu)) := by rw [eV1, va_up_ne _ _ (by omega)]; exact h2019
      have h2020 : V1 (2020) = some (.inl (cy 1, 2880, .inr (.inl oke))) := by rw [eV1, va_up_ne _ _ (by omega)]; exact h2020
      have h2023 : V1 (2023) = some (.inl (cy 1, 60, .inr (.inl ksc))) := by rw [eV1, va_up_ne _ _ (by omega)]; exact h2023
      have h2024 : V1 (2024) = some (.inl (cy 0, 3200, .inl kme)) := by rw [eV1, va_up_ne _ _ (by omega)]; exact h2024
      have h2025 : V1 (2025) = some (.inl (cy 0, 20, .inl kob)) := by rw [eV1, va_up_ne _ _ (by omega)]; exact h2025
      have h2026 : V1 (2026) = some (.inl (cy 0, 160, .inl was)) := by rw [eV1, va_up_ne _ _ (by omega)]; exact h2026
      have h2027 : V1 (2027) = some (.inl (cy 1, 12, .inr (.inl wwa))) := by rw [eV1, va_up_ne _ _ (by omega)]; exact h2027
      have h2010 : V1 (2010) = some (.inl (cy 2, 48, .inl (upd (fun r => b2i (fgt r)) ((12 * pp) + rr) (b2i ib)))) := by rw [eV1, va_up_self]
      refine jl (pcj := 53) (st := [.int (b2i (pF π rr))]) (nL := 5) (lv := [(4, .int (b2i (pF π rr))), (0, .ref (ad (2000))), (1, .int (nI pp)), (2, .int (nI rr)), (3, .int (b2i ib))]) (fun KJ => ?_) (fun ls hl => ?_)
      · skip
        refine lv_iload hx hb dX7_forget_43 (lv_at hl 0 rfl) ?_
        refine lv_if_eq (tgt := 52) hx hb dX7_forget_45 (by decide) (fun c45 => ?_) (fun c45 => ?_)
        · skip
          have c45 := b2i_0.mp c45
          refine lv_iconst (v := nI 0) hx hb dX7_forget_52 (by decide) ?_
          refine asi (y := b2i (pF π rr)) (by rw [c45]; rfl) ?_
          exact KJ ls (lv_sub hl [0, 1, 2, 3, 4] rfl)
        · skip
          have c45 := b2i_1.mp c45
          refine lv_iconst (v := nI 1) hx hb dX7_forget_48 (by decide) ?_
          refine lv_goto (tgt := 53) hx hb dX7_forget_49 (by decide) ?_
          refine asi (y := b2i (pF π rr)) (by rw [c45]; rfl) ?_
          exact KJ ls (lv_sub hl [0, 1, 2, 3, 4] rfl)
      · skip
        exact rwi hx hb hr hlocks dX7_forget_53 hW hS (by
      rw [upB] at h2010
      refine xM_new (π := (pM π, pK π, va_up (pF π) rr ib, pCh π, pCo π, pFo π, pBb π, pBn π, pHo π, pHm π, pHv π, pHs π, pNx π, pKn π)) hp (by rw [← epp, ← eπ, d_rr]; exact if_pos c13) rfl ?_ (fun L hL => by show V1 L = _; rw [eV1, va_up_ne _ _ (by omega)])
      rw [← epp]
      exact ⟨_, _, _, _, _, _, _, _, _, _, _, _, _, _, _, _, _, _, _, _, _, _, _, ⟨h2000, h2002, h2003, h2004, h2005, h2006, h2008, h2009, h2010, h2011, h2012, h2013, h2014, h2015, h2016, h2017, h2018, h2019, h2020, h2023, h2024, h2025, h2026, h2027⟩, ⟨hru, hlv⟩, hrp.up hpp hk12 (fun q hq => (hOp q hq).2.2.2.1) (⟨hvw, hkp, fun r hr => by by_cases q : r = rr; (subst q; rw [va_up_self]; exact (va_up_self _ _ _).symm); (rw [va_up_ne _ _ (by omega), hfg r hr]; exact (va_up_ne _ _ q).symm), ech, eco, efo, ebb, ebt, ekn, hhi⟩) (fun _ _ => rfl) (fun _ _ => rfl) (fun j hj => by rw [va_up_ne _ _ (by omega)]) (fun _ _ => rfl) (fun _ _ => rfl) (fun _ _ => rfl) (fun _ _ => rfl) (fun _ _ => rfl) (fun _ _ => rfl) (fun _ _ => rfl) (fun _ _ => rfl) (fun _ _ => rfl) (fun _ _ => rfl), hrs⟩)
    · skip
      have c13 := b2i_0.mp c13
      refine lv_iconst (v := -1) hx hb dX7_forget_16 (by decide) ?_
      exact rwi hx hb hr hlocks dX7_forget_17 hW hS (xM_same hM hp (by rw [← epp, ← eπ]; exact if_neg (by rw [c13]; decide)))

set_option maxHeartbeats 4000000 in
set_option maxRecDepth 100000 in
theorem c_X7_mend (l : Launch) (D : va_G) (cy : Nat → ClassId) (z0 : Nat) (ad : Nat → Nat) (V : Nat → Option va_E) (c0 n k P K : Nat) (ce : Int32) (ρ : RuT) (pl : Nat → PlT) (sn : Nat → SnT) (hM : isM ad V cy n k P K ce ρ pl sn) (hG : gdX c0 n k P K ρ pl sn) (pi ri : Int32) : Met l yX7_mend [Cond.code yX7_mend cX7_mend 6 (some .int)] { frames := 2, cells := 0, slots := 0, locals := 57 } (WP [.ref (ad (2000)), .int (pi), .int (ri)] D cy z0 ad V) (va_Qi (fun r u => r = (xPl P pl pi (plMend n k ρ ri)).1 ∧ u.1 = ad ∧ isM ad u.2 cy n k P K ce ρ (xPl P pl pi (plMend n k ρ ri)).2 sn ∧ ∀ L, L < 2000 → u.2 L = V L) (WB D z0) (AA z0)) 0 0 (AA z0) := by
  refine met_of (by decide) (Nat.le_of_ble_eq_true rfl) (fun p e s m below meth c hx hb hr hml hown hlocks hnm hK hz hW ls hl => ?_)
  have hown : s.vm.findClass RX7 = some m.cls := hown
  have hl : lv_has ls 6 [(0, .ref (ad (2000))), (1, .int (pi)), (2, .int (ri))] := hl
  have hS : va_S (AA z0) s.heap s.heap [] := va_S.rf
  obtain ⟨ak, al, ab, aw, av, mem, kpt, fgt, cha, cos, fnd, isb, bat, kno, oob, ome, onu, oke, ksc, kme, kob, was, wwa, ⟨h2000, h2002, h2003, h2004, h2005, h2006, h2008, h2009, h2010, h2011, h2012, h2013, h2014, h2015, h2016, h2017, h2018, h2019, h2020, h2023, h2024, h2025, h2026, h2027⟩, ⟨hru, hlv⟩, hrp, hrs⟩ := id hM
  obtain ⟨hO, hkb, hgd⟩ := id hG
  obtain ⟨hn40, hk, hP1, hP4, hK20, hOp, hOs⟩ := id hO
  have hk12 := hk.1
  refine lv_aload_n hx hb dX7_mend_0 rfl (lv_at hl 0 rfl) ?_
  refine lv_iload_n hx hb dX7_mend_1 rfl (lv_at hl 1 rfl) ?_
  refine vp_callSi (va_Run.run (va_runV (As := [.int (pi)]) (rest := []) ⟨hx, hb, hml, hown, hK.1.use _⟩ (c_X7_isPlan l D cy z0 ad V n k P K ce h2000  (by omega) pi) (k_X7_X7_isPlan hK.1 rfl rfl ⟨Nat.le_of_ble_eq_true rfl, Nat.le_of_ble_eq_true rfl⟩) (preV hK hz hW h2000 rfl) rfl rfl hl.1 rfl (lv_room (Nat.le_of_ble_eq_true rfl)) dX7_mend_2 ⟨Nat.le_of_ble_eq_true rfl, Nat.le_of_ble_eq_true rfl⟩)) (fun r2 h2 => ?_)
  have h2 : r2 = b2i (hasB P pi) := h2
  subst h2
  refine lv_if_eq (tgt := 16) hx hb dX7_mend_5 (by decide) (fun c5 => ?_) (fun c5 => ?_)
  · skip
    have c5 := b2i_0.mp c5
    have hp : ¬ hasB P pi = true := by rw [c5]; decide
    refine lv_iconst (v := -1) hx hb dX7_mend_16 (by decide) ?_
    exact rwi hx hb hr hlocks dX7_mend_17 hW hS (xM_none hM hp)
  · skip
    have c5 := b2i_1.mp c5
    have hp : hasB P pi = true := c5
    obtain ⟨epi, hpp⟩ := hasB_of hp (by omega)
    obtain ⟨pp, epp⟩ : ∃ y, y = pi.toNatClampNeg := ⟨_, rfl⟩
    rw [← epp] at epi hpp
    have hPq := hrp.1 pp hpp
    have hgp := hgd pp hpp
    obtain ⟨π, eπ⟩ : ∃ π, π = pl pp := ⟨_, rfl⟩
    rw [← eπ] at hPq hgp
    obtain ⟨hvw, hkp, hfg, ech, eco, efo, ebb, ebt, ekn, hhi⟩ := id hPq
    have hM0 := hgp.ok
    obtain ⟨hZ, hb60, hnx, hkn, hbk, hOk⟩ := id hgp.1
    have hq8_1 : (pi) = (nI pp) := epi
    rw [hq8_1] at hl
    refine lv_aload_n hx hb dX7_mend_8 rfl (lv_at hl 0 rfl) ?_
    refine lv_iload_n hx hb dX7_mend_9 rfl (lv_at hl 2 rfl) ?_
    refine vp_callSi (va_Run.run (va_runV (As := [.int (ri)]) (rest := []) ⟨hx, hb, hml, hown, hK.1.use _⟩ (c_X7_isRule l D cy z0 ad V n k P K ce h2000  (by omega) ri) (k_X7_X7_isRule hK.1 rfl rfl ⟨Nat.le_of_ble_eq_true rfl, Nat.le_of_ble_eq_true rfl⟩) (preV hK hz hW h2000 rfl) rfl rfl hl.1 rfl (lv_room (Nat.le_of_ble_eq_true rfl)) dX7_mend_10 ⟨Nat.le_of_ble_eq_true rfl, Nat.le_of_ble_eq_true rfl⟩)) (fun r10 h10 => ?_)
    have h10 : r10 = b2i (hasB k ri) := h10
    subst h10
    refine lv_if_ne (tgt := 18) hx hb dX7_mend_13 (by decide) (fun c13 => ?_) (fun c13 => ?_)
    · skip
      have c13 := b2i_1.mp c13
      obtain ⟨e_rr, h_rr⟩ := hasB_of c13 (by omega)
      obtain ⟨rr, d_rr⟩ : ∃ y, y = ri.toNatClampNeg := ⟨_, rfl⟩
      rw [← d_rr] at e_rr h_rr
      have hq18_2 : (ri) = (nI rr) := e_rr
      rw [hq18_2] at hl
      refine lv_aload_n hx hb dX7_mend_18 rfl (lv_at hl 0 rfl) ?_
      refine lv_iload_n hx hb dX7_mend_19 rfl (lv_at hl 1 rfl) ?_
      refine lv_iload_n hx hb dX7_mend_20 rfl (lv_at hl 2 rfl) ?_
      refine vp_callSl (va_Run.run (va_runV (As := [.int (nI pp), .int (nI rr)]) (rest := []) ⟨hx, hb, hml, hown, hK.1.use _⟩ (c_X7_worthP l D cy z0 ad V n k P K ce h2000 ak h2002 al h2003 ab h2004 aw h2005 mem h2008 hn40 pp (by omega) ρ ((pM π)) hvw hM0 rr (by have := hk.1; omega) (hk.2 rr (by omega)) (hkb rr (by omega)) (hru rr (by omega))) (k_X7_X7_worthOf hK.1 rfl rfl ⟨Nat.le_of_ble_eq_true rfl, Nat.le_of_ble_eq_true rfl⟩) (preV hK hz hW h2000 rfl) rfl rfl hl.1 rfl (lv_room (Nat.le_of_ble_eq_true rfl)) dX7_mend_21 ⟨Nat.le_of_ble_eq_true rfl, Nat.le_of_ble_eq_true rfl⟩)) (fun r21 h21 => ?_)
      have h21 : r21 = wthR ρ rr ((pM π)) n := h21
      subst h21
      refine lv_lstore_n (lv' := [(3, .long (wthR ρ rr ((pM π)) n)), (0, .ref (ad (2000))), (1, .int (nI pp)), (2, .int (nI rr))]) hx hb dX7_mend_24 rfl hl (by decide) rfl (fun ls hl => ?_)
      refine jl (pcj := 46) (st := [.int (b2i (flB ρ (pM π) n (pK π) rr))]) (nL := 6) (lv := [(3, .long (wthR ρ rr ((pM π)) n)), (0, .ref (ad (2000))), (1, .int (nI pp)), (2, .int (nI rr))]) (fun KJ => ?_) (fun ls hl => ?_)
      · skip
        refine lv_aload_n hx hb dX7_mend_25 rfl (lv_at hl 1 rfl) ?_
        refine g_X7_X7_kept hx hb hown hK hW h2000 dX7_mend_26 ?_
        refine lv_bipush (v := nI 12) hx hb dX7_mend_29 (by decide) ?_
        refine lv_iload_n hx hb dX7_mend_31 rfl (lv_at hl 2 rfl) ?_
        refine lv_imul hx hb dX7_mend_32 ?_
        refine asi (y := nI (12 * pp)) (pk_mul _ _) ?_
        refine lv_iload_n hx hb dX7_mend_33 rfl (lv_at hl 3 rfl) ?_
        refine lv_iadd hx hb dX7_mend_34 ?_
        refine asi (y := nI ((12 * pp) + rr)) (nI_add _ _) ?_
        refine w_lald hx hb hK hW h2009 (j := (12 * pp) + rr) (rfl) (by omega) (by omega) dX7_mend_35 ?_
        refine asl (y := pK π rr) (hkp rr h_rr) ?_
        refine lv_lload_n hx hb dX7_mend_36 rfl (lv_at hl 0 rfl) ?_
        refine W.lcmp hx hb dX7_mend_37 ?_
        refine lv_if_eq (tgt := 45) hx hb dX7_mend_38 (by decide) (fun c38 => ?_) (fun c38 => ?_)
        · skip
          refine lv_iconst (v := nI 0) hx hb dX7_mend_45 (by decide) ?_
          refine asi (y := b2i (flB ρ (pM π) n (pK π) rr)) (by first | (rw [show flB ρ (pM π) n (pK π) rr = true from decide_eq_true (fun q => c38 ((lg_cmp_eq _ _).mpr q))]; rfl) | (rw [show flB ρ (pM π) n (pK π) rr = false from decide_eq_false (fun q => q ((lg_cmp_eq _ _).mp c38))]; rfl)) ?_
          exact KJ ls (lv_sub hl [0, 1, 2, 3] rfl)
        · skip
          refine lv_iconst (v := nI 1) hx hb dX7_mend_41 (by decide) ?_
          refine lv_goto (tgt := 46) hx hb dX7_mend_42 (by decide) ?_
          refine asi (y := b2i (flB ρ (pM π) n (pK π) rr)) (by first | (rw [show flB ρ (pM π) n (pK π) rr = true from decide_eq_true (fun q => c38 ((lg_cmp_eq _ _).mpr q))]; rfl) | (rw [show flB ρ (pM π) n (pK π) rr = false from decide_eq_false (fun q => q ((lg_cmp_eq _ _).mp c38))]; rfl)) ?_
          exact KJ ls (lv_sub hl [0, 1, 2, 3] rfl)
      · skip
        refine lv_istore (lv' := [(5, .int (b2i (flB ρ (pM π) n (pK π) rr))), (3, .long (wthR ρ rr ((pM π)) n)), (0, .ref (ad (2000))), (1, .int (nI pp)), (2, .int (nI rr))]) hx hb dX7_mend_46 hl (by decide) rfl (fun ls hl => ?_)
        refine lv_aload_n hx hb dX7_mend_48 rfl (lv_at hl 2 rfl) ?_
        refine g_X7_X7_kept hx hb hown hK hW h2000 dX7_mend_49 ?_
        refine lv_bipush (v := nI 12) hx hb dX7_mend_52 (by decide) ?_
        refine lv_iload_n hx hb dX7_mend_54 rfl (lv_at hl 3 rfl) ?_
        refine lv_imul hx hb dX7_mend_55 ?_
        refine asi (y := nI (12 * pp)) (pk_mul _ _) ?_
        refine lv_iload_n hx hb dX7_mend_56 rfl (lv_at hl 4 rfl) ?_
        refine lv_iadd hx hb dX7_mend_57 ?_
        refine asi (y := nI ((12 * pp) + rr)) (nI_add _ _) ?_
        refine lv_lload_n hx hb dX7_mend_58 rfl (lv_at hl 1 rfl) ?_
        refine w_last hx hb hK hW hS h2009 (j := (12 * pp) + rr) (rfl) (by omega) (by omega) dX7_mend_59 (fun H locs hW hS => ?_)
        obtain ⟨V1, eV1⟩ : ∃ x9, x9 = va_up V (2009) (some (.inl (cy 1, 48, .inr (.inl (vp_updL kpt ((12 * pp) + rr) (wthR ρ rr ((pM π)) n)))))) := ⟨_, rfl⟩
        rw [← eV1] at hW
        have h2000 : V1 (2000) = some (.inr (7, [.int (nI n), .int (nI k), .ref (ad (2002)), .ref (ad (2003)), .ref (ad (2004)), .ref (ad (2005)), .ref (ad (2006)), .int (nI P), .ref (ad (2008)), .ref (ad (2009)), .ref (ad (2010)), .ref (ad (2011)), .ref (ad (2012)), .ref (ad (2013)), .ref (ad (2014)), .ref (ad (2015)), .ref (ad (2016)), .ref (ad (2017)), .ref (ad (2018)), .ref (ad (2019)), .ref (ad (2020)), .int (ce), .int (nI K), .ref (ad (2023)), .ref (ad (2024)), .ref (ad (2025)), .ref (ad (2026)), .ref (ad (2027))])) := by rw [eV1, va_up_ne _ _ (by omega)]; exact h2000
        have h2002 : V1 (2002) = some (.inl (cy 0, 12, .inl ak)) := by rw [eV1, va_up_ne _ _ (by omega)]; exact h2002
        have h2003 : V1 (2003) = some (.inl (cy 0, 12, .inl al)) := by rw [eV1, va_up_ne _ _ (by omega)]; exact h2003
        have h2004 : V1 (2004) = some (.inl (cy 0, 12, .inl ab)) := by rw [eV1, va_up_ne _ _ (by omega)]; exact h2004
        have h2005 : V1 (2005) = some (.inl (cy 0, 12, .inl aw)) := by rw [eV1, va_up_ne _ _ (by omega)]; exact h2005
        have h2006 : V1 (2006) = some (.inl (cy 0, 12, .inl av)) := by rw [eV1, va_up_ne _ _ (by omega)]; exact h2006
        have h2008 : V1 (2008) = some (.inl (cy 0, 640, .inl mem)) := by rw [eV1, va_up_ne _ _ (by omega)]; exact h2008
        have h2010 : V1 (2010) = some (.inl (cy 2, 48, .inl (fun r => b2i (fgt r)))) := by rw [eV1, va_up_ne _ _ (by omega)]; exact h2010
        have h2011 : V1 (2011) = some (.inl (cy 0, 4, .inl cha)) := by rw [eV1, va_up_ne _ _ (by omega)]; exact h2011
        have h2012 : V1 (2012) = some (.inl (cy 0, 4, .inl cos)) := by rw [eV1, va_up_ne _ _ (by omega)]; exact h2012
        have h2013 : V1 (2013) = some (.inl (cy 0, 4, .inl fnd)) := by rw [eV1, va_up_ne _ _ (by omega)]; exact h2013
        have h2014 : V1 (2014) = some (.inl (cy 2, 4, .inl (fun r => b2i (isb r)))) := by rw [eV1, va_up_ne _ _ (by omega)]; exact h2014
        have h2015 : V1 (2015) = some (.inl (cy 0, 4, .inl bat)) := by rw [eV1, va_up_ne _ _ (by omega)]; exact h2015
        have h2016 : V1 (2016) = some (.inl (cy 0, 4, .inl kno)) := by rw [eV1, va_up_ne _ _ (by omega)]; exact h2016
        have h2017 : V1 (2017) = some (.inl (cy 0, 240, .inl oob)) := by rw [eV1, va_up_ne _ _ (by omega)]; exact h2017
        have h2018 : V1 (2018) = some (.inl (cy 0, 240, .inl ome)) := by rw [eV1, va_up_ne _ _ (by omega)]; exact h2018
        have h2019 : V1 (2019) = some (.inl (cy 0, 240, .inl onu)) := by rw [eV1, va_up_ne _ _ (by omega)]; exact h2019
        have h2020 : V1 (2020) = some (.inl (cy 1, 2880, .inr (.inl oke))) := by rw [eV1, va_up_ne _ _ (by omega)]; exact h2020
        have h2023 : V1 (2023) = some (.inl (cy 1, 60, .inr (.inl ksc))) := by rw [eV1, va_up_ne _ _ (by omega)]; exact h2023
        have h2024 : V1 (2024) = some (.inl (cy 0, 3200, .inl kme)) := by rw [eV1, va_up_ne _ _ (by omega)]; exact h2024
        have h2025 : V1 (2025) = some (.inl (cy 0, 20, .inl kob)) := by rw [eV1, va_up_ne _ _ (by omega)]; exact h2025
        have h2026 : V1 (2026) = some (.inl (cy 0, 160, .inl was)) := by rw [eV1, va_up_ne _ _ (by omega)]; exact h2026
        have h2027 : V1 (2027) = some (.inl (cy 1, 12, .inr (.inl wwa))) := by rw [eV1, va_up_ne _ _ (by omega)]; exact h2027
        have h2009 : V1 (2009) = some (.inl (cy 1, 48, .inr (.inl (vp_updL kpt ((12 * pp) + rr) (wthR ρ rr ((pM π)) n))))) := by rw [eV1, va_up_self]
        refine jl (pcj := 70) (st := [.int (b2i (flB ρ (pM π) n (pK π) rr))]) (nL := 6) (lv := [(5, .int (b2i (flB ρ (pM π) n (pK π) rr))), (3, .long (wthR ρ rr ((pM π)) n)), (0, .ref (ad (2000))), (1, .int (nI pp)), (2, .int (nI rr))]) (fun KJ => ?_) (fun ls hl => ?_)
        · skip
          refine lv_iload hx hb dX7_mend_60 (lv_at hl 0 rfl) ?_
          refine lv_if_eq (tgt := 69) hx hb dX7_mend_62 (by decide) (fun c62 => ?_) (fun c62 => ?_)
          · skip
            have c62 := b2i_0.mp c62
            refine lv_iconst (v := nI 0) hx hb dX7_mend_69 (by decide) ?_
            refine asi (y := b2i (flB ρ (pM π) n (pK π) rr)) (by rw [c62]; rfl) ?_
            exact KJ ls (lv_sub hl [0, 1, 2, 3, 4] rfl)
          · skip
            have c62 := b2i_1.mp c62
            refine lv_iconst (v := nI 1) hx hb dX7_mend_65 (by decide) ?_
            refine lv_goto (tgt := 70) hx hb dX7_mend_66 (by decide) ?_
            refine asi (y := b2i (flB ρ (pM π) n (pK π) rr)) (by rw [c62]; rfl) ?_
            exact KJ ls (lv_sub hl [0, 1, 2, 3, 4] rfl)
        · skip
          exact rwi hx hb hr hlocks dX7_mend_70 hW hS (by
      refine xM_new (π := (pM π, vp_updL (pK π) rr (wthR ρ rr (pM π) n), pF π, pCh π, pCo π, pFo π, pBb π, pBn π, pHo π, pHm π, pHv π, pHs π, pNx π, pKn π)) hp (by rw [← epp, ← eπ, d_rr]; exact if_pos c13) rfl ?_ (fun L hL => by show V1 L = _; rw [eV1, va_up_ne _ _ (by omega)])
      rw [← epp]
      exact ⟨_, _, _, _, _, _, _, _, _, _, _, _, _, _, _, _, _, _, _, _, _, _, _, ⟨h2000, h2002, h2003, h2004, h2005, h2006, h2008, h2009, h2010, h2011, h2012, h2013, h2014, h2015, h2016, h2017, h2018, h2019, h2020, h2023, h2024, h2025, h2026, h2027⟩, ⟨hru, hlv⟩, hrp.up hpp hk12 (fun q hq => (hOp q hq).2.2.2.1) (⟨hvw, fun r hr => updL_at (hkp r hr), hfg, ech, eco, efo, ebb, ebt, ekn, hhi⟩) (fun _ _ => rfl) (fun j hj => by simp only [vp_updL]; rw [if_neg (by omega)]) (fun _ _ => rfl) (fun _ _ => rfl) (fun _ _ => rfl) (fun _ _ => rfl) (fun _ _ => rfl) (fun _ _ => rfl) (fun _ _ => rfl) (fun _ _ => rfl) (fun _ _ => rfl) (fun _ _ => rfl) (fun _ _ => rfl), hrs⟩)
    · skip
      have c13 := b2i_0.mp c13
      refine lv_iconst (v := -1) hx hb dX7_mend_16 (by decide) ?_
      exact rwi hx hb hr hlocks dX7_mend_17 hW hS (xM_same hM hp (by rw [← epp, ← eπ]; exact if_neg (by rw [c13]; decide)))

set_option maxHeartbeats 4000000 in
set_option maxRecDepth 100000 in
theorem c_X7_begin (l : Launch) (D : va_G) (cy : Nat → ClassId) (z0 : Nat) (ad : Nat → Nat) (V : Nat → Option va_E) (c0 n k P K : Nat) (ce : Int32) (ρ : RuT) (pl : Nat → PlT) (sn : Nat → SnT) (hM : isM ad V cy n k P K ce ρ pl sn) (hG : gdX c0 n k P K ρ pl sn) (pi : Int32) : Met l yX7_begin [Cond.code yX7_begin cX7_begin 2 (some .int)] { frames := 2, cells := 0, slots := 0, locals := 43 } (WP [.ref (ad (2000)), .int (pi)] D cy z0 ad V) (va_Qi (fun r u => r = (xPl P pl pi (plBegin)).1 ∧ u.1 = ad ∧ isM ad u.2 cy n k P K ce ρ (xPl P pl pi (plBegin)).2 sn ∧ ∀ L, L < 2000 → u.2 L = V L) (WB D z0) (AA z0)) 0 0 (AA z0) := by
  refine met_of (by decide) (Nat.le_of_ble_eq_true rfl) (fun p e s m below meth c hx hb hr hml hown hlocks hnm hK hz hW ls hl => ?_)
  have hown : s.vm.findClass RX7 = some m.cls := hown
  have hl : lv_has ls 2 [(0, .ref (ad (2000))), (1, .int (pi))] := hl
  have hS : va_S (AA z0) s.heap s.heap [] := va_S.rf
  obtain ⟨ak, al, ab, aw, av, mem, kpt, fgt, cha, cos, fnd, isb, bat, kno, oob, ome, onu, oke, ksc, kme, kob, was, wwa, ⟨h2000, h2002, h2003, h2004, h2005, h2006, h2008, h2009, h2010, h2011, h2012, h2013, h2014, h2015, h2016, h2017, h2018, h2019, h2020, h2023, h2024, h2025, h2026, h2027⟩, ⟨hru, hlv⟩, hrp, hrs⟩ := id hM
  obtain ⟨hO, hkb, hgd⟩ := id hG
  obtain ⟨hn40, hk, hP1, hP4, hK20, hOp, hOs⟩ := id hO
  have hk12 := hk.1
  refine lv_aload_n hx hb dX7_begin_0 rfl (lv_at hl 0 rfl) ?_
  refine lv_iload_n hx hb dX7_begin_1 rfl (lv_at hl 1 rfl) ?_
  refine vp_callSi (va_Run.run (va_runV (As := [.int (pi)]) (rest := []) ⟨hx, hb, hml, hown, hK.1.use _⟩ (c_X7_isPlan l D cy z0 ad V n k P K ce h2000  (by omega) pi) (k_X7_X7_isPlan hK.1 rfl rfl ⟨Nat.le_of_ble_eq_true rfl, Nat.le_of_ble_eq_true rfl⟩) (preV hK hz hW h2000 rfl) rfl rfl hl.1 rfl (lv_room (Nat.le_of_ble_eq_true rfl)) dX7_begin_2 ⟨Nat.le_of_ble_eq_true rfl, Nat.le_of_ble_eq_true rfl⟩)) (fun r2 h2 => ?_)
  have h2 : r2 = b2i (hasB P pi) := h2
  subst h2
  refine lv_if_ne (tgt := 10) hx hb dX7_begin_5 (by decide) (fun c5 => ?_) (fun c5 => ?_)
  · skip
    have c5 := b2i_1.mp c5
    have hp : hasB P pi = true := c5
    obtain ⟨epi, hpp⟩ := hasB_of hp (by omega)
    obtain ⟨pp, epp⟩ : ∃ y, y = pi.toNatClampNeg := ⟨_, rfl⟩
    rw [← epp] at epi hpp
    have hPq := hrp.1 pp hpp
    have hgp := hgd pp hpp
    obtain ⟨π, eπ⟩ : ∃ π, π = pl pp := ⟨_, rfl⟩
    rw [← eπ] at hPq hgp
    obtain ⟨hvw, hkp, hfg, ech, eco, efo, ebb, ebt, ekn, hhi⟩ := id hPq
    have hM0 := hgp.ok
    obtain ⟨hZ, hb60, hnx, hkn, hbk, hOk⟩ := id hgp.1
    have hq10_1 : (pi) = (nI pp) := epi
    rw [hq10_1] at hl
    refine lv_aload_n hx hb dX7_begin_10 rfl (lv_at hl 0 rfl) ?_
    refine g_X7_X7_isBatch hx hb hown hK hW h2000 dX7_begin_11 ?_
    refine lv_iload_n hx hb dX7_begin_14 rfl (lv_at hl 1 rfl) ?_
    refine w_zald hx hb hK hW h2014 (j := pp) (rfl) (by omega) (by omega) dX7_begin_15 ?_
    refine asi (y := b2i (pBb π)) (by rw [ebb]) ?_
    refine lv_if_eq (tgt := 22) hx hb dX7_begin_16 (by decide) (fun c16 => ?_) (fun c16 => ?_)
    · skip
      have c16 := b2i_0.mp c16
      refine lv_aload_n hx hb dX7_begin_22 rfl (lv_at hl 0 rfl) ?_
      refine g_X7_X7_isBatch hx hb hown hK hW h2000 dX7_begin_23 ?_
      refine lv_iload_n hx hb dX7_begin_26 rfl (lv_at hl 1 rfl) ?_
      refine lv_iconst (v := nI 1) hx hb dX7_begin_27 (by decide) ?_
      refine asi (y := b2i true) (by decide) ?_
      refine w_zast hx hb hK hW hS h2014 (j := pp) (rfl) (by omega) (by omega) (b2i_v) dX7_begin_28 (fun H locs hW hS => ?_)
      obtain ⟨V1, eV1⟩ : ∃ x9, x9 = va_up V (2014) (some (.inl (cy 2, 4, .inl (upd (fun r => b2i (isb r)) pp (b2i true))))) := ⟨_, rfl⟩
      rw [← eV1] at hW
      have h2000 : V1 (2000) = some (.inr (7, [.int (nI n), .int (nI k), .ref (ad (2002)), .ref (ad (2003)), .ref (ad (2004)), .ref (ad (2005)), .ref (ad (2006)), .int (nI P), .ref (ad (2008)), .ref (ad (2009)), .ref (ad (2010)), .ref (ad (2011)), .ref (ad (2012)), .ref (ad (2013)), .ref (ad (2014)), .ref (ad (2015)), .ref (ad (2016)), .ref (ad (2017)), .ref (ad (2018)), .ref (ad (2019)), .ref (ad (2020)), .int (ce), .int (nI K), .ref (ad (2023)), .ref (ad (2024)), .ref (ad (2025)), .ref (ad (2026)), .ref (ad (2027))])) := by rw [eV1, va_up_ne _ _ (by omega)]; exact h2000
      have h2002 : V1 (2002) = some (.inl (cy 0, 12, .inl ak)) := by rw [eV1, va_up_ne _ _ (by omega)]; exact h2002
      have h2003 : V1 (2003) = some (.inl (cy 0, 12, .inl al)) := by rw [eV1, va_up_ne _ _ (by omega)]; exact h2003
      have h2004 : V1 (2004) = some (.inl (cy 0, 12, .inl ab)) := by rw [eV1, va_up_ne _ _ (by omega)]; exact h2004
      have h2005 : V1 (2005) = some (.inl (cy 0, 12, .inl aw)) := by rw [eV1, va_up_ne _ _ (by omega)]; exact h2005
      have h2006 : V1 (2006) = some (.inl (cy 0, 12, .inl av)) := by rw [eV1, va_up_ne _ _ (by omega)]; exact h2006
      have h2008 : V1 (2008) = some (.inl (cy 0, 640, .inl mem)) := by rw [eV1, va_up_ne _ _ (by omega)]; exact h2008
      have h2009 : V1 (2009) = some (.inl (cy 1, 48, .inr (.inl kpt))) := by rw [eV1, va_up_ne _ _ (by omega)]; exact h2009
      have h2010 : V1 (2010) = some (.inl (cy 2, 48, .inl (fun r => b2i (fgt r)))) := by rw [eV1, va_up_ne _ _ (by omega)]; exact h2010
      have h2011 : V1 (2011) = some (.inl (cy 0, 4, .inl cha)) := by rw [eV1, va_up_ne _ _ (by omega)]; exact h2011
      have h2012 : V1 (2012) = some (.inl (cy 0, 4, .inl cos)) := by rw [eV1, va_up_ne _ _ (by omega)]; exact h2012
      have h2013 : V1 (2013) = some (.inl (cy 0, 4, .inl fnd)) := by rw [eV1, va_up_ne _ _ (by omega)]; exact h2013
      have h2015 : V1 (2015) = some (.inl (cy 0, 4, .inl bat)) := by rw [eV1, va_up_ne _ _ (by omega)]; exact h2015
      have h2016 : V1 (2016) = some (.inl (cy 0, 4, .inl kno)) := by rw [eV1, va_up_ne _ _ (by omega)]; exact h2016
      have h2017 : V1 (2017) = some (.inl (cy 0, 240, .inl oob)) := by rw [eV1, va_up_ne _ _ (by omega)]; exact h2017
      have h2018 : V1 (2018) = some (.inl (cy 0, 240, .inl ome)) := by rw [eV1, va_up_ne _ _ (by omega)]; exact h2018
      have h2019 : V1 (2019) = some (.inl (cy 0, 240, .inl onu)) := by rw [eV1, va_up_ne _ _ (by omega)]; exact h2019
      have h2020 : V1 (2020) = some (.inl (cy 1, 2880, .inr (.inl oke))) := by rw [eV1, va_up_ne _ _ (by omega)]; exact h2020
      have h2023 : V1 (2023) = some (.inl (cy 1, 60, .inr (.inl ksc))) := by rw [eV1, va_up_ne _ _ (by omega)]; exact h2023
      have h2024 : V1 (2024) = some (.inl (cy 0, 3200, .inl kme)) := by rw [eV1, va_up_ne _ _ (by omega)]; exact h2024
      have h2025 : V1 (2025) = some (.inl (cy 0, 20, .inl kob)) := by rw [eV1, va_up_ne _ _ (by omega)]; exact h2025
      have h2026 : V1 (2026) = some (.inl (cy 0, 160, .inl was)) := by rw [eV1, va_up_ne _ _ (by omega)]; exact h2026
      have h2027 : V1 (2027) = some (.inl (cy 1, 12, .inr (.inl wwa))) := by rw [eV1, va_up_ne _ _ (by omega)]; exact h2027
      have h2014 : V1 (2014) = some (.inl (cy 2, 4, .inl (upd (fun r => b2i (isb r)) pp (b2i true)))) := by rw [eV1, va_up_self]
      refine lv_aload_n hx hb dX7_begin_29 rfl (lv_at hl 0 rfl) ?_
      refine g_X7_X7_batch hx hb hown hK hW h2000 dX7_begin_30 ?_
      refine lv_iload_n hx hb dX7_begin_33 rfl (lv_at hl 1 rfl) ?_
      refine lv_iconst (v := nI 0) hx hb dX7_begin_34 (by decide) ?_
      refine w_iast hx hb hK hW hS h2015 (j := pp) (rfl) (by omega) (by omega) dX7_begin_35 (fun H locs hW hS => ?_)
      obtain ⟨V2, eV2⟩ : ∃ x9, x9 = va_up V1 (2015) (some (.inl (cy 0, 4, .inl (upd bat pp (nI 0))))) := ⟨_, rfl⟩
      rw [← eV2] at hW
      have h2000 : V2 (2000) = some (.inr (7, [.int (nI n), .int (nI k), .ref (ad (2002)), .ref (ad (2003)), .ref (ad (2004)), .ref (ad (2005)), .ref (ad (2006)), .int (nI P), .ref (ad (2008)), .ref (ad (2009)), .ref (ad (2010)), .ref (ad (2011)), .ref (ad (2012)), .ref (ad (2013)), .ref (ad (2014)), .ref (ad (2015)), .ref (ad (2016)), .ref (ad (2017)), .ref (ad (2018)), .ref (ad (2019)), .ref (ad (2020)), .int (ce), .int (nI K), .ref (ad (2023)), .ref (ad (2024)), .ref (ad (2025)), .ref (ad (2026)), .ref (ad (2027))])) := by rw [eV2, va_up_ne _ _ (by omega)]; exact h2000
      have h2002 : V2 (2002) = some (.inl (cy 0, 12, .inl ak)) := by rw [eV2, va_up_ne _ _ (by omega)]; exact h2002
      have h2003 : V2 (2003) = some (.inl (cy 0, 12, .inl al)) := by rw [eV2, va_up_ne _ _ (by omega)]; exact h2003
      have h2004 : V2 (2004) = some (.inl (cy 0, 12, .inl ab)) := by rw [eV2, va_up_ne _ _ (by omega)]; exact h2004
      have h2005 : V2 (2005) = some (.inl (cy 0, 12, .inl aw)) := by rw [eV2, va_up_ne _ _ (by omega)]; exact h2005
      have h2006 : V2 (2006) = some (.inl (cy 0, 12, .inl av)) := by rw [eV2, va_up_ne _ _ (by omega)]; exact h2006
      have h2008 : V2 (2008) = some (.inl (cy 0, 640, .inl mem)) := by rw [eV2, va_up_ne _ _ (by omega)]; exact h2008
      have h2009 : V2 (2009) = some (.inl (cy 1, 48, .inr (.inl kpt))) := by rw [eV2, va_up_ne _ _ (by omega)]; exact h2009
      have h2010 : V2 (2010) = some (.inl (cy 2, 48, .inl (fun r => b2i (fgt r)))) := by rw [eV2, va_up_ne _ _ (by omega)]; exact h2010
      have h2011 : V2 (2011) = some (.inl (cy 0, 4, .inl cha)) := by rw [eV2, va_up_ne _ _ (by omega)]; exact h2011
      have h2012 : V2 (2012) = some (.inl (cy 0, 4, .inl cos)) := by rw [eV2, va_up_ne _ _ (by omega)]; exact h2012
      have h2013 : V2 (2013) = some (.inl (cy 0, 4, .inl fnd)) := by rw [eV2, va_up_ne _ _ (by omega)]; exact h2013
      have h2016 : V2 (2016) = some (.inl (cy 0, 4, .inl kno)) := by rw [eV2, va_up_ne _ _ (by omega)]; exact h2016
      have h2017 : V2 (2017) = some (.inl (cy 0, 240, .inl oob)) := by rw [eV2, va_up_ne _ _ (by omega)]; exact h2017
      have h2018 : V2 (2018) = some (.inl (cy 0, 240, .inl ome)) := by rw [eV2, va_up_ne _ _ (by omega)]; exact h2018
      have h2019 : V2 (2019) = some (.inl (cy 0, 240, .inl onu)) := by rw [eV2, va_up_ne _ _ (by omega)]; exact h2019
      have h2020 : V2 (2020) = some (.inl (cy 1, 2880, .inr (.inl oke))) := by rw [eV2, va_up_ne _ _ (by omega)]; exact h2020
      have h2023 : V2 (2023) = some (.inl (cy 1, 60, .inr (.inl ksc))) := by rw [eV2, va_up_ne _ _ (by omega)]; exact h2023
      have h2024 : V2 (2024) = some (.inl (cy 0, 3200, .inl kme)) := by rw [eV2, va_up_ne _ _ (by omega)]; exact h2024
      have h2025 : V2 (2025) = some (.inl (cy 0, 20, .inl kob)) := by rw [eV2, va_up_ne _ _ (by omega)]; exact h2025
      have h2026 : V2 (2026) = some (.inl (cy 0, 160, .inl was)) := by rw [eV2, va_up_ne _ _ (by omega)]; exact h2026
      have h2027 : V2 (2027) = some (.inl (cy 1, 12, .inr (.inl wwa))) := by rw [eV2, va_up_ne _ _ (by omega)]; exact h2027
      have h2014 : V2 (2014) = some (.inl (cy 2, 4, .inl (upd (fun r => b2i (isb r)) pp (b2i true)))) := by rw [eV2, va_up_ne _ _ (by omega)]; exact h2014
      have h2015 : V2 (2015) = some (.inl (cy 0, 4, .inl (upd bat pp (nI 0)))) := by rw [eV2, va_up_self]
      refine lv_aload_n hx hb dX7_begin_36 rfl (lv_at hl 0 rfl) ?_
      refine g_X7_X7_known hx hb hown hK hW h2000 dX7_begin_37 ?_
      refine lv_iload_n hx hb dX7_begin_40 rfl (lv_at hl 1 rfl) ?_
      refine w_iald hx hb hK hW h2016 (j := pp) (rfl) (by omega) (by omega) dX7_begin_41 ?_
      refine asi (y := nI (pKn π)) (ekn) ?_
      exact rwi hx hb hr hlocks dX7_begin_42 hW hS (by
      rw [upB] at h2014
      refine xM_new (π := (pM π, pK π, pF π, pCh π, pCo π, pFo π, true, 0, pHo π, pHm π, pHv π, pHs π, pNx π, pKn π)) hp (by rw [← epp, ← eπ]; exact if_neg (by rw [c16]; decide)) rfl ?_ (fun L hL => by show V2 L = _; rw [eV2, va_up_ne _ _ (by omega), eV1, va_up_ne _ _ (by omega)])
      rw [← epp]
      exact ⟨_, _, _, _, _, _, _, _, _, _, _, _, _, _, _, _, _, _, _, _, _, _, _, ⟨h2000, h2002, h2003, h2004, h2005, h2006, h2008, h2009, h2010, h2011, h2012, h2013, h2014, h2015, h2016, h2017, h2018, h2019, h2020, h2023, h2024, h2025, h2026, h2027⟩, ⟨hru, hlv⟩, hrp.up hpp hk12 (fun q hq => (hOp q hq).2.2.2.1) (⟨hvw, hkp, hfg, ech, eco, efo, va_up_self _ _ _, pk_us, ekn, hhi⟩) (fun _ _ => rfl) (fun _ _ => rfl) (fun _ _ => rfl) (fun _ _ => rfl) (fun _ _ => rfl) (fun _ _ => rfl) (fun j hj => va_up_ne _ _ hj) (fun j hj => pk_un (by omega)) (fun _ _ => rfl) (fun _ _ => rfl) (fun _ _ => rfl) (fun _ _ => rfl) (fun _ _ => rfl), hrs⟩)
    · skip
      have c16 := b2i_1.mp c16
      refine lv_bipush (v := -3) hx hb dX7_begin_19 (by decide) ?_
      exact rwi hx hb hr hlocks dX7_begin_21 hW hS (xM_same hM hp (by rw [← epp, ← eπ]; exact if_pos c16))
  · skip
    have c5 := b2i_0.mp c5
    have hp : ¬ hasB P pi = true := by rw [c5]; decide
    refine lv_iconst (v := -1) hx hb dX7_begin_8 (by decide) ?_
    exact rwi hx hb hr hlocks dX7_begin_9 hW hS (xM_none hM hp)

set_option maxHeartbeats 4000000 in
set_option maxRecDepth 100000 in
theorem c_X7_takeBackM (l : Launch) (D : va_G) (cy : Nat → ClassId) (z0 : Nat) (ad : Nat → Nat) (V : Nat → Option va_E) (c0 n k P K : Nat) (ce : Int32) (ρ : RuT) (pl : Nat → PlT) (sn : Nat → SnT) (hM : isM ad V cy n k P K ce ρ pl sn) (hG : gdX c0 n k P K ρ pl sn) (pp : Nat) (hpp : pp < P) (hk0 : 0 < pKn (pl pp)) (hb0 : pBb (pl pp) = true → 0 < pBn (pl pp)) : Met l yX7_takeBack [Cond.code yX7_takeBack cX7_takeBack 4 none] { frames := 3, cells := 0, slots := 0, locals := 79 } (WP [.ref (ad (2000)), .int (nI pp)] D cy z0 ad V) (va_Qv (fun u => u.1 = ad ∧ isM ad u.2 cy n k P K ce ρ (va_up pl pp (tbP n k ρ (pl pp))) sn ∧ ∀ L, L < 2000 → u.2 L = V L) (WB D z0) (AA z0)) 0 0 (AA z0) := by
  refine met_of (by decide) (Nat.le_of_ble_eq_true rfl) (fun p e s m below meth c hx hb hr hml hown hlocks hnm hK hz hW ls hl => ?_)
  have hown : s.vm.findClass RX7 = some m.cls := hown
  have hl : lv_has ls 4 [(0, .ref (ad (2000))), (1, .int (nI pp))] := hl
  have hS : va_S (AA z0) s.heap s.heap [] := va_S.rf
  obtain ⟨ak, al, ab, aw, av, mem, kpt, fgt, cha, cos, fnd, isb, bat, kno, oob, ome, onu, oke, ksc, kme, kob, was, wwa, ⟨h2000, h2002, h2003, h2004, h2005, h2006, h2008, h2009, h2010, h2011, h2012, h2013, h2014, h2015, h2016, h2017, h2018, h2019, h2020, h2023, h2024, h2025, h2026, h2027⟩, ⟨hru, hlv⟩, hrp, hrs⟩ := id hM
  obtain ⟨hO, hkb, hgd⟩ := id hG
  obtain ⟨hn40, hk, hP1, hP4, hK20, hOp, hOs⟩ := id hO
  have hk12 := hk.1
  have hPq := hrp.1 pp hpp
  have hgp := hgd pp hpp
  obtain ⟨π, eπ⟩ : ∃ π, π = pl pp := ⟨_, rfl⟩
  rw [← eπ] at hPq hgp hk0 hb0
  obtain ⟨hvw, hkp, hfg, ech, eco, efo, ebb, ebt, ekn, hhi⟩ := id hPq
  have hM0 := hgp.ok
  obtain ⟨hZ, hb60, hnx, hkn, hbk, hOk⟩ := id hgp.1
  obtain ⟨oo, mm, hoo, hm3, a3, a4⟩ := hOk 0 hk0
  obtain ⟨g1, g2, g3, g4⟩ := hhi 0 hk0
  rw [show pKn π - 1 - 0 = pKn π - 1 by omega] at g1 g2 g3
  rw [rix_0 hnx] at a3 a4 g1 g2 g3
  have eT : tbM n (pHo π) (pHm π) (pHv π) (pM π) (nxD (pNx π)) = putM n (pM π) mm oo (pHv π (nxD (pNx π))) := by unfold tbM; rw [a3, a4, nI_clamp (by omega), nI_clamp (by omega)]
  have hM3 : okM n (putM n (pM π) mm oo (pHv π (nxD (pNx π)))) := by rw [← eT, ← rix_0 hnx]; exact hgp.2.2.1 1 hk0
  have hbq : (if pBb π = true then pBn π else 0) ≤ 60 := by split <;> omega
  have o2000 := h2000
  have o2002 := h2002
  have o2003 := h2003
  have o2004 := h2004
  have o2005 := h2005
  have o2006 := h2006
  have o2008 := h2008
  have o2009 := h2009
  have o2010 := h2010
  have o2011 := h2011
  have o2012 := h2012
  have o2013 := h2013
  have o2014 := h2014
  have o2015 := h2015
  have o2016 := h2016
  have o2017 := h2017
  have o2018 := h2018
  have o2019 := h2019
  have o2020 := h2020
  have o2023 := h2023
  have o2024 := h2024
  have o2025 := h2025
  have o2026 := h2026
  have o2027 := h2027
  refine lv_aload_n hx hb dX7_takeBack_0 rfl (lv_at hl 0 rfl) ?_
  refine lv_iload_n hx hb dX7_takeBack_1 rfl (lv_at hl 1 rfl) ?_
  refine cv (va_runV (As := [.int (nI pp)]) (rest := []) ⟨hx, hb, hml, hown, hK.1.use _⟩ (c_X7_remember l D cy z0 ad V n k P K ce h2000 ak h2002 al h2003 ab h2004 aw h2005 mem h2008 was h2026 wwa h2027 hn40 pp (by omega) ρ hk hkb hru (pM π) hvw hM0) (k_X7_X7_remember hK.1 rfl rfl ⟨Nat.le_of_ble_eq_true rfl, Nat.le_of_ble_eq_true rfl⟩) (preV hK hz hW h2000 rfl) rfl rfl hl.1 rfl (lv_room (Nat.le_of_ble_eq_true rfl)) dX7_takeBack_2 ⟨Nat.le_of_ble_eq_true rfl, Nat.le_of_ble_eq_true rfl⟩) hS (fun ad2 Vc2 H locs h2 hW hS => ?_)
  obtain ⟨e2, gex, gfr⟩ := h2
  obtain rfl : ad = ad2 := e2.symm
  obtain ⟨was2, wwa2, h2026, h2027, hwa, hww⟩ := gex
  have hfr : ∀ L, (¬ L = 2026 ∧ ¬ L = 2027) → Vc2 L = V L := fun L hL => gfr L (by omega) (by omega)
  have h2000 := (hfr 2000 (by omega)).trans o2000
  have h2002 := (hfr 2002 (by omega)).trans o2002
  have h2003 := (hfr 2003 (by omega)).trans o2003
  have h2004 := (hfr 2004 (by omega)).trans o2004
  have h2005 := (hfr 2005 (by omega)).trans o2005
  have h2006 := (hfr 2006 (by omega)).trans o2006
  have h2008 := (hfr 2008 (by omega)).trans o2008
  have h2009 := (hfr 2009 (by omega)).trans o2009
  have h2010 := (hfr 2010 (by omega)).trans o2010
  have h2011 := (hfr 2011 (by omega)).trans o2011
  have h2012 := (hfr 2012 (by omega)).trans o2012
  have h2013 := (hfr 2013 (by omega)).trans o2013
  have h2014 := (hfr 2014 (by omega)).trans o2014
  have h2015 := (hfr 2015 (by omega)).trans o2015
  have h2016 := (hfr 2016 (by omega)).trans o2016
  have h2017 := (hfr 2017 (by omega)).trans o2017
  have h2018 := (hfr 2018 (by omega)).trans o2018
  have h2019 := (hfr 2019 (by omega)).trans o2019
  have h2020 := (hfr 2020 (by omega)).trans o2020
  have h2023 := (hfr 2023 (by omega)).trans o2023
  have h2024 := (hfr 2024 (by omega)).trans o2024
  have h2025 := (hfr 2025 (by omega)).trans o2025
  refine lv_aload_n hx hb dX7_takeBack_5 rfl (lv_at hl 0 rfl) ?_
  refine g_X7_X7_known hx hb hown hK hW h2000 dX7_takeBack_6 ?_
  refine lv_iload_n hx hb dX7_takeBack_9 rfl (lv_at hl 1 rfl) ?_
  refine lv_dup2_11 hx hb dX7_takeBack_10 rfl rfl ?_
  refine w_iald hx hb hK hW h2016 (j := pp) (rfl) (by omega) (by omega) dX7_takeBack_11 ?_
  refine asi (y := nI (pKn π)) (ekn) ?_
  refine lv_iconst (v := nI 1) hx hb dX7_takeBack_12 (by decide) ?_
  refine lv_isub hx hb dX7_takeBack_13 ?_
  refine asi (y := nI ((pKn π) - 1)) (pk_sub (by omega)) ?_
  refine w_iast hx hb hK hW hS h2016 (j := pp) (rfl) (by omega) (by omega) dX7_takeBack_14 (fun H locs hW hS => ?_)
  obtain ⟨V1, eV1⟩ : ∃ x9, x9 = va_up Vc2 (2016) (some (.inl (cy 0, 4, .inl (upd kno pp (nI ((pKn π) - 1)))))) := ⟨_, rfl⟩
  rw [← eV1] at hW
  have h2000 : V1 (2000) = some (.inr (7, [.int (nI n), .int (nI k), .ref (ad (2002)), .ref (ad (2003)), .ref (ad (2004)), .ref (ad (2005)), .ref (ad (2006)), .int (nI P), .ref (ad (2008)), .ref (ad (2009)), .ref (ad (2010)), .ref (ad (2011)), .ref (ad (2012)), .ref (ad (2013)), .ref (ad (2014)), .ref (ad (2015)), .ref (ad (2016)), .ref (ad (2017)), .ref (ad (2018)), .ref (ad (2019)), .ref (ad (2020)), .int (ce), .int (nI K), .ref (ad (2023)), .ref (ad (2024)), .ref (ad (2025)), .ref (ad (2026)), .ref (ad (2027))])) := by rw [eV1, va_up_ne _ _ (by omega)]; exact h2000
  have h2002 : V1 (2002) = some (.inl (cy 0, 12, .inl ak)) := by rw [eV1, va_up_ne _ _ (by omega)]; exact h2002
  have h2003 : V1 (2003) = some (.inl (cy 0, 12, .inl al)) := by rw [eV1, va_up_ne _ _ (by omega)]; exact h2003
  have h2004 : V1 (2004) = some (.inl (cy 0, 12, .inl ab)) := by rw [eV1, va_up_ne _ _ (by omega)]; exact h2004
  have h2005 : V1 (2005) = some (.inl (cy 0, 12, .inl aw)) := by rw [eV1, va_up_ne _ _ (by omega)]; exact h2005
  have h2006 : V1 (2006) = some (.inl (cy 0, 12, .inl av)) := by rw [eV1, va_up_ne _ _ (by omega)]; exact h2006
  have h2008 : V1 (2008) = some (.inl (cy 0, 640, .inl mem)) := by rw [eV1, va_up_ne _ _ (by omega)]; exact h2008
  have h2009 : V1 (2009) = some (.inl (cy 1, 48, .inr (.inl kpt))) := by rw [eV1, va_up_ne _ _ (by omega)]; exact h2009
  have h2010 : V1 (2010) = some (.inl (cy 2, 48, .inl (fun r => b2i (fgt r)))) := by rw [eV1, va_up_ne _ _ (by omega)]; exact h2010
  have h2011 : V1 (2011) = some (.inl (cy 0, 4, .inl cha)) := by rw [eV1, va_up_ne _ _ (by omega)]; exact h2011
  have h2012 : V1 (2012) = some (.inl (cy 0, 4, .inl cos)) := by rw [eV1, va_up_ne _ _ (by omega)]; exact h2012
  have h2013 : V1 (2013) = some (.inl (cy 0, 4, .inl fnd)) := by rw [eV1, va_up_ne _ _ (by omega)]; exact h2013
  have h2014 : V1 (2014) = some (.inl (cy 2, 4, .inl (fun r => b2i (isb r)))) := by rw [eV1, va_up_ne _ _ (by omega)]; exact h2014
  have h2015 : V1 (2015) = some (.inl (cy 0, 4, .inl bat)) := by rw [eV1, va_up_ne _ _ (by omega)]; exact h2015
  have h2017 : V1 (2017) = some (.inl (cy 0, 240, .inl oob)) := by rw [eV1, va_up_ne _ _ (by omega)]; exact h2017
  have h2018 : V1 (2018) = some (.inl (cy 0, 240, .inl ome)) := by rw [eV1, va_up_ne _ _ (by omega)]; exact h2018
  have h2019 : V1 (2019) = some (.inl (cy 0, 240, .inl onu)) := by rw [eV1, va_up_ne _ _ (by omega)]; exact h2019
  have h2020 : V1 (2020) = some (.inl (cy 1, 2880, .inr (.inl oke))) := by rw [eV1, va_up_ne _ _ (by omega)]; exact h2020
  have h2023 : V1 (2023) = some (.inl (cy 1, 60, .inr (.inl ksc))) := by rw [eV1, va_up_ne _ _ (by omega)]; exact h2023
  have h2024 : V1 (2024) = some (.inl (cy 0, 3200, .inl kme)) := by rw [eV1, va_up_ne _ _ (by omega)]; exact h2024
  have h2025 : V1 (2025) = some (.inl (cy 0, 20, .inl kob)) := by rw [eV1, va_up_ne _ _ (by omega)]; exact h2025
  have h2026 : V1 (2026) = some (.inl (cy 0, 160, .inl was2)) := by rw [eV1, va_up_ne _ _ (by omega)]; exact h2026
  have h2027 : V1 (2027) = some (.inl (cy 1, 12, .inr (.inl wwa2))) := by rw [eV1, va_up_ne _ _ (by omega)]; exact h2027
  have h2016 : V1 (2016) = some (.inl (cy 0, 4, .inl (upd kno pp (nI ((pKn π) - 1))))) := by rw [eV1, va_up_self]
  refine lv_aload_n hx hb dX7_takeBack_15 rfl (lv_at hl 0 rfl) ?_
  refine g_X7_X7_batch hx hb hown hK hW h2000 dX7_takeBack_16 ?_
  refine lv_iload_n hx hb dX7_takeBack_19 rfl (lv_at hl 1 rfl) ?_
  refine lv_dup2_11 hx hb dX7_takeBack_20 rfl rfl ?_
  refine w_iald hx hb hK hW h2015 (j := pp) (rfl) (by omega) (by omega) dX7_takeBack_21 ?_
  refine asi (y := nI (if pBb π = true then pBn π else 0)) (ebt) ?_
  refine jl (pcj := 36) (st := [.int (nI (if isb pp = true then 1 else 0)), .int (nI (if pBb π = true then pBn π else 0)), .int (nI pp), .ref (ad (2015))]) (nL := 4) (lv := [(0, .ref (ad (2000))), (1, .int (nI pp))]) (fun KJ => ?_) (fun ls hl => ?_)
  · skip
    refine lv_aload_n hx hb dX7_takeBack_22 rfl (lv_at hl 0 rfl) ?_
    refine g_X7_X7_isBatch hx hb hown hK hW h2000 dX7_takeBack_23 ?_
    refine lv_iload_n hx hb dX7_takeBack_26 rfl (lv_at hl 1 rfl) ?_
    refine w_zald hx hb hK hW h2014 (j := pp) (rfl) (by omega) (by omega) dX7_takeBack_27 ?_
    refine lv_if_eq (tgt := 35) hx hb dX7_takeBack_28 (by decide) (fun c28 => ?_) (fun c28 => ?_)
    · skip
      have c28 := b2i_0.mp c28
      refine lv_iconst (v := nI 0) hx hb dX7_takeBack_35 (by decide) ?_
      refine asi (y := nI (if isb pp = true then 1 else 0)) (by simp [c28]) ?_
      exact KJ ls (lv_sub hl [0, 1] rfl)
    · skip
      have c28 := b2i_1.mp c28
      refine lv_iconst (v := nI 1) hx hb dX7_takeBack_31 (by decide) ?_
      refine lv_goto (tgt := 36) hx hb dX7_takeBack_32 (by decide) ?_
      refine asi (y := nI (if isb pp = true then 1 else 0)) (by simp [c28]) ?_
      exact KJ ls (lv_sub hl [0, 1] rfl)
  · skip
    refine lv_isub hx hb dX7_takeBack_36 ?_
    refine asi (y := nI (if isb pp = true then (if pBb π = true then pBn π else 0) - 1 else (if pBb π = true then pBn π else 0))) (by
      by_cases hi : isb pp = true
      · rw [if_pos hi, if_pos hi]; exact pk_sub (by rw [ebb] at hi; rw [if_pos hi]; exact hb0 hi)
      · rw [if_neg hi, if_neg hi]; exact pk_sub (Nat.zero_le _)) ?_
    refine w_iast hx hb hK hW hS h2015 (j := pp) (rfl) (by omega) (by omega) dX7_takeBack_37 (fun H locs hW hS => ?_)
    obtain ⟨V2, eV2⟩ : ∃ x9, x9 = va_up V1 (2015) (some (.inl (cy 0, 4, .inl (upd bat pp (nI (if isb pp = true then (if pBb π = true then pBn π else 0) - 1 else (if pBb π = true then pBn π else 0))))))) := ⟨_, rfl⟩
    rw [← eV2] at hW
    have h2000 : V2 (2000) = some (.inr (7, [.int (nI n), .int (nI k), .ref (ad (2002)), .ref (ad (2003)), .ref (ad (2004)), .ref (ad (2005)), .ref (ad (2006)), .int (nI P), .ref (ad (2008)), .ref (ad (2009)), .ref (ad (2010)), .ref (ad (2011)), .ref (ad (2012)), .ref (ad (2013)), .ref (ad (2014)), .ref (ad (2015)), .ref (ad (2016)), .ref (ad (2017)), .ref (ad (2018)), .ref (ad (2019)), .ref (ad (2020)), .int (ce), .int (nI K), .ref (ad (2023)), .ref (ad (2024)), .ref (ad (2025)), .ref (ad (2026)), .ref (ad (2027))])) := by rw [eV2, va_up_ne _ _ (by omega)]; exact h2000
    have h2002 : V2 (2002) = some (.inl (cy 0, 12, .inl ak)) := by rw [eV2, va_up_ne _ _ (by omega)]; exact h2002
    have h2003 : V2 (2003) = some (.inl (cy 0, 12, .inl al)) := by rw [eV2, va_up_ne _ _ (by omega)]; exact h2003
    have h2004 : V2 (2004) = some (.inl (cy 0, 12, .inl ab)) := by rw [eV2, va_up_ne _ _ (by omega)]; exact h2004
    have h2005 : V2 (2005) = some (.inl (cy 0, 12, .inl aw)) := by rw [eV2, va_up_ne _ _ (by omega)]; exact h2005
    have h2006 : V2 (2006) = some (.inl (cy 0, 12, .inl av)) := by rw [eV2, va_up_ne _ _ (by omega)]; exact h2006
    have h2008 : V2 (2008) = some (.inl (cy 0, 640, .inl mem)) := by rw [eV2, va_up_ne _ _ (by omega)]; exact h2008
    have h2009 : V2 (2009) = some (.inl (cy 1, 48, .inr (.inl kpt))) := by rw [eV2, va_up_ne _ _ (by omega)]; exact h2009
    have h2010 : V2 (2010) = some (.inl (cy 2, 48, .inl (fun r => b2i (fgt r)))) := by rw [eV2, va_up_ne _ _ (by omega)]; exact h2010
    have h2011 : V2 (2011) = some (.inl (cy 0, 4, .inl cha)) := by rw [eV2, va_up_ne _ _ (by omega)]; exact h2011
    have h2012 : V2 (2012) = some (.inl (cy 0, 4, .inl cos)) := by rw [eV2, va_up_ne _ _ (by omega)]; exact h2012
    have h2013 : V2 (2013) = some (.inl (cy 0, 4, .inl fnd)) := by rw [eV2, va_up_ne _ _ (by omega)]; exact h2013
    have h2014 : V2 (2014) = some (.inl (cy 2, 4, .inl (fun r => b2i (isb r)))) := by rw [eV2, va_up_ne _ _ (by omega)]; exact h2014
    have h2017 : V2 (2017) = some (.inl (cy 0, 240, .inl oob)) := by rw [eV2, va_up_ne _ _ (by omega)]; exact h2017
    have h2018 : V2 (2018) = some (.inl (cy 0, 240, .inl ome)) := by rw [eV2, va_up_ne _ _ (by omega)]; exact h2018
    have h2019 : V2 (2019) = some (.inl (cy 0, 240, .inl onu)) := by rw [eV2, va_up_ne _ _ (by omega)]; exact h2019
    have h2020 : V2 (2020) = some (.inl (cy 1, 2880, .inr (.inl oke))) := by rw [eV2, va_up_ne _ _ (by omega)]; exact h2020
    have h2023 : V2 (2023) = some (.inl (cy 1, 60, .inr (.inl ksc))) := by rw [eV2, va_up_ne _ _ (by omega)]; exact h2023
    have h2024 : V2 (2024) = some (.inl (cy 0, 3200, .inl kme)) := by rw [eV2, va_up_ne _ _ (by omega)]; exact h2024
    have h2025 : V2 (2025) = some (.inl (cy 0, 20, .inl kob)) := by rw [eV2, va_up_ne _ _ (by omega)]; exact h2025
    have h2026 : V2 (2026) = some (.inl (cy 0, 160, .inl was2)) := by rw [eV2, va_up_ne _ _ (by omega)]; exact h2026
    have h2027 : V2 (2027) = some (.inl (cy 1, 12, .inr (.inl wwa2))) := by rw [eV2, va_up_ne _ _ (by omega)]; exact h2027
    have h2016 : V2 (2016) = some (.inl (cy 0, 4, .inl (upd kno pp (nI ((pKn π) - 1))))) := by rw [eV2, va_up_ne _ _ (by omega)]; exact h2016
    have h2015 : V2 (2015) = some (.inl (cy 0, 4, .inl (upd bat pp (nI (if isb pp = true then (if pBb π = true then pBn π else 0) - 1 else (if pBb π = true then pBn π else 0)))))) := by rw [eV2, va_up_self]
    refine lv_bipush (v := nI 60) hx hb dX7_takeBack_38 (by decide) ?_
    refine lv_iload_n hx hb dX7_takeBack_40 rfl (lv_at hl 1 rfl) ?_
    refine lv_imul hx hb dX7_takeBack_41 ?_
    refine asi (y := nI (60 * pp)) (pk_mul _ _) ?_
    refine lv_aload_n hx hb dX7_takeBack_42 rfl (lv_at hl 0 rfl) ?_
    refine g_X7_X7_known hx hb hown hK hW h2000 dX7_takeBack_43 ?_
    refine lv_iload_n hx hb dX7_takeBack_46 rfl (lv_at hl 1 rfl) ?_
    refine w_iald hx hb hK hW h2016 (j := pp) (rfl) (by omega) (by omega) dX7_takeBack_47 ?_
    refine asi (y := nI (pKn π - 1)) (pk_us) ?_
    refine lv_iadd hx hb dX7_takeBack_48 ?_
    refine asi (y := nI ((60 * pp) + (pKn π - 1))) (nI_add _ _) ?_
    refine lv_istore_n (lv' := [(2, .int (nI ((60 * pp) + (pKn π - 1)))), (0, .ref (ad (2000))), (1, .int (nI pp))]) hx hb dX7_takeBack_49 rfl hl (by decide) rfl (fun ls hl => ?_)
    refine lv_aload_n hx hb dX7_takeBack_50 rfl (lv_at hl 1 rfl) ?_
    refine lv_iload_n hx hb dX7_takeBack_51 rfl (lv_at hl 2 rfl) ?_
    refine lv_aload_n hx hb dX7_takeBack_52 rfl (lv_at hl 1 rfl) ?_
    refine g_X7_X7_oldObject hx hb hown hK hW h2000 dX7_takeBack_53 ?_
    refine lv_iload_n hx hb dX7_takeBack_56 rfl (lv_at hl 0 rfl) ?_
    refine w_iald hx hb hK hW h2017 (j := (60 * pp) + (pKn π - 1)) (rfl) (by omega) (by omega) dX7_takeBack_57 ?_
    refine asi (y := nI oo) (g1.trans a3) ?_
    refine lv_aload_n hx hb dX7_takeBack_58 rfl (lv_at hl 1 rfl) ?_
    refine g_X7_X7_oldMember hx hb hown hK hW h2000 dX7_takeBack_59 ?_
    refine lv_iload_n hx hb dX7_takeBack_62 rfl (lv_at hl 0 rfl) ?_
    refine w_iald hx hb hK hW h2018 (j := (60 * pp) + (pKn π - 1)) (rfl) (by omega) (by omega) dX7_takeBack_63 ?_
    refine asi (y := nI mm) (g2.trans a4) ?_
    refine lv_aload_n hx hb dX7_takeBack_64 rfl (lv_at hl 1 rfl) ?_
    refine g_X7_X7_oldNumber hx hb hown hK hW h2000 dX7_takeBack_65 ?_
    refine lv_iload_n hx hb dX7_takeBack_68 rfl (lv_at hl 0 rfl) ?_
    refine w_iald hx hb hK hW h2019 (j := (60 * pp) + (pKn π - 1)) (rfl) (by omega) (by omega) dX7_takeBack_69 ?_
    refine asi (y := pHv π (nxD (pNx π))) (g3) ?_
    refine cv (va_runV (As := [.int (nI pp), .int (nI oo), .int (nI mm), .int (pHv π (nxD (pNx π)))]) (rest := []) ⟨hx, hb, hml, hown, hK.1.use _⟩ (c_X7_put l D cy z0 ad V2 n k P K ce h2000 mem h2008 hn40 pp (by omega) (pM π) hvw oo mm (pHv π (nxD (pNx π))) hoo hm3 hM3) (k_X7_X7_put hK.1 rfl rfl ⟨Nat.le_of_ble_eq_true rfl, Nat.le_of_ble_eq_true rfl⟩) (preV hK (Nat.le_trans hz hS.1) hW h2000 rfl) rfl rfl hl.1 rfl (lv_room (Nat.le_of_ble_eq_true rfl)) dX7_takeBack_70 ⟨Nat.le_of_ble_eq_true rfl, Nat.le_of_ble_eq_true rfl⟩) hS (fun ad70 Vc70 H locs h70 hW hS => ?_)
    obtain ⟨e70, gex2, gfr2⟩ := h70
    obtain rfl : ad = ad70 := e70.symm
    obtain ⟨mem2, h2008, hv2, hmo⟩ := gex2
    have h2000 := (gfr2 2000 (by omega)).trans h2000
    have h2002 := (gfr2 2002 (by omega)).trans h2002
    have h2003 := (gfr2 2003 (by omega)).trans h2003
    have h2004 := (gfr2 2004 (by omega)).trans h2004
    have h2005 := (gfr2 2005 (by omega)).trans h2005
    have h2006 := (gfr2 2006 (by omega)).trans h2006
    have h2009 := (gfr2 2009 (by omega)).trans h2009
    have h2010 := (gfr2 2010 (by omega)).trans h2010
    have h2011 := (gfr2 2011 (by omega)).trans h2011
    have h2012 := (gfr2 2012 (by omega)).trans h2012
    have h2013 := (gfr2 2013 (by omega)).trans h2013
    have h2014 := (gfr2 2014 (by omega)).trans h2014
    have h2017 := (gfr2 2017 (by omega)).trans h2017
    have h2018 := (gfr2 2018 (by omega)).trans h2018
    have h2019 := (gfr2 2019 (by omega)).trans h2019
    have h2020 := (gfr2 2020 (by omega)).trans h2020
    have h2023 := (gfr2 2023 (by omega)).trans h2023
    have h2024 := (gfr2 2024 (by omega)).trans h2024
    have h2025 := (gfr2 2025 (by omega)).trans h2025
    have h2026 := (gfr2 2026 (by omega)).trans h2026
    have h2027 := (gfr2 2027 (by omega)).trans h2027
    have h2016 := (gfr2 2016 (by omega)).trans h2016
    have h2015 := (gfr2 2015 (by omega)).trans h2015
    refine lv_iconst (v := nI 0) hx hb dX7_takeBack_73 (by decide) ?_
    refine lv_istore_n (lv' := [(3, .int (nI 0)), (2, .int (nI ((60 * pp) + (pKn π - 1)))), (0, .ref (ad (2000))), (1, .int (nI pp))]) hx hb dX7_takeBack_74 rfl hl (by decide) rfl (fun ls hl => ?_)
    refine wlh (ι := Nat) (fun r => 12 - r) (fun r H locs g => (r ≤ 12) ∧ (∃ X, (X 2000 = some (.inr (7, [.int (nI n), .int (nI k), .ref (ad (2002)), .ref (ad (2003)), .ref (ad (2004)), .ref (ad (2005)), .ref (ad (2006)), .int (nI P), .ref (ad (2008)), .ref (ad (2009)), .ref (ad (2010)), .ref (ad (2011)), .ref (ad (2012)), .ref (ad (2013)), .ref (ad (2014)), .ref (ad (2015)), .ref (ad (2016)), .ref (ad (2017)), .ref (ad (2018)), .ref (ad (2019)), .ref (ad (2020)), .int (ce), .int (nI K), .ref (ad (2023)), .ref (ad (2024)), .ref (ad (2025)), .ref (ad (2026)), .ref (ad (2027))])) ∧ X 2002 = some (.inl (cy 0, 12, .inl ak)) ∧ X 2003 = some (.inl (cy 0, 12, .inl al)) ∧ X 2004 = some (.inl (cy 0, 12, .inl ab)) ∧ X 2005 = some (.inl (cy 0, 12, .inl aw)) ∧ X 2006 = some (.inl (cy 0, 12, .inl av)) ∧ X 2008 = some (.inl (cy 0, 640, .inl mem2)) ∧ X 2010 = some (.inl (cy 2, 48, .inl (fun r => b2i (fgt r)))) ∧ X 2011 = some (.inl (cy 0, 4, .inl cha)) ∧ X 2012 = some (.inl (cy 0, 4, .inl cos)) ∧ X 2013 = some (.inl (cy 0, 4, .inl fnd)) ∧ X 2014 = some (.inl (cy 2, 4, .inl (fun r => b2i (isb r)))) ∧ X 2015 = some (.inl (cy 0, 4, .inl (upd bat pp (nI (if isb pp = true then (if pBb π = true then pBn π else 0) - 1 else (if pBb π = true then pBn π else 0)))))) ∧ X 2016 = some (.inl (cy 0, 4, .inl (upd kno pp (nI (pKn π - 1))))) ∧ X 2017 = some (.inl (cy 0, 240, .inl oob)) ∧ X 2018 = some (.inl (cy 0, 240, .inl ome)) ∧ X 2019 = some (.inl (cy 0, 240, .inl onu)) ∧ X 2020 = some (.inl (cy 1, 2880, .inr (.inl oke))) ∧ X 2023 = some (.inl (cy 1, 60, .inr (.inl ksc))) ∧ X 2024 = some (.inl (cy 0, 3200, .inl kme)) ∧ X 2025 = some (.inl (cy 0, 20, .inl kob)) ∧ X 2026 = some (.inl (cy 0, 160, .inl was2)) ∧ X 2027 = some (.inl (cy 1, 12, .inr (.inl wwa2))) ∧ X 2009 = some (.inl (cy 1, 48, .inr (.inl (cpA oke kpt (12 * (60 * pp + (pKn π - 1))) (12 * pp) r)))) ∧ ∀ L, L < 2000 → X L = V L) ∧ HW D z0 ad X H) ∧ va_S (AA z0) s.heap H locs ∧ ∃ ls, g = F0 m 75 ls [] ∧ lv_has ls 4 [(0, .ref (ad (2000))), (1, .int (nI pp)), (2, .int (nI (60 * pp + (pKn π - 1)))), (3, .int (nI r))]) ?_ (0) _ _ _ ⟨Nat.zero_le _, ⟨_, ⟨h2000, h2002, h2003, h2004, h2005, h2006, h2008, h2010, h2011, h2012, h2013, h2014, h2015, h2016, h2017, h2018, h2019, h2020, h2023, h2024, h2025, h2026, h2027, by rw [cpA_0]; exact h2009, fun L hL => by rw [gfr2 L (by omega), eV2, va_up_ne _ _ (by omega), eV1, va_up_ne _ _ (by omega)]; exact hfr L (by omega)⟩, hW⟩, hS, ls, rfl, lv_sub hl [2, 3, 1, 0] rfl⟩
    intro r H locs g hg ih
    obtain ⟨hr9, ⟨Vn, ⟨h2000, h2002, h2003, h2004, h2005, h2006, h2008, h2010, h2011, h2012, h2013, h2014, h2015, h2016, h2017, h2018, h2019, h2020, h2023, h2024, h2025, h2026, h2027, h2009, hfn⟩, hW⟩, hS, ls, rfl, hl⟩ := hg
    refine lv_iload_n hx hb dX7_takeBack_75 rfl (lv_at hl 3 rfl) ?_
    refine lv_bipush (v := nI 12) hx hb dX7_takeBack_76 (by decide) ?_
    refine lv_icmp_ge (tgt := 109) hx hb dX7_takeBack_78 (by decide) (fun c78 => ?_) (fun c78 => ?_)
    · skip
      have c78 := nI_le' c78 (by omega) (by omega)
      have e9 : r = 12 := by omega
      rw [e9] at h2009
      refine lv_aload_n hx hb dX7_takeBack_109 rfl (lv_at hl 0 rfl) ?_
      refine g_X7_X7_cost hx hb hown hK hW h2000 dX7_takeBack_110 ?_
      refine lv_iload_n hx hb dX7_takeBack_113 rfl (lv_at hl 1 rfl) ?_
      refine lv_dup2_11 hx hb dX7_takeBack_114 rfl rfl ?_
      refine w_iald hx hb hK hW h2012 (j := pp) (rfl) (by omega) (by omega) dX7_takeBack_115 ?_
      refine lv_aload_n hx hb dX7_takeBack_116 rfl (lv_at hl 0 rfl) ?_
      refine lv_iload_n hx hb dX7_takeBack_117 rfl (lv_at hl 1 rfl) ?_
      refine vp_callSi (va_Run.run (va_runV (As := [.int (nI pp)]) (rest := [.int (cos pp), .int (nI pp), .ref (ad (2012))]) ⟨hx, hb, hml, hown, hK.1.use _⟩ (c_X7_pairs l D cy z0 ad Vn n k P K ce h2000 ak h2002 al h2003 ab h2004 aw h2005 mem2 h2008 was2 h2026 hn40 pp (by omega) ρ hk hkb hru (putM n (pM π) mm oo (pHv π (nxD (pNx π)))) (pM π) hv2 (fun m hm o ho => by rw [hwa _ (by omega), ← Nat.add_assoc]; exact hvw m hm o ho)) (k_X7_X7_pairs hK.1 rfl rfl ⟨Nat.le_of_ble_eq_true rfl, Nat.le_of_ble_eq_true rfl⟩) (preV hK (Nat.le_trans hz hS.1) hW h2000 rfl) rfl rfl hl.1 rfl (lv_room (Nat.le_of_ble_eq_true rfl)) dX7_takeBack_118 ⟨Nat.le_of_ble_eq_true rfl, Nat.le_of_ble_eq_true rfl⟩)) (fun r118 h118 => ?_)
      have h118 : r118 = nI (ctS ρ (pM π) (putM n (pM π) mm oo (pHv π (nxD (pNx π)))) n k) := h118
      subst h118
      refine lv_iadd hx hb dX7_takeBack_121 ?_
      refine w_iast hx hb hK hW hS h2012 (j := pp) (rfl) (by omega) (by omega) dX7_takeBack_122 (fun H locs hW hS => ?_)
      obtain ⟨V3, eV3⟩ : ∃ x9, x9 = va_up Vn (2012) (some (.inl (cy 0, 4, .inl (upd cos pp ((cos pp) + (nI (ctS ρ (pM π) (putM n (pM π) mm oo (pHv π (nxD (pNx π)))) n k))))))) := ⟨_, rfl⟩
      rw [← eV3] at hW
      have h2000 : V3 (2000) = some (.inr (7, [.int (nI n), .int (nI k), .ref (ad (2002)), .ref (ad (2003)), .ref (ad (2004)), .ref (ad (2005)), .ref (ad (2006)), .int (nI P), .ref (ad (2008)), .ref (ad (2009)), .ref (ad (2010)), .ref (ad (2011)), .ref (ad (2012)), .ref (ad (2013)), .ref (ad (2014)), .ref (ad (2015)), .ref (ad (2016)), .ref (ad (2017)), .ref (ad (2018)), .ref (ad (2019)), .ref (ad (2020)), .int (ce), .int (nI K), .ref (ad (2023)), .ref (ad (2024)), .ref (ad (2025)), .ref (ad (2026)), .ref (ad (2027))])) := by rw [eV3, va_up_ne _ _ (by omega)]; exact h2000
      have h2002 : V3 (2002) = some (.inl (cy 0, 12, .inl ak)) := by rw [eV3, va_up_ne _ _ (by omega)]; exact h2002
      have h2003 : V3 (2003) = some (.inl (cy 0, 12, .inl al)) := by rw [eV3, va_up_ne _ _ (by omega)]; exact h2003
      have h2004 : V3 (2004) = some (.inl (cy 0, 12, .inl ab)) := by rw [eV3, va_up_ne _ _ (by omega)]; exact h2004
      have h2005 : V3 (2005) = some (.inl (cy 0, 12, .inl aw)) := by rw [eV3, va_up_ne _ _ (by omega)]; exact h2005
      have h2006 : V3 (2006) = some (.inl (cy 0, 12, .inl av)) := by rw [eV3, va_up_ne _ _ (by omega)]; exact h2006
      have h2008 : V3 (2008) = some (.inl (cy 0, 640, .inl mem2)) := by rw [eV3, va_up_ne _ _ (by omega)]; exact h2008
      have h2010 : V3 (2010) = some (.inl (cy 2, 48, .inl (fun r => b2i (fgt r)))) := by rw [eV3, va_up_ne _ _ (by omega)]; exact h2010
      have h2011 : V3 (2011) = some (.inl (cy 0, 4, .inl cha)) := by rw [eV3, va_up_ne _ _ (by omega)]; exact h2011
      have h2013 : V3 (2013) = some (.inl (cy 0, 4, .inl fnd)) := by rw [eV3, va_up_ne _ _ (by omega)]; exact h2013
      have h2014 : V3 (2014) = some (.inl (cy 2, 4, .inl (fun r => b2i (isb r)))) := by rw [eV3, va_up_ne _ _ (by omega)]; exact h2014
      have h2015 : V3 (2015) = some (.inl (cy 0, 4, .inl (upd bat pp (nI (if isb pp = true then (if pBb π = true then pBn π else 0) - 1 else (if pBb π = true then pBn π else 0)))))) := by rw [eV3, va_up_ne _ _ (by omega)]; exact h2015
      have h2016 : V3 (2016) = some (.inl (cy 0, 4, .inl (upd kno pp (nI (pKn π - 1))))) := by rw [eV3, va_up_ne _ _ (by omega)]; exact h2016
      have h2017 : V3 (2017) = some (.inl (cy 0, 240, .inl oob)) := by rw [eV3, va_up_ne _ _ (by omega)]; exact h2017
      have h2018 : V3 (2018) = some (.inl (cy 0, 240, .inl ome)) := by rw [eV3, va_up_ne _ _ (by omega)]; exact h2018
      have h2019 : V3 (2019) = some (.inl (cy 0, 240, .inl onu)) := by rw [eV3, va_up_ne _ _ (by omega)]; exact h2019
      have h2020 : V3 (2020) = some (.inl (cy 1, 2880, .inr (.inl oke))) := by rw [eV3, va_up_ne _ _ (by omega)]; exact h2020
      have h2023 : V3 (2023) = some (.inl (cy 1, 60, .inr (.inl ksc))) := by rw [eV3, va_up_ne _ _ (by omega)]; exact h2023
      have h2024 : V3 (2024) = some (.inl (cy 0, 3200, .inl kme)) := by rw [eV3, va_up_ne _ _ (by omega)]; exact h2024
      have h2025 : V3 (2025) = some (.inl (cy 0, 20, .inl kob)) := by rw [eV3, va_up_ne _ _ (by omega)]; exact h2025
      have h2026 : V3 (2026) = some (.inl (cy 0, 160, .inl was2)) := by rw [eV3, va_up_ne _ _ (by omega)]; exact h2026
      have h2027 : V3 (2027) = some (.inl (cy 1, 12, .inr (.inl wwa2))) := by rw [eV3, va_up_ne _ _ (by omega)]; exact h2027
      have h2009 : V3 (2009) = some (.inl (cy 1, 48, .inr (.inl (cpA oke kpt (12 * (60 * pp + (pKn π - 1))) (12 * pp) 12)))) := by rw [eV3, va_up_ne _ _ (by omega)]; exact h2009
      have h2012 : V3 (2012) = some (.inl (cy 0, 4, .inl (upd cos pp ((cos pp) + (nI (ctS ρ (pM π) (putM n (pM π) mm oo (pHv π (nxD (pNx π)))) n k)))))) := by rw [eV3, va_up_self]
      exact rwv hx hb hr hlocks dX7_takeBack_123 hW hS (by
      refine ⟨rfl, ?_, fun L hL => by show V3 L = _; rw [eV3, va_up_ne _ _ (by omega)]; exact hfn L hL⟩
      rw [← eπ]
      rw [← eT] at h2012 hv2
      exact ⟨_, _, _, _, _, _, _, _, _, _, _, _, _, _, _, _, _, _, _, _, _, _, _, ⟨h2000, h2002, h2003, h2004, h2005, h2006, h2008, h2009, h2010, h2011, h2012, h2013, h2014, h2015, h2016, h2017, h2018, h2019, h2020, h2023, h2024, h2025, h2026, h2027⟩, ⟨hru, hlv⟩, hrp.up hpp hk12 (fun q hq => (hOp q hq).2.2.2.1) (tb_plR hPq hgp hk12 hk0 hv2) hmo (fun j hj => cpA_out (by omega)) (fun _ _ => rfl) (fun _ _ => rfl) (fun j hj => pk_un (by omega)) (fun _ _ => rfl) (fun _ _ => rfl) (fun j hj => pk_un (by omega)) (fun j hj => pk_un (by omega)) (fun _ _ => rfl) (fun _ _ => rfl) (fun _ _ => rfl) (fun _ _ => rfl), hrs⟩)
    · skip
      have c78 := nI_nle' c78 (by omega) (by omega)
      refine lv_aload_n hx hb dX7_takeBack_81 rfl (lv_at hl 0 rfl) ?_
      refine g_X7_X7_kept hx hb hown hK hW h2000 dX7_takeBack_82 ?_
      refine lv_bipush (v := nI 12) hx hb dX7_takeBack_85 (by decide) ?_
      refine lv_iload_n hx hb dX7_takeBack_87 rfl (lv_at hl 1 rfl) ?_
      refine lv_imul hx hb dX7_takeBack_88 ?_
      refine asi (y := nI (12 * pp)) (pk_mul _ _) ?_
      refine lv_iload_n hx hb dX7_takeBack_89 rfl (lv_at hl 3 rfl) ?_
      refine lv_iadd hx hb dX7_takeBack_90 ?_
      refine asi (y := nI ((12 * pp) + r)) (nI_add _ _) ?_
      refine lv_aload_n hx hb dX7_takeBack_91 rfl (lv_at hl 0 rfl) ?_
      refine g_X7_X7_oldKept hx hb hown hK hW h2000 dX7_takeBack_92 ?_
      refine lv_bipush (v := nI 12) hx hb dX7_takeBack_95 (by decide) ?_
      refine lv_iload_n hx hb dX7_takeBack_97 rfl (lv_at hl 2 rfl) ?_
      refine lv_imul hx hb dX7_takeBack_98 ?_
      refine asi (y := nI (12 * (60 * pp + (pKn π - 1)))) (pk_mul _ _) ?_
      refine lv_iload_n hx hb dX7_takeBack_99 rfl (lv_at hl 3 rfl) ?_
      refine lv_iadd hx hb dX7_takeBack_100 ?_
      refine asi (y := nI ((12 * (60 * pp + (pKn π - 1))) + r)) (nI_add _ _) ?_
      refine w_lald hx hb hK hW h2020 (j := (12 * (60 * pp + (pKn π - 1))) + r) (rfl) (by omega) (by omega) dX7_takeBack_101 ?_
      refine w_last hx hb hK hW hS h2009 (j := (12 * pp) + r) (rfl) (by omega) (by omega) dX7_takeBack_102 (fun H locs hW hS => ?_)
      obtain ⟨V4, eV4⟩ : ∃ x9, x9 = va_up Vn (2009) (some (.inl (cy 1, 48, .inr (.inl (vp_updL (cpA oke kpt (12 * (60 * pp + (pKn π - 1))) (12 * pp) r) ((12 * pp) + r) (oke ((12 * (60 * pp + (pKn π - 1))) + r))))))) := ⟨_, rfl⟩
      rw [← eV4] at hW
      have h2000 : V4 (2000) = some (.inr (7, [.int (nI n), .int (nI k), .ref (ad (2002)), .ref (ad (2003)), .ref (ad (2004)), .ref (ad (2005)), .ref (ad (2006)), .int (nI P), .ref (ad (2008)), .ref (ad (2009)), .ref (ad (2010)), .ref (ad (2011)), .ref (ad (2012)), .ref (ad (2013)), .ref (ad (2014)), .ref (ad (2015)), .ref (ad (2016)), .ref (ad (2017)), .ref (ad (2018)), .ref (ad (2019)), .ref (ad (2020)), .int (ce), .int (nI K), .ref (ad (2023)), .ref (ad (2024)), .ref (ad (2025)), .ref (ad (2026)), .ref (ad (2027))])) := by rw [eV4, va_up_ne _ _ (by omega)]; exact h2000
      have h2002 : V4 (2002) = some (.inl (cy 0, 12, .inl ak)) := by rw [eV4, va_up_ne _ _ (by omega)]; exact h2002
      have h2003 : V4 (2003) = some (.inl (cy 0, 12, .inl al)) := by rw [eV4, va_up_ne _ _ (by omega)]; exact h2003
      have h2004 : V4 (2004) = some (.inl (cy 0, 12, .inl ab)) := by rw [eV4, va_up_ne _ _ (by omega)]; exact h2004
      have h2005 : V4 (2005) = some (.inl (cy 0, 12, .inl aw)) := by rw [eV4, va_up_ne _ _ (by omega)]; exact h2005
      have h2006 : V4 (2006) = some (.inl (cy 0, 12, .inl av)) := by rw [eV4, va_up_ne _ _ (by omega)]; exact h2006
      have h2008 : V4 (2008) = some (.inl (cy 0, 640, .inl mem2)) := by rw [eV4, va_up_ne _ _ (by omega)]; exact h2008
      have h2010 : V4 (2010) = some (.inl (cy 2, 48, .inl (fun r => b2i (fgt r)))) := by rw [eV4, va_up_ne _ _ (by omega)]; exact h2010
      have h2011 : V4 (2011) = some (.inl (cy 0, 4, .inl cha)) := by rw [eV4, va_up_ne _ _ (by omega)]; exact h2011
      have h2012 : V4 (2012) = some (.inl (cy 0, 4, .inl cos)) := by rw [eV4, va_up_ne _ _ (by omega)]; exact h2012
      have h2013 : V4 (2013) = some (.inl (cy 0, 4, .inl fnd)) := by rw [eV4, va_up_ne _ _ (by omega)]; exact h2013
      have h2014 : V4 (2014) = some (.inl (cy 2, 4, .inl (fun r => b2i (isb r)))) := by rw [eV4, va_up_ne _ _ (by omega)]; exact h2014
      have h2015 : V4 (2015) = some (.inl (cy 0, 4, .inl (upd bat pp (nI (if isb pp = true then (if pBb π = true then pBn π else 0) - 1 else (if pBb π = true then pBn π else 0)))))) := by rw [eV4, va_up_ne _ _ (by omega)]; exact h2015
      have h2016 : V4 (2016) = some (.inl (cy 0, 4, .inl (upd kno pp (nI (pKn π - 1))))) := by rw [eV4, va_up_ne _ _ (by omega)]; exact h2016
      have h2017 : V4 (2017) = some (.inl (cy 0, 240, .inl oob)) := by rw [eV4, va_up_ne _ _ (by omega)]; exact h2017
      have h2018 : V4 (2018) = some (.inl (cy 0, 240, .inl ome)) := by rw [eV4, va_up_ne _ _ (by omega)]; exact h2018
      have h2019 : V4 (2019) = some (.inl (cy 0, 240, .inl onu)) := by rw [eV4, va_up_ne _ _ (by omega)]; exact h2019
      have h2020 : V4 (2020) = some (.inl (cy 1, 2880, .inr (.inl oke))) := by rw [eV4, va_up_ne _ _ (by omega)]; exact h2020
      have h2023 : V4 (2023) = some (.inl (cy 1, 60, .inr (.inl ksc))) := by rw [eV4, va_up_ne _ _ (by omega)]; exact h2023
      have h2024 : V4 (2024) = some (.inl (cy 0, 3200, .inl kme)) := by rw [eV4, va_up_ne _ _ (by omega)]; exact h2024
      have h2025 : V4 (2025) = some (.inl (cy 0, 20, .inl kob)) := by rw [eV4, va_up_ne _ _ (by omega)]; exact h2025
      have h2026 : V4 (2026) = some (.inl (cy 0, 160, .inl was2)) := by rw [eV4, va_up_ne _ _ (by omega)]; exact h2026
      have h2027 : V4 (2027) = some (.inl (cy 1, 12, .inr (.inl wwa2))) := by rw [eV4, va_up_ne _ _ (by omega)]; exact h2027
      have h2009 : V4 (2009) = some (.inl (cy 1, 48, .inr (.inl (vp_updL (cpA oke kpt (12 * (60 * pp + (pKn π - 1))) (12 * pp) r) ((12 * pp) + r) (oke ((12 * (60 * pp + (pKn π - 1))) + r)))))) := by rw [eV4, va_up_self]
      refine lv_iinc (v := nI (r + 1)) (lv' := [(3, .int (nI (r + 1))), (0, .ref (ad (2000))), (1, .int (nI pp)), (2, .int (nI (60 * pp + (pKn π - 1))))]) hx hb dX7_takeBack_103 hl (k := 3) rfl (by rw [show Int32.ofInt 1 = nI 1 from by decide]; exact nI_add _ _) (by decide) rfl (fun ls hl => ?_)
      refine lv_goto (tgt := 75) hx hb dX7_takeBack_106 (by decide) ?_
      exact ih (r + 1) _ _ _ ⟨by omega, ⟨_, ⟨h2000, h2002, h2003, h2004, h2005, h2006, h2008, h2010, h2011, h2012, h2013, h2014, h2015, h2016, h2017, h2018, h2019, h2020, h2023, h2024, h2025, h2026, h2027, by rw [← cpA_l]; exact h2009, fun L hL => by rw [eV4, va_up_ne _ _ (by omega)]; exact hfn L hL⟩, hW⟩, hS, ls, rfl, lv_sub hl [1, 2, 3, 0] rfl⟩ (by omega)

set_option maxHeartbeats 4000000 in
set_option maxRecDepth 100000 in
theorem c_X7_undo (l : Launch) (D : va_G) (cy : Nat → ClassId) (z0 : Nat) (ad : Nat → Nat) (V : Nat → Option va_E) (c0 n k P K : Nat) (ce : Int32) (ρ : RuT) (pl : Nat → PlT) (sn : Nat → SnT) (hM : isM ad V cy n k P K ce ρ pl sn) (hG : gdX c0 n k P K ρ pl sn) (pi : Int32) : Met l yX7_undo [Cond.code yX7_undo cX7_undo 2 (some .int)] { frames := 4, cells := 0, slots := 0, locals := 102 } (WP [.ref (ad (2000)), .int (pi)] D cy z0 ad V) (va_Qi (fun r u => r = (xPl P pl pi (plUndo n k ρ)).1 ∧ u.1 = ad ∧ isM ad u.2 cy n k P K ce ρ (xPl P pl pi (plUndo n k ρ)).2 sn ∧ ∀ L, L < 2000 → u.2 L = V L) (WB D z0) (AA z0)) 0 0 (AA z0) := by
  refine met_of (by decide) (Nat.le_of_ble_eq_true rfl) (fun p e s m below meth c hx hb hr hml hown hlocks hnm hK hz hW ls hl => ?_)
  have hown : s.vm.findClass RX7 = some m.cls := hown
  have hl : lv_has ls 2 [(0, .ref (ad (2000))), (1, .int (pi))] := hl
  have hS : va_S (AA z0) s.heap s.heap [] := va_S.rf
  obtain ⟨ak, al, ab, aw, av, mem, kpt, fgt, cha, cos, fnd, isb, bat, kno, oob, ome, onu, oke, ksc, kme, kob, was, wwa, ⟨h2000, h2002, h2003, h2004, h2005, h2006, h2008, h2009, h2010, h2011, h2012, h2013, h2014, h2015, h2016, h2017, h2018, h2019, h2020, h2023, h2024, h2025, h2026, h2027⟩, ⟨hru, hlv⟩, hrp, hrs⟩ := id hM
  obtain ⟨hO, hkb, hgd⟩ := id hG
  obtain ⟨hn40, hk, hP1, hP4, hK20, hOp, hOs⟩ := id hO
  have hk12 := hk.1
  refine lv_aload_n hx hb dX7_undo_0 rfl (lv_at hl 0 rfl) ?_
  refine lv_iload_n hx hb dX7_undo_1 rfl (lv_at hl 1 rfl) ?_
  refine vp_callSi (va_Run.run (va_runV (As := [.int (pi)]) (rest := []) ⟨hx, hb, hml, hown, hK.1.use _⟩ (c_X7_isPlan l D cy z0 ad V n k P K ce h2000  (by omega) pi) (k_X7_X7_isPlan hK.1 rfl rfl ⟨Nat.le_of_ble_eq_true rfl, Nat.le_of_ble_eq_true rfl⟩) (preV hK hz hW h2000 rfl) rfl rfl hl.1 rfl (lv_room (Nat.le_of_ble_eq_true rfl)) dX7_undo_2 ⟨Nat.le_of_ble_eq_true rfl, Nat.le_of_ble_eq_true rfl⟩)) (fun r2 h2 => ?_)
  have h2 : r2 = b2i (hasB P pi) := h2
  subst h2
  refine lv_if_ne (tgt := 10) hx hb dX7_undo_5 (by decide) (fun c5 => ?_) (fun c5 => ?_)
  · skip
    have c5 := b2i_1.mp c5
    have hp : hasB P pi = true := c5
    obtain ⟨epi, hpp⟩ := hasB_of hp (by omega)
    obtain ⟨pp, epp⟩ : ∃ y, y = pi.toNatClampNeg := ⟨_, rfl⟩
    rw [← epp] at epi hpp
    have hPq := hrp.1 pp hpp
    have hgp := hgd pp hpp
    obtain ⟨π, eπ⟩ : ∃ π, π = pl pp := ⟨_, rfl⟩
    rw [← eπ] at hPq hgp
    obtain ⟨hvw, hkp, hfg, ech, eco, efo, ebb, ebt, ekn, hhi⟩ := id hPq
    have hM0 := hgp.ok
    obtain ⟨hZ, hb60, hnx, hkn, hbk, hOk⟩ := id hgp.1
    have hq10_1 : (pi) = (nI pp) := epi
    rw [hq10_1] at hl
    refine lv_aload_n hx hb dX7_undo_10 rfl (lv_at hl 0 rfl) ?_
    refine g_X7_X7_known hx hb hown hK hW h2000 dX7_undo_11 ?_
    refine lv_iload_n hx hb dX7_undo_14 rfl (lv_at hl 1 rfl) ?_
    refine w_iald hx hb hK hW h2016 (j := pp) (rfl) (by omega) (by omega) dX7_undo_15 ?_
    refine asi (y := nI (pKn π)) (ekn) ?_
    refine lv_if_eq (tgt := 37) hx hb dX7_undo_16 (by decide) (fun c16 => ?_) (fun c16 => ?_)
    · skip
      have c16 := nI_eq' (b := 0) c16 (by omega) (by omega)
      refine lv_bipush (v := -3) hx hb dX7_undo_37 (by decide) ?_
      exact rwi hx hb hr hlocks dX7_undo_39 hW hS (xM_same hM hp (by
        rw [← epp, ← eπ]
        refine if_pos ?_
        by_cases hb : pBb π = true
        · rw [if_pos hb]; have := hbk hb; rw [show pBn π = 0 by omega]; rfl
        · rw [if_neg hb, show pKn π = 0 by omega]; rfl))
    · skip
      have c16 := nI_ne' (b := 0) c16 (by omega) (by omega)
      refine lv_aload_n hx hb dX7_undo_19 rfl (lv_at hl 0 rfl) ?_
      refine g_X7_X7_isBatch hx hb hown hK hW h2000 dX7_undo_20 ?_
      refine lv_iload_n hx hb dX7_undo_23 rfl (lv_at hl 1 rfl) ?_
      refine w_zald hx hb hK hW h2014 (j := pp) (rfl) (by omega) (by omega) dX7_undo_24 ?_
      refine asi (y := b2i (pBb π)) (by rw [ebb]) ?_
      refine lv_if_eq (tgt := 40) hx hb dX7_undo_25 (by decide) (fun c25 => ?_) (fun c25 => ?_)
      · skip
        have c25 := b2i_0.mp c25
        have hq9 : ¬ (if pBb π = true then nI (pBn π) else nI (pKn π)) = 0 := by rw [if_neg (by rw [c25]; decide)]; exact fun q => c16 (nI_eq' (b := 0) q (by omega) (by omega))
        have hb0 : pBb π = true → 0 < pBn π := fun q => absurd (c25.symm.trans q) (by decide)
        refine lv_aload_n hx hb dX7_undo_40 rfl (lv_at hl 0 rfl) ?_
        refine lv_iload_n hx hb dX7_undo_41 rfl (lv_at hl 1 rfl) ?_
        refine cv (va_runV (As := [.int (nI pp)]) (rest := []) ⟨hx, hb, hml, hown, hK.1.use _⟩ (c_X7_takeBackM l D cy z0 ad V c0 n k P K ce ρ pl sn hM hG pp hpp (by rw [← eπ]; omega) (by rw [← eπ]; exact hb0)) (k_X7_X7_takeBack hK.1 rfl rfl ⟨Nat.le_of_ble_eq_true rfl, Nat.le_of_ble_eq_true rfl⟩) (preV hK hz hW h2000 rfl) rfl rfl hl.1 rfl (lv_room (Nat.le_of_ble_eq_true rfl)) dX7_undo_42 ⟨Nat.le_of_ble_eq_true rfl, Nat.le_of_ble_eq_true rfl⟩) hS (fun ad42 Vc42 H locs h42 hW hS => ?_)
        obtain ⟨e42, gM, gfr⟩ := h42
        obtain rfl : ad = ad42 := e42.symm
        have eM : isM ad Vc42 cy n k P K ce ρ (va_up pl pp (tbP n k ρ π)) sn := by rw [eπ]; exact gM
        obtain ⟨_, _, _, _, _, _, _, _, _, _, _, _, _, _, _, _, _, _, _, _, _, _, _, ⟨h2000, h2002, h2003, h2004, h2005, h2006, h2008, h2009, h2010, h2011, h2012, h2013, h2014, h2015, h2016, h2017, h2018, h2019, h2020, h2023, h2024, h2025, h2026, h2027⟩, yru, yrp, yrs⟩ := id eM
        have ykn := (yrp.1 pp hpp).2.2.2.2.2.2.2.2.1
        rw [va_up_self] at ykn
        refine lv_aload_n hx hb dX7_undo_45 rfl (lv_at hl 0 rfl) ?_
        refine g_X7_X7_known hx hb hown hK hW h2000 dX7_undo_46 ?_
        refine lv_iload_n hx hb dX7_undo_49 rfl (lv_at hl 1 rfl) ?_
        refine w_iald hx hb hK hW h2016 (j := pp) (rfl) (by omega) (by omega) dX7_undo_50 ?_
        refine asi (y := nI (pKn π - 1)) (ykn) ?_
        exact rwi hx hb hr hlocks dX7_undo_51 hW hS (xM_new hp (by rw [← epp, ← eπ]; exact plUndo_eq hq9) rfl (by rw [← epp]; exact eM) gfr)
      · skip
        have c25 := b2i_1.mp c25
        refine lv_aload_n hx hb dX7_undo_28 rfl (lv_at hl 0 rfl) ?_
        refine g_X7_X7_batch hx hb hown hK hW h2000 dX7_undo_29 ?_
        refine lv_iload_n hx hb dX7_undo_32 rfl (lv_at hl 1 rfl) ?_
        refine w_iald hx hb hK hW h2015 (j := pp) (rfl) (by omega) (by omega) dX7_undo_33 ?_
        refine asi (y := nI (pBn π)) (by rw [ebt, if_pos c25]) ?_
        refine lv_if_ne (tgt := 40) hx hb dX7_undo_34 (by decide) (fun c34 => ?_) (fun c34 => ?_)
        · skip
          have c34 := nI_ne' (b := 0) c34 (by omega) (by omega)
          have hq9 : ¬ (if pBb π = true then nI (pBn π) else nI (pKn π)) = 0 := by rw [if_pos c25]; exact fun q => c34 (nI_eq' (b := 0) q (by omega) (by omega))
          have hb0 : pBb π = true → 0 < pBn π := fun _ => by omega
          refine lv_aload_n hx hb dX7_undo_40 rfl (lv_at hl 0 rfl) ?_
          refine lv_iload_n hx hb dX7_undo_41 rfl (lv_at hl 1 rfl) ?_
          refine cv (va_runV (As := [.int (nI pp)]) (rest := []) ⟨hx, hb, hml, hown, hK.1.use _⟩ (c_X7_takeBackM l D cy z0 ad V c0 n k P K ce ρ pl sn hM hG pp hpp (by rw [← eπ]; omega) (by rw [← eπ]; exact hb0)) (k_X7_X7_takeBack hK.1 rfl rfl ⟨Nat.le_of_ble_eq_true rfl, Nat.le_of_ble_eq_true rfl⟩) (preV hK hz hW h2000 rfl) rfl rfl hl.1 rfl (lv_room (Nat.le_of_ble_eq_true rfl)) dX7_undo_42 ⟨Nat.le_of_ble_eq_true rfl, Nat.le_of_ble_eq_true rfl⟩) hS (fun ad42 Vc42 H locs h42 hW hS => ?_)
          obtain ⟨e42, gM, gfr⟩ := h42
          obtain rfl : ad = ad42 := e42.symm
          have eM : isM ad Vc42 cy n k P K ce ρ (va_up pl pp (tbP n k ρ π)) sn := by rw [eπ]; exact gM
          obtain ⟨_, _, _, _, _, _, _, _, _, _, _, _, _, _, _, _, _, _, _, _, _, _, _, ⟨h2000, h2002, h2003, h2004, h2005, h2006, h2008, h2009, h2010, h2011, h2012, h2013, h2014, h2015, h2016, h2017, h2018, h2019, h2020, h2023, h2024, h2025, h2026, h2027⟩, yru, yrp, yrs⟩ := id eM
          have ykn := (yrp.1 pp hpp).2.2.2.2.2.2.2.2.1
          rw [va_up_self] at ykn
          refine lv_aload_n hx hb dX7_undo_45 rfl (lv_at hl 0 rfl) ?_
          refine g_X7_X7_known hx hb hown hK hW h2000 dX7_undo_46 ?_
          refine lv_iload_n hx hb dX7_undo_49 rfl (lv_at hl 1 rfl) ?_
          refine w_iald hx hb hK hW h2016 (j := pp) (rfl) (by omega) (by omega) dX7_undo_50 ?_
          refine asi (y := nI (pKn π - 1)) (ykn) ?_
          exact rwi hx hb hr hlocks dX7_undo_51 hW hS (xM_new hp (by rw [← epp, ← eπ]; exact plUndo_eq hq9) rfl (by rw [← epp]; exact eM) gfr)
        · skip
          have c34 := nI_eq' (b := 0) c34 (by omega) (by omega)
          refine lv_bipush (v := -3) hx hb dX7_undo_37 (by decide) ?_
          exact rwi hx hb hr hlocks dX7_undo_39 hW hS (xM_same hM hp (by rw [← epp, ← eπ]; exact if_pos (by rw [if_pos c25, show pBn π = 0 by omega]; rfl)))
  · skip
    have c5 := b2i_0.mp c5
    have hp : ¬ hasB P pi = true := by rw [c5]; decide
    refine lv_iconst (v := -1) hx hb dX7_undo_8 (by decide) ?_
    exact rwi hx hb hr hlocks dX7_undo_9 hW hS (xM_none hM hp)

theorem upup {α : Type} {f : Nat → α} {q : Nat} {a b : α} : va_up (va_up f q a) q b = va_up f q b := by
  funext j
  by_cases h : j = q
  · subst h; rw [va_up_self, va_up_self]
  · rw [va_up_ne _ _ h, va_up_ne _ _ h, va_up_ne _ _ h]
theorem gdX_up {c n k P K p : Nat} {ρ : RuT} {pl : Nat → PlT} {sn : Nat → SnT} {π : PlT} (h : gdX c n k P K ρ pl sn) (hp : p < P) (hπ : gdP c n k π) : gdX c n k P K ρ (va_up pl p π) sn := by
  obtain ⟨⟨a1, a2, a3, a4, a5, a6, a7⟩, hb, hg⟩ := h
  have h2 : ∀ q, q < P → gdP c n k (va_up pl p π q) := fun q hq => by
    by_cases e : q = p
    · subst e; rw [va_up_self]; exact hπ
    · rw [va_up_ne _ _ e]; exact hg q hq
  exact ⟨⟨a1, a2, a3, a4, a5, fun q hq => (h2 q hq).1, a7⟩, hb, h2⟩

set_option maxHeartbeats 4000000 in
set_option maxRecDepth 100000 in
theorem c_X7_end (l : Launch) (D : va_G) (cy : Nat → ClassId) (z0 : Nat) (ad : Nat → Nat) (V : Nat → Option va_E) (c0 n k P K : Nat) (ce : Int32) (ρ : RuT) (pl : Nat → PlT) (sn : Nat → SnT) (hM : isM ad V cy n k P K ce ρ pl sn) (hG : gdX c0 n k P K ρ pl sn) (pi : Int32) (sb : Bool) : Met l yX7_end [Cond.code yX7_end cX7_end 4 (some .int)] { frames := 4, cells := 0, slots := 0, locals := 102 } (WP [.ref (ad (2000)), .int (pi), .int (b2i sb)] D cy z0 ad V) (va_Qi (fun r u => r = (xPl P pl pi (plEnd n k ρ sb)).1 ∧ u.1 = ad ∧ isM ad u.2 cy n k P K ce ρ (xPl P pl pi (plEnd n k ρ sb)).2 sn ∧ ∀ L, L < 2000 → u.2 L = V L) (WB D z0) (AA z0)) 0 0 (AA z0) := by
  refine met_of (by decide) (Nat.le_of_ble_eq_true rfl) (fun p e s m below meth c hx hb hr hml hown hlocks hnm hK hz hW ls hl => ?_)
  have hown : s.vm.findClass RX7 = some m.cls := hown
  have hl : lv_has ls 4 [(0, .ref (ad (2000))), (1, .int (pi)), (2, .int (b2i sb))] := hl
  have hS : va_S (AA z0) s.heap s.heap [] := va_S.rf
  obtain ⟨ak, al, ab, aw, av, mem, kpt, fgt, cha, cos, fnd, isb, bat, kno, oob, ome, onu, oke, ksc, kme, kob, was, wwa, ⟨h2000, h2002, h2003, h2004, h2005, h2006, h2008, h2009, h2010, h2011, h2012, h2013, h2014, h2015, h2016, h2017, h2018, h2019, h2020, h2023, h2024, h2025, h2026, h2027⟩, ⟨hru, hlv⟩, hrp, hrs⟩ := id hM
  obtain ⟨hO, hkb, hgd⟩ := id hG
  obtain ⟨hn40, hk, hP1, hP4, hK20, hOp, hOs⟩ := id hO
  have hk12 := hk.1
  refine lv_aload_n hx hb dX7_end_0 rfl (lv_at hl 0 rfl) ?_
  refine lv_iload_n hx hb dX7_end_1 rfl (lv_at hl 1 rfl) ?_
  refine vp_callSi (va_Run.run (va_runV (As := [.int (pi)]) (rest := []) ⟨hx, hb, hml, hown, hK.1.use _⟩ (c_X7_isPlan l D cy z0 ad V n k P K ce h2000  (by omega) pi) (k_X7_X7_isPlan hK.1 rfl rfl ⟨Nat.le_of_ble_eq_true rfl, Nat.le_of_ble_eq_true rfl⟩) (preV hK hz hW h2000 rfl) rfl rfl hl.1 rfl (lv_room (Nat.le_of_ble_eq_true rfl)) dX7_end_2 ⟨Nat.le_of_ble_eq_true rfl, Nat.le_of_ble_eq_true rfl⟩)) (fun r2 h2 => ?_)
  have h2 : r2 = b2i (hasB P pi) := h2
  subst h2
  refine lv_if_ne (tgt := 10) hx hb dX7_end_5 (by decide) (fun c5 => ?_) (fun c5 => ?_)
  · skip
    have c5 := b2i_1.mp c5
    have hp : hasB P pi = true := c5
    obtain ⟨epi, hpp⟩ := hasB_of hp (by omega)
    obtain ⟨pp, epp⟩ : ∃ y, y = pi.toNatClampNeg := ⟨_, rfl⟩
    rw [← epp] at epi hpp
    have hPq := hrp.1 pp hpp
    have hgp := hgd pp hpp
    obtain ⟨π, eπ⟩ : ∃ π, π = pl pp := ⟨_, rfl⟩
    rw [← eπ] at hPq hgp
    obtain ⟨hvw, hkp, hfg, ech, eco, efo, ebb, ebt, ekn, hhi⟩ := id hPq
    have hM0 := hgp.ok
    obtain ⟨hZ, hb60, hnx, hkn, hbk, hOk⟩ := id hgp.1
    have hq10_1 : (pi) = (nI pp) := epi
    rw [hq10_1] at hl
    refine lv_aload_n hx hb dX7_end_10 rfl (lv_at hl 0 rfl) ?_
    refine g_X7_X7_isBatch hx hb hown hK hW h2000 dX7_end_11 ?_
    refine lv_iload_n hx hb dX7_end_14 rfl (lv_at hl 1 rfl) ?_
    refine w_zald hx hb hK hW h2014 (j := pp) (rfl) (by omega) (by omega) dX7_end_15 ?_
    refine asi (y := b2i (pBb π)) (by rw [ebb]) ?_
    refine lv_if_ne (tgt := 22) hx hb dX7_end_16 (by decide) (fun c16 => ?_) (fun c16 => ?_)
    · skip
      have c16 := b2i_1.mp c16
      refine lv_aload_n hx hb dX7_end_22 rfl (lv_at hl 0 rfl) ?_
      refine g_X7_X7_batch hx hb hown hK hW h2000 dX7_end_23 ?_
      refine lv_iload_n hx hb dX7_end_26 rfl (lv_at hl 1 rfl) ?_
      refine w_iald hx hb hK hW h2015 (j := pp) (rfl) (by omega) (by omega) dX7_end_27 ?_
      refine asi (y := nI (pBn π)) (by rw [ebt, if_pos c16]) ?_
      refine lv_istore_n (lv' := [(3, .int (nI (pBn π))), (0, .ref (ad (2000))), (1, .int (nI pp)), (2, .int (b2i sb))]) hx hb dX7_end_28 rfl hl (by decide) rfl (fun ls hl => ?_)
      refine wlh (ι := Nat) (fun i => pBn π - i) (fun i H locs g => (i ≤ pBn π ∧ (sb = true → i = 0)) ∧ (∃ X, (isM ad X cy n k P K ce ρ (va_up pl pp (tbPI n k ρ i π)) sn ∧ ∀ L, L < 2000 → X L = V L) ∧ HW D z0 ad X H) ∧ va_S (AA z0) s.heap H locs ∧ ∃ ls, g = F0 m 29 ls [] ∧ lv_has ls 4 [(0, .ref (ad (2000))), (1, .int (nI pp)), (2, .int (b2i sb)), (3, .int (nI (pBn π)))]) ?_ (0) _ _ _ ⟨⟨Nat.zero_le _, fun _ => rfl⟩, ⟨_, ⟨by rw [show tbPI n k ρ 0 π = pl pp from eπ, up_id]; exact hM, fun _ _ => rfl⟩, hW⟩, hS, ls, rfl, lv_sub hl [1, 2, 3, 0] rfl⟩
      intro i H locs g hg ih
      obtain ⟨⟨hi, hsb⟩, ⟨Vn, ⟨yM, hfn⟩, hW⟩, hS, ls, rfl, hl⟩ := hg
      obtain ⟨z1, z2, z3, z4⟩ := gd_tbI (ρ := ρ) hgp hn40 c16 i hi
      obtain ⟨ak, al, ab, aw, av, mem, kpt, fgt, cha, cos, fnd, isb, bat, kno, oob, ome, onu, oke, ksc, kme, kob, was, wwa, ⟨h2000, h2002, h2003, h2004, h2005, h2006, h2008, h2009, h2010, h2011, h2012, h2013, h2014, h2015, h2016, h2017, h2018, h2019, h2020, h2023, h2024, h2025, h2026, h2027⟩, ⟨hru, hlv⟩, yrp, hrs⟩ := id yM
      have yP := yrp.1 pp hpp
      rw [va_up_self] at yP
      have hbk9 := hbk c16
      refine lv_iload_n hx hb dX7_end_29 rfl (lv_at hl 2 rfl) ?_
      refine lv_if_ne (tgt := 50) hx hb dX7_end_30 (by decide) (fun c30 => ?_) (fun c30 => ?_)
      · skip
        have c30 := b2i_1.mp c30
        refine lv_aload_n hx hb dX7_end_50 rfl (lv_at hl 0 rfl) ?_
        refine g_X7_X7_isBatch hx hb hown hK hW h2000 dX7_end_51 ?_
        refine lv_iload_n hx hb dX7_end_54 rfl (lv_at hl 1 rfl) ?_
        refine lv_iconst (v := nI 0) hx hb dX7_end_55 (by decide) ?_
        refine asi (y := b2i false) (by decide) ?_
        refine w_zast hx hb hK hW hS h2014 (j := pp) (rfl) (by omega) (by omega) (b2i_v) dX7_end_56 (fun H locs hW hS => ?_)
        obtain ⟨V1, eV1⟩ : ∃ x9, x9 = va_up Vn (2014) (some (.inl (cy 2, 4, .inl (upd (fun r => b2i (isb r)) pp (b2i false))))) := ⟨_, rfl⟩
        rw [← eV1] at hW
        have h2000 : V1 (2000) = some (.inr (7, [.int (nI n), .int (nI k), .ref (ad (2002)), .ref (ad (2003)), .ref (ad (2004)), .ref (ad (2005)), .ref (ad (2006)), .int (nI P), .ref (ad (2008)), .ref (ad (2009)), .ref (ad (2010)), .ref (ad (2011)), .ref (ad (2012)), .ref (ad (2013)), .ref (ad (2014)), .ref (ad (2015)), .ref (ad (2016)), .ref (ad (2017)), .ref (ad (2018)), .ref (ad (2019)), .ref (ad (2020)), .int (ce), .int (nI K), .ref (ad (2023)), .ref (ad (2024)), .ref (ad (2025)), .ref (ad (2026)), .ref (ad (2027))])) := by rw [eV1, va_up_ne _ _ (by omega)]; exact h2000
        have h2002 : V1 (2002) = some (.inl (cy 0, 12, .inl ak)) := by rw [eV1, va_up_ne _ _ (by omega)]; exact h2002
        have h2003 : V1 (2003) = some (.inl (cy 0, 12, .inl al)) := by rw [eV1, va_up_ne _ _ (by omega)]; exact h2003
        have h2004 : V1 (2004) = some (.inl (cy 0, 12, .inl ab)) := by rw [eV1, va_up_ne _ _ (by omega)]; exact h2004
        have h2005 : V1 (2005) = some (.inl (cy 0, 12, .inl aw)) := by rw [eV1, va_up_ne _ _ (by omega)]; exact h2005
        have h2006 : V1 (2006) = some (.inl (cy 0, 12, .inl av)) := by rw [eV1, va_up_ne _ _ (by omega)]; exact h2006
        have h2008 : V1 (2008) = some (.inl (cy 0, 640, .inl mem)) := by rw [eV1, va_up_ne _ _ (by omega)]; exact h2008
        have h2009 : V1 (2009) = some (.inl (cy 1, 48, .inr (.inl kpt))) := by rw [eV1, va_up_ne _ _ (by omega)]; exact h2009
        have h2010 : V1 (2010) = some (.inl (cy 2, 48, .inl (fun r => b2i (fgt r)))) := by rw [eV1, va_up_ne _ _ (by omega)]; exact h2010
        have h2011 : V1 (2011) = some (.inl (cy 0, 4, .inl cha)) := by rw [eV1, va_up_ne _ _ (by omega)]; exact h2011
        have h2012 : V1 (2012) = some (.inl (cy 0, 4, .inl cos)) := by rw [eV1, va_up_ne _ _ (by omega)]; exact h2012
        have h2013 : V1 (2013) = some (.inl (cy 0, 4, .inl fnd)) := by rw [eV1, va_up_ne _ _ (by omega)]; exact h2013
        have h2015 : V1 (2015) = some (.inl (cy 0, 4, .inl bat)) := by rw [eV1, va_up_ne _ _ (by omega)]; exact h2015
        have h2016 : V1 (2016) = some (.inl (cy 0, 4, .inl kno)) := by rw [eV1, va_up_ne _ _ (by omega)]; exact h2016
        have h2017 : V1 (2017) = some (.inl (cy 0, 240, .inl oob)) := by rw [eV1, va_up_ne _ _ (by omega)]; exact h2017
        have h2018 : V1 (2018) = some (.inl (cy 0, 240, .inl ome)) := by rw [eV1, va_up_ne _ _ (by omega)]; exact h2018
        have h2019 : V1 (2019) = some (.inl (cy 0, 240, .inl onu)) := by rw [eV1, va_up_ne _ _ (by omega)]; exact h2019
        have h2020 : V1 (2020) = some (.inl (cy 1, 2880, .inr (.inl oke))) := by rw [eV1, va_up_ne _ _ (by omega)]; exact h2020
        have h2023 : V1 (2023) = some (.inl (cy 1, 60, .inr (.inl ksc))) := by rw [eV1, va_up_ne _ _ (by omega)]; exact h2023
        have h2024 : V1 (2024) = some (.inl (cy 0, 3200, .inl kme)) := by rw [eV1, va_up_ne _ _ (by omega)]; exact h2024
        have h2025 : V1 (2025) = some (.inl (cy 0, 20, .inl kob)) := by rw [eV1, va_up_ne _ _ (by omega)]; exact h2025
        have h2026 : V1 (2026) = some (.inl (cy 0, 160, .inl was)) := by rw [eV1, va_up_ne _ _ (by omega)]; exact h2026
        have h2027 : V1 (2027) = some (.inl (cy 1, 12, .inr (.inl wwa))) := by rw [eV1, va_up_ne _ _ (by omega)]; exact h2027
        have h2014 : V1 (2014) = some (.inl (cy 2, 4, .inl (upd (fun r => b2i (isb r)) pp (b2i false)))) := by rw [eV1, va_up_self]
        refine lv_aload_n hx hb dX7_end_57 rfl (lv_at hl 0 rfl) ?_
        refine g_X7_X7_batch hx hb hown hK hW h2000 dX7_end_58 ?_
        refine lv_iload_n hx hb dX7_end_61 rfl (lv_at hl 1 rfl) ?_
        refine lv_iconst (v := nI 0) hx hb dX7_end_62 (by decide) ?_
        refine w_iast hx hb hK hW hS h2015 (j := pp) (rfl) (by omega) (by omega) dX7_end_63 (fun H locs hW hS => ?_)
        obtain ⟨V2, eV2⟩ : ∃ x9, x9 = va_up V1 (2015) (some (.inl (cy 0, 4, .inl (upd bat pp (nI 0))))) := ⟨_, rfl⟩
        rw [← eV2] at hW
        have h2000 : V2 (2000) = some (.inr (7, [.int (nI n), .int (nI k), .ref (ad (2002)), .ref (ad (2003)), .ref (ad (2004)), .ref (ad (2005)), .ref (ad (2006)), .int (nI P), .ref (ad (2008)), .ref (ad (2009)), .ref (ad (2010)), .ref (ad (2011)), .ref (ad (2012)), .ref (ad (2013)), .ref (ad (2014)), .ref (ad (2015)), .ref (ad (2016)), .ref (ad (2017)), .ref (ad (2018)), .ref (ad (2019)), .ref (ad (2020)), .int (ce), .int (nI K), .ref (ad (2023)), .ref (ad (2024)), .ref (ad (2025)), .ref (ad (2026)), .ref (ad (2027))])) := by rw [eV2, va_up_ne _ _ (by omega)]; exact h2000
        have h2002 : V2 (2002) = some (.inl (cy 0, 12, .inl ak)) := by rw [eV2, va_up_ne _ _ (by omega)]; exact h2002
        have h2003 : V2 (2003) = some (.inl (cy 0, 12, .inl al)) := by rw [eV2, va_up_ne _ _ (by omega)]; exact h2003
        have h2004 : V2 (2004) = some (.inl (cy 0, 12, .inl ab)) := by rw [eV2, va_up_ne _ _ (by omega)]; exact h2004
        have h2005 : V2 (2005) = some (.inl (cy 0, 12, .inl aw)) := by rw [eV2, va_up_ne _ _ (by omega)]; exact h2005
        have h2006 : V2 (2006) = some (.inl (cy 0, 12, .inl av)) := by rw [eV2, va_up_ne _ _ (by omega)]; exact h2006
        have h2008 : V2 (2008) = some (.inl (cy 0, 640, .inl mem)) := by rw [eV2, va_up_ne _ _ (by omega)]; exact h2008
        have h2009 : V2 (2009) = some (.inl (cy 1, 48, .inr (.inl kpt))) := by rw [eV2, va_up_ne _ _ (by omega)]; exact h2009
        have h2010 : V2 (2010) = some (.inl (cy 2, 48, .inl (fun r => b2i (fgt r)))) := by rw [eV2, va_up_ne _ _ (by omega)]; exact h2010
        have h2011 : V2 (2011) = some (.inl (cy 0, 4, .inl cha)) := by rw [eV2, va_up_ne _ _ (by omega)]; exact h2011
        have h2012 : V2 (2012) = some (.inl (cy 0, 4, .inl cos)) := by rw [eV2, va_up_ne _ _ (by omega)]; exact h2012
        have h2013 : V2 (2013) = some (.inl (cy 0, 4, .inl fnd)) := by rw [eV2, va_up_ne _ _ (by omega)]; exact h2013
        have h2016 : V2 (2016) = some (.inl (cy 0, 4, .inl kno)) := by rw [eV2, va_up_ne _ _ (by omega)]; exact h2016
        have h2017 : V2 (2017) = some (.inl (cy 0, 240, .inl oob)) := by rw [eV2, va_up_ne _ _ (by omega)]; exact h2017
        have h2018 : V2 (2018) = some (.inl (cy 0, 240, .inl ome)) := by rw [eV2, va_up_ne _ _ (by omega)]; exact h2018
        have h2019 : V2 (2019) = some (.inl (cy 0, 240, .inl onu)) := by rw [eV2, va_up_ne _ _ (by omega)]; exact h2019
        have h2020 : V2 (2020) = some (.inl (cy 1, 2880, .inr (.inl oke))) := by rw [eV2, va_up_ne _ _ (by omega)]; exact h2020
        have h2023 : V2 (2023) = some (.inl (cy 1, 60, .inr (.inl ksc))) := by rw [eV2, va_up_ne _ _ (by omega)]; exact h2023
        have h2024 : V2 (2024) = some (.inl (cy 0, 3200, .inl kme)) := by rw [eV2, va_up_ne _ _ (by omega)]; exact h2024
        have h2025 : V2 (2025) = some (.inl (cy 0, 20, .inl kob)) := by rw [eV2, va_up_ne _ _ (by omega)]; exact h2025
        have h2026 : V2 (2026) = some (.inl (cy 0, 160, .inl was)) := by rw [eV2, va_up_ne _ _ (by omega)]; exact h2026
        have h2027 : V2 (2027) = some (.inl (cy 1, 12, .inr (.inl wwa))) := by rw [eV2, va_up_ne _ _ (by omega)]; exact h2027
        have h2014 : V2 (2014) = some (.inl (cy 2, 4, .inl (upd (fun r => b2i (isb r)) pp (b2i false)))) := by rw [eV2, va_up_ne _ _ (by omega)]; exact h2014
        have h2015 : V2 (2015) = some (.inl (cy 0, 4, .inl (upd bat pp (nI 0)))) := by rw [eV2, va_up_self]
        refine lv_iload_n hx hb dX7_end_64 rfl (lv_at hl 3 rfl) ?_
        exact rwi hx hb hr hlocks dX7_end_65 hW hS (by
      rw [upB] at h2014
      have ei : (if sb = true then 0 else pBn π) = i := by rw [if_pos c30, hsb c30]
      refine xM_new (π := enP (tbPI n k ρ i π)) hp (by rw [← epp, ← eπ, ← ei]; exact plEnd_eq c16) rfl ?_ (fun L hL => by show V2 L = _; rw [eV2, va_up_ne _ _ (by omega), eV1, va_up_ne _ _ (by omega)]; exact hfn L hL)
      rw [← epp, ← upup (a := tbPI n k ρ i π)]
      exact ⟨_, _, _, _, _, _, _, _, _, _, _, _, _, _, _, _, _, _, _, _, _, _, _, ⟨h2000, h2002, h2003, h2004, h2005, h2006, h2008, h2009, h2010, h2011, h2012, h2013, h2014, h2015, h2016, h2017, h2018, h2019, h2020, h2023, h2024, h2025, h2026, h2027⟩, ⟨hru, hlv⟩, yrp.up hpp hk12 (fun q hq => by by_cases e9 : q = pp; (subst e9; rw [va_up_self]; exact z1.1.2.2.2.1); (rw [va_up_ne _ _ e9]; exact (hOp q hq).2.2.2.1)) ⟨yP.1, yP.2.1, yP.2.2.1, yP.2.2.2.1, yP.2.2.2.2.1, yP.2.2.2.2.2.1, va_up_self _ _ _, pk_us, yP.2.2.2.2.2.2.2.2.1, yP.2.2.2.2.2.2.2.2.2⟩ (fun _ _ => rfl) (fun _ _ => rfl) (fun _ _ => rfl) (fun _ _ => rfl) (fun _ _ => rfl) (fun _ _ => rfl) (fun j hj => va_up_ne _ _ hj) (fun j hj => pk_un (by omega)) (fun _ _ => rfl) (fun _ _ => rfl) (fun _ _ => rfl) (fun _ _ => rfl) (fun _ _ => rfl), hrs⟩)
      · skip
        have c30 := b2i_0.mp c30
        refine lv_aload_n hx hb dX7_end_33 rfl (lv_at hl 0 rfl) ?_
        refine g_X7_X7_batch hx hb hown hK hW h2000 dX7_end_34 ?_
        refine lv_iload_n hx hb dX7_end_37 rfl (lv_at hl 1 rfl) ?_
        refine w_iald hx hb hK hW h2015 (j := pp) (rfl) (by omega) (by omega) dX7_end_38 ?_
        refine asi (y := nI (pBn π - i)) (by rw [yP.2.2.2.2.2.2.2.1, if_pos z2, z3]) ?_
        refine lv_if_le (tgt := 50) hx hb dX7_end_39 (by decide) (fun c39 => ?_) (fun c39 => ?_)
        · skip
          have c39 := nI_le' (b := 0) c39 (by omega) (by omega)
          refine lv_aload_n hx hb dX7_end_50 rfl (lv_at hl 0 rfl) ?_
          refine g_X7_X7_isBatch hx hb hown hK hW h2000 dX7_end_51 ?_
          refine lv_iload_n hx hb dX7_end_54 rfl (lv_at hl 1 rfl) ?_
          refine lv_iconst (v := nI 0) hx hb dX7_end_55 (by decide) ?_
          refine asi (y := b2i false) (by decide) ?_
          refine w_zast hx hb hK hW hS h2014 (j := pp) (rfl) (by omega) (by omega) (b2i_v) dX7_end_56 (fun H locs hW hS => ?_)
          obtain ⟨V3, eV3⟩ : ∃ x9, x9 = va_up Vn (2014) (some (.inl (cy 2, 4, .inl (upd (fun r => b2i (isb r)) pp (b2i false))))) := ⟨_, rfl⟩
          rw [← eV3] at hW
          have h2000 : V3 (2000) = some (.inr (7, [.int (nI n), .int (nI k), .ref (ad (2002)), .ref (ad (2003)), .ref (ad (2004)), .ref (ad (2005)), .ref (ad (2006)), .int (nI P), .ref (ad (2008)), .ref (ad (2009)), .ref (ad (2010)), .ref (ad (2011)), .ref (ad (2012)), .ref (ad (2013)), .ref (ad (2014)), .ref (ad (2015)), .ref (ad (2016)), .ref (ad (2017)), .ref (ad (2018)), .ref (ad (2019)), .ref (ad (2020)), .int (ce), .int (nI K), .ref (ad (2023)), .ref (ad (2024)), .ref (ad (2025)), .ref (ad (2026)), .ref (ad (2027))])) := by rw [eV3, va_up_ne _ _ (by omega)]; exact h2000
          have h2002 : V3 (2002) = some (.inl (cy 0, 12, .inl ak)) := by rw [eV3, va_up_ne _ _ (by omega)]; exact h2002
          have h2003 : V3 (2003) = some (.inl (cy 0, 12, .inl al)) := by rw [eV3, va_up_ne _ _ (by omega)]; exact h2003
          have h2004 : V3 (2004) = some (.inl (cy 0, 12, .inl ab)) := by rw [eV3, va_up_ne _ _ (by omega)]; exact h2004
          have h2005 : V3 (2005) = some (.inl (cy 0, 12, .inl aw)) := by rw [eV3, va_up_ne _ _ (by omega)]; exact h2005
          have h2006 : V3 (2006) = some (.inl (cy 0, 12, .inl av)) := by rw [eV3, va_up_ne _ _ (by omega)]; exact h2006
          have h2008 : V3 (2008) = some (.inl (cy 0, 640, .inl mem)) := by rw [eV3, va_up_ne _ _ (by omega)]; exact h2008
          have h2009 : V3 (2009) = some (.inl (cy 1, 48, .inr (.inl kpt))) := by rw [eV3, va_up_ne _ _ (by omega)]; exact h2009
          have h2010 : V3 (2010) = some (.inl (cy 2, 48, .inl (fun r => b2i (fgt r)))) := by rw [eV3, va_up_ne _ _ (by omega)]; exact h2010
          have h2011 : V3 (2011) = some (.inl (cy 0, 4, .inl cha)) := by rw [eV3, va_up_ne _ _ (by omega)]; exact h2011
          have h2012 : V3 (2012) = some (.inl (cy 0, 4, .inl cos)) := by rw [eV3, va_up_ne _ _ (by omega)]; exact h2012
          have h2013 : V3 (2013) = some (.inl (cy 0, 4, .inl fnd)) := by rw [eV3, va_up_ne _ _ (by omega)]; exact h2013
          have h2015 : V3 (2015) = some (.inl (cy 0, 4, .inl bat)) := by rw [eV3, va_up_ne _ _ (by omega)]; exact h2015
          have h2016 : V3 (2016) = some (.inl (cy 0, 4, .inl kno)) := by rw [eV3, va_up_ne _ _ (by omega)]; exact h2016
          have h2017 : V3 (2017) = some (.inl (cy 0, 240, .inl oob)) := by rw [eV3, va_up_ne _ _ (by omega)]; exact h2017
          have h2018 : V3 (2018) = some (.inl (cy 0, 240, .inl ome)) := by rw [eV3, va_up_ne _ _ (by omega)]; exact h2018
          have h2019 : V3 (2019) = some (.inl (cy 0, 240, .inl onu)) := by rw [eV3, va_up_ne _ _ (by omega)]; exact h2019
          have h2020 : V3 (2020) = some (.inl (cy 1, 2880, .inr (.inl oke))) := by rw [eV3, va_up_ne _ _ (by omega)]; exact h2020
          have h2023 : V3 (2023) = some (.inl (cy 1, 60, .inr (.inl ksc))) := by rw [eV3, va_up_ne _ _ (by omega)]; exact h2023
          have h2024 : V3 (2024) = some (.inl (cy 0, 3200, .inl kme)) := by rw [eV3, va_up_ne _ _ (by omega)]; exact h2024
          have h2025 : V3 (2025) = some (.inl (cy 0, 20, .inl kob)) := by rw [eV3, va_up_ne _ _ (by omega)]; exact h2025
          have h2026 : V3 (2026) = some (.inl (cy 0, 160, .inl was)) := by rw [eV3, va_up_ne _ _ (by omega)]; exact h2026
          have h2027 : V3 (2027) = some (.inl (cy 1, 12, .inr (.inl wwa))) := by rw [eV3, va_up_ne _ _ (by omega)]; exact h2027
          have h2014 : V3 (2014) = some (.inl (cy 2, 4, .inl (upd (fun r => b2i (isb r)) pp (b2i false)))) := by rw [eV3, va_up_self]
          refine lv_aload_n hx hb dX7_end_57 rfl (lv_at hl 0 rfl) ?_
          refine g_X7_X7_batch hx hb hown hK hW h2000 dX7_end_58 ?_
          refine lv_iload_n hx hb dX7_end_61 rfl (lv_at hl 1 rfl) ?_
          refine lv_iconst (v := nI 0) hx hb dX7_end_62 (by decide) ?_
          refine w_iast hx hb hK hW hS h2015 (j := pp) (rfl) (by omega) (by omega) dX7_end_63 (fun H locs hW hS => ?_)
          obtain ⟨V4, eV4⟩ : ∃ x9, x9 = va_up V3 (2015) (some (.inl (cy 0, 4, .inl (upd bat pp (nI 0))))) := ⟨_, rfl⟩
          rw [← eV4] at hW
          have h2000 : V4 (2000) = some (.inr (7, [.int (nI n), .int (nI k), .ref (ad (2002)), .ref (ad (2003)), .ref (ad (2004)), .ref (ad (2005)), .ref (ad (2006)), .int (nI P), .ref (ad (2008)), .ref (ad (2009)), .ref (ad (2010)), .ref (ad (2011)), .ref (ad (2012)), .ref (ad (2013)), .ref (ad (2014)), .ref (ad (2015)), .ref (ad (2016)), .ref (ad (2017)), .ref (ad (2018)), .ref (ad (2019)), .ref (ad (2020)), .int (ce), .int (nI K), .ref (ad (2023)), .ref (ad (2024)), .ref (ad (2025)), .ref (ad (2026)), .ref (ad (2027))])) := by rw [eV4, va_up_ne _ _ (by omega)]; exact h2000
          have h2002 : V4 (2002) = some (.inl (cy 0, 12, .inl ak)) := by rw [eV4, va_up_ne _ _ (by omega)]; exact h2002
          have h2003 : V4 (2003) = some (.inl (cy 0, 12, .inl al)) := by rw [eV4, va_up_ne _ _ (by omega)]; exact h2003
          have h2004 : V4 (2004) = some (.inl (cy 0, 12, .inl ab)) := by rw [eV4, va_up_ne _ _ (by omega)]; exact h2004
          have h2005 : V4 (2005) = some (.inl (cy 0, 12, .inl aw)) := by rw [eV4, va_up_ne _ _ (by omega)]; exact h2005
          have h2006 : V4 (2006) = some (.inl (cy 0, 12, .inl av)) := by rw [eV4, va_up_ne _ _ (by omega)]; exact h2006
          have h2008 : V4 (2008) = some (.inl (cy 0, 640, .inl mem)) := by rw [eV4, va_up_ne _ _ (by omega)]; exact h2008
          have h2009 : V4 (2009) = some (.inl (cy 1, 48, .inr (.inl kpt))) := by rw [eV4, va_up_ne _ _ (by omega)]; exact h2009
          have h2010 : V4 (2010) = some (.inl (cy 2, 48, .inl (fun r => b2i (fgt r)))) := by rw [eV4, va_up_ne _ _ (by omega)]; exact h2010
          have h2011 : V4 (2011) = some (.inl (cy 0, 4, .inl cha)) := by rw [eV4, va_up_ne _ _ (by omega)]; exact h2011
          have h2012 : V4 (2012) = some (.inl (cy 0, 4, .inl cos)) := by rw [eV4, va_up_ne _ _ (by omega)]; exact h2012
          have h2013 : V4 (2013) = some (.inl (cy 0, 4, .inl fnd)) := by rw [eV4, va_up_ne _ _ (by omega)]; exact h2013
          have h2016 : V4 (2016) = some (.inl (cy 0, 4, .inl kno)) := by rw [eV4, va_up_ne _ _ (by omega)]; exact h2016
          have h2017 : V4 (2017) = some (.inl (cy 0, 240, .inl oob)) := by rw [eV4, va_up_ne _ _ (by omega)]; exact h2017
          have h2018 : V4 (2018) = some (.inl (cy 0, 240, .inl ome)) := by rw [eV4, va_up_ne _ _ (by omega)]; exact h2018
          have h2019 : V4 (2019) = some (.inl (cy 0, 240, .inl onu)) := by rw [eV4, va_up_ne _ _ (by omega)]; exact h2019
          have h2020 : V4 (2020) = some (.inl (cy 1, 2880, .inr (.inl oke))) := by rw [eV4, va_up_ne _ _ (by omega)]; exact h2020
          have h2023 : V4 (2023) = some (.inl (cy 1, 60, .inr (.inl ksc))) := by rw [eV4, va_up_ne _ _ (by omega)]; exact h2023
          have h2024 : V4 (2024) = some (.inl (cy 0, 3200, .inl kme)) := by rw [eV4, va_up_ne _ _ (by omega)]; exact h2024
          have h2025 : V4 (2025) = some (.inl (cy 0, 20, .inl kob)) := by rw [eV4, va_up_ne _ _ (by omega)]; exact h2025
          have h2026 : V4 (2026) = some (.inl (cy 0, 160, .inl was)) := by rw [eV4, va_up_ne _ _ (by omega)]; exact h2026
          have h2027 : V4 (2027) = some (.inl (cy 1, 12, .inr (.inl wwa))) := by rw [eV4, va_up_ne _ _ (by omega)]; exact h2027
          have h2014 : V4 (2014) = some (.inl (cy 2, 4, .inl (upd (fun r => b2i (isb r)) pp (b2i false)))) := by rw [eV4, va_up_ne _ _ (by omega)]; exact h2014
          have h2015 : V4 (2015) = some (.inl (cy 0, 4, .inl (upd bat pp (nI 0)))) := by rw [eV4, va_up_self]
          refine lv_iload_n hx hb dX7_end_64 rfl (lv_at hl 3 rfl) ?_
          exact rwi hx hb hr hlocks dX7_end_65 hW hS (by
      rw [upB] at h2014
      have ei : (if sb = true then 0 else pBn π) = i := by rw [c30]; show pBn π = i; omega
      refine xM_new (π := enP (tbPI n k ρ i π)) hp (by rw [← epp, ← eπ, ← ei]; exact plEnd_eq c16) rfl ?_ (fun L hL => by show V4 L = _; rw [eV4, va_up_ne _ _ (by omega), eV3, va_up_ne _ _ (by omega)]; exact hfn L hL)
      rw [← epp, ← upup (a := tbPI n k ρ i π)]
      exact ⟨_, _, _, _, _, _, _, _, _, _, _, _, _, _, _, _, _, _, _, _, _, _, _, ⟨h2000, h2002, h2003, h2004, h2005, h2006, h2008, h2009, h2010, h2011, h2012, h2013, h2014, h2015, h2016, h2017, h2018, h2019, h2020, h2023, h2024, h2025, h2026, h2027⟩, ⟨hru, hlv⟩, yrp.up hpp hk12 (fun q hq => by by_cases e9 : q = pp; (subst e9; rw [va_up_self]; exact z1.1.2.2.2.1); (rw [va_up_ne _ _ e9]; exact (hOp q hq).2.2.2.1)) ⟨yP.1, yP.2.1, yP.2.2.1, yP.2.2.2.1, yP.2.2.2.2.1, yP.2.2.2.2.2.1, va_up_self _ _ _, pk_us, yP.2.2.2.2.2.2.2.2.1, yP.2.2.2.2.2.2.2.2.2⟩ (fun _ _ => rfl) (fun _ _ => rfl) (fun _ _ => rfl) (fun _ _ => rfl) (fun _ _ => rfl) (fun _ _ => rfl) (fun j hj => va_up_ne _ _ hj) (fun j hj => pk_un (by omega)) (fun _ _ => rfl) (fun _ _ => rfl) (fun _ _ => rfl) (fun _ _ => rfl) (fun _ _ => rfl), hrs⟩)
        · skip
          have c39 := nI_nle' (b := 0) c39 (by omega) (by omega)
          refine lv_aload_n hx hb dX7_end_42 rfl (lv_at hl 0 rfl) ?_
          refine lv_iload_n hx hb dX7_end_43 rfl (lv_at hl 1 rfl) ?_
          refine cv (va_runV (As := [.int (nI pp)]) (rest := []) ⟨hx, hb, hml, hown, hK.1.use _⟩ (c_X7_takeBackM l D cy z0 ad Vn c0 n k P K ce ρ (va_up pl pp (tbPI n k ρ i π)) sn yM (gdX_up hG hpp z1) pp hpp (by rw [va_up_self, z4]; omega) (fun _ => by rw [va_up_self, z3]; omega)) (k_X7_X7_takeBack hK.1 rfl rfl ⟨Nat.le_of_ble_eq_true rfl, Nat.le_of_ble_eq_true rfl⟩) (preV hK (Nat.le_trans hz hS.1) hW h2000 rfl) rfl rfl hl.1 rfl (lv_room (Nat.le_of_ble_eq_true rfl)) dX7_end_44 ⟨Nat.le_of_ble_eq_true rfl, Nat.le_of_ble_eq_true rfl⟩) hS (fun ad44 Vc44 H locs h44 hW hS => ?_)
          obtain ⟨e44, gM, gfr⟩ := h44
          obtain rfl : ad = ad44 := e44.symm
          have zM : isM ad Vc44 cy n k P K ce ρ (va_up pl pp (tbPI n k ρ (i + 1) π)) sn := by
            have e9 := gM
            rw [va_up_self, upup] at e9
            exact e9
          have zfr : ∀ L, L < 2000 → Vc44 L = V L := fun L hL => (gfr L hL).trans (hfn L hL)
          refine lv_goto (tgt := 29) hx hb dX7_end_47 (by decide) ?_
          exact ih (i + 1) _ _ _ ⟨⟨by omega, fun q => absurd (c30.symm.trans q) (by decide)⟩, ⟨_, ⟨zM, zfr⟩, hW⟩, hS, ls, rfl, lv_sub hl [0, 1, 2, 3] rfl⟩ (by omega)
    · skip
      have c16 := b2i_0.mp c16
      refine lv_bipush (v := -3) hx hb dX7_end_19 (by decide) ?_
      exact rwi hx hb hr hlocks dX7_end_21 hW hS (xM_same hM hp (by rw [← epp, ← eπ]; exact if_neg (by rw [c16]; decide)))
  · skip
    have c5 := b2i_0.mp c5
    have hp : ¬ hasB P pi = true := by rw [c5]; decide
    refine lv_iconst (v := -1) hx hb dX7_end_8 (by decide) ?_
    exact rwi hx hb hr hlocks dX7_end_9 hW hS (xM_none hM hp)
