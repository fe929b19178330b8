theorem chg_b {kn bn : Nat} {b : Bool} (hkn : kn ≤ 60) (hbk : b = true → bn ≤ kn) : nI ((if kn = 60 ∧ (if b = true then bn else 0) = 60 then 59 else (if b = true then bn else 0)) + (if b = true then 1 else 0)) = nI (if b = true then (if b = true then knU bn else bn) else 0) := by
  by_cases hb : b = true
  · have := hbk hb
    simp only [hb, if_true]
    congr 1
    unfold knU
    by_cases h : bn = 60
    · have h2 : kn = 60 := by omega
      simp [h, h2]
    · simp only [h, and_false, if_false]
      rw [if_neg (by omega)]
  · simp [hb]

theorem chg_eq {n k pp oo mm x : Nat} {ce o mi v pi fo : Int32} {ρ : RuT} {pl : Nat → PlT} {π : PlT} (epp : pp = pi.toNatClampNeg) (eπ : π = pl pp) (ht : tkB n (pM π 2) o mi v = true) (eo : o = nI oo) (em : mi = nI mm) (eoc : o.toNatClampNeg = oo) (emc : mi.toNatClampNeg = mm) (hx : x = coT n (pM π) (putM n (pM π) mm oo v) 4) (hf : (if 0 < ce ∧ irm (pCh π + nI 1) ce = 0 then ffI (flB ρ (putM n (pM π) mm oo v) n (kpU (pK π) (fun r => gnL ρ r (pF π) (pM π) n (putM n (pM π) mm oo v) n) k)) k 0 else pFo π) = fo) : plChange n k ce ρ o mi v (pl pi.toNatClampNeg) = (nI x, (putM n (pM π) mm oo v, kpU (pK π) (fun r => gnL ρ r (pF π) (pM π) n (putM n (pM π) mm oo v) n) k, pF π, pCh π + nI 1, pCo π + nI (ctS ρ (pM π) (putM n (pM π) mm oo v) n k), fo, pBb π, (if pBb π = true then knU (pBn π) else pBn π), upd (pHo π) (pNx π) (nI oo), upd (pHm π) (pNx π) (nI mm), upd (pHv π) (pNx π) (pM π mm oo), hsU (pHs π) (pNx π) (pK π), nxU (pNx π), knU (pKn π))) := by
  rw [← epp, ← eπ, ← hf, hx]
  unfold plChange
  rw [if_pos ht, eoc, emc, ← eo, ← em]

set_option maxHeartbeats 4000000 in
set_option maxRecDepth 100000 in
theorem c_X7_change (l : Launch) (D : va_G) (cy : Nat → ClassId) (z0 : Nat) (ad : Nat → Nat) (V : Nat → Option va_E) (c0 n k P K : Nat) (ce : Int32) (ρ : RuT) (pl : Nat → PlT) (sn : Nat → SnT) (hM : isM ad V cy n k P K ce ρ pl sn) (hG : gdX c0 n k P K ρ pl sn) (pi o mi v : Int32) : Met l yX7_change [Cond.code yX7_change cX7_change 6 (some .int)] { frames := 3, cells := 0, slots := 0, locals := 79 } (WP [.ref (ad (2000)), .int (pi), .int (o), .int (mi), .int (v)] D cy z0 ad V) (va_Qi (fun r u => r = (xPl P pl pi (plChange n k ce ρ o mi v)).1 ∧ u.1 = ad ∧ isM ad u.2 cy n k P K ce ρ (xPl P pl pi (plChange n k ce ρ o mi v)).2 sn ∧ ∀ L, L < 2000 → u.2 L = V L) (WB D z0) (AA z0)) 0 0 (AA z0) := by
  refine met_of (by decide) (Nat.le_of_ble_eq_true rfl) (fun p e s m below meth c hx hb hr hml hown hlocks hnm hK hz hW ls hl => ?_)
  have hown : s.vm.findClass RX7 = some m.cls := hown
  have hl : lv_has ls 6 [(0, .ref (ad (2000))), (1, .int (pi)), (2, .int (o)), (3, .int (mi)), (4, .int (v))] := hl
  have hS : va_S (AA z0) s.heap s.heap [] := va_S.rf
  obtain ⟨ak, al, ab, aw, av, mem, kpt, fgt, cha, cos, fnd, isb, bat, kno, oob, ome, onu, oke, ksc, kme, kob, was, wwa, ⟨h2000, h2002, h2003, h2004, h2005, h2006, h2008, h2009, h2010, h2011, h2012, h2013, h2014, h2015, h2016, h2017, h2018, h2019, h2020, h2023, h2024, h2025, h2026, h2027⟩, ⟨hru, hlv⟩, hrp, hrs⟩ := id hM
  obtain ⟨hO, hkb, hgd⟩ := id hG
  obtain ⟨hn40, hk, hP1, hP4, hK20, hOp, hOs⟩ := id hO
  have hk12 := hk.1
  have o2000 := h2000
  have o2002 := h2002
  have o2003 := h2003
  have o2004 := h2004
  have o2005 := h2005
  have o2006 := h2006
  have o2008 := h2008
  have o2009 := h2009
  have o2010 := h2010
  have o2011 := h2011
  have o2012 := h2012
  have o2013 := h2013
  have o2014 := h2014
  have o2015 := h2015
  have o2016 := h2016
  have o2017 := h2017
  have o2018 := h2018
  have o2019 := h2019
  have o2020 := h2020
  have o2023 := h2023
  have o2024 := h2024
  have o2025 := h2025
  have o2026 := h2026
  have o2027 := h2027
  refine lv_aload_n hx hb dX7_change_0 rfl (lv_at hl 0 rfl) ?_
  refine lv_iload_n hx hb dX7_change_1 rfl (lv_at hl 1 rfl) ?_
  refine vp_callSi (va_Run.run (va_runV (As := [.int (pi)]) (rest := []) ⟨hx, hb, hml, hown, hK.1.use _⟩ (c_X7_isPlan l D cy z0 ad V n k P K ce h2000  (by omega) pi) (k_X7_X7_isPlan hK.1 rfl rfl ⟨Nat.le_of_ble_eq_true rfl, Nat.le_of_ble_eq_true rfl⟩) (preV hK hz hW h2000 rfl) rfl rfl hl.1 rfl (lv_room (Nat.le_of_ble_eq_true rfl)) dX7_change_2 ⟨Nat.le_of_ble_eq_true rfl, Nat.le_of_ble_eq_true rfl⟩)) (fun r2 h2 => ?_)
  have h2 : r2 = b2i (hasB P pi) := h2
  subst h2
  refine lv_if_eq (tgt := 20) hx hb dX7_change_5 (by decide) (fun c5 => ?_) (fun c5 => ?_)
  · skip
    have c5 := b2i_0.mp c5
    have hp : ¬ hasB P pi = true := by rw [c5]; decide
    refine lv_iconst (v := -1) hx hb dX7_change_20 (by decide) ?_
    exact rwi hx hb hr hlocks dX7_change_21 hW hS (xM_none hM hp)
  · skip
    have c5 := b2i_1.mp c5
    have hp : hasB P pi = true := c5
    obtain ⟨epi, hpp⟩ := hasB_of hp (by omega)
    obtain ⟨pp, epp⟩ : ∃ y, y = pi.toNatClampNeg := ⟨_, rfl⟩
    rw [← epp] at epi hpp
    have hPq := hrp.1 pp hpp
    have hgp := hgd pp hpp
    obtain ⟨π, eπ⟩ : ∃ π, π = pl pp := ⟨_, rfl⟩
    rw [← eπ] at hPq hgp
    obtain ⟨hvw, hkp, hfg, ech, eco, efo, ebb, ebt, ekn, hhi⟩ := id hPq
    have hM0 := hgp.ok
    obtain ⟨hZ, hb60, hnx, hkn, hbk, hOk⟩ := id hgp.1
    have hmv : ∀ o, o < n → memV mem pp 2 o = pM π 2 o := fun o ho => hvw 2 (by omega) o (by omega)
    obtain ⟨rk0, ha0⟩ := hM0.2.2.1
    have hacy := acy_c (acy_congr (fun o ho => (hmv o ho).symm) ha0)
    have hgv : ∀ o, o < n → memV mem pp 2 o = -1 ∨ ∃ b, b < n ∧ memV mem pp 2 o = nI b := fun o ho => by rw [hmv o ho]; exact hM0.2.1 o ho
    have hq8_1 : (pi) = (nI pp) := epi
    rw [hq8_1] at hl
    refine lv_aload_n hx hb dX7_change_8 rfl (lv_at hl 0 rfl) ?_
    refine lv_iload_n hx hb dX7_change_9 rfl (lv_at hl 1 rfl) ?_
    refine lv_iload_n hx hb dX7_change_10 rfl (lv_at hl 2 rfl) ?_
    refine lv_iload_n hx hb dX7_change_11 rfl (lv_at hl 3 rfl) ?_
    refine lv_iload hx hb dX7_change_12 (lv_at hl 4 rfl) ?_
    refine vp_callSi (va_Run.run (va_runV (As := [.int (nI pp), .int (o), .int (mi), .int (v)]) (rest := []) ⟨hx, hb, hml, hown, hK.1.use _⟩ (c_X7_isFit l D cy z0 ad V n k P K ce h2000 mem h2008 hn40 pp (by omega) (fun x => crk rk0 x n) hacy.1 hacy.2 hgv o mi v) (k_X7_X7_isFit hK.1 rfl rfl ⟨Nat.le_of_ble_eq_true rfl, Nat.le_of_ble_eq_true rfl⟩) (preV hK hz hW h2000 rfl) rfl rfl hl.1 rfl (lv_room (Nat.le_of_ble_eq_true rfl)) dX7_change_14 ⟨Nat.le_of_ble_eq_true rfl, Nat.le_of_ble_eq_true rfl⟩)) (fun r14 h14 => ?_)
    have h14 : r14 = b2i (tkB n (memV mem pp 2) o mi v) := h14
    subst h14
    refine asi (y := b2i (tkB n (pM π 2) o mi v)) (by rw [tk_c hmv hn40]) ?_
    refine lv_if_ne (tgt := 22) hx hb dX7_change_17 (by decide) (fun c17 => ?_) (fun c17 => ?_)
    · skip
      have c17 := b2i_1.mp c17
      have htk : tkB n (pM π 2) o mi v = true := c17
      obtain ⟨oo, mm, hoo, eo, hm3, em⟩ := tkB_of htk (by omega)
      have eoc : o.toNatClampNeg = oo := by rw [eo]; exact nI_clamp (by omega)
      have emc : mi.toNatClampNeg = mm := by rw [em]; exact nI_clamp (by omega)
      have hM3 : okM n (putM n (pM π) mm oo v) := hM0.put hn40 hoo hm3 (by rw [← eo, ← em]; exact htk)
      have hq22_2 : (o) = (nI oo) := eo
      rw [hq22_2] at hl
      have hq22_3 : (mi) = (nI mm) := em
      rw [hq22_3] at hl
      refine lv_aload_n hx hb dX7_change_22 rfl (lv_at hl 0 rfl) ?_
      refine lv_iload_n hx hb dX7_change_23 rfl (lv_at hl 1 rfl) ?_
      refine cv (va_runV (As := [.int (nI pp)]) (rest := []) ⟨hx, hb, hml, hown, hK.1.use _⟩ (c_X7_remember l D cy z0 ad V n k P K ce h2000 ak h2002 al h2003 ab h2004 aw h2005 mem h2008 was h2026 wwa h2027 hn40 pp (by omega) ρ hk hkb hru (pM π) hvw hM0) (k_X7_X7_remember hK.1 rfl rfl ⟨Nat.le_of_ble_eq_true rfl, Nat.le_of_ble_eq_true rfl⟩) (preV hK hz hW h2000 rfl) rfl rfl hl.1 rfl (lv_room (Nat.le_of_ble_eq_true rfl)) dX7_change_24 ⟨Nat.le_of_ble_eq_true rfl, Nat.le_of_ble_eq_true rfl⟩) hS (fun ad24 Vc24 H locs h24 hW hS => ?_)
      obtain ⟨e24, gex, gfr⟩ := h24
      obtain rfl : ad = ad24 := e24.symm
      obtain ⟨was2, wwa2, h2026, h2027, hwa, hww⟩ := gex
      have hfr : ∀ L, (¬ L = 2026 ∧ ¬ L = 2027) → Vc24 L = V L := fun L hL => gfr L (by omega) (by omega)
      have h2000 := (hfr 2000 (by omega)).trans o2000
      have h2002 := (hfr 2002 (by omega)).trans o2002
      have h2003 := (hfr 2003 (by omega)).trans o2003
      have h2004 := (hfr 2004 (by omega)).trans o2004
      have h2005 := (hfr 2005 (by omega)).trans o2005
      have h2006 := (hfr 2006 (by omega)).trans o2006
      have h2008 := (hfr 2008 (by omega)).trans o2008
      have h2009 := (hfr 2009 (by omega)).trans o2009
      have h2010 := (hfr 2010 (by omega)).trans o2010
      have h2011 := (hfr 2011 (by omega)).trans o2011
      have h2012 := (hfr 2012 (by omega)).trans o2012
      have h2013 := (hfr 2013 (by omega)).trans o2013
      have h2014 := (hfr 2014 (by omega)).trans o2014
      have h2015 := (hfr 2015 (by omega)).trans o2015
      have h2016 := (hfr 2016 (by omega)).trans o2016
      have h2017 := (hfr 2017 (by omega)).trans o2017
      have h2018 := (hfr 2018 (by omega)).trans o2018
      have h2019 := (hfr 2019 (by omega)).trans o2019
      have h2020 := (hfr 2020 (by omega)).trans o2020
      have h2023 := (hfr 2023 (by omega)).trans o2023
      have h2024 := (hfr 2024 (by omega)).trans o2024
      have h2025 := (hfr 2025 (by omega)).trans o2025
      have hw2 : ∀ m, m < 4 → ∀ o, o < 40 → was2 (4 * o + m) = pM π m o := fun m hm o ho => by rw [hwa _ (by omega), ← Nat.add_assoc]; exact hvw m hm o ho
      refine lv_aload_n hx hb dX7_change_27 rfl (lv_at hl 0 rfl) ?_
      refine lv_iload_n hx hb dX7_change_28 rfl (lv_at hl 1 rfl) ?_
      refine lv_iload_n hx hb dX7_change_29 rfl (lv_at hl 2 rfl) ?_
      refine lv_iload_n hx hb dX7_change_30 rfl (lv_at hl 3 rfl) ?_
      refine lv_aload_n hx hb dX7_change_31 rfl (lv_at hl 0 rfl) ?_
      refine g_X7_X7_was hx hb hown hK hW h2000 dX7_change_32 ?_
      refine lv_iconst (v := nI 4) hx hb dX7_change_35 (by decide) ?_
      refine lv_iload_n hx hb dX7_change_36 rfl (lv_at hl 2 rfl) ?_
      refine lv_imul hx hb dX7_change_37 ?_
      refine asi (y := nI (4 * oo)) (pk_mul _ _) ?_
      refine lv_iload_n hx hb dX7_change_38 rfl (lv_at hl 3 rfl) ?_
      refine lv_iadd hx hb dX7_change_39 ?_
      refine asi (y := nI ((4 * oo) + mm)) (nI_add _ _) ?_
      refine w_iald hx hb hK hW h2026 (j := (4 * oo) + mm) (rfl) (by omega) (by omega) dX7_change_40 ?_
      refine asi (y := pM π mm oo) (hw2 mm (by omega) oo (by omega)) ?_
      refine cv (va_runV (As := [.int (nI pp), .int (nI oo), .int (nI mm), .int (pM π mm oo)]) (rest := []) ⟨hx, hb, hml, hown, hK.1.use _⟩ (c_X7_know l D cy z0 ad Vc24 n k P K ce h2000 kpt h2009 isb h2014 bat h2015 kno h2016 oob h2017 ome h2018 onu h2019 oke h2020 hn40 pp (by omega) (pKn π) (if pBb π = true then pBn π else 0) hkn ekn (by split <;> omega) ebt (nI oo) (nI mm) (pM π mm oo)) (k_X7_X7_know hK.1 rfl rfl ⟨Nat.le_of_ble_eq_true rfl, Nat.le_of_ble_eq_true rfl⟩) (preV hK (Nat.le_trans hz hS.1) hW h2000 rfl) rfl rfl hl.1 rfl (lv_room (Nat.le_of_ble_eq_true rfl)) dX7_change_41 ⟨Nat.le_of_ble_eq_true rfl, Nat.le_of_ble_eq_true rfl⟩) hS (fun ad41 Vc41 H locs h41 hW hS => ?_)
      obtain ⟨e41, gk⟩ := h41
      obtain rfl : ad = ad41 := e41.symm
      obtain ⟨h2017, h2018, h2019, h2020, ⟨kno2, h2016, ekn2, hko⟩, ⟨bat2, h2015, ebt2, hbo⟩, gfk⟩ := gk
      have h2000 := (gfk 2000 (by omega)).trans h2000
      have h2002 := (gfk 2002 (by omega)).trans h2002
      have h2003 := (gfk 2003 (by omega)).trans h2003
      have h2004 := (gfk 2004 (by omega)).trans h2004
      have h2005 := (gfk 2005 (by omega)).trans h2005
      have h2006 := (gfk 2006 (by omega)).trans h2006
      have h2008 := (gfk 2008 (by omega)).trans h2008
      have h2009 := (gfk 2009 (by omega)).trans h2009
      have h2010 := (gfk 2010 (by omega)).trans h2010
      have h2011 := (gfk 2011 (by omega)).trans h2011
      have h2012 := (gfk 2012 (by omega)).trans h2012
      have h2013 := (gfk 2013 (by omega)).trans h2013
      have h2014 := (gfk 2014 (by omega)).trans h2014
      have h2023 := (gfk 2023 (by omega)).trans h2023
      have h2024 := (gfk 2024 (by omega)).trans h2024
      have h2025 := (gfk 2025 (by omega)).trans h2025
      have h2026 := (gfk 2026 (by omega)).trans h2026
      have h2027 := (gfk 2027 (by omega)).trans h2027
      have hfk : ∀ L, L < 2000 → Vc41 L = V L := fun L hL => (gfk L (by omega)).trans (hfr L (by omega))
      refine lv_aload_n hx hb dX7_change_44 rfl (lv_at hl 0 rfl) ?_
      refine lv_iload_n hx hb dX7_change_45 rfl (lv_at hl 1 rfl) ?_
      refine lv_iload_n hx hb dX7_change_46 rfl (lv_at hl 2 rfl) ?_
      refine lv_iload_n hx hb dX7_change_47 rfl (lv_at hl 3 rfl) ?_
      refine lv_iload hx hb dX7_change_48 (lv_at hl 4 rfl) ?_
      refine cv (va_runV (As := [.int (nI pp), .int (nI oo), .int (nI mm), .int (v)]) (rest := []) ⟨hx, hb, hml, hown, hK.1.use _⟩ (c_X7_put l D cy z0 ad Vc41 n k P K ce h2000 mem h2008 hn40 pp (by omega) (pM π) hvw oo mm v hoo hm3 hM3) (k_X7_X7_put hK.1 rfl rfl ⟨Nat.le_of_ble_eq_true rfl, Nat.le_of_ble_eq_true rfl⟩) (preV hK (Nat.le_trans hz hS.1) hW h2000 rfl) rfl rfl hl.1 rfl (lv_room (Nat.le_of_ble_eq_true rfl)) dX7_change_50 ⟨Nat.le_of_ble_eq_true rfl, Nat.le_of_ble_eq_true rfl⟩) hS (fun ad50 Vc50 H locs h50 hW hS => ?_)
      obtain ⟨e50, gex2, gfr2⟩ := h50
      obtain rfl : ad = ad50 := e50.symm
      obtain ⟨mem2, h2008, hv2, hmo⟩ := gex2
      have h2000 := (gfr2 2000 (by omega)).trans h2000
      have h2002 := (gfr2 2002 (by omega)).trans h2002
      have h2003 := (gfr2 2003 (by omega)).trans h2003
      have h2004 := (gfr2 2004 (by omega)).trans h2004
      have h2005 := (gfr2 2005 (by omega)).trans h2005
      have h2006 := (gfr2 2006 (by omega)).trans h2006
      have h2009 := (gfr2 2009 (by omega)).trans h2009
      have h2010 := (gfr2 2010 (by omega)).trans h2010
      have h2011 := (gfr2 2011 (by omega)).trans h2011
      have h2012 := (gfr2 2012 (by omega)).trans h2012
      have h2013 := (gfr2 2013 (by omega)).trans h2013
      have h2014 := (gfr2 2014 (by omega)).trans h2014
      have h2015 := (gfr2 2015 (by omega)).trans h2015
      have h2016 := (gfr2 2016 (by omega)).trans h2016
      have h2017 := (gfr2 2017 (by omega)).trans h2017
      have h2018 := (gfr2 2018 (by omega)).trans h2018
      have h2019 := (gfr2 2019 (by omega)).trans h2019
      have h2020 := (gfr2 2020 (by omega)).trans h2020
      have h2023 := (gfr2 2023 (by omega)).trans h2023
      have h2024 := (gfr2 2024 (by omega)).trans h2024
      have h2025 := (gfr2 2025 (by omega)).trans h2025
      have h2026 := (gfr2 2026 (by omega)).trans h2026
      have h2027 := (gfr2 2027 (by omega)).trans h2027
      refine lv_iconst (v := nI 0) hx hb dX7_change_53 (by decide) ?_
      refine lv_istore (lv' := [(5, .int (nI 0)), (0, .ref (ad (2000))), (1, .int (nI pp)), (2, .int (nI oo)), (3, .int (nI mm)), (4, .int (v))]) hx hb dX7_change_54 hl (by decide) rfl (fun ls hl => ?_)
      refine wlh (ι := Nat) (fun r => k - r) (fun r H locs g => (r ≤ k) ∧ (∃ X, (X 2000 = some (.inr (7, [.int (nI n), .int (nI k), .ref (ad (2002)), .ref (ad (2003)), .ref (ad (2004)), .ref (ad (2005)), .ref (ad (2006)), .int (nI P), .ref (ad (2008)), .ref (ad (2009)), .ref (ad (2010)), .ref (ad (2011)), .ref (ad (2012)), .ref (ad (2013)), .ref (ad (2014)), .ref (ad (2015)), .ref (ad (2016)), .ref (ad (2017)), .ref (ad (2018)), .ref (ad (2019)), .ref (ad (2020)), .int (ce), .int (nI K), .ref (ad (2023)), .ref (ad (2024)), .ref (ad (2025)), .ref (ad (2026)), .ref (ad (2027))])) ∧ X 2002 = some (.inl (cy 0, 12, .inl ak)) ∧ X 2003 = some (.inl (cy 0, 12, .inl al)) ∧ X 2004 = some (.inl (cy 0, 12, .inl ab)) ∧ X 2005 = some (.inl (cy 0, 12, .inl aw)) ∧ X 2006 = some (.inl (cy 0, 12, .inl av)) ∧ X 2008 = some (.inl (cy 0, 640, .inl mem2)) ∧ X 2010 = some (.inl (cy 2, 48, .inl (fun r => b2i (fgt r)))) ∧ X 2011 = some (.inl (cy 0, 4, .inl cha)) ∧ X 2012 = some (.inl (cy 0, 4, .inl cos)) ∧ X 2013 = some (.inl (cy 0, 4, .inl fnd)) ∧ X 2014 = some (.inl (cy 2, 4, .inl (fun r => b2i (isb r)))) ∧ X 2015 = some (.inl (cy 0, 4, .inl bat2)) ∧ X 2016 = some (.inl (cy 0, 4, .inl kno2)) ∧ X 2017 = some (.inl (cy 0, 240, .inl (upd (shI oob pp (pKn π)) (60 * pp + kn1 (pKn π)) (nI oo)))) ∧ X 2018 = some (.inl (cy 0, 240, .inl (upd (shI ome pp (pKn π)) (60 * pp + kn1 (pKn π)) (nI mm)))) ∧ X 2019 = some (.inl (cy 0, 240, .inl (upd (shI onu pp (pKn π)) (60 * pp + kn1 (pKn π)) (pM π mm oo)))) ∧ X 2020 = some (.inl (cy 1, 2880, .inr (.inl (cpA kpt (shJ oke pp (pKn π)) (12 * pp) (12 * (60 * pp + kn1 (pKn π))) 12)))) ∧ X 2023 = some (.inl (cy 1, 60, .inr (.inl ksc))) ∧ X 2024 = some (.inl (cy 0, 3200, .inl kme)) ∧ X 2025 = some (.inl (cy 0, 20, .inl kob)) ∧ X 2026 = some (.inl (cy 0, 160, .inl was2)) ∧ X 2027 = some (.inl (cy 1, 12, .inr (.inl wwa2))) ∧ X 2009 = some (.inl (cy 1, 48, .inr (.inl (cpA (fun r => kpt (12 * pp + r) + (if fgt (12 * pp + r) = true then 0 else wthR ρ r (putM n (pM π) mm oo v) n - wthR ρ r (pM π) n)) kpt 0 (12 * pp) r)))) ∧ ∀ L, L < 2000 → X L = V L) ∧ HW D z0 ad X H) ∧ va_S (AA z0) s.heap H locs ∧ ∃ ls, g = F0 m 56 ls [] ∧ lv_has ls 6 [(0, .ref (ad (2000))), (1, .int (nI pp)), (5, .int (nI r))]) ?_ (0) _ _ _ ⟨Nat.zero_le _, ⟨_, ⟨h2000, h2002, h2003, h2004, h2005, h2006, h2008, h2010, h2011, h2012, h2013, h2014, h2015, h2016, h2017, h2018, h2019, h2020, h2023, h2024, h2025, h2026, h2027, by rw [cpA_0]; exact h2009, fun L hL => (gfr2 L (by omega)).trans (hfk L hL)⟩, hW⟩, hS, ls, rfl, lv_sub hl [1, 2, 0] rfl⟩
      intro r H locs g hg ih
      obtain ⟨hr9, ⟨Vn, ⟨h2000, h2002, h2003, h2004, h2005, h2006, h2008, h2010, h2011, h2012, h2013, h2014, h2015, h2016, h2017, h2018, h2019, h2020, h2023, h2024, h2025, h2026, h2027, h2009, hfn⟩, hW⟩, hS, ls, rfl, hl⟩ := hg
      refine lv_iload hx hb dX7_change_56 (lv_at hl 2 rfl) ?_
      refine lv_aload_n hx hb dX7_change_58 rfl (lv_at hl 0 rfl) ?_
      refine g_X7_X7_rules hx hb hown hK hW h2000 dX7_change_59 ?_
      refine lv_icmp_ge (tgt := 120) hx hb dX7_change_62 (by decide) (fun c62 => ?_) (fun c62 => ?_)
      · skip
        have c62 := nI_le' c62 (by omega) (by omega)
        have e9 : r = k := by omega
        rw [e9] at h2009
        refine lv_aload_n hx hb dX7_change_120 rfl (lv_at hl 0 rfl) ?_
        refine g_X7_X7_cost hx hb hown hK hW h2000 dX7_change_121 ?_
        refine lv_iload_n hx hb dX7_change_124 rfl (lv_at hl 1 rfl) ?_
        refine lv_dup2_11 hx hb dX7_change_125 rfl rfl ?_
        refine w_iald hx hb hK hW h2012 (j := pp) (rfl) (by omega) (by omega) dX7_change_126 ?_
        refine asi (y := pCo π) (eco) ?_
        refine lv_aload_n hx hb dX7_change_127 rfl (lv_at hl 0 rfl) ?_
        refine lv_iload_n hx hb dX7_change_128 rfl (lv_at hl 1 rfl) ?_
        refine vp_callSi (va_Run.run (va_runV (As := [.int (nI pp)]) (rest := [.int (pCo π), .int (nI pp), .ref (ad (2012))]) ⟨hx, hb, hml, hown, hK.1.use _⟩ (c_X7_pairs l D cy z0 ad Vn n k P K ce h2000 ak h2002 al h2003 ab h2004 aw h2005 mem2 h2008 was2 h2026 hn40 pp (by omega) ρ hk hkb hru (putM n (pM π) mm oo v) (pM π) hv2 hw2) (k_X7_X7_pairs hK.1 rfl rfl ⟨Nat.le_of_ble_eq_true rfl, Nat.le_of_ble_eq_true rfl⟩) (preV hK (Nat.le_trans hz hS.1) hW h2000 rfl) rfl rfl hl.1 rfl (lv_room (Nat.le_of_ble_eq_true rfl)) dX7_change_129 ⟨Nat.le_of_ble_eq_true rfl, Nat.le_of_ble_eq_true rfl⟩)) (fun r129 h129 => ?_)
        have h129 : r129 = nI (ctS ρ (pM π) (putM n (pM π) mm oo v) n k) := h129
        subst h129
        refine lv_iadd hx hb dX7_change_132 ?_
        refine w_iast hx hb hK hW hS h2012 (j := pp) (rfl) (by omega) (by omega) dX7_change_133 (fun H locs hW hS => ?_)
        obtain ⟨V1, eV1⟩ : ∃ x9, x9 = va_up Vn (2012) (some (.inl (cy 0, 4, .inl (upd cos pp ((pCo π) + (nI (ctS ρ (pM π) (putM n (pM π) mm oo v) n k))))))) := ⟨_, rfl⟩
        rw [← eV1] at hW
        have h2000 : V1 (2000) = some (.inr (7, [.int (nI n), .int (nI k), .ref (ad (2002)), .ref (ad (2003)), .ref (ad (2004)), .ref (ad (2005)), .ref (ad (2006)), .int (nI P), .ref (ad (2008)), .ref (ad (2009)), .ref (ad (2010)), .ref (ad (2011)), .ref (ad (2012)), .ref (ad (2013)), .ref (ad (2014)), .ref (ad (2015)), .ref (ad (2016)), .ref (ad (2017)), .ref (ad (2018)), .ref (ad (2019)), .ref (ad (2020)), .int (ce), .int (nI K), .ref (ad (2023)), .ref (ad (2024)), .ref (ad (2025)), .ref (ad (2026)), .ref (ad (2027))])) := by rw [eV1, va_up_ne _ _ (by omega)]; exact h2000
        have h2002 : V1 (2002) = some (.inl (cy 0, 12, .inl ak)) := by rw [eV1, va_up_ne _ _ (by omega)]; exact h2002
        have h2003 : V1 (2003) = some (.inl (cy 0, 12, .inl al)) := by rw [eV1, va_up_ne _ _ (by omega)]; exact h2003
        have h2004 : V1 (2004) = some (.inl (cy 0, 12, .inl ab)) := by rw [eV1, va_up_ne _ _ (by omega)]; exact h2004
        have h2005 : V1 (2005) = some (.inl (cy 0, 12, .inl aw)) := by rw [eV1, va_up_ne _ _ (by omega)]; exact h2005
        have h2006 : V1 (2006) = some (.inl (cy 0, 12, .inl av)) := by rw [eV1, va_up_ne _ _ (by omega)]; exact h2006
        have h2008 : V1 (2008) = some (.inl (cy 0, 640, .inl mem2)) := by rw [eV1, va_up_ne _ _ (by omega)]; exact h2008
        have h2010 : V1 (2010) = some (.inl (cy 2, 48, .inl (fun r => b2i (fgt r)))) := by rw [eV1, va_up_ne _ _ (by omega)]; exact h2010
        have h2011 : V1 (2011) = some (.inl (cy 0, 4, .inl cha)) := by rw [eV1, va_up_ne _ _ (by omega)]; exact h2011
        have h2013 : V1 (2013) = some (.inl (cy 0, 4, .inl fnd)) := by rw [eV1, va_up_ne _ _ (by omega)]; exact h2013
        have h2014 : V1 (2014) = some (.inl (cy 2, 4, .inl (fun r => b2i (isb r)))) := by rw [eV1, va_up_ne _ _ (by omega)]; exact h2014
        have h2015 : V1 (2015) = some (.inl (cy 0, 4, .inl bat2)) := by rw [eV1, va_up_ne _ _ (by omega)]; exact h2015
        have h2016 : V1 (2016) = some (.inl (cy 0, 4, .inl kno2)) := by rw [eV1, va_up_ne _ _ (by omega)]; exact h2016
        have h2017 : V1 (2017) = some (.inl (cy 0, 240, .inl (upd (shI oob pp (pKn π)) (60 * pp + kn1 (pKn π)) (nI oo)))) := by rw [eV1, va_up_ne _ _ (by omega)]; exact h2017
        have h2018 : V1 (2018) = some (.inl (cy 0, 240, .inl (upd (shI ome pp (pKn π)) (60 * pp + kn1 (pKn π)) (nI mm)))) := by rw [eV1, va_up_ne _ _ (by omega)]; exact h2018
        have h2019 : V1 (2019) = some (.inl (cy 0, 240, .inl (upd (shI onu pp (pKn π)) (60 * pp + kn1 (pKn π)) (pM π mm oo)))) := by rw [eV1, va_up_ne _ _ (by omega)]; exact h2019
        have h2020 : V1 (2020) = some (.inl (cy 1, 2880, .inr (.inl (cpA kpt (shJ oke pp (pKn π)) (12 * pp) (12 * (60 * pp + kn1 (pKn π))) 12)))) := by rw [eV1, va_up_ne _ _ (by omega)]; exact h2020
        have h2023 : V1 (2023) = some (.inl (cy 1, 60, .inr (.inl ksc))) := by rw [eV1, va_up_ne _ _ (by omega)]; exact h2023
        have h2024 : V1 (2024) = some (.inl (cy 0, 3200, .inl kme)) := by rw [eV1, va_up_ne _ _ (by omega)]; exact h2024
        have h2025 : V1 (2025) = some (.inl (cy 0, 20, .inl kob)) := by rw [eV1, va_up_ne _ _ (by omega)]; exact h2025
        have h2026 : V1 (2026) = some (.inl (cy 0, 160, .inl was2)) := by rw [eV1, va_up_ne _ _ (by omega)]; exact h2026
        have h2027 : V1 (2027) = some (.inl (cy 1, 12, .inr (.inl wwa2))) := by rw [eV1, va_up_ne _ _ (by omega)]; exact h2027
        have h2009 : V1 (2009) = some (.inl (cy 1, 48, .inr (.inl (cpA (fun r => kpt (12 * pp + r) + (if fgt (12 * pp + r) = true then 0 else wthR ρ r (putM n (pM π) mm oo v) n - wthR ρ r (pM π) n)) kpt 0 (12 * pp) k)))) := by rw [eV1, va_up_ne _ _ (by omega)]; exact h2009
        have h2012 : V1 (2012) = some (.inl (cy 0, 4, .inl (upd cos pp ((pCo π) + (nI (ctS ρ (pM π) (putM n (pM π) mm oo v) n k)))))) := by rw [eV1, va_up_self]
        refine lv_aload_n hx hb dX7_change_134 rfl (lv_at hl 0 rfl) ?_
        refine g_X7_X7_changes hx hb hown hK hW h2000 dX7_change_135 ?_
        refine lv_iload_n hx hb dX7_change_138 rfl (lv_at hl 1 rfl) ?_
        refine lv_dup2_11 hx hb dX7_change_139 rfl rfl ?_
        refine w_iald hx hb hK hW h2011 (j := pp) (rfl) (by omega) (by omega) dX7_change_140 ?_
        refine asi (y := pCh π) (ech) ?_
        refine lv_iconst (v := nI 1) hx hb dX7_change_141 (by decide) ?_
        refine lv_iadd hx hb dX7_change_142 ?_
        refine w_iast hx hb hK hW hS h2011 (j := pp) (rfl) (by omega) (by omega) dX7_change_143 (fun H locs hW hS => ?_)
        obtain ⟨V2, eV2⟩ : ∃ x9, x9 = va_up V1 (2011) (some (.inl (cy 0, 4, .inl (upd cha pp ((pCh π) + (nI 1)))))) := ⟨_, rfl⟩
        rw [← eV2] at hW
        have h2000 : V2 (2000) = some (.inr (7, [.int (nI n), .int (nI k), .ref (ad (2002)), .ref (ad (2003)), .ref (ad (2004)), .ref (ad (2005)), .ref (ad (2006)), .int (nI P), .ref (ad (2008)), .ref (ad (2009)), .ref (ad (2010)), .ref (ad (2011)), .ref (ad (2012)), .ref (ad (2013)), .ref (ad (2014)), .ref (ad (2015)), .ref (ad (2016)), .ref (ad (2017)), .ref (ad (2018)), .ref (ad (2019)), .ref (ad (2020)), .int (ce), .int (nI K), .ref (ad (2023)), .ref (ad (2024)), .ref (ad (2025)), .ref (ad (2026)), .ref (ad (2027))])) := by rw [eV2, va_up_ne _ _ (by omega)]; exact h2000
        have h2002 : V2 (2002) = some (.inl (cy 0, 12, .inl ak)) := by rw [eV2, va_up_ne _ _ (by omega)]; exact h2002
        have h2003 : V2 (2003) = some (.inl (cy 0, 12, .inl al)) := by rw [eV2, va_up_ne _ _ (by omega)]; exact h2003
        have h2004 : V2 (2004) = some (.inl (cy 0, 12, .inl ab)) := by rw [eV2, va_up_ne _ _ (by omega)]; exact h2004
        have h2005 : V2 (2005) = some (.inl (cy 0, 12, .inl aw)) := by rw [eV2, va_up_ne _ _ (by omega)]; exact h2005
        have h2006 : V2 (2006) = some (.inl (cy 0, 12, .inl av)) := by rw [eV2, va_up_ne _ _ (by omega)]; exact h2006
        have h2008 : V2 (2008) = some (.inl (cy 0, 640, .inl mem2)) := by rw [eV2, va_up_ne _ _ (by omega)]; exact h2008
        have h2010 : V2 (2010) = some (.inl (cy 2, 48, .inl (fun r => b2i (fgt r)))) := by rw [eV2, va_up_ne _ _ (by omega)]; exact h2010
        have h2013 : V2 (2013) = some (.inl (cy 0, 4, .inl fnd)) := by rw [eV2, va_up_ne _ _ (by omega)]; exact h2013
        have h2014 : V2 (2014) = some (.inl (cy 2, 4, .inl (fun r => b2i (isb r)))) := by rw [eV2, va_up_ne _ _ (by omega)]; exact h2014
        have h2015 : V2 (2015) = some (.inl (cy 0, 4, .inl bat2)) := by rw [eV2, va_up_ne _ _ (by omega)]; exact h2015
        have h2016 : V2 (2016) = some (.inl (cy 0, 4, .inl kno2)) := by rw [eV2, va_up_ne _ _ (by omega)]; exact h2016
        have h2017 : V2 (2017) = some (.inl (cy 0, 240, .inl (upd (shI oob pp (pKn π)) (60 * pp + kn1 (pKn π)) (nI oo)))) := by rw [eV2, va_up_ne _ _ (by omega)]; exact h2017
        have h2018 : V2 (2018) = some (.inl (cy 0, 240, .inl (upd (shI ome pp (pKn π)) (60 * pp + kn1 (pKn π)) (nI mm)))) := by rw [eV2, va_up_ne _ _ (by omega)]; exact h2018
        have h2019 : V2 (2019) = some (.inl (cy 0, 240, .inl (upd (shI onu pp (pKn π)) (60 * pp + kn1 (pKn π)) (pM π mm oo)))) := by rw [eV2, va_up_ne _ _ (by omega)]; exact h2019
        have h2020 : V2 (2020) = some (.inl (cy 1, 2880, .inr (.inl (cpA kpt (shJ oke pp (pKn π)) (12 * pp) (12 * (60 * pp + kn1 (pKn π))) 12)))) := by rw [eV2, va_up_ne _ _ (by omega)]; exact h2020
        have h2023 : V2 (2023) = some (.inl (cy 1, 60, .inr (.inl ksc))) := by rw [eV2, va_up_ne _ _ (by omega)]; exact h2023
        have h2024 : V2 (2024) = some (.inl (cy 0, 3200, .inl kme)) := by rw [eV2, va_up_ne _ _ (by omega)]; exact h2024
        have h2025 : V2 (2025) = some (.inl (cy 0, 20, .inl kob)) := by rw [eV2, va_up_ne _ _ (by omega)]; exact h2025
        have h2026 : V2 (2026) = some (.inl (cy 0, 160, .inl was2)) := by rw [eV2, va_up_ne _ _ (by omega)]; exact h2026
        have h2027 : V2 (2027) = some (.inl (cy 1, 12, .inr (.inl wwa2))) := by rw [eV2, va_up_ne _ _ (by omega)]; exact h2027
        have h2009 : V2 (2009) = some (.inl (cy 1, 48, .inr (.inl (cpA (fun r => kpt (12 * pp + r) + (if fgt (12 * pp + r) = true then 0 else wthR ρ r (putM n (pM π) mm oo v) n - wthR ρ r (pM π) n)) kpt 0 (12 * pp) k)))) := by rw [eV2, va_up_ne _ _ (by omega)]; exact h2009
        have h2012 : V2 (2012) = some (.inl (cy 0, 4, .inl (upd cos pp ((pCo π) + (nI (ctS ρ (pM π) (putM n (pM π) mm oo v) n k)))))) := by rw [eV2, va_up_ne _ _ (by omega)]; exact h2012
        have h2011 : V2 (2011) = some (.inl (cy 0, 4, .inl (upd cha pp ((pCh π) + (nI 1))))) := by rw [eV2, va_up_self]
        refine lv_aload_n hx hb dX7_change_144 rfl (lv_at hl 0 rfl) ?_
        refine g_X7_X7_every hx hb hown hK hW h2000 dX7_change_145 ?_
        refine lv_if_le (tgt := 176) hx hb dX7_change_148 (by decide) (fun c148 => ?_) (fun c148 => ?_)
        · skip
          have c148 : ¬ 0 < ce := fun q => by rw [Int32.lt_iff_toInt_lt] at q; rw [Int32.le_iff_toInt_le] at c148; omega
          refine lv_aload_n hx hb dX7_change_176 rfl (lv_at hl 0 rfl) ?_
          refine lv_iload_n hx hb dX7_change_177 rfl (lv_at hl 1 rfl) ?_
          refine vp_callSi (va_Run.run (va_runV (As := [.int (nI pp)]) (rest := []) ⟨hx, hb, hml, hown, hK.1.use _⟩ (c_X7_others l D cy z0 ad V2 n k P K ce h2000 mem2 h2008 was2 h2026 hn40 pp (by omega)) (k_X7_X7_others hK.1 rfl rfl ⟨Nat.le_of_ble_eq_true rfl, Nat.le_of_ble_eq_true rfl⟩) (preV hK (Nat.le_trans hz hS.1) hW h2000 rfl) rfl rfl hl.1 rfl (lv_room (Nat.le_of_ble_eq_true rfl)) dX7_change_178 ⟨Nat.le_of_ble_eq_true rfl, Nat.le_of_ble_eq_true rfl⟩)) (fun r178 h178 => ?_)
          have h178 : r178 = nI (oth was2 (fun j => mem2 (160 * pp + j)) (4 * n)) := h178
          subst h178
          exact rwi hx hb hr hlocks dX7_change_181 hW hS (by
      obtain ⟨hk91, hk92⟩ := kn1_s hkn
      have hkq : ∀ r, r < k → cpA (fun r => kpt (12 * pp + r) + (if fgt (12 * pp + r) = true then 0 else wthR ρ r (putM n (pM π) mm oo v) n - wthR ρ r (pM π) n)) kpt 0 (12 * pp) k (12 * pp + r) = kpU (pK π) (fun r => gnL ρ r (pF π) (pM π) n (putM n (pM π) mm oo v) n) k r := fun r hr => by
        rw [cpA_in hr]
        show kpt (12 * pp + (0 + r)) + (if fgt (12 * pp + (0 + r)) = true then 0 else wthR ρ (0 + r) (putM n (pM π) mm oo v) n - wthR ρ (0 + r) (pM π) n) = _
        rw [Nat.zero_add, hkp r hr, hfg r (by omega)]
        unfold kpU
        rw [if_pos hr]
        show _ = pK π r + gnL ρ r (pF π) (pM π) n _ n
        rw [gn_eq (hk.2 r hr).1 hn40]
      have hbt9 : bat2 pp = nI (if pBb π = true then (if pBb π = true then knU (pBn π) else pBn π) else 0) := by
        rw [ebt2, ebb]
        exact chg_b hkn hbk
      refine xM_new (π := (putM n (pM π) mm oo v, kpU (pK π) (fun r => gnL ρ r (pF π) (pM π) n (putM n (pM π) mm oo v) n) k, pF π, pCh π + nI 1, pCo π + nI (ctS ρ (pM π) (putM n (pM π) mm oo v) n k), pFo π, pBb π, (if pBb π = true then knU (pBn π) else pBn π), upd (pHo π) (pNx π) (nI oo), upd (pHm π) (pNx π) (nI mm), upd (pHv π) (pNx π) (pM π mm oo), hsU (pHs π) (pNx π) (pK π), nxU (pNx π), knU (pKn π))) hp (chg_eq epp eπ htk eo em eoc emc (oth_co (fun m hm o ho => hw2 m hm o (by omega)) (view_oth hv2 hn40)) (if_neg (fun q => c148 q.1))) rfl ?_ (fun L hL => by show V2 L = _; rw [eV2, va_up_ne _ _ (by omega), eV1, va_up_ne _ _ (by omega)]; exact hfn L hL)
      rw [← epp]
      exact ⟨_, _, _, _, _, _, _, _, _, _, _, _, _, _, _, _, _, _, _, _, _, _, _, ⟨h2000, h2002, h2003, h2004, h2005, h2006, h2008, h2009, h2010, h2011, h2012, h2013, h2014, h2015, h2016, h2017, h2018, h2019, h2020, h2023, h2024, h2025, h2026, h2027⟩, ⟨hru, hlv⟩, hrp.up hpp hk12 (fun q hq => (hOp q hq).2.2.2.1) ⟨hv2, hkq, hfg, pk_us, pk_us, efo, ebb, hbt9, ekn2, hisR_push hhi hnx hkn hk12 hkp⟩ hmo (fun j hj => cpA_out (by omega)) (fun _ _ => rfl) (fun j hj => pk_un (by omega)) (fun j hj => pk_un (by omega)) (fun _ _ => rfl) (fun _ _ => rfl) (fun j hj => hbo j hj) (fun j hj => hko j hj) (fun j hj => by rw [pk_un (by omega), shI_out (by omega)]) (fun j hj => by rw [pk_un (by omega), shI_out (by omega)]) (fun j hj => by rw [pk_un (by omega), shI_out (by omega)]) (fun j hj => by rw [cpA_out (by omega), shJ_out (by omega)]), hrs⟩)
        · skip
          have c148 : 0 < ce := by rw [Int32.le_iff_toInt_le] at c148; rw [Int32.lt_iff_toInt_lt]; omega
          have hce : ¬ ce = 0 := fun q => by rw [q, Int32.lt_iff_toInt_lt] at c148; omega
          refine lv_aload_n hx hb dX7_change_151 rfl (lv_at hl 0 rfl) ?_
          refine g_X7_X7_changes hx hb hown hK hW h2000 dX7_change_152 ?_
          refine lv_iload_n hx hb dX7_change_155 rfl (lv_at hl 1 rfl) ?_
          refine w_iald hx hb hK hW h2011 (j := pp) (rfl) (by omega) (by omega) dX7_change_156 ?_
          refine asi (y := pCh π + nI 1) (pk_us) ?_
          refine lv_aload_n hx hb dX7_change_157 rfl (lv_at hl 0 rfl) ?_
          refine g_X7_X7_every hx hb hown hK hW h2000 dX7_change_158 ?_
          refine lv_irem hx hb dX7_change_161 (hce) ?_
          refine lv_if_ne (tgt := 176) hx hb dX7_change_162 (by decide) (fun c162 => ?_) (fun c162 => ?_)
          · skip
            refine lv_aload_n hx hb dX7_change_176 rfl (lv_at hl 0 rfl) ?_
            refine lv_iload_n hx hb dX7_change_177 rfl (lv_at hl 1 rfl) ?_
            refine vp_callSi (va_Run.run (va_runV (As := [.int (nI pp)]) (rest := []) ⟨hx, hb, hml, hown, hK.1.use _⟩ (c_X7_others l D cy z0 ad V2 n k P K ce h2000 mem2 h2008 was2 h2026 hn40 pp (by omega)) (k_X7_X7_others hK.1 rfl rfl ⟨Nat.le_of_ble_eq_true rfl, Nat.le_of_ble_eq_true rfl⟩) (preV hK (Nat.le_trans hz hS.1) hW h2000 rfl) rfl rfl hl.1 rfl (lv_room (Nat.le_of_ble_eq_true rfl)) dX7_change_178 ⟨Nat.le_of_ble_eq_true rfl, Nat.le_of_ble_eq_true rfl⟩)) (fun r178 h178 => ?_)
            have h178 : r178 = nI (oth was2 (fun j => mem2 (160 * pp + j)) (4 * n)) := h178
            subst h178
            exact rwi hx hb hr hlocks dX7_change_181 hW hS (by
      obtain ⟨hk91, hk92⟩ := kn1_s hkn
      have hkq : ∀ r, r < k → cpA (fun r => kpt (12 * pp + r) + (if fgt (12 * pp + r) = true then 0 else wthR ρ r (putM n (pM π) mm oo v) n - wthR ρ r (pM π) n)) kpt 0 (12 * pp) k (12 * pp + r) = kpU (pK π) (fun r => gnL ρ r (pF π) (pM π) n (putM n (pM π) mm oo v) n) k r := fun r hr => by
        rw [cpA_in hr]
        show kpt (12 * pp + (0 + r)) + (if fgt (12 * pp + (0 + r)) = true then 0 else wthR ρ (0 + r) (putM n (pM π) mm oo v) n - wthR ρ (0 + r) (pM π) n) = _
        rw [Nat.zero_add, hkp r hr, hfg r (by omega)]
        unfold kpU
        rw [if_pos hr]
        show _ = pK π r + gnL ρ r (pF π) (pM π) n _ n
        rw [gn_eq (hk.2 r hr).1 hn40]
      have hbt9 : bat2 pp = nI (if pBb π = true then (if pBb π = true then knU (pBn π) else pBn π) else 0) := by
        rw [ebt2, ebb]
        exact chg_b hkn hbk
      refine xM_new (π := (putM n (pM π) mm oo v, kpU (pK π) (fun r => gnL ρ r (pF π) (pM π) n (putM n (pM π) mm oo v) n) k, pF π, pCh π + nI 1, pCo π + nI (ctS ρ (pM π) (putM n (pM π) mm oo v) n k), pFo π, pBb π, (if pBb π = true then knU (pBn π) else pBn π), upd (pHo π) (pNx π) (nI oo), upd (pHm π) (pNx π) (nI mm), upd (pHv π) (pNx π) (pM π mm oo), hsU (pHs π) (pNx π) (pK π), nxU (pNx π), knU (pKn π))) hp (chg_eq epp eπ htk eo em eoc emc (oth_co (fun m hm o ho => hw2 m hm o (by omega)) (view_oth hv2 hn40)) (if_neg (fun q => c162 q.2))) rfl ?_ (fun L hL => by show V2 L = _; rw [eV2, va_up_ne _ _ (by omega), eV1, va_up_ne _ _ (by omega)]; exact hfn L hL)
      rw [← epp]
      exact ⟨_, _, _, _, _, _, _, _, _, _, _, _, _, _, _, _, _, _, _, _, _, _, _, ⟨h2000, h2002, h2003, h2004, h2005, h2006, h2008, h2009, h2010, h2011, h2012, h2013, h2014, h2015, h2016, h2017, h2018, h2019, h2020, h2023, h2024, h2025, h2026, h2027⟩, ⟨hru, hlv⟩, hrp.up hpp hk12 (fun q hq => (hOp q hq).2.2.2.1) ⟨hv2, hkq, hfg, pk_us, pk_us, efo, ebb, hbt9, ekn2, hisR_push hhi hnx hkn hk12 hkp⟩ hmo (fun j hj => cpA_out (by omega)) (fun _ _ => rfl) (fun j hj => pk_un (by omega)) (fun j hj => pk_un (by omega)) (fun _ _ => rfl) (fun _ _ => rfl) (fun j hj => hbo j hj) (fun j hj => hko j hj) (fun j hj => by rw [pk_un (by omega), shI_out (by omega)]) (fun j hj => by rw [pk_un (by omega), shI_out (by omega)]) (fun j hj => by rw [pk_un (by omega), shI_out (by omega)]) (fun j hj => by rw [cpA_out (by omega), shJ_out (by omega)]), hrs⟩)
          · skip
            refine lv_aload_n hx hb dX7_change_165 rfl (lv_at hl 0 rfl) ?_
            refine g_X7_X7_found hx hb hown hK hW h2000 dX7_change_166 ?_
            refine lv_iload_n hx hb dX7_change_169 rfl (lv_at hl 1 rfl) ?_
            refine lv_aload_n hx hb dX7_change_170 rfl (lv_at hl 0 rfl) ?_
            refine lv_iload_n hx hb dX7_change_171 rfl (lv_at hl 1 rfl) ?_
            refine vp_callSi (va_Run.run (va_runV (As := [.int (nI pp)]) (rest := [.int (nI pp), .ref (ad (2013))]) ⟨hx, hb, hml, hown, hK.1.use _⟩ (c_X7_firstFalse l D cy z0 ad V2 n k P K ce h2000 ak h2002 al h2003 ab h2004 aw h2005 mem2 h2008 (cpA (fun r => kpt (12 * pp + r) + (if fgt (12 * pp + r) = true then 0 else wthR ρ r (putM n (pM π) mm oo v) n - wthR ρ r (pM π) n)) kpt 0 (12 * pp) k) h2009 hn40 pp (by omega) ρ hk hkb hru (putM n (pM π) mm oo v) hv2 hM3) (k_X7_X7_firstFalse hK.1 rfl rfl ⟨Nat.le_of_ble_eq_true rfl, Nat.le_of_ble_eq_true rfl⟩) (preV hK (Nat.le_trans hz hS.1) hW h2000 rfl) rfl rfl hl.1 rfl (lv_room (Nat.le_of_ble_eq_true rfl)) dX7_change_172 ⟨Nat.le_of_ble_eq_true rfl, Nat.le_of_ble_eq_true rfl⟩)) (fun r172 h172 => ?_)
            have h172 : r172 = ffI (flB ρ (putM n (pM π) mm oo v) n (fun r => cpA (fun r => kpt (12 * pp + r) + (if fgt (12 * pp + r) = true then 0 else wthR ρ r (putM n (pM π) mm oo v) n - wthR ρ r (pM π) n)) kpt 0 (12 * pp) k (12 * pp + r))) k 0 := h172
            subst h172
            refine w_iast hx hb hK hW hS h2013 (j := pp) (rfl) (by omega) (by omega) dX7_change_175 (fun H locs hW hS => ?_)
            obtain ⟨V3, eV3⟩ : ∃ x9, x9 = va_up V2 (2013) (some (.inl (cy 0, 4, .inl (upd fnd pp (ffI (flB ρ (putM n (pM π) mm oo v) n (fun r => cpA (fun r => kpt (12 * pp + r) + (if fgt (12 * pp + r) = true then 0 else wthR ρ r (putM n (pM π) mm oo v) n - wthR ρ r (pM π) n)) kpt 0 (12 * pp) k (12 * pp + r))) k 0))))) := ⟨_, rfl⟩
            rw [← eV3] at hW
            have h2000 : V3 (2000) = some (.inr (7, [.int (nI n), .int (nI k), .ref (ad (2002)), .ref (ad (2003)), .ref (ad (2004)), .ref (ad (2005)), .ref (ad (2006)), .int (nI P), .ref (ad (2008)), .ref (ad (2009)), .ref (ad (2010)), .ref (ad (2011)), .ref (ad (2012)), .ref (ad (2013)), .ref (ad (2014)), .ref (ad (2015)), .ref (ad (2016)), .ref (ad (2017)), .ref (ad (2018)), .ref (ad (2019)), .ref (ad (2020)), .int (ce), .int (nI K), .ref (ad (2023)), .ref (ad (2024)), .ref (ad (2025)), .ref (ad (2026)), .ref (ad (2027))])) := by rw [eV3, va_up_ne _ _ (by omega)]; exact h2000
            have h2002 : V3 (2002) = some (.inl (cy 0, 12, .inl ak)) := by rw [eV3, va_up_ne _ _ (by omega)]; exact h2002
            have h2003 : V3 (2003) = some (.inl (cy 0, 12, .inl al)) := by rw [eV3, va_up_ne _ _ (by omega)]; exact h2003
            have h2004 : V3 (2004) = some (.inl (cy 0, 12, .inl ab)) := by rw [eV3, va_up_ne _ _ (by omega)]; exact h2004
            have h2005 : V3 (2005) = some (.inl (cy 0, 12, .inl aw)) := by rw [eV3, va_up_ne _ _ (by omega)]; exact h2005
            have h2006 : V3 (2006) = some (.inl (cy 0, 12, .inl av)) := by rw [eV3, va_up_ne _ _ (by omega)]; exact h2006
            have h2008 : V3 (2008) = some (.inl (cy 0, 640, .inl mem2)) := by rw [eV3, va_up_ne _ _ (by omega)]; exact h2008
            have h2010 : V3 (2010) = some (.inl (cy 2, 48, .inl (fun r => b2i (fgt r)))) := by rw [eV3, va_up_ne _ _ (by omega)]; exact h2010
            have h2014 : V3 (2014) = some (.inl (cy 2, 4, .inl (fun r => b2i (isb r)))) := by rw [eV3, va_up_ne _ _ (by omega)]; exact h2014
            have h2015 : V3 (2015) = some (.inl (cy 0, 4, .inl bat2)) := by rw [eV3, va_up_ne _ _ (by omega)]; exact h2015
            have h2016 : V3 (2016) = some (.inl (cy 0, 4, .inl kno2)) := by rw [eV3, va_up_ne _ _ (by omega)]; exact h2016
            have h2017 : V3 (2017) = some (.inl (cy 0, 240, .inl (upd (shI oob pp (pKn π)) (60 * pp + kn1 (pKn π)) (nI oo)))) := by rw [eV3, va_up_ne _ _ (by omega)]; exact h2017
            have h2018 : V3 (2018) = some (.inl (cy 0, 240, .inl (upd (shI ome pp (pKn π)) (60 * pp + kn1 (pKn π)) (nI mm)))) := by rw [eV3, va_up_ne _ _ (by omega)]; exact h2018
            have h2019 : V3 (2019) = some (.inl (cy 0, 240, .inl (upd (shI onu pp (pKn π)) (60 * pp + kn1 (pKn π)) (pM π mm oo)))) := by rw [eV3, va_up_ne _ _ (by omega)]; exact h2019
            have h2020 : V3 (2020) = some (.inl (cy 1, 2880, .inr (.inl (cpA kpt (shJ oke pp (pKn π)) (12 * pp) (12 * (60 * pp + kn1 (pKn π))) 12)))) := by rw [eV3, va_up_ne _ _ (by omega)]; exact h2020
            have h2023 : V3 (2023) = some (.inl (cy 1, 60, .inr (.inl ksc))) := by rw [eV3, va_up_ne _ _ (by omega)]; exact h2023
            have h2024 : V3 (2024) = some (.inl (cy 0, 3200, .inl kme)) := by rw [eV3, va_up_ne _ _ (by omega)]; exact h2024
            have h2025 : V3 (2025) = some (.inl (cy 0, 20, .inl kob)) := by rw [eV3, va_up_ne _ _ (by omega)]; exact h2025
            have h2026 : V3 (2026) = some (.inl (cy 0, 160, .inl was2)) := by rw [eV3, va_up_ne _ _ (by omega)]; exact h2026
            have h2027 : V3 (2027) = some (.inl (cy 1, 12, .inr (.inl wwa2))) := by rw [eV3, va_up_ne _ _ (by omega)]; exact h2027
            have h2009 : V3 (2009) = some (.inl (cy 1, 48, .inr (.inl (cpA (fun r => kpt (12 * pp + r) + (if fgt (12 * pp + r) = true then 0 else wthR ρ r (putM n (pM π) mm oo v) n - wthR ρ r (pM π) n)) kpt 0 (12 * pp) k)))) := by rw [eV3, va_up_ne _ _ (by omega)]; exact h2009
            have h2012 : V3 (2012) = some (.inl (cy 0, 4, .inl (upd cos pp ((pCo π) + (nI (ctS ρ (pM π) (putM n (pM π) mm oo v) n k)))))) := by rw [eV3, va_up_ne _ _ (by omega)]; exact h2012
            have h2011 : V3 (2011) = some (.inl (cy 0, 4, .inl (upd cha pp ((pCh π) + (nI 1))))) := by rw [eV3, va_up_ne _ _ (by omega)]; exact h2011
            have h2013 : V3 (2013) = some (.inl (cy 0, 4, .inl (upd fnd pp (ffI (flB ρ (putM n (pM π) mm oo v) n (fun r => cpA (fun r => kpt (12 * pp + r) + (if fgt (12 * pp + r) = true then 0 else wthR ρ r (putM n (pM π) mm oo v) n - wthR ρ r (pM π) n)) kpt 0 (12 * pp) k (12 * pp + r))) k 0)))) := by rw [eV3, va_up_self]
            refine lv_aload_n hx hb dX7_change_176 rfl (lv_at hl 0 rfl) ?_
            refine lv_iload_n hx hb dX7_change_177 rfl (lv_at hl 1 rfl) ?_
            refine vp_callSi (va_Run.run (va_runV (As := [.int (nI pp)]) (rest := []) ⟨hx, hb, hml, hown, hK.1.use _⟩ (c_X7_others l D cy z0 ad V3 n k P K ce h2000 mem2 h2008 was2 h2026 hn40 pp (by omega)) (k_X7_X7_others hK.1 rfl rfl ⟨Nat.le_of_ble_eq_true rfl, Nat.le_of_ble_eq_true rfl⟩) (preV hK (Nat.le_trans hz hS.1) hW h2000 rfl) rfl rfl hl.1 rfl (lv_room (Nat.le_of_ble_eq_true rfl)) dX7_change_178 ⟨Nat.le_of_ble_eq_true rfl, Nat.le_of_ble_eq_true rfl⟩)) (fun r178 h178 => ?_)
            have h178 : r178 = nI (oth was2 (fun j => mem2 (160 * pp + j)) (4 * n)) := h178
            subst h178
            exact rwi hx hb hr hlocks dX7_change_181 hW hS (by
      obtain ⟨hk91, hk92⟩ := kn1_s hkn
      have hkq : ∀ r, r < k → cpA (fun r => kpt (12 * pp + r) + (if fgt (12 * pp + r) = true then 0 else wthR ρ r (putM n (pM π) mm oo v) n - wthR ρ r (pM π) n)) kpt 0 (12 * pp) k (12 * pp + r) = kpU (pK π) (fun r => gnL ρ r (pF π) (pM π) n (putM n (pM π) mm oo v) n) k r := fun r hr => by
        rw [cpA_in hr]
        show kpt (12 * pp + (0 + r)) + (if fgt (12 * pp + (0 + r)) = true then 0 else wthR ρ (0 + r) (putM n (pM π) mm oo v) n - wthR ρ (0 + r) (pM π) n) = _
        rw [Nat.zero_add, hkp r hr, hfg r (by omega)]
        unfold kpU
        rw [if_pos hr]
        show _ = pK π r + gnL ρ r (pF π) (pM π) n _ n
        rw [gn_eq (hk.2 r hr).1 hn40]
      have hbt9 : bat2 pp = nI (if pBb π = true then (if pBb π = true then knU (pBn π) else pBn π) else 0) := by
        rw [ebt2, ebb]
        exact chg_b hkn hbk
      refine xM_new (π := (putM n (pM π) mm oo v, kpU (pK π) (fun r => gnL ρ r (pF π) (pM π) n (putM n (pM π) mm oo v) n) k, pF π, pCh π + nI 1, pCo π + nI (ctS ρ (pM π) (putM n (pM π) mm oo v) n k), ffI (flB ρ (putM n (pM π) mm oo v) n (kpU (pK π) (fun r => gnL ρ r (pF π) (pM π) n (putM n (pM π) mm oo v) n) k)) k 0, pBb π, (if pBb π = true then knU (pBn π) else pBn π), upd (pHo π) (pNx π) (nI oo), upd (pHm π) (pNx π) (nI mm), upd (pHv π) (pNx π) (pM π mm oo), hsU (pHs π) (pNx π) (pK π), nxU (pNx π), knU (pKn π))) hp (chg_eq epp eπ htk eo em eoc emc (oth_co (fun m hm o ho => hw2 m hm o (by omega)) (view_oth hv2 hn40)) (if_pos ⟨c148, c162⟩)) rfl ?_ (fun L hL => by show V3 L = _; rw [eV3, va_up_ne _ _ (by omega), eV2, va_up_ne _ _ (by omega), eV1, va_up_ne _ _ (by omega)]; exact hfn L hL)
      rw [← epp]
      exact ⟨_, _, _, _, _, _, _, _, _, _, _, _, _, _, _, _, _, _, _, _, _, _, _, ⟨h2000, h2002, h2003, h2004, h2005, h2006, h2008, h2009, h2010, h2011, h2012, h2013, h2014, h2015, h2016, h2017, h2018, h2019, h2020, h2023, h2024, h2025, h2026, h2027⟩, ⟨hru, hlv⟩, hrp.up hpp hk12 (fun q hq => (hOp q hq).2.2.2.1) ⟨hv2, hkq, hfg, pk_us, pk_us, pk_us.trans (fl_c hkq), ebb, hbt9, ekn2, hisR_push hhi hnx hkn hk12 hkp⟩ hmo (fun j hj => cpA_out (by omega)) (fun _ _ => rfl) (fun j hj => pk_un (by omega)) (fun j hj => pk_un (by omega)) (fun j hj => pk_un (by omega)) (fun _ _ => rfl) (fun j hj => hbo j hj) (fun j hj => hko j hj) (fun j hj => by rw [pk_un (by omega), shI_out (by omega)]) (fun j hj => by rw [pk_un (by omega), shI_out (by omega)]) (fun j hj => by rw [pk_un (by omega), shI_out (by omega)]) (fun j hj => by rw [cpA_out (by omega), shJ_out (by omega)]), hrs⟩)
      · skip
        have c62 := nI_nle' c62 (by omega) (by omega)
        refine lv_aload_n hx hb dX7_change_65 rfl (lv_at hl 0 rfl) ?_
        refine g_X7_X7_kept hx hb hown hK hW h2000 dX7_change_66 ?_
        refine lv_bipush (v := nI 12) hx hb dX7_change_69 (by decide) ?_
        refine lv_iload_n hx hb dX7_change_71 rfl (lv_at hl 1 rfl) ?_
        refine lv_imul hx hb dX7_change_72 ?_
        refine asi (y := nI (12 * pp)) (pk_mul _ _) ?_
        refine lv_iload hx hb dX7_change_73 (lv_at hl 2 rfl) ?_
        refine lv_iadd hx hb dX7_change_75 ?_
        refine asi (y := nI ((12 * pp) + r)) (nI_add _ _) ?_
        refine lv_dup2_11 hx hb dX7_change_76 rfl rfl ?_
        refine w_lald hx hb hK hW h2009 (j := (12 * pp) + r) (rfl) (by omega) (by omega) dX7_change_77 ?_
        refine asl (y := kpt (12 * pp + r)) (cpA_out (by omega)) ?_
        refine jl (pcj := 112) (st := [.long (if fgt (12 * pp + r) = true then 0 else wthR ρ r (putM n (pM π) mm oo v) n - wthR ρ r (pM π) n), .long (kpt (12 * pp + r)), .int (nI ((12 * pp) + r)), .ref (ad (2009))]) (nL := 6) (lv := [(0, .ref (ad (2000))), (1, .int (nI pp)), (5, .int (nI r))]) (fun KJ => ?_) (fun ls hl => ?_)
        · skip
          refine lv_aload_n hx hb dX7_change_78 rfl (lv_at hl 0 rfl) ?_
          refine g_X7_X7_forgets hx hb hown hK hW h2000 dX7_change_79 ?_
          refine lv_bipush (v := nI 12) hx hb dX7_change_82 (by decide) ?_
          refine lv_iload_n hx hb dX7_change_84 rfl (lv_at hl 1 rfl) ?_
          refine lv_imul hx hb dX7_change_85 ?_
          refine asi (y := nI (12 * pp)) (pk_mul _ _) ?_
          refine lv_iload hx hb dX7_change_86 (lv_at hl 2 rfl) ?_
          refine lv_iadd hx hb dX7_change_88 ?_
          refine asi (y := nI ((12 * pp) + r)) (nI_add _ _) ?_
          refine w_zald hx hb hK hW h2010 (j := (12 * pp) + r) (rfl) (by omega) (by omega) dX7_change_89 ?_
          refine lv_if_eq (tgt := 97) hx hb dX7_change_90 (by decide) (fun c90 => ?_) (fun c90 => ?_)
          · skip
            have c90 := b2i_0.mp c90
            refine lv_aload_n hx hb dX7_change_97 rfl (lv_at hl 0 rfl) ?_
            refine lv_iload_n hx hb dX7_change_98 rfl (lv_at hl 1 rfl) ?_
            refine lv_iload hx hb dX7_change_99 (lv_at hl 2 rfl) ?_
            refine vp_callSl (va_Run.run (va_runV (As := [.int (nI pp), .int (nI r)]) (rest := [.long (kpt (12 * pp + r)), .int (nI ((12 * pp) + r)), .ref (ad (2009))]) ⟨hx, hb, hml, hown, hK.1.use _⟩ (c_X7_worthP l D cy z0 ad Vn n k P K ce h2000 ak h2002 al h2003 ab h2004 aw h2005 mem2 h2008 hn40 pp (by omega) ρ ((putM n (pM π) mm oo v)) hv2 hM3 r (by have := hk.1; omega) (hk.2 r (by omega)) (hkb r (by omega)) (hru r (by omega))) (k_X7_X7_worthOf hK.1 rfl rfl ⟨Nat.le_of_ble_eq_true rfl, Nat.le_of_ble_eq_true rfl⟩) (preV hK (Nat.le_trans hz hS.1) hW h2000 rfl) rfl rfl hl.1 rfl (lv_room (Nat.le_of_ble_eq_true rfl)) dX7_change_101 ⟨Nat.le_of_ble_eq_true rfl, Nat.le_of_ble_eq_true rfl⟩)) (fun r101 h101 => ?_)
            have h101 : r101 = wthR ρ r ((putM n (pM π) mm oo v)) n := h101
            subst h101
            refine lv_aload_n hx hb dX7_change_104 rfl (lv_at hl 0 rfl) ?_
            refine g_X7_X7_worthWas hx hb hown hK hW h2000 dX7_change_105 ?_
            refine lv_iload hx hb dX7_change_108 (lv_at hl 2 rfl) ?_
            refine w_lald hx hb hK hW h2027 (j := r) (rfl) (by omega) (by omega) dX7_change_110 ?_
            refine asl (y := wthR ρ r (pM π) n) (hww r (by omega)) ?_
            refine lv_lsub hx hb dX7_change_111 ?_
            refine asl (y := if fgt (12 * pp + r) = true then 0 else wthR ρ r (putM n (pM π) mm oo v) n - wthR ρ r (pM π) n) (by simp [c90]) ?_
            exact KJ ls (lv_sub hl [0, 1, 2] rfl)
          · skip
            have c90 := b2i_1.mp c90
            refine lv_lconst (v := 0) hx hb dX7_change_93 (by decide) ?_
            refine lv_goto (tgt := 112) hx hb dX7_change_94 (by decide) ?_
            refine asl (y := if fgt (12 * pp + r) = true then 0 else wthR ρ r (putM n (pM π) mm oo v) n - wthR ρ r (pM π) n) (by simp [c90]) ?_
            exact KJ ls (lv_sub hl [0, 1, 2] rfl)
        · skip
          refine lv_ladd hx hb dX7_change_112 ?_
          refine w_last hx hb hK hW hS h2009 (j := (12 * pp) + r) (rfl) (by omega) (by omega) dX7_change_113 (fun H locs hW hS => ?_)
          obtain ⟨V4, eV4⟩ : ∃ x9, x9 = va_up Vn (2009) (some (.inl (cy 1, 48, .inr (.inl (vp_updL (cpA (fun r => kpt (12 * pp + r) + (if fgt (12 * pp + r) = true then 0 else wthR ρ r (putM n (pM π) mm oo v) n - wthR ρ r (pM π) n)) kpt 0 (12 * pp) r) ((12 * pp) + r) ((kpt (12 * pp + r)) + (if fgt (12 * pp + r) = true then 0 else wthR ρ r (putM n (pM π) mm oo v) n - wthR ρ r (pM π) n))))))) := ⟨_, rfl⟩
          rw [← eV4] at hW
          have h2000 : V4 (2000) = some (.inr (7, [.int (nI n), .int (nI k), .ref (ad (2002)), .ref (ad (2003)), .ref (ad (2004)), .ref (ad (2005)), .ref (ad (2006)), .int (nI P), .ref (ad (2008)), .ref (ad (2009)), .ref (ad (2010)), .ref (ad (2011)), .ref (ad (2012)), .ref (ad (2013)), .ref (ad (2014)), .ref (ad (2015)), .ref (ad (2016)), .ref (ad (2017)), .ref (ad (2018)), .ref (ad (2019)), .ref (ad (2020)), .int (ce), .int (nI K), .ref (ad (2023)), .ref (ad (2024)), .ref (ad (2025)), .ref (ad (2026)), .ref (ad (2027))])) := by rw [eV4, va_up_ne _ _ (by omega)]; exact h2000
          have h2002 : V4 (2002) = some (.inl (cy 0, 12, .inl ak)) := by rw [eV4, va_up_ne _ _ (by omega)]; exact h2002
          have h2003 : V4 (2003) = some (.inl (cy 0, 12, .inl al)) := by rw [eV4, va_up_ne _ _ (by omega)]; exact h2003
          have h2004 : V4 (2004) = some (.inl (cy 0, 12, .inl ab)) := by rw [eV4, va_up_ne _ _ (by omega)]; exact h2004
          have h2005 : V4 (2005) = some (.inl (cy 0, 12, .inl aw)) := by rw [eV4, va_up_ne _ _ (by omega)]; exact h2005
          have h2006 : V4 (2006) = some (.inl (cy 0, 12, .inl av)) := by rw [eV4, va_up_ne _ _ (by omega)]; exact h2006
          have h2008 : V4 (2008) = some (.inl (cy 0, 640, .inl mem2)) := by rw [eV4, va_up_ne _ _ (by omega)]; exact h2008
          have h2010 : V4 (2010) = some (.inl (cy 2, 48, .inl (fun r => b2i (fgt r)))) := by rw [eV4, va_up_ne _ _ (by omega)]; exact h2010
          have h2011 : V4 (2011) = some (.inl (cy 0, 4, .inl cha)) := by rw [eV4, va_up_ne _ _ (by omega)]; exact h2011
          have h2012 : V4 (2012) = some (.inl (cy 0, 4, .inl cos)) := by rw [eV4, va_up_ne _ _ (by omega)]; exact h2012
          have h2013 : V4 (2013) = some (.inl (cy 0, 4, .inl fnd)) := by rw [eV4, va_up_ne _ _ (by omega)]; exact h2013
          have h2014 : V4 (2014) = some (.inl (cy 2, 4, .inl (fun r => b2i (isb r)))) := by rw [eV4, va_up_ne _ _ (by omega)]; exact h2014
          have h2015 : V4 (2015) = some (.inl (cy 0, 4, .inl bat2)) := by rw [eV4, va_up_ne _ _ (by omega)]; exact h2015
          have h2016 : V4 (2016) = some (.inl (cy 0, 4, .inl kno2)) := by rw [eV4, va_up_ne _ _ (by omega)]; exact h2016
          have h2017 : V4 (2017) = some (.inl (cy 0, 240, .inl (upd (shI oob pp (pKn π)) (60 * pp + kn1 (pKn π)) (nI oo)))) := by rw [eV4, va_up_ne _ _ (by omega)]; exact h2017
          have h2018 : V4 (2018) = some (.inl (cy 0, 240, .inl (upd (shI ome pp (pKn π)) (60 * pp + kn1 (pKn π)) (nI mm)))) := by rw [eV4, va_up_ne _ _ (by omega)]; exact h2018
          have h2019 : V4 (2019) = some (.inl (cy 0, 240, .inl (upd (shI onu pp (pKn π)) (60 * pp + kn1 (pKn π)) (pM π mm oo)))) := by rw [eV4, va_up_ne _ _ (by omega)]; exact h2019
          have h2020 : V4 (2020) = some (.inl (cy 1, 2880, .inr (.inl (cpA kpt (shJ oke pp (pKn π)) (12 * pp) (12 * (60 * pp + kn1 (pKn π))) 12)))) := by rw [eV4, va_up_ne _ _ (by omega)]; exact h2020
          have h2023 : V4 (2023) = some (.inl (cy 1, 60, .inr (.inl ksc))) := by rw [eV4, va_up_ne _ _ (by omega)]; exact h2023
          have h2024 : V4 (2024) = some (.inl (cy 0, 3200, .inl kme)) := by rw [eV4, va_up_ne _ _ (by omega)]; exact h2024
          have h2025 : V4 (2025) = some (.inl (cy 0, 20, .inl kob)) := by rw [eV4, va_up_ne _ _ (by omega)]; exact h2025
          have h2026 : V4 (2026) = some (.inl (cy 0, 160, .inl was2)) := by rw [eV4, va_up_ne _ _ (by omega)]; exact h2026
          have h2027 : V4 (2027) = some (.inl (cy 1, 12, .inr (.inl wwa2))) := by rw [eV4, va_up_ne _ _ (by omega)]; exact h2027
          have h2009 : V4 (2009) = some (.inl (cy 1, 48, .inr (.inl (vp_updL (cpA (fun r => kpt (12 * pp + r) + (if fgt (12 * pp + r) = true then 0 else wthR ρ r (putM n (pM π) mm oo v) n - wthR ρ r (pM π) n)) kpt 0 (12 * pp) r) ((12 * pp) + r) ((kpt (12 * pp + r)) + (if fgt (12 * pp + r) = true then 0 else wthR ρ r (putM n (pM π) mm oo v) n - wthR ρ r (pM π) n)))))) := by rw [eV4, va_up_self]
          refine lv_iinc (v := nI (r + 1)) (lv' := [(5, .int (nI (r + 1))), (0, .ref (ad (2000))), (1, .int (nI pp))]) hx hb dX7_change_114 hl (k := 2) rfl (by rw [show Int32.ofInt 1 = nI 1 from by decide]; exact nI_add _ _) (by decide) rfl (fun ls hl => ?_)
          refine lv_goto (tgt := 56) hx hb dX7_change_117 (by decide) ?_
          exact ih (r + 1) _ _ _ ⟨by omega, ⟨_, ⟨h2000, h2002, h2003, h2004, h2005, h2006, h2008, h2010, h2011, h2012, h2013, h2014, h2015, h2016, h2017, h2018, h2019, h2020, h2023, h2024, h2025, h2026, h2027, by rw [← cpA_l, Nat.zero_add]; exact h2009, fun L hL => by rw [eV4, va_up_ne _ _ (by omega)]; exact hfn L hL⟩, hW⟩, hS, ls, rfl, lv_sub hl [1, 2, 0] rfl⟩ (by omega)
    · skip
      have c17 := b2i_0.mp c17
      refine lv_iconst (v := -1) hx hb dX7_change_20 (by decide) ?_
      exact rwi hx hb hr hlocks dX7_change_21 hW hS (xM_same hM hp (by rw [← epp, ← eπ]; exact if_neg (by rw [c17]; decide)))

set_option maxHeartbeats 4000000 in
set_option maxRecDepth 100000 in
theorem c_X7_attempt (l : Launch) (D : va_G) (cy : Nat → ClassId) (z0 : Nat) (ad : Nat → Nat) (V : Nat → Option va_E) (c0 n k P K : Nat) (ce : Int32) (ρ : RuT) (pl : Nat → PlT) (sn : Nat → SnT) (hM : isM ad V cy n k P K ce ρ pl sn) (hG : gdX c0 n k P K ρ pl sn) (pi o mi v lv : Int32) : Met l yX7_attempt [Cond.code yX7_attempt cX7_attempt 9 (some .long)] { frames := 3, cells := 0, slots := 0, locals := 79 } (WP [.ref (ad (2000)), .int (pi), .int (o), .int (mi), .int (v), .int (lv)] D cy z0 ad V) (va_Ql (fun r u => r = xAttempt n k P ρ pl pi o mi v lv ∧ u.1 = ad ∧ isM ad u.2 cy n k P K ce ρ pl sn ∧ ∀ L, L < 2000 → u.2 L = V L) (WB D z0) (AA z0)) 0 0 (AA z0) := by
  refine met_of (by decide) (Nat.le_of_ble_eq_true rfl) (fun p e s m below meth c hx hb hr hml hown hlocks hnm hK hz hW ls hl => ?_)
  have hown : s.vm.findClass RX7 = some m.cls := hown
  have hl : lv_has ls 9 [(0, .ref (ad (2000))), (1, .int (pi)), (2, .int (o)), (3, .int (mi)), (4, .int (v)), (5, .int (lv))] := hl
  have hS : va_S (AA z0) s.heap s.heap [] := va_S.rf
  obtain ⟨ak, al, ab, aw, av, mem, kpt, fgt, cha, cos, fnd, isb, bat, kno, oob, ome, onu, oke, ksc, kme, kob, was, wwa, ⟨h2000, h2002, h2003, h2004, h2005, h2006, h2008, h2009, h2010, h2011, h2012, h2013, h2014, h2015, h2016, h2017, h2018, h2019, h2020, h2023, h2024, h2025, h2026, h2027⟩, ⟨hru, hlv⟩, hrp, hrs⟩ := id hM
  obtain ⟨hO, hkb, hgd⟩ := id hG
  obtain ⟨hn40, hk, hP1, hP4, hK20, hOp, hOs⟩ := id hO
  have hk12 := hk.1
  have o2000 := h2000
  have o2002 := h2002
  have o2003 := h2003
  have o2004 := h2004
  have o2005 := h2005
  have o2006 := h2006
  have o2008 := h2008
  have o2009 := h2009
  have o2010 := h2010
  have o2011 := h2011
  have o2012 := h2012
  have o2013 := h2013
  have o2014 := h2014
  have o2015 := h2015
  have o2016 := h2016
  have o2017 := h2017
  have o2018 := h2018
  have o2019 := h2019
  have o2020 := h2020
  have o2023 := h2023
  have o2024 := h2024
  have o2025 := h2025
  have o2026 := h2026
  have o2027 := h2027
  refine lv_aload_n hx hb dX7_attempt_0 rfl (lv_at hl 0 rfl) ?_
  refine lv_iload_n hx hb dX7_attempt_1 rfl (lv_at hl 1 rfl) ?_
  refine vp_callSi (va_Run.run (va_runV (As := [.int (pi)]) (rest := []) ⟨hx, hb, hml, hown, hK.1.use _⟩ (c_X7_isPlan l D cy z0 ad V n k P K ce h2000  (by omega) pi) (k_X7_X7_isPlan hK.1 rfl rfl ⟨Nat.le_of_ble_eq_true rfl, Nat.le_of_ble_eq_true rfl⟩) (preV hK hz hW h2000 rfl) rfl rfl hl.1 rfl (lv_room (Nat.le_of_ble_eq_true rfl)) dX7_attempt_2 ⟨Nat.le_of_ble_eq_true rfl, Nat.le_of_ble_eq_true rfl⟩)) (fun r2 h2 => ?_)
  have h2 : r2 = b2i (hasB P pi) := h2
  subst h2
  refine lv_if_eq (tgt := 18) hx hb dX7_attempt_5 (by decide) (fun c5 => ?_) (fun c5 => ?_)
  · skip
    have c5 := b2i_0.mp c5
    have hp : ¬ hasB P pi = true := by rw [c5]; decide
    refine lv_ldc2 (v := -1) hx hb hown (hK.1.use _ _ tw_655) dX7_attempt_18 ?_
    exact rwl hx hb hr hlocks dX7_attempt_21 hW hS (⟨by unfold xAttempt; rw [if_neg (fun q => hp q.1)], rfl, hM, fun L _ => rfl⟩)
  · skip
    have c5 := b2i_1.mp c5
    have hp : hasB P pi = true := c5
    obtain ⟨epi, hpp⟩ := hasB_of hp (by omega)
    obtain ⟨pp, epp⟩ : ∃ y, y = pi.toNatClampNeg := ⟨_, rfl⟩
    rw [← epp] at epi hpp
    have hPq := hrp.1 pp hpp
    have hgp := hgd pp hpp
    obtain ⟨π, eπ⟩ : ∃ π, π = pl pp := ⟨_, rfl⟩
    rw [← eπ] at hPq hgp
    obtain ⟨hvw, hkp, hfg, ech, eco, efo, ebb, ebt, ekn, hhi⟩ := id hPq
    have hM0 := hgp.ok
    obtain ⟨hZ, hb60, hnx, hkn, hbk, hOk⟩ := id hgp.1
    have hmv : ∀ o, o < n → memV mem pp 2 o = pM π 2 o := fun o ho => hvw 2 (by omega) o (by omega)
    obtain ⟨rk0, ha0⟩ := hM0.2.2.1
    have hacy := acy_c (acy_congr (fun o ho => (hmv o ho).symm) ha0)
    have hgv : ∀ o, o < n → memV mem pp 2 o = -1 ∨ ∃ b, b < n ∧ memV mem pp 2 o = nI b := fun o ho => by rw [hmv o ho]; exact hM0.2.1 o ho
    have hq8_1 : (pi) = (nI pp) := epi
    rw [hq8_1] at hl
    refine lv_iload hx hb dX7_attempt_8 (lv_at hl 5 rfl) ?_
    refine lv_iconst (v := nI 0) hx hb dX7_attempt_10 (by decide) ?_
    refine lv_iconst (v := nI 2) hx hb dX7_attempt_11 (by decide) ?_
    refine vp_callSi (va_Run.run (va_runS (As := [.int (lv), .int (nI 0), .int (nI 2)]) (rest := []) ⟨hx, hb, hml, hown, hK.1.use _⟩ (c_X7_in l D cy z0 ad V lv (nI 0) (nI 2)) (k_X7_X7_in hK.1 rfl rfl ⟨Nat.le_of_ble_eq_true rfl, Nat.le_of_ble_eq_true rfl⟩) (preS hK hz hW) rfl rfl hl.1 rfl (lv_room (Nat.le_of_ble_eq_true rfl)) dX7_attempt_12 ⟨Nat.le_of_ble_eq_true rfl, Nat.le_of_ble_eq_true rfl⟩)) (fun r12 h12 => ?_)
    have h12 : r12 = b2i (wiB lv (nI 0) (nI 2)) := h12
    subst h12
    refine lv_if_ne (tgt := 22) hx hb dX7_attempt_15 (by decide) (fun c15 => ?_) (fun c15 => ?_)
    · skip
      have c15 := b2i_1.mp c15
      refine lv_aload_n hx hb dX7_attempt_22 rfl (lv_at hl 0 rfl) ?_
      refine lv_iload_n hx hb dX7_attempt_23 rfl (lv_at hl 1 rfl) ?_
      refine lv_iload hx hb dX7_attempt_24 (lv_at hl 5 rfl) ?_
      refine vp_callSl (va_Run.run (va_runV (As := [.int (nI pp), .int (lv)]) (rest := []) ⟨hx, hb, hml, hown, hK.1.use _⟩ (c_X7_scoreOf l D cy z0 ad V n k P K ce h2000 av h2006 kpt h2009 hk12 pp (by omega) lv) (k_X7_X7_scoreOf hK.1 rfl rfl ⟨Nat.le_of_ble_eq_true rfl, Nat.le_of_ble_eq_true rfl⟩) (preV hK hz hW h2000 rfl) rfl rfl hl.1 rfl (lv_room (Nat.le_of_ble_eq_true rfl)) dX7_attempt_26 ⟨Nat.le_of_ble_eq_true rfl, Nat.le_of_ble_eq_true rfl⟩)) (fun r26 h26 => ?_)
      have h26 : r26 = scR av kpt pp lv k := h26
      subst h26
      refine asl (y := scL ρ (pK π) lv k) (scr_eq k hlv hkp) ?_
      refine lv_lstore (lv' := [(6, .long (scL ρ (pK π) lv k)), (0, .ref (ad (2000))), (1, .int (nI pp)), (2, .int (o)), (3, .int (mi)), (4, .int (v)), (5, .int (lv))]) hx hb dX7_attempt_29 hl (by decide) rfl (fun ls hl => ?_)
      refine lv_aload_n hx hb dX7_attempt_31 rfl (lv_at hl 1 rfl) ?_
      refine lv_iload_n hx hb dX7_attempt_32 rfl (lv_at hl 2 rfl) ?_
      refine lv_iload_n hx hb dX7_attempt_33 rfl (lv_at hl 3 rfl) ?_
      refine lv_iload_n hx hb dX7_attempt_34 rfl (lv_at hl 4 rfl) ?_
      refine lv_iload hx hb dX7_attempt_35 (lv_at hl 5 rfl) ?_
      refine vp_callSi (va_Run.run (va_runV (As := [.int (nI pp), .int (o), .int (mi), .int (v)]) (rest := []) ⟨hx, hb, hml, hown, hK.1.use _⟩ (c_X7_isFit l D cy z0 ad V n k P K ce h2000 mem h2008 hn40 pp (by omega) (fun x => crk rk0 x n) hacy.1 hacy.2 hgv o mi v) (k_X7_X7_isFit hK.1 rfl rfl ⟨Nat.le_of_ble_eq_true rfl, Nat.le_of_ble_eq_true rfl⟩) (preV hK hz hW h2000 rfl) rfl rfl hl.1 rfl (lv_room (Nat.le_of_ble_eq_true rfl)) dX7_attempt_37 ⟨Nat.le_of_ble_eq_true rfl, Nat.le_of_ble_eq_true rfl⟩)) (fun r37 h37 => ?_)
      have h37 : r37 = b2i (tkB n (memV mem pp 2) o mi v) := h37
      subst h37
      refine asi (y := b2i (tkB n (pM π 2) o mi v)) (by rw [tk_c hmv hn40]) ?_
      refine lv_if_ne (tgt := 46) hx hb dX7_attempt_40 (by decide) (fun c40 => ?_) (fun c40 => ?_)
      · skip
        have c40 := b2i_1.mp c40
        have htk : tkB n (pM π 2) o mi v = true := c40
        obtain ⟨oo, mm, hoo, eo, hm3, em⟩ := tkB_of htk (by omega)
        have eoc : o.toNatClampNeg = oo := by rw [eo]; exact nI_clamp (by omega)
        have emc : mi.toNatClampNeg = mm := by rw [em]; exact nI_clamp (by omega)
        have hM3 : okM n (putM n (pM π) mm oo v) := hM0.put hn40 hoo hm3 (by rw [← eo, ← em]; exact htk)
        have hq46_2 : (o) = (nI oo) := eo
        rw [hq46_2] at hl
        have hq46_3 : (mi) = (nI mm) := em
        rw [hq46_3] at hl
        refine lv_aload_n hx hb dX7_attempt_46 rfl (lv_at hl 1 rfl) ?_
        refine lv_iload_n hx hb dX7_attempt_47 rfl (lv_at hl 2 rfl) ?_
        refine cv (va_runV (As := [.int (nI pp)]) (rest := []) ⟨hx, hb, hml, hown, hK.1.use _⟩ (c_X7_remember l D cy z0 ad V n k P K ce h2000 ak h2002 al h2003 ab h2004 aw h2005 mem h2008 was h2026 wwa h2027 hn40 pp (by omega) ρ hk hkb hru (pM π) hvw hM0) (k_X7_X7_remember hK.1 rfl rfl ⟨Nat.le_of_ble_eq_true rfl, Nat.le_of_ble_eq_true rfl⟩) (preV hK hz hW h2000 rfl) rfl rfl hl.1 rfl (lv_room (Nat.le_of_ble_eq_true rfl)) dX7_attempt_48 ⟨Nat.le_of_ble_eq_true rfl, Nat.le_of_ble_eq_true rfl⟩) hS (fun ad48 Vc48 H locs h48 hW hS => ?_)
        obtain ⟨e48, gex, gfr⟩ := h48
        obtain rfl : ad = ad48 := e48.symm
        obtain ⟨was2, wwa2, h2026, h2027, hwa, hww⟩ := gex
        have hfr : ∀ L, (¬ L = 2026 ∧ ¬ L = 2027) → Vc48 L = V L := fun L hL => gfr L (by omega) (by omega)
        have h2000 := (hfr 2000 (by omega)).trans o2000
        have h2002 := (hfr 2002 (by omega)).trans o2002
        have h2003 := (hfr 2003 (by omega)).trans o2003
        have h2004 := (hfr 2004 (by omega)).trans o2004
        have h2005 := (hfr 2005 (by omega)).trans o2005
        have h2006 := (hfr 2006 (by omega)).trans o2006
        have h2008 := (hfr 2008 (by omega)).trans o2008
        have h2009 := (hfr 2009 (by omega)).trans o2009
        have h2010 := (hfr 2010 (by omega)).trans o2010
        have h2011 := (hfr 2011 (by omega)).trans o2011
        have h2012 := (hfr 2012 (by omega)).trans o2012
        have h2013 := (hfr 2013 (by omega)).trans o2013
        have h2014 := (hfr 2014 (by omega)).trans o2014
        have h2015 := (hfr 2015 (by omega)).trans o2015
        have h2016 := (hfr 2016 (by omega)).trans o2016
        have h2017 := (hfr 2017 (by omega)).trans o2017
        have h2018 := (hfr 2018 (by omega)).trans o2018
        have h2019 := (hfr 2019 (by omega)).trans o2019
        have h2020 := (hfr 2020 (by omega)).trans o2020
        have h2023 := (hfr 2023 (by omega)).trans o2023
        have h2024 := (hfr 2024 (by omega)).trans o2024
        have h2025 := (hfr 2025 (by omega)).trans o2025
        have hw2 : ∀ m, m < 4 → ∀ o, o < 40 → was2 (4 * o + m) = pM π m o := fun m hm o ho => by rw [hwa _ (by omega), ← Nat.add_assoc]; exact hvw m hm o ho
        refine lv_aload_n hx hb dX7_attempt_51 rfl (lv_at hl 1 rfl) ?_
        refine lv_iload_n hx hb dX7_attempt_52 rfl (lv_at hl 2 rfl) ?_
        refine lv_iload_n hx hb dX7_attempt_53 rfl (lv_at hl 3 rfl) ?_
        refine lv_iload_n hx hb dX7_attempt_54 rfl (lv_at hl 4 rfl) ?_
        refine lv_iload hx hb dX7_attempt_55 (lv_at hl 5 rfl) ?_
        refine cv (va_runV (As := [.int (nI pp), .int (nI oo), .int (nI mm), .int (v)]) (rest := []) ⟨hx, hb, hml, hown, hK.1.use _⟩ (c_X7_put l D cy z0 ad Vc48 n k P K ce h2000 mem h2008 hn40 pp (by omega) (pM π) hvw oo mm v hoo hm3 hM3) (k_X7_X7_put hK.1 rfl rfl ⟨Nat.le_of_ble_eq_true rfl, Nat.le_of_ble_eq_true rfl⟩) (preV hK (Nat.le_trans hz hS.1) hW h2000 rfl) rfl rfl hl.1 rfl (lv_room (Nat.le_of_ble_eq_true rfl)) dX7_attempt_57 ⟨Nat.le_of_ble_eq_true rfl, Nat.le_of_ble_eq_true rfl⟩) hS (fun ad57 Vc57 H locs h57 hW hS => ?_)
        obtain ⟨e57, gex2, gfr2⟩ := h57
        obtain rfl : ad = ad57 := e57.symm
        obtain ⟨mem2, h2008, hv2, hmo⟩ := gex2
        have h2000 := (gfr2 2000 (by omega)).trans h2000
        have h2002 := (gfr2 2002 (by omega)).trans h2002
        have h2003 := (gfr2 2003 (by omega)).trans h2003
        have h2004 := (gfr2 2004 (by omega)).trans h2004
        have h2005 := (gfr2 2005 (by omega)).trans h2005
        have h2006 := (gfr2 2006 (by omega)).trans h2006
        have h2009 := (gfr2 2009 (by omega)).trans h2009
        have h2010 := (gfr2 2010 (by omega)).trans h2010
        have h2011 := (gfr2 2011 (by omega)).trans h2011
        have h2012 := (gfr2 2012 (by omega)).trans h2012
        have h2013 := (gfr2 2013 (by omega)).trans h2013
        have h2014 := (gfr2 2014 (by omega)).trans h2014
        have h2015 := (gfr2 2015 (by omega)).trans h2015
        have h2016 := (gfr2 2016 (by omega)).trans h2016
        have h2017 := (gfr2 2017 (by omega)).trans h2017
        have h2018 := (gfr2 2018 (by omega)).trans h2018
        have h2019 := (gfr2 2019 (by omega)).trans h2019
        have h2020 := (gfr2 2020 (by omega)).trans h2020
        have h2023 := (gfr2 2023 (by omega)).trans h2023
        have h2024 := (gfr2 2024 (by omega)).trans h2024
        have h2025 := (gfr2 2025 (by omega)).trans h2025
        have h2026 := (gfr2 2026 (by omega)).trans h2026
        have h2027 := (gfr2 2027 (by omega)).trans h2027
        have hfk : ∀ L, L < 2000 → Vc57 L = V L := fun L hL => (gfr2 L (by omega)).trans (hfr L (by omega))
        refine lv_iconst (v := nI 0) hx hb dX7_attempt_60 (by decide) ?_
        refine lv_istore (lv' := [(8, .int (nI 0)), (6, .long (scL ρ (pK π) lv k)), (0, .ref (ad (2000))), (1, .int (nI pp)), (2, .int (nI oo)), (3, .int (nI mm)), (4, .int (v)), (5, .int (lv))]) hx hb dX7_attempt_61 hl (by decide) rfl (fun ls hl => ?_)
        refine wl (ι := Nat) (fun r => k - r) (fun r g => (r ≤ k) ∧ ∃ ls, g = F0 m 63 ls [] ∧ lv_has ls 9 [(0, .ref (ad (2000))), (1, .int (nI pp)), (5, .int (lv)), (6, .long (saR ρ (scL ρ (pK π) lv k) (pF π) lv (pM π) n (putM n (pM π) mm oo v) r)), (8, .int (nI r))]) ?_ (0) _ ⟨Nat.zero_le _, ls, rfl, lv_sub hl [2, 3, 7, 1, 0] rfl⟩
        intro r g hg ih
        obtain ⟨hr9, ls, rfl, hl⟩ := hg
        refine lv_iload hx hb dX7_attempt_63 (lv_at hl 4 rfl) ?_
        refine lv_aload_n hx hb dX7_attempt_65 rfl (lv_at hl 0 rfl) ?_
        refine g_X7_X7_rules hx hb hown hK hW h2000 dX7_attempt_66 ?_
        refine lv_icmp_ge (tgt := 129) hx hb dX7_attempt_69 (by decide) (fun c69 => ?_) (fun c69 => ?_)
        · skip
          have c69 := nI_le' c69 (by omega) (by omega)
          have hq129_6 : (saR ρ (scL ρ (pK π) lv k) (pF π) lv (pM π) n (putM n (pM π) mm oo v) r) = (saR ρ (scL ρ (pK π) lv k) (pF π) lv (pM π) n (putM n (pM π) mm oo v) k) := by have e9 : r = k := (by omega); rw [e9]
          rw [hq129_6] at hl
          refine lv_iconst (v := nI 0) hx hb dX7_attempt_129 (by decide) ?_
          refine lv_istore (lv' := [(8, .int (nI 0)), (0, .ref (ad (2000))), (1, .int (nI pp)), (5, .int (lv)), (6, .long (saR ρ (scL ρ (pK π) lv k) (pF π) lv (pM π) n (putM n (pM π) mm oo v) k))]) hx hb dX7_attempt_130 hl (by decide) rfl (fun ls hl => ?_)
          refine wlh (ι := Nat) (fun i => 160 - i) (fun i H locs g => (i ≤ 160) ∧ (∃ X, (X 2000 = some (.inr (7, [.int (nI n), .int (nI k), .ref (ad (2002)), .ref (ad (2003)), .ref (ad (2004)), .ref (ad (2005)), .ref (ad (2006)), .int (nI P), .ref (ad (2008)), .ref (ad (2009)), .ref (ad (2010)), .ref (ad (2011)), .ref (ad (2012)), .ref (ad (2013)), .ref (ad (2014)), .ref (ad (2015)), .ref (ad (2016)), .ref (ad (2017)), .ref (ad (2018)), .ref (ad (2019)), .ref (ad (2020)), .int (ce), .int (nI K), .ref (ad (2023)), .ref (ad (2024)), .ref (ad (2025)), .ref (ad (2026)), .ref (ad (2027))])) ∧ X 2002 = some (.inl (cy 0, 12, .inl ak)) ∧ X 2003 = some (.inl (cy 0, 12, .inl al)) ∧ X 2004 = some (.inl (cy 0, 12, .inl ab)) ∧ X 2005 = some (.inl (cy 0, 12, .inl aw)) ∧ X 2006 = some (.inl (cy 0, 12, .inl av)) ∧ X 2009 = some (.inl (cy 1, 48, .inr (.inl kpt))) ∧ X 2010 = some (.inl (cy 2, 48, .inl (fun r => b2i (fgt r)))) ∧ X 2011 = some (.inl (cy 0, 4, .inl cha)) ∧ X 2012 = some (.inl (cy 0, 4, .inl cos)) ∧ X 2013 = some (.inl (cy 0, 4, .inl fnd)) ∧ X 2014 = some (.inl (cy 2, 4, .inl (fun r => b2i (isb r)))) ∧ X 2015 = some (.inl (cy 0, 4, .inl bat)) ∧ X 2016 = some (.inl (cy 0, 4, .inl kno)) ∧ X 2017 = some (.inl (cy 0, 240, .inl oob)) ∧ X 2018 = some (.inl (cy 0, 240, .inl ome)) ∧ X 2019 = some (.inl (cy 0, 240, .inl onu)) ∧ X 2020 = some (.inl (cy 1, 2880, .inr (.inl oke))) ∧ X 2023 = some (.inl (cy 1, 60, .inr (.inl ksc))) ∧ X 2024 = some (.inl (cy 0, 3200, .inl kme)) ∧ X 2025 = some (.inl (cy 0, 20, .inl kob)) ∧ X 2026 = some (.inl (cy 0, 160, .inl was2)) ∧ X 2027 = some (.inl (cy 1, 12, .inr (.inl wwa2))) ∧ X 2008 = some (.inl (cy 0, 640, .inl (cpA was2 mem2 0 (160 * pp) i))) ∧ ∀ L, L < 2000 → X L = V L) ∧ HW D z0 ad X H) ∧ va_S (AA z0) s.heap H locs ∧ ∃ ls, g = F0 m 132 ls [] ∧ lv_has ls 9 [(0, .ref (ad (2000))), (1, .int (nI pp)), (6, .long (saR ρ (scL ρ (pK π) lv k) (pF π) lv (pM π) n (putM n (pM π) mm oo v) k)), (8, .int (nI i))]) ?_ (0) _ _ _ ⟨Nat.zero_le _, ⟨_, ⟨h2000, h2002, h2003, h2004, h2005, h2006, h2009, h2010, h2011, h2012, h2013, h2014, h2015, h2016, h2017, h2018, h2019, h2020, h2023, h2024, h2025, h2026, h2027, by rw [cpA_0]; exact h2008, hfk⟩, hW⟩, hS, ls, rfl, lv_sub hl [1, 2, 4, 0] rfl⟩
          intro i H locs g hg ih
          obtain ⟨hi, ⟨Vn, ⟨h2000, h2002, h2003, h2004, h2005, h2006, h2009, h2010, h2011, h2012, h2013, h2014, h2015, h2016, h2017, h2018, h2019, h2020, h2023, h2024, h2025, h2026, h2027, h2008, hfn⟩, hW⟩, hS, ls, rfl, hl⟩ := hg
          refine lv_iload hx hb dX7_attempt_132 (lv_at hl 3 rfl) ?_
          refine lv_sipush (v := nI 160) hx hb dX7_attempt_134 (by decide) ?_
          refine lv_icmp_ge (tgt := 166) hx hb dX7_attempt_137 (by decide) (fun c137 => ?_) (fun c137 => ?_)
          · skip
            have c137 := nI_le' c137 (by omega) (by omega)
            refine lv_lload hx hb dX7_attempt_166 (lv_at hl 2 rfl) ?_
            exact rwl hx hb hr hlocks dX7_attempt_168 hW hS (by
      have e9 : i = 160 := by omega
      rw [e9] at h2008
      refine ⟨?_, rfl, ?_, hfn⟩
      · unfold xAttempt
        rw [if_pos ⟨hp, c15⟩, ← epp, ← eπ, if_pos htk, eoc, emc]
        exact sa_sb hn40 k (fun r hr => (hk.2 r hr).1)
      · have e8 : cpA was2 mem2 0 (160 * pp) 160 = mem := by
          funext j
          by_cases q : 160 * pp ≤ j ∧ j < 160 * pp + 160
          · obtain ⟨x, rfl⟩ : ∃ x, j = 160 * pp + x := ⟨j - 160 * pp, by omega⟩
            rw [cpA_in (by omega), Nat.zero_add]
            exact hwa x (by omega)
          · rw [cpA_out (by omega)]
            exact hmo j (by omega)
        rw [e8] at h2008
        exact ⟨_, _, _, _, _, _, _, _, _, _, _, _, _, _, _, _, _, _, _, _, _, _, _, ⟨h2000, h2002, h2003, h2004, h2005, h2006, h2008, h2009, h2010, h2011, h2012, h2013, h2014, h2015, h2016, h2017, h2018, h2019, h2020, h2023, h2024, h2025, h2026, h2027⟩, ⟨hru, hlv⟩, hrp, hrs⟩)
          · skip
            have c137 := nI_nle' c137 (by omega) (by omega)
            refine lv_aload_n hx hb dX7_attempt_140 rfl (lv_at hl 0 rfl) ?_
            refine g_X7_X7_member hx hb hown hK hW h2000 dX7_attempt_141 ?_
            refine lv_sipush (v := nI 160) hx hb dX7_attempt_144 (by decide) ?_
            refine lv_iload_n hx hb dX7_attempt_147 rfl (lv_at hl 1 rfl) ?_
            refine lv_imul hx hb dX7_attempt_148 ?_
            refine asi (y := nI (160 * pp)) (pk_mul _ _) ?_
            refine lv_iload hx hb dX7_attempt_149 (lv_at hl 3 rfl) ?_
            refine lv_iadd hx hb dX7_attempt_151 ?_
            refine asi (y := nI ((160 * pp) + i)) (nI_add _ _) ?_
            refine lv_aload_n hx hb dX7_attempt_152 rfl (lv_at hl 0 rfl) ?_
            refine g_X7_X7_was hx hb hown hK hW h2000 dX7_attempt_153 ?_
            refine lv_iload hx hb dX7_attempt_156 (lv_at hl 3 rfl) ?_
            refine w_iald hx hb hK hW h2026 (j := i) (rfl) (by omega) (by omega) dX7_attempt_158 ?_
            refine w_iast hx hb hK hW hS h2008 (j := (160 * pp) + i) (rfl) (by omega) (by omega) dX7_attempt_159 (fun H locs hW hS => ?_)
            obtain ⟨V1, eV1⟩ : ∃ x9, x9 = va_up Vn (2008) (some (.inl (cy 0, 640, .inl (upd (cpA was2 mem2 0 (160 * pp) i) ((160 * pp) + i) (was2 i))))) := ⟨_, rfl⟩
            rw [← eV1] at hW
            have h2000 : V1 (2000) = some (.inr (7, [.int (nI n), .int (nI k), .ref (ad (2002)), .ref (ad (2003)), .ref (ad (2004)), .ref (ad (2005)), .ref (ad (2006)), .int (nI P), .ref (ad (2008)), .ref (ad (2009)), .ref (ad (2010)), .ref (ad (2011)), .ref (ad (2012)), .ref (ad (2013)), .ref (ad (2014)), .ref (ad (2015)), .ref (ad (2016)), .ref (ad (2017)), .ref (ad (2018)), .ref (ad (2019)), .ref (ad (2020)), .int (ce), .int (nI K), .ref (ad (2023)), .ref (ad (2024)), .ref (ad (2025)), .ref (ad (2026)), .ref (ad (2027))])) := by rw [eV1, va_up_ne _ _ (by omega)]; exact h2000
            have h2002 : V1 (2002) = some (.inl (cy 0, 12, .inl ak)) := by rw [eV1, va_up_ne _ _ (by omega)]; exact h2002
            have h2003 : V1 (2003) = some (.inl (cy 0, 12, .inl al)) := by rw [eV1, va_up_ne _ _ (by omega)]; exact h2003
            have h2004 : V1 (2004) = some (.inl (cy 0, 12, .inl ab)) := by rw [eV1, va_up_ne _ _ (by omega)]; exact h2004
            have h2005 : V1 (2005) = some (.inl (cy 0, 12, .inl aw)) := by rw [eV1, va_up_ne _ _ (by omega)]; exact h2005
            have h2006 : V1 (2006) = some (.inl (cy 0, 12, .inl av)) := by rw [eV1, va_up_ne _ _ (by omega)]; exact h2006
            have h2009 : V1 (2009) = some (.inl (cy 1, 48, .inr (.inl kpt))) := by rw [eV1, va_up_ne _ _ (by omega)]; exact h2009
            have h2010 : V1 (2010) = some (.inl (cy 2, 48, .inl (fun r => b2i (fgt r)))) := by rw [eV1, va_up_ne _ _ (by omega)]; exact h2010
            have h2011 : V1 (2011) = some (.inl (cy 0, 4, .inl cha)) := by rw [eV1, va_up_ne _ _ (by omega)]; exact h2011
            have h2012 : V1 (2012) = some (.inl (cy 0, 4, .inl cos)) := by rw [eV1, va_up_ne _ _ (by omega)]; exact h2012
            have h2013 : V1 (2013) = some (.inl (cy 0, 4, .inl fnd)) := by rw [eV1, va_up_ne _ _ (by omega)]; exact h2013
            have h2014 : V1 (2014) = some (.inl (cy 2, 4, .inl (fun r => b2i (isb r)))) := by rw [eV1, va_up_ne _ _ (by omega)]; exact h2014
            have h2015 : V1 (2015) = some (.inl (cy 0, 4, .inl bat)) := by rw [eV1, va_up_ne _ _ (by omega)]; exact h2015
            have h2016 : V1 (2016) = some (.inl (cy 0, 4, .inl kno)) := by rw [eV1, va_up_ne _ _ (by omega)]; exact h2016
            have h2017 : V1 (2017) = some (.inl (cy 0, 240, .inl oob)) := by rw [eV1, va_up_ne _ _ (by omega)]; exact h2017
            have h2018 : V1 (2018) = some (.inl (cy 0, 240, .inl ome)) := by rw [eV1, va_up_ne _ _ (by omega)]; exact h2018
            have h2019 : V1 (2019) = some (.inl (cy 0, 240, .inl onu)) := by rw [eV1, va_up_ne _ _ (by omega)]; exact h2019
            have h2020 : V1 (2020) = some (.inl (cy 1, 2880, .inr (.inl oke))) := by rw [eV1, va_up_ne _ _ (by omega)]; exact h2020
            have h2023 : V1 (2023) = some (.inl (cy 1, 60, .inr (.inl ksc))) := by rw [eV1, va_up_ne _ _ (by omega)]; exact h2023
            have h2024 : V1 (2024) = some (.inl (cy 0, 3200, .inl kme)) := by rw [eV1, va_up_ne _ _ (by omega)]; exact h2024
            have h2025 : V1 (2025) = some (.inl (cy 0, 20, .inl kob)) := by rw [eV1, va_up_ne _ _ (by omega)]; exact h2025
            have h2026 : V1 (2026) = some (.inl (cy 0, 160, .inl was2)) := by rw [eV1, va_up_ne _ _ (by omega)]; exact h2026
            have h2027 : V1 (2027) = some (.inl (cy 1, 12, .inr (.inl wwa2))) := by rw [eV1, va_up_ne _ _ (by omega)]; exact h2027
            have h2008 : V1 (2008) = some (.inl (cy 0, 640, .inl (upd (cpA was2 mem2 0 (160 * pp) i) ((160 * pp) + i) (was2 i)))) := by rw [eV1, va_up_self]
            refine lv_iinc (v := nI (i + 1)) (lv' := [(8, .int (nI (i + 1))), (0, .ref (ad (2000))), (1, .int (nI pp)), (6, .long (saR ρ (scL ρ (pK π) lv k) (pF π) lv (pM π) n (putM n (pM π) mm oo v) k))]) hx hb dX7_attempt_160 hl (k := 3) rfl (by rw [show Int32.ofInt 1 = nI 1 from by decide]; exact nI_add _ _) (by decide) rfl (fun ls hl => ?_)
            refine lv_goto (tgt := 132) hx hb dX7_attempt_163 (by decide) ?_
            exact ih (i + 1) _ _ _ ⟨by omega, ⟨_, ⟨h2000, h2002, h2003, h2004, h2005, h2006, h2009, h2010, h2011, h2012, h2013, h2014, h2015, h2016, h2017, h2018, h2019, h2020, h2023, h2024, h2025, h2026, h2027, by rw [← cpA_i, Nat.zero_add]; exact h2008, fun L hL => by rw [eV1, va_up_ne _ _ (by omega)]; exact hfn L hL⟩, hW⟩, hS, ls, rfl, lv_sub hl [1, 2, 3, 0] rfl⟩ (by omega)
        · skip
          have c69 := nI_nle' c69 (by omega) (by omega)
          refine lv_lload hx hb dX7_attempt_72 (lv_at hl 3 rfl) ?_
          refine jl (pcj := 120) (st := [.long (if (ρ r).2.2.2.2 = lv ∧ ¬ pF π r = true then wthR ρ r (putM n (pM π) mm oo v) n - wthR ρ r (pM π) n else 0), .long (saR ρ (scL ρ (pK π) lv k) (pF π) lv (pM π) n (putM n (pM π) mm oo v) r)]) (nL := 9) (lv := [(0, .ref (ad (2000))), (1, .int (nI pp)), (5, .int (lv)), (6, .long (saR ρ (scL ρ (pK π) lv k) (pF π) lv (pM π) n (putM n (pM π) mm oo v) r)), (8, .int (nI r))]) (fun KJ => ?_) (fun ls hl => ?_)
          · skip
            refine lv_aload_n hx hb dX7_attempt_74 rfl (lv_at hl 0 rfl) ?_
            refine g_X7_X7_level hx hb hown hK hW h2000 dX7_attempt_75 ?_
            refine lv_iload hx hb dX7_attempt_78 (lv_at hl 4 rfl) ?_
            refine w_iald hx hb hK hW h2006 (j := r) (rfl) (by omega) (by omega) dX7_attempt_80 ?_
            refine asi (y := (ρ r).2.2.2.2) (hlv r (by omega)) ?_
            refine lv_iload hx hb dX7_attempt_81 (lv_at hl 2 rfl) ?_
            refine lv_icmp_ne (tgt := 119) hx hb dX7_attempt_83 (by decide) (fun c83 => ?_) (fun c83 => ?_)
            · skip
              refine lv_lconst (v := 0) hx hb dX7_attempt_119 (by decide) ?_
              refine asl (y := if (ρ r).2.2.2.2 = lv ∧ ¬ pF π r = true then wthR ρ r (putM n (pM π) mm oo v) n - wthR ρ r (pM π) n else 0) (by rw [if_neg (fun q => c83 q.1)]) ?_
              exact KJ ls (lv_sub hl [0, 1, 2, 3, 4] rfl)
            · skip
              refine lv_aload_n hx hb dX7_attempt_86 rfl (lv_at hl 0 rfl) ?_
              refine g_X7_X7_forgets hx hb hown hK hW h2000 dX7_attempt_87 ?_
              refine lv_bipush (v := nI 12) hx hb dX7_attempt_90 (by decide) ?_
              refine lv_iload_n hx hb dX7_attempt_92 rfl (lv_at hl 1 rfl) ?_
              refine lv_imul hx hb dX7_attempt_93 ?_
              refine asi (y := nI (12 * pp)) (pk_mul _ _) ?_
              refine lv_iload hx hb dX7_attempt_94 (lv_at hl 4 rfl) ?_
              refine lv_iadd hx hb dX7_attempt_96 ?_
              refine asi (y := nI ((12 * pp) + r)) (nI_add _ _) ?_
              refine w_zald hx hb hK hW h2010 (j := (12 * pp) + r) (rfl) (by omega) (by omega) dX7_attempt_97 ?_
              refine asi (y := b2i (pF π r)) (by rw [hfg r (by omega)]) ?_
              refine lv_if_ne (tgt := 119) hx hb dX7_attempt_98 (by decide) (fun c98 => ?_) (fun c98 => ?_)
              · skip
                have c98 := b2i_1.mp c98
                refine lv_lconst (v := 0) hx hb dX7_attempt_119 (by decide) ?_
                refine asl (y := if (ρ r).2.2.2.2 = lv ∧ ¬ pF π r = true then wthR ρ r (putM n (pM π) mm oo v) n - wthR ρ r (pM π) n else 0) (by rw [if_neg (fun q => q.2 c98)]) ?_
                exact KJ ls (lv_sub hl [0, 1, 2, 3, 4] rfl)
              · skip
                have c98 := b2i_0.mp c98
                refine lv_aload_n hx hb dX7_attempt_101 rfl (lv_at hl 0 rfl) ?_
                refine lv_iload_n hx hb dX7_attempt_102 rfl (lv_at hl 1 rfl) ?_
                refine lv_iload hx hb dX7_attempt_103 (lv_at hl 4 rfl) ?_
                refine vp_callSl (va_Run.run (va_runV (As := [.int (nI pp), .int (nI r)]) (rest := [.long (saR ρ (scL ρ (pK π) lv k) (pF π) lv (pM π) n (putM n (pM π) mm oo v) r)]) ⟨hx, hb, hml, hown, hK.1.use _⟩ (c_X7_worthP l D cy z0 ad Vc57 n k P K ce h2000 ak h2002 al h2003 ab h2004 aw h2005 mem2 h2008 hn40 pp (by omega) ρ ((putM n (pM π) mm oo v)) hv2 hM3 r (by have := hk.1; omega) (hk.2 r (by omega)) (hkb r (by omega)) (hru r (by omega))) (k_X7_X7_worthOf hK.1 rfl rfl ⟨Nat.le_of_ble_eq_true rfl, Nat.le_of_ble_eq_true rfl⟩) (preV hK (Nat.le_trans hz hS.1) hW h2000 rfl) rfl rfl hl.1 rfl (lv_room (Nat.le_of_ble_eq_true rfl)) dX7_attempt_105 ⟨Nat.le_of_ble_eq_true rfl, Nat.le_of_ble_eq_true rfl⟩)) (fun r105 h105 => ?_)
                have h105 : r105 = wthR ρ r ((putM n (pM π) mm oo v)) n := h105
                subst h105
                refine lv_aload_n hx hb dX7_attempt_108 rfl (lv_at hl 0 rfl) ?_
                refine g_X7_X7_worthWas hx hb hown hK hW h2000 dX7_attempt_109 ?_
                refine lv_iload hx hb dX7_attempt_112 (lv_at hl 4 rfl) ?_
                refine w_lald hx hb hK hW h2027 (j := r) (rfl) (by omega) (by omega) dX7_attempt_114 ?_
                refine asl (y := wthR ρ r (pM π) n) (hww r (by omega)) ?_
                refine lv_lsub hx hb dX7_attempt_115 ?_
                refine lv_goto (tgt := 120) hx hb dX7_attempt_116 (by decide) ?_
                refine asl (y := if (ρ r).2.2.2.2 = lv ∧ ¬ pF π r = true then wthR ρ r (putM n (pM π) mm oo v) n - wthR ρ r (pM π) n else 0) (by rw [if_pos ⟨c83, by rw [c98]; decide⟩]) ?_
                exact KJ ls (lv_sub hl [0, 1, 2, 3, 4] rfl)
          · skip
            refine lv_ladd hx hb dX7_attempt_120 ?_
            refine asl (y := saR ρ (scL ρ (pK π) lv k) (pF π) lv (pM π) n (putM n (pM π) mm oo v) (r + 1)) (rfl) ?_
            refine lv_lstore (lv' := [(6, .long (saR ρ (scL ρ (pK π) lv k) (pF π) lv (pM π) n (putM n (pM π) mm oo v) (r + 1))), (0, .ref (ad (2000))), (1, .int (nI pp)), (5, .int (lv)), (8, .int (nI r))]) hx hb dX7_attempt_121 hl (by decide) rfl (fun ls hl => ?_)
            refine lv_iinc (v := nI (r + 1)) (lv' := [(8, .int (nI (r + 1))), (6, .long (saR ρ (scL ρ (pK π) lv k) (pF π) lv (pM π) n (putM n (pM π) mm oo v) (r + 1))), (0, .ref (ad (2000))), (1, .int (nI pp)), (5, .int (lv))]) hx hb dX7_attempt_123 hl (k := 4) rfl (by rw [show Int32.ofInt 1 = nI 1 from by decide]; exact nI_add _ _) (by decide) rfl (fun ls hl => ?_)
            refine lv_goto (tgt := 63) hx hb dX7_attempt_126 (by decide) ?_
            exact ih (r + 1) _ ⟨by omega, ls, rfl, lv_sub hl [2, 3, 4, 1, 0] rfl⟩ (by omega)
      · skip
        have c40 := b2i_0.mp c40
        refine lv_lload hx hb dX7_attempt_43 (lv_at hl 0 rfl) ?_
        exact rwl hx hb hr hlocks dX7_attempt_45 hW hS (⟨by unfold xAttempt; rw [if_pos ⟨hp, c15⟩, ← epp, ← eπ, if_neg (by rw [c40]; decide)], rfl, hM, fun L _ => rfl⟩)
    · skip
      have c15 := b2i_0.mp c15
      refine lv_ldc2 (v := -1) hx hb hown (hK.1.use _ _ tw_655) dX7_attempt_18 ?_
      exact rwl hx hb hr hlocks dX7_attempt_21 hW hS (⟨by unfold xAttempt; rw [if_neg (fun q => absurd (c15.symm.trans q.2) (by decide))], rfl, hM, fun L _ => rfl⟩)
