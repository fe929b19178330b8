theorem st_kn {c : Nat} {P : Nat} {π : PlT} (h : chK c π) (hc : c < 2147483648) (hs : stB P (pCh π) = false) : pKn π = 0 := by
  obtain ⟨x, h1, h2, h3⟩ := h
  by_cases q : pKn π = 0
  · exact q
  · have h4 := h3 (by omega)
    unfold stB at hs
    rw [h2] at hs
    simp only [Bool.or_eq_false_iff, decide_eq_false_iff_not] at hs
    exact absurd (show nI 0 < nI x from nI_lt h4 (by omega)) hs.2
theorem add_view {n : Nat} {mem : Nat → Int32} {M : Nat → Nat → Int32} (hv : viewR mem 0 M) (hn : n ≤ 40) : viewR (upd mem (160 * 0 + 4 * n + 2) (-1)) 0 (addM n M) := by
  intro m hm o ho
  unfold addM
  by_cases e : m = 2
  · subst e
    rw [if_pos rfl]
    by_cases e2 : o = n
    · subst e2; rw [pk_us, pk_us]
    · rw [pk_un (by omega), pk_un e2]; exact hv 2 hm o ho
  · rw [if_neg e, pk_un (by omega)]; exact hv m hm o ho

set_option maxHeartbeats 4000000 in
set_option maxRecDepth 100000 in
theorem c_X7_object (l : Launch) (D : va_G) (cy : Nat → ClassId) (z0 : Nat) (ad : Nat → Nat) (V : Nat → Option va_E) (c0 n k P K : Nat) (ce : Int32) (ρ : RuT) (pl : Nat → PlT) (sn : Nat → SnT) (hM : isM ad V cy n k P K ce ρ pl sn) (hG : gdX c0 n k P K ρ pl sn) (hc9 : c0 < 2147483648) : Met l yX7_object [Cond.code yX7_object cX7_object 2 (some .int)] { frames := 3, cells := 0, slots := 0, locals := 79 } (WP [.ref (ad (2000))] D cy z0 ad V) (va_Qi (fun r u => r = (xObject n k P ρ pl).1 ∧ u.1 = ad ∧ isM ad u.2 cy (xObject n k P ρ pl).2.1 k P K ce ρ (xObject n k P ρ pl).2.2 sn ∧ ∀ L, L < 2000 → u.2 L = V L) (WB D z0) (AA z0)) 0 0 (AA z0) := by
  refine met_of (by decide) (Nat.le_of_ble_eq_true rfl) (fun p e s m below meth c hx hb hr hml hown hlocks hnm hK hz hW ls hl => ?_)
  have hown : s.vm.findClass RX7 = some m.cls := hown
  have hl : lv_has ls 2 [(0, .ref (ad (2000)))] := hl
  have hS : va_S (AA z0) s.heap s.heap [] := va_S.rf
  obtain ⟨ak, al, ab, aw, av, mem, kpt, fgt, cha, cos, fnd, isb, bat, kno, oob, ome, onu, oke, ksc, kme, kob, was, wwa, ⟨h2000, h2002, h2003, h2004, h2005, h2006, h2008, h2009, h2010, h2011, h2012, h2013, h2014, h2015, h2016, h2017, h2018, h2019, h2020, h2023, h2024, h2025, h2026, h2027⟩, ⟨hru, hlv⟩, hrp, hrs⟩ := id hM
  obtain ⟨hO, hkb, hgd⟩ := id hG
  obtain ⟨hn40, hk, hP1, hP4, hK20, hOp, hOs⟩ := id hO
  have hk12 := hk.1
  have hPq := hrp.1 0 hP1
  have hgp := hgd 0 hP1
  obtain ⟨π, eπ⟩ : ∃ π, π = pl 0 := ⟨_, rfl⟩
  rw [← eπ] at hPq hgp
  obtain ⟨hvw, hkp, hfg, ech, eco, efo, ebb, ebt, ekn, hhi⟩ := id hPq
  have hM0 := hgp.ok
  obtain ⟨hZ, hb60, hnx, hkn, hbk, hOk⟩ := id hgp.1
  have o2000 := h2000
  have o2002 := h2002
  have o2003 := h2003
  have o2004 := h2004
  have o2005 := h2005
  have o2006 := h2006
  have o2008 := h2008
  have o2009 := h2009
  have o2010 := h2010
  have o2011 := h2011
  have o2012 := h2012
  have o2013 := h2013
  have o2014 := h2014
  have o2015 := h2015
  have o2016 := h2016
  have o2017 := h2017
  have o2018 := h2018
  have o2019 := h2019
  have o2020 := h2020
  have o2023 := h2023
  have o2024 := h2024
  have o2025 := h2025
  have o2026 := h2026
  have o2027 := h2027
  refine lv_aload_n hx hb dX7_object_0 rfl (lv_at hl 0 rfl) ?_
  refine vp_callSi (va_Run.run (va_runV (As := []) (rest := []) ⟨hx, hb, hml, hown, hK.1.use _⟩ (c_X7_isBegun l D cy z0 ad V n k P K ce h2000 cha h2011 (by omega)) (k_X7_X7_isBegun hK.1 rfl rfl ⟨Nat.le_of_ble_eq_true rfl, Nat.le_of_ble_eq_true rfl⟩) (preV hK hz hW h2000 rfl) rfl rfl hl.1 rfl (lv_room (Nat.le_of_ble_eq_true rfl)) dX7_object_1 ⟨Nat.le_of_ble_eq_true rfl, Nat.le_of_ble_eq_true rfl⟩)) (fun r1 h1 => ?_)
  have h1 : r1 = b2i (stB P (cha 0)) := h1
  subst h1
  refine asi (y := b2i (stB P (pCh (pl 0)))) (by rw [ech, eπ]) ?_
  refine lv_if_eq (tgt := 10) hx hb dX7_object_4 (by decide) (fun c4 => ?_) (fun c4 => ?_)
  · skip
    have c4 := b2i_0.mp c4
    have hkn0 : pKn π = 0 := st_kn hgp.2.2.2 hc9 (by rw [eπ]; exact c4)
    refine lv_aload_n hx hb dX7_object_10 rfl (lv_at hl 0 rfl) ?_
    refine g_X7_X7_objects hx hb hown hK hW h2000 dX7_object_11 ?_
    refine lv_bipush (v := nI 40) hx hb dX7_object_14 (by decide) ?_
    refine lv_icmp_ne (tgt := 22) hx hb dX7_object_16 (by decide) (fun c16 => ?_) (fun c16 => ?_)
    · skip
      have c16 := nI_ne' c16 (by omega) (by omega)
      have hn9 : n < 40 := by omega
      refine lv_aload_n hx hb dX7_object_22 rfl (lv_at hl 0 rfl) ?_
      refine lv_iconst (v := nI 0) hx hb dX7_object_23 (by decide) ?_
      refine cv (va_runV (As := [.int (nI 0)]) (rest := []) ⟨hx, hb, hml, hown, hK.1.use _⟩ (c_X7_remember l D cy z0 ad V n k P K ce h2000 ak h2002 al h2003 ab h2004 aw h2005 mem h2008 was h2026 wwa h2027 hn40 0 (by omega) ρ hk hkb hru (pM π) hvw hM0) (k_X7_X7_remember hK.1 rfl rfl ⟨Nat.le_of_ble_eq_true rfl, Nat.le_of_ble_eq_true rfl⟩) (preV hK hz hW h2000 rfl) rfl rfl hl.1 rfl (lv_room (Nat.le_of_ble_eq_true rfl)) dX7_object_24 ⟨Nat.le_of_ble_eq_true rfl, Nat.le_of_ble_eq_true rfl⟩) hS (fun ad24 Vc24 H locs h24 hW hS => ?_)
      obtain ⟨e24, gex, gfr⟩ := h24
      obtain rfl : ad = ad24 := e24.symm
      obtain ⟨was2, wwa2, h2026, h2027, hwa, hww⟩ := gex
      have hfr : ∀ L, (¬ L = 2026 ∧ ¬ L = 2027) → Vc24 L = V L := fun L hL => gfr L (by omega) (by omega)
      have h2000 := (hfr 2000 (by omega)).trans o2000
      have h2002 := (hfr 2002 (by omega)).trans o2002
      have h2003 := (hfr 2003 (by omega)).trans o2003
      have h2004 := (hfr 2004 (by omega)).trans o2004
      have h2005 := (hfr 2005 (by omega)).trans o2005
      have h2006 := (hfr 2006 (by omega)).trans o2006
      have h2008 := (hfr 2008 (by omega)).trans o2008
      have h2009 := (hfr 2009 (by omega)).trans o2009
      have h2010 := (hfr 2010 (by omega)).trans o2010
      have h2011 := (hfr 2011 (by omega)).trans o2011
      have h2012 := (hfr 2012 (by omega)).trans o2012
      have h2013 := (hfr 2013 (by omega)).trans o2013
      have h2014 := (hfr 2014 (by omega)).trans o2014
      have h2015 := (hfr 2015 (by omega)).trans o2015
      have h2016 := (hfr 2016 (by omega)).trans o2016
      have h2017 := (hfr 2017 (by omega)).trans o2017
      have h2018 := (hfr 2018 (by omega)).trans o2018
      have h2019 := (hfr 2019 (by omega)).trans o2019
      have h2020 := (hfr 2020 (by omega)).trans o2020
      have h2023 := (hfr 2023 (by omega)).trans o2023
      have h2024 := (hfr 2024 (by omega)).trans o2024
      have h2025 := (hfr 2025 (by omega)).trans o2025
      refine lv_aload_n hx hb dX7_object_27 rfl (lv_at hl 0 rfl) ?_
      refine g_X7_X7_member hx hb hown hK hW h2000 dX7_object_28 ?_
      refine lv_aload_n hx hb dX7_object_31 rfl (lv_at hl 0 rfl) ?_
      refine lv_iconst (v := nI 0) hx hb dX7_object_32 (by decide) ?_
      refine lv_aload_n hx hb dX7_object_33 rfl (lv_at hl 0 rfl) ?_
      refine g_X7_X7_objects hx hb hown hK hW h2000 dX7_object_34 ?_
      refine lv_iconst (v := nI 2) hx hb dX7_object_37 (by decide) ?_
      refine vp_callSi (va_Run.run (va_runV (As := [.int (nI 0), .int (nI n), .int (nI 2)]) (rest := [.ref (ad (2008))]) ⟨hx, hb, hml, hown, hK.1.use _⟩ (c_X7_at l D cy z0 ad Vc24 0 n 2) (k_X7_X7_at hK.1 rfl rfl ⟨Nat.le_of_ble_eq_true rfl, Nat.le_of_ble_eq_true rfl⟩) (preV hK (Nat.le_trans hz hS.1) hW h2000 rfl) rfl rfl hl.1 rfl (lv_room (Nat.le_of_ble_eq_true rfl)) dX7_object_38 ⟨Nat.le_of_ble_eq_true rfl, Nat.le_of_ble_eq_true rfl⟩)) (fun r38 h38 => ?_)
      have h38 : r38 = nI (160 * 0 + 4 * n + 2) := h38
      subst h38
      refine lv_iconst (v := -1) hx hb dX7_object_41 (by decide) ?_
      refine w_iast hx hb hK hW hS h2008 (j := 160 * 0 + 4 * n + 2) (rfl) (by omega) (by omega) dX7_object_42 (fun H locs hW hS => ?_)
      obtain ⟨V1, eV1⟩ : ∃ x9, x9 = va_up Vc24 (2008) (some (.inl (cy 0, 640, .inl (upd mem (160 * 0 + 4 * n + 2) (-1))))) := ⟨_, rfl⟩
      rw [← eV1] at hW
      have h2000 : V1 (2000) = some (.inr (7, [.int (nI n), .int (nI k), .ref (ad (2002)), .ref (ad (2003)), .ref (ad (2004)), .ref (ad (2005)), .ref (ad (2006)), .int (nI P), .ref (ad (2008)), .ref (ad (2009)), .ref (ad (2010)), .ref (ad (2011)), .ref (ad (2012)), .ref (ad (2013)), .ref (ad (2014)), .ref (ad (2015)), .ref (ad (2016)), .ref (ad (2017)), .ref (ad (2018)), .ref (ad (2019)), .ref (ad (2020)), .int (ce), .int (nI K), .ref (ad (2023)), .ref (ad (2024)), .ref (ad (2025)), .ref (ad (2026)), .ref (ad (2027))])) := by rw [eV1, va_up_ne _ _ (by omega)]; exact h2000
      have h2002 : V1 (2002) = some (.inl (cy 0, 12, .inl ak)) := by rw [eV1, va_up_ne _ _ (by omega)]; exact h2002
      have h2003 : V1 (2003) = some (.inl (cy 0, 12, .inl al)) := by rw [eV1, va_up_ne _ _ (by omega)]; exact h2003
      have h2004 : V1 (2004) = some (.inl (cy 0, 12, .inl ab)) := by rw [eV1, va_up_ne _ _ (by omega)]; exact h2004
      have h2005 : V1 (2005) = some (.inl (cy 0, 12, .inl aw)) := by rw [eV1, va_up_ne _ _ (by omega)]; exact h2005
      have h2006 : V1 (2006) = some (.inl (cy 0, 12, .inl av)) := by rw [eV1, va_up_ne _ _ (by omega)]; exact h2006
      have h2009 : V1 (2009) = some (.inl (cy 1, 48, .inr (.inl kpt))) := by rw [eV1, va_up_ne _ _ (by omega)]; exact h2009
      have h2010 : V1 (2010) = some (.inl (cy 2, 48, .inl (fun r => b2i (fgt r)))) := by rw [eV1, va_up_ne _ _ (by omega)]; exact h2010
      have h2011 : V1 (2011) = some (.inl (cy 0, 4, .inl cha)) := by rw [eV1, va_up_ne _ _ (by omega)]; exact h2011
      have h2012 : V1 (2012) = some (.inl (cy 0, 4, .inl cos)) := by rw [eV1, va_up_ne _ _ (by omega)]; exact h2012
      have h2013 : V1 (2013) = some (.inl (cy 0, 4, .inl fnd)) := by rw [eV1, va_up_ne _ _ (by omega)]; exact h2013
      have h2014 : V1 (2014) = some (.inl (cy 2, 4, .inl (fun r => b2i (isb r)))) := by rw [eV1, va_up_ne _ _ (by omega)]; exact h2014
      have h2015 : V1 (2015) = some (.inl (cy 0, 4, .inl bat)) := by rw [eV1, va_up_ne _ _ (by omega)]; exact h2015
      have h2016 : V1 (2016) = some (.inl (cy 0, 4, .inl kno)) := by rw [eV1, va_up_ne _ _ (by omega)]; exact h2016
      have h2017 : V1 (2017) = some (.inl (cy 0, 240, .inl oob)) := by rw [eV1, va_up_ne _ _ (by omega)]; exact h2017
      have h2018 : V1 (2018) = some (.inl (cy 0, 240, .inl ome)) := by rw [eV1, va_up_ne _ _ (by omega)]; exact h2018
      have h2019 : V1 (2019) = some (.inl (cy 0, 240, .inl onu)) := by rw [eV1, va_up_ne _ _ (by omega)]; exact h2019
      have h2020 : V1 (2020) = some (.inl (cy 1, 2880, .inr (.inl oke))) := by rw [eV1, va_up_ne _ _ (by omega)]; exact h2020
      have h2023 : V1 (2023) = some (.inl (cy 1, 60, .inr (.inl ksc))) := by rw [eV1, va_up_ne _ _ (by omega)]; exact h2023
      have h2024 : V1 (2024) = some (.inl (cy 0, 3200, .inl kme)) := by rw [eV1, va_up_ne _ _ (by omega)]; exact h2024
      have h2025 : V1 (2025) = some (.inl (cy 0, 20, .inl kob)) := by rw [eV1, va_up_ne _ _ (by omega)]; exact h2025
      have h2026 : V1 (2026) = some (.inl (cy 0, 160, .inl was2)) := by rw [eV1, va_up_ne _ _ (by omega)]; exact h2026
      have h2027 : V1 (2027) = some (.inl (cy 1, 12, .inr (.inl wwa2))) := by rw [eV1, va_up_ne _ _ (by omega)]; exact h2027
      have h2008 : V1 (2008) = some (.inl (cy 0, 640, .inl (upd mem (160 * 0 + 4 * n + 2) (-1)))) := by rw [eV1, va_up_self]
      refine lv_aload_n hx hb dX7_object_43 rfl (lv_at hl 0 rfl) ?_
      refine lv_dup hx hb dX7_object_44 rfl ?_
      refine g_X7_X7_objects hx hb hown hK hW h2000 dX7_object_45 ?_
      refine lv_iconst (v := nI 1) hx hb dX7_object_48 (by decide) ?_
      refine lv_iadd hx hb dX7_object_49 ?_
      refine asi (y := nI (n + 1)) (nI_add _ _) ?_
      refine p_X7_X7_objects hx hb hown hK hW hS h2000 dX7_object_50 (fun H locs hW hS => ?_)
      obtain ⟨V2, eV2⟩ : ∃ x9, x9 = va_up V1 (2000) (some (.inr (7, [.int (nI (n + 1)), .int (nI k), .ref (ad (2002)), .ref (ad (2003)), .ref (ad (2004)), .ref (ad (2005)), .ref (ad (2006)), .int (nI P), .ref (ad (2008)), .ref (ad (2009)), .ref (ad (2010)), .ref (ad (2011)), .ref (ad (2012)), .ref (ad (2013)), .ref (ad (2014)), .ref (ad (2015)), .ref (ad (2016)), .ref (ad (2017)), .ref (ad (2018)), .ref (ad (2019)), .ref (ad (2020)), .int (ce), .int (nI K), .ref (ad (2023)), .ref (ad (2024)), .ref (ad (2025)), .ref (ad (2026)), .ref (ad (2027))]))) := ⟨_, rfl⟩
      rw [← eV2] at hW
      have h2002 : V2 (2002) = some (.inl (cy 0, 12, .inl ak)) := by rw [eV2, va_up_ne _ _ (by omega)]; exact h2002
      have h2003 : V2 (2003) = some (.inl (cy 0, 12, .inl al)) := by rw [eV2, va_up_ne _ _ (by omega)]; exact h2003
      have h2004 : V2 (2004) = some (.inl (cy 0, 12, .inl ab)) := by rw [eV2, va_up_ne _ _ (by omega)]; exact h2004
      have h2005 : V2 (2005) = some (.inl (cy 0, 12, .inl aw)) := by rw [eV2, va_up_ne _ _ (by omega)]; exact h2005
      have h2006 : V2 (2006) = some (.inl (cy 0, 12, .inl av)) := by rw [eV2, va_up_ne _ _ (by omega)]; exact h2006
      have h2009 : V2 (2009) = some (.inl (cy 1, 48, .inr (.inl kpt))) := by rw [eV2, va_up_ne _ _ (by omega)]; exact h2009
      have h2010 : V2 (2010) = some (.inl (cy 2, 48, .inl (fun r => b2i (fgt r)))) := by rw [eV2, va_up_ne _ _ (by omega)]; exact h2010
      have h2011 : V2 (2011) = some (.inl (cy 0, 4, .inl cha)) := by rw [eV2, va_up_ne _ _ (by omega)]; exact h2011
      have h2012 : V2 (2012) = some (.inl (cy 0, 4, .inl cos)) := by rw [eV2, va_up_ne _ _ (by omega)]; exact h2012
      have h2013 : V2 (2013) = some (.inl (cy 0, 4, .inl fnd)) := by rw [eV2, va_up_ne _ _ (by omega)]; exact h2013
      have h2014 : V2 (2014) = some (.inl (cy 2, 4, .inl (fun r => b2i (isb r)))) := by rw [eV2, va_up_ne _ _ (by omega)]; exact h2014
      have h2015 : V2 (2015) = some (.inl (cy 0, 4, .inl bat)) := by rw [eV2, va_up_ne _ _ (by omega)]; exact h2015
      have h2016 : V2 (2016) = some (.inl (cy 0, 4, .inl kno)) := by rw [eV2, va_up_ne _ _ (by omega)]; exact h2016
      have h2017 : V2 (2017) = some (.inl (cy 0, 240, .inl oob)) := by rw [eV2, va_up_ne _ _ (by omega)]; exact h2017
      have h2018 : V2 (2018) = some (.inl (cy 0, 240, .inl ome)) := by rw [eV2, va_up_ne _ _ (by omega)]; exact h2018
      have h2019 : V2 (2019) = some (.inl (cy 0, 240, .inl onu)) := by rw [eV2, va_up_ne _ _ (by omega)]; exact h2019
      have h2020 : V2 (2020) = some (.inl (cy 1, 2880, .inr (.inl oke))) := by rw [eV2, va_up_ne _ _ (by omega)]; exact h2020
      have h2023 : V2 (2023) = some (.inl (cy 1, 60, .inr (.inl ksc))) := by rw [eV2, va_up_ne _ _ (by omega)]; exact h2023
      have h2024 : V2 (2024) = some (.inl (cy 0, 3200, .inl kme)) := by rw [eV2, va_up_ne _ _ (by omega)]; exact h2024
      have h2025 : V2 (2025) = some (.inl (cy 0, 20, .inl kob)) := by rw [eV2, va_up_ne _ _ (by omega)]; exact h2025
      have h2026 : V2 (2026) = some (.inl (cy 0, 160, .inl was2)) := by rw [eV2, va_up_ne _ _ (by omega)]; exact h2026
      have h2027 : V2 (2027) = some (.inl (cy 1, 12, .inr (.inl wwa2))) := by rw [eV2, va_up_ne _ _ (by omega)]; exact h2027
      have h2008 : V2 (2008) = some (.inl (cy 0, 640, .inl (upd mem (160 * 0 + 4 * n + 2) (-1)))) := by rw [eV2, va_up_ne _ _ (by omega)]; exact h2008
      have h2000 : V2 (2000) = some (.inr (7, [.int (nI (n + 1)), .int (nI k), .ref (ad (2002)), .ref (ad (2003)), .ref (ad (2004)), .ref (ad (2005)), .ref (ad (2006)), .int (nI P), .ref (ad (2008)), .ref (ad (2009)), .ref (ad (2010)), .ref (ad (2011)), .ref (ad (2012)), .ref (ad (2013)), .ref (ad (2014)), .ref (ad (2015)), .ref (ad (2016)), .ref (ad (2017)), .ref (ad (2018)), .ref (ad (2019)), .ref (ad (2020)), .int (ce), .int (nI K), .ref (ad (2023)), .ref (ad (2024)), .ref (ad (2025)), .ref (ad (2026)), .ref (ad (2027))])) := by rw [eV2, va_up_self]
      have hv2 : viewR (upd mem (160 * 0 + 4 * n + 2) (-1)) 0 (addM n (pM π)) := add_view hvw (by omega)
      have hM2 : okM (n + 1) (addM n (pM π)) := hM0.add hZ hn9
      refine lv_iconst (v := nI 0) hx hb dX7_object_53 (by decide) ?_
      refine lv_istore_n (lv' := [(1, .int (nI 0)), (0, .ref (ad (2000)))]) hx hb dX7_object_54 rfl hl (by decide) rfl (fun ls hl => ?_)
      refine wlh (ι := Nat) (fun r => k - r) (fun r H locs g => (r ≤ k) ∧ (∃ X, (X 2000 = some (.inr (7, [.int (nI (n + 1)), .int (nI k), .ref (ad (2002)), .ref (ad (2003)), .ref (ad (2004)), .ref (ad (2005)), .ref (ad (2006)), .int (nI P), .ref (ad (2008)), .ref (ad (2009)), .ref (ad (2010)), .ref (ad (2011)), .ref (ad (2012)), .ref (ad (2013)), .ref (ad (2014)), .ref (ad (2015)), .ref (ad (2016)), .ref (ad (2017)), .ref (ad (2018)), .ref (ad (2019)), .ref (ad (2020)), .int (ce), .int (nI K), .ref (ad (2023)), .ref (ad (2024)), .ref (ad (2025)), .ref (ad (2026)), .ref (ad (2027))])) ∧ X 2002 = some (.inl (cy 0, 12, .inl ak)) ∧ X 2003 = some (.inl (cy 0, 12, .inl al)) ∧ X 2004 = some (.inl (cy 0, 12, .inl ab)) ∧ X 2005 = some (.inl (cy 0, 12, .inl aw)) ∧ X 2006 = some (.inl (cy 0, 12, .inl av)) ∧ X 2008 = some (.inl (cy 0, 640, .inl (upd mem (160 * 0 + 4 * n + 2) (-1)))) ∧ X 2010 = some (.inl (cy 2, 48, .inl (fun r => b2i (fgt r)))) ∧ X 2011 = some (.inl (cy 0, 4, .inl cha)) ∧ X 2012 = some (.inl (cy 0, 4, .inl cos)) ∧ X 2013 = some (.inl (cy 0, 4, .inl fnd)) ∧ X 2014 = some (.inl (cy 2, 4, .inl (fun r => b2i (isb r)))) ∧ X 2015 = some (.inl (cy 0, 4, .inl bat)) ∧ X 2016 = some (.inl (cy 0, 4, .inl kno)) ∧ X 2017 = some (.inl (cy 0, 240, .inl oob)) ∧ X 2018 = some (.inl (cy 0, 240, .inl ome)) ∧ X 2019 = some (.inl (cy 0, 240, .inl onu)) ∧ X 2020 = some (.inl (cy 1, 2880, .inr (.inl oke))) ∧ X 2023 = some (.inl (cy 1, 60, .inr (.inl ksc))) ∧ X 2024 = some (.inl (cy 0, 3200, .inl kme)) ∧ X 2025 = some (.inl (cy 0, 20, .inl kob)) ∧ X 2026 = some (.inl (cy 0, 160, .inl was2)) ∧ X 2027 = some (.inl (cy 1, 12, .inr (.inl wwa2))) ∧ X 2009 = some (.inl (cy 1, 48, .inr (.inl (cpA (fun r => kpt r + (wthR ρ r (addM n (pM π)) (n + 1) - wthR ρ r (pM π) n)) kpt 0 0 r)))) ∧ ∀ L, L < 2000 → X L = V L) ∧ HW D z0 ad X H) ∧ va_S (AA z0) s.heap H locs ∧ ∃ ls, g = F0 m 55 ls [] ∧ lv_has ls 2 [(0, .ref (ad (2000))), (1, .int (nI r))]) ?_ (0) _ _ _ ⟨Nat.zero_le _, ⟨_, ⟨h2000, h2002, h2003, h2004, h2005, h2006, h2008, h2010, h2011, h2012, h2013, h2014, h2015, h2016, h2017, h2018, h2019, h2020, h2023, h2024, h2025, h2026, h2027, by rw [cpA_0]; exact h2009, fun L hL => by rw [eV2, va_up_ne _ _ (by omega), eV1, va_up_ne _ _ (by omega)]; exact hfr L (by omega)⟩, hW⟩, hS, ls, rfl, lv_sub hl [1, 0] rfl⟩
      intro r H locs g hg ih
      obtain ⟨hr9, ⟨Vn, ⟨h2000, h2002, h2003, h2004, h2005, h2006, h2008, h2010, h2011, h2012, h2013, h2014, h2015, h2016, h2017, h2018, h2019, h2020, h2023, h2024, h2025, h2026, h2027, h2009, hfn⟩, hW⟩, hS, ls, rfl, hl⟩ := hg
      refine lv_iload_n hx hb dX7_object_55 rfl (lv_at hl 1 rfl) ?_
      refine lv_aload_n hx hb dX7_object_56 rfl (lv_at hl 0 rfl) ?_
      refine g_X7_X7_rules hx hb hown hK hW h2000 dX7_object_57 ?_
      refine lv_icmp_ge (tgt := 91) hx hb dX7_object_60 (by decide) (fun c60 => ?_) (fun c60 => ?_)
      · skip
        have c60 := nI_le' c60 (by omega) (by omega)
        refine lv_aload_n hx hb dX7_object_91 rfl (lv_at hl 0 rfl) ?_
        refine g_X7_X7_objects hx hb hown hK hW h2000 dX7_object_92 ?_
        refine lv_iconst (v := nI 1) hx hb dX7_object_95 (by decide) ?_
        refine lv_isub hx hb dX7_object_96 ?_
        refine asi (y := nI ((n + 1) - 1)) (pk_sub (by omega)) ?_
        exact rwi hx hb hr hlocks dX7_object_97 hW hS (by
      have e9 : r = k := by omega
      rw [e9] at h2009
      have hx9 : xObject n k P ρ pl = (nI n, n + 1, va_up pl 0 (plAdd n k ρ π)) := by unfold xObject; rw [if_neg (by rw [c4]; decide), if_pos hn9, eπ]
      rw [hx9]
      refine ⟨rfl, rfl, ?_, hfn⟩
      exact ⟨_, _, _, _, _, _, _, _, _, _, _, _, _, _, _, _, _, _, _, _, _, _, _, ⟨h2000, h2002, h2003, h2004, h2005, h2006, h2008, h2009, h2010, h2011, h2012, h2013, h2014, h2015, h2016, h2017, h2018, h2019, h2020, h2023, h2024, h2025, h2026, h2027⟩, ⟨hru, hlv⟩, hrp.up (p := 0) hP1 hk12 (fun q hq => (hOp q hq).2.2.2.1) ⟨hv2, fun x hx => by
          have e8 := cpA_in (src := (fun r => kpt r + (wthR ρ r (addM n (pM π)) (n + 1) - wthR ρ r (pM π) n))) (dst := kpt) (a := 0) (b := 0) hx
          rw [Nat.zero_add] at e8
          rw [show 12 * 0 + x = x by omega, e8]
          show kpt x + _ = kpU (pK π) (fun r => wthR ρ r (addM n (pM π)) (n + 1) - wthR ρ r (pM π) n) k x
          have e7 := hkp x hx
          rw [show 12 * 0 + x = x by omega] at e7
          unfold kpU
          rw [if_pos hx, e7], hfg, ech, eco, efo, ebb, ebt, ekn, hhi⟩ (fun j hj => pk_un (by omega)) (fun j hj => cpA_out (by omega)) (fun _ _ => rfl) (fun _ _ => rfl) (fun _ _ => rfl) (fun _ _ => rfl) (fun _ _ => rfl) (fun _ _ => rfl) (fun _ _ => rfl) (fun _ _ => rfl) (fun _ _ => rfl) (fun _ _ => rfl) (fun _ _ => rfl), hrs⟩)
      · skip
        have c60 := nI_nle' c60 (by omega) (by omega)
        refine lv_aload_n hx hb dX7_object_63 rfl (lv_at hl 0 rfl) ?_
        refine g_X7_X7_kept hx hb hown hK hW h2000 dX7_object_64 ?_
        refine lv_iload_n hx hb dX7_object_67 rfl (lv_at hl 1 rfl) ?_
        refine lv_dup2_11 hx hb dX7_object_68 rfl rfl ?_
        refine w_lald hx hb hK hW h2009 (j := r) (rfl) (by omega) (by omega) dX7_object_69 ?_
        refine asl (y := kpt r) (by rw [cpA_out (by omega)]) ?_
        refine lv_aload_n hx hb dX7_object_70 rfl (lv_at hl 0 rfl) ?_
        refine lv_iconst (v := nI 0) hx hb dX7_object_71 (by decide) ?_
        refine lv_iload_n hx hb dX7_object_72 rfl (lv_at hl 1 rfl) ?_
        refine vp_callSl (va_Run.run (va_runV (As := [.int (nI 0), .int (nI r)]) (rest := [.long (kpt r), .int (nI r), .ref (ad (2009))]) ⟨hx, hb, hml, hown, hK.1.use _⟩ (c_X7_worthP l D cy z0 ad Vn (n + 1) k P K ce h2000 ak h2002 al h2003 ab h2004 aw h2005 (upd mem (160 * 0 + 4 * n + 2) (-1)) h2008 (by omega) 0 (by omega) ρ (addM n (pM π)) hv2 hM2 r (by omega) (hk.2 r (by omega)) (hkb r (by omega)) (hru r (by omega))) (k_X7_X7_worthOf hK.1 rfl rfl ⟨Nat.le_of_ble_eq_true rfl, Nat.le_of_ble_eq_true rfl⟩) (preV hK (Nat.le_trans hz hS.1) hW h2000 rfl) rfl rfl hl.1 rfl (lv_room (Nat.le_of_ble_eq_true rfl)) dX7_object_73 ⟨Nat.le_of_ble_eq_true rfl, Nat.le_of_ble_eq_true rfl⟩)) (fun r73 h73 => ?_)
        have h73 : r73 = wthR ρ r (addM n (pM π)) (n + 1) := h73
        subst h73
        refine lv_aload_n hx hb dX7_object_76 rfl (lv_at hl 0 rfl) ?_
        refine g_X7_X7_worthWas hx hb hown hK hW h2000 dX7_object_77 ?_
        refine lv_iload_n hx hb dX7_object_80 rfl (lv_at hl 1 rfl) ?_
        refine w_lald hx hb hK hW h2027 (j := r) (rfl) (by omega) (by omega) dX7_object_81 ?_
        refine asl (y := wthR ρ r (pM π) n) (hww r (by omega)) ?_
        refine lv_lsub hx hb dX7_object_82 ?_
        refine lv_ladd hx hb dX7_object_83 ?_
        refine w_last hx hb hK hW hS h2009 (j := r) (rfl) (by omega) (by omega) dX7_object_84 (fun H locs hW hS => ?_)
        obtain ⟨V3, eV3⟩ : ∃ x9, x9 = va_up Vn (2009) (some (.inl (cy 1, 48, .inr (.inl (vp_updL (cpA (fun r => kpt r + (wthR ρ r (addM n (pM π)) (n + 1) - wthR ρ r (pM π) n)) kpt 0 0 r) r ((kpt r) + ((wthR ρ r (addM n (pM π)) (n + 1)) - (wthR ρ r (pM π) n)))))))) := ⟨_, rfl⟩
        rw [← eV3] at hW
        have h2000 : V3 (2000) = some (.inr (7, [.int (nI (n + 1)), .int (nI k), .ref (ad (2002)), .ref (ad (2003)), .ref (ad (2004)), .ref (ad (2005)), .ref (ad (2006)), .int (nI P), .ref (ad (2008)), .ref (ad (2009)), .ref (ad (2010)), .ref (ad (2011)), .ref (ad (2012)), .ref (ad (2013)), .ref (ad (2014)), .ref (ad (2015)), .ref (ad (2016)), .ref (ad (2017)), .ref (ad (2018)), .ref (ad (2019)), .ref (ad (2020)), .int (ce), .int (nI K), .ref (ad (2023)), .ref (ad (2024)), .ref (ad (2025)), .ref (ad (2026)), .ref (ad (2027))])) := by rw [eV3, va_up_ne _ _ (by omega)]; exact h2000
        have h2002 : V3 (2002) = some (.inl (cy 0, 12, .inl ak)) := by rw [eV3, va_up_ne _ _ (by omega)]; exact h2002
        have h2003 : V3 (2003) = some (.inl (cy 0, 12, .inl al)) := by rw [eV3, va_up_ne _ _ (by omega)]; exact h2003
        have h2004 : V3 (2004) = some (.inl (cy 0, 12, .inl ab)) := by rw [eV3, va_up_ne _ _ (by omega)]; exact h2004
        have h2005 : V3 (2005) = some (.inl (cy 0, 12, .inl aw)) := by rw [eV3, va_up_ne _ _ (by omega)]; exact h2005
        have h2006 : V3 (2006) = some (.inl (cy 0, 12, .inl av)) := by rw [eV3, va_up_ne _ _ (by omega)]; exact h2006
        have h2008 : V3 (2008) = some (.inl (cy 0, 640, .inl (upd mem (160 * 0 + 4 * n + 2) (-1)))) := by rw [eV3, va_up_ne _ _ (by omega)]; exact h2008
        have h2010 : V3 (2010) = some (.inl (cy 2, 48, .inl (fun r => b2i (fgt r)))) := by rw [eV3, va_up_ne _ _ (by omega)]; exact h2010
        have h2011 : V3 (2011) = some (.inl (cy 0, 4, .inl cha)) := by rw [eV3, va_up_ne _ _ (by omega)]; exact h2011
        have h2012 : V3 (2012) = some (.inl (cy 0, 4, .inl cos)) := by rw [eV3, va_up_ne _ _ (by omega)]; exact h2012
        have h2013 : V3 (2013) = some (.inl (cy 0, 4, .inl fnd)) := by rw [eV3, va_up_ne _ _ (by omega)]; exact h2013
        have h2014 : V3 (2014) = some (.inl (cy 2, 4, .inl (fun r => b2i (isb r)))) := by rw [eV3, va_up_ne _ _ (by omega)]; exact h2014
        have h2015 : V3 (2015) = some (.inl (cy 0, 4, .inl bat)) := by rw [eV3, va_up_ne _ _ (by omega)]; exact h2015
        have h2016 : V3 (2016) = some (.inl (cy 0, 4, .inl kno)) := by rw [eV3, va_up_ne _ _ (by omega)]; exact h2016
        have h2017 : V3 (2017) = some (.inl (cy 0, 240, .inl oob)) := by rw [eV3, va_up_ne _ _ (by omega)]; exact h2017
        have h2018 : V3 (2018) = some (.inl (cy 0, 240, .inl ome)) := by rw [eV3, va_up_ne _ _ (by omega)]; exact h2018
        have h2019 : V3 (2019) = some (.inl (cy 0, 240, .inl onu)) := by rw [eV3, va_up_ne _ _ (by omega)]; exact h2019
        have h2020 : V3 (2020) = some (.inl (cy 1, 2880, .inr (.inl oke))) := by rw [eV3, va_up_ne _ _ (by omega)]; exact h2020
        have h2023 : V3 (2023) = some (.inl (cy 1, 60, .inr (.inl ksc))) := by rw [eV3, va_up_ne _ _ (by omega)]; exact h2023
        have h2024 : V3 (2024) = some (.inl (cy 0, 3200, .inl kme)) := by rw [eV3, va_up_ne _ _ (by omega)]; exact h2024
        have h2025 : V3 (2025) = some (.inl (cy 0, 20, .inl kob)) := by rw [eV3, va_up_ne _ _ (by omega)]; exact h2025
        have h2026 : V3 (2026) = some (.inl (cy 0, 160, .inl was2)) := by rw [eV3, va_up_ne _ _ (by omega)]; exact h2026
        have h2027 : V3 (2027) = some (.inl (cy 1, 12, .inr (.inl wwa2))) := by rw [eV3, va_up_ne _ _ (by omega)]; exact h2027
        have h2009 : V3 (2009) = some (.inl (cy 1, 48, .inr (.inl (vp_updL (cpA (fun r => kpt r + (wthR ρ r (addM n (pM π)) (n + 1) - wthR ρ r (pM π) n)) kpt 0 0 r) r ((kpt r) + ((wthR ρ r (addM n (pM π)) (n + 1)) - (wthR ρ r (pM π) n))))))) := by rw [eV3, va_up_self]
        refine lv_iinc (v := nI (r + 1)) (lv' := [(1, .int (nI (r + 1))), (0, .ref (ad (2000)))]) hx hb dX7_object_85 hl (k := 1) rfl (by rw [show Int32.ofInt 1 = nI 1 from by decide]; exact nI_add _ _) (by decide) rfl (fun ls hl => ?_)
        refine lv_goto (tgt := 55) hx hb dX7_object_88 (by decide) ?_
        exact ih (r + 1) _ _ _ ⟨by omega, ⟨_, ⟨h2000, h2002, h2003, h2004, h2005, h2006, h2008, h2010, h2011, h2012, h2013, h2014, h2015, h2016, h2017, h2018, h2019, h2020, h2023, h2024, h2025, h2026, h2027, by have e9 := cpA_l (fun r => kpt r + (wthR ρ r (addM n (pM π)) (n + 1) - wthR ρ r (pM π) n)) kpt 0 0 r; rw [Nat.zero_add] at e9; rw [← e9]; exact h2009, fun L hL => by rw [eV3, va_up_ne _ _ (by omega)]; exact hfn L hL⟩, hW⟩, hS, ls, rfl, lv_sub hl [1, 0] rfl⟩ (by omega)
    · skip
      have c16 := nI_eq' c16 (by omega) (by omega)
      refine lv_bipush (v := -4) hx hb dX7_object_19 (by decide) ?_
      exact rwi hx hb hr hlocks dX7_object_21 hW hS (⟨by unfold xObject; rw [if_neg (by rw [c4]; decide), if_neg (by omega)], rfl, by unfold xObject; rw [if_neg (by rw [c4]; decide), if_neg (by omega)]; exact hM, fun L _ => rfl⟩)
  · skip
    have c4 := b2i_1.mp c4
    refine lv_bipush (v := -3) hx hb dX7_object_7 (by decide) ?_
    exact rwi hx hb hr hlocks dX7_object_9 hW hS (⟨by unfold xObject; rw [if_pos c4], rfl, by unfold xObject; rw [if_pos c4]; exact hM, fun L _ => rfl⟩)

theorem wiB_bI {x : Int32} (h : wiB x (-1000000) 1000000 = true) : bI x 1000000 := by
  simp only [wiB, Bool.and_eq_true, decide_eq_true_eq] at h
  obtain ⟨h1, h2⟩ := h
  rw [Int32.le_iff_toInt_le] at h1 h2
  have e1 : (-1000000 : Int32).toInt = -1000000 := by decide
  have e2 : (1000000 : Int32).toInt = 1000000 := by decide
  rw [e1] at h1
  rw [e2] at h2
  exact ⟨h1, h2⟩

set_option maxHeartbeats 4000000 in
set_option maxRecDepth 100000 in
theorem c_X7_rule (l : Launch) (D : va_G) (cy : Nat → ClassId) (z0 : Nat) (ad : Nat → Nat) (V : Nat → Option va_E) (c0 n k P K : Nat) (ce : Int32) (ρ : RuT) (pl : Nat → PlT) (sn : Nat → SnT) (hM : isM ad V cy n k P K ce ρ pl sn) (hG : gdX c0 n k P K ρ pl sn) (hc9 : c0 < 2147483648) (a b x w v : Int32) : Met l yX7_rule [Cond.code yX7_rule cX7_rule 6 (some .int)] { frames := 2, cells := 0, slots := 0, locals := 57 } (WP [.ref (ad (2000)), .int (a), .int (b), .int (x), .int (w), .int (v)] D cy z0 ad V) (va_Qi (fun r u => r = (xRule n k P ρ pl a b x w v).1 ∧ u.1 = ad ∧ isM ad u.2 cy n (xRule n k P ρ pl a b x w v).2.1 P K ce (xRule n k P ρ pl a b x w v).2.2.1 (xRule n k P ρ pl a b x w v).2.2.2 sn ∧ ∀ L, L < 2000 → u.2 L = V L) (WB D z0) (AA z0)) 0 0 (AA z0) := by
  refine met_of (by decide) (Nat.le_of_ble_eq_true rfl) (fun p e s m below meth c hx hb hr hml hown hlocks hnm hK hz hW ls hl => ?_)
  have hown : s.vm.findClass RX7 = some m.cls := hown
  have hl : lv_has ls 6 [(0, .ref (ad (2000))), (1, .int (a)), (2, .int (b)), (3, .int (x)), (4, .int (w)), (5, .int (v))] := hl
  have hS : va_S (AA z0) s.heap s.heap [] := va_S.rf
  obtain ⟨ak, al, ab, aw, av, mem, kpt, fgt, cha, cos, fnd, isb, bat, kno, oob, ome, onu, oke, ksc, kme, kob, was, wwa, ⟨h2000, h2002, h2003, h2004, h2005, h2006, h2008, h2009, h2010, h2011, h2012, h2013, h2014, h2015, h2016, h2017, h2018, h2019, h2020, h2023, h2024, h2025, h2026, h2027⟩, ⟨hru, hlv⟩, hrp, hrs⟩ := id hM
  obtain ⟨hO, hkb, hgd⟩ := id hG
  obtain ⟨hn40, hk, hP1, hP4, hK20, hOp, hOs⟩ := id hO
  have hk12 := hk.1
  have hPq := hrp.1 0 hP1
  have hgp := hgd 0 hP1
  obtain ⟨π, eπ⟩ : ∃ π, π = pl 0 := ⟨_, rfl⟩
  rw [← eπ] at hPq hgp
  obtain ⟨hvw, hkp, hfg, ech, eco, efo, ebb, ebt, ekn, hhi⟩ := id hPq
  have hM0 := hgp.ok
  obtain ⟨hZ, hb60, hnx, hkn, hbk, hOk⟩ := id hgp.1
  refine lv_iload_n hx hb dX7_rule_0 rfl (lv_at hl 1 rfl) ?_
  refine lv_iconst (v := nI 0) hx hb dX7_rule_1 (by decide) ?_
  refine lv_iconst (v := nI 5) hx hb dX7_rule_2 (by decide) ?_
  refine vp_callSi (va_Run.run (va_runS (As := [.int (a), .int (nI 0), .int (nI 5)]) (rest := []) ⟨hx, hb, hml, hown, hK.1.use _⟩ (c_X7_in l D cy z0 ad V a (nI 0) (nI 5)) (k_X7_X7_in hK.1 rfl rfl ⟨Nat.le_of_ble_eq_true rfl, Nat.le_of_ble_eq_true rfl⟩) (preS hK hz hW) rfl rfl hl.1 rfl (lv_room (Nat.le_of_ble_eq_true rfl)) dX7_rule_3 ⟨Nat.le_of_ble_eq_true rfl, Nat.le_of_ble_eq_true rfl⟩)) (fun r3 h3 => ?_)
  have h3 : r3 = b2i (wiB a (nI 0) (nI 5)) := h3
  subst h3
  refine lv_if_eq (tgt := 51) hx hb dX7_rule_6 (by decide) (fun c6 => ?_) (fun c6 => ?_)
  · skip
    have c6 := b2i_0.mp c6
    refine lv_iconst (v := -1) hx hb dX7_rule_51 (by decide) ?_
    exact rwi hx hb hr hlocks dX7_rule_52 hW hS (⟨by unfold xRule; rw [show ruB a b x w v = false from by unfold ruB; simp [c6]]; rfl, rfl, by unfold xRule; rw [show ruB a b x w v = false from by unfold ruB; simp [c6]]; exact hM, fun L _ => rfl⟩)
  · skip
    have c6 := b2i_1.mp c6
    refine lv_iload_n hx hb dX7_rule_9 rfl (lv_at hl 2 rfl) ?_
    refine lv_iconst (v := nI 0) hx hb dX7_rule_10 (by decide) ?_
    refine lv_iconst (v := nI 3) hx hb dX7_rule_11 (by decide) ?_
    refine vp_callSi (va_Run.run (va_runS (As := [.int (b), .int (nI 0), .int (nI 3)]) (rest := []) ⟨hx, hb, hml, hown, hK.1.use _⟩ (c_X7_in l D cy z0 ad V b (nI 0) (nI 3)) (k_X7_X7_in hK.1 rfl rfl ⟨Nat.le_of_ble_eq_true rfl, Nat.le_of_ble_eq_true rfl⟩) (preS hK hz hW) rfl rfl hl.1 rfl (lv_room (Nat.le_of_ble_eq_true rfl)) dX7_rule_12 ⟨Nat.le_of_ble_eq_true rfl, Nat.le_of_ble_eq_true rfl⟩)) (fun r12 h12 => ?_)
    have h12 : r12 = b2i (wiB b (nI 0) (nI 3)) := h12
    subst h12
    refine lv_if_eq (tgt := 51) hx hb dX7_rule_15 (by decide) (fun c15 => ?_) (fun c15 => ?_)
    · skip
      have c15 := b2i_0.mp c15
      refine lv_iconst (v := -1) hx hb dX7_rule_51 (by decide) ?_
      exact rwi hx hb hr hlocks dX7_rule_52 hW hS (⟨by unfold xRule; rw [show ruB a b x w v = false from by unfold ruB; simp [c15]]; rfl, rfl, by unfold xRule; rw [show ruB a b x w v = false from by unfold ruB; simp [c15]]; exact hM, fun L _ => rfl⟩)
    · skip
      have c15 := b2i_1.mp c15
      refine lv_iload_n hx hb dX7_rule_18 rfl (lv_at hl 3 rfl) ?_
      refine lv_ldc (v := -1000000) hx hb hown (hK.1.use _ _ tw_601) dX7_rule_19 ?_
      refine lv_ldc (v := 1000000) hx hb hown (hK.1.use _ _ tw_602) dX7_rule_21 ?_
      refine vp_callSi (va_Run.run (va_runS (As := [.int (x), .int (-1000000), .int (1000000)]) (rest := []) ⟨hx, hb, hml, hown, hK.1.use _⟩ (c_X7_in l D cy z0 ad V x (-1000000) 1000000) (k_X7_X7_in hK.1 rfl rfl ⟨Nat.le_of_ble_eq_true rfl, Nat.le_of_ble_eq_true rfl⟩) (preS hK hz hW) rfl rfl hl.1 rfl (lv_room (Nat.le_of_ble_eq_true rfl)) dX7_rule_23 ⟨Nat.le_of_ble_eq_true rfl, Nat.le_of_ble_eq_true rfl⟩)) (fun r23 h23 => ?_)
      have h23 : r23 = b2i (wiB x (-1000000) 1000000) := h23
      subst h23
      refine lv_if_eq (tgt := 51) hx hb dX7_rule_26 (by decide) (fun c26 => ?_) (fun c26 => ?_)
      · skip
        have c26 := b2i_0.mp c26
        refine lv_iconst (v := -1) hx hb dX7_rule_51 (by decide) ?_
        exact rwi hx hb hr hlocks dX7_rule_52 hW hS (⟨by unfold xRule; rw [show ruB a b x w v = false from by unfold ruB; simp [c26]]; rfl, rfl, by unfold xRule; rw [show ruB a b x w v = false from by unfold ruB; simp [c26]]; exact hM, fun L _ => rfl⟩)
      · skip
        have c26 := b2i_1.mp c26
        refine lv_iload hx hb dX7_rule_29 (lv_at hl 4 rfl) ?_
        refine lv_iconst (v := nI 1) hx hb dX7_rule_31 (by decide) ?_
        refine lv_sipush (v := nI 1000) hx hb dX7_rule_32 (by decide) ?_
        refine vp_callSi (va_Run.run (va_runS (As := [.int (w), .int (nI 1), .int (nI 1000)]) (rest := []) ⟨hx, hb, hml, hown, hK.1.use _⟩ (c_X7_in l D cy z0 ad V w (nI 1) (nI 1000)) (k_X7_X7_in hK.1 rfl rfl ⟨Nat.le_of_ble_eq_true rfl, Nat.le_of_ble_eq_true rfl⟩) (preS hK hz hW) rfl rfl hl.1 rfl (lv_room (Nat.le_of_ble_eq_true rfl)) dX7_rule_35 ⟨Nat.le_of_ble_eq_true rfl, Nat.le_of_ble_eq_true rfl⟩)) (fun r35 h35 => ?_)
        have h35 : r35 = b2i (wiB w (nI 1) (nI 1000)) := h35
        subst h35
        refine lv_if_eq (tgt := 51) hx hb dX7_rule_38 (by decide) (fun c38 => ?_) (fun c38 => ?_)
        · skip
          have c38 := b2i_0.mp c38
          refine lv_iconst (v := -1) hx hb dX7_rule_51 (by decide) ?_
          exact rwi hx hb hr hlocks dX7_rule_52 hW hS (⟨by unfold xRule; rw [show ruB a b x w v = false from by unfold ruB; simp [c38]]; rfl, rfl, by unfold xRule; rw [show ruB a b x w v = false from by unfold ruB; simp [c38]]; exact hM, fun L _ => rfl⟩)
        · skip
          have c38 := b2i_1.mp c38
          refine lv_iload hx hb dX7_rule_41 (lv_at hl 5 rfl) ?_
          refine lv_iconst (v := nI 0) hx hb dX7_rule_43 (by decide) ?_
          refine lv_iconst (v := nI 2) hx hb dX7_rule_44 (by decide) ?_
          refine vp_callSi (va_Run.run (va_runS (As := [.int (v), .int (nI 0), .int (nI 2)]) (rest := []) ⟨hx, hb, hml, hown, hK.1.use _⟩ (c_X7_in l D cy z0 ad V v (nI 0) (nI 2)) (k_X7_X7_in hK.1 rfl rfl ⟨Nat.le_of_ble_eq_true rfl, Nat.le_of_ble_eq_true rfl⟩) (preS hK hz hW) rfl rfl hl.1 rfl (lv_room (Nat.le_of_ble_eq_true rfl)) dX7_rule_45 ⟨Nat.le_of_ble_eq_true rfl, Nat.le_of_ble_eq_true rfl⟩)) (fun r45 h45 => ?_)
          have h45 : r45 = b2i (wiB v (nI 0) (nI 2)) := h45
          subst h45
          refine lv_if_ne (tgt := 53) hx hb dX7_rule_48 (by decide) (fun c48 => ?_) (fun c48 => ?_)
          · skip
            have c48 := b2i_1.mp c48
            have hr9 : ruB a b x w v = true := by unfold ruB; rw [c6, c15, c26, c38, c48]; rfl
            obtain ⟨e_kd, h_kd⟩ := wiB_of (b := 5) c6 (by omega)
            obtain ⟨kd, d_kd⟩ : ∃ y, y = a.toNatClampNeg := ⟨_, rfl⟩
            rw [← d_kd] at e_kd h_kd
            obtain ⟨e_lk, h_lk⟩ := wiB_of (b := 3) c15 (by omega)
            obtain ⟨lk, d_lk⟩ : ∃ y, y = b.toNatClampNeg := ⟨_, rfl⟩
            rw [← d_lk] at e_lk h_lk
            refine lv_aload_n hx hb dX7_rule_53 rfl (lv_at hl 0 rfl) ?_
            refine vp_callSi (va_Run.run (va_runV (As := []) (rest := []) ⟨hx, hb, hml, hown, hK.1.use _⟩ (c_X7_isBegun l D cy z0 ad V n k P K ce h2000 cha h2011 (by omega)) (k_X7_X7_isBegun hK.1 rfl rfl ⟨Nat.le_of_ble_eq_true rfl, Nat.le_of_ble_eq_true rfl⟩) (preV hK hz hW h2000 rfl) rfl rfl hl.1 rfl (lv_room (Nat.le_of_ble_eq_true rfl)) dX7_rule_54 ⟨Nat.le_of_ble_eq_true rfl, Nat.le_of_ble_eq_true rfl⟩)) (fun r54 h54 => ?_)
            have h54 : r54 = b2i (stB P (cha 0)) := h54
            subst h54
            refine asi (y := b2i (stB P (pCh (pl 0)))) (by rw [ech, eπ]) ?_
            refine lv_if_eq (tgt := 63) hx hb dX7_rule_57 (by decide) (fun c57 => ?_) (fun c57 => ?_)
            · skip
              have c57 := b2i_0.mp c57
              have hkn0 : pKn π = 0 := st_kn hgp.2.2.2 hc9 (by rw [eπ]; exact c57)
              refine lv_aload_n hx hb dX7_rule_63 rfl (lv_at hl 0 rfl) ?_
              refine g_X7_X7_rules hx hb hown hK hW h2000 dX7_rule_64 ?_
              refine lv_bipush (v := nI 12) hx hb dX7_rule_67 (by decide) ?_
              refine lv_icmp_ne (tgt := 75) hx hb dX7_rule_69 (by decide) (fun c69 => ?_) (fun c69 => ?_)
              · skip
                have c69 := nI_ne' c69 (by omega) (by omega)
                have hk9 : k < 12 := by omega
                obtain ⟨ρ2, eρ⟩ : ∃ y, y = va_up ρ k (ruT a b x w v) := ⟨_, rfl⟩
                have eρk : ρ2 k = (kd, lk, x, w, v) := by rw [eρ, va_up_self, d_kd, d_lk]; rfl
                have eρr : ∀ r, r < k → ρ2 r = ρ r := fun r hr => by rw [eρ, va_up_ne _ _ (by omega)]
                refine lv_aload_n hx hb dX7_rule_75 rfl (lv_at hl 0 rfl) ?_
                refine g_X7_X7_kind hx hb hown hK hW h2000 dX7_rule_76 ?_
                refine lv_aload_n hx hb dX7_rule_79 rfl (lv_at hl 0 rfl) ?_
                refine g_X7_X7_rules hx hb hown hK hW h2000 dX7_rule_80 ?_
                refine lv_iload_n hx hb dX7_rule_83 rfl (lv_at hl 1 rfl) ?_
                refine w_iast hx hb hK hW hS h2002 (j := k) (rfl) (by omega) (by omega) dX7_rule_84 (fun H locs hW hS => ?_)
                obtain ⟨V1, eV1⟩ : ∃ x9, x9 = va_up V (2002) (some (.inl (cy 0, 12, .inl (upd ak k a)))) := ⟨_, rfl⟩
                rw [← eV1] at hW
                have h2000 : V1 (2000) = some (.inr (7, [.int (nI n), .int (nI k), .ref (ad (2002)), .ref (ad (2003)), .ref (ad (2004)), .ref (ad (2005)), .ref (ad (2006)), .int (nI P), .ref (ad (2008)), .ref (ad (2009)), .ref (ad (2010)), .ref (ad (2011)), .ref (ad (2012)), .ref (ad (2013)), .ref (ad (2014)), .ref (ad (2015)), .ref (ad (2016)), .ref (ad (2017)), .ref (ad (2018)), .ref (ad (2019)), .ref (ad (2020)), .int (ce), .int (nI K), .ref (ad (2023)), .ref (ad (2024)), .ref (ad (2025)), .ref (ad (2026)), .ref (ad (2027))])) := by rw [eV1, va_up_ne _ _ (by omega)]; exact h2000
                have h2003 : V1 (2003) = some (.inl (cy 0, 12, .inl al)) := by rw [eV1, va_up_ne _ _ (by omega)]; exact h2003
                have h2004 : V1 (2004) = some (.inl (cy 0, 12, .inl ab)) := by rw [eV1, va_up_ne _ _ (by omega)]; exact h2004
                have h2005 : V1 (2005) = some (.inl (cy 0, 12, .inl aw)) := by rw [eV1, va_up_ne _ _ (by omega)]; exact h2005
                have h2006 : V1 (2006) = some (.inl (cy 0, 12, .inl av)) := by rw [eV1, va_up_ne _ _ (by omega)]; exact h2006
                have h2008 : V1 (2008) = some (.inl (cy 0, 640, .inl mem)) := by rw [eV1, va_up_ne _ _ (by omega)]; exact h2008
                have h2009 : V1 (2009) = some (.inl (cy 1, 48, .inr (.inl kpt))) := by rw [eV1, va_up_ne _ _ (by omega)]; exact h2009
                have h2010 : V1 (2010) = some (.inl (cy 2, 48, .inl (fun r => b2i (fgt r)))) := by rw [eV1, va_up_ne _ _ (by omega)]; exact h2010
                have h2011 : V1 (2011) = some (.inl (cy 0, 4, .inl cha)) := by rw [eV1, va_up_ne _ _ (by omega)]; exact h2011
                have h2012 : V1 (2012) = some (.inl (cy 0, 4, .inl cos)) := by rw [eV1, va_up_ne _ _ (by omega)]; exact h2012
                have h2013 : V1 (2013) = some (.inl (cy 0, 4, .inl fnd)) := by rw [eV1, va_up_ne _ _ (by omega)]; exact h2013
                have h2014 : V1 (2014) = some (.inl (cy 2, 4, .inl (fun r => b2i (isb r)))) := by rw [eV1, va_up_ne _ _ (by omega)]; exact h2014
                have h2015 : V1 (2015) = some (.inl (cy 0, 4, .inl bat)) := by rw [eV1, va_up_ne _ _ (by omega)]; exact h2015
                have h2016 : V1 (2016) = some (.inl (cy 0, 4, .inl kno)) := by rw [eV1, va_up_ne _ _ (by omega)]; exact h2016
                have h2017 : V1 (2017) = some (.inl (cy 0, 240, .inl oob)) := by rw [eV1, va_up_ne _ _ (by omega)]; exact h2017
                have h2018 : V1 (2018) = some (.inl (cy 0, 240, .inl ome)) := by rw [eV1, va_up_ne _ _ (by omega)]; exact h2018
                have h2019 : V1 (2019) = some (.inl (cy 0, 240, .inl onu)) := by rw [eV1, va_up_ne _ _ (by omega)]; exact h2019
                have h2020 : V1 (2020) = some (.inl (cy 1, 2880, .inr (.inl oke))) := by rw [eV1, va_up_ne _ _ (by omega)]; exact h2020
                have h2023 : V1 (2023) = some (.inl (cy 1, 60, .inr (.inl ksc))) := by rw [eV1, va_up_ne _ _ (by omega)]; exact h2023
                have h2024 : V1 (2024) = some (.inl (cy 0, 3200, .inl kme)) := by rw [eV1, va_up_ne _ _ (by omega)]; exact h2024
                have h2025 : V1 (2025) = some (.inl (cy 0, 20, .inl kob)) := by rw [eV1, va_up_ne _ _ (by omega)]; exact h2025
                have h2026 : V1 (2026) = some (.inl (cy 0, 160, .inl was)) := by rw [eV1, va_up_ne _ _ (by omega)]; exact h2026
                have h2027 : V1 (2027) = some (.inl (cy 1, 12, .inr (.inl wwa))) := by rw [eV1, va_up_ne _ _ (by omega)]; exact h2027
                have h2002 : V1 (2002) = some (.inl (cy 0, 12, .inl (upd ak k a))) := by rw [eV1, va_up_self]
                refine lv_aload_n hx hb dX7_rule_85 rfl (lv_at hl 0 rfl) ?_
                refine g_X7_X7_looks hx hb hown hK hW h2000 dX7_rule_86 ?_
                refine lv_aload_n hx hb dX7_rule_89 rfl (lv_at hl 0 rfl) ?_
                refine g_X7_X7_rules hx hb hown hK hW h2000 dX7_rule_90 ?_
                refine lv_iload_n hx hb dX7_rule_93 rfl (lv_at hl 2 rfl) ?_
                refine w_iast hx hb hK hW hS h2003 (j := k) (rfl) (by omega) (by omega) dX7_rule_94 (fun H locs hW hS => ?_)
                obtain ⟨V2, eV2⟩ : ∃ x9, x9 = va_up V1 (2003) (some (.inl (cy 0, 12, .inl (upd al k b)))) := ⟨_, rfl⟩
                rw [← eV2] at hW
                have h2000 : V2 (2000) = some (.inr (7, [.int (nI n), .int (nI k), .ref (ad (2002)), .ref (ad (2003)), .ref (ad (2004)), .ref (ad (2005)), .ref (ad (2006)), .int (nI P), .ref (ad (2008)), .ref (ad (2009)), .ref (ad (2010)), .ref (ad (2011)), .ref (ad (2012)), .ref (ad (2013)), .ref (ad (2014)), .ref (ad (2015)), .ref (ad (2016)), .ref (ad (2017)), .ref (ad (2018)), .ref (ad (2019)), .ref (ad (2020)), .int (ce), .int (nI K), .ref (ad (2023)), .ref (ad (2024)), .ref (ad (2025)), .ref (ad (2026)), .ref (ad (2027))])) := by rw [eV2, va_up_ne _ _ (by omega)]; exact h2000
                have h2004 : V2 (2004) = some (.inl (cy 0, 12, .inl ab)) := by rw [eV2, va_up_ne _ _ (by omega)]; exact h2004
                have h2005 : V2 (2005) = some (.inl (cy 0, 12, .inl aw)) := by rw [eV2, va_up_ne _ _ (by omega)]; exact h2005
                have h2006 : V2 (2006) = some (.inl (cy 0, 12, .inl av)) := by rw [eV2, va_up_ne _ _ (by omega)]; exact h2006
                have h2008 : V2 (2008) = some (.inl (cy 0, 640, .inl mem)) := by rw [eV2, va_up_ne _ _ (by omega)]; exact h2008
                have h2009 : V2 (2009) = some (.inl (cy 1, 48, .inr (.inl kpt))) := by rw [eV2, va_up_ne _ _ (by omega)]; exact h2009
                have h2010 : V2 (2010) = some (.inl (cy 2, 48, .inl (fun r => b2i (fgt r)))) := by rw [eV2, va_up_ne _ _ (by omega)]; exact h2010
                have h2011 : V2 (2011) = some (.inl (cy 0, 4, .inl cha)) := by rw [eV2, va_up_ne _ _ (by omega)]; exact h2011
                have h2012 : V2 (2012) = some (.inl (cy 0, 4, .inl cos)) := by rw [eV2, va_up_ne _ _ (by omega)]; exact h2012
                have h2013 : V2 (2013) = some (.inl (cy 0, 4, .inl fnd)) := by rw [eV2, va_up_ne _ _ (by omega)]; exact h2013
                have h2014 : V2 (2014) = some (.inl (cy 2, 4, .inl (fun r => b2i (isb r)))) := by rw [eV2, va_up_ne _ _ (by omega)]; exact h2014
                have h2015 : V2 (2015) = some (.inl (cy 0, 4, .inl bat)) := by rw [eV2, va_up_ne _ _ (by omega)]; exact h2015
                have h2016 : V2 (2016) = some (.inl (cy 0, 4, .inl kno)) := by rw [eV2, va_up_ne _ _ (by omega)]; exact h2016
                have h2017 : V2 (2017) = some (.inl (cy 0, 240, .inl oob)) := by rw [eV2, va_up_ne _ _ (by omega)]; exact h2017
                have h2018 : V2 (2018) = some (.inl (cy 0, 240, .inl ome)) := by rw [eV2, va_up_ne _ _ (by omega)]; exact h2018
                have h2019 : V2 (2019) = some (.inl (cy 0, 240, .inl onu)) := by rw [eV2, va_up_ne _ _ (by omega)]; exact h2019
                have h2020 : V2 (2020) = some (.inl (cy 1, 2880, .inr (.inl oke))) := by rw [eV2, va_up_ne _ _ (by omega)]; exact h2020
                have h2023 : V2 (2023) = some (.inl (cy 1, 60, .inr (.inl ksc))) := by rw [eV2, va_up_ne _ _ (by omega)]; exact h2023
                have h2024 : V2 (2024) = some (.inl (cy 0, 3200, .inl kme)) := by rw [eV2, va_up_ne _ _ (by omega)]; exact h2024
                have h2025 : V2 (2025) = some (.inl (cy 0, 20, .inl kob)) := by rw [eV2, va_up_ne _ _ (by omega)]; exact h2025
                have h2026 : V2 (2026) = some (.inl (cy 0, 160, .inl was)) := by rw [eV2, va_up_ne _ _ (by omega)]; exact h2026
                have h2027 : V2 (2027) = some (.inl (cy 1, 12, .inr (.inl wwa))) := by rw [eV2, va_up_ne _ _ (by omega)]; exact h2027
                have h2002 : V2 (2002) = some (.inl (cy 0, 12, .inl (upd ak k a))) := by rw [eV2, va_up_ne _ _ (by omega)]; exact h2002
                have h2003 : V2 (2003) = some (.inl (cy 0, 12, .inl (upd al k b))) := by rw [eV2, va_up_self]
                refine lv_aload_n hx hb dX7_rule_95 rfl (lv_at hl 0 rfl) ?_
                refine g_X7_X7_bound hx hb hown hK hW h2000 dX7_rule_96 ?_
                refine lv_aload_n hx hb dX7_rule_99 rfl (lv_at hl 0 rfl) ?_
                refine g_X7_X7_rules hx hb hown hK hW h2000 dX7_rule_100 ?_
                refine lv_iload_n hx hb dX7_rule_103 rfl (lv_at hl 3 rfl) ?_
                refine w_iast hx hb hK hW hS h2004 (j := k) (rfl) (by omega) (by omega) dX7_rule_104 (fun H locs hW hS => ?_)
                obtain ⟨V3, eV3⟩ : ∃ x9, x9 = va_up V2 (2004) (some (.inl (cy 0, 12, .inl (upd ab k x)))) := ⟨_, rfl⟩
                rw [← eV3] at hW
                have h2000 : V3 (2000) = some (.inr (7, [.int (nI n), .int (nI k), .ref (ad (2002)), .ref (ad (2003)), .ref (ad (2004)), .ref (ad (2005)), .ref (ad (2006)), .int (nI P), .ref (ad (2008)), .ref (ad (2009)), .ref (ad (2010)), .ref (ad (2011)), .ref (ad (2012)), .ref (ad (2013)), .ref (ad (2014)), .ref (ad (2015)), .ref (ad (2016)), .ref (ad (2017)), .ref (ad (2018)), .ref (ad (2019)), .ref (ad (2020)), .int (ce), .int (nI K), .ref (ad (2023)), .ref (ad (2024)), .ref (ad (2025)), .ref (ad (2026)), .ref (ad (2027))])) := by rw [eV3, va_up_ne _ _ (by omega)]; exact h2000
                have h2005 : V3 (2005) = some (.inl (cy 0, 12, .inl aw)) := by rw [eV3, va_up_ne _ _ (by omega)]; exact h2005
                have h2006 : V3 (2006) = some (.inl (cy 0, 12, .inl av)) := by rw [eV3, va_up_ne _ _ (by omega)]; exact h2006
                have h2008 : V3 (2008) = some (.inl (cy 0, 640, .inl mem)) := by rw [eV3, va_up_ne _ _ (by omega)]; exact h2008
                have h2009 : V3 (2009) = some (.inl (cy 1, 48, .inr (.inl kpt))) := by rw [eV3, va_up_ne _ _ (by omega)]; exact h2009
                have h2010 : V3 (2010) = some (.inl (cy 2, 48, .inl (fun r => b2i (fgt r)))) := by rw [eV3, va_up_ne _ _ (by omega)]; exact h2010
                have h2011 : V3 (2011) = some (.inl (cy 0, 4, .inl cha)) := by rw [eV3, va_up_ne _ _ (by omega)]; exact h2011
                have h2012 : V3 (2012) = some (.inl (cy 0, 4, .inl cos)) := by rw [eV3, va_up_ne _ _ (by omega)]; exact h2012
                have h2013 : V3 (2013) = some (.inl (cy 0, 4, .inl fnd)) := by rw [eV3, va_up_ne _ _ (by omega)]; exact h2013
                have h2014 : V3 (2014) = some (.inl (cy 2, 4, .inl (fun r => b2i (isb r)))) := by rw [eV3, va_up_ne _ _ (by omega)]; exact h2014
                have h2015 : V3 (2015) = some (.inl (cy 0, 4, .inl bat)) := by rw [eV3, va_up_ne _ _ (by omega)]; exact h2015
                have h2016 : V3 (2016) = some (.inl (cy 0, 4, .inl kno)) := by rw [eV3, va_up_ne _ _ (by omega)]; exact h2016
                have h2017 : V3 (2017) = some (.inl (cy 0, 240, .inl oob)) := by rw [eV3, va_up_ne _ _ (by omega)]; exact h2017
                have h2018 : V3 (2018) = some (.inl (cy 0, 240, .inl ome)) := by rw [eV3, va_up_ne _ _ (by omega)]; exact h2018
                have h2019 : V3 (2019) = some (.inl (cy 0, 240, .inl onu)) := by rw [eV3, va_up_ne _ _ (by omega)]; exact h2019
                have h2020 : V3 (2020) = some (.inl (cy 1, 2880, .inr (.inl oke))) := by rw [eV3, va_up_ne _ _ (by omega)]; exact h2020
                have h2023 : V3 (2023) = some (.inl (cy 1, 60, .inr (.inl ksc))) := by rw [eV3, va_up_ne _ _ (by omega)]; exact h2023
                have h2024 : V3 (2024) = some (.inl (cy 0, 3200, .inl kme)) := by rw [eV3, va_up_ne _ _ (by omega)]; exact h2024
                have h2025 : V3 (2025) = some (.inl (cy 0, 20, .inl kob)) := by rw [eV3, va_up_ne _ _ (by omega)]; exact h2025
                have h2026 : V3 (2026) = some (.inl (cy 0, 160, .inl was)) := by rw [eV3, va_up_ne _ _ (by omega)]; exact h2026
                have h2027 : V3 (2027) = some (.inl (cy 1, 12, .inr (.inl wwa))) := by rw [eV3, va_up_ne _ _ (by omega)]; exact h2027
                have h2002 : V3 (2002) = some (.inl (cy 0, 12, .inl (upd ak k a))) := by rw [eV3, va_up_ne _ _ (by omega)]; exact h2002
                have h2003 : V3 (2003) = some (.inl (cy 0, 12, .inl (upd al k b))) := by rw [eV3, va_up_ne _ _ (by omega)]; exact h2003
                have h2004 : V3 (2004) = some (.inl (cy 0, 12, .inl (upd ab k x))) := by rw [eV3, va_up_self]
                refine lv_aload_n hx hb dX7_rule_105 rfl (lv_at hl 0 rfl) ?_
                refine g_X7_X7_weight hx hb hown hK hW h2000 dX7_rule_106 ?_
                refine lv_aload_n hx hb dX7_rule_109 rfl (lv_at hl 0 rfl) ?_
                refine g_X7_X7_rules hx hb hown hK hW h2000 dX7_rule_110 ?_
                refine lv_iload hx hb dX7_rule_113 (lv_at hl 4 rfl) ?_
                refine w_iast hx hb hK hW hS h2005 (j := k) (rfl) (by omega) (by omega) dX7_rule_115 (fun H locs hW hS => ?_)
                obtain ⟨V4, eV4⟩ : ∃ x9, x9 = va_up V3 (2005) (some (.inl (cy 0, 12, .inl (upd aw k w)))) := ⟨_, rfl⟩
                rw [← eV4] at hW
                have h2000 : V4 (2000) = some (.inr (7, [.int (nI n), .int (nI k), .ref (ad (2002)), .ref (ad (2003)), .ref (ad (2004)), .ref (ad (2005)), .ref (ad (2006)), .int (nI P), .ref (ad (2008)), .ref (ad (2009)), .ref (ad (2010)), .ref (ad (2011)), .ref (ad (2012)), .ref (ad (2013)), .ref (ad (2014)), .ref (ad (2015)), .ref (ad (2016)), .ref (ad (2017)), .ref (ad (2018)), .ref (ad (2019)), .ref (ad (2020)), .int (ce), .int (nI K), .ref (ad (2023)), .ref (ad (2024)), .ref (ad (2025)), .ref (ad (2026)), .ref (ad (2027))])) := by rw [eV4, va_up_ne _ _ (by omega)]; exact h2000
                have h2006 : V4 (2006) = some (.inl (cy 0, 12, .inl av)) := by rw [eV4, va_up_ne _ _ (by omega)]; exact h2006
                have h2008 : V4 (2008) = some (.inl (cy 0, 640, .inl mem)) := by rw [eV4, va_up_ne _ _ (by omega)]; exact h2008
                have h2009 : V4 (2009) = some (.inl (cy 1, 48, .inr (.inl kpt))) := by rw [eV4, va_up_ne _ _ (by omega)]; exact h2009
                have h2010 : V4 (2010) = some (.inl (cy 2, 48, .inl (fun r => b2i (fgt r)))) := by rw [eV4, va_up_ne _ _ (by omega)]; exact h2010
                have h2011 : V4 (2011) = some (.inl (cy 0, 4, .inl cha)) := by rw [eV4, va_up_ne _ _ (by omega)]; exact h2011
                have h2012 : V4 (2012) = some (.inl (cy 0, 4, .inl cos)) := by rw [eV4, va_up_ne _ _ (by omega)]; exact h2012
                have h2013 : V4 (2013) = some (.inl (cy 0, 4, .inl fnd)) := by rw [eV4, va_up_ne _ _ (by omega)]; exact h2013
                have h2014 : V4 (2014) = some (.inl (cy 2, 4, .inl (fun r => b2i (isb r)))) := by rw [eV4, va_up_ne _ _ (by omega)]; exact h2014
                have h2015 : V4 (2015) = some (.inl (cy 0, 4, .inl bat)) := by rw [eV4, va_up_ne _ _ (by omega)]; exact h2015
                have h2016 : V4 (2016) = some (.inl (cy 0, 4, .inl kno)) := by rw [eV4, va_up_ne _ _ (by omega)]; exact h2016
                have h2017 : V4 (2017) = some (.inl (cy 0, 240, .inl oob)) := by rw [eV4, va_up_ne _ _ (by omega)]; exact h2017
                have h2018 : V4 (2018) = some (.inl (cy 0, 240, .inl ome)) := by rw [eV4, va_up_ne _ _ (by omega)]; exact h2018
                have h2019 : V4 (2019) = some (.inl (cy 0, 240, .inl onu)) := by rw [eV4, va_up_ne _ _ (by omega)]; exact h2019
                have h2020 : V4 (2020) = some (.inl (cy 1, 2880, .inr (.inl oke))) := by rw [eV4, va_up_ne _ _ (by omega)]; exact h2020
                have h2023 : V4 (2023) = some (.inl (cy 1, 60, .inr (.inl ksc))) := by rw [eV4, va_up_ne _ _ (by omega)]; exact h2023
                have h2024 : V4 (2024) = some (.inl (cy 0, 3200, .inl kme)) := by rw [eV4, va_up_ne _ _ (by omega)]; exact h2024
                have h2025 : V4 (2025) = some (.inl (cy 0, 20, .inl kob)) := by rw [eV4, va_up_ne _ _ (by omega)]; exact h2025
                have h2026 : V4 (2026) = some (.inl (cy 0, 160, .inl was)) := by rw [eV4, va_up_ne _ _ (by omega)]; exact h2026
                have h2027 : V4 (2027) = some (.inl (cy 1, 12, .inr (.inl wwa))) := by rw [eV4, va_up_ne _ _ (by omega)]; exact h2027
                have h2002 : V4 (2002) = some (.inl (cy 0, 12, .inl (upd ak k a))) := by rw [eV4, va_up_ne _ _ (by omega)]; exact h2002
                have h2003 : V4 (2003) = some (.inl (cy 0, 12, .inl (upd al k b))) := by rw [eV4, va_up_ne _ _ (by omega)]; exact h2003
                have h2004 : V4 (2004) = some (.inl (cy 0, 12, .inl (upd ab k x))) := by rw [eV4, va_up_ne _ _ (by omega)]; exact h2004
                have h2005 : V4 (2005) = some (.inl (cy 0, 12, .inl (upd aw k w))) := by rw [eV4, va_up_self]
                refine lv_aload_n hx hb dX7_rule_116 rfl (lv_at hl 0 rfl) ?_
                refine g_X7_X7_level hx hb hown hK hW h2000 dX7_rule_117 ?_
                refine lv_aload_n hx hb dX7_rule_120 rfl (lv_at hl 0 rfl) ?_
                refine g_X7_X7_rules hx hb hown hK hW h2000 dX7_rule_121 ?_
                refine lv_iload hx hb dX7_rule_124 (lv_at hl 5 rfl) ?_
                refine w_iast hx hb hK hW hS h2006 (j := k) (rfl) (by omega) (by omega) dX7_rule_126 (fun H locs hW hS => ?_)
                obtain ⟨V5, eV5⟩ : ∃ x9, x9 = va_up V4 (2006) (some (.inl (cy 0, 12, .inl (upd av k v)))) := ⟨_, rfl⟩
                rw [← eV5] at hW
                have h2000 : V5 (2000) = some (.inr (7, [.int (nI n), .int (nI k), .ref (ad (2002)), .ref (ad (2003)), .ref (ad (2004)), .ref (ad (2005)), .ref (ad (2006)), .int (nI P), .ref (ad (2008)), .ref (ad (2009)), .ref (ad (2010)), .ref (ad (2011)), .ref (ad (2012)), .ref (ad (2013)), .ref (ad (2014)), .ref (ad (2015)), .ref (ad (2016)), .ref (ad (2017)), .ref (ad (2018)), .ref (ad (2019)), .ref (ad (2020)), .int (ce), .int (nI K), .ref (ad (2023)), .ref (ad (2024)), .ref (ad (2025)), .ref (ad (2026)), .ref (ad (2027))])) := by rw [eV5, va_up_ne _ _ (by omega)]; exact h2000
                have h2008 : V5 (2008) = some (.inl (cy 0, 640, .inl mem)) := by rw [eV5, va_up_ne _ _ (by omega)]; exact h2008
                have h2009 : V5 (2009) = some (.inl (cy 1, 48, .inr (.inl kpt))) := by rw [eV5, va_up_ne _ _ (by omega)]; exact h2009
                have h2010 : V5 (2010) = some (.inl (cy 2, 48, .inl (fun r => b2i (fgt r)))) := by rw [eV5, va_up_ne _ _ (by omega)]; exact h2010
                have h2011 : V5 (2011) = some (.inl (cy 0, 4, .inl cha)) := by rw [eV5, va_up_ne _ _ (by omega)]; exact h2011
                have h2012 : V5 (2012) = some (.inl (cy 0, 4, .inl cos)) := by rw [eV5, va_up_ne _ _ (by omega)]; exact h2012
                have h2013 : V5 (2013) = some (.inl (cy 0, 4, .inl fnd)) := by rw [eV5, va_up_ne _ _ (by omega)]; exact h2013
                have h2014 : V5 (2014) = some (.inl (cy 2, 4, .inl (fun r => b2i (isb r)))) := by rw [eV5, va_up_ne _ _ (by omega)]; exact h2014
                have h2015 : V5 (2015) = some (.inl (cy 0, 4, .inl bat)) := by rw [eV5, va_up_ne _ _ (by omega)]; exact h2015
                have h2016 : V5 (2016) = some (.inl (cy 0, 4, .inl kno)) := by rw [eV5, va_up_ne _ _ (by omega)]; exact h2016
                have h2017 : V5 (2017) = some (.inl (cy 0, 240, .inl oob)) := by rw [eV5, va_up_ne _ _ (by omega)]; exact h2017
                have h2018 : V5 (2018) = some (.inl (cy 0, 240, .inl ome)) := by rw [eV5, va_up_ne _ _ (by omega)]; exact h2018
                have h2019 : V5 (2019) = some (.inl (cy 0, 240, .inl onu)) := by rw [eV5, va_up_ne _ _ (by omega)]; exact h2019
                have h2020 : V5 (2020) = some (.inl (cy 1, 2880, .inr (.inl oke))) := by rw [eV5, va_up_ne _ _ (by omega)]; exact h2020
                have h2023 : V5 (2023) = some (.inl (cy 1, 60, .inr (.inl ksc))) := by rw [eV5, va_up_ne _ _ (by omega)]; exact h2023
                have h2024 : V5 (2024) = some (.inl (cy 0, 3200, .inl kme)) := by rw [eV5, va_up_ne _ _ (by omega)]; exact h2024
                have h2025 : V5 (2025) = some (.inl (cy 0, 20, .inl kob)) := by rw [eV5, va_up_ne _ _ (by omega)]; exact h2025
                have h2026 : V5 (2026) = some (.inl (cy 0, 160, .inl was)) := by rw [eV5, va_up_ne _ _ (by omega)]; exact h2026
                have h2027 : V5 (2027) = some (.inl (cy 1, 12, .inr (.inl wwa))) := by rw [eV5, va_up_ne _ _ (by omega)]; exact h2027
                have h2002 : V5 (2002) = some (.inl (cy 0, 12, .inl (upd ak k a))) := by rw [eV5, va_up_ne _ _ (by omega)]; exact h2002
                have h2003 : V5 (2003) = some (.inl (cy 0, 12, .inl (upd al k b))) := by rw [eV5, va_up_ne _ _ (by omega)]; exact h2003
                have h2004 : V5 (2004) = some (.inl (cy 0, 12, .inl (upd ab k x))) := by rw [eV5, va_up_ne _ _ (by omega)]; exact h2004
                have h2005 : V5 (2005) = some (.inl (cy 0, 12, .inl (upd aw k w))) := by rw [eV5, va_up_ne _ _ (by omega)]; exact h2005
                have h2006 : V5 (2006) = some (.inl (cy 0, 12, .inl (upd av k v))) := by rw [eV5, va_up_self]
                refine lv_aload_n hx hb dX7_rule_127 rfl (lv_at hl 0 rfl) ?_
                refine g_X7_X7_kept hx hb hown hK hW h2000 dX7_rule_128 ?_
                refine lv_aload_n hx hb dX7_rule_131 rfl (lv_at hl 0 rfl) ?_
                refine g_X7_X7_rules hx hb hown hK hW h2000 dX7_rule_132 ?_
                refine lv_aload_n hx hb dX7_rule_135 rfl (lv_at hl 0 rfl) ?_
                refine lv_iconst (v := nI 0) hx hb dX7_rule_136 (by decide) ?_
                refine lv_aload_n hx hb dX7_rule_137 rfl (lv_at hl 0 rfl) ?_
                refine g_X7_X7_rules hx hb hown hK hW h2000 dX7_rule_138 ?_
                refine vp_callSl (va_Run.run (va_runV (As := [.int (nI 0), .int (nI k)]) (rest := [.int (nI k), .ref (ad (2009))]) ⟨hx, hb, hml, hown, hK.1.use _⟩ (c_X7_worthP l D cy z0 ad V5 n k P K ce h2000 (upd ak k a) h2002 (upd al k b) h2003 (upd ab k x) h2004 (upd aw k w) h2005 mem h2008 hn40 0 (by omega) ρ2 (pM π) hvw hM0 k (by omega) (by rw [eρk]; exact ⟨Nat.lt_succ_of_le h_kd, Nat.lt_succ_of_le h_lk⟩) (by rw [eρk]; exact wiB_bI c26) (by rw [eρk, pk_us, pk_us, pk_us, pk_us]; exact ⟨e_kd, e_lk, rfl, rfl⟩)) (k_X7_X7_worthOf hK.1 rfl rfl ⟨Nat.le_of_ble_eq_true rfl, Nat.le_of_ble_eq_true rfl⟩) (preV hK (Nat.le_trans hz hS.1) hW h2000 rfl) rfl rfl hl.1 rfl (lv_room (Nat.le_of_ble_eq_true rfl)) dX7_rule_141 ⟨Nat.le_of_ble_eq_true rfl, Nat.le_of_ble_eq_true rfl⟩)) (fun r141 h141 => ?_)
                have h141 : r141 = wthR ρ2 k (pM π) n := h141
                subst h141
                refine w_last hx hb hK hW hS h2009 (j := k) (rfl) (by omega) (by omega) dX7_rule_144 (fun H locs hW hS => ?_)
                obtain ⟨V6, eV6⟩ : ∃ x9, x9 = va_up V5 (2009) (some (.inl (cy 1, 48, .inr (.inl (vp_updL kpt k (wthR ρ2 k (pM π) n)))))) := ⟨_, rfl⟩
                rw [← eV6] at hW
                have h2000 : V6 (2000) = some (.inr (7, [.int (nI n), .int (nI k), .ref (ad (2002)), .ref (ad (2003)), .ref (ad (2004)), .ref (ad (2005)), .ref (ad (2006)), .int (nI P), .ref (ad (2008)), .ref (ad (2009)), .ref (ad (2010)), .ref (ad (2011)), .ref (ad (2012)), .ref (ad (2013)), .ref (ad (2014)), .ref (ad (2015)), .ref (ad (2016)), .ref (ad (2017)), .ref (ad (2018)), .ref (ad (2019)), .ref (ad (2020)), .int (ce), .int (nI K), .ref (ad (2023)), .ref (ad (2024)), .ref (ad (2025)), .ref (ad (2026)), .ref (ad (2027))])) := by rw [eV6, va_up_ne _ _ (by omega)]; exact h2000
                have h2008 : V6 (2008) = some (.inl (cy 0, 640, .inl mem)) := by rw [eV6, va_up_ne _ _ (by omega)]; exact h2008
                have h2010 : V6 (2010) = some (.inl (cy 2, 48, .inl (fun r => b2i (fgt r)))) := by rw [eV6, va_up_ne _ _ (by omega)]; exact h2010
                have h2011 : V6 (2011) = some (.inl (cy 0, 4, .inl cha)) := by rw [eV6, va_up_ne _ _ (by omega)]; exact h2011
                have h2012 : V6 (2012) = some (.inl (cy 0, 4, .inl cos)) := by rw [eV6, va_up_ne _ _ (by omega)]; exact h2012
                have h2013 : V6 (2013) = some (.inl (cy 0, 4, .inl fnd)) := by rw [eV6, va_up_ne _ _ (by omega)]; exact h2013
                have h2014 : V6 (2014) = some (.inl (cy 2, 4, .inl (fun r => b2i (isb r)))) := by rw [eV6, va_up_ne _ _ (by omega)]; exact h2014
                have h2015 : V6 (2015) = some (.inl (cy 0, 4, .inl bat)) := by rw [eV6, va_up_ne _ _ (by omega)]; exact h2015
                have h2016 : V6 (2016) = some (.inl (cy 0, 4, .inl kno)) := by rw [eV6, va_up_ne _ _ (by omega)]; exact h2016
                have h2017 : V6 (2017) = some (.inl (cy 0, 240, .inl oob)) := by rw [eV6, va_up_ne _ _ (by omega)]; exact h2017
                have h2018 : V6 (2018) = some (.inl (cy 0, 240, .inl ome)) := by rw [eV6, va_up_ne _ _ (by omega)]; exact h2018
                have h2019 : V6 (2019) = some (.inl (cy 0, 240, .inl onu)) := by rw [eV6, va_up_ne _ _ (by omega)]; exact h2019
                have h2020 : V6 (2020) = some (.inl (cy 1, 2880, .inr (.inl oke))) := by rw [eV6, va_up_ne _ _ (by omega)]; exact h2020
                have h2023 : V6 (2023) = some (.inl (cy 1, 60, .inr (.inl ksc))) := by rw [eV6, va_up_ne _ _ (by omega)]; exact h2023
                have h2024 : V6 (2024) = some (.inl (cy 0, 3200, .inl kme)) := by rw [eV6, va_up_ne _ _ (by omega)]; exact h2024
                have h2025 : V6 (2025) = some (.inl (cy 0, 20, .inl kob)) := by rw [eV6, va_up_ne _ _ (by omega)]; exact h2025
                have h2026 : V6 (2026) = some (.inl (cy 0, 160, .inl was)) := by rw [eV6, va_up_ne _ _ (by omega)]; exact h2026
                have h2027 : V6 (2027) = some (.inl (cy 1, 12, .inr (.inl wwa))) := by rw [eV6, va_up_ne _ _ (by omega)]; exact h2027
                have h2002 : V6 (2002) = some (.inl (cy 0, 12, .inl (upd ak k a))) := by rw [eV6, va_up_ne _ _ (by omega)]; exact h2002
                have h2003 : V6 (2003) = some (.inl (cy 0, 12, .inl (upd al k b))) := by rw [eV6, va_up_ne _ _ (by omega)]; exact h2003
                have h2004 : V6 (2004) = some (.inl (cy 0, 12, .inl (upd ab k x))) := by rw [eV6, va_up_ne _ _ (by omega)]; exact h2004
                have h2005 : V6 (2005) = some (.inl (cy 0, 12, .inl (upd aw k w))) := by rw [eV6, va_up_ne _ _ (by omega)]; exact h2005
                have h2006 : V6 (2006) = some (.inl (cy 0, 12, .inl (upd av k v))) := by rw [eV6, va_up_ne _ _ (by omega)]; exact h2006
                have h2009 : V6 (2009) = some (.inl (cy 1, 48, .inr (.inl (vp_updL kpt k (wthR ρ2 k (pM π) n))))) := by rw [eV6, va_up_self]
                refine lv_aload_n hx hb dX7_rule_145 rfl (lv_at hl 0 rfl) ?_
                refine lv_dup hx hb dX7_rule_146 rfl ?_
                refine g_X7_X7_rules hx hb hown hK hW h2000 dX7_rule_147 ?_
                refine lv_iconst (v := nI 1) hx hb dX7_rule_150 (by decide) ?_
                refine lv_iadd hx hb dX7_rule_151 ?_
                refine asi (y := nI (k + 1)) (nI_add _ _) ?_
                refine p_X7_X7_rules hx hb hown hK hW hS h2000 dX7_rule_152 (fun H locs hW hS => ?_)
                obtain ⟨V7, eV7⟩ : ∃ x9, x9 = va_up V6 (2000) (some (.inr (7, [.int (nI n), .int (nI (k + 1)), .ref (ad (2002)), .ref (ad (2003)), .ref (ad (2004)), .ref (ad (2005)), .ref (ad (2006)), .int (nI P), .ref (ad (2008)), .ref (ad (2009)), .ref (ad (2010)), .ref (ad (2011)), .ref (ad (2012)), .ref (ad (2013)), .ref (ad (2014)), .ref (ad (2015)), .ref (ad (2016)), .ref (ad (2017)), .ref (ad (2018)), .ref (ad (2019)), .ref (ad (2020)), .int (ce), .int (nI K), .ref (ad (2023)), .ref (ad (2024)), .ref (ad (2025)), .ref (ad (2026)), .ref (ad (2027))]))) := ⟨_, rfl⟩
                rw [← eV7] at hW
                have h2008 : V7 (2008) = some (.inl (cy 0, 640, .inl mem)) := by rw [eV7, va_up_ne _ _ (by omega)]; exact h2008
                have h2010 : V7 (2010) = some (.inl (cy 2, 48, .inl (fun r => b2i (fgt r)))) := by rw [eV7, va_up_ne _ _ (by omega)]; exact h2010
                have h2011 : V7 (2011) = some (.inl (cy 0, 4, .inl cha)) := by rw [eV7, va_up_ne _ _ (by omega)]; exact h2011
                have h2012 : V7 (2012) = some (.inl (cy 0, 4, .inl cos)) := by rw [eV7, va_up_ne _ _ (by omega)]; exact h2012
                have h2013 : V7 (2013) = some (.inl (cy 0, 4, .inl fnd)) := by rw [eV7, va_up_ne _ _ (by omega)]; exact h2013
                have h2014 : V7 (2014) = some (.inl (cy 2, 4, .inl (fun r => b2i (isb r)))) := by rw [eV7, va_up_ne _ _ (by omega)]; exact h2014
                have h2015 : V7 (2015) = some (.inl (cy 0, 4, .inl bat)) := by rw [eV7, va_up_ne _ _ (by omega)]; exact h2015
                have h2016 : V7 (2016) = some (.inl (cy 0, 4, .inl kno)) := by rw [eV7, va_up_ne _ _ (by omega)]; exact h2016
                have h2017 : V7 (2017) = some (.inl (cy 0, 240, .inl oob)) := by rw [eV7, va_up_ne _ _ (by omega)]; exact h2017
                have h2018 : V7 (2018) = some (.inl (cy 0, 240, .inl ome)) := by rw [eV7, va_up_ne _ _ (by omega)]; exact h2018
                have h2019 : V7 (2019) = some (.inl (cy 0, 240, .inl onu)) := by rw [eV7, va_up_ne _ _ (by omega)]; exact h2019
                have h2020 : V7 (2020) = some (.inl (cy 1, 2880, .inr (.inl oke))) := by rw [eV7, va_up_ne _ _ (by omega)]; exact h2020
                have h2023 : V7 (2023) = some (.inl (cy 1, 60, .inr (.inl ksc))) := by rw [eV7, va_up_ne _ _ (by omega)]; exact h2023
                have h2024 : V7 (2024) = some (.inl (cy 0, 3200, .inl kme)) := by rw [eV7, va_up_ne _ _ (by omega)]; exact h2024
                have h2025 : V7 (2025) = some (.inl (cy 0, 20, .inl kob)) := by rw [eV7, va_up_ne _ _ (by omega)]; exact h2025
                have h2026 : V7 (2026) = some (.inl (cy 0, 160, .inl was)) := by rw [eV7, va_up_ne _ _ (by omega)]; exact h2026
                have h2027 : V7 (2027) = some (.inl (cy 1, 12, .inr (.inl wwa))) := by rw [eV7, va_up_ne _ _ (by omega)]; exact h2027
                have h2002 : V7 (2002) = some (.inl (cy 0, 12, .inl (upd ak k a))) := by rw [eV7, va_up_ne _ _ (by omega)]; exact h2002
                have h2003 : V7 (2003) = some (.inl (cy 0, 12, .inl (upd al k b))) := by rw [eV7, va_up_ne _ _ (by omega)]; exact h2003
                have h2004 : V7 (2004) = some (.inl (cy 0, 12, .inl (upd ab k x))) := by rw [eV7, va_up_ne _ _ (by omega)]; exact h2004
                have h2005 : V7 (2005) = some (.inl (cy 0, 12, .inl (upd aw k w))) := by rw [eV7, va_up_ne _ _ (by omega)]; exact h2005
                have h2006 : V7 (2006) = some (.inl (cy 0, 12, .inl (upd av k v))) := by rw [eV7, va_up_ne _ _ (by omega)]; exact h2006
                have h2009 : V7 (2009) = some (.inl (cy 1, 48, .inr (.inl (vp_updL kpt k (wthR ρ2 k (pM π) n))))) := by rw [eV7, va_up_ne _ _ (by omega)]; exact h2009
                have h2000 : V7 (2000) = some (.inr (7, [.int (nI n), .int (nI (k + 1)), .ref (ad (2002)), .ref (ad (2003)), .ref (ad (2004)), .ref (ad (2005)), .ref (ad (2006)), .int (nI P), .ref (ad (2008)), .ref (ad (2009)), .ref (ad (2010)), .ref (ad (2011)), .ref (ad (2012)), .ref (ad (2013)), .ref (ad (2014)), .ref (ad (2015)), .ref (ad (2016)), .ref (ad (2017)), .ref (ad (2018)), .ref (ad (2019)), .ref (ad (2020)), .int (ce), .int (nI K), .ref (ad (2023)), .ref (ad (2024)), .ref (ad (2025)), .ref (ad (2026)), .ref (ad (2027))])) := by rw [eV7, va_up_self]
                refine lv_aload_n hx hb dX7_rule_155 rfl (lv_at hl 0 rfl) ?_
                refine g_X7_X7_rules hx hb hown hK hW h2000 dX7_rule_156 ?_
                refine lv_iconst (v := nI 1) hx hb dX7_rule_159 (by decide) ?_
                refine lv_isub hx hb dX7_rule_160 ?_
                refine asi (y := nI ((k + 1) - 1)) (pk_sub (by omega)) ?_
                exact rwi hx hb hr hlocks dX7_rule_161 hW hS (by
      have hx9 : xRule n k P ρ pl a b x w v = (nI k, k + 1, ρ2, va_up pl 0 (plRule n k ρ2 π)) := by unfold xRule; rw [if_pos hr9, if_neg (by rw [c57]; decide), if_pos hk9, eπ, eρ]
      rw [hx9]
      have hru2 : ∀ r, r < k + 1 → upd ak k a r = nI (ρ2 r).1 ∧ upd al k b r = nI (ρ2 r).2.1 ∧ upd ab k x r = (ρ2 r).2.2.1 ∧ upd aw k w r = (ρ2 r).2.2.2.1 := fun r hr => by
        by_cases q : r = k
        · subst q; rw [eρk, pk_us, pk_us, pk_us, pk_us]; exact ⟨e_kd, e_lk, rfl, rfl⟩
        · rw [eρr r (by omega), pk_un q, pk_un q, pk_un q, pk_un q]; exact hru r (by omega)
      have hlv2 : ∀ r, r < k + 1 → upd av k v r = (ρ2 r).2.2.2.2 := fun r hr => by
        by_cases q : r = k
        · subst q; rw [eρk, pk_us]
        · rw [eρr r (by omega), pk_un q]; exact hlv r (by omega)
      have hP9 : ∀ q, q < P → q = 0 := fun q hq => by
        have e9 : ¬ 1 < P := fun e => by have c57 := c57; unfold stB at c57; simp [e] at c57
        omega
      refine ⟨rfl, rfl, ?_, fun L hL => by show V7 L = _; rw [eV7, va_up_ne _ _ (by omega), eV6, va_up_ne _ _ (by omega), eV5, va_up_ne _ _ (by omega), eV4, va_up_ne _ _ (by omega), eV3, va_up_ne _ _ (by omega), eV2, va_up_ne _ _ (by omega), eV1, va_up_ne _ _ (by omega)]⟩
      show isM ad V7 cy n (k + 1) P K ce ρ2 (va_up pl 0 (plRule n k ρ2 π)) sn
      refine ⟨_, _, _, _, _, _, _, _, _, _, _, _, _, _, _, _, _, _, _, _, _, _, _, ⟨h2000, h2002, h2003, h2004, h2005, h2006, h2008, h2009, h2010, h2011, h2012, h2013, h2014, h2015, h2016, h2017, h2018, h2019, h2020, h2023, h2024, h2025, h2026, h2027⟩, ⟨hru2, hlv2⟩, ⟨fun q hq => ?_, hrp.2⟩, hrs⟩
      have e9 := hP9 q hq
      subst e9
      rw [va_up_self]
      refine ⟨hvw, fun r hr => ?_, hfg, ech, eco, efo, ebb, ebt, ekn, fun i hi => ?_⟩
      · show vp_updL kpt k _ (12 * 0 + r) = vp_updL (pK π) k (wthR ρ2 k (pM π) n) r
        have e7 := updL_at (f := kpt) (g := pK π) (a := 12 * 0) (r := r) (rr := k) (w := wthR ρ2 k (pM π) n)
        by_cases q : r = k
        · subst q
          rw [show 12 * 0 + r = r by omega]
          simp [vp_updL]
        · have e8 := e7 (hkp r (by omega))
          rw [show 12 * 0 + k = k by omega] at e8
          exact e8
      · have hi : i < pKn π := hi
        omega)
              · skip
                have c69 := nI_eq' c69 (by omega) (by omega)
                refine lv_bipush (v := -4) hx hb dX7_rule_72 (by decide) ?_
                exact rwi hx hb hr hlocks dX7_rule_74 hW hS (⟨by unfold xRule; rw [if_pos hr9, if_neg (by rw [c57]; decide), if_neg (by omega)], rfl, by unfold xRule; rw [if_pos hr9, if_neg (by rw [c57]; decide), if_neg (by omega)]; exact hM, fun L _ => rfl⟩)
            · skip
              have c57 := b2i_1.mp c57
              refine lv_bipush (v := -3) hx hb dX7_rule_60 (by decide) ?_
              exact rwi hx hb hr hlocks dX7_rule_62 hW hS (⟨by unfold xRule; rw [if_pos hr9, if_pos c57], rfl, by unfold xRule; rw [if_pos hr9, if_pos c57]; exact hM, fun L _ => rfl⟩)
          · skip
            have c48 := b2i_0.mp c48
            refine lv_iconst (v := -1) hx hb dX7_rule_51 (by decide) ?_
            exact rwi hx hb hr hlocks dX7_rule_52 hW hS (⟨by unfold xRule; rw [show ruB a b x w v = false from by unfold ruB; simp [c48]]; rfl, rfl, by unfold xRule; rw [show ruB a b x w v = false from by unfold ruB; simp [c48]]; exact hM, fun L _ => rfl⟩)

set_option maxHeartbeats 4000000 in
set_option maxRecDepth 100000 in
theorem c_X7_fork (l : Launch) (D : va_G) (cy : Nat → ClassId) (z0 : Nat) (ad : Nat → Nat) (V : Nat → Option va_E) (c0 n k P K : Nat) (ce : Int32) (ρ : RuT) (pl : Nat → PlT) (sn : Nat → SnT) (hM : isM ad V cy n k P K ce ρ pl sn) (hG : gdX c0 n k P K ρ pl sn) (pi : Int32) : Met l yX7_fork [Cond.code yX7_fork cX7_fork 3 (some .int)] { frames := 2, cells := 0, slots := 0, locals := 43 } (WP [.ref (ad (2000)), .int (pi)] D cy z0 ad V) (va_Qi (fun r u => r = (xFork k P pl pi).1 ∧ u.1 = ad ∧ isM ad u.2 cy n k (xFork k P pl pi).2.1 K ce ρ (xFork k P pl pi).2.2 sn ∧ ∀ L, L < 2000 → u.2 L = V L) (WB D z0) (AA z0)) 0 0 (AA z0) := by
  refine met_of (by decide) (Nat.le_of_ble_eq_true rfl) (fun p e s m below meth c hx hb hr hml hown hlocks hnm hK hz hW ls hl => ?_)
  have hown : s.vm.findClass RX7 = some m.cls := hown
  have hl : lv_has ls 3 [(0, .ref (ad (2000))), (1, .int (pi))] := hl
  have hS : va_S (AA z0) s.heap s.heap [] := va_S.rf
  obtain ⟨ak, al, ab, aw, av, mem, kpt, fgt, cha, cos, fnd, isb, bat, kno, oob, ome, onu, oke, ksc, kme, kob, was, wwa, ⟨h2000, h2002, h2003, h2004, h2005, h2006, h2008, h2009, h2010, h2011, h2012, h2013, h2014, h2015, h2016, h2017, h2018, h2019, h2020, h2023, h2024, h2025, h2026, h2027⟩, ⟨hru, hlv⟩, hrp, hrs⟩ := id hM
  obtain ⟨hO, hkb, hgd⟩ := id hG
  obtain ⟨hn40, hk, hP1, hP4, hK20, hOp, hOs⟩ := id hO
  have hk12 := hk.1
  refine lv_aload_n hx hb dX7_fork_0 rfl (lv_at hl 0 rfl) ?_
  refine lv_iload_n hx hb dX7_fork_1 rfl (lv_at hl 1 rfl) ?_
  refine vp_callSi (va_Run.run (va_runV (As := [.int (pi)]) (rest := []) ⟨hx, hb, hml, hown, hK.1.use _⟩ (c_X7_isPlan l D cy z0 ad V n k P K ce h2000  (by omega) pi) (k_X7_X7_isPlan hK.1 rfl rfl ⟨Nat.le_of_ble_eq_true rfl, Nat.le_of_ble_eq_true rfl⟩) (preV hK hz hW h2000 rfl) rfl rfl hl.1 rfl (lv_room (Nat.le_of_ble_eq_true rfl)) dX7_fork_2 ⟨Nat.le_of_ble_eq_true rfl, Nat.le_of_ble_eq_true rfl⟩)) (fun r2 h2 => ?_)
  have h2 : r2 = b2i (hasB P pi) := h2
  subst h2
  refine lv_if_ne (tgt := 10) hx hb dX7_fork_5 (by decide) (fun c5 => ?_) (fun c5 => ?_)
  · skip
    have c5 := b2i_1.mp c5
    have hp : hasB P pi = true := c5
    obtain ⟨epi, hpp⟩ := hasB_of hp (by omega)
    obtain ⟨pp, epp⟩ : ∃ y, y = pi.toNatClampNeg := ⟨_, rfl⟩
    rw [← epp] at epi hpp
    have hPq := hrp.1 pp hpp
    have hgp := hgd pp hpp
    obtain ⟨π, eπ⟩ : ∃ π, π = pl pp := ⟨_, rfl⟩
    rw [← eπ] at hPq hgp
    obtain ⟨hvw, hkp, hfg, ech, eco, efo, ebb, ebt, ekn, hhi⟩ := id hPq
    have hM0 := hgp.ok
    obtain ⟨hZ, hb60, hnx, hkn, hbk, hOk⟩ := id hgp.1
    have hq10_1 : (pi) = (nI pp) := epi
    rw [hq10_1] at hl
    refine lv_aload_n hx hb dX7_fork_10 rfl (lv_at hl 0 rfl) ?_
    refine g_X7_X7_plans hx hb hown hK hW h2000 dX7_fork_11 ?_
    refine lv_iconst (v := nI 4) hx hb dX7_fork_14 (by decide) ?_
    refine lv_icmp_ne (tgt := 21) hx hb dX7_fork_15 (by decide) (fun c15 => ?_) (fun c15 => ?_)
    · skip
      have c15 := nI_ne' c15 (by omega) (by omega)
      have hP9 : P < 4 := by omega
      refine lv_iconst (v := nI 0) hx hb dX7_fork_21 (by decide) ?_
      refine lv_istore_n (lv' := [(2, .int (nI 0)), (0, .ref (ad (2000))), (1, .int (nI pp))]) hx hb dX7_fork_22 rfl hl (by decide) rfl (fun ls hl => ?_)
      refine wlh (ι := Nat) (fun i => 160 - i) (fun i H locs g => (i ≤ 160) ∧ (∃ X, (X 2000 = some (.inr (7, [.int (nI n), .int (nI k), .ref (ad (2002)), .ref (ad (2003)), .ref (ad (2004)), .ref (ad (2005)), .ref (ad (2006)), .int (nI P), .ref (ad (2008)), .ref (ad (2009)), .ref (ad (2010)), .ref (ad (2011)), .ref (ad (2012)), .ref (ad (2013)), .ref (ad (2014)), .ref (ad (2015)), .ref (ad (2016)), .ref (ad (2017)), .ref (ad (2018)), .ref (ad (2019)), .ref (ad (2020)), .int (ce), .int (nI K), .ref (ad (2023)), .ref (ad (2024)), .ref (ad (2025)), .ref (ad (2026)), .ref (ad (2027))])) ∧ X 2002 = some (.inl (cy 0, 12, .inl ak)) ∧ X 2003 = some (.inl (cy 0, 12, .inl al)) ∧ X 2004 = some (.inl (cy 0, 12, .inl ab)) ∧ X 2005 = some (.inl (cy 0, 12, .inl aw)) ∧ X 2006 = some (.inl (cy 0, 12, .inl av)) ∧ X 2009 = some (.inl (cy 1, 48, .inr (.inl kpt))) ∧ X 2010 = some (.inl (cy 2, 48, .inl (fun r => b2i (fgt r)))) ∧ X 2011 = some (.inl (cy 0, 4, .inl cha)) ∧ X 2012 = some (.inl (cy 0, 4, .inl cos)) ∧ X 2013 = some (.inl (cy 0, 4, .inl fnd)) ∧ X 2014 = some (.inl (cy 2, 4, .inl (fun r => b2i (isb r)))) ∧ X 2015 = some (.inl (cy 0, 4, .inl bat)) ∧ X 2016 = some (.inl (cy 0, 4, .inl kno)) ∧ X 2017 = some (.inl (cy 0, 240, .inl oob)) ∧ X 2018 = some (.inl (cy 0, 240, .inl ome)) ∧ X 2019 = some (.inl (cy 0, 240, .inl onu)) ∧ X 2020 = some (.inl (cy 1, 2880, .inr (.inl oke))) ∧ X 2023 = some (.inl (cy 1, 60, .inr (.inl ksc))) ∧ X 2024 = some (.inl (cy 0, 3200, .inl kme)) ∧ X 2025 = some (.inl (cy 0, 20, .inl kob)) ∧ X 2026 = some (.inl (cy 0, 160, .inl was)) ∧ X 2027 = some (.inl (cy 1, 12, .inr (.inl wwa))) ∧ X 2008 = some (.inl (cy 0, 640, .inl (cpA mem mem (160 * pp) (160 * P) i))) ∧ ∀ L, L < 2000 → X L = V L) ∧ HW D z0 ad X H) ∧ va_S (AA z0) s.heap H locs ∧ ∃ ls, g = F0 m 23 ls [] ∧ lv_has ls 3 [(0, .ref (ad (2000))), (1, .int (nI pp)), (2, .int (nI i))]) ?_ (0) _ _ _ ⟨Nat.zero_le _, ⟨_, ⟨h2000, h2002, h2003, h2004, h2005, h2006, h2009, h2010, h2011, h2012, h2013, h2014, h2015, h2016, h2017, h2018, h2019, h2020, h2023, h2024, h2025, h2026, h2027, by rw [cpA_0]; exact h2008, fun _ _ => rfl⟩, hW⟩, hS, ls, rfl, lv_sub hl [1, 2, 0] rfl⟩
      intro i H locs g hg ih
      obtain ⟨hi, ⟨Vn, ⟨h2000, h2002, h2003, h2004, h2005, h2006, h2009, h2010, h2011, h2012, h2013, h2014, h2015, h2016, h2017, h2018, h2019, h2020, h2023, h2024, h2025, h2026, h2027, h2008, hfn⟩, hW⟩, hS, ls, rfl, hl⟩ := hg
      refine lv_iload_n hx hb dX7_fork_23 rfl (lv_at hl 2 rfl) ?_
      refine lv_sipush (v := nI 160) hx hb dX7_fork_24 (by decide) ?_
      refine lv_icmp_ge (tgt := 63) hx hb dX7_fork_27 (by decide) (fun c27 => ?_) (fun c27 => ?_)
      · skip
        have c27 := nI_le' c27 (by omega) (by omega)
        have e9 : i = 160 := by omega
        rw [e9] at h2008
        refine lv_iconst (v := nI 0) hx hb dX7_fork_63 (by decide) ?_
        refine lv_istore_n (lv' := [(2, .int (nI 0)), (0, .ref (ad (2000))), (1, .int (nI pp))]) hx hb dX7_fork_64 rfl hl (by decide) rfl (fun ls hl => ?_)
        refine wlh (ι := Nat) (fun t => 12 - t) (fun t H locs g => (t ≤ 12) ∧ (∃ X, (X 2000 = some (.inr (7, [.int (nI n), .int (nI k), .ref (ad (2002)), .ref (ad (2003)), .ref (ad (2004)), .ref (ad (2005)), .ref (ad (2006)), .int (nI P), .ref (ad (2008)), .ref (ad (2009)), .ref (ad (2010)), .ref (ad (2011)), .ref (ad (2012)), .ref (ad (2013)), .ref (ad (2014)), .ref (ad (2015)), .ref (ad (2016)), .ref (ad (2017)), .ref (ad (2018)), .ref (ad (2019)), .ref (ad (2020)), .int (ce), .int (nI K), .ref (ad (2023)), .ref (ad (2024)), .ref (ad (2025)), .ref (ad (2026)), .ref (ad (2027))])) ∧ X 2002 = some (.inl (cy 0, 12, .inl ak)) ∧ X 2003 = some (.inl (cy 0, 12, .inl al)) ∧ X 2004 = some (.inl (cy 0, 12, .inl ab)) ∧ X 2005 = some (.inl (cy 0, 12, .inl aw)) ∧ X 2006 = some (.inl (cy 0, 12, .inl av)) ∧ X 2008 = some (.inl (cy 0, 640, .inl (cpA mem mem (160 * pp) (160 * P) 160))) ∧ X 2011 = some (.inl (cy 0, 4, .inl cha)) ∧ X 2012 = some (.inl (cy 0, 4, .inl cos)) ∧ X 2013 = some (.inl (cy 0, 4, .inl fnd)) ∧ X 2014 = some (.inl (cy 2, 4, .inl (fun r => b2i (isb r)))) ∧ X 2015 = some (.inl (cy 0, 4, .inl bat)) ∧ X 2016 = some (.inl (cy 0, 4, .inl kno)) ∧ X 2017 = some (.inl (cy 0, 240, .inl oob)) ∧ X 2018 = some (.inl (cy 0, 240, .inl ome)) ∧ X 2019 = some (.inl (cy 0, 240, .inl onu)) ∧ X 2020 = some (.inl (cy 1, 2880, .inr (.inl oke))) ∧ X 2023 = some (.inl (cy 1, 60, .inr (.inl ksc))) ∧ X 2024 = some (.inl (cy 0, 3200, .inl kme)) ∧ X 2025 = some (.inl (cy 0, 20, .inl kob)) ∧ X 2026 = some (.inl (cy 0, 160, .inl was)) ∧ X 2027 = some (.inl (cy 1, 12, .inr (.inl wwa))) ∧ X 2009 = some (.inl (cy 1, 48, .inr (.inl (cpA kpt kpt (12 * pp) (12 * P) t)))) ∧ X 2010 = some (.inl (cy 2, 48, .inl (fun r => b2i ((cpA fgt fgt (12 * pp) (12 * P) t) r)))) ∧ ∀ L, L < 2000 → X L = V L) ∧ HW D z0 ad X H) ∧ va_S (AA z0) s.heap H locs ∧ ∃ ls, g = F0 m 65 ls [] ∧ lv_has ls 3 [(0, .ref (ad (2000))), (1, .int (nI pp)), (2, .int (nI t))]) ?_ (0) _ _ _ ⟨Nat.zero_le _, ⟨_, ⟨h2000, h2002, h2003, h2004, h2005, h2006, h2008, h2011, h2012, h2013, h2014, h2015, h2016, h2017, h2018, h2019, h2020, h2023, h2024, h2025, h2026, h2027, by rw [cpA_0]; exact h2009, by rw [cpA_0]; exact h2010, hfn⟩, hW⟩, hS, ls, rfl, lv_sub hl [1, 2, 0] rfl⟩
        intro t H locs g hg ih
        obtain ⟨hr9, ⟨Vk, ⟨h2000, h2002, h2003, h2004, h2005, h2006, h2008, h2011, h2012, h2013, h2014, h2015, h2016, h2017, h2018, h2019, h2020, h2023, h2024, h2025, h2026, h2027, h2009, h2010, hfk⟩, hW⟩, hS, ls, rfl, hl⟩ := hg
        refine lv_iload_n hx hb dX7_fork_65 rfl (lv_at hl 2 rfl) ?_
        refine lv_bipush (v := nI 12) hx hb dX7_fork_66 (by decide) ?_
        refine lv_icmp_ge (tgt := 127) hx hb dX7_fork_68 (by decide) (fun c68 => ?_) (fun c68 => ?_)
        · skip
          have c68 := nI_le' c68 (by omega) (by omega)
          have e9 : t = 12 := by omega
          rw [e9] at h2009 h2010
          refine lv_aload_n hx hb dX7_fork_127 rfl (lv_at hl 0 rfl) ?_
          refine lv_dup hx hb dX7_fork_128 rfl ?_
          refine g_X7_X7_plans hx hb hown hK hW h2000 dX7_fork_129 ?_
          refine lv_iconst (v := nI 1) hx hb dX7_fork_132 (by decide) ?_
          refine lv_iadd hx hb dX7_fork_133 ?_
          refine asi (y := nI (P + 1)) (nI_add _ _) ?_
          refine p_X7_X7_plans hx hb hown hK hW hS h2000 dX7_fork_134 (fun H locs hW hS => ?_)
          obtain ⟨V1, eV1⟩ : ∃ x9, x9 = va_up Vk (2000) (some (.inr (7, [.int (nI n), .int (nI k), .ref (ad (2002)), .ref (ad (2003)), .ref (ad (2004)), .ref (ad (2005)), .ref (ad (2006)), .int (nI (P + 1)), .ref (ad (2008)), .ref (ad (2009)), .ref (ad (2010)), .ref (ad (2011)), .ref (ad (2012)), .ref (ad (2013)), .ref (ad (2014)), .ref (ad (2015)), .ref (ad (2016)), .ref (ad (2017)), .ref (ad (2018)), .ref (ad (2019)), .ref (ad (2020)), .int (ce), .int (nI K), .ref (ad (2023)), .ref (ad (2024)), .ref (ad (2025)), .ref (ad (2026)), .ref (ad (2027))]))) := ⟨_, rfl⟩
          rw [← eV1] at hW
          have h2002 : V1 (2002) = some (.inl (cy 0, 12, .inl ak)) := by rw [eV1, va_up_ne _ _ (by omega)]; exact h2002
          have h2003 : V1 (2003) = some (.inl (cy 0, 12, .inl al)) := by rw [eV1, va_up_ne _ _ (by omega)]; exact h2003
          have h2004 : V1 (2004) = some (.inl (cy 0, 12, .inl ab)) := by rw [eV1, va_up_ne _ _ (by omega)]; exact h2004
          have h2005 : V1 (2005) = some (.inl (cy 0, 12, .inl aw)) := by rw [eV1, va_up_ne _ _ (by omega)]; exact h2005
          have h2006 : V1 (2006) = some (.inl (cy 0, 12, .inl av)) := by rw [eV1, va_up_ne _ _ (by omega)]; exact h2006
          have h2008 : V1 (2008) = some (.inl (cy 0, 640, .inl (cpA mem mem (160 * pp) (160 * P) 160))) := by rw [eV1, va_up_ne _ _ (by omega)]; exact h2008
          have h2011 : V1 (2011) = some (.inl (cy 0, 4, .inl cha)) := by rw [eV1, va_up_ne _ _ (by omega)]; exact h2011
          have h2012 : V1 (2012) = some (.inl (cy 0, 4, .inl cos)) := by rw [eV1, va_up_ne _ _ (by omega)]; exact h2012
          have h2013 : V1 (2013) = some (.inl (cy 0, 4, .inl fnd)) := by rw [eV1, va_up_ne _ _ (by omega)]; exact h2013
          have h2014 : V1 (2014) = some (.inl (cy 2, 4, .inl (fun r => b2i (isb r)))) := by rw [eV1, va_up_ne _ _ (by omega)]; exact h2014
          have h2015 : V1 (2015) = some (.inl (cy 0, 4, .inl bat)) := by rw [eV1, va_up_ne _ _ (by omega)]; exact h2015
          have h2016 : V1 (2016) = some (.inl (cy 0, 4, .inl kno)) := by rw [eV1, va_up_ne _ _ (by omega)]; exact h2016
          have h2017 : V1 (2017) = some (.inl (cy 0, 240, .inl oob)) := by rw [eV1, va_up_ne _ _ (by omega)]; exact h2017
          have h2018 : V1 (2018) = some (.inl (cy 0, 240, .inl ome)) := by rw [eV1, va_up_ne _ _ (by omega)]; exact h2018
          have h2019 : V1 (2019) = some (.inl (cy 0, 240, .inl onu)) := by rw [eV1, va_up_ne _ _ (by omega)]; exact h2019
          have h2020 : V1 (2020) = some (.inl (cy 1, 2880, .inr (.inl oke))) := by rw [eV1, va_up_ne _ _ (by omega)]; exact h2020
          have h2023 : V1 (2023) = some (.inl (cy 1, 60, .inr (.inl ksc))) := by rw [eV1, va_up_ne _ _ (by omega)]; exact h2023
          have h2024 : V1 (2024) = some (.inl (cy 0, 3200, .inl kme)) := by rw [eV1, va_up_ne _ _ (by omega)]; exact h2024
          have h2025 : V1 (2025) = some (.inl (cy 0, 20, .inl kob)) := by rw [eV1, va_up_ne _ _ (by omega)]; exact h2025
          have h2026 : V1 (2026) = some (.inl (cy 0, 160, .inl was)) := by rw [eV1, va_up_ne _ _ (by omega)]; exact h2026
          have h2027 : V1 (2027) = some (.inl (cy 1, 12, .inr (.inl wwa))) := by rw [eV1, va_up_ne _ _ (by omega)]; exact h2027
          have h2009 : V1 (2009) = some (.inl (cy 1, 48, .inr (.inl (cpA kpt kpt (12 * pp) (12 * P) 12)))) := by rw [eV1, va_up_ne _ _ (by omega)]; exact h2009
          have h2010 : V1 (2010) = some (.inl (cy 2, 48, .inl (fun r => b2i ((cpA fgt fgt (12 * pp) (12 * P) 12) r)))) := by rw [eV1, va_up_ne _ _ (by omega)]; exact h2010
          have h2000 : V1 (2000) = some (.inr (7, [.int (nI n), .int (nI k), .ref (ad (2002)), .ref (ad (2003)), .ref (ad (2004)), .ref (ad (2005)), .ref (ad (2006)), .int (nI (P + 1)), .ref (ad (2008)), .ref (ad (2009)), .ref (ad (2010)), .ref (ad (2011)), .ref (ad (2012)), .ref (ad (2013)), .ref (ad (2014)), .ref (ad (2015)), .ref (ad (2016)), .ref (ad (2017)), .ref (ad (2018)), .ref (ad (2019)), .ref (ad (2020)), .int (ce), .int (nI K), .ref (ad (2023)), .ref (ad (2024)), .ref (ad (2025)), .ref (ad (2026)), .ref (ad (2027))])) := by rw [eV1, va_up_self]
          refine lv_aload_n hx hb dX7_fork_137 rfl (lv_at hl 0 rfl) ?_
          refine g_X7_X7_plans hx hb hown hK hW h2000 dX7_fork_138 ?_
          refine lv_iconst (v := nI 1) hx hb dX7_fork_141 (by decide) ?_
          refine lv_isub hx hb dX7_fork_142 ?_
          refine asi (y := nI ((P + 1) - 1)) (pk_sub (by omega)) ?_
          exact rwi hx hb hr hlocks dX7_fork_143 hW hS (by
      have hx9 : xFork k P pl pi = (nI P, P + 1, va_up pl P (plNew k π)) := by unfold xFork; rw [if_pos hp, if_pos hP9, ← epp, eπ]
      rw [hx9]
      refine ⟨rfl, rfl, ?_, fun L hL => by show V1 L = _; rw [eV1, va_up_ne _ _ (by omega)]; exact hfk L hL⟩
      show isM ad V1 cy n k (P + 1) K ce ρ (va_up pl P (plNew k π)) sn
      refine ⟨_, _, _, _, _, _, _, _, _, _, _, _, _, _, _, _, _, _, _, _, _, _, _, ⟨h2000, h2002, h2003, h2004, h2005, h2006, h2008, h2009, h2010, h2011, h2012, h2013, h2014, h2015, h2016, h2017, h2018, h2019, h2020, h2023, h2024, h2025, h2026, h2027⟩, ⟨hru, hlv⟩, ⟨fun q hq => ?_, fun q h1 h2 => hrp.2 q (by omega) h2⟩, hrs⟩
      by_cases e : q = P
      · subst e
        rw [va_up_self]
        obtain ⟨n1, n2, n3, n4, n5, n6⟩ := hrp.2 q (Nat.le_refl q) hP9
        refine ⟨fun m hm o ho => ?_, fun r hr => ?_, fun r hr => ?_, n1, n2, n3, n4, n5.trans nI_0.symm, n6.trans nI_0.symm, fun i hi => absurd hi (Nat.not_lt_zero _)⟩
        · rw [Nat.add_assoc, cpA_in (by omega), ← Nat.add_assoc]
          exact hvw m hm o ho
        · rw [cpA_in (by omega), hkp r hr]
          show _ = cpU (fun _ => 0) (pK π) k r
          unfold cpU
          rw [if_pos hr]
        · rw [cpA_in (by omega), hfg r hr]
          show _ = cpU (fun _ => false) (pF π) k r
          unfold cpU
          by_cases c : r < k
          · rw [if_pos c]
          · rw [if_neg c]; exact hgp.2.1 r (by omega)
      · rw [va_up_ne _ _ e]
        exact (hrp.1 q (by omega)).fr (p := P) e hk12 (fun j hj => cpA_out (by omega)) (fun j hj => cpA_out (by omega)) (fun j hj => cpA_out (by omega)) (fun _ _ => rfl) (fun _ _ => rfl) (fun _ _ => rfl) (fun _ _ => rfl) (fun _ _ => rfl) (fun _ _ => rfl) (fun _ _ => rfl) (fun _ _ => rfl) (fun _ _ => rfl) (fun _ _ => rfl) (hOp q (by omega)).2.2.2.1)
        · skip
          have c68 := nI_nle' c68 (by omega) (by omega)
          refine lv_aload_n hx hb dX7_fork_71 rfl (lv_at hl 0 rfl) ?_
          refine g_X7_X7_kept hx hb hown hK hW h2000 dX7_fork_72 ?_
          refine lv_bipush (v := nI 12) hx hb dX7_fork_75 (by decide) ?_
          refine lv_aload_n hx hb dX7_fork_77 rfl (lv_at hl 0 rfl) ?_
          refine g_X7_X7_plans hx hb hown hK hW h2000 dX7_fork_78 ?_
          refine lv_imul hx hb dX7_fork_81 ?_
          refine asi (y := nI (12 * P)) (pk_mul _ _) ?_
          refine lv_iload_n hx hb dX7_fork_82 rfl (lv_at hl 2 rfl) ?_
          refine lv_iadd hx hb dX7_fork_83 ?_
          refine asi (y := nI ((12 * P) + t)) (nI_add _ _) ?_
          refine lv_aload_n hx hb dX7_fork_84 rfl (lv_at hl 0 rfl) ?_
          refine g_X7_X7_kept hx hb hown hK hW h2000 dX7_fork_85 ?_
          refine lv_bipush (v := nI 12) hx hb dX7_fork_88 (by decide) ?_
          refine lv_iload_n hx hb dX7_fork_90 rfl (lv_at hl 1 rfl) ?_
          refine lv_imul hx hb dX7_fork_91 ?_
          refine asi (y := nI (12 * pp)) (pk_mul _ _) ?_
          refine lv_iload_n hx hb dX7_fork_92 rfl (lv_at hl 2 rfl) ?_
          refine lv_iadd hx hb dX7_fork_93 ?_
          refine asi (y := nI ((12 * pp) + t)) (nI_add _ _) ?_
          refine w_lald hx hb hK hW h2009 (j := (12 * pp) + t) (rfl) (by omega) (by omega) dX7_fork_94 ?_
          refine asl (y := kpt (12 * pp + t)) (cpA_out (by omega)) ?_
          refine w_last hx hb hK hW hS h2009 (j := (12 * P) + t) (rfl) (by omega) (by omega) dX7_fork_95 (fun H locs hW hS => ?_)
          obtain ⟨V2, eV2⟩ : ∃ x9, x9 = va_up Vk (2009) (some (.inl (cy 1, 48, .inr (.inl (vp_updL (cpA kpt kpt (12 * pp) (12 * P) t) ((12 * P) + t) (kpt (12 * pp + t))))))) := ⟨_, rfl⟩
          rw [← eV2] at hW
          have h2000 : V2 (2000) = some (.inr (7, [.int (nI n), .int (nI k), .ref (ad (2002)), .ref (ad (2003)), .ref (ad (2004)), .ref (ad (2005)), .ref (ad (2006)), .int (nI P), .ref (ad (2008)), .ref (ad (2009)), .ref (ad (2010)), .ref (ad (2011)), .ref (ad (2012)), .ref (ad (2013)), .ref (ad (2014)), .ref (ad (2015)), .ref (ad (2016)), .ref (ad (2017)), .ref (ad (2018)), .ref (ad (2019)), .ref (ad (2020)), .int (ce), .int (nI K), .ref (ad (2023)), .ref (ad (2024)), .ref (ad (2025)), .ref (ad (2026)), .ref (ad (2027))])) := by rw [eV2, va_up_ne _ _ (by omega)]; exact h2000
          have h2002 : V2 (2002) = some (.inl (cy 0, 12, .inl ak)) := by rw [eV2, va_up_ne _ _ (by omega)]; exact h2002
          have h2003 : V2 (2003) = some (.inl (cy 0, 12, .inl al)) := by rw [eV2, va_up_ne _ _ (by omega)]; exact h2003
          have h2004 : V2 (2004) = some (.inl (cy 0, 12, .inl ab)) := by rw [eV2, va_up_ne _ _ (by omega)]; exact h2004
          have h2005 : V2 (2005) = some (.inl (cy 0, 12, .inl aw)) := by rw [eV2, va_up_ne _ _ (by omega)]; exact h2005
          have h2006 : V2 (2006) = some (.inl (cy 0, 12, .inl av)) := by rw [eV2, va_up_ne _ _ (by omega)]; exact h2006
          have h2008 : V2 (2008) = some (.inl (cy 0, 640, .inl (cpA mem mem (160 * pp) (160 * P) 160))) := by rw [eV2, va_up_ne _ _ (by omega)]; exact h2008
          have h2011 : V2 (2011) = some (.inl (cy 0, 4, .inl cha)) := by rw [eV2, va_up_ne _ _ (by omega)]; exact h2011
          have h2012 : V2 (2012) = some (.inl (cy 0, 4, .inl cos)) := by rw [eV2, va_up_ne _ _ (by omega)]; exact h2012
          have h2013 : V2 (2013) = some (.inl (cy 0, 4, .inl fnd)) := by rw [eV2, va_up_ne _ _ (by omega)]; exact h2013
          have h2014 : V2 (2014) = some (.inl (cy 2, 4, .inl (fun r => b2i (isb r)))) := by rw [eV2, va_up_ne _ _ (by omega)]; exact h2014
          have h2015 : V2 (2015) = some (.inl (cy 0, 4, .inl bat)) := by rw [eV2, va_up_ne _ _ (by omega)]; exact h2015
          have h2016 : V2 (2016) = some (.inl (cy 0, 4, .inl kno)) := by rw [eV2, va_up_ne _ _ (by omega)]; exact h2016
          have h2017 : V2 (2017) = some (.inl (cy 0, 240, .inl oob)) := by rw [eV2, va_up_ne _ _ (by omega)]; exact h2017
          have h2018 : V2 (2018) = some (.inl (cy 0, 240, .inl ome)) := by rw [eV2, va_up_ne _ _ (by omega)]; exact h2018
          have h2019 : V2 (2019) = some (.inl (cy 0, 240, .inl onu)) := by rw [eV2, va_up_ne _ _ (by omega)]; exact h2019
          have h2020 : V2 (2020) = some (.inl (cy 1, 2880, .inr (.inl oke))) := by rw [eV2, va_up_ne _ _ (by omega)]; exact h2020
          have h2023 : V2 (2023) = some (.inl (cy 1, 60, .inr (.inl ksc))) := by rw [eV2, va_up_ne _ _ (by omega)]; exact h2023
          have h2024 : V2 (2024) = some (.inl (cy 0, 3200, .inl kme)) := by rw [eV2, va_up_ne _ _ (by omega)]; exact h2024
          have h2025 : V2 (2025) = some (.inl (cy 0, 20, .inl kob)) := by rw [eV2, va_up_ne _ _ (by omega)]; exact h2025
          have h2026 : V2 (2026) = some (.inl (cy 0, 160, .inl was)) := by rw [eV2, va_up_ne _ _ (by omega)]; exact h2026
          have h2027 : V2 (2027) = some (.inl (cy 1, 12, .inr (.inl wwa))) := by rw [eV2, va_up_ne _ _ (by omega)]; exact h2027
          have h2010 : V2 (2010) = some (.inl (cy 2, 48, .inl (fun r => b2i ((cpA fgt fgt (12 * pp) (12 * P) t) r)))) := by rw [eV2, va_up_ne _ _ (by omega)]; exact h2010
          have h2009 : V2 (2009) = some (.inl (cy 1, 48, .inr (.inl (vp_updL (cpA kpt kpt (12 * pp) (12 * P) t) ((12 * P) + t) (kpt (12 * pp + t)))))) := by rw [eV2, va_up_self]
          refine lv_aload_n hx hb dX7_fork_96 rfl (lv_at hl 0 rfl) ?_
          refine g_X7_X7_forgets hx hb hown hK hW h2000 dX7_fork_97 ?_
          refine lv_bipush (v := nI 12) hx hb dX7_fork_100 (by decide) ?_
          refine lv_aload_n hx hb dX7_fork_102 rfl (lv_at hl 0 rfl) ?_
          refine g_X7_X7_plans hx hb hown hK hW h2000 dX7_fork_103 ?_
          refine lv_imul hx hb dX7_fork_106 ?_
          refine asi (y := nI (12 * P)) (pk_mul _ _) ?_
          refine lv_iload_n hx hb dX7_fork_107 rfl (lv_at hl 2 rfl) ?_
          refine lv_iadd hx hb dX7_fork_108 ?_
          refine asi (y := nI ((12 * P) + t)) (nI_add _ _) ?_
          refine lv_aload_n hx hb dX7_fork_109 rfl (lv_at hl 0 rfl) ?_
          refine g_X7_X7_forgets hx hb hown hK hW h2000 dX7_fork_110 ?_
          refine lv_bipush (v := nI 12) hx hb dX7_fork_113 (by decide) ?_
          refine lv_iload_n hx hb dX7_fork_115 rfl (lv_at hl 1 rfl) ?_
          refine lv_imul hx hb dX7_fork_116 ?_
          refine asi (y := nI (12 * pp)) (pk_mul _ _) ?_
          refine lv_iload_n hx hb dX7_fork_117 rfl (lv_at hl 2 rfl) ?_
          refine lv_iadd hx hb dX7_fork_118 ?_
          refine asi (y := nI ((12 * pp) + t)) (nI_add _ _) ?_
          refine w_zald hx hb hK hW h2010 (j := (12 * pp) + t) (rfl) (by omega) (by omega) dX7_fork_119 ?_
          refine asi (y := b2i (fgt (12 * pp + t))) (by rw [cpA_out (by omega)]) ?_
          refine w_zast hx hb hK hW hS h2010 (j := (12 * P) + t) (rfl) (by omega) (by omega) (b2i_v) dX7_fork_120 (fun H locs hW hS => ?_)
          obtain ⟨V3, eV3⟩ : ∃ x9, x9 = va_up V2 (2010) (some (.inl (cy 2, 48, .inl (upd (fun r => b2i ((cpA fgt fgt (12 * pp) (12 * P) t) r)) ((12 * P) + t) (b2i (fgt (12 * pp + t))))))) := ⟨_, rfl⟩
          rw [← eV3] at hW
          have h2000 : V3 (2000) = some (.inr (7, [.int (nI n), .int (nI k), .ref (ad (2002)), .ref (ad (2003)), .ref (ad (2004)), .ref (ad (2005)), .ref (ad (2006)), .int (nI P), .ref (ad (2008)), .ref (ad (2009)), .ref (ad (2010)), .ref (ad (2011)), .ref (ad (2012)), .ref (ad (2013)), .ref (ad (2014)), .ref (ad (2015)), .ref (ad (2016)), .ref (ad (2017)), .ref (ad (2018)), .ref (ad (2019)), .ref (ad (2020)), .int (ce), .int (nI K), .ref (ad (2023)), .ref (ad (2024)), .ref (ad (2025)), .ref (ad (2026)), .ref (ad (2027))])) := by rw [eV3, va_up_ne _ _ (by omega)]; exact h2000
          have h2002 : V3 (2002) = some (.inl (cy 0, 12, .inl ak)) := by rw [eV3, va_up_ne _ _ (by omega)]; exact h2002
          have h2003 : V3 (2003) = some (.inl (cy 0, 12, .inl al)) := by rw [eV3, va_up_ne _ _ (by omega)]; exact h2003
          have h2004 : V3 (2004) = some (.inl (cy 0, 12, .inl ab)) := by rw [eV3, va_up_ne _ _ (by omega)]; exact h2004
          have h2005 : V3 (2005) = some (.inl (cy 0, 12, .inl aw)) := by rw [eV3, va_up_ne _ _ (by omega)]; exact h2005
          have h2006 : V3 (2006) = some (.inl (cy 0, 12, .inl av)) := by rw [eV3, va_up_ne _ _ (by omega)]; exact h2006
          have h2008 : V3 (2008) = some (.inl (cy 0, 640, .inl (cpA mem mem (160 * pp) (160 * P) 160))) := by rw [eV3, va_up_ne _ _ (by omega)]; exact h2008
          have h2011 : V3 (2011) = some (.inl (cy 0, 4, .inl cha)) := by rw [eV3, va_up_ne _ _ (by omega)]; exact h2011
          have h2012 : V3 (2012) = some (.inl (cy 0, 4, .inl cos)) := by rw [eV3, va_up_ne _ _ (by omega)]; exact h2012
          have h2013 : V3 (2013) = some (.inl (cy 0, 4, .inl fnd)) := by rw [eV3, va_up_ne _ _ (by omega)]; exact h2013
          have h2014 : V3 (2014) = some (.inl (cy 2, 4, .inl (fun r => b2i (isb r)))) := by rw [eV3, va_up_ne _ _ (by omega)]; exact h2014
          have h2015 : V3 (2015) = some (.inl (cy 0, 4, .inl bat)) := by rw [eV3, va_up_ne _ _ (by omega)]; exact h2015
          have h2016 : V3 (2016) = some (.inl (cy 0, 4, .inl kno)) := by rw [eV3, va_up_ne _ _ (by omega)]; exact h2016
          have h2017 : V3 (2017) = some (.inl (cy 0, 240, .inl oob)) := by rw [eV3, va_up_ne _ _ (by omega)]; exact h2017
          have h2018 : V3 (2018) = some (.inl (cy 0, 240, .inl ome)) := by rw [eV3, va_up_ne _ _ (by omega)]; exact h2018
          have h2019 : V3 (2019) = some (.inl (cy 0, 240, .inl onu)) := by rw [eV3, va_up_ne _ _ (by omega)]; exact h2019
          have h2020 : V3 (2020) = some (.inl (cy 1, 2880, .inr (.inl oke))) := by rw [eV3, va_up_ne _ _ (by omega)]; exact h2020
          have h2023 : V3 (2023) = some (.inl (cy 1, 60, .inr (.inl ksc))) := by rw [eV3, va_up_ne _ _ (by omega)]; exact h2023
          have h2024 : V3 (2024) = some (.inl (cy 0, 3200, .inl kme)) := by rw [eV3, va_up_ne _ _ (by omega)]; exact h2024
          have h2025 : V3 (2025) = some (.inl (cy 0, 20, .inl kob)) := by rw [eV3, va_up_ne _ _ (by omega)]; exact h2025
          have h2026 : V3 (2026) = some (.inl (cy 0, 160, .inl was)) := by rw [eV3, va_up_ne _ _ (by omega)]; exact h2026
          have h2027 : V3 (2027) = some (.inl (cy 1, 12, .inr (.inl wwa))) := by rw [eV3, va_up_ne _ _ (by omega)]; exact h2027
          have h2009 : V3 (2009) = some (.inl (cy 1, 48, .inr (.inl (vp_updL (cpA kpt kpt (12 * pp) (12 * P) t) ((12 * P) + t) (kpt (12 * pp + t)))))) := by rw [eV3, va_up_ne _ _ (by omega)]; exact h2009
          have h2010 : V3 (2010) = some (.inl (cy 2, 48, .inl (upd (fun r => b2i ((cpA fgt fgt (12 * pp) (12 * P) t) r)) ((12 * P) + t) (b2i (fgt (12 * pp + t)))))) := by rw [eV3, va_up_self]
          refine lv_iinc (v := nI (t + 1)) (lv' := [(2, .int (nI (t + 1))), (0, .ref (ad (2000))), (1, .int (nI pp))]) hx hb dX7_fork_121 hl (k := 2) rfl (by rw [show Int32.ofInt 1 = nI 1 from by decide]; exact nI_add _ _) (by decide) rfl (fun ls hl => ?_)
          refine lv_goto (tgt := 65) hx hb dX7_fork_124 (by decide) ?_
          exact ih (t + 1) _ _ _ ⟨by omega, ⟨_, ⟨h2000, h2002, h2003, h2004, h2005, h2006, h2008, h2011, h2012, h2013, h2014, h2015, h2016, h2017, h2018, h2019, h2020, h2023, h2024, h2025, h2026, h2027, by rw [← cpA_l]; exact h2009, by rw [← cpA_b]; exact h2010, fun L hL => by rw [eV3, va_up_ne _ _ (by omega), eV2, va_up_ne _ _ (by omega)]; exact hfk L hL⟩, hW⟩, hS, ls, rfl, lv_sub hl [1, 2, 0] rfl⟩ (by omega)
      · skip
        have c27 := nI_nle' c27 (by omega) (by omega)
        refine lv_aload_n hx hb dX7_fork_30 rfl (lv_at hl 0 rfl) ?_
        refine g_X7_X7_member hx hb hown hK hW h2000 dX7_fork_31 ?_
        refine lv_sipush (v := nI 160) hx hb dX7_fork_34 (by decide) ?_
        refine lv_aload_n hx hb dX7_fork_37 rfl (lv_at hl 0 rfl) ?_
        refine g_X7_X7_plans hx hb hown hK hW h2000 dX7_fork_38 ?_
        refine lv_imul hx hb dX7_fork_41 ?_
        refine asi (y := nI (160 * P)) (pk_mul _ _) ?_
        refine lv_iload_n hx hb dX7_fork_42 rfl (lv_at hl 2 rfl) ?_
        refine lv_iadd hx hb dX7_fork_43 ?_
        refine asi (y := nI ((160 * P) + i)) (nI_add _ _) ?_
        refine lv_aload_n hx hb dX7_fork_44 rfl (lv_at hl 0 rfl) ?_
        refine g_X7_X7_member hx hb hown hK hW h2000 dX7_fork_45 ?_
        refine lv_sipush (v := nI 160) hx hb dX7_fork_48 (by decide) ?_
        refine lv_iload_n hx hb dX7_fork_51 rfl (lv_at hl 1 rfl) ?_
        refine lv_imul hx hb dX7_fork_52 ?_
        refine asi (y := nI (160 * pp)) (pk_mul _ _) ?_
        refine lv_iload_n hx hb dX7_fork_53 rfl (lv_at hl 2 rfl) ?_
        refine lv_iadd hx hb dX7_fork_54 ?_
        refine asi (y := nI ((160 * pp) + i)) (nI_add _ _) ?_
        refine w_iald hx hb hK hW h2008 (j := (160 * pp) + i) (rfl) (by omega) (by omega) dX7_fork_55 ?_
        refine asi (y := mem (160 * pp + i)) (cpA_out (by omega)) ?_
        refine w_iast hx hb hK hW hS h2008 (j := (160 * P) + i) (rfl) (by omega) (by omega) dX7_fork_56 (fun H locs hW hS => ?_)
        obtain ⟨V4, eV4⟩ : ∃ x9, x9 = va_up Vn (2008) (some (.inl (cy 0, 640, .inl (upd (cpA mem mem (160 * pp) (160 * P) i) ((160 * P) + i) (mem (160 * pp + i)))))) := ⟨_, rfl⟩
        rw [← eV4] at hW
        have h2000 : V4 (2000) = some (.inr (7, [.int (nI n), .int (nI k), .ref (ad (2002)), .ref (ad (2003)), .ref (ad (2004)), .ref (ad (2005)), .ref (ad (2006)), .int (nI P), .ref (ad (2008)), .ref (ad (2009)), .ref (ad (2010)), .ref (ad (2011)), .ref (ad (2012)), .ref (ad (2013)), .ref (ad (2014)), .ref (ad (2015)), .ref (ad (2016)), .ref (ad (2017)), .ref (ad (2018)), .ref (ad (2019)), .ref (ad (2020)), .int (ce), .int (nI K), .ref (ad (2023)), .ref (ad (2024)), .ref (ad (2025)), .ref (ad (2026)), .ref (ad (2027))])) := by rw [eV4, va_up_ne _ _ (by omega)]; exact h2000
        have h2002 : V4 (2002) = some (.inl (cy 0, 12, .inl ak)) := by rw [eV4, va_up_ne _ _ (by omega)]; exact h2002
        have h2003 : V4 (2003) = some (.inl (cy 0, 12, .inl al)) := by rw [eV4, va_up_ne _ _ (by omega)]; exact h2003
        have h2004 : V4 (2004) = some (.inl (cy 0, 12, .inl ab)) := by rw [eV4, va_up_ne _ _ (by omega)]; exact h2004
        have h2005 : V4 (2005) = some (.inl (cy 0, 12, .inl aw)) := by rw [eV4, va_up_ne _ _ (by omega)]; exact h2005
        have h2006 : V4 (2006) = some (.inl (cy 0, 12, .inl av)) := by rw [eV4, va_up_ne _ _ (by omega)]; exact h2006
        have h2009 : V4 (2009) = some (.inl (cy 1, 48, .inr (.inl kpt))) := by rw [eV4, va_up_ne _ _ (by omega)]; exact h2009
        have h2010 : V4 (2010) = some (.inl (cy 2, 48, .inl (fun r => b2i (fgt r)))) := by rw [eV4, va_up_ne _ _ (by omega)]; exact h2010
        have h2011 : V4 (2011) = some (.inl (cy 0, 4, .inl cha)) := by rw [eV4, va_up_ne _ _ (by omega)]; exact h2011
        have h2012 : V4 (2012) = some (.inl (cy 0, 4, .inl cos)) := by rw [eV4, va_up_ne _ _ (by omega)]; exact h2012
        have h2013 : V4 (2013) = some (.inl (cy 0, 4, .inl fnd)) := by rw [eV4, va_up_ne _ _ (by omega)]; exact h2013
        have h2014 : V4 (2014) = some (.inl (cy 2, 4, .inl (fun r => b2i (isb r)))) := by rw [eV4, va_up_ne _ _ (by omega)]; exact h2014
        have h2015 : V4 (2015) = some (.inl (cy 0, 4, .inl bat)) := by rw [eV4, va_up_ne _ _ (by omega)]; exact h2015
        have h2016 : V4 (2016) = some (.inl (cy 0, 4, .inl kno)) := by rw [eV4, va_up_ne _ _ (by omega)]; exact h2016
        have h2017 : V4 (2017) = some (.inl (cy 0, 240, .inl oob)) := by rw [eV4, va_up_ne _ _ (by omega)]; exact h2017
        have h2018 : V4 (2018) = some (.inl (cy 0, 240, .inl ome)) := by rw [eV4, va_up_ne _ _ (by omega)]; exact h2018
        have h2019 : V4 (2019) = some (.inl (cy 0, 240, .inl onu)) := by rw [eV4, va_up_ne _ _ (by omega)]; exact h2019
        have h2020 : V4 (2020) = some (.inl (cy 1, 2880, .inr (.inl oke))) := by rw [eV4, va_up_ne _ _ (by omega)]; exact h2020
        have h2023 : V4 (2023) = some (.inl (cy 1, 60, .inr (.inl ksc))) := by rw [eV4, va_up_ne _ _ (by omega)]; exact h2023
        have h2024 : V4 (2024) = some (.inl (cy 0, 3200, .inl kme)) := by rw [eV4, va_up_ne _ _ (by omega)]; exact h2024
        have h2025 : V4 (2025) = some (.inl (cy 0, 20, .inl kob)) := by rw [eV4, va_up_ne _ _ (by omega)]; exact h2025
        have h2026 : V4 (2026) = some (.inl (cy 0, 160, .inl was)) := by rw [eV4, va_up_ne _ _ (by omega)]; exact h2026
        have h2027 : V4 (2027) = some (.inl (cy 1, 12, .inr (.inl wwa))) := by rw [eV4, va_up_ne _ _ (by omega)]; exact h2027
        have h2008 : V4 (2008) = some (.inl (cy 0, 640, .inl (upd (cpA mem mem (160 * pp) (160 * P) i) ((160 * P) + i) (mem (160 * pp + i))))) := by rw [eV4, va_up_self]
        refine lv_iinc (v := nI (i + 1)) (lv' := [(2, .int (nI (i + 1))), (0, .ref (ad (2000))), (1, .int (nI pp))]) hx hb dX7_fork_57 hl (k := 2) rfl (by rw [show Int32.ofInt 1 = nI 1 from by decide]; exact nI_add _ _) (by decide) rfl (fun ls hl => ?_)
        refine lv_goto (tgt := 23) hx hb dX7_fork_60 (by decide) ?_
        exact ih (i + 1) _ _ _ ⟨by omega, ⟨_, ⟨h2000, h2002, h2003, h2004, h2005, h2006, h2009, h2010, h2011, h2012, h2013, h2014, h2015, h2016, h2017, h2018, h2019, h2020, h2023, h2024, h2025, h2026, h2027, by rw [← cpA_i]; exact h2008, fun L hL => by rw [eV4, va_up_ne _ _ (by omega)]; exact hfn L hL⟩, hW⟩, hS, ls, rfl, lv_sub hl [1, 2, 0] rfl⟩ (by omega)
    · skip
      have c15 := nI_eq' c15 (by omega) (by omega)
      refine lv_bipush (v := -4) hx hb dX7_fork_18 (by decide) ?_
      exact rwi hx hb hr hlocks dX7_fork_20 hW hS (⟨by unfold xFork; rw [if_pos hp, if_neg (by omega)], rfl, by unfold xFork; rw [if_pos hp, if_neg (by omega)]; exact hM, fun L _ => rfl⟩)
  · skip
    have c5 := b2i_0.mp c5
    have hp : ¬ hasB P pi = true := by rw [c5]; decide
    refine lv_iconst (v := -1) hx hb dX7_fork_8 (by decide) ?_
    exact rwi hx hb hr hlocks dX7_fork_9 hW hS (⟨by unfold xFork; rw [if_neg hp], rfl, by unfold xFork; rw [if_neg hp]; exact hM, fun L _ => rfl⟩)

set_option maxHeartbeats 4000000 in
set_option maxRecDepth 100000 in
theorem c_X7_keep (l : Launch) (D : va_G) (cy : Nat → ClassId) (z0 : Nat) (ad : Nat → Nat) (V : Nat → Option va_E) (c0 n k P K : Nat) (ce : Int32) (ρ : RuT) (pl : Nat → PlT) (sn : Nat → SnT) (hM : isM ad V cy n k P K ce ρ pl sn) (hG : gdX c0 n k P K ρ pl sn) (pi : Int32) : Met l yX7_keep [Cond.code yX7_keep cX7_keep 3 (some .int)] { frames := 2, cells := 0, slots := 0, locals := 43 } (WP [.ref (ad (2000)), .int (pi)] D cy z0 ad V) (va_Qi (fun r u => r = (xKeep n k P K ρ pl sn pi).1 ∧ u.1 = ad ∧ isM ad u.2 cy n k P (xKeep n k P K ρ pl sn pi).2.1 ce ρ pl (xKeep n k P K ρ pl sn pi).2.2 ∧ ∀ L, L < 2000 → u.2 L = V L) (WB D z0) (AA z0)) 0 0 (AA z0) := by
  refine met_of (by decide) (Nat.le_of_ble_eq_true rfl) (fun p e s m below meth c hx hb hr hml hown hlocks hnm hK hz hW ls hl => ?_)
  have hown : s.vm.findClass RX7 = some m.cls := hown
  have hl : lv_has ls 3 [(0, .ref (ad (2000))), (1, .int (pi))] := hl
  have hS : va_S (AA z0) s.heap s.heap [] := va_S.rf
  obtain ⟨ak, al, ab, aw, av, mem, kpt, fgt, cha, cos, fnd, isb, bat, kno, oob, ome, onu, oke, ksc, kme, kob, was, wwa, ⟨h2000, h2002, h2003, h2004, h2005, h2006, h2008, h2009, h2010, h2011, h2012, h2013, h2014, h2015, h2016, h2017, h2018, h2019, h2020, h2023, h2024, h2025, h2026, h2027⟩, ⟨hru, hlv⟩, hrp, hrs⟩ := id hM
  obtain ⟨hO, hkb, hgd⟩ := id hG
  obtain ⟨hn40, hk, hP1, hP4, hK20, hOp, hOs⟩ := id hO
  have hk12 := hk.1
  refine lv_aload_n hx hb dX7_keep_0 rfl (lv_at hl 0 rfl) ?_
  refine lv_iload_n hx hb dX7_keep_1 rfl (lv_at hl 1 rfl) ?_
  refine vp_callSi (va_Run.run (va_runV (As := [.int (pi)]) (rest := []) ⟨hx, hb, hml, hown, hK.1.use _⟩ (c_X7_isPlan l D cy z0 ad V n k P K ce h2000  (by omega) pi) (k_X7_X7_isPlan hK.1 rfl rfl ⟨Nat.le_of_ble_eq_true rfl, Nat.le_of_ble_eq_true rfl⟩) (preV hK hz hW h2000 rfl) rfl rfl hl.1 rfl (lv_room (Nat.le_of_ble_eq_true rfl)) dX7_keep_2 ⟨Nat.le_of_ble_eq_true rfl, Nat.le_of_ble_eq_true rfl⟩)) (fun r2 h2 => ?_)
  have h2 : r2 = b2i (hasB P pi) := h2
  subst h2
  refine lv_if_ne (tgt := 10) hx hb dX7_keep_5 (by decide) (fun c5 => ?_) (fun c5 => ?_)
  · skip
    have c5 := b2i_1.mp c5
    have hp : hasB P pi = true := c5
    obtain ⟨epi, hpp⟩ := hasB_of hp (by omega)
    obtain ⟨pp, epp⟩ : ∃ y, y = pi.toNatClampNeg := ⟨_, rfl⟩
    rw [← epp] at epi hpp
    have hPq := hrp.1 pp hpp
    have hgp := hgd pp hpp
    obtain ⟨π, eπ⟩ : ∃ π, π = pl pp := ⟨_, rfl⟩
    rw [← eπ] at hPq hgp
    obtain ⟨hvw, hkp, hfg, ech, eco, efo, ebb, ebt, ekn, hhi⟩ := id hPq
    have hM0 := hgp.ok
    obtain ⟨hZ, hb60, hnx, hkn, hbk, hOk⟩ := id hgp.1
    have hq10_1 : (pi) = (nI pp) := epi
    rw [hq10_1] at hl
    refine lv_aload_n hx hb dX7_keep_10 rfl (lv_at hl 0 rfl) ?_
    refine g_X7_X7_keeps hx hb hown hK hW h2000 dX7_keep_11 ?_
    refine lv_bipush (v := nI 20) hx hb dX7_keep_14 (by decide) ?_
    refine lv_icmp_ne (tgt := 22) hx hb dX7_keep_16 (by decide) (fun c16 => ?_) (fun c16 => ?_)
    · skip
      have c16 := nI_ne' c16 (by omega) (by omega)
      have hK9 : K < 20 := by omega
      refine lv_iconst (v := nI 0) hx hb dX7_keep_22 (by decide) ?_
      refine lv_istore_n (lv' := [(2, .int (nI 0)), (0, .ref (ad (2000))), (1, .int (nI pp))]) hx hb dX7_keep_23 rfl hl (by decide) rfl (fun ls hl => ?_)
      refine wlh (ι := Nat) (fun i => 3 - i) (fun i H locs g => (i ≤ 3) ∧ (∃ X, (X 2000 = some (.inr (7, [.int (nI n), .int (nI k), .ref (ad (2002)), .ref (ad (2003)), .ref (ad (2004)), .ref (ad (2005)), .ref (ad (2006)), .int (nI P), .ref (ad (2008)), .ref (ad (2009)), .ref (ad (2010)), .ref (ad (2011)), .ref (ad (2012)), .ref (ad (2013)), .ref (ad (2014)), .ref (ad (2015)), .ref (ad (2016)), .ref (ad (2017)), .ref (ad (2018)), .ref (ad (2019)), .ref (ad (2020)), .int (ce), .int (nI K), .ref (ad (2023)), .ref (ad (2024)), .ref (ad (2025)), .ref (ad (2026)), .ref (ad (2027))])) ∧ X 2002 = some (.inl (cy 0, 12, .inl ak)) ∧ X 2003 = some (.inl (cy 0, 12, .inl al)) ∧ X 2004 = some (.inl (cy 0, 12, .inl ab)) ∧ X 2005 = some (.inl (cy 0, 12, .inl aw)) ∧ X 2006 = some (.inl (cy 0, 12, .inl av)) ∧ X 2008 = some (.inl (cy 0, 640, .inl mem)) ∧ X 2009 = some (.inl (cy 1, 48, .inr (.inl kpt))) ∧ X 2010 = some (.inl (cy 2, 48, .inl (fun r => b2i (fgt r)))) ∧ X 2011 = some (.inl (cy 0, 4, .inl cha)) ∧ X 2012 = some (.inl (cy 0, 4, .inl cos)) ∧ X 2013 = some (.inl (cy 0, 4, .inl fnd)) ∧ X 2014 = some (.inl (cy 2, 4, .inl (fun r => b2i (isb r)))) ∧ X 2015 = some (.inl (cy 0, 4, .inl bat)) ∧ X 2016 = some (.inl (cy 0, 4, .inl kno)) ∧ X 2017 = some (.inl (cy 0, 240, .inl oob)) ∧ X 2018 = some (.inl (cy 0, 240, .inl ome)) ∧ X 2019 = some (.inl (cy 0, 240, .inl onu)) ∧ X 2020 = some (.inl (cy 1, 2880, .inr (.inl oke))) ∧ X 2024 = some (.inl (cy 0, 3200, .inl kme)) ∧ X 2025 = some (.inl (cy 0, 20, .inl kob)) ∧ X 2026 = some (.inl (cy 0, 160, .inl was)) ∧ X 2027 = some (.inl (cy 1, 12, .inr (.inl wwa))) ∧ X 2023 = some (.inl (cy 1, 60, .inr (.inl (cpA (fun x => scL ρ (pK π) (nI x) k) ksc 0 (3 * K) i)))) ∧ ∀ L, L < 2000 → X L = V L) ∧ HW D z0 ad X H) ∧ va_S (AA z0) s.heap H locs ∧ ∃ ls, g = F0 m 24 ls [] ∧ lv_has ls 3 [(0, .ref (ad (2000))), (1, .int (nI pp)), (2, .int (nI i))]) ?_ (0) _ _ _ ⟨Nat.zero_le _, ⟨_, ⟨h2000, h2002, h2003, h2004, h2005, h2006, h2008, h2009, h2010, h2011, h2012, h2013, h2014, h2015, h2016, h2017, h2018, h2019, h2020, h2024, h2025, h2026, h2027, by rw [cpA_0]; exact h2023, fun _ _ => rfl⟩, hW⟩, hS, ls, rfl, lv_sub hl [1, 2, 0] rfl⟩
      intro i H locs g hg ih
      obtain ⟨hi, ⟨Vn, ⟨h2000, h2002, h2003, h2004, h2005, h2006, h2008, h2009, h2010, h2011, h2012, h2013, h2014, h2015, h2016, h2017, h2018, h2019, h2020, h2024, h2025, h2026, h2027, h2023, hfn⟩, hW⟩, hS, ls, rfl, hl⟩ := hg
      refine lv_iload_n hx hb dX7_keep_24 rfl (lv_at hl 2 rfl) ?_
      refine lv_iconst (v := nI 3) hx hb dX7_keep_25 (by decide) ?_
      refine lv_icmp_ge (tgt := 54) hx hb dX7_keep_26 (by decide) (fun c26 => ?_) (fun c26 => ?_)
      · skip
        have c26 := nI_le' c26 (by omega) (by omega)
        have e9 : i = 3 := by omega
        rw [e9] at h2023
        refine lv_iconst (v := nI 0) hx hb dX7_keep_54 (by decide) ?_
        refine lv_istore_n (lv' := [(2, .int (nI 0)), (0, .ref (ad (2000))), (1, .int (nI pp))]) hx hb dX7_keep_55 rfl hl (by decide) rfl (fun ls hl => ?_)
        refine wlh (ι := Nat) (fun j => 160 - j) (fun j H locs g => (j ≤ 160) ∧ (∃ X, (X 2000 = some (.inr (7, [.int (nI n), .int (nI k), .ref (ad (2002)), .ref (ad (2003)), .ref (ad (2004)), .ref (ad (2005)), .ref (ad (2006)), .int (nI P), .ref (ad (2008)), .ref (ad (2009)), .ref (ad (2010)), .ref (ad (2011)), .ref (ad (2012)), .ref (ad (2013)), .ref (ad (2014)), .ref (ad (2015)), .ref (ad (2016)), .ref (ad (2017)), .ref (ad (2018)), .ref (ad (2019)), .ref (ad (2020)), .int (ce), .int (nI K), .ref (ad (2023)), .ref (ad (2024)), .ref (ad (2025)), .ref (ad (2026)), .ref (ad (2027))])) ∧ X 2002 = some (.inl (cy 0, 12, .inl ak)) ∧ X 2003 = some (.inl (cy 0, 12, .inl al)) ∧ X 2004 = some (.inl (cy 0, 12, .inl ab)) ∧ X 2005 = some (.inl (cy 0, 12, .inl aw)) ∧ X 2006 = some (.inl (cy 0, 12, .inl av)) ∧ X 2008 = some (.inl (cy 0, 640, .inl mem)) ∧ X 2009 = some (.inl (cy 1, 48, .inr (.inl kpt))) ∧ X 2010 = some (.inl (cy 2, 48, .inl (fun r => b2i (fgt r)))) ∧ X 2011 = some (.inl (cy 0, 4, .inl cha)) ∧ X 2012 = some (.inl (cy 0, 4, .inl cos)) ∧ X 2013 = some (.inl (cy 0, 4, .inl fnd)) ∧ X 2014 = some (.inl (cy 2, 4, .inl (fun r => b2i (isb r)))) ∧ X 2015 = some (.inl (cy 0, 4, .inl bat)) ∧ X 2016 = some (.inl (cy 0, 4, .inl kno)) ∧ X 2017 = some (.inl (cy 0, 240, .inl oob)) ∧ X 2018 = some (.inl (cy 0, 240, .inl ome)) ∧ X 2019 = some (.inl (cy 0, 240, .inl onu)) ∧ X 2020 = some (.inl (cy 1, 2880, .inr (.inl oke))) ∧ X 2023 = some (.inl (cy 1, 60, .inr (.inl (cpA (fun x => scL ρ (pK π) (nI x) k) ksc 0 (3 * K) 3)))) ∧ X 2025 = some (.inl (cy 0, 20, .inl kob)) ∧ X 2026 = some (.inl (cy 0, 160, .inl was)) ∧ X 2027 = some (.inl (cy 1, 12, .inr (.inl wwa))) ∧ X 2024 = some (.inl (cy 0, 3200, .inl (cpA mem kme (160 * pp) (160 * K) j))) ∧ ∀ L, L < 2000 → X L = V L) ∧ HW D z0 ad X H) ∧ va_S (AA z0) s.heap H locs ∧ ∃ ls, g = F0 m 56 ls [] ∧ lv_has ls 3 [(0, .ref (ad (2000))), (1, .int (nI pp)), (2, .int (nI j))]) ?_ (0) _ _ _ ⟨Nat.zero_le _, ⟨_, ⟨h2000, h2002, h2003, h2004, h2005, h2006, h2008, h2009, h2010, h2011, h2012, h2013, h2014, h2015, h2016, h2017, h2018, h2019, h2020, h2023, h2025, h2026, h2027, by rw [cpA_0]; exact h2024, hfn⟩, hW⟩, hS, ls, rfl, lv_sub hl [1, 2, 0] rfl⟩
        intro j H locs g hg ih
        obtain ⟨hj9, ⟨Vk, ⟨h2000, h2002, h2003, h2004, h2005, h2006, h2008, h2009, h2010, h2011, h2012, h2013, h2014, h2015, h2016, h2017, h2018, h2019, h2020, h2023, h2025, h2026, h2027, h2024, hfk⟩, hW⟩, hS, ls, rfl, hl⟩ := hg
        refine lv_iload_n hx hb dX7_keep_56 rfl (lv_at hl 2 rfl) ?_
        refine lv_sipush (v := nI 160) hx hb dX7_keep_57 (by decide) ?_
        refine lv_icmp_ge (tgt := 96) hx hb dX7_keep_60 (by decide) (fun c60 => ?_) (fun c60 => ?_)
        · skip
          have c60 := nI_le' c60 (by omega) (by omega)
          have e9 : j = 160 := by omega
          rw [e9] at h2024
          refine lv_aload_n hx hb dX7_keep_96 rfl (lv_at hl 0 rfl) ?_
          refine g_X7_X7_keptObjects hx hb hown hK hW h2000 dX7_keep_97 ?_
          refine lv_aload_n hx hb dX7_keep_100 rfl (lv_at hl 0 rfl) ?_
          refine g_X7_X7_keeps hx hb hown hK hW h2000 dX7_keep_101 ?_
          refine lv_aload_n hx hb dX7_keep_104 rfl (lv_at hl 0 rfl) ?_
          refine g_X7_X7_objects hx hb hown hK hW h2000 dX7_keep_105 ?_
          refine w_iast hx hb hK hW hS h2025 (j := K) (rfl) (by omega) (by omega) dX7_keep_108 (fun H locs hW hS => ?_)
          obtain ⟨V1, eV1⟩ : ∃ x9, x9 = va_up Vk (2025) (some (.inl (cy 0, 20, .inl (upd kob K (nI n))))) := ⟨_, rfl⟩
          rw [← eV1] at hW
          have h2000 : V1 (2000) = some (.inr (7, [.int (nI n), .int (nI k), .ref (ad (2002)), .ref (ad (2003)), .ref (ad (2004)), .ref (ad (2005)), .ref (ad (2006)), .int (nI P), .ref (ad (2008)), .ref (ad (2009)), .ref (ad (2010)), .ref (ad (2011)), .ref (ad (2012)), .ref (ad (2013)), .ref (ad (2014)), .ref (ad (2015)), .ref (ad (2016)), .ref (ad (2017)), .ref (ad (2018)), .ref (ad (2019)), .ref (ad (2020)), .int (ce), .int (nI K), .ref (ad (2023)), .ref (ad (2024)), .ref (ad (2025)), .ref (ad (2026)), .ref (ad (2027))])) := by rw [eV1, va_up_ne _ _ (by omega)]; exact h2000
          have h2002 : V1 (2002) = some (.inl (cy 0, 12, .inl ak)) := by rw [eV1, va_up_ne _ _ (by omega)]; exact h2002
          have h2003 : V1 (2003) = some (.inl (cy 0, 12, .inl al)) := by rw [eV1, va_up_ne _ _ (by omega)]; exact h2003
          have h2004 : V1 (2004) = some (.inl (cy 0, 12, .inl ab)) := by rw [eV1, va_up_ne _ _ (by omega)]; exact h2004
          have h2005 : V1 (2005) = some (.inl (cy 0, 12, .inl aw)) := by rw [eV1, va_up_ne _ _ (by omega)]; exact h2005
          have h2006 : V1 (2006) = some (.inl (cy 0, 12, .inl av)) := by rw [eV1, va_up_ne _ _ (by omega)]; exact h2006
          have h2008 : V1 (2008) = some (.inl (cy 0, 640, .inl mem)) := by rw [eV1, va_up_ne _ _ (by omega)]; exact h2008
          have h2009 : V1 (2009) = some (.inl (cy 1, 48, .inr (.inl kpt))) := by rw [eV1, va_up_ne _ _ (by omega)]; exact h2009
          have h2010 : V1 (2010) = some (.inl (cy 2, 48, .inl (fun r => b2i (fgt r)))) := by rw [eV1, va_up_ne _ _ (by omega)]; exact h2010
          have h2011 : V1 (2011) = some (.inl (cy 0, 4, .inl cha)) := by rw [eV1, va_up_ne _ _ (by omega)]; exact h2011
          have h2012 : V1 (2012) = some (.inl (cy 0, 4, .inl cos)) := by rw [eV1, va_up_ne _ _ (by omega)]; exact h2012
          have h2013 : V1 (2013) = some (.inl (cy 0, 4, .inl fnd)) := by rw [eV1, va_up_ne _ _ (by omega)]; exact h2013
          have h2014 : V1 (2014) = some (.inl (cy 2, 4, .inl (fun r => b2i (isb r)))) := by rw [eV1, va_up_ne _ _ (by omega)]; exact h2014
          have h2015 : V1 (2015) = some (.inl (cy 0, 4, .inl bat)) := by rw [eV1, va_up_ne _ _ (by omega)]; exact h2015
          have h2016 : V1 (2016) = some (.inl (cy 0, 4, .inl kno)) := by rw [eV1, va_up_ne _ _ (by omega)]; exact h2016
          have h2017 : V1 (2017) = some (.inl (cy 0, 240, .inl oob)) := by rw [eV1, va_up_ne _ _ (by omega)]; exact h2017
          have h2018 : V1 (2018) = some (.inl (cy 0, 240, .inl ome)) := by rw [eV1, va_up_ne _ _ (by omega)]; exact h2018
          have h2019 : V1 (2019) = some (.inl (cy 0, 240, .inl onu)) := by rw [eV1, va_up_ne _ _ (by omega)]; exact h2019
          have h2020 : V1 (2020) = some (.inl (cy 1, 2880, .inr (.inl oke))) := by rw [eV1, va_up_ne _ _ (by omega)]; exact h2020
          have h2023 : V1 (2023) = some (.inl (cy 1, 60, .inr (.inl (cpA (fun x => scL ρ (pK π) (nI x) k) ksc 0 (3 * K) 3)))) := by rw [eV1, va_up_ne _ _ (by omega)]; exact h2023
          have h2026 : V1 (2026) = some (.inl (cy 0, 160, .inl was)) := by rw [eV1, va_up_ne _ _ (by omega)]; exact h2026
          have h2027 : V1 (2027) = some (.inl (cy 1, 12, .inr (.inl wwa))) := by rw [eV1, va_up_ne _ _ (by omega)]; exact h2027
          have h2024 : V1 (2024) = some (.inl (cy 0, 3200, .inl (cpA mem kme (160 * pp) (160 * K) 160))) := by rw [eV1, va_up_ne _ _ (by omega)]; exact h2024
          have h2025 : V1 (2025) = some (.inl (cy 0, 20, .inl (upd kob K (nI n)))) := by rw [eV1, va_up_self]
          refine lv_aload_n hx hb dX7_keep_109 rfl (lv_at hl 0 rfl) ?_
          refine lv_dup hx hb dX7_keep_110 rfl ?_
          refine g_X7_X7_keeps hx hb hown hK hW h2000 dX7_keep_111 ?_
          refine lv_iconst (v := nI 1) hx hb dX7_keep_114 (by decide) ?_
          refine lv_iadd hx hb dX7_keep_115 ?_
          refine asi (y := nI (K + 1)) (nI_add _ _) ?_
          refine p_X7_X7_keeps hx hb hown hK hW hS h2000 dX7_keep_116 (fun H locs hW hS => ?_)
          obtain ⟨V2, eV2⟩ : ∃ x9, x9 = va_up V1 (2000) (some (.inr (7, [.int (nI n), .int (nI k), .ref (ad (2002)), .ref (ad (2003)), .ref (ad (2004)), .ref (ad (2005)), .ref (ad (2006)), .int (nI P), .ref (ad (2008)), .ref (ad (2009)), .ref (ad (2010)), .ref (ad (2011)), .ref (ad (2012)), .ref (ad (2013)), .ref (ad (2014)), .ref (ad (2015)), .ref (ad (2016)), .ref (ad (2017)), .ref (ad (2018)), .ref (ad (2019)), .ref (ad (2020)), .int (ce), .int (nI (K + 1)), .ref (ad (2023)), .ref (ad (2024)), .ref (ad (2025)), .ref (ad (2026)), .ref (ad (2027))]))) := ⟨_, rfl⟩
          rw [← eV2] at hW
          have h2002 : V2 (2002) = some (.inl (cy 0, 12, .inl ak)) := by rw [eV2, va_up_ne _ _ (by omega)]; exact h2002
          have h2003 : V2 (2003) = some (.inl (cy 0, 12, .inl al)) := by rw [eV2, va_up_ne _ _ (by omega)]; exact h2003
          have h2004 : V2 (2004) = some (.inl (cy 0, 12, .inl ab)) := by rw [eV2, va_up_ne _ _ (by omega)]; exact h2004
          have h2005 : V2 (2005) = some (.inl (cy 0, 12, .inl aw)) := by rw [eV2, va_up_ne _ _ (by omega)]; exact h2005
          have h2006 : V2 (2006) = some (.inl (cy 0, 12, .inl av)) := by rw [eV2, va_up_ne _ _ (by omega)]; exact h2006
          have h2008 : V2 (2008) = some (.inl (cy 0, 640, .inl mem)) := by rw [eV2, va_up_ne _ _ (by omega)]; exact h2008
          have h2009 : V2 (2009) = some (.inl (cy 1, 48, .inr (.inl kpt))) := by rw [eV2, va_up_ne _ _ (by omega)]; exact h2009
          have h2010 : V2 (2010) = some (.inl (cy 2, 48, .inl (fun r => b2i (fgt r)))) := by rw [eV2, va_up_ne _ _ (by omega)]; exact h2010
          have h2011 : V2 (2011) = some (.inl (cy 0, 4, .inl cha)) := by rw [eV2, va_up_ne _ _ (by omega)]; exact h2011
          have h2012 : V2 (2012) = some (.inl (cy 0, 4, .inl cos)) := by rw [eV2, va_up_ne _ _ (by omega)]; exact h2012
          have h2013 : V2 (2013) = some (.inl (cy 0, 4, .inl fnd)) := by rw [eV2, va_up_ne _ _ (by omega)]; exact h2013
          have h2014 : V2 (2014) = some (.inl (cy 2, 4, .inl (fun r => b2i (isb r)))) := by rw [eV2, va_up_ne _ _ (by omega)]; exact h2014
          have h2015 : V2 (2015) = some (.inl (cy 0, 4, .inl bat)) := by rw [eV2, va_up_ne _ _ (by omega)]; exact h2015
          have h2016 : V2 (2016) = some (.inl (cy 0, 4, .inl kno)) := by rw [eV2, va_up_ne _ _ (by omega)]; exact h2016
          have h2017 : V2 (2017) = some (.inl (cy 0, 240, .inl oob)) := by rw [eV2, va_up_ne _ _ (by omega)]; exact h2017
          have h2018 : V2 (2018) = some (.inl (cy 0, 240, .inl ome)) := by rw [eV2, va_up_ne _ _ (by omega)]; exact h2018
          have h2019 : V2 (2019) = some (.inl (cy 0, 240, .inl onu)) := by rw [eV2, va_up_ne _ _ (by omega)]; exact h2019
          have h2020 : V2 (2020) = some (.inl (cy 1, 2880, .inr (.inl oke))) := by rw [eV2, va_up_ne _ _ (by omega)]; exact h2020
          have h2023 : V2 (2023) = some (.inl (cy 1, 60, .inr (.inl (cpA (fun x => scL ρ (pK π) (nI x) k) ksc 0 (3 * K) 3)))) := by rw [eV2, va_up_ne _ _ (by omega)]; exact h2023
          have h2026 : V2 (2026) = some (.inl (cy 0, 160, .inl was)) := by rw [eV2, va_up_ne _ _ (by omega)]; exact h2026
          have h2027 : V2 (2027) = some (.inl (cy 1, 12, .inr (.inl wwa))) := by rw [eV2, va_up_ne _ _ (by omega)]; exact h2027
          have h2024 : V2 (2024) = some (.inl (cy 0, 3200, .inl (cpA mem kme (160 * pp) (160 * K) 160))) := by rw [eV2, va_up_ne _ _ (by omega)]; exact h2024
          have h2025 : V2 (2025) = some (.inl (cy 0, 20, .inl (upd kob K (nI n)))) := by rw [eV2, va_up_ne _ _ (by omega)]; exact h2025
          have h2000 : V2 (2000) = some (.inr (7, [.int (nI n), .int (nI k), .ref (ad (2002)), .ref (ad (2003)), .ref (ad (2004)), .ref (ad (2005)), .ref (ad (2006)), .int (nI P), .ref (ad (2008)), .ref (ad (2009)), .ref (ad (2010)), .ref (ad (2011)), .ref (ad (2012)), .ref (ad (2013)), .ref (ad (2014)), .ref (ad (2015)), .ref (ad (2016)), .ref (ad (2017)), .ref (ad (2018)), .ref (ad (2019)), .ref (ad (2020)), .int (ce), .int (nI (K + 1)), .ref (ad (2023)), .ref (ad (2024)), .ref (ad (2025)), .ref (ad (2026)), .ref (ad (2027))])) := by rw [eV2, va_up_self]
          refine lv_aload_n hx hb dX7_keep_119 rfl (lv_at hl 0 rfl) ?_
          refine g_X7_X7_keeps hx hb hown hK hW h2000 dX7_keep_120 ?_
          refine lv_iconst (v := nI 1) hx hb dX7_keep_123 (by decide) ?_
          refine lv_isub hx hb dX7_keep_124 ?_
          refine asi (y := nI ((K + 1) - 1)) (pk_sub (by omega)) ?_
          exact rwi hx hb hr hlocks dX7_keep_125 hW hS (by
      have hx9 : xKeep n k P K ρ pl sn pi = (nI K, K + 1, va_up sn K (n, pM π, scS ρ (pK π) k 3)) := by unfold xKeep; rw [if_pos hp, if_pos hK9, ← epp, eπ]
      rw [hx9]
      refine ⟨rfl, rfl, ?_, fun L hL => by show V2 L = _; rw [eV2, va_up_ne _ _ (by omega), eV1, va_up_ne _ _ (by omega)]; exact hfk L hL⟩
      show isM ad V2 cy n k P (K + 1) ce ρ pl (va_up sn K (n, pM π, scS ρ (pK π) k 3))
      refine ⟨_, _, _, _, _, _, _, _, _, _, _, _, _, _, _, _, _, _, _, _, _, _, _, ⟨h2000, h2002, h2003, h2004, h2005, h2006, h2008, h2009, h2010, h2011, h2012, h2013, h2014, h2015, h2016, h2017, h2018, h2019, h2020, h2023, h2024, h2025, h2026, h2027⟩, ⟨hru, hlv⟩, hrp, fun q hq => ?_⟩
      by_cases e : q = K
      · subst e
        rw [va_up_self]
        refine ⟨pk_us, fun m hm o ho => ?_, fun x hx => ?_⟩
        · rw [Nat.add_assoc, cpA_in (by omega), ← Nat.add_assoc]
          exact hvw m hm o ho
        · rw [cpA_in hx, Nat.zero_add]
          show _ = scS ρ (pK π) k 3 x
          unfold scS
          rw [if_pos hx]
      · rw [va_up_ne _ _ e]
        obtain ⟨a1, a2, a3⟩ := hrs q (by omega)
        exact ⟨by rw [pk_un e]; exact a1, fun m hm o ho => by rw [cpA_out (by omega)]; exact a2 m hm o ho, fun x hx => by rw [cpA_out (by omega)]; exact a3 x hx⟩)
        · skip
          have c60 := nI_nle' c60 (by omega) (by omega)
          refine lv_aload_n hx hb dX7_keep_63 rfl (lv_at hl 0 rfl) ?_
          refine g_X7_X7_keptMember hx hb hown hK hW h2000 dX7_keep_64 ?_
          refine lv_sipush (v := nI 160) hx hb dX7_keep_67 (by decide) ?_
          refine lv_aload_n hx hb dX7_keep_70 rfl (lv_at hl 0 rfl) ?_
          refine g_X7_X7_keeps hx hb hown hK hW h2000 dX7_keep_71 ?_
          refine lv_imul hx hb dX7_keep_74 ?_
          refine asi (y := nI (160 * K)) (pk_mul _ _) ?_
          refine lv_iload_n hx hb dX7_keep_75 rfl (lv_at hl 2 rfl) ?_
          refine lv_iadd hx hb dX7_keep_76 ?_
          refine asi (y := nI ((160 * K) + j)) (nI_add _ _) ?_
          refine lv_aload_n hx hb dX7_keep_77 rfl (lv_at hl 0 rfl) ?_
          refine g_X7_X7_member hx hb hown hK hW h2000 dX7_keep_78 ?_
          refine lv_sipush (v := nI 160) hx hb dX7_keep_81 (by decide) ?_
          refine lv_iload_n hx hb dX7_keep_84 rfl (lv_at hl 1 rfl) ?_
          refine lv_imul hx hb dX7_keep_85 ?_
          refine asi (y := nI (160 * pp)) (pk_mul _ _) ?_
          refine lv_iload_n hx hb dX7_keep_86 rfl (lv_at hl 2 rfl) ?_
          refine lv_iadd hx hb dX7_keep_87 ?_
          refine asi (y := nI ((160 * pp) + j)) (nI_add _ _) ?_
          refine w_iald hx hb hK hW h2008 (j := (160 * pp) + j) (rfl) (by omega) (by omega) dX7_keep_88 ?_
          refine w_iast hx hb hK hW hS h2024 (j := (160 * K) + j) (rfl) (by omega) (by omega) dX7_keep_89 (fun H locs hW hS => ?_)
          obtain ⟨V3, eV3⟩ : ∃ x9, x9 = va_up Vk (2024) (some (.inl (cy 0, 3200, .inl (upd (cpA mem kme (160 * pp) (160 * K) j) ((160 * K) + j) (mem ((160 * pp) + j)))))) := ⟨_, rfl⟩
          rw [← eV3] at hW
          have h2000 : V3 (2000) = some (.inr (7, [.int (nI n), .int (nI k), .ref (ad (2002)), .ref (ad (2003)), .ref (ad (2004)), .ref (ad (2005)), .ref (ad (2006)), .int (nI P), .ref (ad (2008)), .ref (ad (2009)), .ref (ad (2010)), .ref (ad (2011)), .ref (ad (2012)), .ref (ad (2013)), .ref (ad (2014)), .ref (ad (2015)), .ref (ad (2016)), .ref (ad (2017)), .ref (ad (2018)), .ref (ad (2019)), .ref (ad (2020)), .int (ce), .int (nI K), .ref (ad (2023)), .ref (ad (2024)), .ref (ad (2025)), .ref (ad (2026)), .ref (ad (2027))])) := by rw [eV3, va_up_ne _ _ (by omega)]; exact h2000
          have h2002 : V3 (2002) = some (.inl (cy 0, 12, .inl ak)) := by rw [eV3, va_up_ne _ _ (by omega)]; exact h2002
          have h2003 : V3 (2003) = some (.inl (cy 0, 12, .inl al)) := by rw [eV3, va_up_ne _ _ (by omega)]; exact h2003
          have h2004 : V3 (2004) = some (.inl (cy 0, 12, .inl ab)) := by rw [eV3, va_up_ne _ _ (by omega)]; exact h2004
          have h2005 : V3 (2005) = some (.inl (cy 0, 12, .inl aw)) := by rw [eV3, va_up_ne _ _ (by omega)]; exact h2005
          have h2006 : V3 (2006) = some (.inl (cy 0, 12, .inl av)) := by rw [eV3, va_up_ne _ _ (by omega)]; exact h2006
          have h2008 : V3 (2008) = some (.inl (cy 0, 640, .inl mem)) := by rw [eV3, va_up_ne _ _ (by omega)]; exact h2008
          have h2009 : V3 (2009) = some (.inl (cy 1, 48, .inr (.inl kpt))) := by rw [eV3, va_up_ne _ _ (by omega)]; exact h2009
          have h2010 : V3 (2010) = some (.inl (cy 2, 48, .inl (fun r => b2i (fgt r)))) := by rw [eV3, va_up_ne _ _ (by omega)]; exact h2010
          have h2011 : V3 (2011) = some (.inl (cy 0, 4, .inl cha)) := by rw [eV3, va_up_ne _ _ (by omega)]; exact h2011
          have h2012 : V3 (2012) = some (.inl (cy 0, 4, .inl cos)) := by rw [eV3, va_up_ne _ _ (by omega)]; exact h2012
          have h2013 : V3 (2013) = some (.inl (cy 0, 4, .inl fnd)) := by rw [eV3, va_up_ne _ _ (by omega)]; exact h2013
          have h2014 : V3 (2014) = some (.inl (cy 2, 4, .inl (fun r => b2i (isb r)))) := by rw [eV3, va_up_ne _ _ (by omega)]; exact h2014
          have h2015 : V3 (2015) = some (.inl (cy 0, 4, .inl bat)) := by rw [eV3, va_up_ne _ _ (by omega)]; exact h2015
          have h2016 : V3 (2016) = some (.inl (cy 0, 4, .inl kno)) := by rw [eV3, va_up_ne _ _ (by omega)]; exact h2016
          have h2017 : V3 (2017) = some (.inl (cy 0, 240, .inl oob)) := by rw [eV3, va_up_ne _ _ (by omega)]; exact h2017
          have h2018 : V3 (2018) = some (.inl (cy 0, 240, .inl ome)) := by rw [eV3, va_up_ne _ _ (by omega)]; exact h2018
          have h2019 : V3 (2019) = some (.inl (cy 0, 240, .inl onu)) := by rw [eV3, va_up_ne _ _ (by omega)]; exact h2019
          have h2020 : V3 (2020) = some (.inl (cy 1, 2880, .inr (.inl oke))) := by rw [eV3, va_up_ne _ _ (by omega)]; exact h2020
          have h2023 : V3 (2023) = some (.inl (cy 1, 60, .inr (.inl (cpA (fun x => scL ρ (pK π) (nI x) k) ksc 0 (3 * K) 3)))) := by rw [eV3, va_up_ne _ _ (by omega)]; exact h2023
          have h2025 : V3 (2025) = some (.inl (cy 0, 20, .inl kob)) := by rw [eV3, va_up_ne _ _ (by omega)]; exact h2025
          have h2026 : V3 (2026) = some (.inl (cy 0, 160, .inl was)) := by rw [eV3, va_up_ne _ _ (by omega)]; exact h2026
          have h2027 : V3 (2027) = some (.inl (cy 1, 12, .inr (.inl wwa))) := by rw [eV3, va_up_ne _ _ (by omega)]; exact h2027
          have h2024 : V3 (2024) = some (.inl (cy 0, 3200, .inl (upd (cpA mem kme (160 * pp) (160 * K) j) ((160 * K) + j) (mem ((160 * pp) + j))))) := by rw [eV3, va_up_self]
          refine lv_iinc (v := nI (j + 1)) (lv' := [(2, .int (nI (j + 1))), (0, .ref (ad (2000))), (1, .int (nI pp))]) hx hb dX7_keep_90 hl (k := 2) rfl (by rw [show Int32.ofInt 1 = nI 1 from by decide]; exact nI_add _ _) (by decide) rfl (fun ls hl => ?_)
          refine lv_goto (tgt := 56) hx hb dX7_keep_93 (by decide) ?_
          exact ih (j + 1) _ _ _ ⟨by omega, ⟨_, ⟨h2000, h2002, h2003, h2004, h2005, h2006, h2008, h2009, h2010, h2011, h2012, h2013, h2014, h2015, h2016, h2017, h2018, h2019, h2020, h2023, h2025, h2026, h2027, by rw [← cpA_i]; exact h2024, fun L hL => by rw [eV3, va_up_ne _ _ (by omega)]; exact hfk L hL⟩, hW⟩, hS, ls, rfl, lv_sub hl [1, 2, 0] rfl⟩ (by omega)
      · skip
        have c26 := nI_nle' c26 (by omega) (by omega)
        refine lv_aload_n hx hb dX7_keep_29 rfl (lv_at hl 0 rfl) ?_
        refine g_X7_X7_keptScore hx hb hown hK hW h2000 dX7_keep_30 ?_
        refine lv_iconst (v := nI 3) hx hb dX7_keep_33 (by decide) ?_
        refine lv_aload_n hx hb dX7_keep_34 rfl (lv_at hl 0 rfl) ?_
        refine g_X7_X7_keeps hx hb hown hK hW h2000 dX7_keep_35 ?_
        refine lv_imul hx hb dX7_keep_38 ?_
        refine asi (y := nI (3 * K)) (pk_mul _ _) ?_
        refine lv_iload_n hx hb dX7_keep_39 rfl (lv_at hl 2 rfl) ?_
        refine lv_iadd hx hb dX7_keep_40 ?_
        refine asi (y := nI ((3 * K) + i)) (nI_add _ _) ?_
        refine lv_aload_n hx hb dX7_keep_41 rfl (lv_at hl 0 rfl) ?_
        refine lv_iload_n hx hb dX7_keep_42 rfl (lv_at hl 1 rfl) ?_
        refine lv_iload_n hx hb dX7_keep_43 rfl (lv_at hl 2 rfl) ?_
        refine vp_callSl (va_Run.run (va_runV (As := [.int (nI pp), .int (nI i)]) (rest := [.int (nI ((3 * K) + i)), .ref (ad (2023))]) ⟨hx, hb, hml, hown, hK.1.use _⟩ (c_X7_scoreOf l D cy z0 ad Vn n k P K ce h2000 av h2006 kpt h2009 hk12 pp (by omega) (nI i)) (k_X7_X7_scoreOf hK.1 rfl rfl ⟨Nat.le_of_ble_eq_true rfl, Nat.le_of_ble_eq_true rfl⟩) (preV hK (Nat.le_trans hz hS.1) hW h2000 rfl) rfl rfl hl.1 rfl (lv_room (Nat.le_of_ble_eq_true rfl)) dX7_keep_44 ⟨Nat.le_of_ble_eq_true rfl, Nat.le_of_ble_eq_true rfl⟩)) (fun r44 h44 => ?_)
        have h44 : r44 = scR av kpt pp (nI i) k := h44
        subst h44
        refine asl (y := scL ρ (pK π) (nI i) k) (scr_eq k hlv hkp) ?_
        refine w_last hx hb hK hW hS h2023 (j := (3 * K) + i) (rfl) (by omega) (by omega) dX7_keep_47 (fun H locs hW hS => ?_)
        obtain ⟨V4, eV4⟩ : ∃ x9, x9 = va_up Vn (2023) (some (.inl (cy 1, 60, .inr (.inl (vp_updL (cpA (fun x => scL ρ (pK π) (nI x) k) ksc 0 (3 * K) i) ((3 * K) + i) (scL ρ (pK π) (nI i) k)))))) := ⟨_, rfl⟩
        rw [← eV4] at hW
        have h2000 : V4 (2000) = some (.inr (7, [.int (nI n), .int (nI k), .ref (ad (2002)), .ref (ad (2003)), .ref (ad (2004)), .ref (ad (2005)), .ref (ad (2006)), .int (nI P), .ref (ad (2008)), .ref (ad (2009)), .ref (ad (2010)), .ref (ad (2011)), .ref (ad (2012)), .ref (ad (2013)), .ref (ad (2014)), .ref (ad (2015)), .ref (ad (2016)), .ref (ad (2017)), .ref (ad (2018)), .ref (ad (2019)), .ref (ad (2020)), .int (ce), .int (nI K), .ref (ad (2023)), .ref (ad (2024)), .ref (ad (2025)), .ref (ad (2026)), .ref (ad (2027))])) := by rw [eV4, va_up_ne _ _ (by omega)]; exact h2000
        have h2002 : V4 (2002) = some (.inl (cy 0, 12, .inl ak)) := by rw [eV4, va_up_ne _ _ (by omega)]; exact h2002
        have h2003 : V4 (2003) = some (.inl (cy 0, 12, .inl al)) := by rw [eV4, va_up_ne _ _ (by omega)]; exact h2003
        have h2004 : V4 (2004) = some (.inl (cy 0, 12, .inl ab)) := by rw [eV4, va_up_ne _ _ (by omega)]; exact h2004
        have h2005 : V4 (2005) = some (.inl (cy 0, 12, .inl aw)) := by rw [eV4, va_up_ne _ _ (by omega)]; exact h2005
        have h2006 : V4 (2006) = some (.inl (cy 0, 12, .inl av)) := by rw [eV4, va_up_ne _ _ (by omega)]; exact h2006
        have h2008 : V4 (2008) = some (.inl (cy 0, 640, .inl mem)) := by rw [eV4, va_up_ne _ _ (by omega)]; exact h2008
        have h2009 : V4 (2009) = some (.inl (cy 1, 48, .inr (.inl kpt))) := by rw [eV4, va_up_ne _ _ (by omega)]; exact h2009
        have h2010 : V4 (2010) = some (.inl (cy 2, 48, .inl (fun r => b2i (fgt r)))) := by rw [eV4, va_up_ne _ _ (by omega)]; exact h2010
        have h2011 : V4 (2011) = some (.inl (cy 0, 4, .inl cha)) := by rw [eV4, va_up_ne _ _ (by omega)]; exact h2011
        have h2012 : V4 (2012) = some (.inl (cy 0, 4, .inl cos)) := by rw [eV4, va_up_ne _ _ (by omega)]; exact h2012
        have h2013 : V4 (2013) = some (.inl (cy 0, 4, .inl fnd)) := by rw [eV4, va_up_ne _ _ (by omega)]; exact h2013
        have h2014 : V4 (2014) = some (.inl (cy 2, 4, .inl (fun r => b2i (isb r)))) := by rw [eV4, va_up_ne _ _ (by omega)]; exact h2014
        have h2015 : V4 (2015) = some (.inl (cy 0, 4, .inl bat)) := by rw [eV4, va_up_ne _ _ (by omega)]; exact h2015
        have h2016 : V4 (2016) = some (.inl (cy 0, 4, .inl kno)) := by rw [eV4, va_up_ne _ _ (by omega)]; exact h2016
        have h2017 : V4 (2017) = some (.inl (cy 0, 240, .inl oob)) := by rw [eV4, va_up_ne _ _ (by omega)]; exact h2017
        have h2018 : V4 (2018) = some (.inl (cy 0, 240, .inl ome)) := by rw [eV4, va_up_ne _ _ (by omega)]; exact h2018
        have h2019 : V4 (2019) = some (.inl (cy 0, 240, .inl onu)) := by rw [eV4, va_up_ne _ _ (by omega)]; exact h2019
        have h2020 : V4 (2020) = some (.inl (cy 1, 2880, .inr (.inl oke))) := by rw [eV4, va_up_ne _ _ (by omega)]; exact h2020
        have h2024 : V4 (2024) = some (.inl (cy 0, 3200, .inl kme)) := by rw [eV4, va_up_ne _ _ (by omega)]; exact h2024
        have h2025 : V4 (2025) = some (.inl (cy 0, 20, .inl kob)) := by rw [eV4, va_up_ne _ _ (by omega)]; exact h2025
        have h2026 : V4 (2026) = some (.inl (cy 0, 160, .inl was)) := by rw [eV4, va_up_ne _ _ (by omega)]; exact h2026
        have h2027 : V4 (2027) = some (.inl (cy 1, 12, .inr (.inl wwa))) := by rw [eV4, va_up_ne _ _ (by omega)]; exact h2027
        have h2023 : V4 (2023) = some (.inl (cy 1, 60, .inr (.inl (vp_updL (cpA (fun x => scL ρ (pK π) (nI x) k) ksc 0 (3 * K) i) ((3 * K) + i) (scL ρ (pK π) (nI i) k))))) := by rw [eV4, va_up_self]
        refine lv_iinc (v := nI (i + 1)) (lv' := [(2, .int (nI (i + 1))), (0, .ref (ad (2000))), (1, .int (nI pp))]) hx hb dX7_keep_48 hl (k := 2) rfl (by rw [show Int32.ofInt 1 = nI 1 from by decide]; exact nI_add _ _) (by decide) rfl (fun ls hl => ?_)
        refine lv_goto (tgt := 24) hx hb dX7_keep_51 (by decide) ?_
        exact ih (i + 1) _ _ _ ⟨by omega, ⟨_, ⟨h2000, h2002, h2003, h2004, h2005, h2006, h2008, h2009, h2010, h2011, h2012, h2013, h2014, h2015, h2016, h2017, h2018, h2019, h2020, h2024, h2025, h2026, h2027, by rw [← cpA_l, Nat.zero_add]; exact h2023, fun L hL => by rw [eV4, va_up_ne _ _ (by omega)]; exact hfn L hL⟩, hW⟩, hS, ls, rfl, lv_sub hl [1, 2, 0] rfl⟩ (by omega)
    · skip
      have c16 := nI_eq' c16 (by omega) (by omega)
      refine lv_bipush (v := -4) hx hb dX7_keep_19 (by decide) ?_
      exact rwi hx hb hr hlocks dX7_keep_21 hW hS (⟨by unfold xKeep; rw [if_pos hp, if_neg (by omega)], rfl, by unfold xKeep; rw [if_pos hp, if_neg (by omega)]; exact hM, fun L _ => rfl⟩)
  · skip
    have c5 := b2i_0.mp c5
    have hp : ¬ hasB P pi = true := by rw [c5]; decide
    refine lv_iconst (v := -1) hx hb dX7_keep_8 (by decide) ?_
    exact rwi hx hb hr hlocks dX7_keep_9 hW hS (⟨by unfold xKeep; rw [if_neg hp], rfl, by unfold xKeep; rw [if_neg hp]; exact hM, fun L _ => rfl⟩)
