set_option maxHeartbeats 4000000 in
set_option maxRecDepth 100000 in
theorem c_X7_know (l : Launch) (D : va_G) (cy : Nat → ClassId) (z0 : Nat) (ad : Nat → Nat) (V : Nat → Option va_E) (n k P K : Nat) (ev : Int32) (h2000 : V 2000 = some (.inr (7, [.int (nI n), .int (nI k), .ref (ad (2002)), .ref (ad (2003)), .ref (ad (2004)), .ref (ad (2005)), .ref (ad (2006)), .int (nI P), .ref (ad (2008)), .ref (ad (2009)), .ref (ad (2010)), .ref (ad (2011)), .ref (ad (2012)), .ref (ad (2013)), .ref (ad (2014)), .ref (ad (2015)), .ref (ad (2016)), .ref (ad (2017)), .ref (ad (2018)), .ref (ad (2019)), .ref (ad (2020)), .int (ev), .int (nI K), .ref (ad (2023)), .ref (ad (2024)), .ref (ad (2025)), .ref (ad (2026)), .ref (ad (2027))]))) (kpt : Nat → Int64) (h2009 : V 2009 = some (.inl (cy 1, 48, .inr (.inl kpt)))) (isb : Nat → Bool) (h2014 : V 2014 = some (.inl (cy 2, 4, .inl (fun r => b2i (isb r))))) (bat : Nat → Int32) (h2015 : V 2015 = some (.inl (cy 0, 4, .inl bat))) (kno : Nat → Int32) (h2016 : V 2016 = some (.inl (cy 0, 4, .inl kno))) (oob : Nat → Int32) (h2017 : V 2017 = some (.inl (cy 0, 240, .inl oob))) (ome : Nat → Int32) (h2018 : V 2018 = some (.inl (cy 0, 240, .inl ome))) (onu : Nat → Int32) (h2019 : V 2019 = some (.inl (cy 0, 240, .inl onu))) (oke : Nat → Int64) (h2020 : V 2020 = some (.inl (cy 1, 2880, .inr (.inl oke)))) (hn40 : n ≤ 40) (pp : Nat) (hp4 : pp < 4) (kn bq : Nat) (hkn : kn ≤ 60) (ekn : kno pp = nI kn) (hbq : bq ≤ 60) (ebq : bat pp = nI bq) (o mi v : Int32) : Met l yX7_know [Cond.code yX7_know cX7_know 7 none] { frames := 0, cells := 0, slots := 0, locals := 0 } (WP [.ref (ad (2000)), .int (nI pp), .int (o), .int (mi), .int (v)] D cy z0 ad V) (va_Qv (fun u => u.1 = ad ∧ u.2 2017 = some (.inl (cy 0, 240, .inl (upd (shI oob pp kn) (60 * pp + kn1 kn) o))) ∧ u.2 2018 = some (.inl (cy 0, 240, .inl (upd (shI ome pp kn) (60 * pp + kn1 kn) mi))) ∧ u.2 2019 = some (.inl (cy 0, 240, .inl (upd (shI onu pp kn) (60 * pp + kn1 kn) v))) ∧ u.2 2020 = some (.inl (cy 1, 2880, .inr (.inl (cpA kpt (shJ oke pp kn) (12 * pp) (12 * (60 * pp + kn1 kn)) 12)))) ∧ (∃ kno2, u.2 2016 = some (.inl (cy 0, 4, .inl kno2)) ∧ kno2 pp = nI (knU kn) ∧ ∀ j, ¬ j = pp → kno2 j = kno j) ∧ (∃ bat2, u.2 2015 = some (.inl (cy 0, 4, .inl bat2)) ∧ bat2 pp = nI ((if kn = 60 ∧ bq = 60 then 59 else bq) + (if isb pp = true then 1 else 0)) ∧ ∀ j, ¬ j = pp → bat2 j = bat j) ∧ ∀ L, (¬ L = 2017 ∧ ¬ L = 2018 ∧ ¬ L = 2019 ∧ ¬ L = 2020 ∧ ¬ L = 2016 ∧ ¬ L = 2015) → u.2 L = V L) (WB D z0) (AA z0)) 0 0 (AA z0) := by
  refine met_of (by decide) (Nat.le_of_ble_eq_true rfl) (fun p e s m below meth c hx hb hr hml hown hlocks hnm hK hz hW ls hl => ?_)
  have hown : s.vm.findClass RX7 = some m.cls := hown
  have hl : lv_has ls 7 [(0, .ref (ad (2000))), (1, .int (nI pp)), (2, .int (o)), (3, .int (mi)), (4, .int (v))] := hl
  have hS : va_S (AA z0) s.heap s.heap [] := va_S.rf
  have o2000 := h2000
  have o2009 := h2009
  have o2014 := h2014
  have o2015 := h2015
  have o2016 := h2016
  have o2017 := h2017
  have o2018 := h2018
  have o2019 := h2019
  have o2020 := h2020
  refine jlh (I := fun H locs => (∃ X, ((∃ kno1 bat1, X 2017 = some (.inl (cy 0, 240, .inl (shI oob pp kn))) ∧ X 2018 = some (.inl (cy 0, 240, .inl (shI ome pp kn))) ∧ X 2019 = some (.inl (cy 0, 240, .inl (shI onu pp kn))) ∧ X 2020 = some (.inl (cy 1, 2880, .inr (.inl (shJ oke pp kn)))) ∧ (X 2016 = some (.inl (cy 0, 4, .inl kno1)) ∧ kno1 pp = nI (kn1 kn) ∧ ∀ j, ¬ j = pp → kno1 j = kno j) ∧ X 2015 = some (.inl (cy 0, 4, .inl bat1)) ∧ bat1 pp = nI (if kn = 60 ∧ bq = 60 then 59 else bq) ∧ ∀ j, ¬ j = pp → bat1 j = bat j) ∧ ∀ L, (¬ L = 2017 ∧ ¬ L = 2018 ∧ ¬ L = 2019 ∧ ¬ L = 2020 ∧ ¬ L = 2016 ∧ ¬ L = 2015) → X L = V L) ∧ HW D z0 ad X H) ∧ va_S (AA z0) s.heap H locs) (pcj := 168) (st := []) (nL := 7) (lv := [(0, .ref (ad (2000))), (1, .int (nI pp)), (2, .int (o)), (3, .int (mi)), (4, .int (v))]) (fun KJ => ?_) (fun H locs ls hI hl => ?_)
  · skip
    refine lv_aload_n hx hb dX7_know_0 rfl (lv_at hl 0 rfl) ?_
    refine g_X7_X7_known hx hb hown hK hW h2000 dX7_know_1 ?_
    refine lv_iload_n hx hb dX7_know_4 rfl (lv_at hl 1 rfl) ?_
    refine w_iald hx hb hK hW h2016 (j := pp) (rfl) (by omega) (by omega) dX7_know_5 ?_
    refine asi (y := nI kn) (ekn) ?_
    refine lv_bipush (v := nI 60) hx hb dX7_know_6 (by decide) ?_
    refine lv_icmp_ne (tgt := 168) hx hb dX7_know_8 (by decide) (fun c8 => ?_) (fun c8 => ?_)
    · skip
      have c8 := nI_ne' c8 (by omega) (by omega)
      exact KJ _ _ ls ⟨⟨_, ⟨⟨kno, bat, by rw [show shI oob pp kn = oob from if_neg c8]; exact h2017, by rw [show shI ome pp kn = ome from if_neg c8]; exact h2018, by rw [show shI onu pp kn = onu from if_neg c8]; exact h2019, by rw [show shJ oke pp kn = oke from if_neg c8]; exact h2020, ⟨h2016, by rw [show kn1 kn = kn from if_neg c8]; exact ekn, fun _ _ => rfl⟩, h2015, by rw [if_neg (fun q => c8 q.1)]; exact ebq, fun _ _ => rfl⟩, fun _ _ => rfl⟩, hW⟩, hS⟩ (lv_sub hl [0, 1, 2, 3, 4] rfl)
    · skip
      have c8 := nI_eq' c8 (by omega) (by omega)
      refine lv_bipush (v := nI 60) hx hb dX7_know_11 (by decide) ?_
      refine lv_iload_n hx hb dX7_know_13 rfl (lv_at hl 1 rfl) ?_
      refine lv_imul hx hb dX7_know_14 ?_
      refine asi (y := nI (60 * pp)) (pk_mul _ _) ?_
      refine lv_istore (lv' := [(5, .int (nI (60 * pp))), (0, .ref (ad (2000))), (1, .int (nI pp)), (2, .int (o)), (3, .int (mi)), (4, .int (v))]) hx hb dX7_know_15 hl (by decide) rfl (fun ls hl => ?_)
      refine wlh (ι := Nat) (fun q => 59 - q) (fun q H locs g => (q ≤ 59) ∧ (∃ X, (X 2017 = some (.inl (cy 0, 240, .inl (shA oob 1 (60 * pp) (60 * pp + q)))) ∧ X 2018 = some (.inl (cy 0, 240, .inl (shA ome 1 (60 * pp) (60 * pp + q)))) ∧ X 2019 = some (.inl (cy 0, 240, .inl (shA onu 1 (60 * pp) (60 * pp + q)))) ∧ X 2020 = some (.inl (cy 1, 2880, .inr (.inl (shA oke 12 (12 * (60 * pp)) (12 * (60 * pp + q)))))) ∧ ∀ L, (¬ L = 2017 ∧ ¬ L = 2018 ∧ ¬ L = 2019 ∧ ¬ L = 2020) → X L = V L) ∧ HW D z0 ad X H) ∧ va_S (AA z0) s.heap H locs ∧ ∃ ls, g = F0 m 17 ls [] ∧ lv_has ls 7 [(0, .ref (ad (2000))), (1, .int (nI pp)), (2, .int (o)), (3, .int (mi)), (4, .int (v)), (5, .int (nI (60 * pp + q)))]) ?_ (0) _ _ _ ⟨Nat.zero_le _, ⟨_, ⟨by rw [Nat.add_zero, shA_0]; exact h2017, by rw [Nat.add_zero, shA_0]; exact h2018, by rw [Nat.add_zero, shA_0]; exact h2019, by rw [Nat.add_zero, shA_0]; exact h2020, fun _ _ => rfl⟩, hW⟩, hS, ls, rfl, lv_sub hl [1, 2, 3, 4, 5, 0] rfl⟩
      intro q H locs g hg ih
      obtain ⟨hq, ⟨Vl, ⟨h2017, h2018, h2019, h2020, hfr⟩, hW⟩, hS, ls, rfl, hl⟩ := hg
      have h2000 := (hfr 2000 (by omega)).trans o2000
      have h2009 := (hfr 2009 (by omega)).trans o2009
      have h2014 := (hfr 2014 (by omega)).trans o2014
      have h2015 := (hfr 2015 (by omega)).trans o2015
      have h2016 := (hfr 2016 (by omega)).trans o2016
      have ihO := ih
      refine lv_iload hx hb dX7_know_17 (lv_at hl 5 rfl) ?_
      refine lv_iconst (v := nI 1) hx hb dX7_know_19 (by decide) ?_
      refine lv_iadd hx hb dX7_know_20 ?_
      refine asi (y := nI ((60 * pp + q) + 1)) (nI_add _ _) ?_
      refine lv_bipush (v := nI 60) hx hb dX7_know_21 (by decide) ?_
      refine lv_iload_n hx hb dX7_know_23 rfl (lv_at hl 1 rfl) ?_
      refine lv_imul hx hb dX7_know_24 ?_
      refine asi (y := nI (60 * pp)) (pk_mul _ _) ?_
      refine lv_bipush (v := nI 60) hx hb dX7_know_25 (by decide) ?_
      refine lv_iadd hx hb dX7_know_27 ?_
      refine asi (y := nI ((60 * pp) + 60)) (nI_add _ _) ?_
      refine lv_icmp_ge (tgt := 130) hx hb dX7_know_28 (by decide) (fun c28 => ?_) (fun c28 => ?_)
      · skip
        have c28 := nI_le' c28 (by omega) (by omega)
        have e9 : q = 59 := by omega
        rw [e9] at h2017 h2018 h2019 h2020
        refine lv_aload_n hx hb dX7_know_130 rfl (lv_at hl 0 rfl) ?_
        refine g_X7_X7_known hx hb hown hK hW h2000 dX7_know_131 ?_
        refine lv_iload_n hx hb dX7_know_134 rfl (lv_at hl 1 rfl) ?_
        refine lv_dup2_11 hx hb dX7_know_135 rfl rfl ?_
        refine w_iald hx hb hK hW h2016 (j := pp) (rfl) (by omega) (by omega) dX7_know_136 ?_
        refine asi (y := nI 60) (by rw [ekn, c8]) ?_
        refine lv_iconst (v := nI 1) hx hb dX7_know_137 (by decide) ?_
        refine lv_isub hx hb dX7_know_138 ?_
        refine asi (y := nI 59) (by decide) ?_
        refine w_iast hx hb hK hW hS h2016 (j := pp) (rfl) (by omega) (by omega) dX7_know_139 (fun H locs hW hS => ?_)
        obtain ⟨V1, eV1⟩ : ∃ x9, x9 = va_up Vl (2016) (some (.inl (cy 0, 4, .inl (upd kno pp (nI 59))))) := ⟨_, rfl⟩
        rw [← eV1] at hW
        have h2000 : V1 (2000) = some (.inr (7, [.int (nI n), .int (nI k), .ref (ad (2002)), .ref (ad (2003)), .ref (ad (2004)), .ref (ad (2005)), .ref (ad (2006)), .int (nI P), .ref (ad (2008)), .ref (ad (2009)), .ref (ad (2010)), .ref (ad (2011)), .ref (ad (2012)), .ref (ad (2013)), .ref (ad (2014)), .ref (ad (2015)), .ref (ad (2016)), .ref (ad (2017)), .ref (ad (2018)), .ref (ad (2019)), .ref (ad (2020)), .int (ev), .int (nI K), .ref (ad (2023)), .ref (ad (2024)), .ref (ad (2025)), .ref (ad (2026)), .ref (ad (2027))])) := by rw [eV1, va_up_ne _ _ (by omega)]; exact h2000
        have h2009 : V1 (2009) = some (.inl (cy 1, 48, .inr (.inl kpt))) := by rw [eV1, va_up_ne _ _ (by omega)]; exact h2009
        have h2014 : V1 (2014) = some (.inl (cy 2, 4, .inl (fun r => b2i (isb r)))) := by rw [eV1, va_up_ne _ _ (by omega)]; exact h2014
        have h2015 : V1 (2015) = some (.inl (cy 0, 4, .inl bat)) := by rw [eV1, va_up_ne _ _ (by omega)]; exact h2015
        have h2017 : V1 (2017) = some (.inl (cy 0, 240, .inl (shA oob 1 (60 * pp) (60 * pp + 59)))) := by rw [eV1, va_up_ne _ _ (by omega)]; exact h2017
        have h2018 : V1 (2018) = some (.inl (cy 0, 240, .inl (shA ome 1 (60 * pp) (60 * pp + 59)))) := by rw [eV1, va_up_ne _ _ (by omega)]; exact h2018
        have h2019 : V1 (2019) = some (.inl (cy 0, 240, .inl (shA onu 1 (60 * pp) (60 * pp + 59)))) := by rw [eV1, va_up_ne _ _ (by omega)]; exact h2019
        have h2020 : V1 (2020) = some (.inl (cy 1, 2880, .inr (.inl (shA oke 12 (12 * (60 * pp)) (12 * (60 * pp + 59)))))) := by rw [eV1, va_up_ne _ _ (by omega)]; exact h2020
        have h2016 : V1 (2016) = some (.inl (cy 0, 4, .inl (upd kno pp (nI 59)))) := by rw [eV1, va_up_self]
        refine lv_aload_n hx hb dX7_know_140 rfl (lv_at hl 0 rfl) ?_
        refine g_X7_X7_batch hx hb hown hK hW h2000 dX7_know_141 ?_
        refine lv_iload_n hx hb dX7_know_144 rfl (lv_at hl 1 rfl) ?_
        refine jl (pcj := 167) (st := [.int (nI (if kn = 60 ∧ bq = 60 then 59 else bq)), .int (nI pp), .ref (ad (2015))]) (nL := 7) (lv := [(0, .ref (ad (2000))), (1, .int (nI pp)), (2, .int (o)), (3, .int (mi)), (4, .int (v)), (5, .int (nI (60 * pp + q)))]) (fun KJ => ?_) (fun ls hl => ?_)
        · skip
          refine lv_aload_n hx hb dX7_know_145 rfl (lv_at hl 0 rfl) ?_
          refine g_X7_X7_batch hx hb hown hK hW h2000 dX7_know_146 ?_
          refine lv_iload_n hx hb dX7_know_149 rfl (lv_at hl 1 rfl) ?_
          refine w_iald hx hb hK hW h2015 (j := pp) (rfl) (by omega) (by omega) dX7_know_150 ?_
          refine asi (y := nI bq) (ebq) ?_
          refine lv_bipush (v := nI 60) hx hb dX7_know_151 (by decide) ?_
          refine lv_icmp_ne (tgt := 161) hx hb dX7_know_153 (by decide) (fun c153 => ?_) (fun c153 => ?_)
          · skip
            have c153 := nI_ne' c153 (by omega) (by omega)
            refine lv_aload_n hx hb dX7_know_161 rfl (lv_at hl 0 rfl) ?_
            refine g_X7_X7_batch hx hb hown hK hW h2000 dX7_know_162 ?_
            refine lv_iload_n hx hb dX7_know_165 rfl (lv_at hl 1 rfl) ?_
            refine w_iald hx hb hK hW h2015 (j := pp) (rfl) (by omega) (by omega) dX7_know_166 ?_
            refine asi (y := nI bq) (ebq) ?_
            refine asi (y := nI (if kn = 60 ∧ bq = 60 then 59 else bq)) (by first | (rw [if_pos ⟨c8, c153⟩]; done) | (rw [if_neg (fun q => c153 q.2)]; done)) ?_
            exact KJ ls (lv_sub hl [0, 1, 2, 3, 4, 5] rfl)
          · skip
            have c153 := nI_eq' c153 (by omega) (by omega)
            refine lv_bipush (v := nI 59) hx hb dX7_know_156 (by decide) ?_
            refine lv_goto (tgt := 167) hx hb dX7_know_158 (by decide) ?_
            refine asi (y := nI (if kn = 60 ∧ bq = 60 then 59 else bq)) (by first | (rw [if_pos ⟨c8, c153⟩]; done) | (rw [if_neg (fun q => c153 q.2)]; done)) ?_
            exact KJ ls (lv_sub hl [0, 1, 2, 3, 4, 5] rfl)
        · skip
          refine w_iast hx hb hK hW hS h2015 (j := pp) (rfl) (by omega) (by omega) dX7_know_167 (fun H locs hW hS => ?_)
          obtain ⟨V2, eV2⟩ : ∃ x9, x9 = va_up V1 (2015) (some (.inl (cy 0, 4, .inl (upd bat pp (nI (if kn = 60 ∧ bq = 60 then 59 else bq)))))) := ⟨_, rfl⟩
          rw [← eV2] at hW
          have h2000 : V2 (2000) = some (.inr (7, [.int (nI n), .int (nI k), .ref (ad (2002)), .ref (ad (2003)), .ref (ad (2004)), .ref (ad (2005)), .ref (ad (2006)), .int (nI P), .ref (ad (2008)), .ref (ad (2009)), .ref (ad (2010)), .ref (ad (2011)), .ref (ad (2012)), .ref (ad (2013)), .ref (ad (2014)), .ref (ad (2015)), .ref (ad (2016)), .ref (ad (2017)), .ref (ad (2018)), .ref (ad (2019)), .ref (ad (2020)), .int (ev), .int (nI K), .ref (ad (2023)), .ref (ad (2024)), .ref (ad (2025)), .ref (ad (2026)), .ref (ad (2027))])) := by rw [eV2, va_up_ne _ _ (by omega)]; exact h2000
          have h2009 : V2 (2009) = some (.inl (cy 1, 48, .inr (.inl kpt))) := by rw [eV2, va_up_ne _ _ (by omega)]; exact h2009
          have h2014 : V2 (2014) = some (.inl (cy 2, 4, .inl (fun r => b2i (isb r)))) := by rw [eV2, va_up_ne _ _ (by omega)]; exact h2014
          have h2017 : V2 (2017) = some (.inl (cy 0, 240, .inl (shA oob 1 (60 * pp) (60 * pp + 59)))) := by rw [eV2, va_up_ne _ _ (by omega)]; exact h2017
          have h2018 : V2 (2018) = some (.inl (cy 0, 240, .inl (shA ome 1 (60 * pp) (60 * pp + 59)))) := by rw [eV2, va_up_ne _ _ (by omega)]; exact h2018
          have h2019 : V2 (2019) = some (.inl (cy 0, 240, .inl (shA onu 1 (60 * pp) (60 * pp + 59)))) := by rw [eV2, va_up_ne _ _ (by omega)]; exact h2019
          have h2020 : V2 (2020) = some (.inl (cy 1, 2880, .inr (.inl (shA oke 12 (12 * (60 * pp)) (12 * (60 * pp + 59)))))) := by rw [eV2, va_up_ne _ _ (by omega)]; exact h2020
          have h2016 : V2 (2016) = some (.inl (cy 0, 4, .inl (upd kno pp (nI 59)))) := by rw [eV2, va_up_ne _ _ (by omega)]; exact h2016
          have h2015 : V2 (2015) = some (.inl (cy 0, 4, .inl (upd bat pp (nI (if kn = 60 ∧ bq = 60 then 59 else bq))))) := by rw [eV2, va_up_self]
          exact KJ _ _ ls ⟨⟨_, ⟨⟨_, _, by rw [show shI oob pp kn = _ from if_pos c8]; exact h2017, by rw [show shI ome pp kn = _ from if_pos c8]; exact h2018, by rw [show shI onu pp kn = _ from if_pos c8]; exact h2019, by rw [show shJ oke pp kn = _ from if_pos c8]; exact h2020, ⟨h2016, by rw [pk_us, show kn1 kn = 59 from if_pos c8], fun j hj => by rw [pk_un hj]⟩, h2015, by rw [pk_us], fun j hj => by rw [pk_un hj]⟩, fun L hL => by rw [eV2, va_up_ne _ _ (by omega), eV1, va_up_ne _ _ (by omega)]; exact hfr L (by omega)⟩, hW⟩, hS⟩ (lv_sub hl [0, 1, 2, 3, 4] rfl)
      · skip
        have c28 := nI_nle' c28 (by omega) (by omega)
        refine lv_aload_n hx hb dX7_know_31 rfl (lv_at hl 0 rfl) ?_
        refine g_X7_X7_oldObject hx hb hown hK hW h2000 dX7_know_32 ?_
        refine lv_iload hx hb dX7_know_35 (lv_at hl 5 rfl) ?_
        refine lv_aload_n hx hb dX7_know_37 rfl (lv_at hl 0 rfl) ?_
        refine g_X7_X7_oldObject hx hb hown hK hW h2000 dX7_know_38 ?_
        refine lv_iload hx hb dX7_know_41 (lv_at hl 5 rfl) ?_
        refine lv_iconst (v := nI 1) hx hb dX7_know_43 (by decide) ?_
        refine lv_iadd hx hb dX7_know_44 ?_
        refine asi (y := nI ((60 * pp + q) + 1)) (nI_add _ _) ?_
        refine w_iald hx hb hK hW h2017 (j := (60 * pp + q) + 1) (rfl) (by omega) (by omega) dX7_know_45 ?_
        refine asi (y := oob (60 * pp + q + 1)) (shA_out (by omega)) ?_
        refine w_iast hx hb hK hW hS h2017 (j := 60 * pp + q) (rfl) (by omega) (by omega) dX7_know_46 (fun H locs hW hS => ?_)
        obtain ⟨V3, eV3⟩ : ∃ x9, x9 = va_up Vl (2017) (some (.inl (cy 0, 240, .inl (upd (shA oob 1 (60 * pp) (60 * pp + q)) (60 * pp + q) (oob (60 * pp + q + 1)))))) := ⟨_, rfl⟩
        rw [← eV3] at hW
        have h2000 : V3 (2000) = some (.inr (7, [.int (nI n), .int (nI k), .ref (ad (2002)), .ref (ad (2003)), .ref (ad (2004)), .ref (ad (2005)), .ref (ad (2006)), .int (nI P), .ref (ad (2008)), .ref (ad (2009)), .ref (ad (2010)), .ref (ad (2011)), .ref (ad (2012)), .ref (ad (2013)), .ref (ad (2014)), .ref (ad (2015)), .ref (ad (2016)), .ref (ad (2017)), .ref (ad (2018)), .ref (ad (2019)), .ref (ad (2020)), .int (ev), .int (nI K), .ref (ad (2023)), .ref (ad (2024)), .ref (ad (2025)), .ref (ad (2026)), .ref (ad (2027))])) := by rw [eV3, va_up_ne _ _ (by omega)]; exact h2000
        have h2009 : V3 (2009) = some (.inl (cy 1, 48, .inr (.inl kpt))) := by rw [eV3, va_up_ne _ _ (by omega)]; exact h2009
        have h2014 : V3 (2014) = some (.inl (cy 2, 4, .inl (fun r => b2i (isb r)))) := by rw [eV3, va_up_ne _ _ (by omega)]; exact h2014
        have h2015 : V3 (2015) = some (.inl (cy 0, 4, .inl bat)) := by rw [eV3, va_up_ne _ _ (by omega)]; exact h2015
        have h2016 : V3 (2016) = some (.inl (cy 0, 4, .inl kno)) := by rw [eV3, va_up_ne _ _ (by omega)]; exact h2016
        have h2018 : V3 (2018) = some (.inl (cy 0, 240, .inl (shA ome 1 (60 * pp) (60 * pp + q)))) := by rw [eV3, va_up_ne _ _ (by omega)]; exact h2018
        have h2019 : V3 (2019) = some (.inl (cy 0, 240, .inl (shA onu 1 (60 * pp) (60 * pp + q)))) := by rw [eV3, va_up_ne _ _ (by omega)]; exact h2019
        have h2020 : V3 (2020) = some (.inl (cy 1, 2880, .inr (.inl (shA oke 12 (12 * (60 * pp)) (12 * (60 * pp + q)))))) := by rw [eV3, va_up_ne _ _ (by omega)]; exact h2020
        have h2017 : V3 (2017) = some (.inl (cy 0, 240, .inl (upd (shA oob 1 (60 * pp) (60 * pp + q)) (60 * pp + q) (oob (60 * pp + q + 1))))) := by rw [eV3, va_up_self]
        refine lv_aload_n hx hb dX7_know_47 rfl (lv_at hl 0 rfl) ?_
        refine g_X7_X7_oldMember hx hb hown hK hW h2000 dX7_know_48 ?_
        refine lv_iload hx hb dX7_know_51 (lv_at hl 5 rfl) ?_
        refine lv_aload_n hx hb dX7_know_53 rfl (lv_at hl 0 rfl) ?_
        refine g_X7_X7_oldMember hx hb hown hK hW h2000 dX7_know_54 ?_
        refine lv_iload hx hb dX7_know_57 (lv_at hl 5 rfl) ?_
        refine lv_iconst (v := nI 1) hx hb dX7_know_59 (by decide) ?_
        refine lv_iadd hx hb dX7_know_60 ?_
        refine asi (y := nI ((60 * pp + q) + 1)) (nI_add _ _) ?_
        refine w_iald hx hb hK hW h2018 (j := (60 * pp + q) + 1) (rfl) (by omega) (by omega) dX7_know_61 ?_
        refine asi (y := ome (60 * pp + q + 1)) (shA_out (by omega)) ?_
        refine w_iast hx hb hK hW hS h2018 (j := 60 * pp + q) (rfl) (by omega) (by omega) dX7_know_62 (fun H locs hW hS => ?_)
        obtain ⟨V4, eV4⟩ : ∃ x9, x9 = va_up V3 (2018) (some (.inl (cy 0, 240, .inl (upd (shA ome 1 (60 * pp) (60 * pp + q)) (60 * pp + q) (ome (60 * pp + q + 1)))))) := ⟨_, rfl⟩
        rw [← eV4] at hW
        have h2000 : V4 (2000) = some (.inr (7, [.int (nI n), .int (nI k), .ref (ad (2002)), .ref (ad (2003)), .ref (ad (2004)), .ref (ad (2005)), .ref (ad (2006)), .int (nI P), .ref (ad (2008)), .ref (ad (2009)), .ref (ad (2010)), .ref (ad (2011)), .ref (ad (2012)), .ref (ad (2013)), .ref (ad (2014)), .ref (ad (2015)), .ref (ad (2016)), .ref (ad (2017)), .ref (ad (2018)), .ref (ad (2019)), .ref (ad (2020)), .int (ev), .int (nI K), .ref (ad (2023)), .ref (ad (2024)), .ref (ad (2025)), .ref (ad (2026)), .ref (ad (2027))])) := by rw [eV4, va_up_ne _ _ (by omega)]; exact h2000
        have h2009 : V4 (2009) = some (.inl (cy 1, 48, .inr (.inl kpt))) := by rw [eV4, va_up_ne _ _ (by omega)]; exact h2009
        have h2014 : V4 (2014) = some (.inl (cy 2, 4, .inl (fun r => b2i (isb r)))) := by rw [eV4, va_up_ne _ _ (by omega)]; exact h2014
        have h2015 : V4 (2015) = some (.inl (cy 0, 4, .inl bat)) := by rw [eV4, va_up_ne _ _ (by omega)]; exact h2015
        have h2016 : V4 (2016) = some (.inl (cy 0, 4, .inl kno)) := by rw [eV4, va_up_ne _ _ (by omega)]; exact h2016
        have h2019 : V4 (2019) = some (.inl (cy 0, 240, .inl (shA onu 1 (60 * pp) (60 * pp + q)))) := by rw [eV4, va_up_ne _ _ (by omega)]; exact h2019
        have h2020 : V4 (2020) = some (.inl (cy 1, 2880, .inr (.inl (shA oke 12 (12 * (60 * pp)) (12 * (60 * pp + q)))))) := by rw [eV4, va_up_ne _ _ (by omega)]; exact h2020
        have h2017 : V4 (2017) = some (.inl (cy 0, 240, .inl (upd (shA oob 1 (60 * pp) (60 * pp + q)) (60 * pp + q) (oob (60 * pp + q + 1))))) := by rw [eV4, va_up_ne _ _ (by omega)]; exact h2017
        have h2018 : V4 (2018) = some (.inl (cy 0, 240, .inl (upd (shA ome 1 (60 * pp) (60 * pp + q)) (60 * pp + q) (ome (60 * pp + q + 1))))) := by rw [eV4, va_up_self]
        refine lv_aload_n hx hb dX7_know_63 rfl (lv_at hl 0 rfl) ?_
        refine g_X7_X7_oldNumber hx hb hown hK hW h2000 dX7_know_64 ?_
        refine lv_iload hx hb dX7_know_67 (lv_at hl 5 rfl) ?_
        refine lv_aload_n hx hb dX7_know_69 rfl (lv_at hl 0 rfl) ?_
        refine g_X7_X7_oldNumber hx hb hown hK hW h2000 dX7_know_70 ?_
        refine lv_iload hx hb dX7_know_73 (lv_at hl 5 rfl) ?_
        refine lv_iconst (v := nI 1) hx hb dX7_know_75 (by decide) ?_
        refine lv_iadd hx hb dX7_know_76 ?_
        refine asi (y := nI ((60 * pp + q) + 1)) (nI_add _ _) ?_
        refine w_iald hx hb hK hW h2019 (j := (60 * pp + q) + 1) (rfl) (by omega) (by omega) dX7_know_77 ?_
        refine asi (y := onu (60 * pp + q + 1)) (shA_out (by omega)) ?_
        refine w_iast hx hb hK hW hS h2019 (j := 60 * pp + q) (rfl) (by omega) (by omega) dX7_know_78 (fun H locs hW hS => ?_)
        obtain ⟨V5, eV5⟩ : ∃ x9, x9 = va_up V4 (2019) (some (.inl (cy 0, 240, .inl (upd (shA onu 1 (60 * pp) (60 * pp + q)) (60 * pp + q) (onu (60 * pp + q + 1)))))) := ⟨_, rfl⟩
        rw [← eV5] at hW
        have h2000 : V5 (2000) = some (.inr (7, [.int (nI n), .int (nI k), .ref (ad (2002)), .ref (ad (2003)), .ref (ad (2004)), .ref (ad (2005)), .ref (ad (2006)), .int (nI P), .ref (ad (2008)), .ref (ad (2009)), .ref (ad (2010)), .ref (ad (2011)), .ref (ad (2012)), .ref (ad (2013)), .ref (ad (2014)), .ref (ad (2015)), .ref (ad (2016)), .ref (ad (2017)), .ref (ad (2018)), .ref (ad (2019)), .ref (ad (2020)), .int (ev), .int (nI K), .ref (ad (2023)), .ref (ad (2024)), .ref (ad (2025)), .ref (ad (2026)), .ref (ad (2027))])) := by rw [eV5, va_up_ne _ _ (by omega)]; exact h2000
        have h2009 : V5 (2009) = some (.inl (cy 1, 48, .inr (.inl kpt))) := by rw [eV5, va_up_ne _ _ (by omega)]; exact h2009
        have h2014 : V5 (2014) = some (.inl (cy 2, 4, .inl (fun r => b2i (isb r)))) := by rw [eV5, va_up_ne _ _ (by omega)]; exact h2014
        have h2015 : V5 (2015) = some (.inl (cy 0, 4, .inl bat)) := by rw [eV5, va_up_ne _ _ (by omega)]; exact h2015
        have h2016 : V5 (2016) = some (.inl (cy 0, 4, .inl kno)) := by rw [eV5, va_up_ne _ _ (by omega)]; exact h2016
        have h2020 : V5 (2020) = some (.inl (cy 1, 2880, .inr (.inl (shA oke 12 (12 * (60 * pp)) (12 * (60 * pp + q)))))) := by rw [eV5, va_up_ne _ _ (by omega)]; exact h2020
        have h2017 : V5 (2017) = some (.inl (cy 0, 240, .inl (upd (shA oob 1 (60 * pp) (60 * pp + q)) (60 * pp + q) (oob (60 * pp + q + 1))))) := by rw [eV5, va_up_ne _ _ (by omega)]; exact h2017
        have h2018 : V5 (2018) = some (.inl (cy 0, 240, .inl (upd (shA ome 1 (60 * pp) (60 * pp + q)) (60 * pp + q) (ome (60 * pp + q + 1))))) := by rw [eV5, va_up_ne _ _ (by omega)]; exact h2018
        have h2019 : V5 (2019) = some (.inl (cy 0, 240, .inl (upd (shA onu 1 (60 * pp) (60 * pp + q)) (60 * pp + q) (onu (60 * pp + q + 1))))) := by rw [eV5, va_up_self]
        refine lv_iconst (v := nI 0) hx hb dX7_know_79 (by decide) ?_
        refine lv_istore (lv' := [(6, .int (nI 0)), (0, .ref (ad (2000))), (1, .int (nI pp)), (2, .int (o)), (3, .int (mi)), (4, .int (v)), (5, .int (nI (60 * pp + q)))]) hx hb dX7_know_80 hl (by decide) rfl (fun ls hl => ?_)
        refine wlh (ι := Nat) (fun r => 12 - r) (fun r H locs g => (r ≤ 12) ∧ (∃ X, (X 2017 = some (.inl (cy 0, 240, .inl (shA oob 1 (60 * pp) (60 * pp + (q + 1))))) ∧ X 2018 = some (.inl (cy 0, 240, .inl (shA ome 1 (60 * pp) (60 * pp + (q + 1))))) ∧ X 2019 = some (.inl (cy 0, 240, .inl (shA onu 1 (60 * pp) (60 * pp + (q + 1))))) ∧ X 2020 = some (.inl (cy 1, 2880, .inr (.inl (shA oke 12 (12 * (60 * pp)) (12 * (60 * pp + q) + r))))) ∧ ∀ L, (¬ L = 2017 ∧ ¬ L = 2018 ∧ ¬ L = 2019 ∧ ¬ L = 2020) → X L = V L) ∧ HW D z0 ad X H) ∧ va_S (AA z0) s.heap H locs ∧ ∃ ls, g = F0 m 82 ls [] ∧ lv_has ls 7 [(0, .ref (ad (2000))), (1, .int (nI pp)), (2, .int (o)), (3, .int (mi)), (4, .int (v)), (5, .int (nI (60 * pp + q))), (6, .int (nI r))]) ?_ (0) _ _ _ ⟨Nat.zero_le _, ⟨_, ⟨by rw [← Nat.add_assoc, ← shA_i (by omega)]; exact h2017, by rw [← Nat.add_assoc, ← shA_i (by omega)]; exact h2018, by rw [← Nat.add_assoc, ← shA_i (by omega)]; exact h2019, h2020, fun L hL => by rw [eV5, va_up_ne _ _ (by omega), eV4, va_up_ne _ _ (by omega), eV3, va_up_ne _ _ (by omega)]; exact hfr L hL⟩, hW⟩, hS, ls, rfl, lv_sub hl [1, 2, 3, 4, 5, 6, 0] rfl⟩
        intro r H locs g hg ih
        obtain ⟨hr9, ⟨Vk, ⟨h2017, h2018, h2019, h2020, hfk⟩, hW⟩, hS, ls, rfl, hl⟩ := hg
        have h2000 := (hfk 2000 (by omega)).trans o2000
        have h2009 := (hfk 2009 (by omega)).trans o2009
        have h2014 := (hfk 2014 (by omega)).trans o2014
        have h2015 := (hfk 2015 (by omega)).trans o2015
        have h2016 := (hfk 2016 (by omega)).trans o2016
        refine lv_iload hx hb dX7_know_82 (lv_at hl 6 rfl) ?_
        refine lv_bipush (v := nI 12) hx hb dX7_know_84 (by decide) ?_
        refine lv_icmp_ge (tgt := 124) hx hb dX7_know_86 (by decide) (fun c86 => ?_) (fun c86 => ?_)
        · skip
          have c86 := nI_le' c86 (by omega) (by omega)
          refine lv_iinc (v := nI (60 * pp + q + 1)) (lv' := [(5, .int (nI (60 * pp + q + 1))), (0, .ref (ad (2000))), (1, .int (nI pp)), (2, .int (o)), (3, .int (mi)), (4, .int (v)), (6, .int (nI r))]) hx hb dX7_know_124 hl (k := 5) rfl (by rw [show Int32.ofInt 1 = nI 1 from by decide]; exact nI_add _ _) (by decide) rfl (fun ls hl => ?_)
          refine lv_goto (tgt := 17) hx hb dX7_know_127 (by decide) ?_
          exact ihO (q + 1) _ _ _ ⟨by omega, ⟨_, ⟨h2017, h2018, h2019, by rw [show 12 * (60 * pp + (q + 1)) = 12 * (60 * pp + q) + r by omega]; exact h2020, hfk⟩, hW⟩, hS, ls, rfl, lv_sub hl [1, 2, 3, 4, 5, 0] rfl⟩ (by omega)
        · skip
          have c86 := nI_nle' c86 (by omega) (by omega)
          refine lv_aload_n hx hb dX7_know_89 rfl (lv_at hl 0 rfl) ?_
          refine g_X7_X7_oldKept hx hb hown hK hW h2000 dX7_know_90 ?_
          refine lv_bipush (v := nI 12) hx hb dX7_know_93 (by decide) ?_
          refine lv_iload hx hb dX7_know_95 (lv_at hl 5 rfl) ?_
          refine lv_imul hx hb dX7_know_97 ?_
          refine asi (y := nI (12 * (60 * pp + q))) (pk_mul _ _) ?_
          refine lv_iload hx hb dX7_know_98 (lv_at hl 6 rfl) ?_
          refine lv_iadd hx hb dX7_know_100 ?_
          refine asi (y := nI ((12 * (60 * pp + q)) + r)) (nI_add _ _) ?_
          refine lv_aload_n hx hb dX7_know_101 rfl (lv_at hl 0 rfl) ?_
          refine g_X7_X7_oldKept hx hb hown hK hW h2000 dX7_know_102 ?_
          refine lv_bipush (v := nI 12) hx hb dX7_know_105 (by decide) ?_
          refine lv_iload hx hb dX7_know_107 (lv_at hl 5 rfl) ?_
          refine lv_imul hx hb dX7_know_109 ?_
          refine asi (y := nI (12 * (60 * pp + q))) (pk_mul _ _) ?_
          refine lv_bipush (v := nI 12) hx hb dX7_know_110 (by decide) ?_
          refine lv_iadd hx hb dX7_know_112 ?_
          refine asi (y := nI ((12 * (60 * pp + q)) + 12)) (nI_add _ _) ?_
          refine lv_iload hx hb dX7_know_113 (lv_at hl 6 rfl) ?_
          refine lv_iadd hx hb dX7_know_115 ?_
          refine asi (y := nI (((12 * (60 * pp + q)) + 12) + r)) (nI_add _ _) ?_
          refine w_lald hx hb hK hW h2020 (j := ((12 * (60 * pp + q)) + 12) + r) (rfl) (by omega) (by omega) dX7_know_116 ?_
          refine asl (y := oke (12 * (60 * pp + q) + r + 12)) (by rw [shA_out (by omega)]; congr 1; omega) ?_
          refine w_last hx hb hK hW hS h2020 (j := (12 * (60 * pp + q)) + r) (rfl) (by omega) (by omega) dX7_know_117 (fun H locs hW hS => ?_)
          obtain ⟨V6, eV6⟩ : ∃ x9, x9 = va_up Vk (2020) (some (.inl (cy 1, 2880, .inr (.inl (vp_updL (shA oke 12 (12 * (60 * pp)) (12 * (60 * pp + q) + r)) ((12 * (60 * pp + q)) + r) (oke (12 * (60 * pp + q) + r + 12))))))) := ⟨_, rfl⟩
          rw [← eV6] at hW
          have h2000 : V6 (2000) = some (.inr (7, [.int (nI n), .int (nI k), .ref (ad (2002)), .ref (ad (2003)), .ref (ad (2004)), .ref (ad (2005)), .ref (ad (2006)), .int (nI P), .ref (ad (2008)), .ref (ad (2009)), .ref (ad (2010)), .ref (ad (2011)), .ref (ad (2012)), .ref (ad (2013)), .ref (ad (2014)), .ref (ad (2015)), .ref (ad (2016)), .ref (ad (2017)), .ref (ad (2018)), .ref (ad (2019)), .ref (ad (2020)), .int (ev), .int (nI K), .ref (ad (2023)), .ref (ad (2024)), .ref (ad (2025)), .ref (ad (2026)), .ref (ad (2027))])) := by rw [eV6, va_up_ne _ _ (by omega)]; exact h2000
          have h2009 : V6 (2009) = some (.inl (cy 1, 48, .inr (.inl kpt))) := by rw [eV6, va_up_ne _ _ (by omega)]; exact h2009
          have h2014 : V6 (2014) = some (.inl (cy 2, 4, .inl (fun r => b2i (isb r)))) := by rw [eV6, va_up_ne _ _ (by omega)]; exact h2014
          have h2015 : V6 (2015) = some (.inl (cy 0, 4, .inl bat)) := by rw [eV6, va_up_ne _ _ (by omega)]; exact h2015
          have h2016 : V6 (2016) = some (.inl (cy 0, 4, .inl kno)) := by rw [eV6, va_up_ne _ _ (by omega)]; exact h2016
          have h2017 : V6 (2017) = some (.inl (cy 0, 240, .inl (shA oob 1 (60 * pp) (60 * pp + (q + 1))))) := by rw [eV6, va_up_ne _ _ (by omega)]; exact h2017
          have h2018 : V6 (2018) = some (.inl (cy 0, 240, .inl (shA ome 1 (60 * pp) (60 * pp + (q + 1))))) := by rw [eV6, va_up_ne _ _ (by omega)]; exact h2018
          have h2019 : V6 (2019) = some (.inl (cy 0, 240, .inl (shA onu 1 (60 * pp) (60 * pp + (q + 1))))) := by rw [eV6, va_up_ne _ _ (by omega)]; exact h2019
          have h2020 : V6 (2020) = some (.inl (cy 1, 2880, .inr (.inl (vp_updL (shA oke 12 (12 * (60 * pp)) (12 * (60 * pp + q) + r)) ((12 * (60 * pp + q)) + r) (oke (12 * (60 * pp + q) + r + 12)))))) := by rw [eV6, va_up_self]
          refine lv_iinc (v := nI (r + 1)) (lv' := [(6, .int (nI (r + 1))), (0, .ref (ad (2000))), (1, .int (nI pp)), (2, .int (o)), (3, .int (mi)), (4, .int (v)), (5, .int (nI (60 * pp + q)))]) hx hb dX7_know_118 hl (k := 6) rfl (by rw [show Int32.ofInt 1 = nI 1 from by decide]; exact nI_add _ _) (by decide) rfl (fun ls hl => ?_)
          refine lv_goto (tgt := 82) hx hb dX7_know_121 (by decide) ?_
          exact ih (r + 1) _ _ _ ⟨by omega, ⟨_, ⟨h2017, h2018, h2019, by rw [← Nat.add_assoc, ← shA_l (by omega)]; exact h2020, fun L hL => by rw [eV6, va_up_ne _ _ (by omega)]; exact hfk L hL⟩, hW⟩, hS, ls, rfl, lv_sub hl [1, 2, 3, 4, 5, 6, 0] rfl⟩ (by omega)
  · skip
    obtain ⟨⟨Vj, ⟨⟨kno1, bat1, h2017, h2018, h2019, h2020, ⟨h2016, ek1, hko⟩, h2015, eb1, hbo⟩, hfr⟩, hW⟩, hS⟩ := hI
    have h2000 := (hfr 2000 (by omega)).trans o2000
    have h2009 := (hfr 2009 (by omega)).trans o2009
    have h2014 := (hfr 2014 (by omega)).trans o2014
    obtain ⟨hk1, hk2⟩ := kn1_s hkn
    refine lv_bipush (v := nI 60) hx hb dX7_know_168 (by decide) ?_
    refine lv_iload_n hx hb dX7_know_170 rfl (lv_at hl 1 rfl) ?_
    refine lv_imul hx hb dX7_know_171 ?_
    refine asi (y := nI (60 * pp)) (pk_mul _ _) ?_
    refine lv_aload_n hx hb dX7_know_172 rfl (lv_at hl 0 rfl) ?_
    refine g_X7_X7_known hx hb hown hK hW h2000 dX7_know_173 ?_
    refine lv_iload_n hx hb dX7_know_176 rfl (lv_at hl 1 rfl) ?_
    refine w_iald hx hb hK hW h2016 (j := pp) (rfl) (by omega) (by omega) dX7_know_177 ?_
    refine asi (y := nI (kn1 kn)) (ek1) ?_
    refine lv_iadd hx hb dX7_know_178 ?_
    refine asi (y := nI ((60 * pp) + (kn1 kn))) (nI_add _ _) ?_
    refine lv_istore (lv' := [(5, .int (nI ((60 * pp) + (kn1 kn)))), (0, .ref (ad (2000))), (1, .int (nI pp)), (2, .int (o)), (3, .int (mi)), (4, .int (v))]) hx hb dX7_know_179 hl (by decide) rfl (fun ls hl => ?_)
    refine lv_aload_n hx hb dX7_know_181 rfl (lv_at hl 1 rfl) ?_
    refine g_X7_X7_oldObject hx hb hown hK hW h2000 dX7_know_182 ?_
    refine lv_iload hx hb dX7_know_185 (lv_at hl 0 rfl) ?_
    refine lv_iload_n hx hb dX7_know_187 rfl (lv_at hl 3 rfl) ?_
    refine w_iast hx hb hK hW hS h2017 (j := (60 * pp) + (kn1 kn)) (rfl) (by omega) (by omega) dX7_know_188 (fun H locs hW hS => ?_)
    obtain ⟨V7, eV7⟩ : ∃ x9, x9 = va_up Vj (2017) (some (.inl (cy 0, 240, .inl (upd (shI oob pp kn) ((60 * pp) + (kn1 kn)) o)))) := ⟨_, rfl⟩
    rw [← eV7] at hW
    have h2000 : V7 (2000) = some (.inr (7, [.int (nI n), .int (nI k), .ref (ad (2002)), .ref (ad (2003)), .ref (ad (2004)), .ref (ad (2005)), .ref (ad (2006)), .int (nI P), .ref (ad (2008)), .ref (ad (2009)), .ref (ad (2010)), .ref (ad (2011)), .ref (ad (2012)), .ref (ad (2013)), .ref (ad (2014)), .ref (ad (2015)), .ref (ad (2016)), .ref (ad (2017)), .ref (ad (2018)), .ref (ad (2019)), .ref (ad (2020)), .int (ev), .int (nI K), .ref (ad (2023)), .ref (ad (2024)), .ref (ad (2025)), .ref (ad (2026)), .ref (ad (2027))])) := by rw [eV7, va_up_ne _ _ (by omega)]; exact h2000
    have h2009 : V7 (2009) = some (.inl (cy 1, 48, .inr (.inl kpt))) := by rw [eV7, va_up_ne _ _ (by omega)]; exact h2009
    have h2014 : V7 (2014) = some (.inl (cy 2, 4, .inl (fun r => b2i (isb r)))) := by rw [eV7, va_up_ne _ _ (by omega)]; exact h2014
    have h2018 : V7 (2018) = some (.inl (cy 0, 240, .inl (shI ome pp kn))) := by rw [eV7, va_up_ne _ _ (by omega)]; exact h2018
    have h2019 : V7 (2019) = some (.inl (cy 0, 240, .inl (shI onu pp kn))) := by rw [eV7, va_up_ne _ _ (by omega)]; exact h2019
    have h2020 : V7 (2020) = some (.inl (cy 1, 2880, .inr (.inl (shJ oke pp kn)))) := by rw [eV7, va_up_ne _ _ (by omega)]; exact h2020
    have h2016 : V7 (2016) = some (.inl (cy 0, 4, .inl kno1)) := by rw [eV7, va_up_ne _ _ (by omega)]; exact h2016
    have h2015 : V7 (2015) = some (.inl (cy 0, 4, .inl bat1)) := by rw [eV7, va_up_ne _ _ (by omega)]; exact h2015
    have h2017 : V7 (2017) = some (.inl (cy 0, 240, .inl (upd (shI oob pp kn) ((60 * pp) + (kn1 kn)) o))) := by rw [eV7, va_up_self]
    refine lv_aload_n hx hb dX7_know_189 rfl (lv_at hl 1 rfl) ?_
    refine g_X7_X7_oldMember hx hb hown hK hW h2000 dX7_know_190 ?_
    refine lv_iload hx hb dX7_know_193 (lv_at hl 0 rfl) ?_
    refine lv_iload_n hx hb dX7_know_195 rfl (lv_at hl 4 rfl) ?_
    refine w_iast hx hb hK hW hS h2018 (j := (60 * pp) + (kn1 kn)) (rfl) (by omega) (by omega) dX7_know_196 (fun H locs hW hS => ?_)
    obtain ⟨V8, eV8⟩ : ∃ x9, x9 = va_up V7 (2018) (some (.inl (cy 0, 240, .inl (upd (shI ome pp kn) ((60 * pp) + (kn1 kn)) mi)))) := ⟨_, rfl⟩
    rw [← eV8] at hW
    have h2000 : V8 (2000) = some (.inr (7, [.int (nI n), .int (nI k), .ref (ad (2002)), .ref (ad (2003)), .ref (ad (2004)), .ref (ad (2005)), .ref (ad (2006)), .int (nI P), .ref (ad (2008)), .ref (ad (2009)), .ref (ad (2010)), .ref (ad (2011)), .ref (ad (2012)), .ref (ad (2013)), .ref (ad (2014)), .ref (ad (2015)), .ref (ad (2016)), .ref (ad (2017)), .ref (ad (2018)), .ref (ad (2019)), .ref (ad (2020)), .int (ev), .int (nI K), .ref (ad (2023)), .ref (ad (2024)), .ref (ad (2025)), .ref (ad (2026)), .ref (ad (2027))])) := by rw [eV8, va_up_ne _ _ (by omega)]; exact h2000
    have h2009 : V8 (2009) = some (.inl (cy 1, 48, .inr (.inl kpt))) := by rw [eV8, va_up_ne _ _ (by omega)]; exact h2009
    have h2014 : V8 (2014) = some (.inl (cy 2, 4, .inl (fun r => b2i (isb r)))) := by rw [eV8, va_up_ne _ _ (by omega)]; exact h2014
    have h2019 : V8 (2019) = some (.inl (cy 0, 240, .inl (shI onu pp kn))) := by rw [eV8, va_up_ne _ _ (by omega)]; exact h2019
    have h2020 : V8 (2020) = some (.inl (cy 1, 2880, .inr (.inl (shJ oke pp kn)))) := by rw [eV8, va_up_ne _ _ (by omega)]; exact h2020
    have h2016 : V8 (2016) = some (.inl (cy 0, 4, .inl kno1)) := by rw [eV8, va_up_ne _ _ (by omega)]; exact h2016
    have h2015 : V8 (2015) = some (.inl (cy 0, 4, .inl bat1)) := by rw [eV8, va_up_ne _ _ (by omega)]; exact h2015
    have h2017 : V8 (2017) = some (.inl (cy 0, 240, .inl (upd (shI oob pp kn) ((60 * pp) + (kn1 kn)) o))) := by rw [eV8, va_up_ne _ _ (by omega)]; exact h2017
    have h2018 : V8 (2018) = some (.inl (cy 0, 240, .inl (upd (shI ome pp kn) ((60 * pp) + (kn1 kn)) mi))) := by rw [eV8, va_up_self]
    refine lv_aload_n hx hb dX7_know_197 rfl (lv_at hl 1 rfl) ?_
    refine g_X7_X7_oldNumber hx hb hown hK hW h2000 dX7_know_198 ?_
    refine lv_iload hx hb dX7_know_201 (lv_at hl 0 rfl) ?_
    refine lv_iload hx hb dX7_know_203 (lv_at hl 5 rfl) ?_
    refine w_iast hx hb hK hW hS h2019 (j := (60 * pp) + (kn1 kn)) (rfl) (by omega) (by omega) dX7_know_205 (fun H locs hW hS => ?_)
    obtain ⟨V9, eV9⟩ : ∃ x9, x9 = va_up V8 (2019) (some (.inl (cy 0, 240, .inl (upd (shI onu pp kn) ((60 * pp) + (kn1 kn)) v)))) := ⟨_, rfl⟩
    rw [← eV9] at hW
    have h2000 : V9 (2000) = some (.inr (7, [.int (nI n), .int (nI k), .ref (ad (2002)), .ref (ad (2003)), .ref (ad (2004)), .ref (ad (2005)), .ref (ad (2006)), .int (nI P), .ref (ad (2008)), .ref (ad (2009)), .ref (ad (2010)), .ref (ad (2011)), .ref (ad (2012)), .ref (ad (2013)), .ref (ad (2014)), .ref (ad (2015)), .ref (ad (2016)), .ref (ad (2017)), .ref (ad (2018)), .ref (ad (2019)), .ref (ad (2020)), .int (ev), .int (nI K), .ref (ad (2023)), .ref (ad (2024)), .ref (ad (2025)), .ref (ad (2026)), .ref (ad (2027))])) := by rw [eV9, va_up_ne _ _ (by omega)]; exact h2000
    have h2009 : V9 (2009) = some (.inl (cy 1, 48, .inr (.inl kpt))) := by rw [eV9, va_up_ne _ _ (by omega)]; exact h2009
    have h2014 : V9 (2014) = some (.inl (cy 2, 4, .inl (fun r => b2i (isb r)))) := by rw [eV9, va_up_ne _ _ (by omega)]; exact h2014
    have h2020 : V9 (2020) = some (.inl (cy 1, 2880, .inr (.inl (shJ oke pp kn)))) := by rw [eV9, va_up_ne _ _ (by omega)]; exact h2020
    have h2016 : V9 (2016) = some (.inl (cy 0, 4, .inl kno1)) := by rw [eV9, va_up_ne _ _ (by omega)]; exact h2016
    have h2015 : V9 (2015) = some (.inl (cy 0, 4, .inl bat1)) := by rw [eV9, va_up_ne _ _ (by omega)]; exact h2015
    have h2017 : V9 (2017) = some (.inl (cy 0, 240, .inl (upd (shI oob pp kn) ((60 * pp) + (kn1 kn)) o))) := by rw [eV9, va_up_ne _ _ (by omega)]; exact h2017
    have h2018 : V9 (2018) = some (.inl (cy 0, 240, .inl (upd (shI ome pp kn) ((60 * pp) + (kn1 kn)) mi))) := by rw [eV9, va_up_ne _ _ (by omega)]; exact h2018
    have h2019 : V9 (2019) = some (.inl (cy 0, 240, .inl (upd (shI onu pp kn) ((60 * pp) + (kn1 kn)) v))) := by rw [eV9, va_up_self]
    refine lv_iconst (v := nI 0) hx hb dX7_know_206 (by decide) ?_
    refine lv_istore (lv' := [(6, .int (nI 0)), (5, .int (nI ((60 * pp) + (kn1 kn)))), (0, .ref (ad (2000))), (1, .int (nI pp)), (2, .int (o)), (3, .int (mi)), (4, .int (v))]) hx hb dX7_know_207 hl (by decide) rfl (fun ls hl => ?_)
    refine wlh (ι := Nat) (fun r => 12 - r) (fun r H locs g => (r ≤ 12) ∧ (∃ X, (X 2017 = some (.inl (cy 0, 240, .inl (upd (shI oob pp kn) (60 * pp + kn1 kn) o))) ∧ X 2018 = some (.inl (cy 0, 240, .inl (upd (shI ome pp kn) (60 * pp + kn1 kn) mi))) ∧ X 2019 = some (.inl (cy 0, 240, .inl (upd (shI onu pp kn) (60 * pp + kn1 kn) v))) ∧ X 2020 = some (.inl (cy 1, 2880, .inr (.inl (cpA kpt (shJ oke pp kn) (12 * pp) (12 * (60 * pp + kn1 kn)) r)))) ∧ X 2016 = some (.inl (cy 0, 4, .inl kno1)) ∧ X 2015 = some (.inl (cy 0, 4, .inl bat1)) ∧ ∀ L, (¬ L = 2017 ∧ ¬ L = 2018 ∧ ¬ L = 2019 ∧ ¬ L = 2020 ∧ ¬ L = 2016 ∧ ¬ L = 2015) → X L = V L) ∧ HW D z0 ad X H) ∧ va_S (AA z0) s.heap H locs ∧ ∃ ls, g = F0 m 209 ls [] ∧ lv_has ls 7 [(0, .ref (ad (2000))), (1, .int (nI pp)), (5, .int (nI (60 * pp + kn1 kn))), (6, .int (nI r))]) ?_ (0) _ _ _ ⟨Nat.zero_le _, ⟨_, ⟨h2017, h2018, h2019, by rw [cpA_0]; exact h2020, h2016, h2015, fun L hL => by rw [eV9, va_up_ne _ _ (by omega), eV8, va_up_ne _ _ (by omega), eV7, va_up_ne _ _ (by omega)]; exact hfr L hL⟩, hW⟩, hS, ls, rfl, lv_sub hl [2, 3, 1, 0] rfl⟩
    intro r H locs g hg ih
    obtain ⟨hr9, ⟨Vn, ⟨h2017, h2018, h2019, h2020, h2016, h2015, hfn⟩, hW⟩, hS, ls, rfl, hl⟩ := hg
    have h2000 := (hfn 2000 (by omega)).trans o2000
    have h2009 := (hfn 2009 (by omega)).trans o2009
    have h2014 := (hfn 2014 (by omega)).trans o2014
    refine lv_iload hx hb dX7_know_209 (lv_at hl 3 rfl) ?_
    refine lv_bipush (v := nI 12) hx hb dX7_know_211 (by decide) ?_
    refine lv_icmp_ge (tgt := 247) hx hb dX7_know_213 (by decide) (fun c213 => ?_) (fun c213 => ?_)
    · skip
      have c213 := nI_le' c213 (by omega) (by omega)
      have e9 : r = 12 := by omega
      rw [e9] at h2020
      refine lv_aload_n hx hb dX7_know_247 rfl (lv_at hl 0 rfl) ?_
      refine g_X7_X7_known hx hb hown hK hW h2000 dX7_know_248 ?_
      refine lv_iload_n hx hb dX7_know_251 rfl (lv_at hl 1 rfl) ?_
      refine lv_dup2_11 hx hb dX7_know_252 rfl rfl ?_
      refine w_iald hx hb hK hW h2016 (j := pp) (rfl) (by omega) (by omega) dX7_know_253 ?_
      refine asi (y := nI (kn1 kn)) (ek1) ?_
      refine lv_iconst (v := nI 1) hx hb dX7_know_254 (by decide) ?_
      refine lv_iadd hx hb dX7_know_255 ?_
      refine asi (y := nI ((kn1 kn) + 1)) (nI_add _ _) ?_
      refine w_iast hx hb hK hW hS h2016 (j := pp) (rfl) (by omega) (by omega) dX7_know_256 (fun H locs hW hS => ?_)
      obtain ⟨V10, eV10⟩ : ∃ x9, x9 = va_up Vn (2016) (some (.inl (cy 0, 4, .inl (upd kno1 pp (nI ((kn1 kn) + 1)))))) := ⟨_, rfl⟩
      rw [← eV10] at hW
      have h2000 : V10 (2000) = some (.inr (7, [.int (nI n), .int (nI k), .ref (ad (2002)), .ref (ad (2003)), .ref (ad (2004)), .ref (ad (2005)), .ref (ad (2006)), .int (nI P), .ref (ad (2008)), .ref (ad (2009)), .ref (ad (2010)), .ref (ad (2011)), .ref (ad (2012)), .ref (ad (2013)), .ref (ad (2014)), .ref (ad (2015)), .ref (ad (2016)), .ref (ad (2017)), .ref (ad (2018)), .ref (ad (2019)), .ref (ad (2020)), .int (ev), .int (nI K), .ref (ad (2023)), .ref (ad (2024)), .ref (ad (2025)), .ref (ad (2026)), .ref (ad (2027))])) := by rw [eV10, va_up_ne _ _ (by omega)]; exact h2000
      have h2009 : V10 (2009) = some (.inl (cy 1, 48, .inr (.inl kpt))) := by rw [eV10, va_up_ne _ _ (by omega)]; exact h2009
      have h2014 : V10 (2014) = some (.inl (cy 2, 4, .inl (fun r => b2i (isb r)))) := by rw [eV10, va_up_ne _ _ (by omega)]; exact h2014
      have h2017 : V10 (2017) = some (.inl (cy 0, 240, .inl (upd (shI oob pp kn) (60 * pp + kn1 kn) o))) := by rw [eV10, va_up_ne _ _ (by omega)]; exact h2017
      have h2018 : V10 (2018) = some (.inl (cy 0, 240, .inl (upd (shI ome pp kn) (60 * pp + kn1 kn) mi))) := by rw [eV10, va_up_ne _ _ (by omega)]; exact h2018
      have h2019 : V10 (2019) = some (.inl (cy 0, 240, .inl (upd (shI onu pp kn) (60 * pp + kn1 kn) v))) := by rw [eV10, va_up_ne _ _ (by omega)]; exact h2019
      have h2020 : V10 (2020) = some (.inl (cy 1, 2880, .inr (.inl (cpA kpt (shJ oke pp kn) (12 * pp) (12 * (60 * pp + kn1 kn)) 12)))) := by rw [eV10, va_up_ne _ _ (by omega)]; exact h2020
      have h2015 : V10 (2015) = some (.inl (cy 0, 4, .inl bat1)) := by rw [eV10, va_up_ne _ _ (by omega)]; exact h2015
      have h2016 : V10 (2016) = some (.inl (cy 0, 4, .inl (upd kno1 pp (nI ((kn1 kn) + 1))))) := by rw [eV10, va_up_self]
      refine lv_aload_n hx hb dX7_know_257 rfl (lv_at hl 0 rfl) ?_
      refine g_X7_X7_batch hx hb hown hK hW h2000 dX7_know_258 ?_
      refine lv_iload_n hx hb dX7_know_261 rfl (lv_at hl 1 rfl) ?_
      refine lv_dup2_11 hx hb dX7_know_262 rfl rfl ?_
      refine w_iald hx hb hK hW h2015 (j := pp) (rfl) (by omega) (by omega) dX7_know_263 ?_
      refine asi (y := nI (if kn = 60 ∧ bq = 60 then 59 else bq)) (eb1) ?_
      refine jl (pcj := 278) (st := [.int (nI (if isb pp = true then 1 else 0)), .int (nI (if kn = 60 ∧ bq = 60 then 59 else bq)), .int (nI pp), .ref (ad (2015))]) (nL := 7) (lv := [(0, .ref (ad (2000))), (1, .int (nI pp)), (5, .int (nI (60 * pp + kn1 kn))), (6, .int (nI r))]) (fun KJ => ?_) (fun ls hl => ?_)
      · skip
        refine lv_aload_n hx hb dX7_know_264 rfl (lv_at hl 0 rfl) ?_
        refine g_X7_X7_isBatch hx hb hown hK hW h2000 dX7_know_265 ?_
        refine lv_iload_n hx hb dX7_know_268 rfl (lv_at hl 1 rfl) ?_
        refine w_zald hx hb hK hW h2014 (j := pp) (rfl) (by omega) (by omega) dX7_know_269 ?_
        refine lv_if_eq (tgt := 277) hx hb dX7_know_270 (by decide) (fun c270 => ?_) (fun c270 => ?_)
        · skip
          have c270 := b2i_0.mp c270
          refine lv_iconst (v := nI 0) hx hb dX7_know_277 (by decide) ?_
          refine asi (y := nI (if isb pp = true then 1 else 0)) (by simp [c270]) ?_
          exact KJ ls (lv_sub hl [0, 1, 2, 3] rfl)
        · skip
          have c270 := b2i_1.mp c270
          refine lv_iconst (v := nI 1) hx hb dX7_know_273 (by decide) ?_
          refine lv_goto (tgt := 278) hx hb dX7_know_274 (by decide) ?_
          refine asi (y := nI (if isb pp = true then 1 else 0)) (by simp [c270]) ?_
          exact KJ ls (lv_sub hl [0, 1, 2, 3] rfl)
      · skip
        refine lv_iadd hx hb dX7_know_278 ?_
        refine asi (y := nI ((if kn = 60 ∧ bq = 60 then 59 else bq) + (if isb pp = true then 1 else 0))) (nI_add _ _) ?_
        refine w_iast hx hb hK hW hS h2015 (j := pp) (rfl) (by omega) (by omega) dX7_know_279 (fun H locs hW hS => ?_)
        obtain ⟨V11, eV11⟩ : ∃ x9, x9 = va_up V10 (2015) (some (.inl (cy 0, 4, .inl (upd bat1 pp (nI ((if kn = 60 ∧ bq = 60 then 59 else bq) + (if isb pp = true then 1 else 0))))))) := ⟨_, rfl⟩
        rw [← eV11] at hW
        have h2000 : V11 (2000) = some (.inr (7, [.int (nI n), .int (nI k), .ref (ad (2002)), .ref (ad (2003)), .ref (ad (2004)), .ref (ad (2005)), .ref (ad (2006)), .int (nI P), .ref (ad (2008)), .ref (ad (2009)), .ref (ad (2010)), .ref (ad (2011)), .ref (ad (2012)), .ref (ad (2013)), .ref (ad (2014)), .ref (ad (2015)), .ref (ad (2016)), .ref (ad (2017)), .ref (ad (2018)), .ref (ad (2019)), .ref (ad (2020)), .int (ev), .int (nI K), .ref (ad (2023)), .ref (ad (2024)), .ref (ad (2025)), .ref (ad (2026)), .ref (ad (2027))])) := by rw [eV11, va_up_ne _ _ (by omega)]; exact h2000
        have h2009 : V11 (2009) = some (.inl (cy 1, 48, .inr (.inl kpt))) := by rw [eV11, va_up_ne _ _ (by omega)]; exact h2009
        have h2014 : V11 (2014) = some (.inl (cy 2, 4, .inl (fun r => b2i (isb r)))) := by rw [eV11, va_up_ne _ _ (by omega)]; exact h2014
        have h2017 : V11 (2017) = some (.inl (cy 0, 240, .inl (upd (shI oob pp kn) (60 * pp + kn1 kn) o))) := by rw [eV11, va_up_ne _ _ (by omega)]; exact h2017
        have h2018 : V11 (2018) = some (.inl (cy 0, 240, .inl (upd (shI ome pp kn) (60 * pp + kn1 kn) mi))) := by rw [eV11, va_up_ne _ _ (by omega)]; exact h2018
        have h2019 : V11 (2019) = some (.inl (cy 0, 240, .inl (upd (shI onu pp kn) (60 * pp + kn1 kn) v))) := by rw [eV11, va_up_ne _ _ (by omega)]; exact h2019
        have h2020 : V11 (2020) = some (.inl (cy 1, 2880, .inr (.inl (cpA kpt (shJ oke pp kn) (12 * pp) (12 * (60 * pp + kn1 kn)) 12)))) := by rw [eV11, va_up_ne _ _ (by omega)]; exact h2020
        have h2016 : V11 (2016) = some (.inl (cy 0, 4, .inl (upd kno1 pp (nI ((kn1 kn) + 1))))) := by rw [eV11, va_up_ne _ _ (by omega)]; exact h2016
        have h2015 : V11 (2015) = some (.inl (cy 0, 4, .inl (upd bat1 pp (nI ((if kn = 60 ∧ bq = 60 then 59 else bq) + (if isb pp = true then 1 else 0)))))) := by rw [eV11, va_up_self]
        exact rwv hx hb hr hlocks dX7_know_280 hW hS (⟨rfl, h2017, h2018, h2019, h2020, ⟨_, h2016, by rw [pk_us, hk1], fun j hj => by rw [pk_un hj]; exact hko j hj⟩, ⟨_, h2015, by rw [pk_us], fun j hj => by rw [pk_un hj]; exact hbo j hj⟩, fun L hL => by show V11 L = _; rw [eV11, va_up_ne _ _ (by omega), eV10, va_up_ne _ _ (by omega)]; exact hfn L hL⟩)
    · skip
      have c213 := nI_nle' c213 (by omega) (by omega)
      refine lv_aload_n hx hb dX7_know_216 rfl (lv_at hl 0 rfl) ?_
      refine g_X7_X7_oldKept hx hb hown hK hW h2000 dX7_know_217 ?_
      refine lv_bipush (v := nI 12) hx hb dX7_know_220 (by decide) ?_
      refine lv_iload hx hb dX7_know_222 (lv_at hl 2 rfl) ?_
      refine lv_imul hx hb dX7_know_224 ?_
      refine asi (y := nI (12 * (60 * pp + kn1 kn))) (pk_mul _ _) ?_
      refine lv_iload hx hb dX7_know_225 (lv_at hl 3 rfl) ?_
      refine lv_iadd hx hb dX7_know_227 ?_
      refine asi (y := nI ((12 * (60 * pp + kn1 kn)) + r)) (nI_add _ _) ?_
      refine lv_aload_n hx hb dX7_know_228 rfl (lv_at hl 0 rfl) ?_
      refine g_X7_X7_kept hx hb hown hK hW h2000 dX7_know_229 ?_
      refine lv_bipush (v := nI 12) hx hb dX7_know_232 (by decide) ?_
      refine lv_iload_n hx hb dX7_know_234 rfl (lv_at hl 1 rfl) ?_
      refine lv_imul hx hb dX7_know_235 ?_
      refine asi (y := nI (12 * pp)) (pk_mul _ _) ?_
      refine lv_iload hx hb dX7_know_236 (lv_at hl 3 rfl) ?_
      refine lv_iadd hx hb dX7_know_238 ?_
      refine asi (y := nI ((12 * pp) + r)) (nI_add _ _) ?_
      refine w_lald hx hb hK hW h2009 (j := (12 * pp) + r) (rfl) (by omega) (by omega) dX7_know_239 ?_
      refine w_last hx hb hK hW hS h2020 (j := (12 * (60 * pp + kn1 kn)) + r) (rfl) (by omega) (by omega) dX7_know_240 (fun H locs hW hS => ?_)
      obtain ⟨V12, eV12⟩ : ∃ x9, x9 = va_up Vn (2020) (some (.inl (cy 1, 2880, .inr (.inl (vp_updL (cpA kpt (shJ oke pp kn) (12 * pp) (12 * (60 * pp + kn1 kn)) r) ((12 * (60 * pp + kn1 kn)) + r) (kpt ((12 * pp) + r))))))) := ⟨_, rfl⟩
      rw [← eV12] at hW
      have h2000 : V12 (2000) = some (.inr (7, [.int (nI n), .int (nI k), .ref (ad (2002)), .ref (ad (2003)), .ref (ad (2004)), .ref (ad (2005)), .ref (ad (2006)), .int (nI P), .ref (ad (2008)), .ref (ad (2009)), .ref (ad (2010)), .ref (ad (2011)), .ref (ad (2012)), .ref (ad (2013)), .ref (ad (2014)), .ref (ad (2015)), .ref (ad (2016)), .ref (ad (2017)), .ref (ad (2018)), .ref (ad (2019)), .ref (ad (2020)), .int (ev), .int (nI K), .ref (ad (2023)), .ref (ad (2024)), .ref (ad (2025)), .ref (ad (2026)), .ref (ad (2027))])) := by rw [eV12, va_up_ne _ _ (by omega)]; exact h2000
      have h2009 : V12 (2009) = some (.inl (cy 1, 48, .inr (.inl kpt))) := by rw [eV12, va_up_ne _ _ (by omega)]; exact h2009
      have h2014 : V12 (2014) = some (.inl (cy 2, 4, .inl (fun r => b2i (isb r)))) := by rw [eV12, va_up_ne _ _ (by omega)]; exact h2014
      have h2017 : V12 (2017) = some (.inl (cy 0, 240, .inl (upd (shI oob pp kn) (60 * pp + kn1 kn) o))) := by rw [eV12, va_up_ne _ _ (by omega)]; exact h2017
      have h2018 : V12 (2018) = some (.inl (cy 0, 240, .inl (upd (shI ome pp kn) (60 * pp + kn1 kn) mi))) := by rw [eV12, va_up_ne _ _ (by omega)]; exact h2018
      have h2019 : V12 (2019) = some (.inl (cy 0, 240, .inl (upd (shI onu pp kn) (60 * pp + kn1 kn) v))) := by rw [eV12, va_up_ne _ _ (by omega)]; exact h2019
      have h2016 : V12 (2016) = some (.inl (cy 0, 4, .inl kno1)) := by rw [eV12, va_up_ne _ _ (by omega)]; exact h2016
      have h2015 : V12 (2015) = some (.inl (cy 0, 4, .inl bat1)) := by rw [eV12, va_up_ne _ _ (by omega)]; exact h2015
      have h2020 : V12 (2020) = some (.inl (cy 1, 2880, .inr (.inl (vp_updL (cpA kpt (shJ oke pp kn) (12 * pp) (12 * (60 * pp + kn1 kn)) r) ((12 * (60 * pp + kn1 kn)) + r) (kpt ((12 * pp) + r)))))) := by rw [eV12, va_up_self]
      refine lv_iinc (v := nI (r + 1)) (lv' := [(6, .int (nI (r + 1))), (0, .ref (ad (2000))), (1, .int (nI pp)), (5, .int (nI (60 * pp + kn1 kn)))]) hx hb dX7_know_241 hl (k := 3) rfl (by rw [show Int32.ofInt 1 = nI 1 from by decide]; exact nI_add _ _) (by decide) rfl (fun ls hl => ?_)
      refine lv_goto (tgt := 209) hx hb dX7_know_244 (by decide) ?_
      exact ih (r + 1) _ _ _ ⟨by omega, ⟨_, ⟨h2017, h2018, h2019, by rw [← cpA_l]; exact h2020, h2016, h2015, fun L hL => by rw [eV12, va_up_ne _ _ (by omega)]; exact hfn L hL⟩, hW⟩, hS, ls, rfl, lv_sub hl [1, 2, 3, 0] rfl⟩ (by omega)

set_option maxHeartbeats 4000000 in
set_option maxRecDepth 100000 in
theorem c_X7_takeBack (l : Launch) (D : va_G) (cy : Nat → ClassId) (z0 : Nat) (ad : Nat → Nat) (V : Nat → Option va_E) (n k P K : Nat) (ev : Int32) (h2000 : V 2000 = some (.inr (7, [.int (nI n), .int (nI k), .ref (ad (2002)), .ref (ad (2003)), .ref (ad (2004)), .ref (ad (2005)), .ref (ad (2006)), .int (nI P), .ref (ad (2008)), .ref (ad (2009)), .ref (ad (2010)), .ref (ad (2011)), .ref (ad (2012)), .ref (ad (2013)), .ref (ad (2014)), .ref (ad (2015)), .ref (ad (2016)), .ref (ad (2017)), .ref (ad (2018)), .ref (ad (2019)), .ref (ad (2020)), .int (ev), .int (nI K), .ref (ad (2023)), .ref (ad (2024)), .ref (ad (2025)), .ref (ad (2026)), .ref (ad (2027))]))) (ak : Nat → Int32) (h2002 : V 2002 = some (.inl (cy 0, 12, .inl ak))) (al : Nat → Int32) (h2003 : V 2003 = some (.inl (cy 0, 12, .inl al))) (ab : Nat → Int32) (h2004 : V 2004 = some (.inl (cy 0, 12, .inl ab))) (aw : Nat → Int32) (h2005 : V 2005 = some (.inl (cy 0, 12, .inl aw))) (mem : Nat → Int32) (h2008 : V 2008 = some (.inl (cy 0, 640, .inl mem))) (kpt : Nat → Int64) (h2009 : V 2009 = some (.inl (cy 1, 48, .inr (.inl kpt)))) (cos : Nat → Int32) (h2012 : V 2012 = some (.inl (cy 0, 4, .inl cos))) (isb : Nat → Bool) (h2014 : V 2014 = some (.inl (cy 2, 4, .inl (fun r => b2i (isb r))))) (bat : Nat → Int32) (h2015 : V 2015 = some (.inl (cy 0, 4, .inl bat))) (kno : Nat → Int32) (h2016 : V 2016 = some (.inl (cy 0, 4, .inl kno))) (oob : Nat → Int32) (h2017 : V 2017 = some (.inl (cy 0, 240, .inl oob))) (ome : Nat → Int32) (h2018 : V 2018 = some (.inl (cy 0, 240, .inl ome))) (onu : Nat → Int32) (h2019 : V 2019 = some (.inl (cy 0, 240, .inl onu))) (oke : Nat → Int64) (h2020 : V 2020 = some (.inl (cy 1, 2880, .inr (.inl oke)))) (was : Nat → Int32) (h2026 : V 2026 = some (.inl (cy 0, 160, .inl was))) (wwa : Nat → Int64) (h2027 : V 2027 = some (.inl (cy 1, 12, .inr (.inl wwa)))) (hn40 : n ≤ 40) (pp : Nat) (hp4 : pp < 4) (ρ : RuT) (hk : okR k ρ) (hkb : okB k ρ) (hru : ruleR k ρ ak al ab aw) (M : Nat → Nat → Int32) (hv : viewR mem pp M) (hM : okM n M) (kn bq oo mm : Nat) (vv : Int32) (hk0 : 0 < kn) (hkn : kn ≤ 60) (ekn : kno pp = nI kn) (ebq : bat pp = nI bq) (hbq : bq ≤ 60) (hb0 : isb pp = true → 0 < bq) (eoo : oob (60 * pp + (kn - 1)) = nI oo) (emm : ome (60 * pp + (kn - 1)) = nI mm) (evv : onu (60 * pp + (kn - 1)) = vv) (hoo : oo < n) (hm3 : mm < 3) (hM3 : okM n (putM n M mm oo vv)) : Met l yX7_takeBack [Cond.code yX7_takeBack cX7_takeBack 4 none] { frames := 3, cells := 0, slots := 0, locals := 79 } (WP [.ref (ad (2000)), .int (nI pp)] D cy z0 ad V) (va_Qv (fun u => u.1 = ad ∧ (∃ mem2, u.2 2008 = some (.inl (cy 0, 640, .inl mem2)) ∧ viewR mem2 pp (putM n M mm oo vv) ∧ ∀ j, (j < 160 * pp ∨ 160 * pp + 160 ≤ j) → mem2 j = mem j) ∧ u.2 2009 = some (.inl (cy 1, 48, .inr (.inl (cpA oke kpt (12 * (60 * pp + (kn - 1))) (12 * pp) 12)))) ∧ u.2 2012 = some (.inl (cy 0, 4, .inl (upd cos pp (cos pp + nI (ctS ρ M (putM n M mm oo vv) n k))))) ∧ u.2 2015 = some (.inl (cy 0, 4, .inl (upd bat pp (nI (if isb pp = true then bq - 1 else bq))))) ∧ u.2 2016 = some (.inl (cy 0, 4, .inl (upd kno pp (nI (kn - 1))))) ∧ (∃ was2 wwa2, u.2 2026 = some (.inl (cy 0, 160, .inl was2)) ∧ u.2 2027 = some (.inl (cy 1, 12, .inr (.inl wwa2)))) ∧ ∀ L, (¬ L = 2008 ∧ ¬ L = 2009 ∧ ¬ L = 2012 ∧ ¬ L = 2015 ∧ ¬ L = 2016 ∧ ¬ L = 2026 ∧ ¬ L = 2027) → u.2 L = V L) (WB D z0) (AA z0)) 0 0 (AA z0) := by
  refine met_of (by decide) (Nat.le_of_ble_eq_true rfl) (fun p e s m below meth c hx hb hr hml hown hlocks hnm hK hz hW ls hl => ?_)
  have hown : s.vm.findClass RX7 = some m.cls := hown
  have hl : lv_has ls 4 [(0, .ref (ad (2000))), (1, .int (nI pp))] := hl
  have hS : va_S (AA z0) s.heap s.heap [] := va_S.rf
  have o2000 := h2000
  have o2002 := h2002
  have o2003 := h2003
  have o2004 := h2004
  have o2005 := h2005
  have o2008 := h2008
  have o2009 := h2009
  have o2012 := h2012
  have o2014 := h2014
  have o2015 := h2015
  have o2016 := h2016
  have o2017 := h2017
  have o2018 := h2018
  have o2019 := h2019
  have o2020 := h2020
  have o2026 := h2026
  have o2027 := h2027
  have hk12 := hk.1
  refine lv_aload_n hx hb dX7_takeBack_0 rfl (lv_at hl 0 rfl) ?_
  refine lv_iload_n hx hb dX7_takeBack_1 rfl (lv_at hl 1 rfl) ?_
  refine cv (va_runV (As := [.int (nI pp)]) (rest := []) ⟨hx, hb, hml, hown, hK.1.use _⟩ (c_X7_remember l D cy z0 ad V n k P K ev h2000 ak h2002 al h2003 ab h2004 aw h2005 mem h2008 was h2026 wwa h2027 hn40 pp hp4 ρ hk hkb hru M hv hM) (k_X7_X7_remember hK.1 rfl rfl ⟨Nat.le_of_ble_eq_true rfl, Nat.le_of_ble_eq_true rfl⟩) (preV hK hz hW h2000 rfl) rfl rfl hl.1 rfl (lv_room (Nat.le_of_ble_eq_true rfl)) dX7_takeBack_2 ⟨Nat.le_of_ble_eq_true rfl, Nat.le_of_ble_eq_true rfl⟩) hS (fun ad2 Vc2 H locs h2 hW hS => ?_)
  obtain ⟨e2, gex, gfr⟩ := h2
  obtain rfl : ad = ad2 := e2.symm
  obtain ⟨was2, wwa2, h2026, h2027, hwa, hww⟩ := gex
  have hfr : ∀ L, (¬ L = 2026 ∧ ¬ L = 2027) → Vc2 L = V L := fun L hL => gfr L (by omega) (by omega)
  have h2000 := (hfr 2000 (by omega)).trans o2000
  have h2002 := (hfr 2002 (by omega)).trans o2002
  have h2003 := (hfr 2003 (by omega)).trans o2003
  have h2004 := (hfr 2004 (by omega)).trans o2004
  have h2005 := (hfr 2005 (by omega)).trans o2005
  have h2008 := (hfr 2008 (by omega)).trans o2008
  have h2009 := (hfr 2009 (by omega)).trans o2009
  have h2012 := (hfr 2012 (by omega)).trans o2012
  have h2014 := (hfr 2014 (by omega)).trans o2014
  have h2015 := (hfr 2015 (by omega)).trans o2015
  have h2016 := (hfr 2016 (by omega)).trans o2016
  have h2017 := (hfr 2017 (by omega)).trans o2017
  have h2018 := (hfr 2018 (by omega)).trans o2018
  have h2019 := (hfr 2019 (by omega)).trans o2019
  have h2020 := (hfr 2020 (by omega)).trans o2020
  refine lv_aload_n hx hb dX7_takeBack_5 rfl (lv_at hl 0 rfl) ?_
  refine g_X7_X7_known hx hb hown hK hW h2000 dX7_takeBack_6 ?_
  refine lv_iload_n hx hb dX7_takeBack_9 rfl (lv_at hl 1 rfl) ?_
  refine lv_dup2_11 hx hb dX7_takeBack_10 rfl rfl ?_
  refine w_iald hx hb hK hW h2016 (j := pp) (rfl) (by omega) (by omega) dX7_takeBack_11 ?_
  refine asi (y := nI kn) (ekn) ?_
  refine lv_iconst (v := nI 1) hx hb dX7_takeBack_12 (by decide) ?_
  refine lv_isub hx hb dX7_takeBack_13 ?_
  refine asi (y := nI (kn - 1)) (pk_sub (by omega)) ?_
  refine w_iast hx hb hK hW hS h2016 (j := pp) (rfl) (by omega) (by omega) dX7_takeBack_14 (fun H locs hW hS => ?_)
  obtain ⟨V1, eV1⟩ : ∃ x9, x9 = va_up Vc2 (2016) (some (.inl (cy 0, 4, .inl (upd kno pp (nI (kn - 1)))))) := ⟨_, rfl⟩
  rw [← eV1] at hW
  have h2000 : V1 (2000) = some (.inr (7, [.int (nI n), .int (nI k), .ref (ad (2002)), .ref (ad (2003)), .ref (ad (2004)), .ref (ad (2005)), .ref (ad (2006)), .int (nI P), .ref (ad (2008)), .ref (ad (2009)), .ref (ad (2010)), .ref (ad (2011)), .ref (ad (2012)), .ref (ad (2013)), .ref (ad (2014)), .ref (ad (2015)), .ref (ad (2016)), .ref (ad (2017)), .ref (ad (2018)), .ref (ad (2019)), .ref (ad (2020)), .int (ev), .int (nI K), .ref (ad (2023)), .ref (ad (2024)), .ref (ad (2025)), .ref (ad (2026)), .ref (ad (2027))])) := by rw [eV1, va_up_ne _ _ (by omega)]; exact h2000
  have h2002 : V1 (2002) = some (.inl (cy 0, 12, .inl ak)) := by rw [eV1, va_up_ne _ _ (by omega)]; exact h2002
  have h2003 : V1 (2003) = some (.inl (cy 0, 12, .inl al)) := by rw [eV1, va_up_ne _ _ (by omega)]; exact h2003
  have h2004 : V1 (2004) = some (.inl (cy 0, 12, .inl ab)) := by rw [eV1, va_up_ne _ _ (by omega)]; exact h2004
  have h2005 : V1 (2005) = some (.inl (cy 0, 12, .inl aw)) := by rw [eV1, va_up_ne _ _ (by omega)]; exact h2005
  have h2008 : V1 (2008) = some (.inl (cy 0, 640, .inl mem)) := by rw [eV1, va_up_ne _ _ (by omega)]; exact h2008
  have h2009 : V1 (2009) = some (.inl (cy 1, 48, .inr (.inl kpt))) := by rw [eV1, va_up_ne _ _ (by omega)]; exact h2009
  have h2012 : V1 (2012) = some (.inl (cy 0, 4, .inl cos)) := by rw [eV1, va_up_ne _ _ (by omega)]; exact h2012
  have h2014 : V1 (2014) = some (.inl (cy 2, 4, .inl (fun r => b2i (isb r)))) := by rw [eV1, va_up_ne _ _ (by omega)]; exact h2014
  have h2015 : V1 (2015) = some (.inl (cy 0, 4, .inl bat)) := by rw [eV1, va_up_ne _ _ (by omega)]; exact h2015
  have h2017 : V1 (2017) = some (.inl (cy 0, 240, .inl oob)) := by rw [eV1, va_up_ne _ _ (by omega)]; exact h2017
  have h2018 : V1 (2018) = some (.inl (cy 0, 240, .inl ome)) := by rw [eV1, va_up_ne _ _ (by omega)]; exact h2018
  have h2019 : V1 (2019) = some (.inl (cy 0, 240, .inl onu)) := by rw [eV1, va_up_ne _ _ (by omega)]; exact h2019
  have h2020 : V1 (2020) = some (.inl (cy 1, 2880, .inr (.inl oke))) := by rw [eV1, va_up_ne _ _ (by omega)]; exact h2020
  have h2026 : V1 (2026) = some (.inl (cy 0, 160, .inl was2)) := by rw [eV1, va_up_ne _ _ (by omega)]; exact h2026
  have h2027 : V1 (2027) = some (.inl (cy 1, 12, .inr (.inl wwa2))) := by rw [eV1, va_up_ne _ _ (by omega)]; exact h2027
  have h2016 : V1 (2016) = some (.inl (cy 0, 4, .inl (upd kno pp (nI (kn - 1))))) := by rw [eV1, va_up_self]
  refine lv_aload_n hx hb dX7_takeBack_15 rfl (lv_at hl 0 rfl) ?_
  refine g_X7_X7_batch hx hb hown hK hW h2000 dX7_takeBack_16 ?_
  refine lv_iload_n hx hb dX7_takeBack_19 rfl (lv_at hl 1 rfl) ?_
  refine lv_dup2_11 hx hb dX7_takeBack_20 rfl rfl ?_
  refine w_iald hx hb hK hW h2015 (j := pp) (rfl) (by omega) (by omega) dX7_takeBack_21 ?_
  refine asi (y := nI bq) (ebq) ?_
  refine jl (pcj := 36) (st := [.int (nI (if isb pp = true then 1 else 0)), .int (nI bq), .int (nI pp), .ref (ad (2015))]) (nL := 4) (lv := [(0, .ref (ad (2000))), (1, .int (nI pp))]) (fun KJ => ?_) (fun ls hl => ?_)
  · skip
    refine lv_aload_n hx hb dX7_takeBack_22 rfl (lv_at hl 0 rfl) ?_
    refine g_X7_X7_isBatch hx hb hown hK hW h2000 dX7_takeBack_23 ?_
    refine lv_iload_n hx hb dX7_takeBack_26 rfl (lv_at hl 1 rfl) ?_
    refine w_zald hx hb hK hW h2014 (j := pp) (rfl) (by omega) (by omega) dX7_takeBack_27 ?_
    refine lv_if_eq (tgt := 35) hx hb dX7_takeBack_28 (by decide) (fun c28 => ?_) (fun c28 => ?_)
    · skip
      have c28 := b2i_0.mp c28
      refine lv_iconst (v := nI 0) hx hb dX7_takeBack_35 (by decide) ?_
      refine asi (y := nI (if isb pp = true then 1 else 0)) (by simp [c28]) ?_
      exact KJ ls (lv_sub hl [0, 1] rfl)
    · skip
      have c28 := b2i_1.mp c28
      refine lv_iconst (v := nI 1) hx hb dX7_takeBack_31 (by decide) ?_
      refine lv_goto (tgt := 36) hx hb dX7_takeBack_32 (by decide) ?_
      refine asi (y := nI (if isb pp = true then 1 else 0)) (by simp [c28]) ?_
      exact KJ ls (lv_sub hl [0, 1] rfl)
  · skip
    refine lv_isub hx hb dX7_takeBack_36 ?_
    refine asi (y := nI (if isb pp = true then bq - 1 else bq)) (by
      by_cases hi : isb pp = true
      · rw [if_pos hi, if_pos hi]; exact pk_sub (hb0 hi)
      · rw [if_neg hi, if_neg hi]; exact pk_sub (Nat.zero_le _)) ?_
    refine w_iast hx hb hK hW hS h2015 (j := pp) (rfl) (by omega) (by omega) dX7_takeBack_37 (fun H locs hW hS => ?_)
    obtain ⟨V2, eV2⟩ : ∃ x9, x9 = va_up V1 (2015) (some (.inl (cy 0, 4, .inl (upd bat pp (nI (if isb pp = true then bq - 1 else bq)))))) := ⟨_, rfl⟩
    rw [← eV2] at hW
    have h2000 : V2 (2000) = some (.inr (7, [.int (nI n), .int (nI k), .ref (ad (2002)), .ref (ad (2003)), .ref (ad (2004)), .ref (ad (2005)), .ref (ad (2006)), .int (nI P), .ref (ad (2008)), .ref (ad (2009)), .ref (ad (2010)), .ref (ad (2011)), .ref (ad (2012)), .ref (ad (2013)), .ref (ad (2014)), .ref (ad (2015)), .ref (ad (2016)), .ref (ad (2017)), .ref (ad (2018)), .ref (ad (2019)), .ref (ad (2020)), .int (ev), .int (nI K), .ref (ad (2023)), .ref (ad (2024)), .ref (ad (2025)), .ref (ad (2026)), .ref (ad (2027))])) := by rw [eV2, va_up_ne _ _ (by omega)]; exact h2000
    have h2002 : V2 (2002) = some (.inl (cy 0, 12, .inl ak)) := by rw [eV2, va_up_ne _ _ (by omega)]; exact h2002
    have h2003 : V2 (2003) = some (.inl (cy 0, 12, .inl al)) := by rw [eV2, va_up_ne _ _ (by omega)]; exact h2003
    have h2004 : V2 (2004) = some (.inl (cy 0, 12, .inl ab)) := by rw [eV2, va_up_ne _ _ (by omega)]; exact h2004
    have h2005 : V2 (2005) = some (.inl (cy 0, 12, .inl aw)) := by rw [eV2, va_up_ne _ _ (by omega)]; exact h2005
    have h2008 : V2 (2008) = some (.inl (cy 0, 640, .inl mem)) := by rw [eV2, va_up_ne _ _ (by omega)]; exact h2008
    have h2009 : V2 (2009) = some (.inl (cy 1, 48, .inr (.inl kpt))) := by rw [eV2, va_up_ne _ _ (by omega)]; exact h2009
    have h2012 : V2 (2012) = some (.inl (cy 0, 4, .inl cos)) := by rw [eV2, va_up_ne _ _ (by omega)]; exact h2012
    have h2014 : V2 (2014) = some (.inl (cy 2, 4, .inl (fun r => b2i (isb r)))) := by rw [eV2, va_up_ne _ _ (by omega)]; exact h2014
    have h2017 : V2 (2017) = some (.inl (cy 0, 240, .inl oob)) := by rw [eV2, va_up_ne _ _ (by omega)]; exact h2017
    have h2018 : V2 (2018) = some (.inl (cy 0, 240, .inl ome)) := by rw [eV2, va_up_ne _ _ (by omega)]; exact h2018
    have h2019 : V2 (2019) = some (.inl (cy 0, 240, .inl onu)) := by rw [eV2, va_up_ne _ _ (by omega)]; exact h2019
    have h2020 : V2 (2020) = some (.inl (cy 1, 2880, .inr (.inl oke))) := by rw [eV2, va_up_ne _ _ (by omega)]; exact h2020
    have h2026 : V2 (2026) = some (.inl (cy 0, 160, .inl was2)) := by rw [eV2, va_up_ne _ _ (by omega)]; exact h2026
    have h2027 : V2 (2027) = some (.inl (cy 1, 12, .inr (.inl wwa2))) := by rw [eV2, va_up_ne _ _ (by omega)]; exact h2027
    have h2016 : V2 (2016) = some (.inl (cy 0, 4, .inl (upd kno pp (nI (kn - 1))))) := by rw [eV2, va_up_ne _ _ (by omega)]; exact h2016
    have h2015 : V2 (2015) = some (.inl (cy 0, 4, .inl (upd bat pp (nI (if isb pp = true then bq - 1 else bq))))) := by rw [eV2, va_up_self]
    refine lv_bipush (v := nI 60) hx hb dX7_takeBack_38 (by decide) ?_
    refine lv_iload_n hx hb dX7_takeBack_40 rfl (lv_at hl 1 rfl) ?_
    refine lv_imul hx hb dX7_takeBack_41 ?_
    refine asi (y := nI (60 * pp)) (pk_mul _ _) ?_
    refine lv_aload_n hx hb dX7_takeBack_42 rfl (lv_at hl 0 rfl) ?_
    refine g_X7_X7_known hx hb hown hK hW h2000 dX7_takeBack_43 ?_
    refine lv_iload_n hx hb dX7_takeBack_46 rfl (lv_at hl 1 rfl) ?_
    refine w_iald hx hb hK hW h2016 (j := pp) (rfl) (by omega) (by omega) dX7_takeBack_47 ?_
    refine asi (y := nI (kn - 1)) (pk_us) ?_
    refine lv_iadd hx hb dX7_takeBack_48 ?_
    refine asi (y := nI ((60 * pp) + (kn - 1))) (nI_add _ _) ?_
    refine lv_istore_n (lv' := [(2, .int (nI ((60 * pp) + (kn - 1)))), (0, .ref (ad (2000))), (1, .int (nI pp))]) hx hb dX7_takeBack_49 rfl hl (by decide) rfl (fun ls hl => ?_)
    refine lv_aload_n hx hb dX7_takeBack_50 rfl (lv_at hl 1 rfl) ?_
    refine lv_iload_n hx hb dX7_takeBack_51 rfl (lv_at hl 2 rfl) ?_
    refine lv_aload_n hx hb dX7_takeBack_52 rfl (lv_at hl 1 rfl) ?_
    refine g_X7_X7_oldObject hx hb hown hK hW h2000 dX7_takeBack_53 ?_
    refine lv_iload_n hx hb dX7_takeBack_56 rfl (lv_at hl 0 rfl) ?_
    refine w_iald hx hb hK hW h2017 (j := (60 * pp) + (kn - 1)) (rfl) (by omega) (by omega) dX7_takeBack_57 ?_
    refine asi (y := nI oo) (eoo) ?_
    refine lv_aload_n hx hb dX7_takeBack_58 rfl (lv_at hl 1 rfl) ?_
    refine g_X7_X7_oldMember hx hb hown hK hW h2000 dX7_takeBack_59 ?_
    refine lv_iload_n hx hb dX7_takeBack_62 rfl (lv_at hl 0 rfl) ?_
    refine w_iald hx hb hK hW h2018 (j := (60 * pp) + (kn - 1)) (rfl) (by omega) (by omega) dX7_takeBack_63 ?_
    refine asi (y := nI mm) (emm) ?_
    refine lv_aload_n hx hb dX7_takeBack_64 rfl (lv_at hl 1 rfl) ?_
    refine g_X7_X7_oldNumber hx hb hown hK hW h2000 dX7_takeBack_65 ?_
    refine lv_iload_n hx hb dX7_takeBack_68 rfl (lv_at hl 0 rfl) ?_
    refine w_iald hx hb hK hW h2019 (j := (60 * pp) + (kn - 1)) (rfl) (by omega) (by omega) dX7_takeBack_69 ?_
    refine asi (y := vv) (evv) ?_
    refine cv (va_runV (As := [.int (nI pp), .int (nI oo), .int (nI mm), .int (vv)]) (rest := []) ⟨hx, hb, hml, hown, hK.1.use _⟩ (c_X7_put l D cy z0 ad V2 n k P K ev h2000 mem h2008 hn40 pp hp4 M hv oo mm vv hoo hm3 hM3) (k_X7_X7_put hK.1 rfl rfl ⟨Nat.le_of_ble_eq_true rfl, Nat.le_of_ble_eq_true rfl⟩) (preV hK (Nat.le_trans hz hS.1) hW h2000 rfl) rfl rfl hl.1 rfl (lv_room (Nat.le_of_ble_eq_true rfl)) dX7_takeBack_70 ⟨Nat.le_of_ble_eq_true rfl, Nat.le_of_ble_eq_true rfl⟩) hS (fun ad70 Vc70 H locs h70 hW hS => ?_)
    obtain ⟨e70, gex2, gfr2⟩ := h70
    obtain rfl : ad = ad70 := e70.symm
    obtain ⟨mem2, h2008, hv2, hmo⟩ := gex2
    have h2000 := (gfr2 2000 (by omega)).trans h2000
    have h2002 := (gfr2 2002 (by omega)).trans h2002
    have h2003 := (gfr2 2003 (by omega)).trans h2003
    have h2004 := (gfr2 2004 (by omega)).trans h2004
    have h2005 := (gfr2 2005 (by omega)).trans h2005
    have h2009 := (gfr2 2009 (by omega)).trans h2009
    have h2012 := (gfr2 2012 (by omega)).trans h2012
    have h2014 := (gfr2 2014 (by omega)).trans h2014
    have h2017 := (gfr2 2017 (by omega)).trans h2017
    have h2018 := (gfr2 2018 (by omega)).trans h2018
    have h2019 := (gfr2 2019 (by omega)).trans h2019
    have h2020 := (gfr2 2020 (by omega)).trans h2020
    have h2026 := (gfr2 2026 (by omega)).trans h2026
    have h2027 := (gfr2 2027 (by omega)).trans h2027
    have h2016 := (gfr2 2016 (by omega)).trans h2016
    have h2015 := (gfr2 2015 (by omega)).trans h2015
    refine lv_iconst (v := nI 0) hx hb dX7_takeBack_73 (by decide) ?_
    refine lv_istore_n (lv' := [(3, .int (nI 0)), (2, .int (nI ((60 * pp) + (kn - 1)))), (0, .ref (ad (2000))), (1, .int (nI pp))]) hx hb dX7_takeBack_74 rfl hl (by decide) rfl (fun ls hl => ?_)
    refine wlh (ι := Nat) (fun r => 12 - r) (fun r H locs g => (r ≤ 12) ∧ (∃ X, (X 2000 = some (.inr (7, [.int (nI n), .int (nI k), .ref (ad (2002)), .ref (ad (2003)), .ref (ad (2004)), .ref (ad (2005)), .ref (ad (2006)), .int (nI P), .ref (ad (2008)), .ref (ad (2009)), .ref (ad (2010)), .ref (ad (2011)), .ref (ad (2012)), .ref (ad (2013)), .ref (ad (2014)), .ref (ad (2015)), .ref (ad (2016)), .ref (ad (2017)), .ref (ad (2018)), .ref (ad (2019)), .ref (ad (2020)), .int (ev), .int (nI K), .ref (ad (2023)), .ref (ad (2024)), .ref (ad (2025)), .ref (ad (2026)), .ref (ad (2027))])) ∧ X 2012 = some (.inl (cy 0, 4, .inl cos)) ∧ X 2014 = some (.inl (cy 2, 4, .inl (fun r => b2i (isb r)))) ∧ X 2015 = some (.inl (cy 0, 4, .inl (upd bat pp (nI (if isb pp = true then bq - 1 else bq))))) ∧ X 2016 = some (.inl (cy 0, 4, .inl (upd kno pp (nI (kn - 1))))) ∧ X 2020 = some (.inl (cy 1, 2880, .inr (.inl oke))) ∧ X 2008 = some (.inl (cy 0, 640, .inl mem2)) ∧ X 2026 = some (.inl (cy 0, 160, .inl was2)) ∧ X 2027 = some (.inl (cy 1, 12, .inr (.inl wwa2))) ∧ X 2002 = some (.inl (cy 0, 12, .inl ak)) ∧ X 2003 = some (.inl (cy 0, 12, .inl al)) ∧ X 2004 = some (.inl (cy 0, 12, .inl ab)) ∧ X 2005 = some (.inl (cy 0, 12, .inl aw)) ∧ X 2009 = some (.inl (cy 1, 48, .inr (.inl (cpA oke kpt (12 * (60 * pp + (kn - 1))) (12 * pp) r)))) ∧ ∀ L, (¬ L = 2008 ∧ ¬ L = 2009 ∧ ¬ L = 2012 ∧ ¬ L = 2015 ∧ ¬ L = 2016 ∧ ¬ L = 2026 ∧ ¬ L = 2027) → X L = V L) ∧ HW D z0 ad X H) ∧ va_S (AA z0) s.heap H locs ∧ ∃ ls, g = F0 m 75 ls [] ∧ lv_has ls 4 [(0, .ref (ad (2000))), (1, .int (nI pp)), (2, .int (nI (60 * pp + (kn - 1)))), (3, .int (nI r))]) ?_ (0) _ _ _ ⟨Nat.zero_le _, ⟨_, ⟨h2000, h2012, h2014, h2015, h2016, h2020, h2008, h2026, h2027, h2002, h2003, h2004, h2005, by rw [cpA_0]; exact h2009, fun L hL => by rw [gfr2 L (by omega), eV2, va_up_ne _ _ (by omega), eV1, va_up_ne _ _ (by omega)]; exact hfr L (by omega)⟩, hW⟩, hS, ls, rfl, lv_sub hl [2, 3, 1, 0] rfl⟩
    intro r H locs g hg ih
    obtain ⟨hr9, ⟨Vn, ⟨h2000, h2012, h2014, h2015, h2016, h2020, h2008, h2026, h2027, h2002, h2003, h2004, h2005, h2009, hfn⟩, hW⟩, hS, ls, rfl, hl⟩ := hg
    refine lv_iload_n hx hb dX7_takeBack_75 rfl (lv_at hl 3 rfl) ?_
    refine lv_bipush (v := nI 12) hx hb dX7_takeBack_76 (by decide) ?_
    refine lv_icmp_ge (tgt := 109) hx hb dX7_takeBack_78 (by decide) (fun c78 => ?_) (fun c78 => ?_)
    · skip
      have c78 := nI_le' c78 (by omega) (by omega)
      have e9 : r = 12 := by omega
      rw [e9] at h2009
      refine lv_aload_n hx hb dX7_takeBack_109 rfl (lv_at hl 0 rfl) ?_
      refine g_X7_X7_cost hx hb hown hK hW h2000 dX7_takeBack_110 ?_
      refine lv_iload_n hx hb dX7_takeBack_113 rfl (lv_at hl 1 rfl) ?_
      refine lv_dup2_11 hx hb dX7_takeBack_114 rfl rfl ?_
      refine w_iald hx hb hK hW h2012 (j := pp) (rfl) (by omega) (by omega) dX7_takeBack_115 ?_
      refine lv_aload_n hx hb dX7_takeBack_116 rfl (lv_at hl 0 rfl) ?_
      refine lv_iload_n hx hb dX7_takeBack_117 rfl (lv_at hl 1 rfl) ?_
      refine vp_callSi (va_Run.run (va_runV (As := [.int (nI pp)]) (rest := [.int (cos pp), .int (nI pp), .ref (ad (2012))]) ⟨hx, hb, hml, hown, hK.1.use _⟩ (c_X7_pairs l D cy z0 ad Vn n k P K ev h2000 ak h2002 al h2003 ab h2004 aw h2005 mem2 h2008 was2 h2026 hn40 pp hp4 ρ hk hkb hru (putM n M mm oo vv) M hv2 (fun m hm o ho => by rw [hwa _ (by omega), ← Nat.add_assoc]; exact hv m hm o ho)) (k_X7_X7_pairs hK.1 rfl rfl ⟨Nat.le_of_ble_eq_true rfl, Nat.le_of_ble_eq_true rfl⟩) (preV hK (Nat.le_trans hz hS.1) hW h2000 rfl) rfl rfl hl.1 rfl (lv_room (Nat.le_of_ble_eq_true rfl)) dX7_takeBack_118 ⟨Nat.le_of_ble_eq_true rfl, Nat.le_of_ble_eq_true rfl⟩)) (fun r118 h118 => ?_)
      have h118 : r118 = nI (ctS ρ M (putM n M mm oo vv) n k) := h118
      subst h118
      refine lv_iadd hx hb dX7_takeBack_121 ?_
      refine w_iast hx hb hK hW hS h2012 (j := pp) (rfl) (by omega) (by omega) dX7_takeBack_122 (fun H locs hW hS => ?_)
      obtain ⟨V3, eV3⟩ : ∃ x9, x9 = va_up Vn (2012) (some (.inl (cy 0, 4, .inl (upd cos pp ((cos pp) + (nI (ctS ρ M (putM n M mm oo vv) n k))))))) := ⟨_, rfl⟩
      rw [← eV3] at hW
      have h2000 : V3 (2000) = some (.inr (7, [.int (nI n), .int (nI k), .ref (ad (2002)), .ref (ad (2003)), .ref (ad (2004)), .ref (ad (2005)), .ref (ad (2006)), .int (nI P), .ref (ad (2008)), .ref (ad (2009)), .ref (ad (2010)), .ref (ad (2011)), .ref (ad (2012)), .ref (ad (2013)), .ref (ad (2014)), .ref (ad (2015)), .ref (ad (2016)), .ref (ad (2017)), .ref (ad (2018)), .ref (ad (2019)), .ref (ad (2020)), .int (ev), .int (nI K), .ref (ad (2023)), .ref (ad (2024)), .ref (ad (2025)), .ref (ad (2026)), .ref (ad (2027))])) := by rw [eV3, va_up_ne _ _ (by omega)]; exact h2000
      have h2014 : V3 (2014) = some (.inl (cy 2, 4, .inl (fun r => b2i (isb r)))) := by rw [eV3, va_up_ne _ _ (by omega)]; exact h2014
      have h2015 : V3 (2015) = some (.inl (cy 0, 4, .inl (upd bat pp (nI (if isb pp = true then bq - 1 else bq))))) := by rw [eV3, va_up_ne _ _ (by omega)]; exact h2015
      have h2016 : V3 (2016) = some (.inl (cy 0, 4, .inl (upd kno pp (nI (kn - 1))))) := by rw [eV3, va_up_ne _ _ (by omega)]; exact h2016
      have h2020 : V3 (2020) = some (.inl (cy 1, 2880, .inr (.inl oke))) := by rw [eV3, va_up_ne _ _ (by omega)]; exact h2020
      have h2008 : V3 (2008) = some (.inl (cy 0, 640, .inl mem2)) := by rw [eV3, va_up_ne _ _ (by omega)]; exact h2008
      have h2026 : V3 (2026) = some (.inl (cy 0, 160, .inl was2)) := by rw [eV3, va_up_ne _ _ (by omega)]; exact h2026
      have h2027 : V3 (2027) = some (.inl (cy 1, 12, .inr (.inl wwa2))) := by rw [eV3, va_up_ne _ _ (by omega)]; exact h2027
      have h2002 : V3 (2002) = some (.inl (cy 0, 12, .inl ak)) := by rw [eV3, va_up_ne _ _ (by omega)]; exact h2002
      have h2003 : V3 (2003) = some (.inl (cy 0, 12, .inl al)) := by rw [eV3, va_up_ne _ _ (by omega)]; exact h2003
      have h2004 : V3 (2004) = some (.inl (cy 0, 12, .inl ab)) := by rw [eV3, va_up_ne _ _ (by omega)]; exact h2004
      have h2005 : V3 (2005) = some (.inl (cy 0, 12, .inl aw)) := by rw [eV3, va_up_ne _ _ (by omega)]; exact h2005
      have h2009 : V3 (2009) = some (.inl (cy 1, 48, .inr (.inl (cpA oke kpt (12 * (60 * pp + (kn - 1))) (12 * pp) 12)))) := by rw [eV3, va_up_ne _ _ (by omega)]; exact h2009
      have h2012 : V3 (2012) = some (.inl (cy 0, 4, .inl (upd cos pp ((cos pp) + (nI (ctS ρ M (putM n M mm oo vv) n k)))))) := by rw [eV3, va_up_self]
      exact rwv hx hb hr hlocks dX7_takeBack_123 hW hS (⟨rfl, ⟨mem2, h2008, hv2, hmo⟩, h2009, h2012, h2015, h2016, ⟨was2, wwa2, h2026, h2027⟩, fun L hL => by show V3 L = _; rw [eV3, va_up_ne _ _ (by omega)]; exact hfn L hL⟩)
    · skip
      have c78 := nI_nle' c78 (by omega) (by omega)
      refine lv_aload_n hx hb dX7_takeBack_81 rfl (lv_at hl 0 rfl) ?_
      refine g_X7_X7_kept hx hb hown hK hW h2000 dX7_takeBack_82 ?_
      refine lv_bipush (v := nI 12) hx hb dX7_takeBack_85 (by decide) ?_
      refine lv_iload_n hx hb dX7_takeBack_87 rfl (lv_at hl 1 rfl) ?_
      refine lv_imul hx hb dX7_takeBack_88 ?_
      refine asi (y := nI (12 * pp)) (pk_mul _ _) ?_
      refine lv_iload_n hx hb dX7_takeBack_89 rfl (lv_at hl 3 rfl) ?_
      refine lv_iadd hx hb dX7_takeBack_90 ?_
      refine asi (y := nI ((12 * pp) + r)) (nI_add _ _) ?_
      refine lv_aload_n hx hb dX7_takeBack_91 rfl (lv_at hl 0 rfl) ?_
      refine g_X7_X7_oldKept hx hb hown hK hW h2000 dX7_takeBack_92 ?_
      refine lv_bipush (v := nI 12) hx hb dX7_takeBack_95 (by decide) ?_
      refine lv_iload_n hx hb dX7_takeBack_97 rfl (lv_at hl 2 rfl) ?_
      refine lv_imul hx hb dX7_takeBack_98 ?_
      refine asi (y := nI (12 * (60 * pp + (kn - 1)))) (pk_mul _ _) ?_
      refine lv_iload_n hx hb dX7_takeBack_99 rfl (lv_at hl 3 rfl) ?_
      refine lv_iadd hx hb dX7_takeBack_100 ?_
      refine asi (y := nI ((12 * (60 * pp + (kn - 1))) + r)) (nI_add _ _) ?_
      refine w_lald hx hb hK hW h2020 (j := (12 * (60 * pp + (kn - 1))) + r) (rfl) (by omega) (by omega) dX7_takeBack_101 ?_
      refine w_last hx hb hK hW hS h2009 (j := (12 * pp) + r) (rfl) (by omega) (by omega) dX7_takeBack_102 (fun H locs hW hS => ?_)
      obtain ⟨V4, eV4⟩ : ∃ x9, x9 = va_up Vn (2009) (some (.inl (cy 1, 48, .inr (.inl (vp_updL (cpA oke kpt (12 * (60 * pp + (kn - 1))) (12 * pp) r) ((12 * pp) + r) (oke ((12 * (60 * pp + (kn - 1))) + r))))))) := ⟨_, rfl⟩
      rw [← eV4] at hW
      have h2000 : V4 (2000) = some (.inr (7, [.int (nI n), .int (nI k), .ref (ad (2002)), .ref (ad (2003)), .ref (ad (2004)), .ref (ad (2005)), .ref (ad (2006)), .int (nI P), .ref (ad (2008)), .ref (ad (2009)), .ref (ad (2010)), .ref (ad (2011)), .ref (ad (2012)), .ref (ad (2013)), .ref (ad (2014)), .ref (ad (2015)), .ref (ad (2016)), .ref (ad (2017)), .ref (ad (2018)), .ref (ad (2019)), .ref (ad (2020)), .int (ev), .int (nI K), .ref (ad (2023)), .ref (ad (2024)), .ref (ad (2025)), .ref (ad (2026)), .ref (ad (2027))])) := by rw [eV4, va_up_ne _ _ (by omega)]; exact h2000
      have h2012 : V4 (2012) = some (.inl (cy 0, 4, .inl cos)) := by rw [eV4, va_up_ne _ _ (by omega)]; exact h2012
      have h2014 : V4 (2014) = some (.inl (cy 2, 4, .inl (fun r => b2i (isb r)))) := by rw [eV4, va_up_ne _ _ (by omega)]; exact h2014
      have h2015 : V4 (2015) = some (.inl (cy 0, 4, .inl (upd bat pp (nI (if isb pp = true then bq - 1 else bq))))) := by rw [eV4, va_up_ne _ _ (by omega)]; exact h2015
      have h2016 : V4 (2016) = some (.inl (cy 0, 4, .inl (upd kno pp (nI (kn - 1))))) := by rw [eV4, va_up_ne _ _ (by omega)]; exact h2016
      have h2020 : V4 (2020) = some (.inl (cy 1, 2880, .inr (.inl oke))) := by rw [eV4, va_up_ne _ _ (by omega)]; exact h2020
      have h2008 : V4 (2008) = some (.inl (cy 0, 640, .inl mem2)) := by rw [eV4, va_up_ne _ _ (by omega)]; exact h2008
      have h2026 : V4 (2026) = some (.inl (cy 0, 160, .inl was2)) := by rw [eV4, va_up_ne _ _ (by omega)]; exact h2026
      have h2027 : V4 (2027) = some (.inl (cy 1, 12, .inr (.inl wwa2))) := by rw [eV4, va_up_ne _ _ (by omega)]; exact h2027
      have h2002 : V4 (2002) = some (.inl (cy 0, 12, .inl ak)) := by rw [eV4, va_up_ne _ _ (by omega)]; exact h2002
      have h2003 : V4 (2003) = some (.inl (cy 0, 12, .inl al)) := by rw [eV4, va_up_ne _ _ (by omega)]; exact h2003
      have h2004 : V4 (2004) = some (.inl (cy 0, 12, .inl ab)) := by rw [eV4, va_up_ne _ _ (by omega)]; exact h2004
      have h2005 : V4 (2005) = some (.inl (cy 0, 12, .inl aw)) := by rw [eV4, va_up_ne _ _ (by omega)]; exact h2005
      have h2009 : V4 (2009) = some (.inl (cy 1, 48, .inr (.inl (vp_updL (cpA oke kpt (12 * (60 * pp + (kn - 1))) (12 * pp) r) ((12 * pp) + r) (oke ((12 * (60 * pp + (kn - 1))) + r)))))) := by rw [eV4, va_up_self]
      refine lv_iinc (v := nI (r + 1)) (lv' := [(3, .int (nI (r + 1))), (0, .ref (ad (2000))), (1, .int (nI pp)), (2, .int (nI (60 * pp + (kn - 1))))]) hx hb dX7_takeBack_103 hl (k := 3) rfl (by rw [show Int32.ofInt 1 = nI 1 from by decide]; exact nI_add _ _) (by decide) rfl (fun ls hl => ?_)
      refine lv_goto (tgt := 75) hx hb dX7_takeBack_106 (by decide) ?_
      exact ih (r + 1) _ _ _ ⟨by omega, ⟨_, ⟨h2000, h2012, h2014, h2015, h2016, h2020, h2008, h2026, h2027, h2002, h2003, h2004, h2005, by rw [← cpA_l]; exact h2009, fun L hL => by rw [eV4, va_up_ne _ _ (by omega)]; exact hfn L hL⟩, hW⟩, hS, ls, rfl, lv_sub hl [1, 2, 3, 0] rfl⟩ (by omega)
