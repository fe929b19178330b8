set_option maxHeartbeats 4000000 in
set_option maxRecDepth 100000 in
theorem c_X7_worthP (l : Launch) (D : va_G) (cy : Nat → ClassId) (z0 : Nat) (ad : Nat → Nat) (V : Nat → Option va_E) (n k P K : Nat) (ev : Int32) (h2000 : V 2000 = some (.inr (7, [.int (nI n), .int (nI k), .ref (ad (2002)), .ref (ad (2003)), .ref (ad (2004)), .ref (ad (2005)), .ref (ad (2006)), .int (nI P), .ref (ad (2008)), .ref (ad (2009)), .ref (ad (2010)), .ref (ad (2011)), .ref (ad (2012)), .ref (ad (2013)), .ref (ad (2014)), .ref (ad (2015)), .ref (ad (2016)), .ref (ad (2017)), .ref (ad (2018)), .ref (ad (2019)), .ref (ad (2020)), .int (ev), .int (nI K), .ref (ad (2023)), .ref (ad (2024)), .ref (ad (2025)), .ref (ad (2026)), .ref (ad (2027))]))) (ak : Nat → Int32) (h2002 : V 2002 = some (.inl (cy 0, 12, .inl ak))) (al : Nat → Int32) (h2003 : V 2003 = some (.inl (cy 0, 12, .inl al))) (ab : Nat → Int32) (h2004 : V 2004 = some (.inl (cy 0, 12, .inl ab))) (aw : Nat → Int32) (h2005 : V 2005 = some (.inl (cy 0, 12, .inl aw))) (mem : Nat → Int32) (h2008 : V 2008 = some (.inl (cy 0, 640, .inl mem))) (hn40 : n ≤ 40) (pp : Nat) (hp4 : pp < 4) (ρ : RuT) (M : Nat → Nat → Int32) (hv : viewR mem pp M) (hM : okM n M) (rr : Nat) (hr12 : rr < 12) (hk : (ρ rr).1 < 6 ∧ (ρ rr).2.1 < 4) (hbd : bI (ρ rr).2.2.1 1000000) (er : ak rr = nI (ρ rr).1 ∧ al rr = nI (ρ rr).2.1 ∧ ab rr = (ρ rr).2.2.1 ∧ aw rr = (ρ rr).2.2.2.1) : Met l yX7_worthOf [Cond.code yX7_worthOf cX7_worthOf 15 (some .long)] { frames := 1, cells := 0, slots := 0, locals := 23 } (WP [.ref (ad (2000)), .int (nI pp), .int (nI rr)] D cy z0 ad V) (vp_Sl (fun r => r = wthR ρ rr M n)) 0 0 (fun _ => False) := by
  rw [← worth_v hk hbd hn40 hv hM]
  exact c_X7_worthOf l D cy z0 ad V n k P K ev h2000 ak h2002 al h2003 ab h2004 aw h2005 mem h2008 hn40 pp rr (ρ rr).1 (ρ rr).2.1 (ρ rr).2.2.1 (ρ rr).2.2.2.1 hp4 hr12 hk.1 hk.2 er.1 er.2.1 er.2.2.1 er.2.2.2 (fun o ho => by rw [show memV mem pp 2 o = M 2 o from hv 2 (by omega) o (by omega)]; exact hM.bf o ho)

set_option maxHeartbeats 4000000 in
set_option maxRecDepth 100000 in
theorem c_X7_isFit (l : Launch) (D : va_G) (cy : Nat → ClassId) (z0 : Nat) (ad : Nat → Nat) (V : Nat → Option va_E) (n k P K : Nat) (ev : Int32) (h2000 : V 2000 = some (.inr (7, [.int (nI n), .int (nI k), .ref (ad (2002)), .ref (ad (2003)), .ref (ad (2004)), .ref (ad (2005)), .ref (ad (2006)), .int (nI P), .ref (ad (2008)), .ref (ad (2009)), .ref (ad (2010)), .ref (ad (2011)), .ref (ad (2012)), .ref (ad (2013)), .ref (ad (2014)), .ref (ad (2015)), .ref (ad (2016)), .ref (ad (2017)), .ref (ad (2018)), .ref (ad (2019)), .ref (ad (2020)), .int (ev), .int (nI K), .ref (ad (2023)), .ref (ad (2024)), .ref (ad (2025)), .ref (ad (2026)), .ref (ad (2027))]))) (mem : Nat → Int32) (h2008 : V 2008 = some (.inl (cy 0, 640, .inl mem))) (hn40 : n ≤ 40) (pp : Nat) (hp4 : pp < 4) (dp : Nat → Nat) (ha : acy n (memV mem pp 2) dp) (hd : ∀ x, x < n → dp x < n) (hg : ∀ o, o < n → (memV mem pp 2) o = -1 ∨ ∃ b, b < n ∧ (memV mem pp 2) o = nI b) (o mi v : Int32) : Met l yX7_isFit [Cond.code yX7_isFit cX7_isFit 6 (some .boolean)] { frames := 1, cells := 0, slots := 0, locals := 23 } (WP [.ref (ad (2000)), .int (nI pp), .int (o), .int (mi), .int (v)] D cy z0 ad V) (vp_Si (fun r => r = b2i (tkB n (memV mem pp 2) o mi v))) 0 0 (fun _ => False) := by
  refine met_of (by decide) (Nat.le_of_ble_eq_true rfl) (fun p e s m below meth c hx hb hr hml hown hlocks hnm hK hz hW ls hl => ?_)
  have hown : s.vm.findClass RX7 = some m.cls := hown
  have hl : lv_has ls 6 [(0, .ref (ad (2000))), (1, .int (nI pp)), (2, .int (o)), (3, .int (mi)), (4, .int (v))] := hl
  refine lv_iload_n hx hb dX7_isFit_0 rfl (lv_at hl 2 rfl) ?_
  refine lv_iconst (v := nI 0) hx hb dX7_isFit_1 (by decide) ?_
  refine lv_aload_n hx hb dX7_isFit_2 rfl (lv_at hl 0 rfl) ?_
  refine g_X7_X7_objects hx hb hown hK hW h2000 dX7_isFit_3 ?_
  refine lv_iconst (v := nI 1) hx hb dX7_isFit_6 (by decide) ?_
  refine lv_isub hx hb dX7_isFit_7 ?_
  refine vp_callSi (va_Run.run (va_runS (As := [.int (o), .int (nI 0), .int ((nI n) - (nI 1))]) (rest := []) ⟨hx, hb, hml, hown, hK.1.use _⟩ (c_X7_in l D cy z0 ad V o (nI 0) (nI n - nI 1)) (k_X7_X7_in hK.1 rfl rfl ⟨Nat.le_of_ble_eq_true rfl, Nat.le_of_ble_eq_true rfl⟩) (preS hK hz hW) rfl rfl hl.1 rfl (lv_room (Nat.le_of_ble_eq_true rfl)) dX7_isFit_8 ⟨Nat.le_of_ble_eq_true rfl, Nat.le_of_ble_eq_true rfl⟩)) (fun r8 h8 => ?_)
  have h8 : r8 = b2i (wiB o (nI 0) (nI n - nI 1)) := h8
  subst h8
  refine lv_if_eq (tgt := 23) hx hb dX7_isFit_11 (by decide) (fun c11 => ?_) (fun c11 => ?_)
  · skip
    have c11 := b2i_0.mp c11
    have c11 : hasB n o = false := by rw [← wiB_has (by omega)]; exact c11
    refine lv_iconst (v := nI 0) hx hb dX7_isFit_23 (by decide) ?_
    exact rz hx hb hr hlocks dX7_isFit_24 (by first | exact b2i_n | rfl | decide) (by first | (simp [tkB, c11, b2i, nI]; done) | (have e0 : ¬ mi = nI 0 := (fun q => by rw [q] at c20; revert c20; decide); have e1 : ¬ mi = nI 1 := (fun q => by rw [q] at c20; revert c20; decide); have e2 : ¬ mi = nI 2 := (fun q => by rw [q] at c20; revert c20; decide); rw [show tkB n (memV mem pp 2) o mi v = false from by simp [tkB, e0, e1, e2]]; rfl))
  · skip
    have c11 := b2i_1.mp c11
    have c11 : hasB n o = true := by rw [← wiB_has (by omega)]; exact c11
    obtain ⟨eo, hoo⟩ := hasB_of c11 (by omega)
    obtain ⟨oo, eoo⟩ : ∃ y, y = o.toNatClampNeg := ⟨_, rfl⟩
    rw [← eoo] at eo hoo
    refine lv_iload_n hx hb dX7_isFit_14 rfl (lv_at hl 3 rfl) ?_
    refine lv_iconst (v := nI 0) hx hb dX7_isFit_15 (by decide) ?_
    refine lv_iconst (v := nI 2) hx hb dX7_isFit_16 (by decide) ?_
    refine vp_callSi (va_Run.run (va_runS (As := [.int (mi), .int (nI 0), .int (nI 2)]) (rest := []) ⟨hx, hb, hml, hown, hK.1.use _⟩ (c_X7_in l D cy z0 ad V mi (nI 0) (nI 2)) (k_X7_X7_in hK.1 rfl rfl ⟨Nat.le_of_ble_eq_true rfl, Nat.le_of_ble_eq_true rfl⟩) (preS hK hz hW) rfl rfl hl.1 rfl (lv_room (Nat.le_of_ble_eq_true rfl)) dX7_isFit_17 ⟨Nat.le_of_ble_eq_true rfl, Nat.le_of_ble_eq_true rfl⟩)) (fun r17 h17 => ?_)
    have h17 : r17 = b2i (wiB mi (nI 0) (nI 2)) := h17
    subst h17
    refine lv_if_ne (tgt := 25) hx hb dX7_isFit_20 (by decide) (fun c20 => ?_) (fun c20 => ?_)
    · skip
      have c20 := b2i_1.mp c20
      obtain ⟨em, hmm⟩ := wiB_of (b := 2) c20 (by omega)
      obtain ⟨mm, emm⟩ : ∃ y, y = mi.toNatClampNeg := ⟨_, rfl⟩
      rw [← emm] at em hmm
      rw [em] at hl ⊢
      rw [eo] at hl ⊢
      refine lv_iload_n hx hb dX7_isFit_25 rfl (lv_at hl 3 rfl) ?_
      refine lv_iconst (v := nI 2) hx hb dX7_isFit_26 (by decide) ?_
      refine lv_icmp_ge (tgt := 57) hx hb dX7_isFit_27 (by decide) (fun c27 => ?_) (fun c27 => ?_)
      · skip
        have c27 := nI_le' c27 (by omega) (by omega)
        have em2 : mm = 2 := by omega
        have etk : tkB n (memV mem pp 2) (nI oo) (nI mm) v = (decide (v = -1) || (hasB n v && !(ldB n (memV mem pp 2) n v (nI oo)))) := by subst em2; simp [tkB, show hasB n (nI oo) = true from by rw [← eo]; exact c11, show ¬ nI 2 = nI 0 from by decide, show ¬ nI 2 = nI 1 from by decide]
        refine lv_iload hx hb dX7_isFit_57 (lv_at hl 4 rfl) ?_
        refine lv_iconst (v := -1) hx hb dX7_isFit_59 (by decide) ?_
        refine lv_aload_n hx hb dX7_isFit_60 rfl (lv_at hl 0 rfl) ?_
        refine g_X7_X7_objects hx hb hown hK hW h2000 dX7_isFit_61 ?_
        refine lv_iconst (v := nI 1) hx hb dX7_isFit_64 (by decide) ?_
        refine lv_isub hx hb dX7_isFit_65 ?_
        refine vp_callSi (va_Run.run (va_runS (As := [.int (v), .int (-1), .int ((nI n) - (nI 1))]) (rest := []) ⟨hx, hb, hml, hown, hK.1.use _⟩ (c_X7_in l D cy z0 ad V v (-1) (nI n - nI 1)) (k_X7_X7_in hK.1 rfl rfl ⟨Nat.le_of_ble_eq_true rfl, Nat.le_of_ble_eq_true rfl⟩) (preS hK hz hW) rfl rfl hl.1 rfl (lv_room (Nat.le_of_ble_eq_true rfl)) dX7_isFit_66 ⟨Nat.le_of_ble_eq_true rfl, Nat.le_of_ble_eq_true rfl⟩)) (fun r66 h66 => ?_)
        have h66 : r66 = b2i (wiB v (-1) (nI n - nI 1)) := h66
        subst h66
        refine lv_if_ne (tgt := 74) hx hb dX7_isFit_69 (by decide) (fun c69 => ?_) (fun c69 => ?_)
        · skip
          have c69 := b2i_1.mp c69
          have c69 := c69
          have hv9 := wiB_m1t (by omega) c69
          refine lv_iload hx hb dX7_isFit_74 (lv_at hl 4 rfl) ?_
          refine lv_istore (lv' := [(5, .int (v)), (0, .ref (ad (2000))), (1, .int (nI pp)), (2, .int (nI oo)), (3, .int (nI mm)), (4, .int (v))]) hx hb dX7_isFit_76 hl (by decide) rfl (fun ls hl => ?_)
          refine wl (ι := Int32) (fun x => if x < 0 then 0 else dp x.toNatClampNeg + 1) (fun x g => ((x = -1 ∨ ∃ y, y < n ∧ x = nI y) ∧ ldB n (memV mem pp 2) n v (nI oo) = ldB n (memV mem pp 2) n x (nI oo)) ∧ ∃ ls, g = F0 m 78 ls [] ∧ lv_has ls 6 [(0, .ref (ad (2000))), (1, .int (nI pp)), (2, .int (nI oo)), (5, .int (x))]) ?_ (v) _ ⟨⟨hv9, rfl⟩, ls, rfl, lv_sub hl [1, 2, 3, 0] rfl⟩
          intro x g hg ih
          obtain ⟨⟨hx9, he9⟩, ls, rfl, hl⟩ := hg
          refine lv_iload hx hb dX7_isFit_78 (lv_at hl 3 rfl) ?_
          refine lv_if_lt (tgt := 107) hx hb dX7_isFit_80 (by decide) (fun c80 => ?_) (fun c80 => ?_)
          · skip
            refine lv_iload hx hb dX7_isFit_107 (lv_at hl 3 rfl) ?_
            refine lv_iload_n hx hb dX7_isFit_109 rfl (lv_at hl 2 rfl) ?_
            refine lv_icmp_eq (tgt := 117) hx hb dX7_isFit_110 (by decide) (fun c110 => ?_) (fun c110 => ?_)
            · skip
              refine lv_iconst (v := nI 0) hx hb dX7_isFit_117 (by decide) ?_
              exact rz hx hb hr hlocks dX7_isFit_118 (by first | exact b2i_n | rfl | decide) (by first | exact fit_t ha hd hn40 hoo etk he9 c110 | exact fit_f hn40 etk he9 c80 hv9 | exact absurd c86 c110)
            · skip
              refine lv_iconst (v := nI 1) hx hb dX7_isFit_113 (by decide) ?_
              refine lv_goto (tgt := 118) hx hb dX7_isFit_114 (by decide) ?_
              exact rz hx hb hr hlocks dX7_isFit_118 (by first | exact b2i_n | rfl | decide) (by first | exact fit_t ha hd hn40 hoo etk he9 c110 | exact fit_f hn40 etk he9 c80 hv9 | exact absurd c86 c110)
          · skip
            refine lv_iload hx hb dX7_isFit_83 (lv_at hl 3 rfl) ?_
            refine lv_iload_n hx hb dX7_isFit_85 rfl (lv_at hl 2 rfl) ?_
            refine lv_icmp_eq (tgt := 107) hx hb dX7_isFit_86 (by decide) (fun c86 => ?_) (fun c86 => ?_)
            · skip
              refine lv_iload hx hb dX7_isFit_107 (lv_at hl 3 rfl) ?_
              refine lv_iload_n hx hb dX7_isFit_109 rfl (lv_at hl 2 rfl) ?_
              refine lv_icmp_eq (tgt := 117) hx hb dX7_isFit_110 (by decide) (fun c110 => ?_) (fun c110 => ?_)
              · skip
                refine lv_iconst (v := nI 0) hx hb dX7_isFit_117 (by decide) ?_
                exact rz hx hb hr hlocks dX7_isFit_118 (by first | exact b2i_n | rfl | decide) (by first | exact fit_t ha hd hn40 hoo etk he9 c110 | exact fit_f hn40 etk he9 c80 hv9 | exact absurd c86 c110)
              · skip
                refine lv_iconst (v := nI 1) hx hb dX7_isFit_113 (by decide) ?_
                refine lv_goto (tgt := 118) hx hb dX7_isFit_114 (by decide) ?_
                exact rz hx hb hr hlocks dX7_isFit_118 (by first | exact b2i_n | rfl | decide) (by first | exact fit_t ha hd hn40 hoo etk he9 c110 | exact fit_f hn40 etk he9 c80 hv9 | exact absurd c86 c110)
            · skip
              obtain ⟨y, hy, ey⟩ : ∃ y, y < n ∧ x = nI y := hx9.resolve_left (fun q => by rw [q] at c80; revert c80; decide)
              refine lv_aload_n hx hb dX7_isFit_89 rfl (lv_at hl 0 rfl) ?_
              refine g_X7_X7_member hx hb hown hK hW h2000 dX7_isFit_90 ?_
              refine lv_aload_n hx hb dX7_isFit_93 rfl (lv_at hl 0 rfl) ?_
              refine lv_iload_n hx hb dX7_isFit_94 rfl (lv_at hl 1 rfl) ?_
              refine lv_iload hx hb dX7_isFit_95 (lv_at hl 3 rfl) ?_
              refine lv_iconst (v := nI 2) hx hb dX7_isFit_97 (by decide) ?_
              refine W.eq (g2 := F0 m 98 ls [.int (nI 2), .int (nI y), .int (nI pp), .ref (ad (2000)), .ref (ad (2008))]) (by rw [ey]) ?_
              refine vp_callSi (va_Run.run (va_runV (As := [.int (nI pp), .int (nI y), .int (nI 2)]) (rest := [.ref (ad (2008))]) ⟨hx, hb, hml, hown, hK.1.use _⟩ (c_X7_at l D cy z0 ad V pp y 2) (k_X7_X7_at hK.1 rfl rfl ⟨Nat.le_of_ble_eq_true rfl, Nat.le_of_ble_eq_true rfl⟩) (preV hK hz hW h2000 rfl) rfl rfl hl.1 rfl (lv_room (Nat.le_of_ble_eq_true rfl)) dX7_isFit_98 ⟨Nat.le_of_ble_eq_true rfl, Nat.le_of_ble_eq_true rfl⟩)) (fun r98 h98 => ?_)
              have h98 : r98 = nI (160 * pp + 4 * y + 2) := h98
              subst h98
              refine w_iald hx hb hK hW h2008 (j := 160 * pp + 4 * y + 2) (rfl) (by omega) (by omega) dX7_isFit_101 ?_
              refine asi (y := (memV mem pp 2) y) (rfl) ?_
              refine lv_istore (lv' := [(5, .int ((memV mem pp 2) y)), (0, .ref (ad (2000))), (1, .int (nI pp)), (2, .int (nI oo))]) hx hb dX7_isFit_102 hl (by decide) rfl (fun ls hl => ?_)
              refine lv_goto (tgt := 78) hx hb dX7_isFit_104 (by decide) ?_
              exact ih ((memV mem pp 2) y) _ ⟨⟨hg y hy, by rw [he9, ey, ld_step ha hd hn40 hy]; simp [show ¬ nI y = nI oo from fun q => c86 (by rw [ey]; exact q)]⟩, ls, rfl, lv_sub hl [1, 2, 3, 0] rfl⟩ (fit_d ha hn40 hg hy ey)
        · skip
          have c69 := b2i_0.mp c69
          have c69 := c69
          refine lv_iconst (v := nI 0) hx hb dX7_isFit_72 (by decide) ?_
          exact rz hx hb hr hlocks dX7_isFit_73 (by first | exact b2i_n | rfl | decide) (by obtain ⟨f1, f2⟩ := wiB_m1 (by omega) c69; rw [etk, f2]; simp [f1, b2i, nI])
      · skip
        have c27 := nI_nle' c27 (by omega) (by omega)
        refine lv_iload_n hx hb dX7_isFit_30 rfl (lv_at hl 3 rfl) ?_
        refine lv_if_ne (tgt := 48) hx hb dX7_isFit_31 (by decide) (fun c31 => ?_) (fun c31 => ?_)
        · skip
          have c31 := nI_ne' (b := 0) c31 (by omega) (by omega)
          refine lv_iload hx hb dX7_isFit_48 (lv_at hl 4 rfl) ?_
          refine lv_iconst (v := nI 0) hx hb dX7_isFit_50 (by decide) ?_
          refine lv_bipush (v := nI 20) hx hb dX7_isFit_51 (by decide) ?_
          refine vp_callSi (va_Run.run (va_runS (As := [.int (v), .int (nI 0), .int (nI 20)]) (rest := []) ⟨hx, hb, hml, hown, hK.1.use _⟩ (c_X7_in l D cy z0 ad V v (nI 0) (nI 20)) (k_X7_X7_in hK.1 rfl rfl ⟨Nat.le_of_ble_eq_true rfl, Nat.le_of_ble_eq_true rfl⟩) (preS hK hz hW) rfl rfl hl.1 rfl (lv_room (Nat.le_of_ble_eq_true rfl)) dX7_isFit_53 ⟨Nat.le_of_ble_eq_true rfl, Nat.le_of_ble_eq_true rfl⟩)) (fun r53 h53 => ?_)
          have h53 : r53 = b2i (wiB v (nI 0) (nI 20)) := h53
          subst h53
          exact rz hx hb hr hlocks dX7_isFit_56 (by first | exact b2i_n | rfl | decide) (by first | (have e0 : mm = 0 := (by omega); subst e0; simp [tkB, show hasB n (nI oo) = true from by rw [← eo]; exact c11]; done) | (have e1 : mm = 1 := (by omega); subst e1; simp [tkB, show hasB n (nI oo) = true from by rw [← eo]; exact c11, show ¬ nI 1 = nI 0 from by decide]; done))
        · skip
          have c31 := nI_eq' (b := 0) c31 (by omega) (by omega)
          refine lv_iload hx hb dX7_isFit_34 (lv_at hl 4 rfl) ?_
          refine lv_sipush (v := -1000) hx hb dX7_isFit_36 (by decide) ?_
          refine lv_sipush (v := nI 1000) hx hb dX7_isFit_39 (by decide) ?_
          refine vp_callSi (va_Run.run (va_runS (As := [.int (v), .int (-1000), .int (nI 1000)]) (rest := []) ⟨hx, hb, hml, hown, hK.1.use _⟩ (c_X7_in l D cy z0 ad V v (-1000) (nI 1000)) (k_X7_X7_in hK.1 rfl rfl ⟨Nat.le_of_ble_eq_true rfl, Nat.le_of_ble_eq_true rfl⟩) (preS hK hz hW) rfl rfl hl.1 rfl (lv_room (Nat.le_of_ble_eq_true rfl)) dX7_isFit_42 ⟨Nat.le_of_ble_eq_true rfl, Nat.le_of_ble_eq_true rfl⟩)) (fun r42 h42 => ?_)
          have h42 : r42 = b2i (wiB v (-1000) (nI 1000)) := h42
          subst h42
          refine lv_goto (tgt := 56) hx hb dX7_isFit_45 (by decide) ?_
          exact rz hx hb hr hlocks dX7_isFit_56 (by first | exact b2i_n | rfl | decide) (by first | (have e0 : mm = 0 := (by omega); subst e0; simp [tkB, show hasB n (nI oo) = true from by rw [← eo]; exact c11]; done) | (have e1 : mm = 1 := (by omega); subst e1; simp [tkB, show hasB n (nI oo) = true from by rw [← eo]; exact c11, show ¬ nI 1 = nI 0 from by decide]; done))
    · skip
      have c20 := b2i_0.mp c20
      refine lv_iconst (v := nI 0) hx hb dX7_isFit_23 (by decide) ?_
      exact rz hx hb hr hlocks dX7_isFit_24 (by first | exact b2i_n | rfl | decide) (by first | (simp [tkB, c11, b2i, nI]; done) | (have e0 : ¬ mi = nI 0 := (fun q => by rw [q] at c20; revert c20; decide); have e1 : ¬ mi = nI 1 := (fun q => by rw [q] at c20; revert c20; decide); have e2 : ¬ mi = nI 2 := (fun q => by rw [q] at c20; revert c20; decide); rw [show tkB n (memV mem pp 2) o mi v = false from by simp [tkB, e0, e1, e2]]; rfl))
