theorem fe_next {n i y : Nat} {M : Nat → Nat → Int32} {sm : Int32} (hE : endK n M) (hg : ∀ o, o < n → M 2 o = -1 ∨ ∃ b, b < n ∧ M 2 o = nI b) (hn : n ≤ 40) (hy : y < n) (e : sm + M 3 y = M 3 i) : (M 2 y = -1 ∧ sm + M 0 y = M 3 i) ∨ ∃ z, z < n ∧ M 2 y = nI z ∧ sm + M 0 y + M 3 z = M 3 i := by
  have h := hE y hy
  unfold dueM at h
  rcases hg y hy with q | ⟨b, hb, q⟩
  · left
    rw [q, neg1] at h
    refine ⟨q, ?_⟩
    rw [← e, h]
    simp [nI_0]
  · right
    refine ⟨b, hb, q, ?_⟩
    rw [q, hasB_nI (by omega) (by omega), nI_clamp (by omega)] at h
    rw [← e, h]
    simp [hb, Int32.add_assoc]

set_option maxHeartbeats 4000000 in
set_option maxRecDepth 100000 in
theorem c_X7_findEnds (l : Launch) (D : va_G) (cy : Nat → ClassId) (z0 : Nat) (ad : Nat → Nat) (V : Nat → Option va_E) (n k P K : Nat) (ev : Int32) (h2000 : V 2000 = some (.inr (7, [.int (nI n), .int (nI k), .ref (ad (2002)), .ref (ad (2003)), .ref (ad (2004)), .ref (ad (2005)), .ref (ad (2006)), .int (nI P), .ref (ad (2008)), .ref (ad (2009)), .ref (ad (2010)), .ref (ad (2011)), .ref (ad (2012)), .ref (ad (2013)), .ref (ad (2014)), .ref (ad (2015)), .ref (ad (2016)), .ref (ad (2017)), .ref (ad (2018)), .ref (ad (2019)), .ref (ad (2020)), .int (ev), .int (nI K), .ref (ad (2023)), .ref (ad (2024)), .ref (ad (2025)), .ref (ad (2026)), .ref (ad (2027))]))) (mem : Nat → Int32) (h2008 : V 2008 = some (.inl (cy 0, 640, .inl mem))) (hn40 : n ≤ 40) (pp : Nat) (hp4 : pp < 4) (M : Nat → Nat → Int32) (hv3 : ∀ m, m < 3 → ∀ o, o < 40 → mem (160 * pp + 4 * o + m) = M m o) (hM : okM n M) : Met l yX7_findEnds [Cond.code yX7_findEnds cX7_findEnds 5 none] { frames := 1, cells := 0, slots := 0, locals := 23 } (WP [.ref (ad (2000)), .int (nI pp)] D cy z0 ad V) (va_Qv (fun u => u.1 = ad ∧ u.2 2008 = some (.inl (cy 0, 640, .inl (feM mem pp (M 3) n))) ∧ ∀ L, ¬ L = 2008 → u.2 L = V L) (WB D z0) (AA z0)) 0 0 (AA z0) := by
  refine met_of (by decide) (Nat.le_of_ble_eq_true rfl) (fun p e s m below meth c hx hb hr hml hown hlocks hnm hK hz hW ls hl => ?_)
  have hown : s.vm.findClass RX7 = some m.cls := hown
  have hl : lv_has ls 5 [(0, .ref (ad (2000))), (1, .int (nI pp))] := hl
  have hS : va_S (AA z0) s.heap s.heap [] := va_S.rf
  obtain ⟨rk0, ha0⟩ := hM.2.2.1
  obtain ⟨ha, hd⟩ := acy_c ha0
  have hE := hM.2.2.2.1
  have hg := hM.2.1
  refine lv_iconst (v := nI 0) hx hb dX7_findEnds_0 (by decide) ?_
  refine lv_istore_n (lv' := [(2, .int (nI 0)), (0, .ref (ad (2000))), (1, .int (nI pp))]) hx hb dX7_findEnds_1 rfl hl (by decide) rfl (fun ls hl => ?_)
  refine wlh (ι := Nat) (fun i => n - i) (fun i H locs g => (i ≤ n) ∧ (∃ X, (X 2000 = some (.inr (7, [.int (nI n), .int (nI k), .ref (ad (2002)), .ref (ad (2003)), .ref (ad (2004)), .ref (ad (2005)), .ref (ad (2006)), .int (nI P), .ref (ad (2008)), .ref (ad (2009)), .ref (ad (2010)), .ref (ad (2011)), .ref (ad (2012)), .ref (ad (2013)), .ref (ad (2014)), .ref (ad (2015)), .ref (ad (2016)), .ref (ad (2017)), .ref (ad (2018)), .ref (ad (2019)), .ref (ad (2020)), .int (ev), .int (nI K), .ref (ad (2023)), .ref (ad (2024)), .ref (ad (2025)), .ref (ad (2026)), .ref (ad (2027))])) ∧ X 2008 = some (.inl (cy 0, 640, .inl (feM mem pp (M 3) i))) ∧ ∀ L, ¬ L = 2008 → X L = V L) ∧ HW D z0 ad X H) ∧ va_S (AA z0) s.heap H locs ∧ ∃ ls, g = F0 m 2 ls [] ∧ lv_has ls 5 [(0, .ref (ad (2000))), (1, .int (nI pp)), (2, .int (nI i))]) ?_ (0) _ _ _ ⟨Nat.zero_le _, ⟨_, ⟨h2000, by rw [feM_0]; exact h2008, fun _ _ => rfl⟩, hW⟩, hS, ls, rfl, lv_sub hl [1, 2, 0] rfl⟩
  intro i H locs g hg ih
  obtain ⟨hi, ⟨Vl, ⟨h2000, h2008, hfr⟩, hW⟩, hS, ls, rfl, hl⟩ := hg
  have ihO := ih
  refine lv_iload_n hx hb dX7_findEnds_2 rfl (lv_at hl 2 rfl) ?_
  refine lv_aload_n hx hb dX7_findEnds_3 rfl (lv_at hl 0 rfl) ?_
  refine g_X7_X7_objects hx hb hown hK hW h2000 dX7_findEnds_4 ?_
  refine lv_icmp_ge (tgt := 73) hx hb dX7_findEnds_7 (by decide) (fun c7 => ?_) (fun c7 => ?_)
  · skip
    have c7 := nI_le' c7 (by omega) (by omega)
    exact rwv hx hb hr hlocks dX7_findEnds_73 hW hS (⟨rfl, by have e9 : i = n := (by omega); rw [← e9]; exact h2008, hfr⟩)
  · skip
    have c7 := nI_nle' c7 (by omega) (by omega)
    refine lv_iconst (v := nI 0) hx hb dX7_findEnds_10 (by decide) ?_
    refine lv_istore_n (lv' := [(3, .int (nI 0)), (0, .ref (ad (2000))), (1, .int (nI pp)), (2, .int (nI i))]) hx hb dX7_findEnds_11 rfl hl (by decide) rfl (fun ls hl => ?_)
    refine lv_iload_n hx hb dX7_findEnds_12 rfl (lv_at hl 3 rfl) ?_
    refine lv_istore (lv' := [(4, .int (nI i)), (3, .int (nI 0)), (0, .ref (ad (2000))), (1, .int (nI pp)), (2, .int (nI i))]) hx hb dX7_findEnds_13 hl (by decide) rfl (fun ls hl => ?_)
    refine wl (ι := Int32 × Int32) (fun q => if q.1 < 0 then 0 else crk rk0 q.1.toNatClampNeg n + 1) (fun q g => ((q.1 = -1 ∧ q.2 = M 3 i) ∨ ∃ y, y < n ∧ q.1 = nI y ∧ q.2 + M 3 y = M 3 i) ∧ ∃ ls, g = F0 m 15 ls [] ∧ lv_has ls 5 [(0, .ref (ad (2000))), (1, .int (nI pp)), (2, .int (nI i)), (3, .int (q.2)), (4, .int (q.1))]) ?_ ((nI i, nI 0)) _ ⟨Or.inr ⟨i, by omega, rfl, by show nI 0 + _ = _; rw [nI_0]; simp⟩, ls, rfl, lv_sub hl [2, 3, 4, 1, 0] rfl⟩
    intro ⟨x, sm⟩ g hg ih
    obtain ⟨hq, ls, rfl, hl⟩ := hg
    have hq : (x = -1 ∧ sm = M 3 i) ∨ ∃ y, y < n ∧ x = nI y ∧ sm + M 3 y = M 3 i := hq
    have hl : lv_has ls 5 [(0, .ref (ad (2000))), (1, .int (nI pp)), (2, .int (nI i)), (3, .int (sm)), (4, .int (x))] := hl
    refine lv_iload hx hb dX7_findEnds_15 (lv_at hl 4 rfl) ?_
    refine lv_if_lt (tgt := 54) hx hb dX7_findEnds_17 (by decide) (fun c17 => ?_) (fun c17 => ?_)
    · skip
      have esm : sm = M 3 i := by
        rcases hq with q | ⟨y, hy, ey, _⟩
        · exact q.2
        · rw [ey] at c17; exact absurd c17 (nI_pos (by omega))
      refine lv_aload_n hx hb dX7_findEnds_54 rfl (lv_at hl 0 rfl) ?_
      refine g_X7_X7_member hx hb hown hK hW h2000 dX7_findEnds_55 ?_
      refine lv_aload_n hx hb dX7_findEnds_58 rfl (lv_at hl 0 rfl) ?_
      refine lv_iload_n hx hb dX7_findEnds_59 rfl (lv_at hl 1 rfl) ?_
      refine lv_iload_n hx hb dX7_findEnds_60 rfl (lv_at hl 2 rfl) ?_
      refine lv_iconst (v := nI 3) hx hb dX7_findEnds_61 (by decide) ?_
      refine vp_callSi (va_Run.run (va_runV (As := [.int (nI pp), .int (nI i), .int (nI 3)]) (rest := [.ref (ad (2008))]) ⟨hx, hb, hml, hown, hK.1.use _⟩ (c_X7_at l D cy z0 ad Vl pp i 3) (k_X7_X7_at hK.1 rfl rfl ⟨Nat.le_of_ble_eq_true rfl, Nat.le_of_ble_eq_true rfl⟩) (preV hK (Nat.le_trans hz hS.1) hW h2000 rfl) rfl rfl hl.1 rfl (lv_room (Nat.le_of_ble_eq_true rfl)) dX7_findEnds_62 ⟨Nat.le_of_ble_eq_true rfl, Nat.le_of_ble_eq_true rfl⟩)) (fun r62 h62 => ?_)
      have h62 : r62 = nI (160 * pp + 4 * i + 3) := h62
      subst h62
      have hq65_3 : (sm) = (M 3 i) := esm
      rw [hq65_3] at hl
      refine lv_iload_n hx hb dX7_findEnds_65 rfl (lv_at hl 3 rfl) ?_
      refine w_iast hx hb hK hW hS h2008 (j := 160 * pp + 4 * i + 3) (rfl) (by omega) (by omega) dX7_findEnds_66 (fun H locs hW hS => ?_)
      obtain ⟨V1, eV1⟩ : ∃ x9, x9 = va_up Vl (2008) (some (.inl (cy 0, 640, .inl (upd (feM mem pp (M 3) i) (160 * pp + 4 * i + 3) (M 3 i))))) := ⟨_, rfl⟩
      rw [← eV1] at hW
      have h2000 : V1 (2000) = some (.inr (7, [.int (nI n), .int (nI k), .ref (ad (2002)), .ref (ad (2003)), .ref (ad (2004)), .ref (ad (2005)), .ref (ad (2006)), .int (nI P), .ref (ad (2008)), .ref (ad (2009)), .ref (ad (2010)), .ref (ad (2011)), .ref (ad (2012)), .ref (ad (2013)), .ref (ad (2014)), .ref (ad (2015)), .ref (ad (2016)), .ref (ad (2017)), .ref (ad (2018)), .ref (ad (2019)), .ref (ad (2020)), .int (ev), .int (nI K), .ref (ad (2023)), .ref (ad (2024)), .ref (ad (2025)), .ref (ad (2026)), .ref (ad (2027))])) := by rw [eV1, va_up_ne _ _ (by omega)]; exact h2000
      have h2008 : V1 (2008) = some (.inl (cy 0, 640, .inl (upd (feM mem pp (M 3) i) (160 * pp + 4 * i + 3) (M 3 i)))) := by rw [eV1, va_up_self]
      refine lv_iinc (v := nI (i + 1)) (lv' := [(2, .int (nI (i + 1))), (0, .ref (ad (2000))), (1, .int (nI pp)), (3, .int (M 3 i)), (4, .int (x))]) hx hb dX7_findEnds_67 hl (k := 2) rfl (by rw [show Int32.ofInt 1 = nI 1 from by decide]; exact nI_add _ _) (by decide) rfl (fun ls hl => ?_)
      refine lv_goto (tgt := 2) hx hb dX7_findEnds_70 (by decide) ?_
      exact ihO (i + 1) _ _ _ ⟨by omega, ⟨_, ⟨h2000, by rw [← feM_s]; exact h2008, fun L hL => by rw [eV1, va_up_ne _ _ hL]; exact hfr L hL⟩, hW⟩, hS, ls, rfl, lv_sub hl [1, 2, 0] rfl⟩ (by omega)
    · skip
      obtain ⟨y, hy, ey, esm⟩ : ∃ y, y < n ∧ x = nI y ∧ sm + M 3 y = M 3 i := hq.resolve_left (fun q => by rw [q.1] at c17; revert c17; decide)
      refine lv_iload_n hx hb dX7_findEnds_20 rfl (lv_at hl 3 rfl) ?_
      refine lv_aload_n hx hb dX7_findEnds_21 rfl (lv_at hl 0 rfl) ?_
      refine g_X7_X7_member hx hb hown hK hW h2000 dX7_findEnds_22 ?_
      refine lv_aload_n hx hb dX7_findEnds_25 rfl (lv_at hl 0 rfl) ?_
      refine lv_iload_n hx hb dX7_findEnds_26 rfl (lv_at hl 1 rfl) ?_
      refine lv_iload hx hb dX7_findEnds_27 (lv_at hl 4 rfl) ?_
      refine lv_iconst (v := nI 0) hx hb dX7_findEnds_29 (by decide) ?_
      refine W.eq (g2 := F0 m 30 ls [.int (nI 0), .int (nI y), .int (nI pp), .ref (ad (2000)), .ref (ad (2008)), .int (sm)]) (by rw [ey]) ?_
      refine vp_callSi (va_Run.run (va_runV (As := [.int (nI pp), .int (nI y), .int (nI 0)]) (rest := [.ref (ad (2008)), .int (sm)]) ⟨hx, hb, hml, hown, hK.1.use _⟩ (c_X7_at l D cy z0 ad Vl pp y 0) (k_X7_X7_at hK.1 rfl rfl ⟨Nat.le_of_ble_eq_true rfl, Nat.le_of_ble_eq_true rfl⟩) (preV hK (Nat.le_trans hz hS.1) hW h2000 rfl) rfl rfl hl.1 rfl (lv_room (Nat.le_of_ble_eq_true rfl)) dX7_findEnds_30 ⟨Nat.le_of_ble_eq_true rfl, Nat.le_of_ble_eq_true rfl⟩)) (fun r30 h30 => ?_)
      have h30 : r30 = nI (160 * pp + 4 * y + 0) := h30
      subst h30
      refine w_iald hx hb hK hW h2008 (j := 160 * pp + 4 * y + 0) (rfl) (by omega) (by omega) dX7_findEnds_33 ?_
      refine asi (y := M 0 y) (by rw [feM_m (by omega)]; exact hv3 0 (by omega) y (by omega)) ?_
      refine lv_iadd hx hb dX7_findEnds_34 ?_
      refine lv_istore_n (lv' := [(3, .int (sm + (M 0 y))), (0, .ref (ad (2000))), (1, .int (nI pp)), (2, .int (nI i)), (4, .int (x))]) hx hb dX7_findEnds_35 rfl hl (by decide) rfl (fun ls hl => ?_)
      refine lv_aload_n hx hb dX7_findEnds_36 rfl (lv_at hl 1 rfl) ?_
      refine g_X7_X7_member hx hb hown hK hW h2000 dX7_findEnds_37 ?_
      refine lv_aload_n hx hb dX7_findEnds_40 rfl (lv_at hl 1 rfl) ?_
      refine lv_iload_n hx hb dX7_findEnds_41 rfl (lv_at hl 2 rfl) ?_
      refine lv_iload hx hb dX7_findEnds_42 (lv_at hl 4 rfl) ?_
      refine lv_iconst (v := nI 2) hx hb dX7_findEnds_44 (by decide) ?_
      refine W.eq (g2 := F0 m 45 ls [.int (nI 2), .int (nI y), .int (nI pp), .ref (ad (2000)), .ref (ad (2008))]) (by rw [ey]) ?_
      refine vp_callSi (va_Run.run (va_runV (As := [.int (nI pp), .int (nI y), .int (nI 2)]) (rest := [.ref (ad (2008))]) ⟨hx, hb, hml, hown, hK.1.use _⟩ (c_X7_at l D cy z0 ad Vl pp y 2) (k_X7_X7_at hK.1 rfl rfl ⟨Nat.le_of_ble_eq_true rfl, Nat.le_of_ble_eq_true rfl⟩) (preV hK (Nat.le_trans hz hS.1) hW h2000 rfl) rfl rfl hl.1 rfl (lv_room (Nat.le_of_ble_eq_true rfl)) dX7_findEnds_45 ⟨Nat.le_of_ble_eq_true rfl, Nat.le_of_ble_eq_true rfl⟩)) (fun r45 h45 => ?_)
      have h45 : r45 = nI (160 * pp + 4 * y + 2) := h45
      subst h45
      refine w_iald hx hb hK hW h2008 (j := 160 * pp + 4 * y + 2) (rfl) (by omega) (by omega) dX7_findEnds_48 ?_
      refine asi (y := M 2 y) (by rw [feM_m (by omega)]; exact hv3 2 (by omega) y (by omega)) ?_
      refine lv_istore (lv' := [(4, .int (M 2 y)), (3, .int (sm + (M 0 y))), (0, .ref (ad (2000))), (1, .int (nI pp)), (2, .int (nI i))]) hx hb dX7_findEnds_49 hl (by decide) rfl (fun ls hl => ?_)
      refine lv_goto (tgt := 15) hx hb dX7_findEnds_51 (by decide) ?_
      exact ih ((M 2 y, sm + M 0 y)) _ ⟨fe_next hE hg (by omega) hy esm, ls, rfl, lv_sub hl [2, 3, 4, 1, 0] rfl⟩ (fit_d (g := M 2) (dp := fun x => crk rk0 x n) ha hn40 hg hy ey)

set_option maxHeartbeats 4000000 in
set_option maxRecDepth 100000 in
theorem c_X7_put (l : Launch) (D : va_G) (cy : Nat → ClassId) (z0 : Nat) (ad : Nat → Nat) (V : Nat → Option va_E) (n k P K : Nat) (ev : Int32) (h2000 : V 2000 = some (.inr (7, [.int (nI n), .int (nI k), .ref (ad (2002)), .ref (ad (2003)), .ref (ad (2004)), .ref (ad (2005)), .ref (ad (2006)), .int (nI P), .ref (ad (2008)), .ref (ad (2009)), .ref (ad (2010)), .ref (ad (2011)), .ref (ad (2012)), .ref (ad (2013)), .ref (ad (2014)), .ref (ad (2015)), .ref (ad (2016)), .ref (ad (2017)), .ref (ad (2018)), .ref (ad (2019)), .ref (ad (2020)), .int (ev), .int (nI K), .ref (ad (2023)), .ref (ad (2024)), .ref (ad (2025)), .ref (ad (2026)), .ref (ad (2027))]))) (mem : Nat → Int32) (h2008 : V 2008 = some (.inl (cy 0, 640, .inl mem))) (hn40 : n ≤ 40) (pp : Nat) (hp4 : pp < 4) (M : Nat → Nat → Int32) (hv : viewR mem pp M) (oo mm : Nat) (v : Int32) (hoo : oo < n) (hm3 : mm < 3) (hM : okM n (putM n M mm oo v)) : Met l yX7_put [Cond.code yX7_put cX7_put 5 none] { frames := 2, cells := 0, slots := 0, locals := 47 } (WP [.ref (ad (2000)), .int (nI pp), .int (nI oo), .int (nI mm), .int (v)] D cy z0 ad V) (va_Qv (fun u => u.1 = ad ∧ (∃ mem2, u.2 2008 = some (.inl (cy 0, 640, .inl mem2)) ∧ viewR mem2 pp (putM n M mm oo v) ∧ ∀ j, (j < 160 * pp ∨ 160 * pp + 160 ≤ j) → mem2 j = mem j) ∧ ∀ L, ¬ L = 2008 → u.2 L = V L) (WB D z0) (AA z0)) 0 0 (AA z0) := by
  refine met_of (by decide) (Nat.le_of_ble_eq_true rfl) (fun p e s m below meth c hx hb hr hml hown hlocks hnm hK hz hW ls hl => ?_)
  have hown : s.vm.findClass RX7 = some m.cls := hown
  have hl : lv_has ls 5 [(0, .ref (ad (2000))), (1, .int (nI pp)), (2, .int (nI oo)), (3, .int (nI mm)), (4, .int (v))] := hl
  have hS : va_S (AA z0) s.heap s.heap [] := va_S.rf
  refine lv_aload_n hx hb dX7_put_0 rfl (lv_at hl 0 rfl) ?_
  refine g_X7_X7_member hx hb hown hK hW h2000 dX7_put_1 ?_
  refine lv_aload_n hx hb dX7_put_4 rfl (lv_at hl 0 rfl) ?_
  refine lv_iload_n hx hb dX7_put_5 rfl (lv_at hl 1 rfl) ?_
  refine lv_iload_n hx hb dX7_put_6 rfl (lv_at hl 2 rfl) ?_
  refine lv_iload_n hx hb dX7_put_7 rfl (lv_at hl 3 rfl) ?_
  refine vp_callSi (va_Run.run (va_runV (As := [.int (nI pp), .int (nI oo), .int (nI mm)]) (rest := [.ref (ad (2008))]) ⟨hx, hb, hml, hown, hK.1.use _⟩ (c_X7_at l D cy z0 ad V pp oo mm) (k_X7_X7_at hK.1 rfl rfl ⟨Nat.le_of_ble_eq_true rfl, Nat.le_of_ble_eq_true rfl⟩) (preV hK hz hW h2000 rfl) rfl rfl hl.1 rfl (lv_room (Nat.le_of_ble_eq_true rfl)) dX7_put_8 ⟨Nat.le_of_ble_eq_true rfl, Nat.le_of_ble_eq_true rfl⟩)) (fun r8 h8 => ?_)
  have h8 : r8 = nI (160 * pp + 4 * oo + mm) := h8
  subst h8
  refine lv_iload hx hb dX7_put_11 (lv_at hl 4 rfl) ?_
  refine w_iast hx hb hK hW hS h2008 (j := 160 * pp + 4 * oo + mm) (rfl) (by omega) (by omega) dX7_put_13 (fun H locs hW hS => ?_)
  obtain ⟨V1, eV1⟩ : ∃ x9, x9 = va_up V (2008) (some (.inl (cy 0, 640, .inl (upd mem (160 * pp + 4 * oo + mm) v)))) := ⟨_, rfl⟩
  rw [← eV1] at hW
  have h2000 : V1 (2000) = some (.inr (7, [.int (nI n), .int (nI k), .ref (ad (2002)), .ref (ad (2003)), .ref (ad (2004)), .ref (ad (2005)), .ref (ad (2006)), .int (nI P), .ref (ad (2008)), .ref (ad (2009)), .ref (ad (2010)), .ref (ad (2011)), .ref (ad (2012)), .ref (ad (2013)), .ref (ad (2014)), .ref (ad (2015)), .ref (ad (2016)), .ref (ad (2017)), .ref (ad (2018)), .ref (ad (2019)), .ref (ad (2020)), .int (ev), .int (nI K), .ref (ad (2023)), .ref (ad (2024)), .ref (ad (2025)), .ref (ad (2026)), .ref (ad (2027))])) := by rw [eV1, va_up_ne _ _ (by omega)]; exact h2000
  have h2008 : V1 (2008) = some (.inl (cy 0, 640, .inl (upd mem (160 * pp + 4 * oo + mm) v))) := by rw [eV1, va_up_self]
  refine lv_aload_n hx hb dX7_put_14 rfl (lv_at hl 0 rfl) ?_
  refine lv_iload_n hx hb dX7_put_15 rfl (lv_at hl 1 rfl) ?_
  refine cv (va_runV (As := [.int (nI pp)]) (rest := []) ⟨hx, hb, hml, hown, hK.1.use _⟩ (c_X7_findEnds l D cy z0 ad V1 n k P K ev h2000 _ h2008 hn40 pp hp4 (putM n M mm oo v) (put_view hv hoo hm3).2 hM) (k_X7_X7_findEnds hK.1 rfl rfl ⟨Nat.le_of_ble_eq_true rfl, Nat.le_of_ble_eq_true rfl⟩) (preV hK (Nat.le_trans hz hS.1) hW h2000 rfl) rfl rfl hl.1 rfl (lv_room (Nat.le_of_ble_eq_true rfl)) dX7_put_16 ⟨Nat.le_of_ble_eq_true rfl, Nat.le_of_ble_eq_true rfl⟩) hS (fun ad16 Vc16 H locs h16 hW hS => ?_)
  obtain ⟨e16, g8, gfr⟩ := h16
  obtain rfl : ad = ad16 := e16.symm
  exact rwv hx hb hr hlocks dX7_put_19 hW hS (⟨rfl, ⟨_, g8, (put_view hv hoo hm3).1, fun j hj => by rw [feM_out (by omega), pk_un (by omega)]⟩, fun L hL => by rw [gfr L hL, eV1, va_up_ne _ _ hL]⟩)

set_option maxHeartbeats 4000000 in
set_option maxRecDepth 100000 in
theorem c_X7_remember (l : Launch) (D : va_G) (cy : Nat → ClassId) (z0 : Nat) (ad : Nat → Nat) (V : Nat → Option va_E) (n k P K : Nat) (ev : Int32) (h2000 : V 2000 = some (.inr (7, [.int (nI n), .int (nI k), .ref (ad (2002)), .ref (ad (2003)), .ref (ad (2004)), .ref (ad (2005)), .ref (ad (2006)), .int (nI P), .ref (ad (2008)), .ref (ad (2009)), .ref (ad (2010)), .ref (ad (2011)), .ref (ad (2012)), .ref (ad (2013)), .ref (ad (2014)), .ref (ad (2015)), .ref (ad (2016)), .ref (ad (2017)), .ref (ad (2018)), .ref (ad (2019)), .ref (ad (2020)), .int (ev), .int (nI K), .ref (ad (2023)), .ref (ad (2024)), .ref (ad (2025)), .ref (ad (2026)), .ref (ad (2027))]))) (ak : Nat → Int32) (h2002 : V 2002 = some (.inl (cy 0, 12, .inl ak))) (al : Nat → Int32) (h2003 : V 2003 = some (.inl (cy 0, 12, .inl al))) (ab : Nat → Int32) (h2004 : V 2004 = some (.inl (cy 0, 12, .inl ab))) (aw : Nat → Int32) (h2005 : V 2005 = some (.inl (cy 0, 12, .inl aw))) (mem : Nat → Int32) (h2008 : V 2008 = some (.inl (cy 0, 640, .inl mem))) (was : Nat → Int32) (h2026 : V 2026 = some (.inl (cy 0, 160, .inl was))) (wwa : Nat → Int64) (h2027 : V 2027 = some (.inl (cy 1, 12, .inr (.inl wwa)))) (hn40 : n ≤ 40) (pp : Nat) (hp4 : pp < 4) (ρ : RuT) (hk : okR k ρ) (hkb : okB k ρ) (hru : ruleR k ρ ak al ab aw) (M : Nat → Nat → Int32) (hv : viewR mem pp M) (hM : okM n M) : Met l yX7_remember [Cond.code yX7_remember cX7_remember 3 none] { frames := 2, cells := 0, slots := 0, locals := 57 } (WP [.ref (ad (2000)), .int (nI pp)] D cy z0 ad V) (va_Qv (fun u => u.1 = ad ∧ (∃ was2 wwa2, u.2 2026 = some (.inl (cy 0, 160, .inl was2)) ∧ u.2 2027 = some (.inl (cy 1, 12, .inr (.inl wwa2))) ∧ (∀ j, j < 160 → was2 j = mem (160 * pp + j)) ∧ ∀ r, r < k → wwa2 r = wthR ρ r M n) ∧ ∀ L, ¬ L = 2026 → ¬ L = 2027 → u.2 L = V L) (WB D z0) (AA z0)) 0 0 (AA z0) := by
  refine met_of (by decide) (Nat.le_of_ble_eq_true rfl) (fun p e s m below meth c hx hb hr hml hown hlocks hnm hK hz hW ls hl => ?_)
  have hown : s.vm.findClass RX7 = some m.cls := hown
  have hl : lv_has ls 3 [(0, .ref (ad (2000))), (1, .int (nI pp))] := hl
  have hS : va_S (AA z0) s.heap s.heap [] := va_S.rf
  have hk12 := hk.1
  refine lv_iconst (v := nI 0) hx hb dX7_remember_0 (by decide) ?_
  refine lv_istore_n (lv' := [(2, .int (nI 0)), (0, .ref (ad (2000))), (1, .int (nI pp))]) hx hb dX7_remember_1 rfl hl (by decide) rfl (fun ls hl => ?_)
  refine wlh (ι := Nat) (fun i => 160 - i) (fun i H locs g => (i ≤ 160) ∧ (∃ X, (X 2026 = some (.inl (cy 0, 160, .inl (cpA mem was (160 * pp) 0 i))) ∧ ∀ L, ¬ L = 2026 → X L = V L) ∧ HW D z0 ad X H) ∧ va_S (AA z0) s.heap H locs ∧ ∃ ls, g = F0 m 2 ls [] ∧ lv_has ls 3 [(0, .ref (ad (2000))), (1, .int (nI pp)), (2, .int (nI i))]) ?_ (0) _ _ _ ⟨Nat.zero_le _, ⟨_, ⟨by rw [cpA_0]; exact h2026, fun _ _ => rfl⟩, hW⟩, hS, ls, rfl, lv_sub hl [1, 2, 0] rfl⟩
  intro i H locs g hg ih
  obtain ⟨hi, ⟨Vl, ⟨h2026, hfr⟩, hW⟩, hS, ls, rfl, hl⟩ := hg
  have h2000 : Vl 2000 = some (.inr (7, [.int (nI n), .int (nI k), .ref (ad (2002)), .ref (ad (2003)), .ref (ad (2004)), .ref (ad (2005)), .ref (ad (2006)), .int (nI P), .ref (ad (2008)), .ref (ad (2009)), .ref (ad (2010)), .ref (ad (2011)), .ref (ad (2012)), .ref (ad (2013)), .ref (ad (2014)), .ref (ad (2015)), .ref (ad (2016)), .ref (ad (2017)), .ref (ad (2018)), .ref (ad (2019)), .ref (ad (2020)), .int (ev), .int (nI K), .ref (ad (2023)), .ref (ad (2024)), .ref (ad (2025)), .ref (ad (2026)), .ref (ad (2027))])) := by rw [hfr _ (by omega)]; exact h2000
  have h2008 : Vl 2008 = some (.inl (cy 0, 640, .inl mem)) := by rw [hfr _ (by omega)]; exact h2008
  have h2002 := (hfr 2002 (by omega)).trans h2002
  have h2003 := (hfr 2003 (by omega)).trans h2003
  have h2004 := (hfr 2004 (by omega)).trans h2004
  have h2005 := (hfr 2005 (by omega)).trans h2005
  have h2027 := (hfr 2027 (by omega)).trans h2027
  refine lv_iload_n hx hb dX7_remember_2 rfl (lv_at hl 2 rfl) ?_
  refine lv_sipush (v := nI 160) hx hb dX7_remember_3 (by decide) ?_
  refine lv_icmp_ge (tgt := 33) hx hb dX7_remember_6 (by decide) (fun c6 => ?_) (fun c6 => ?_)
  · skip
    have c6 := nI_le' c6 (by omega) (by omega)
    have e9 : i = 160 := by omega
    rw [e9] at h2026
    refine lv_iconst (v := nI 0) hx hb dX7_remember_33 (by decide) ?_
    refine lv_istore_n (lv' := [(2, .int (nI 0)), (0, .ref (ad (2000))), (1, .int (nI pp))]) hx hb dX7_remember_34 rfl hl (by decide) rfl (fun ls hl => ?_)
    refine wlh (ι := Nat) (fun r => k - r) (fun r H locs g => (r ≤ k) ∧ (∃ X, (X 2026 = some (.inl (cy 0, 160, .inl (cpA mem was (160 * pp) 0 160))) ∧ (∃ ww, X 2027 = some (.inl (cy 1, 12, .inr (.inl ww))) ∧ ∀ x, x < r → ww x = wthR ρ x M n) ∧ ∀ L, ¬ L = 2026 → ¬ L = 2027 → X L = V L) ∧ HW D z0 ad X H) ∧ va_S (AA z0) s.heap H locs ∧ ∃ ls, g = F0 m 35 ls [] ∧ lv_has ls 3 [(0, .ref (ad (2000))), (1, .int (nI pp)), (2, .int (nI r))]) ?_ (0) _ _ _ ⟨Nat.zero_le _, ⟨_, ⟨h2026, ⟨wwa, h2027, fun x hx => by omega⟩, fun L a b => hfr L a⟩, hW⟩, hS, ls, rfl, lv_sub hl [1, 2, 0] rfl⟩
    intro r H locs g hg ih
    obtain ⟨hr9, ⟨Vk, ⟨h2026, ⟨ww, h2027, hww⟩, hfk⟩, hW⟩, hS, ls, rfl, hl⟩ := hg
    have h2000 : Vk 2000 = some (.inr (7, [.int (nI n), .int (nI k), .ref (ad (2002)), .ref (ad (2003)), .ref (ad (2004)), .ref (ad (2005)), .ref (ad (2006)), .int (nI P), .ref (ad (2008)), .ref (ad (2009)), .ref (ad (2010)), .ref (ad (2011)), .ref (ad (2012)), .ref (ad (2013)), .ref (ad (2014)), .ref (ad (2015)), .ref (ad (2016)), .ref (ad (2017)), .ref (ad (2018)), .ref (ad (2019)), .ref (ad (2020)), .int (ev), .int (nI K), .ref (ad (2023)), .ref (ad (2024)), .ref (ad (2025)), .ref (ad (2026)), .ref (ad (2027))])) := by rw [hfk _ (by omega) (by omega), ← hfr _ (by omega)]; exact h2000
    have h2002 := (hfk 2002 (by omega) (by omega)).trans ((hfr 2002 (by omega)).symm.trans h2002)
    have h2003 := (hfk 2003 (by omega) (by omega)).trans ((hfr 2003 (by omega)).symm.trans h2003)
    have h2004 := (hfk 2004 (by omega) (by omega)).trans ((hfr 2004 (by omega)).symm.trans h2004)
    have h2005 := (hfk 2005 (by omega) (by omega)).trans ((hfr 2005 (by omega)).symm.trans h2005)
    have h2008 := (hfk 2008 (by omega) (by omega)).trans ((hfr 2008 (by omega)).symm.trans h2008)
    refine lv_iload_n hx hb dX7_remember_35 rfl (lv_at hl 2 rfl) ?_
    refine lv_aload_n hx hb dX7_remember_36 rfl (lv_at hl 0 rfl) ?_
    refine g_X7_X7_rules hx hb hown hK hW h2000 dX7_remember_37 ?_
    refine lv_icmp_ge (tgt := 61) hx hb dX7_remember_40 (by decide) (fun c40 => ?_) (fun c40 => ?_)
    · skip
      have c40 := nI_le' c40 (by omega) (by omega)
      exact rwv hx hb hr hlocks dX7_remember_61 hW hS (⟨rfl, ⟨_, _, h2026, h2027, fun j hj => by have e9 := cpA_in (src := mem) (dst := was) (a := 160 * pp) (b := 0) hj; rw [Nat.zero_add] at e9; exact e9, fun x hx => hww x (by omega)⟩, hfk⟩)
    · skip
      have c40 := nI_nle' c40 (by omega) (by omega)
      refine lv_aload_n hx hb dX7_remember_43 rfl (lv_at hl 0 rfl) ?_
      refine g_X7_X7_worthWas hx hb hown hK hW h2000 dX7_remember_44 ?_
      refine lv_iload_n hx hb dX7_remember_47 rfl (lv_at hl 2 rfl) ?_
      refine lv_aload_n hx hb dX7_remember_48 rfl (lv_at hl 0 rfl) ?_
      refine lv_iload_n hx hb dX7_remember_49 rfl (lv_at hl 1 rfl) ?_
      refine lv_iload_n hx hb dX7_remember_50 rfl (lv_at hl 2 rfl) ?_
      refine vp_callSl (va_Run.run (va_runV (As := [.int (nI pp), .int (nI r)]) (rest := [.int (nI r), .ref (ad (2027))]) ⟨hx, hb, hml, hown, hK.1.use _⟩ (c_X7_worthP l D cy z0 ad Vk n k P K ev h2000 ak h2002 al h2003 ab h2004 aw h2005 mem h2008 hn40 pp (by omega) ρ M hv hM r (by have := hk.1; omega) (hk.2 r (by omega)) (hkb r (by omega)) (hru r (by omega))) (k_X7_X7_worthOf hK.1 rfl rfl ⟨Nat.le_of_ble_eq_true rfl, Nat.le_of_ble_eq_true rfl⟩) (preV hK (Nat.le_trans hz hS.1) hW h2000 rfl) rfl rfl hl.1 rfl (lv_room (Nat.le_of_ble_eq_true rfl)) dX7_remember_51 ⟨Nat.le_of_ble_eq_true rfl, Nat.le_of_ble_eq_true rfl⟩)) (fun r51 h51 => ?_)
      have h51 : r51 = wthR ρ r M n := h51
      subst h51
      refine w_last hx hb hK hW hS h2027 (j := r) (rfl) (by omega) (by omega) dX7_remember_54 (fun H locs hW hS => ?_)
      obtain ⟨V1, eV1⟩ : ∃ x9, x9 = va_up Vk (2027) (some (.inl (cy 1, 12, .inr (.inl (vp_updL ww r (wthR ρ r M n)))))) := ⟨_, rfl⟩
      rw [← eV1] at hW
      have h2000 : V1 (2000) = some (.inr (7, [.int (nI n), .int (nI k), .ref (ad (2002)), .ref (ad (2003)), .ref (ad (2004)), .ref (ad (2005)), .ref (ad (2006)), .int (nI P), .ref (ad (2008)), .ref (ad (2009)), .ref (ad (2010)), .ref (ad (2011)), .ref (ad (2012)), .ref (ad (2013)), .ref (ad (2014)), .ref (ad (2015)), .ref (ad (2016)), .ref (ad (2017)), .ref (ad (2018)), .ref (ad (2019)), .ref (ad (2020)), .int (ev), .int (nI K), .ref (ad (2023)), .ref (ad (2024)), .ref (ad (2025)), .ref (ad (2026)), .ref (ad (2027))])) := by rw [eV1, va_up_ne _ _ (by omega)]; exact h2000
      have h2002 : V1 (2002) = some (.inl (cy 0, 12, .inl ak)) := by rw [eV1, va_up_ne _ _ (by omega)]; exact h2002
      have h2003 : V1 (2003) = some (.inl (cy 0, 12, .inl al)) := by rw [eV1, va_up_ne _ _ (by omega)]; exact h2003
      have h2004 : V1 (2004) = some (.inl (cy 0, 12, .inl ab)) := by rw [eV1, va_up_ne _ _ (by omega)]; exact h2004
      have h2005 : V1 (2005) = some (.inl (cy 0, 12, .inl aw)) := by rw [eV1, va_up_ne _ _ (by omega)]; exact h2005
      have h2008 : V1 (2008) = some (.inl (cy 0, 640, .inl mem)) := by rw [eV1, va_up_ne _ _ (by omega)]; exact h2008
      have h2026 : V1 (2026) = some (.inl (cy 0, 160, .inl (cpA mem was (160 * pp) 0 160))) := by rw [eV1, va_up_ne _ _ (by omega)]; exact h2026
      have h2027 : V1 (2027) = some (.inl (cy 1, 12, .inr (.inl (vp_updL ww r (wthR ρ r M n))))) := by rw [eV1, va_up_self]
      refine lv_iinc (v := nI (r + 1)) (lv' := [(2, .int (nI (r + 1))), (0, .ref (ad (2000))), (1, .int (nI pp))]) hx hb dX7_remember_55 hl (k := 2) rfl (by rw [show Int32.ofInt 1 = nI 1 from by decide]; exact nI_add _ _) (by decide) rfl (fun ls hl => ?_)
      refine lv_goto (tgt := 35) hx hb dX7_remember_58 (by decide) ?_
      exact ih (r + 1) _ _ _ ⟨by omega, ⟨_, ⟨h2026, ⟨_, h2027, fun x hx => by
        by_cases q : x = r
        · subst q; simp [vp_updL]
        · simp only [vp_updL, if_neg q]; exact hww x (by omega)⟩, fun L a b => by rw [eV1, va_up_ne _ _ b]; exact hfk L a b⟩, hW⟩, hS, ls, rfl, lv_sub hl [1, 2, 0] rfl⟩ (by omega)
  · skip
    have c6 := nI_nle' c6 (by omega) (by omega)
    refine lv_aload_n hx hb dX7_remember_9 rfl (lv_at hl 0 rfl) ?_
    refine g_X7_X7_was hx hb hown hK hW h2000 dX7_remember_10 ?_
    refine lv_iload_n hx hb dX7_remember_13 rfl (lv_at hl 2 rfl) ?_
    refine lv_aload_n hx hb dX7_remember_14 rfl (lv_at hl 0 rfl) ?_
    refine g_X7_X7_member hx hb hown hK hW h2000 dX7_remember_15 ?_
    refine lv_sipush (v := nI 160) hx hb dX7_remember_18 (by decide) ?_
    refine lv_iload_n hx hb dX7_remember_21 rfl (lv_at hl 1 rfl) ?_
    refine lv_imul hx hb dX7_remember_22 ?_
    refine asi (y := nI (160 * pp)) (pk_mul _ _) ?_
    refine lv_iload_n hx hb dX7_remember_23 rfl (lv_at hl 2 rfl) ?_
    refine lv_iadd hx hb dX7_remember_24 ?_
    refine asi (y := nI ((160 * pp) + i)) (nI_add _ _) ?_
    refine w_iald hx hb hK hW h2008 (j := (160 * pp) + i) (rfl) (by omega) (by omega) dX7_remember_25 ?_
    refine w_iast hx hb hK hW hS h2026 (j := i) (rfl) (by omega) (by omega) dX7_remember_26 (fun H locs hW hS => ?_)
    obtain ⟨V2, eV2⟩ : ∃ x9, x9 = va_up Vl (2026) (some (.inl (cy 0, 160, .inl (upd (cpA mem was (160 * pp) 0 i) i (mem ((160 * pp) + i)))))) := ⟨_, rfl⟩
    rw [← eV2] at hW
    have h2000 : V2 (2000) = some (.inr (7, [.int (nI n), .int (nI k), .ref (ad (2002)), .ref (ad (2003)), .ref (ad (2004)), .ref (ad (2005)), .ref (ad (2006)), .int (nI P), .ref (ad (2008)), .ref (ad (2009)), .ref (ad (2010)), .ref (ad (2011)), .ref (ad (2012)), .ref (ad (2013)), .ref (ad (2014)), .ref (ad (2015)), .ref (ad (2016)), .ref (ad (2017)), .ref (ad (2018)), .ref (ad (2019)), .ref (ad (2020)), .int (ev), .int (nI K), .ref (ad (2023)), .ref (ad (2024)), .ref (ad (2025)), .ref (ad (2026)), .ref (ad (2027))])) := by rw [eV2, va_up_ne _ _ (by omega)]; exact h2000
    have h2002 : V2 (2002) = some (.inl (cy 0, 12, .inl ak)) := by rw [eV2, va_up_ne _ _ (by omega)]; exact h2002
    have h2003 : V2 (2003) = some (.inl (cy 0, 12, .inl al)) := by rw [eV2, va_up_ne _ _ (by omega)]; exact h2003
    have h2004 : V2 (2004) = some (.inl (cy 0, 12, .inl ab)) := by rw [eV2, va_up_ne _ _ (by omega)]; exact h2004
    have h2005 : V2 (2005) = some (.inl (cy 0, 12, .inl aw)) := by rw [eV2, va_up_ne _ _ (by omega)]; exact h2005
    have h2008 : V2 (2008) = some (.inl (cy 0, 640, .inl mem)) := by rw [eV2, va_up_ne _ _ (by omega)]; exact h2008
    have h2027 : V2 (2027) = some (.inl (cy 1, 12, .inr (.inl wwa))) := by rw [eV2, va_up_ne _ _ (by omega)]; exact h2027
    have h2026 : V2 (2026) = some (.inl (cy 0, 160, .inl (upd (cpA mem was (160 * pp) 0 i) i (mem ((160 * pp) + i))))) := by rw [eV2, va_up_self]
    refine lv_iinc (v := nI (i + 1)) (lv' := [(2, .int (nI (i + 1))), (0, .ref (ad (2000))), (1, .int (nI pp))]) hx hb dX7_remember_27 hl (k := 2) rfl (by rw [show Int32.ofInt 1 = nI 1 from by decide]; exact nI_add _ _) (by decide) rfl (fun ls hl => ?_)
    refine lv_goto (tgt := 2) hx hb dX7_remember_30 (by decide) ?_
    exact ih (i + 1) _ _ _ ⟨by omega, ⟨_, ⟨by have e9 := cpA_i mem was (160 * pp) 0 i; rw [Nat.zero_add] at e9; rw [← e9]; exact h2026, fun L hL => by rw [eV2, va_up_ne _ _ hL]; exact hfr L hL⟩, hW⟩, hS, ls, rfl, lv_sub hl [1, 2, 0] rfl⟩ (by omega)

set_option maxHeartbeats 4000000 in
set_option maxRecDepth 100000 in
theorem c_X7_firstFalse (l : Launch) (D : va_G) (cy : Nat → ClassId) (z0 : Nat) (ad : Nat → Nat) (V : Nat → Option va_E) (n k P K : Nat) (ev : Int32) (h2000 : V 2000 = some (.inr (7, [.int (nI n), .int (nI k), .ref (ad (2002)), .ref (ad (2003)), .ref (ad (2004)), .ref (ad (2005)), .ref (ad (2006)), .int (nI P), .ref (ad (2008)), .ref (ad (2009)), .ref (ad (2010)), .ref (ad (2011)), .ref (ad (2012)), .ref (ad (2013)), .ref (ad (2014)), .ref (ad (2015)), .ref (ad (2016)), .ref (ad (2017)), .ref (ad (2018)), .ref (ad (2019)), .ref (ad (2020)), .int (ev), .int (nI K), .ref (ad (2023)), .ref (ad (2024)), .ref (ad (2025)), .ref (ad (2026)), .ref (ad (2027))]))) (ak : Nat → Int32) (h2002 : V 2002 = some (.inl (cy 0, 12, .inl ak))) (al : Nat → Int32) (h2003 : V 2003 = some (.inl (cy 0, 12, .inl al))) (ab : Nat → Int32) (h2004 : V 2004 = some (.inl (cy 0, 12, .inl ab))) (aw : Nat → Int32) (h2005 : V 2005 = some (.inl (cy 0, 12, .inl aw))) (mem : Nat → Int32) (h2008 : V 2008 = some (.inl (cy 0, 640, .inl mem))) (kpt : Nat → Int64) (h2009 : V 2009 = some (.inl (cy 1, 48, .inr (.inl kpt)))) (hn40 : n ≤ 40) (pp : Nat) (hp4 : pp < 4) (ρ : RuT) (hk : okR k ρ) (hkb : okB k ρ) (hru : ruleR k ρ ak al ab aw) (M : Nat → Nat → Int32) (hv : viewR mem pp M) (hM : okM n M) : Met l yX7_firstFalse [Cond.code yX7_firstFalse cX7_firstFalse 3 (some .int)] { frames := 2, cells := 0, slots := 0, locals := 57 } (WP [.ref (ad (2000)), .int (nI pp)] D cy z0 ad V) (vp_Si (fun r => r = ffI (flB ρ M n (fun r => kpt (12 * pp + r))) k 0)) 0 0 (fun _ => False) := by
  refine met_of (by decide) (Nat.le_of_ble_eq_true rfl) (fun p e s m below meth c hx hb hr hml hown hlocks hnm hK hz hW ls hl => ?_)
  have hown : s.vm.findClass RX7 = some m.cls := hown
  have hl : lv_has ls 3 [(0, .ref (ad (2000))), (1, .int (nI pp))] := hl
  have hk12 := hk.1
  refine lv_iconst (v := nI 0) hx hb dX7_firstFalse_0 (by decide) ?_
  refine lv_istore_n (lv' := [(2, .int (nI 0)), (0, .ref (ad (2000))), (1, .int (nI pp))]) hx hb dX7_firstFalse_1 rfl hl (by decide) rfl (fun ls hl => ?_)
  refine wl (ι := Nat) (fun i => k - i) (fun i g => (i ≤ k ∧ ffI (flB ρ M n (fun r => kpt (12 * pp + r))) k 0 = ffI (flB ρ M n (fun r => kpt (12 * pp + r))) (k - i) i) ∧ ∃ ls, g = F0 m 2 ls [] ∧ lv_has ls 3 [(0, .ref (ad (2000))), (1, .int (nI pp)), (2, .int (nI i))]) ?_ (0) _ ⟨⟨Nat.zero_le _, rfl⟩, ls, rfl, lv_sub hl [1, 2, 0] rfl⟩
  intro i g hg ih
  obtain ⟨⟨hi, he⟩, ls, rfl, hl⟩ := hg
  refine lv_iload_n hx hb dX7_firstFalse_2 rfl (lv_at hl 2 rfl) ?_
  refine lv_aload_n hx hb dX7_firstFalse_3 rfl (lv_at hl 0 rfl) ?_
  refine g_X7_X7_rules hx hb hown hK hW h2000 dX7_firstFalse_4 ?_
  refine lv_icmp_ge (tgt := 39) hx hb dX7_firstFalse_7 (by decide) (fun c7 => ?_) (fun c7 => ?_)
  · skip
    have c7 := nI_le' c7 (by omega) (by omega)
    refine lv_iconst (v := -1) hx hb dX7_firstFalse_39 (by decide) ?_
    exact ri hx hb hr hlocks dX7_firstFalse_40 (by rw [he, show k - i = 0 by omega]; rfl)
  · skip
    have c7 := nI_nle' c7 (by omega) (by omega)
    have hu : ffI (flB ρ M n (fun r => kpt (12 * pp + r))) (k - i) i = (if flB ρ M n (fun r => kpt (12 * pp + r)) i = true then nI i else ffI (flB ρ M n (fun r => kpt (12 * pp + r))) (k - (i + 1)) (i + 1)) := by rw [show k - i = (k - (i + 1)) + 1 by omega]; rfl
    refine lv_aload_n hx hb dX7_firstFalse_10 rfl (lv_at hl 0 rfl) ?_
    refine g_X7_X7_kept hx hb hown hK hW h2000 dX7_firstFalse_11 ?_
    refine lv_bipush (v := nI 12) hx hb dX7_firstFalse_14 (by decide) ?_
    refine lv_iload_n hx hb dX7_firstFalse_16 rfl (lv_at hl 1 rfl) ?_
    refine lv_imul hx hb dX7_firstFalse_17 ?_
    refine asi (y := nI (12 * pp)) (pk_mul _ _) ?_
    refine lv_iload_n hx hb dX7_firstFalse_18 rfl (lv_at hl 2 rfl) ?_
    refine lv_iadd hx hb dX7_firstFalse_19 ?_
    refine asi (y := nI ((12 * pp) + i)) (nI_add _ _) ?_
    refine w_lald hx hb hK hW h2009 (j := (12 * pp) + i) (rfl) (by omega) (by omega) dX7_firstFalse_20 ?_
    refine lv_aload_n hx hb dX7_firstFalse_21 rfl (lv_at hl 0 rfl) ?_
    refine lv_iload_n hx hb dX7_firstFalse_22 rfl (lv_at hl 1 rfl) ?_
    refine lv_iload_n hx hb dX7_firstFalse_23 rfl (lv_at hl 2 rfl) ?_
    refine vp_callSl (va_Run.run (va_runV (As := [.int (nI pp), .int (nI i)]) (rest := [.long (kpt ((12 * pp) + i))]) ⟨hx, hb, hml, hown, hK.1.use _⟩ (c_X7_worthP l D cy z0 ad V n k P K ev h2000 ak h2002 al h2003 ab h2004 aw h2005 mem h2008 hn40 pp (by omega) ρ M hv hM i (by have := hk.1; omega) (hk.2 i (by omega)) (hkb i (by omega)) (hru i (by omega))) (k_X7_X7_worthOf hK.1 rfl rfl ⟨Nat.le_of_ble_eq_true rfl, Nat.le_of_ble_eq_true rfl⟩) (preV hK hz hW h2000 rfl) rfl rfl hl.1 rfl (lv_room (Nat.le_of_ble_eq_true rfl)) dX7_firstFalse_24 ⟨Nat.le_of_ble_eq_true rfl, Nat.le_of_ble_eq_true rfl⟩)) (fun r24 h24 => ?_)
    have h24 : r24 = wthR ρ i M n := h24
    subst h24
    refine W.lcmp hx hb dX7_firstFalse_27 ?_
    refine lv_if_eq (tgt := 33) hx hb dX7_firstFalse_28 (by decide) (fun c28 => ?_) (fun c28 => ?_)
    · skip
      refine lv_iinc (v := nI (i + 1)) (lv' := [(2, .int (nI (i + 1))), (0, .ref (ad (2000))), (1, .int (nI pp))]) hx hb dX7_firstFalse_33 hl (k := 2) rfl (by rw [show Int32.ofInt 1 = nI 1 from by decide]; exact nI_add _ _) (by decide) rfl (fun ls hl => ?_)
      refine lv_goto (tgt := 2) hx hb dX7_firstFalse_36 (by decide) ?_
      exact ih (i + 1) _ ⟨⟨by omega, by rw [he, hu, show flB ρ M n (fun r => kpt (12 * pp + r)) i = false from by unfold flB; simp only [decide_eq_false_iff_not, Classical.not_not]; exact (lg_cmp_eq _ _).mp c28]; rfl⟩, ls, rfl, lv_sub hl [1, 2, 0] rfl⟩ (by omega)
    · skip
      refine lv_iload_n hx hb dX7_firstFalse_31 rfl (lv_at hl 2 rfl) ?_
      exact ri hx hb hr hlocks dX7_firstFalse_32 (by rw [he, hu, if_pos (by unfold flB; simp only [decide_eq_true_eq]; exact fun q => c28 ((lg_cmp_eq _ _).mpr q))])

set_option maxHeartbeats 4000000 in
set_option maxRecDepth 100000 in
theorem c_X7_pairs (l : Launch) (D : va_G) (cy : Nat → ClassId) (z0 : Nat) (ad : Nat → Nat) (V : Nat → Option va_E) (n k P K : Nat) (ev : Int32) (h2000 : V 2000 = some (.inr (7, [.int (nI n), .int (nI k), .ref (ad (2002)), .ref (ad (2003)), .ref (ad (2004)), .ref (ad (2005)), .ref (ad (2006)), .int (nI P), .ref (ad (2008)), .ref (ad (2009)), .ref (ad (2010)), .ref (ad (2011)), .ref (ad (2012)), .ref (ad (2013)), .ref (ad (2014)), .ref (ad (2015)), .ref (ad (2016)), .ref (ad (2017)), .ref (ad (2018)), .ref (ad (2019)), .ref (ad (2020)), .int (ev), .int (nI K), .ref (ad (2023)), .ref (ad (2024)), .ref (ad (2025)), .ref (ad (2026)), .ref (ad (2027))]))) (ak : Nat → Int32) (h2002 : V 2002 = some (.inl (cy 0, 12, .inl ak))) (al : Nat → Int32) (h2003 : V 2003 = some (.inl (cy 0, 12, .inl al))) (ab : Nat → Int32) (h2004 : V 2004 = some (.inl (cy 0, 12, .inl ab))) (aw : Nat → Int32) (h2005 : V 2005 = some (.inl (cy 0, 12, .inl aw))) (mem : Nat → Int32) (h2008 : V 2008 = some (.inl (cy 0, 640, .inl mem))) (was : Nat → Int32) (h2026 : V 2026 = some (.inl (cy 0, 160, .inl was))) (hn40 : n ≤ 40) (pp : Nat) (hp4 : pp < 4) (ρ : RuT) (hk : okR k ρ) (hkb : okB k ρ) (hru : ruleR k ρ ak al ab aw) (M W0 : Nat → Nat → Int32) (hv : viewR mem pp M) (hw : ∀ m, m < 4 → ∀ o, o < 40 → was (4 * o + m) = W0 m o) : Met l yX7_pairs [Cond.code yX7_pairs cX7_pairs 7 (some .int)] { frames := 1, cells := 0, slots := 0, locals := 23 } (WP [.ref (ad (2000)), .int (nI pp)] D cy z0 ad V) (vp_Si (fun r => r = nI (ctS ρ W0 M n k))) 0 0 (fun _ => False) := by
  refine met_of (by decide) (Nat.le_of_ble_eq_true rfl) (fun p e s m below meth c hx hb hr hml hown hlocks hnm hK hz hW ls hl => ?_)
  have hown : s.vm.findClass RX7 = some m.cls := hown
  have hl : lv_has ls 7 [(0, .ref (ad (2000))), (1, .int (nI pp))] := hl
  have hk12 := hk.1
  refine lv_iconst (v := nI 0) hx hb dX7_pairs_0 (by decide) ?_
  refine lv_istore_n (lv' := [(2, .int (nI 0)), (0, .ref (ad (2000))), (1, .int (nI pp))]) hx hb dX7_pairs_1 rfl hl (by decide) rfl (fun ls hl => ?_)
  refine lv_iconst (v := nI 0) hx hb dX7_pairs_2 (by decide) ?_
  refine lv_istore_n (lv' := [(3, .int (nI 0)), (2, .int (nI 0)), (0, .ref (ad (2000))), (1, .int (nI pp))]) hx hb dX7_pairs_3 rfl hl (by decide) rfl (fun ls hl => ?_)
  refine wl (ι := Nat) (fun r => k - r) (fun r g => (r ≤ k) ∧ ∃ ls, g = F0 m 4 ls [] ∧ lv_has ls 7 [(0, .ref (ad (2000))), (1, .int (nI pp)), (2, .int (nI (ctS ρ W0 M n r))), (3, .int (nI r))]) ?_ (0) _ ⟨Nat.zero_le _, ls, rfl, lv_sub hl [2, 3, 1, 0] rfl⟩
  intro r g hg ih
  obtain ⟨hr9, ls, rfl, hl⟩ := hg
  have ihO := ih
  refine lv_iload_n hx hb dX7_pairs_4 rfl (lv_at hl 3 rfl) ?_
  refine lv_aload_n hx hb dX7_pairs_5 rfl (lv_at hl 0 rfl) ?_
  refine g_X7_X7_rules hx hb hown hK hW h2000 dX7_pairs_6 ?_
  refine lv_icmp_ge (tgt := 142) hx hb dX7_pairs_9 (by decide) (fun c9 => ?_) (fun c9 => ?_)
  · skip
    have c9 := nI_le' c9 (by omega) (by omega)
    refine lv_iload_n hx hb dX7_pairs_142 rfl (lv_at hl 2 rfl) ?_
    exact ri hx hb hr hlocks dX7_pairs_143 (by have e9 : r = k := (by omega); rw [e9])
  · skip
    have c9 := nI_nle' c9 (by omega) (by omega)
    have hkr := hk.2 r (by omega)
    have her := hru r (by omega)
    refine lv_iconst (v := nI 0) hx hb dX7_pairs_12 (by decide) ?_
    refine lv_istore (lv' := [(4, .int (nI 0)), (0, .ref (ad (2000))), (1, .int (nI pp)), (2, .int (nI (ctS ρ W0 M n r))), (3, .int (nI r))]) hx hb dX7_pairs_13 hl (by decide) rfl (fun ls hl => ?_)
    refine wl (ι := Nat) (fun o => n - o) (fun o g => (o ≤ n) ∧ ∃ ls, g = F0 m 15 ls [] ∧ lv_has ls 7 [(0, .ref (ad (2000))), (1, .int (nI pp)), (2, .int (nI (ctS ρ W0 M n r + ctT (ρ r).1 (W0 (ρ r).2.1) (M (ρ r).2.1) (W0 2) (M 2) o))), (3, .int (nI r)), (4, .int (nI o))]) ?_ (0) _ ⟨Nat.zero_le _, ls, rfl, lv_sub hl [1, 2, 3, 4, 0] rfl⟩
    intro o g hg ih
    obtain ⟨ho9, ls, rfl, hl⟩ := hg
    refine lv_iload hx hb dX7_pairs_15 (lv_at hl 4 rfl) ?_
    refine lv_aload_n hx hb dX7_pairs_17 rfl (lv_at hl 0 rfl) ?_
    refine g_X7_X7_objects hx hb hown hK hW h2000 dX7_pairs_18 ?_
    refine lv_icmp_ge (tgt := 136) hx hb dX7_pairs_21 (by decide) (fun c21 => ?_) (fun c21 => ?_)
    · skip
      have c21 := nI_le' c21 (by omega) (by omega)
      have hq136_2 : (nI (ctS ρ W0 M n r + ctT (ρ r).1 (W0 (ρ r).2.1) (M (ρ r).2.1) (W0 2) (M 2) o)) = (nI (ctS ρ W0 M n (r + 1))) := by have e9 : o = n := (by omega); rw [e9]; rfl
      rw [hq136_2] at hl
      refine lv_iinc (v := nI (r + 1)) (lv' := [(3, .int (nI (r + 1))), (0, .ref (ad (2000))), (1, .int (nI pp)), (2, .int (nI (ctS ρ W0 M n (r + 1)))), (4, .int (nI o))]) hx hb dX7_pairs_136 hl (k := 3) rfl (by rw [show Int32.ofInt 1 = nI 1 from by decide]; exact nI_add _ _) (by decide) rfl (fun ls hl => ?_)
      refine lv_goto (tgt := 4) hx hb dX7_pairs_139 (by decide) ?_
      exact ihO (r + 1) _ ⟨by omega, ls, rfl, lv_sub hl [1, 2, 3, 0] rfl⟩ (by omega)
    · skip
      have c21 := nI_nle' c21 (by omega) (by omega)
      refine jl (pcj := 66) (st := [.int (b2i (decide (¬ W0 (ρ r).2.1 o = M (ρ r).2.1 o)))]) (nL := 7) (lv := [(0, .ref (ad (2000))), (1, .int (nI pp)), (2, .int (nI (ctS ρ W0 M n r + ctT (ρ r).1 (W0 (ρ r).2.1) (M (ρ r).2.1) (W0 2) (M 2) o))), (3, .int (nI r)), (4, .int (nI o))]) (fun KJ => ?_) (fun ls hl => ?_)
      · skip
        refine lv_aload_n hx hb dX7_pairs_24 rfl (lv_at hl 0 rfl) ?_
        refine g_X7_X7_was hx hb hown hK hW h2000 dX7_pairs_25 ?_
        refine lv_iconst (v := nI 4) hx hb dX7_pairs_28 (by decide) ?_
        refine lv_iload hx hb dX7_pairs_29 (lv_at hl 4 rfl) ?_
        refine lv_imul hx hb dX7_pairs_31 ?_
        refine asi (y := nI (4 * o)) (pk_mul _ _) ?_
        refine lv_aload_n hx hb dX7_pairs_32 rfl (lv_at hl 0 rfl) ?_
        refine g_X7_X7_looks hx hb hown hK hW h2000 dX7_pairs_33 ?_
        refine lv_iload_n hx hb dX7_pairs_36 rfl (lv_at hl 3 rfl) ?_
        refine w_iald hx hb hK hW h2003 (j := r) (rfl) (by omega) (by omega) dX7_pairs_37 ?_
        refine asi (y := nI ((ρ r).2.1)) (her.2.1) ?_
        refine lv_iadd hx hb dX7_pairs_38 ?_
        refine asi (y := nI ((4 * o) + ((ρ r).2.1))) (nI_add _ _) ?_
        refine w_iald hx hb hK hW h2026 (j := (4 * o) + ((ρ r).2.1)) (rfl) (by omega) (by omega) dX7_pairs_39 ?_
        refine asi (y := W0 (ρ r).2.1 o) (hw _ hkr.2 o (by omega)) ?_
        refine lv_aload_n hx hb dX7_pairs_40 rfl (lv_at hl 0 rfl) ?_
        refine g_X7_X7_member hx hb hown hK hW h2000 dX7_pairs_41 ?_
        refine lv_aload_n hx hb dX7_pairs_44 rfl (lv_at hl 0 rfl) ?_
        refine lv_iload_n hx hb dX7_pairs_45 rfl (lv_at hl 1 rfl) ?_
        refine lv_iload hx hb dX7_pairs_46 (lv_at hl 4 rfl) ?_
        refine lv_aload_n hx hb dX7_pairs_48 rfl (lv_at hl 0 rfl) ?_
        refine g_X7_X7_looks hx hb hown hK hW h2000 dX7_pairs_49 ?_
        refine lv_iload_n hx hb dX7_pairs_52 rfl (lv_at hl 3 rfl) ?_
        refine w_iald hx hb hK hW h2003 (j := r) (rfl) (by omega) (by omega) dX7_pairs_53 ?_
        refine asi (y := nI ((ρ r).2.1)) (her.2.1) ?_
        refine vp_callSi (va_Run.run (va_runV (As := [.int (nI pp), .int (nI o), .int (nI ((ρ r).2.1))]) (rest := [.ref (ad (2008)), .int (W0 (ρ r).2.1 o)]) ⟨hx, hb, hml, hown, hK.1.use _⟩ (c_X7_at l D cy z0 ad V pp o ((ρ r).2.1)) (k_X7_X7_at hK.1 rfl rfl ⟨Nat.le_of_ble_eq_true rfl, Nat.le_of_ble_eq_true rfl⟩) (preV hK hz hW h2000 rfl) rfl rfl hl.1 rfl (lv_room (Nat.le_of_ble_eq_true rfl)) dX7_pairs_54 ⟨Nat.le_of_ble_eq_true rfl, Nat.le_of_ble_eq_true rfl⟩)) (fun r54 h54 => ?_)
        have h54 : r54 = nI (160 * pp + 4 * o + ((ρ r).2.1)) := h54
        subst h54
        refine w_iald hx hb hK hW h2008 (j := 160 * pp + 4 * o + ((ρ r).2.1)) (rfl) (by omega) (by omega) dX7_pairs_57 ?_
        refine asi (y := M (ρ r).2.1 o) (hv _ hkr.2 o (by omega)) ?_
        refine lv_icmp_eq (tgt := 65) hx hb dX7_pairs_58 (by decide) (fun c58 => ?_) (fun c58 => ?_)
        · skip
          refine lv_iconst (v := nI 0) hx hb dX7_pairs_65 (by decide) ?_
          refine asi (y := b2i (decide (¬ W0 (ρ r).2.1 o = M (ρ r).2.1 o))) (by simp [b2i, nI, c58]) ?_
          exact KJ ls (lv_sub hl [0, 1, 2, 3, 4] rfl)
        · skip
          refine lv_iconst (v := nI 1) hx hb dX7_pairs_61 (by decide) ?_
          refine lv_goto (tgt := 66) hx hb dX7_pairs_62 (by decide) ?_
          refine asi (y := b2i (decide (¬ W0 (ρ r).2.1 o = M (ρ r).2.1 o))) (by simp [b2i, nI, c58]) ?_
          exact KJ ls (lv_sub hl [0, 1, 2, 3, 4] rfl)
      · skip
        refine lv_istore (lv' := [(5, .int (b2i (decide (¬ W0 (ρ r).2.1 o = M (ρ r).2.1 o)))), (0, .ref (ad (2000))), (1, .int (nI pp)), (2, .int (nI (ctS ρ W0 M n r + ctT (ρ r).1 (W0 (ρ r).2.1) (M (ρ r).2.1) (W0 2) (M 2) o))), (3, .int (nI r)), (4, .int (nI o))]) hx hb dX7_pairs_66 hl (by decide) rfl (fun ls hl => ?_)
        refine jl (pcj := 110) (st := [.int (b2i (decide ((ρ r).1 = 5 ∧ ¬ W0 2 o = M 2 o)))]) (nL := 7) (lv := [(5, .int (b2i (decide (¬ W0 (ρ r).2.1 o = M (ρ r).2.1 o)))), (0, .ref (ad (2000))), (1, .int (nI pp)), (2, .int (nI (ctS ρ W0 M n r + ctT (ρ r).1 (W0 (ρ r).2.1) (M (ρ r).2.1) (W0 2) (M 2) o))), (3, .int (nI r)), (4, .int (nI o))]) (fun KJ => ?_) (fun ls hl => ?_)
        · skip
          refine lv_aload_n hx hb dX7_pairs_68 rfl (lv_at hl 1 rfl) ?_
          refine g_X7_X7_kind hx hb hown hK hW h2000 dX7_pairs_69 ?_
          refine lv_iload_n hx hb dX7_pairs_72 rfl (lv_at hl 4 rfl) ?_
          refine w_iald hx hb hK hW h2002 (j := r) (rfl) (by omega) (by omega) dX7_pairs_73 ?_
          refine asi (y := nI ((ρ r).1)) (her.1) ?_
          refine lv_iconst (v := nI 5) hx hb dX7_pairs_74 (by decide) ?_
          refine lv_icmp_ne (tgt := 109) hx hb dX7_pairs_75 (by decide) (fun c75 => ?_) (fun c75 => ?_)
          · skip
            have c75 := nI_ne' c75 (by omega) (by omega)
            refine lv_iconst (v := nI 0) hx hb dX7_pairs_109 (by decide) ?_
            refine asi (y := b2i (decide ((ρ r).1 = 5 ∧ ¬ W0 2 o = M 2 o))) (by first | simp [b2i, nI, c75]; done | simp [b2i, nI, c75, c102]; done) ?_
            exact KJ ls (lv_sub hl [0, 1, 2, 3, 4, 5] rfl)
          · skip
            have c75 := nI_eq' c75 (by omega) (by omega)
            refine lv_aload_n hx hb dX7_pairs_78 rfl (lv_at hl 1 rfl) ?_
            refine g_X7_X7_was hx hb hown hK hW h2000 dX7_pairs_79 ?_
            refine lv_iconst (v := nI 4) hx hb dX7_pairs_82 (by decide) ?_
            refine lv_iload hx hb dX7_pairs_83 (lv_at hl 5 rfl) ?_
            refine lv_imul hx hb dX7_pairs_85 ?_
            refine asi (y := nI (4 * o)) (pk_mul _ _) ?_
            refine lv_iconst (v := nI 2) hx hb dX7_pairs_86 (by decide) ?_
            refine lv_iadd hx hb dX7_pairs_87 ?_
            refine asi (y := nI ((4 * o) + 2)) (nI_add _ _) ?_
            refine w_iald hx hb hK hW h2026 (j := (4 * o) + 2) (rfl) (by omega) (by omega) dX7_pairs_88 ?_
            refine asi (y := W0 2 o) (hw 2 (by omega) o (by omega)) ?_
            refine lv_aload_n hx hb dX7_pairs_89 rfl (lv_at hl 1 rfl) ?_
            refine g_X7_X7_member hx hb hown hK hW h2000 dX7_pairs_90 ?_
            refine lv_aload_n hx hb dX7_pairs_93 rfl (lv_at hl 1 rfl) ?_
            refine lv_iload_n hx hb dX7_pairs_94 rfl (lv_at hl 2 rfl) ?_
            refine lv_iload hx hb dX7_pairs_95 (lv_at hl 5 rfl) ?_
            refine lv_iconst (v := nI 2) hx hb dX7_pairs_97 (by decide) ?_
            refine vp_callSi (va_Run.run (va_runV (As := [.int (nI pp), .int (nI o), .int (nI 2)]) (rest := [.ref (ad (2008)), .int (W0 2 o)]) ⟨hx, hb, hml, hown, hK.1.use _⟩ (c_X7_at l D cy z0 ad V pp o 2) (k_X7_X7_at hK.1 rfl rfl ⟨Nat.le_of_ble_eq_true rfl, Nat.le_of_ble_eq_true rfl⟩) (preV hK hz hW h2000 rfl) rfl rfl hl.1 rfl (lv_room (Nat.le_of_ble_eq_true rfl)) dX7_pairs_98 ⟨Nat.le_of_ble_eq_true rfl, Nat.le_of_ble_eq_true rfl⟩)) (fun r98 h98 => ?_)
            have h98 : r98 = nI (160 * pp + 4 * o + 2) := h98
            subst h98
            refine w_iald hx hb hK hW h2008 (j := 160 * pp + 4 * o + 2) (rfl) (by omega) (by omega) dX7_pairs_101 ?_
            refine asi (y := M 2 o) (hv 2 (by omega) o (by omega)) ?_
            refine lv_icmp_eq (tgt := 109) hx hb dX7_pairs_102 (by decide) (fun c102 => ?_) (fun c102 => ?_)
            · skip
              refine lv_iconst (v := nI 0) hx hb dX7_pairs_109 (by decide) ?_
              refine asi (y := b2i (decide ((ρ r).1 = 5 ∧ ¬ W0 2 o = M 2 o))) (by first | simp [b2i, nI, c75]; done | simp [b2i, nI, c75, c102]; done) ?_
              exact KJ ls (lv_sub hl [0, 1, 2, 3, 4, 5] rfl)
            · skip
              refine lv_iconst (v := nI 1) hx hb dX7_pairs_105 (by decide) ?_
              refine lv_goto (tgt := 110) hx hb dX7_pairs_106 (by decide) ?_
              refine asi (y := b2i (decide ((ρ r).1 = 5 ∧ ¬ W0 2 o = M 2 o))) (by first | simp [b2i, nI, c75]; done | simp [b2i, nI, c75, c102]; done) ?_
              exact KJ ls (lv_sub hl [0, 1, 2, 3, 4, 5] rfl)
        · skip
          refine lv_istore (lv' := [(6, .int (b2i (decide ((ρ r).1 = 5 ∧ ¬ W0 2 o = M 2 o)))), (5, .int (b2i (decide (¬ W0 (ρ r).2.1 o = M (ρ r).2.1 o)))), (0, .ref (ad (2000))), (1, .int (nI pp)), (2, .int (nI (ctS ρ W0 M n r + ctT (ρ r).1 (W0 (ρ r).2.1) (M (ρ r).2.1) (W0 2) (M 2) o))), (3, .int (nI r)), (4, .int (nI o))]) hx hb dX7_pairs_110 hl (by decide) rfl (fun ls hl => ?_)
          refine lv_iload_n hx hb dX7_pairs_112 rfl (lv_at hl 4 rfl) ?_
          refine jl (pcj := 128) (st := [.int (nI (if ¬ W0 (ρ r).2.1 o = M (ρ r).2.1 o ∨ ((ρ r).1 = 5 ∧ ¬ W0 2 o = M 2 o) then 1 else 0)), .int (nI (ctS ρ W0 M n r + ctT (ρ r).1 (W0 (ρ r).2.1) (M (ρ r).2.1) (W0 2) (M 2) o))]) (nL := 7) (lv := [(6, .int (b2i (decide ((ρ r).1 = 5 ∧ ¬ W0 2 o = M 2 o)))), (5, .int (b2i (decide (¬ W0 (ρ r).2.1 o = M (ρ r).2.1 o)))), (0, .ref (ad (2000))), (1, .int (nI pp)), (2, .int (nI (ctS ρ W0 M n r + ctT (ρ r).1 (W0 (ρ r).2.1) (M (ρ r).2.1) (W0 2) (M 2) o))), (3, .int (nI r)), (4, .int (nI o))]) (fun KJ => ?_) (fun ls hl => ?_)
          · skip
            refine lv_iload hx hb dX7_pairs_113 (lv_at hl 1 rfl) ?_
            refine lv_if_ne (tgt := 123) hx hb dX7_pairs_115 (by decide) (fun c115 => ?_) (fun c115 => ?_)
            · skip
              have c115 := b2i_1.mp c115
              refine lv_iconst (v := nI 1) hx hb dX7_pairs_123 (by decide) ?_
              refine lv_goto (tgt := 128) hx hb dX7_pairs_124 (by decide) ?_
              refine asi (y := nI (if ¬ W0 (ρ r).2.1 o = M (ρ r).2.1 o ∨ ((ρ r).1 = 5 ∧ ¬ W0 2 o = M 2 o) then 1 else 0)) (by first | (rw [if_pos (Or.inl (of_decide_eq_true c115))]; done) | (rw [if_pos (Or.inr (of_decide_eq_true c120))]; done) | (rw [if_neg (fun q => q.elim (of_decide_eq_false c115) (of_decide_eq_false c120))]; done)) ?_
              exact KJ ls (lv_sub hl [0, 1, 2, 3, 4, 5, 6] rfl)
            · skip
              have c115 := b2i_0.mp c115
              refine lv_iload hx hb dX7_pairs_118 (lv_at hl 0 rfl) ?_
              refine lv_if_eq (tgt := 127) hx hb dX7_pairs_120 (by decide) (fun c120 => ?_) (fun c120 => ?_)
              · skip
                have c120 := b2i_0.mp c120
                refine lv_iconst (v := nI 0) hx hb dX7_pairs_127 (by decide) ?_
                refine asi (y := nI (if ¬ W0 (ρ r).2.1 o = M (ρ r).2.1 o ∨ ((ρ r).1 = 5 ∧ ¬ W0 2 o = M 2 o) then 1 else 0)) (by first | (rw [if_pos (Or.inl (of_decide_eq_true c115))]; done) | (rw [if_pos (Or.inr (of_decide_eq_true c120))]; done) | (rw [if_neg (fun q => q.elim (of_decide_eq_false c115) (of_decide_eq_false c120))]; done)) ?_
                exact KJ ls (lv_sub hl [0, 1, 2, 3, 4, 5, 6] rfl)
              · skip
                have c120 := b2i_1.mp c120
                refine lv_iconst (v := nI 1) hx hb dX7_pairs_123 (by decide) ?_
                refine lv_goto (tgt := 128) hx hb dX7_pairs_124 (by decide) ?_
                refine asi (y := nI (if ¬ W0 (ρ r).2.1 o = M (ρ r).2.1 o ∨ ((ρ r).1 = 5 ∧ ¬ W0 2 o = M 2 o) then 1 else 0)) (by first | (rw [if_pos (Or.inl (of_decide_eq_true c115))]; done) | (rw [if_pos (Or.inr (of_decide_eq_true c120))]; done) | (rw [if_neg (fun q => q.elim (of_decide_eq_false c115) (of_decide_eq_false c120))]; done)) ?_
                exact KJ ls (lv_sub hl [0, 1, 2, 3, 4, 5, 6] rfl)
          · skip
            refine lv_iadd hx hb dX7_pairs_128 ?_
            refine asi (y := nI ((ctS ρ W0 M n r + ctT (ρ r).1 (W0 (ρ r).2.1) (M (ρ r).2.1) (W0 2) (M 2) o) + (if ¬ W0 (ρ r).2.1 o = M (ρ r).2.1 o ∨ ((ρ r).1 = 5 ∧ ¬ W0 2 o = M 2 o) then 1 else 0))) (nI_add _ _) ?_
            refine asi (y := nI (ctS ρ W0 M n r + ctT (ρ r).1 (W0 (ρ r).2.1) (M (ρ r).2.1) (W0 2) (M 2) (o + 1))) (by rw [Nat.add_assoc]; rfl) ?_
            refine lv_istore_n (lv' := [(2, .int (nI (ctS ρ W0 M n r + ctT (ρ r).1 (W0 (ρ r).2.1) (M (ρ r).2.1) (W0 2) (M 2) (o + 1)))), (6, .int (b2i (decide ((ρ r).1 = 5 ∧ ¬ W0 2 o = M 2 o)))), (5, .int (b2i (decide (¬ W0 (ρ r).2.1 o = M (ρ r).2.1 o)))), (0, .ref (ad (2000))), (1, .int (nI pp)), (3, .int (nI r)), (4, .int (nI o))]) hx hb dX7_pairs_129 rfl hl (by decide) rfl (fun ls hl => ?_)
            refine lv_iinc (v := nI (o + 1)) (lv' := [(4, .int (nI (o + 1))), (2, .int (nI (ctS ρ W0 M n r + ctT (ρ r).1 (W0 (ρ r).2.1) (M (ρ r).2.1) (W0 2) (M 2) (o + 1)))), (6, .int (b2i (decide ((ρ r).1 = 5 ∧ ¬ W0 2 o = M 2 o)))), (5, .int (b2i (decide (¬ W0 (ρ r).2.1 o = M (ρ r).2.1 o)))), (0, .ref (ad (2000))), (1, .int (nI pp)), (3, .int (nI r))]) hx hb dX7_pairs_130 hl (k := 6) rfl (by rw [show Int32.ofInt 1 = nI 1 from by decide]; exact nI_add _ _) (by decide) rfl (fun ls hl => ?_)
            refine lv_goto (tgt := 15) hx hb dX7_pairs_133 (by decide) ?_
            exact ih (o + 1) _ ⟨by omega, ls, rfl, lv_sub hl [4, 5, 1, 6, 0] rfl⟩ (by omega)
