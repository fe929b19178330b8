set_option maxHeartbeats 4000000 in
set_option maxRecDepth 100000 in
theorem c_X5_addObject (l : Launch) (D : va_G) (cy : Nat → ClassId) (z0 : Nat) (ad : Nat → Nat) (V : Nat → Option va_E) (B n : Nat) (M : Nat → Nat → Int32) (hT : isT ad V cy B n M) (hn40 : n < 40) : Met l yX5_addObject [Cond.code yX5_addObject cX5_addObject 1 none] { frames := 0, cells := 0, slots := 0, locals := 0 } (WP [.ref (ad B)] D cy z0 ad V) (va_Qv (fun u => u.1 = ad ∧ isT ad u.2 cy B (n + 1) (addM n M) ∧ ∀ L, (L < B ∨ B + 6 ≤ L) → u.2 L = V L) (WB D z0) (AA z0)) 0 0 (AA z0) := by
  refine met_of (by decide) (Nat.le_of_ble_eq_true rfl) (fun p e s m below meth c hx hb hr hml hown hlocks hnm hK hz hW ls hl => ?_)
  have hown : s.vm.findClass RX5 = some m.cls := hown
  have hl : lv_has ls 1 [(0, .ref (ad B))] := hl
  have hS : va_S (AA z0) s.heap s.heap [] := va_S.rf
  obtain ⟨hT0, hT1, hTr⟩ := id hT
  have hTr2 := hTr 2 (by omega)
  refine lv_aload_n hx hb dX5_addObject_0 rfl (lv_at hl 0 rfl) ?_
  refine g_X5_X5_rows hx hb hown hK hW hT0 dX5_addObject_1 ?_
  refine lv_iconst (v := nI 2) hx hb dX5_addObject_4 (by decide) ?_
  refine w_aald hx hb hK hW 3 rfl rfl hT1 (j := 2) (rfl) (by omega) (by omega) dX5_addObject_5 ?_
  refine asv (y := .ref (ad (B + 2 + 2))) (el4 (by omega)) ?_
  refine lv_aload_n hx hb dX5_addObject_6 rfl (lv_at hl 0 rfl) ?_
  refine g_X5_X5_objects hx hb hown hK hW hT0 dX5_addObject_7 ?_
  refine lv_iconst (v := -1) hx hb dX5_addObject_10 (by decide) ?_
  refine w_iast hx hb hK hW hS hTr2 (j := n) (rfl) (by omega) (by omega) dX5_addObject_11 (fun H locs hW hS => ?_)
  obtain ⟨V1, eV1⟩ : ∃ x, x = va_up V (B + 2 + 2) (some (.inl (cy 0, 40, .inl (upd (M 2) n (-1))))) := ⟨_, rfl⟩
  rw [← eV1] at hW
  have hT0 : V1 (B) = some (.inr (5, [.ref (ad (B + 1)), .int (nI n)])) := by rw [eV1, va_up_ne _ _ (by omega)]; exact hT0
  have hT1 : V1 (B + 1) = some (.inl (cy 3, 4, .inr (.inr (.inr (.inr (fun i => if i < 4 then some (ad (B + 2 + i)) else none)))))) := by rw [eV1, va_up_ne _ _ (by omega)]; exact hT1
  have hTr2 : V1 (B + 2 + 2) = some (.inl (cy 0, 40, .inl (upd (M 2) n (-1)))) := by rw [eV1, va_up_self]
  refine lv_aload_n hx hb dX5_addObject_12 rfl (lv_at hl 0 rfl) ?_
  refine lv_dup hx hb dX5_addObject_13 rfl ?_
  refine g_X5_X5_objects hx hb hown hK hW hT0 dX5_addObject_14 ?_
  refine lv_iconst (v := nI 1) hx hb dX5_addObject_17 (by decide) ?_
  refine lv_iadd hx hb dX5_addObject_18 ?_
  refine asi (y := nI (n + 1)) (nI_add _ _) ?_
  refine p_X5_X5_objects hx hb hown hK hW hS hT0 dX5_addObject_19 (fun H locs hW hS => ?_)
  obtain ⟨V2, eV2⟩ : ∃ x, x = va_up V1 (B) (some (.inr (5, [.ref (ad (B + 1)), .int (nI (n + 1))]))) := ⟨_, rfl⟩
  rw [← eV2] at hW
  have hT1 : V2 (B + 1) = some (.inl (cy 3, 4, .inr (.inr (.inr (.inr (fun i => if i < 4 then some (ad (B + 2 + i)) else none)))))) := by rw [eV2, va_up_ne _ _ (by omega)]; exact hT1
  have hTr2 : V2 (B + 2 + 2) = some (.inl (cy 0, 40, .inl (upd (M 2) n (-1)))) := by rw [eV2, va_up_ne _ _ (by omega)]; exact hTr2
  have hT0 : V2 (B) = some (.inr (5, [.ref (ad (B + 1)), .int (nI (n + 1))])) := by rw [eV2, va_up_self]
  exact rwv hx hb hr hlocks dX5_addObject_22 hW hS (⟨rfl, ⟨hT0, hT1, fun mm hm => by
    show V2 (B + 2 + mm) = _
    rw [eV2, va_up_ne _ _ (by omega), eV1]
    by_cases h2 : mm = 2
    · subst h2; rw [va_up_self]; rfl
    · rw [va_up_ne _ _ (by omega), hTr mm hm]; simp [addM, h2]⟩, fun L hL => by
    show V2 L = V L
    rw [eV2, va_up_ne _ _ (by omega), eV1, va_up_ne _ _ (by omega)]⟩)

set_option maxHeartbeats 4000000 in
set_option maxRecDepth 100000 in
theorem c_X5_becomeLike (l : Launch) (D : va_G) (cy : Nat → ClassId) (z0 : Nat) (ad : Nat → Nat) (V : Nat → Option va_E) (B n : Nat) (M : Nat → Nat → Int32) (hT : isT ad V cy B n M) (B2 n2 : Nat) (M2 : Nat → Nat → Int32) (hU : isT ad V cy B2 n2 M2) (hnn : n ≤ n2) (hn40 : n2 ≤ 40) (hap : B + 6 ≤ B2 ∨ B2 + 6 ≤ B) (hZ : Zt n M) (hZ2 : Zt n2 M2) : Met l yX5_becomeLike [Cond.code yX5_becomeLike cX5_becomeLike 3 none] { frames := 1, cells := 0, slots := 0, locals := 60 } (WP [.ref (ad B), .ref (ad B2)] D cy z0 ad V) (va_Qv (fun u => u.1 = ad ∧ isT ad u.2 cy B n2 M2 ∧ ∀ L, (L < B ∨ B + 6 ≤ L) → u.2 L = V L) (WB D z0) (AA z0)) 0 0 (AA z0) := by
  refine met_of (by decide) (Nat.le_of_ble_eq_true rfl) (fun p e s m below meth c hx hb hr hml hown hlocks hnm hK hz hW ls hl => ?_)
  have hown : s.vm.findClass RX5 = some m.cls := hown
  have hl : lv_has ls 3 [(0, .ref (ad B)), (1, .ref (ad B2))] := hl
  have hS : va_S (AA z0) s.heap s.heap [] := va_S.rf
  obtain ⟨hT0, hT1, hTr⟩ := id hT
  obtain ⟨hU0, hU1, hUr⟩ := id hU
  refine lv_aload_n hx hb dX5_becomeLike_0 rfl (lv_at hl 0 rfl) ?_
  refine lv_aload_n hx hb dX5_becomeLike_1 rfl (lv_at hl 1 rfl) ?_
  refine g_X5_X5_objects hx hb hown hK hW hU0 dX5_becomeLike_2 ?_
  refine p_X5_X5_objects hx hb hown hK hW hS hT0 dX5_becomeLike_5 (fun H locs hW hS => ?_)
  obtain ⟨V1, eV1⟩ : ∃ x, x = va_up V (B) (some (.inr (5, [.ref (ad (B + 1)), .int (nI n2)]))) := ⟨_, rfl⟩
  rw [← eV1] at hW
  have hT1 : V1 (B + 1) = some (.inl (cy 3, 4, .inr (.inr (.inr (.inr (fun i => if i < 4 then some (ad (B + 2 + i)) else none)))))) := by rw [eV1, va_up_ne _ _ (by omega)]; exact hT1
  have hU0 : V1 (B2) = some (.inr (5, [.ref (ad (B2 + 1)), .int (nI n2)])) := by rw [eV1, va_up_ne _ _ (by omega)]; exact hU0
  have hU1 : V1 (B2 + 1) = some (.inl (cy 3, 4, .inr (.inr (.inr (.inr (fun i => if i < 4 then some (ad (B2 + 2 + i)) else none)))))) := by rw [eV1, va_up_ne _ _ (by omega)]; exact hU1
  have hT0 : V1 (B) = some (.inr (5, [.ref (ad (B + 1)), .int (nI n2)])) := by rw [eV1, va_up_self]
  refine lv_iconst (v := nI 0) hx hb dX5_becomeLike_8 (by decide) ?_
  refine lv_istore_n (lv' := [(2, .int (nI 0)), (0, .ref (ad B)), (1, .ref (ad B2))]) hx hb dX5_becomeLike_9 rfl hl (by decide) rfl (fun ls hl => ?_)
  refine wlh (ι := Nat) (fun k => 4 - k) (fun k H locs g => (k ≤ 4) ∧ (∃ X, (isT ad X cy B n2 (fun q => if q < k then M2 q else M q) ∧ ∀ L, (L < B ∨ B + 6 ≤ L) → X L = V L) ∧ HW D z0 ad X H) ∧ va_S (AA z0) s.heap H locs ∧ ∃ ls, g = F0 m 10 ls [] ∧ lv_has ls 3 [(0, .ref (ad B)), (1, .ref (ad B2)), (2, .int (nI k))]) ?_ (0) _ _ _ ⟨Nat.zero_le _, ⟨_, ⟨⟨hT0, hT1, fun mm hm => by rw [eV1, va_up_ne _ _ (by omega), hTr mm hm]; simp⟩, fun L hL => by rw [eV1, va_up_ne _ _ (by omega)]⟩, hW⟩, hS, ls, rfl, lv_sub hl [1, 2, 0] rfl⟩
  intro k H locs g hg ih
  obtain ⟨hk, ⟨Vl, ⟨hTk, hfr⟩, hW⟩, hS, ls, rfl, hl⟩ := hg
  obtain ⟨hT0, hT1, hTr⟩ := id hTk
  have hU0 : Vl B2 = _ := (hfr _ (by omega)).trans hU.1
  have hU1 : Vl (B2 + 1) = _ := (hfr _ (by omega)).trans hU.2.1
  refine lv_iload_n hx hb dX5_becomeLike_10 rfl (lv_at hl 2 rfl) ?_
  refine lv_iconst (v := nI 4) hx hb dX5_becomeLike_11 (by decide) ?_
  refine lv_icmp_ge (tgt := 42) hx hb dX5_becomeLike_12 (by decide) (fun c12 => ?_) (fun c12 => ?_)
  · skip
    have c12 := nI_le' c12 (by omega) (by omega)
    exact rwv hx hb hr hlocks dX5_becomeLike_42 hW hS (⟨rfl, ⟨hT0, hT1, fun mm hm => by show Vl (B + 2 + mm) = _; rw [hTr mm hm]; have h9 : mm < k := (by omega); simp [h9]⟩, hfr⟩)
  · skip
    have c12 := nI_nle' c12 (by omega) (by omega)
    have hTrk := hTr k (by omega)
    simp only [Nat.lt_irrefl, if_false] at hTrk
    have hUrk : Vl (B2 + 2 + k) = _ := (hfr _ (by omega)).trans (hU.2.2 k (by omega))
    refine lv_aload_n hx hb dX5_becomeLike_15 rfl (lv_at hl 1 rfl) ?_
    refine g_X5_X5_rows hx hb hown hK hW hU0 dX5_becomeLike_16 ?_
    refine lv_iload_n hx hb dX5_becomeLike_19 rfl (lv_at hl 2 rfl) ?_
    refine w_aald hx hb hK hW 3 rfl rfl hU1 (j := k) (rfl) (by omega) (by omega) dX5_becomeLike_20 ?_
    refine asv (y := .ref (ad (B2 + 2 + k))) (el4 (by omega)) ?_
    refine lv_iconst (v := nI 0) hx hb dX5_becomeLike_21 (by decide) ?_
    refine lv_aload_n hx hb dX5_becomeLike_22 rfl (lv_at hl 0 rfl) ?_
    refine g_X5_X5_rows hx hb hown hK hW hT0 dX5_becomeLike_23 ?_
    refine lv_iload_n hx hb dX5_becomeLike_26 rfl (lv_at hl 2 rfl) ?_
    refine w_aald hx hb hK hW 3 rfl rfl hT1 (j := k) (rfl) (by omega) (by omega) dX5_becomeLike_27 ?_
    refine asv (y := .ref (ad (B + 2 + k))) (el4 (by omega)) ?_
    refine lv_iconst (v := nI 0) hx hb dX5_becomeLike_28 (by decide) ?_
    refine lv_aload_n hx hb dX5_becomeLike_29 rfl (lv_at hl 0 rfl) ?_
    refine g_X5_X5_objects hx hb hown hK hW hT0 dX5_becomeLike_30 ?_
    refine w_copyi hx hb (hml.trans hl.1.symm) hown k_X5_arraycopy tw_181 tw_180 tw_7 hK hW hS hUrk hTrk (a := 0) (b := 0) (k := n2) rfl rfl rfl (by omega) (by omega) (by omega) (by omega) (Nat.le_of_ble_eq_true rfl) (Nat.le_of_ble_eq_true rfl) dX5_becomeLike_33 (fun H locs hW hS => ?_)
    obtain ⟨V2, eV2⟩ : ∃ x, x = va_up Vl (B + 2 + k) (some (.inl (cy 0, 40, .inl (va_cpy (M2 k) (M k) 0 0 n2)))) := ⟨_, rfl⟩
    rw [← eV2] at hW
    have hT0 : V2 (B) = some (.inr (5, [.ref (ad (B + 1)), .int (nI n2)])) := by rw [eV2, va_up_ne _ _ (by omega)]; exact hT0
    have hT1 : V2 (B + 1) = some (.inl (cy 3, 4, .inr (.inr (.inr (.inr (fun i => if i < 4 then some (ad (B + 2 + i)) else none)))))) := by rw [eV2, va_up_ne _ _ (by omega)]; exact hT1
    have hU0 : V2 (B2) = some (.inr (5, [.ref (ad (B2 + 1)), .int (nI n2)])) := by rw [eV2, va_up_ne _ _ (by omega)]; exact hU0
    have hU1 : V2 (B2 + 1) = some (.inl (cy 3, 4, .inr (.inr (.inr (.inr (fun i => if i < 4 then some (ad (B2 + 2 + i)) else none)))))) := by rw [eV2, va_up_ne _ _ (by omega)]; exact hU1
    have hUrk : V2 (B2 + 2 + k) = some (.inl (cy 0, 40, .inl (M2 k))) := by rw [eV2, va_up_ne _ _ (by omega)]; exact hUrk
    have hTrk : V2 (B + 2 + k) = some (.inl (cy 0, 40, .inl (va_cpy (M2 k) (M k) 0 0 n2))) := by rw [eV2, va_up_self]
    refine lv_iinc (v := nI (k + 1)) (lv' := [(2, .int (nI (k + 1))), (0, .ref (ad B)), (1, .ref (ad B2))]) hx hb dX5_becomeLike_36 hl (k := 2) rfl (by rw [show Int32.ofInt 1 = nI 1 from by decide]; exact nI_add _ _) (by decide) rfl (fun ls hl => ?_)
    refine lv_goto (tgt := 10) hx hb dX5_becomeLike_39 (by decide) ?_
    exact ih (k + 1) _ _ _ ⟨by omega, ⟨_, ⟨⟨hT0, hT1, fun mm hm => by
      rw [eV2]
      by_cases h2 : mm = k
      · subst h2; rw [va_up_self, cpyZ (fun o ho => hZ2 mm o ho) (fun o ho => hZ mm o (by omega))]; simp
      · rw [va_up_ne _ _ (by omega), hTr mm hm]
        have h3 : mm < k + 1 ↔ mm < k := by omega
        simp [h3]⟩, fun L hL => by rw [eV2, va_up_ne _ _ (by omega)]; exact hfr L hL⟩, hW⟩, hS, ls, rfl, lv_sub hl [1, 2, 0] rfl⟩ (by omega)

set_option maxHeartbeats 4000000 in
set_option maxRecDepth 100000 in
theorem c_X5_put (l : Launch) (D : va_G) (cy : Nat → ClassId) (z0 : Nat) (ad : Nat → Nat) (V : Nat → Option va_E) (B n : Nat) (M : Nat → Nat → Int32) (hT : isT ad V cy B n M) (hn40 : n ≤ 40) (mm oo : Nat) (v : Int32) (hm3 : mm < 3) (ho : oo < n) : Met l yX5_put [Cond.code yX5_put cX5_put 8 none] { frames := 2, cells := 0, slots := 0, locals := 45 } (WP [.ref (ad B), .int (nI oo), .int (nI mm), .int (v)] D cy z0 ad V) (va_Qv (fun u => u.1 = ad ∧ isT ad u.2 cy B n (putM n M mm oo v) ∧ ∀ L, (L < B ∨ B + 6 ≤ L) → u.2 L = V L) (WB D z0) (AA z0)) 0 0 (AA z0) := by
  refine met_of (by decide) (Nat.le_of_ble_eq_true rfl) (fun p e s m below meth c hx hb hr hml hown hlocks hnm hK hz hW ls hl => ?_)
  have hown : s.vm.findClass RX5 = some m.cls := hown
  have hl : lv_has ls 8 [(0, .ref (ad B)), (1, .int (nI oo)), (2, .int (nI mm)), (3, .int (v))] := hl
  have hS : va_S (AA z0) s.heap s.heap [] := va_S.rf
  obtain ⟨hT0, hT1, hTr⟩ := id hT
  have hTrmm := hTr mm (by omega)
  refine lv_aload_n hx hb dX5_put_0 rfl (lv_at hl 0 rfl) ?_
  refine g_X5_X5_rows hx hb hown hK hW hT0 dX5_put_1 ?_
  refine lv_iload_n hx hb dX5_put_4 rfl (lv_at hl 2 rfl) ?_
  refine w_aald hx hb hK hW 3 rfl rfl hT1 (j := mm) (rfl) (by omega) (by omega) dX5_put_5 ?_
  refine asv (y := .ref (ad (B + 2 + mm))) (el4 (by omega)) ?_
  refine lv_iload_n hx hb dX5_put_6 rfl (lv_at hl 1 rfl) ?_
  refine lv_iload_n hx hb dX5_put_7 rfl (lv_at hl 3 rfl) ?_
  refine w_iast hx hb hK hW hS hTrmm (j := oo) (rfl) (by omega) (by omega) dX5_put_8 (fun H locs hW hS => ?_)
  obtain ⟨V1, eV1⟩ : ∃ x, x = va_up V (B + 2 + mm) (some (.inl (cy 0, 40, .inl (upd (M mm) oo v)))) := ⟨_, rfl⟩
  rw [← eV1] at hW
  have hT0 : V1 (B) = some (.inr (5, [.ref (ad (B + 1)), .int (nI n)])) := by rw [eV1, va_up_ne _ _ (by omega)]; exact hT0
  have hT1 : V1 (B + 1) = some (.inl (cy 3, 4, .inr (.inr (.inr (.inr (fun i => if i < 4 then some (ad (B + 2 + i)) else none)))))) := by rw [eV1, va_up_ne _ _ (by omega)]; exact hT1
  have hTrmm : V1 (B + 2 + mm) = some (.inl (cy 0, 40, .inl (upd (M mm) oo v))) := by rw [eV1, va_up_self]
  obtain ⟨M1, eM1⟩ : ∃ x, x = updM M mm oo v := ⟨_, rfl⟩
  have hT : isT ad V1 cy B n M1 := ⟨hT0, hT1, fun q hq => by
    rw [eM1, eV1]
    by_cases h2 : q = mm
    · subst h2; rw [va_up_self]; simp [updM]
    · rw [va_up_ne _ _ (by omega), hTr q hq]; simp [updM, h2]⟩
  have hfr : ∀ L, (L < B ∨ B + 6 ≤ L) → V1 L = V L := fun L hL => by rw [eV1, va_up_ne _ _ (by omega)]
  obtain ⟨hT0, hT1, hTr⟩ := id hT
  have hTr2 := hTr 2 (by omega)
  have hTr0 := hTr 0 (by omega)
  have hTr3 := hTr 3 (by omega)
  refine lv_aload_n hx hb dX5_put_9 rfl (lv_at hl 0 rfl) ?_
  refine g_X5_X5_rows hx hb hown hK hW hT0 dX5_put_10 ?_
  refine lv_iconst (v := nI 2) hx hb dX5_put_13 (by decide) ?_
  refine w_aald hx hb hK hW 3 rfl rfl hT1 (j := 2) (rfl) (by omega) (by omega) dX5_put_14 ?_
  refine asv (y := .ref (ad (B + 2 + 2))) (el4 (by omega)) ?_
  refine lv_iload_n hx hb dX5_put_15 rfl (lv_at hl 1 rfl) ?_
  refine w_iald hx hb hK hW hTr2 (j := oo) (rfl) (by omega) (by omega) dX5_put_16 ?_
  refine lv_istore (lv' := [(4, .int ((M1 2) oo)), (0, .ref (ad B)), (1, .int (nI oo)), (2, .int (nI mm)), (3, .int (v))]) hx hb dX5_put_17 hl (by decide) rfl (fun ls hl => ?_)
  refine lv_aload_n hx hb dX5_put_19 rfl (lv_at hl 1 rfl) ?_
  refine g_X5_X5_rows hx hb hown hK hW hT0 dX5_put_20 ?_
  refine lv_iconst (v := nI 0) hx hb dX5_put_23 (by decide) ?_
  refine w_aald hx hb hK hW 3 rfl rfl hT1 (j := 0) (rfl) (by omega) (by omega) dX5_put_24 ?_
  refine asv (y := .ref (ad (B + 2 + 0))) (el4 (by omega)) ?_
  refine lv_iload_n hx hb dX5_put_25 rfl (lv_at hl 2 rfl) ?_
  refine w_iald hx hb hK hW hTr0 (j := oo) (rfl) (by omega) (by omega) dX5_put_26 ?_
  refine jl (pcj := 49) (st := [.int (if hasB n (M1 2 oo) = true then M1 3 (M1 2 oo).toNatClampNeg else nI 0), .int ((M1 0) oo)]) (nL := 8) (lv := [(4, .int ((M1 2) oo)), (0, .ref (ad B)), (1, .int (nI oo)), (2, .int (nI mm)), (3, .int (v))]) (fun K => ?_) (fun ls hl => ?_)
  · skip
    refine lv_aload_n hx hb dX5_put_27 rfl (lv_at hl 1 rfl) ?_
    refine lv_iload hx hb dX5_put_28 (lv_at hl 0 rfl) ?_
    refine vp_callSi (va_Run.run (va_runV (As := [.int ((M1 2) oo)]) (rest := [.int ((M1 0) oo)]) ⟨hx, hb, hml, hown, hK.1.use _⟩ (c_X5_has l D cy z0 ad V1 B n M1 (M1 2 oo) hT) (k_X5_X5_has hK.1 rfl rfl ⟨Nat.le_of_ble_eq_true rfl, Nat.le_of_ble_eq_true rfl⟩) (preV hK (Nat.le_trans hz hS.1) hW hT0 rfl) rfl rfl hl.1 rfl (lv_room (Nat.le_of_ble_eq_true rfl)) dX5_put_30 ⟨Nat.le_of_ble_eq_true rfl, Nat.le_of_ble_eq_true rfl⟩)) (fun r30 h30 => ?_)
    have h30 : r30 = b2i (hasB n (M1 2 oo)) := h30
    subst h30
    refine lv_if_eq (tgt := 48) hx hb dX5_put_33 (by decide) (fun c33 => ?_) (fun c33 => ?_)
    · skip
      have c33 := b2i_0.mp c33
      refine lv_iconst (v := nI 0) hx hb dX5_put_48 (by decide) ?_
      refine asi (y := if hasB n (M1 2 oo) = true then M1 3 (M1 2 oo).toNatClampNeg else nI 0) (by simp [c33]) ?_
      exact K ls (lv_sub hl [0, 1, 2, 3, 4] rfl)
    · skip
      have c33 := b2i_1.mp c33
      have hb9 := hasB_of c33 (by omega)
      refine lv_aload_n hx hb dX5_put_36 rfl (lv_at hl 1 rfl) ?_
      refine g_X5_X5_rows hx hb hown hK hW hT0 dX5_put_37 ?_
      refine lv_iconst (v := nI 3) hx hb dX5_put_40 (by decide) ?_
      refine w_aald hx hb hK hW 3 rfl rfl hT1 (j := 3) (rfl) (by omega) (by omega) dX5_put_41 ?_
      refine asv (y := .ref (ad (B + 2 + 3))) (el4 (by omega)) ?_
      refine lv_iload hx hb dX5_put_42 (lv_at hl 0 rfl) ?_
      refine w_iald hx hb hK hW hTr3 (j := (M1 2 oo).toNatClampNeg) (hb9.1) (by omega) (by omega) dX5_put_44 ?_
      refine lv_goto (tgt := 49) hx hb dX5_put_45 (by decide) ?_
      refine asi (y := if hasB n (M1 2 oo) = true then M1 3 (M1 2 oo).toNatClampNeg else nI 0) (by simp [c33]) ?_
      exact K ls (lv_sub hl [0, 1, 2, 3, 4] rfl)
  · skip
    refine lv_iadd hx hb dX5_put_49 ?_
    refine asi (y := dueM n M1 oo) (rfl) ?_
    refine lv_istore (lv' := [(5, .int (dueM n M1 oo)), (4, .int ((M1 2) oo)), (0, .ref (ad B)), (1, .int (nI oo)), (2, .int (nI mm)), (3, .int (v))]) hx hb dX5_put_50 hl (by decide) rfl (fun ls hl => ?_)
    refine lv_iload hx hb dX5_put_52 (lv_at hl 0 rfl) ?_
    refine lv_aload_n hx hb dX5_put_54 rfl (lv_at hl 2 rfl) ?_
    refine g_X5_X5_rows hx hb hown hK hW hT0 dX5_put_55 ?_
    refine lv_iconst (v := nI 3) hx hb dX5_put_58 (by decide) ?_
    refine w_aald hx hb hK hW 3 rfl rfl hT1 (j := 3) (rfl) (by omega) (by omega) dX5_put_59 ?_
    refine asv (y := .ref (ad (B + 2 + 3))) (el4 (by omega)) ?_
    refine lv_iload_n hx hb dX5_put_60 rfl (lv_at hl 3 rfl) ?_
    refine w_iald hx hb hK hW hTr3 (j := oo) (rfl) (by omega) (by omega) dX5_put_61 ?_
    refine lv_isub hx hb dX5_put_62 ?_
    refine lv_istore (lv' := [(6, .int ((dueM n M1 oo) - ((M1 3) oo))), (5, .int (dueM n M1 oo)), (4, .int ((M1 2) oo)), (0, .ref (ad B)), (1, .int (nI oo)), (2, .int (nI mm)), (3, .int (v))]) hx hb dX5_put_63 hl (by decide) rfl (fun ls hl => ?_)
    obtain ⟨df, edf⟩ : ∃ x, x = dueM n M1 oo - M1 3 oo := ⟨_, rfl⟩
    have hq65_6 : ((dueM n M1 oo) - ((M1 3) oo)) = (df) := edf.symm
    rw [hq65_6] at hl
    refine lv_iconst (v := nI 0) hx hb dX5_put_65 (by decide) ?_
    refine lv_istore (lv' := [(7, .int (nI 0)), (6, .int (df)), (5, .int (dueM n M1 oo)), (4, .int ((M1 2) oo)), (0, .ref (ad B)), (1, .int (nI oo)), (2, .int (nI mm)), (3, .int (v))]) hx hb dX5_put_66 hl (by decide) rfl (fun ls hl => ?_)
    refine wlh (ι := Nat) (fun i => n - i) (fun i H locs g => (i ≤ n) ∧ (∃ X, (isT ad X cy B n (movM n M1 oo df i) ∧ ∀ L, (L < B ∨ B + 6 ≤ L) → X L = V L) ∧ HW D z0 ad X H) ∧ va_S (AA z0) s.heap H locs ∧ ∃ ls, g = F0 m 68 ls [] ∧ lv_has ls 8 [(0, .ref (ad B)), (1, .int (nI oo)), (6, .int (df)), (7, .int (nI i))]) ?_ (0) _ _ _ ⟨Nat.zero_le _, ⟨_, ⟨by rw [movM_0]; exact hT, hfr⟩, hW⟩, hS, ls, rfl, lv_sub hl [4, 5, 1, 0] rfl⟩
    intro i H locs g hg ih
    obtain ⟨hi, ⟨Vl, ⟨hTi, hfr⟩, hW⟩, hS, ls, rfl, hl⟩ := hg
    obtain ⟨hT0, hT1, hTr⟩ := id hTi
    have hTr3 := hTr 3 (by omega)
    refine lv_iload hx hb dX5_put_68 (lv_at hl 3 rfl) ?_
    refine lv_aload_n hx hb dX5_put_70 rfl (lv_at hl 0 rfl) ?_
    refine g_X5_X5_objects hx hb hown hK hW hT0 dX5_put_71 ?_
    refine lv_icmp_ge (tgt := 112) hx hb dX5_put_74 (by decide) (fun c74 => ?_) (fun c74 => ?_)
    · skip
      have c74 := nI_le' c74 (by omega) (by omega)
      exact rwv hx hb hr hlocks dX5_put_112 hW hS (⟨rfl, by first | (have e9 : i = n := (by omega); rw [e9] at hTi; unfold putM; rw [← eM1, ← edf]; exact hTi) | (unfold putM; rw [← eM1, ← edf]; have e8 : df = 0 := c79; rw [e8] at hTi ⊢; rw [movM_z n M1 oo n i]; exact hTi), hfr⟩)
    · skip
      have c74 := nI_nle' c74 (by omega) (by omega)
      refine lv_iload hx hb dX5_put_77 (lv_at hl 2 rfl) ?_
      refine lv_if_eq (tgt := 112) hx hb dX5_put_79 (by decide) (fun c79 => ?_) (fun c79 => ?_)
      · skip
        exact rwv hx hb hr hlocks dX5_put_112 hW hS (⟨rfl, by first | (have e9 : i = n := (by omega); rw [e9] at hTi; unfold putM; rw [← eM1, ← edf]; exact hTi) | (unfold putM; rw [← eM1, ← edf]; have e8 : df = 0 := c79; rw [e8] at hTi ⊢; rw [movM_z n M1 oo n i]; exact hTi), hfr⟩)
      · skip
        refine lv_aload_n hx hb dX5_put_82 rfl (lv_at hl 0 rfl) ?_
        refine lv_iload hx hb dX5_put_83 (lv_at hl 3 rfl) ?_
        refine lv_iload_n hx hb dX5_put_85 rfl (lv_at hl 1 rfl) ?_
        refine vp_callSi (va_Run.run (va_runV (As := [.int (nI i), .int (nI oo)]) (rest := []) ⟨hx, hb, hml, hown, hK.1.use _⟩ (c_X5_leads l D cy z0 ad Vl B n (movM n M1 oo df i) hTi hn40 (nI i) (nI oo)) (k_X5_X5_leads hK.1 rfl rfl ⟨Nat.le_of_ble_eq_true rfl, Nat.le_of_ble_eq_true rfl⟩) (preV hK (Nat.le_trans hz hS.1) hW hT0 rfl) rfl rfl hl.1 rfl (lv_room (Nat.le_of_ble_eq_true rfl)) dX5_put_86 ⟨Nat.le_of_ble_eq_true rfl, Nat.le_of_ble_eq_true rfl⟩)) (fun r86 h86 => ?_)
        have h86 : r86 = b2i (ldB n (M1 2) n (nI i) (nI oo)) := h86
        subst h86
        refine lv_if_eq (tgt := 106) hx hb dX5_put_89 (by decide) (fun c89 => ?_) (fun c89 => ?_)
        · skip
          have c89 := b2i_0.mp c89
          refine lv_iinc (v := nI (i + 1)) (lv' := [(7, .int (nI (i + 1))), (0, .ref (ad B)), (1, .int (nI oo)), (6, .int (df))]) hx hb dX5_put_106 hl (k := 3) rfl (by rw [show Int32.ofInt 1 = nI 1 from by decide]; exact nI_add _ _) (by decide) rfl (fun ls hl => ?_)
          refine lv_goto (tgt := 68) hx hb dX5_put_109 (by decide) ?_
          exact ih (i + 1) _ _ _ ⟨by omega, ⟨_, ⟨by rw [movM_no c89]; exact hTi, hfr⟩, hW⟩, hS, ls, rfl, lv_sub hl [1, 2, 3, 0] rfl⟩ (by omega)
        · skip
          have c89 := b2i_1.mp c89
          refine lv_aload_n hx hb dX5_put_92 rfl (lv_at hl 0 rfl) ?_
          refine g_X5_X5_rows hx hb hown hK hW hT0 dX5_put_93 ?_
          refine lv_iconst (v := nI 3) hx hb dX5_put_96 (by decide) ?_
          refine w_aald hx hb hK hW 3 rfl rfl hT1 (j := 3) (rfl) (by omega) (by omega) dX5_put_97 ?_
          refine asv (y := .ref (ad (B + 2 + 3))) (el4 (by omega)) ?_
          refine lv_iload hx hb dX5_put_98 (lv_at hl 3 rfl) ?_
          refine lv_dup2_11 hx hb dX5_put_100 rfl rfl ?_
          refine w_iald hx hb hK hW hTr3 (j := i) (rfl) (by omega) (by omega) dX5_put_101 ?_
          refine lv_iload hx hb dX5_put_102 (lv_at hl 2 rfl) ?_
          refine lv_iadd hx hb dX5_put_104 ?_
          refine w_iast hx hb hK hW hS hTr3 (j := i) (rfl) (by omega) (by omega) dX5_put_105 (fun H locs hW hS => ?_)
          obtain ⟨V2, eV2⟩ : ∃ x, x = va_up Vl (B + 2 + 3) (some (.inl (cy 0, 40, .inl (upd ((movM n M1 oo df i) 3) i ((((movM n M1 oo df i) 3) i) + df))))) := ⟨_, rfl⟩
          rw [← eV2] at hW
          have hT0 : V2 (B) = some (.inr (5, [.ref (ad (B + 1)), .int (nI n)])) := by rw [eV2, va_up_ne _ _ (by omega)]; exact hT0
          have hT1 : V2 (B + 1) = some (.inl (cy 3, 4, .inr (.inr (.inr (.inr (fun i => if i < 4 then some (ad (B + 2 + i)) else none)))))) := by rw [eV2, va_up_ne _ _ (by omega)]; exact hT1
          have hTr3 : V2 (B + 2 + 3) = some (.inl (cy 0, 40, .inl (upd ((movM n M1 oo df i) 3) i ((((movM n M1 oo df i) 3) i) + df)))) := by rw [eV2, va_up_self]
          refine lv_iinc (v := nI (i + 1)) (lv' := [(7, .int (nI (i + 1))), (0, .ref (ad B)), (1, .int (nI oo)), (6, .int (df))]) hx hb dX5_put_106 hl (k := 3) rfl (by rw [show Int32.ofInt 1 = nI 1 from by decide]; exact nI_add _ _) (by decide) rfl (fun ls hl => ?_)
          refine lv_goto (tgt := 68) hx hb dX5_put_109 (by decide) ?_
          exact ih (i + 1) _ _ _ ⟨by omega, ⟨_, ⟨⟨hT0, hT1, fun q hq => by
        rw [eV2]
        by_cases h2 : q = 3
        · subst h2; rw [va_up_self, movM_yes c89]
        · rw [va_up_ne _ _ (by omega), hTr q hq]; simp [movM, h2]⟩, fun L hL => by rw [eV2, va_up_ne _ _ (by omega)]; exact hfr L hL⟩, hW⟩, hS, ls, rfl, lv_sub hl [1, 2, 3, 0] rfl⟩ (by omega)
