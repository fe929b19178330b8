set_option maxHeartbeats 4000000 in
set_option maxRecDepth 100000 in
theorem c_X0_push (l : Launch) (D : va_G) (cy : Nat → ClassId) (z0 : Nat) (ad : Nat → Nat) (V : Nat → Option va_E) (PB : Nat) (ho hm hv : Nat → Int32) (hs : Nat → Nat → Int64) (nx kn : Nat) (hH : isH ad V cy PB ho hm hv hs nx kn) (kp : Nat → Int64) (hC3 : V (PB + 13) = some (.inl (cy 1, 12, .inr (.inl kp)))) (hnx : nx < 60) (hkn : kn ≤ 60) (o mm v : Int32) : Met l yX0_push [Cond.code yX0_push cX0_push 5 none] { frames := 1, cells := 0, slots := 0, locals := 60 } (WP [.ref (ad (PB + 15)), .int (o), .int (mm), .int (v), .ref (ad (PB + 13))] D cy z0 ad V) (va_Qv (fun u => u.1 = ad ∧ isH ad u.2 cy PB (upd ho nx o) (upd hm nx mm) (upd hv nx v) (hsU hs nx kp) (nxU nx) (knU kn) ∧ ∀ L, (L < PB + 15 ∨ PB + 80 ≤ L) → u.2 L = V L) (WB D z0) (AA z0)) 0 0 (AA z0) := by
  refine met_of (by decide) (Nat.le_of_ble_eq_true rfl) (fun p e s m below meth c hx hb hr hml hown hlocks hnm hK hz hW ls hl => ?_)
  have hown : s.vm.findClass RX0 = some m.cls := hown
  have hl : lv_has ls 5 [(0, .ref (ad (PB + 15))), (1, .int (o)), (2, .int (mm)), (3, .int (v)), (4, .ref (ad (PB + 13)))] := hl
  have hS : va_S (AA z0) s.heap s.heap [] := va_S.rf
  obtain ⟨hH0, hH1, hH2, hH3, hH4, hHr⟩ := id hH
  have hHx := hHr nx hnx
  refine lv_aload_n hx hb dX0_push_0 rfl (lv_at hl 0 rfl) ?_
  refine g_X0_X0_objects hx hb hown hK hW hH0 dX0_push_1 ?_
  refine lv_aload_n hx hb dX0_push_4 rfl (lv_at hl 0 rfl) ?_
  refine g_X0_X0_next hx hb hown hK hW hH0 dX0_push_5 ?_
  refine lv_iload_n hx hb dX0_push_8 rfl (lv_at hl 1 rfl) ?_
  refine w_iast hx hb hK hW hS hH1 (j := nx) (rfl) (by omega) (by omega) dX0_push_9 (fun H locs hW hS => ?_)
  obtain ⟨V1, eV1⟩ : ∃ x, x = va_up V (PB + 16) (some (.inl (cy 0, 60, .inl (upd ho nx o)))) := ⟨_, rfl⟩
  rw [← eV1] at hW
  have hH0 : V1 (PB + 15) = some (.inr (0, [.ref (ad (PB + 16)), .ref (ad (PB + 17)), .ref (ad (PB + 18)), .ref (ad (PB + 19)), .int (nI nx), .int (nI kn)])) := by rw [eV1, va_up_ne _ _ (by omega)]; exact hH0
  have hH2 : V1 (PB + 17) = some (.inl (cy 0, 60, .inl hm)) := by rw [eV1, va_up_ne _ _ (by omega)]; exact hH2
  have hH3 : V1 (PB + 18) = some (.inl (cy 0, 60, .inl hv)) := by rw [eV1, va_up_ne _ _ (by omega)]; exact hH3
  have hH4 : V1 (PB + 19) = some (.inl (cy 4, 60, .inr (.inr (.inr (.inr (fun i => if i < 60 then some (ad (PB + 20 + i)) else none)))))) := by rw [eV1, va_up_ne _ _ (by omega)]; exact hH4
  have hC3 : V1 (PB + 13) = some (.inl (cy 1, 12, .inr (.inl kp))) := by rw [eV1, va_up_ne _ _ (by omega)]; exact hC3
  have hHx : V1 (PB + 20 + nx) = some (.inl (cy 1, 12, .inr (.inl (hs nx)))) := by rw [eV1, va_up_ne _ _ (by omega)]; exact hHx
  have hH1 : V1 (PB + 16) = some (.inl (cy 0, 60, .inl (upd ho nx o))) := by rw [eV1, va_up_self]
  refine lv_aload_n hx hb dX0_push_10 rfl (lv_at hl 0 rfl) ?_
  refine g_X0_X0_members hx hb hown hK hW hH0 dX0_push_11 ?_
  refine lv_aload_n hx hb dX0_push_14 rfl (lv_at hl 0 rfl) ?_
  refine g_X0_X0_next hx hb hown hK hW hH0 dX0_push_15 ?_
  refine lv_iload_n hx hb dX0_push_18 rfl (lv_at hl 2 rfl) ?_
  refine w_iast hx hb hK hW hS hH2 (j := nx) (rfl) (by omega) (by omega) dX0_push_19 (fun H locs hW hS => ?_)
  obtain ⟨V2, eV2⟩ : ∃ x, x = va_up V1 (PB + 17) (some (.inl (cy 0, 60, .inl (upd hm nx mm)))) := ⟨_, rfl⟩
  rw [← eV2] at hW
  have hH0 : V2 (PB + 15) = some (.inr (0, [.ref (ad (PB + 16)), .ref (ad (PB + 17)), .ref (ad (PB + 18)), .ref (ad (PB + 19)), .int (nI nx), .int (nI kn)])) := by rw [eV2, va_up_ne _ _ (by omega)]; exact hH0
  have hH3 : V2 (PB + 18) = some (.inl (cy 0, 60, .inl hv)) := by rw [eV2, va_up_ne _ _ (by omega)]; exact hH3
  have hH4 : V2 (PB + 19) = some (.inl (cy 4, 60, .inr (.inr (.inr (.inr (fun i => if i < 60 then some (ad (PB + 20 + i)) else none)))))) := by rw [eV2, va_up_ne _ _ (by omega)]; exact hH4
  have hC3 : V2 (PB + 13) = some (.inl (cy 1, 12, .inr (.inl kp))) := by rw [eV2, va_up_ne _ _ (by omega)]; exact hC3
  have hHx : V2 (PB + 20 + nx) = some (.inl (cy 1, 12, .inr (.inl (hs nx)))) := by rw [eV2, va_up_ne _ _ (by omega)]; exact hHx
  have hH1 : V2 (PB + 16) = some (.inl (cy 0, 60, .inl (upd ho nx o))) := by rw [eV2, va_up_ne _ _ (by omega)]; exact hH1
  have hH2 : V2 (PB + 17) = some (.inl (cy 0, 60, .inl (upd hm nx mm))) := by rw [eV2, va_up_self]
  refine lv_aload_n hx hb dX0_push_20 rfl (lv_at hl 0 rfl) ?_
  refine g_X0_X0_numbers hx hb hown hK hW hH0 dX0_push_21 ?_
  refine lv_aload_n hx hb dX0_push_24 rfl (lv_at hl 0 rfl) ?_
  refine g_X0_X0_next hx hb hown hK hW hH0 dX0_push_25 ?_
  refine lv_iload_n hx hb dX0_push_28 rfl (lv_at hl 3 rfl) ?_
  refine w_iast hx hb hK hW hS hH3 (j := nx) (rfl) (by omega) (by omega) dX0_push_29 (fun H locs hW hS => ?_)
  obtain ⟨V3, eV3⟩ : ∃ x, x = va_up V2 (PB + 18) (some (.inl (cy 0, 60, .inl (upd hv nx v)))) := ⟨_, rfl⟩
  rw [← eV3] at hW
  have hH0 : V3 (PB + 15) = some (.inr (0, [.ref (ad (PB + 16)), .ref (ad (PB + 17)), .ref (ad (PB + 18)), .ref (ad (PB + 19)), .int (nI nx), .int (nI kn)])) := by rw [eV3, va_up_ne _ _ (by omega)]; exact hH0
  have hH4 : V3 (PB + 19) = some (.inl (cy 4, 60, .inr (.inr (.inr (.inr (fun i => if i < 60 then some (ad (PB + 20 + i)) else none)))))) := by rw [eV3, va_up_ne _ _ (by omega)]; exact hH4
  have hC3 : V3 (PB + 13) = some (.inl (cy 1, 12, .inr (.inl kp))) := by rw [eV3, va_up_ne _ _ (by omega)]; exact hC3
  have hHx : V3 (PB + 20 + nx) = some (.inl (cy 1, 12, .inr (.inl (hs nx)))) := by rw [eV3, va_up_ne _ _ (by omega)]; exact hHx
  have hH1 : V3 (PB + 16) = some (.inl (cy 0, 60, .inl (upd ho nx o))) := by rw [eV3, va_up_ne _ _ (by omega)]; exact hH1
  have hH2 : V3 (PB + 17) = some (.inl (cy 0, 60, .inl (upd hm nx mm))) := by rw [eV3, va_up_ne _ _ (by omega)]; exact hH2
  have hH3 : V3 (PB + 18) = some (.inl (cy 0, 60, .inl (upd hv nx v))) := by rw [eV3, va_up_self]
  refine lv_aload hx hb dX0_push_30 (lv_at hl 4 rfl) ?_
  refine lv_iconst (v := nI 0) hx hb dX0_push_32 (by decide) ?_
  refine lv_aload_n hx hb dX0_push_33 rfl (lv_at hl 0 rfl) ?_
  refine g_X0_X0_keptAt hx hb hown hK hW hH0 dX0_push_34 ?_
  refine lv_aload_n hx hb dX0_push_37 rfl (lv_at hl 0 rfl) ?_
  refine g_X0_X0_next hx hb hown hK hW hH0 dX0_push_38 ?_
  refine w_aald hx hb hK hW 4 rfl rfl hH4 (j := nx) (rfl) (by omega) (by omega) dX0_push_41 ?_
  refine asv (y := .ref (ad (PB + 20 + nx))) (elK (by omega)) ?_
  refine lv_iconst (v := nI 0) hx hb dX0_push_42 (by decide) ?_
  refine lv_bipush (v := nI 12) hx hb dX0_push_43 (by decide) ?_
  refine w_copyl hx hb (hml.trans hl.1.symm) hown k_X0_arraycopy tw_181 tw_180 tw_7 hK hW hS hC3 hHx (a := 0) (b := 0) (k := 12) rfl rfl rfl (by omega) (by omega) (by omega) (by omega) (Nat.le_of_ble_eq_true rfl) (Nat.le_of_ble_eq_true rfl) dX0_push_45 (fun H locs hW hS => ?_)
  obtain ⟨V4, eV4⟩ : ∃ x, x = va_up V3 (PB + 20 + nx) (some (.inl (cy 1, 12, .inr (.inl (va_cpy kp (hs nx) 0 0 12))))) := ⟨_, rfl⟩
  rw [← eV4] at hW
  have hH0 : V4 (PB + 15) = some (.inr (0, [.ref (ad (PB + 16)), .ref (ad (PB + 17)), .ref (ad (PB + 18)), .ref (ad (PB + 19)), .int (nI nx), .int (nI kn)])) := by rw [eV4, va_up_ne _ _ (by omega)]; exact hH0
  have hH4 : V4 (PB + 19) = some (.inl (cy 4, 60, .inr (.inr (.inr (.inr (fun i => if i < 60 then some (ad (PB + 20 + i)) else none)))))) := by rw [eV4, va_up_ne _ _ (by omega)]; exact hH4
  have hC3 : V4 (PB + 13) = some (.inl (cy 1, 12, .inr (.inl kp))) := by rw [eV4, va_up_ne _ _ (by omega)]; exact hC3
  have hH1 : V4 (PB + 16) = some (.inl (cy 0, 60, .inl (upd ho nx o))) := by rw [eV4, va_up_ne _ _ (by omega)]; exact hH1
  have hH2 : V4 (PB + 17) = some (.inl (cy 0, 60, .inl (upd hm nx mm))) := by rw [eV4, va_up_ne _ _ (by omega)]; exact hH2
  have hH3 : V4 (PB + 18) = some (.inl (cy 0, 60, .inl (upd hv nx v))) := by rw [eV4, va_up_ne _ _ (by omega)]; exact hH3
  have hHx : V4 (PB + 20 + nx) = some (.inl (cy 1, 12, .inr (.inl (va_cpy kp (hs nx) 0 0 12)))) := by rw [eV4, va_up_self]
  refine lv_aload_n hx hb dX0_push_48 rfl (lv_at hl 0 rfl) ?_
  refine jl (pcj := 70) (st := [.int (nI (nxU nx)), .ref (ad (PB + 15))]) (nL := 5) (lv := [(0, .ref (ad (PB + 15))), (1, .int (o)), (2, .int (mm)), (3, .int (v)), (4, .ref (ad (PB + 13)))]) (fun K => ?_) (fun ls hl => ?_)
  · skip
    refine lv_aload_n hx hb dX0_push_49 rfl (lv_at hl 0 rfl) ?_
    refine g_X0_X0_next hx hb hown hK hW hH0 dX0_push_50 ?_
    refine lv_iconst (v := nI 1) hx hb dX0_push_53 (by decide) ?_
    refine lv_iadd hx hb dX0_push_54 ?_
    refine asi (y := nI (nx + 1)) (nI_add _ _) ?_
    refine lv_bipush (v := nI 60) hx hb dX0_push_55 (by decide) ?_
    refine lv_icmp_ge (tgt := 69) hx hb dX0_push_57 (by decide) (fun c57 => ?_) (fun c57 => ?_)
    · skip
      have c57 := nI_le' c57 (by omega) (by omega)
      refine lv_iconst (v := nI 0) hx hb dX0_push_69 (by decide) ?_
      refine asi (y := nI (nxU nx)) (by have c57 : _ := c57; unfold nxU; first | rw [if_pos (by omega)] | rw [if_neg (by omega)]) ?_
      exact K ls (lv_sub hl [0, 1, 2, 3, 4] rfl)
    · skip
      have c57 := nI_nle' c57 (by omega) (by omega)
      refine lv_aload_n hx hb dX0_push_60 rfl (lv_at hl 0 rfl) ?_
      refine g_X0_X0_next hx hb hown hK hW hH0 dX0_push_61 ?_
      refine lv_iconst (v := nI 1) hx hb dX0_push_64 (by decide) ?_
      refine lv_iadd hx hb dX0_push_65 ?_
      refine asi (y := nI (nx + 1)) (nI_add _ _) ?_
      refine lv_goto (tgt := 70) hx hb dX0_push_66 (by decide) ?_
      refine asi (y := nI (nxU nx)) (by have c57 : _ := c57; unfold nxU; first | rw [if_pos (by omega)] | rw [if_neg (by omega)]) ?_
      exact K ls (lv_sub hl [0, 1, 2, 3, 4] rfl)
  · skip
    refine p_X0_X0_next hx hb hown hK hW hS hH0 dX0_push_70 (fun H locs hW hS => ?_)
    obtain ⟨V5, eV5⟩ : ∃ x, x = va_up V4 (PB + 15) (some (.inr (0, [.ref (ad (PB + 16)), .ref (ad (PB + 17)), .ref (ad (PB + 18)), .ref (ad (PB + 19)), .int (nI (nxU nx)), .int (nI kn)]))) := ⟨_, rfl⟩
    rw [← eV5] at hW
    have hH4 : V5 (PB + 19) = some (.inl (cy 4, 60, .inr (.inr (.inr (.inr (fun i => if i < 60 then some (ad (PB + 20 + i)) else none)))))) := by rw [eV5, va_up_ne _ _ (by omega)]; exact hH4
    have hC3 : V5 (PB + 13) = some (.inl (cy 1, 12, .inr (.inl kp))) := by rw [eV5, va_up_ne _ _ (by omega)]; exact hC3
    have hH1 : V5 (PB + 16) = some (.inl (cy 0, 60, .inl (upd ho nx o))) := by rw [eV5, va_up_ne _ _ (by omega)]; exact hH1
    have hH2 : V5 (PB + 17) = some (.inl (cy 0, 60, .inl (upd hm nx mm))) := by rw [eV5, va_up_ne _ _ (by omega)]; exact hH2
    have hH3 : V5 (PB + 18) = some (.inl (cy 0, 60, .inl (upd hv nx v))) := by rw [eV5, va_up_ne _ _ (by omega)]; exact hH3
    have hHx : V5 (PB + 20 + nx) = some (.inl (cy 1, 12, .inr (.inl (va_cpy kp (hs nx) 0 0 12)))) := by rw [eV5, va_up_ne _ _ (by omega)]; exact hHx
    have hH0 : V5 (PB + 15) = some (.inr (0, [.ref (ad (PB + 16)), .ref (ad (PB + 17)), .ref (ad (PB + 18)), .ref (ad (PB + 19)), .int (nI (nxU nx)), .int (nI kn)])) := by rw [eV5, va_up_self]
    refine lv_aload_n hx hb dX0_push_73 rfl (lv_at hl 0 rfl) ?_
    refine lv_aload_n hx hb dX0_push_74 rfl (lv_at hl 0 rfl) ?_
    refine g_X0_X0_known hx hb hown hK hW hH0 dX0_push_75 ?_
    refine lv_iconst (v := nI 1) hx hb dX0_push_78 (by decide) ?_
    refine lv_iadd hx hb dX0_push_79 ?_
    refine asi (y := nI (kn + 1)) (nI_add _ _) ?_
    refine lv_bipush (v := nI 60) hx hb dX0_push_80 (by decide) ?_
    refine k_X0_mmin hx hb (hml.trans hl.1.symm) hown hK (Nat.le_of_ble_eq_true rfl) (Nat.le_of_ble_eq_true rfl) (Nat.zero_le _) (Nat.zero_le _) dX0_push_82 ?_
    refine asi (y := nI (knU kn)) (knU_eq hkn) ?_
    refine p_X0_X0_known hx hb hown hK hW hS hH0 dX0_push_85 (fun H locs hW hS => ?_)
    obtain ⟨V6, eV6⟩ : ∃ x, x = va_up V5 (PB + 15) (some (.inr (0, [.ref (ad (PB + 16)), .ref (ad (PB + 17)), .ref (ad (PB + 18)), .ref (ad (PB + 19)), .int (nI (nxU nx)), .int (nI (knU kn))]))) := ⟨_, rfl⟩
    rw [← eV6] at hW
    have hH4 : V6 (PB + 19) = some (.inl (cy 4, 60, .inr (.inr (.inr (.inr (fun i => if i < 60 then some (ad (PB + 20 + i)) else none)))))) := by rw [eV6, va_up_ne _ _ (by omega)]; exact hH4
    have hC3 : V6 (PB + 13) = some (.inl (cy 1, 12, .inr (.inl kp))) := by rw [eV6, va_up_ne _ _ (by omega)]; exact hC3
    have hH1 : V6 (PB + 16) = some (.inl (cy 0, 60, .inl (upd ho nx o))) := by rw [eV6, va_up_ne _ _ (by omega)]; exact hH1
    have hH2 : V6 (PB + 17) = some (.inl (cy 0, 60, .inl (upd hm nx mm))) := by rw [eV6, va_up_ne _ _ (by omega)]; exact hH2
    have hH3 : V6 (PB + 18) = some (.inl (cy 0, 60, .inl (upd hv nx v))) := by rw [eV6, va_up_ne _ _ (by omega)]; exact hH3
    have hHx : V6 (PB + 20 + nx) = some (.inl (cy 1, 12, .inr (.inl (va_cpy kp (hs nx) 0 0 12)))) := by rw [eV6, va_up_ne _ _ (by omega)]; exact hHx
    have hH0 : V6 (PB + 15) = some (.inr (0, [.ref (ad (PB + 16)), .ref (ad (PB + 17)), .ref (ad (PB + 18)), .ref (ad (PB + 19)), .int (nI (nxU nx)), .int (nI (knU kn))])) := by rw [eV6, va_up_self]
    exact rwv hx hb hr hlocks dX0_push_88 hW hS (⟨rfl, ⟨hH0, hH1, hH2, hH3, hH4, fun i hi => by
    show V6 (PB + 20 + i) = _
    rw [eV6, va_up_ne _ _ (by omega), eV5, va_up_ne _ _ (by omega), eV4]
    by_cases h : i = nx
    · subst h; rw [va_up_self]; simp [hsU]
    · rw [va_up_ne _ _ (by omega), eV3, va_up_ne _ _ (by omega), eV2, va_up_ne _ _ (by omega), eV1, va_up_ne _ _ (by omega), hHr i hi]; simp [hsU, h]⟩, fun L hL => by
    show V6 L = V L
    rw [eV6, va_up_ne _ _ (by omega), eV5, va_up_ne _ _ (by omega), eV4, va_up_ne _ _ (by omega), eV3, va_up_ne _ _ (by omega), eV2, va_up_ne _ _ (by omega), eV1, va_up_ne _ _ (by omega)]⟩)

set_option maxHeartbeats 4000000 in
set_option maxRecDepth 100000 in
theorem c_X0_pop (l : Launch) (D : va_G) (cy : Nat → ClassId) (z0 : Nat) (ad : Nat → Nat) (V : Nat → Option va_E) (PB : Nat) (ho hm hv : Nat → Int32) (hs : Nat → Nat → Int64) (nx kn : Nat) (hH : isH ad V cy PB ho hm hv hs nx kn) (hnx : nx < 60) (hkn : kn ≤ 60) (hk0 : 0 < kn) : Met l yX0_pop [Cond.code yX0_pop cX0_pop 1 (some .int)] { frames := 0, cells := 0, slots := 0, locals := 0 } (WP [.ref (ad (PB + 15))] D cy z0 ad V) (va_Qi (fun r u => r = nI (nxD nx) ∧ u.1 = ad ∧ isH ad u.2 cy PB ho hm hv hs (nxD nx) (kn - 1) ∧ ∀ L, ¬ L = PB + 15 → u.2 L = V L) (WB D z0) (AA z0)) 0 0 (AA z0) := by
  refine met_of (by decide) (Nat.le_of_ble_eq_true rfl) (fun p e s m below meth c hx hb hr hml hown hlocks hnm hK hz hW ls hl => ?_)
  have hown : s.vm.findClass RX0 = some m.cls := hown
  have hl : lv_has ls 1 [(0, .ref (ad (PB + 15)))] := hl
  have hS : va_S (AA z0) s.heap s.heap [] := va_S.rf
  obtain ⟨hH0, hH1, hH2, hH3, hH4, hHr⟩ := id hH
  refine lv_aload_n hx hb dX0_pop_0 rfl (lv_at hl 0 rfl) ?_
  refine jl (pcj := 19) (st := [.int (nI (nxD nx)), .ref (ad (PB + 15))]) (nL := 1) (lv := [(0, .ref (ad (PB + 15)))]) (fun K => ?_) (fun ls hl => ?_)
  · skip
    refine lv_aload_n hx hb dX0_pop_1 rfl (lv_at hl 0 rfl) ?_
    refine g_X0_X0_next hx hb hown hK hW hH0 dX0_pop_2 ?_
    refine lv_if_le (tgt := 17) hx hb dX0_pop_5 (by decide) (fun c5 => ?_) (fun c5 => ?_)
    · skip
      have c5 := nI_le' (b := 0) c5 (by omega) (by omega)
      refine lv_bipush (v := nI 59) hx hb dX0_pop_17 (by decide) ?_
      refine asi (y := nI (nxD nx)) (by unfold nxD; first | rw [if_pos (by omega)] | rw [if_neg (by omega)]) ?_
      exact K ls (lv_sub hl [0] rfl)
    · skip
      have c5 := nI_nle' (b := 0) c5 (by omega) (by omega)
      refine lv_aload_n hx hb dX0_pop_8 rfl (lv_at hl 0 rfl) ?_
      refine g_X0_X0_next hx hb hown hK hW hH0 dX0_pop_9 ?_
      refine lv_iconst (v := nI 1) hx hb dX0_pop_12 (by decide) ?_
      refine lv_isub hx hb dX0_pop_13 ?_
      refine asi (y := nI (nx - 1)) (pk_sub (by omega)) ?_
      refine lv_goto (tgt := 19) hx hb dX0_pop_14 (by decide) ?_
      refine asi (y := nI (nxD nx)) (by unfold nxD; first | rw [if_pos (by omega)] | rw [if_neg (by omega)]) ?_
      exact K ls (lv_sub hl [0] rfl)
  · skip
    refine p_X0_X0_next hx hb hown hK hW hS hH0 dX0_pop_19 (fun H locs hW hS => ?_)
    obtain ⟨V1, eV1⟩ : ∃ x, x = va_up V (PB + 15) (some (.inr (0, [.ref (ad (PB + 16)), .ref (ad (PB + 17)), .ref (ad (PB + 18)), .ref (ad (PB + 19)), .int (nI (nxD nx)), .int (nI kn)]))) := ⟨_, rfl⟩
    rw [← eV1] at hW
    have hH1 : V1 (PB + 16) = some (.inl (cy 0, 60, .inl ho)) := by rw [eV1, va_up_ne _ _ (by omega)]; exact hH1
    have hH2 : V1 (PB + 17) = some (.inl (cy 0, 60, .inl hm)) := by rw [eV1, va_up_ne _ _ (by omega)]; exact hH2
    have hH3 : V1 (PB + 18) = some (.inl (cy 0, 60, .inl hv)) := by rw [eV1, va_up_ne _ _ (by omega)]; exact hH3
    have hH4 : V1 (PB + 19) = some (.inl (cy 4, 60, .inr (.inr (.inr (.inr (fun i => if i < 60 then some (ad (PB + 20 + i)) else none)))))) := by rw [eV1, va_up_ne _ _ (by omega)]; exact hH4
    have hH0 : V1 (PB + 15) = some (.inr (0, [.ref (ad (PB + 16)), .ref (ad (PB + 17)), .ref (ad (PB + 18)), .ref (ad (PB + 19)), .int (nI (nxD nx)), .int (nI kn)])) := by rw [eV1, va_up_self]
    refine lv_aload_n hx hb dX0_pop_22 rfl (lv_at hl 0 rfl) ?_
    refine lv_dup hx hb dX0_pop_23 rfl ?_
    refine g_X0_X0_known hx hb hown hK hW hH0 dX0_pop_24 ?_
    refine lv_iconst (v := nI 1) hx hb dX0_pop_27 (by decide) ?_
    refine lv_isub hx hb dX0_pop_28 ?_
    refine asi (y := nI (kn - 1)) (pk_sub (by omega)) ?_
    refine p_X0_X0_known hx hb hown hK hW hS hH0 dX0_pop_29 (fun H locs hW hS => ?_)
    obtain ⟨V2, eV2⟩ : ∃ x, x = va_up V1 (PB + 15) (some (.inr (0, [.ref (ad (PB + 16)), .ref (ad (PB + 17)), .ref (ad (PB + 18)), .ref (ad (PB + 19)), .int (nI (nxD nx)), .int (nI (kn - 1))]))) := ⟨_, rfl⟩
    rw [← eV2] at hW
    have hH1 : V2 (PB + 16) = some (.inl (cy 0, 60, .inl ho)) := by rw [eV2, va_up_ne _ _ (by omega)]; exact hH1
    have hH2 : V2 (PB + 17) = some (.inl (cy 0, 60, .inl hm)) := by rw [eV2, va_up_ne _ _ (by omega)]; exact hH2
    have hH3 : V2 (PB + 18) = some (.inl (cy 0, 60, .inl hv)) := by rw [eV2, va_up_ne _ _ (by omega)]; exact hH3
    have hH4 : V2 (PB + 19) = some (.inl (cy 4, 60, .inr (.inr (.inr (.inr (fun i => if i < 60 then some (ad (PB + 20 + i)) else none)))))) := by rw [eV2, va_up_ne _ _ (by omega)]; exact hH4
    have hH0 : V2 (PB + 15) = some (.inr (0, [.ref (ad (PB + 16)), .ref (ad (PB + 17)), .ref (ad (PB + 18)), .ref (ad (PB + 19)), .int (nI (nxD nx)), .int (nI (kn - 1))])) := by rw [eV2, va_up_self]
    refine lv_aload_n hx hb dX0_pop_32 rfl (lv_at hl 0 rfl) ?_
    refine g_X0_X0_next hx hb hown hK hW hH0 dX0_pop_33 ?_
    exact rwi hx hb hr hlocks dX0_pop_36 hW hS (⟨rfl, rfl, ⟨hH0, hH1, hH2, hH3, hH4, fun i hi => by
    show V2 (PB + 20 + i) = _
    rw [eV2, va_up_ne _ _ (by omega), eV1, va_up_ne _ _ (by omega)]; exact hHr i hi⟩, fun L hL => by
    show V2 L = V L
    rw [eV2, va_up_ne _ _ hL, eV1, va_up_ne _ _ hL]⟩)

set_option maxHeartbeats 4000000 in
set_option maxRecDepth 100000 in
theorem c_X1_layOut (l : Launch) (D : va_G) (cy : Nat → ClassId) (z0 : Nat) (ad : Nat → Nat) (V : Nat → Option va_E) (PB n n2 k : Nat) (M M2 : Nat → Nat → Int32) (kp : Nat → Int64) (fb : Nat → Bool) (ch co fo bk : Int32) (bb : Bool) (ρ : RuT) (hC : isC ad V cy PB n M n2 M2 kp fb ch co fo bb bk) (hB : isBk ad V cy k ρ) (hk : okR k ρ) (hn40 : n ≤ 40) (hn2 : n2 ≤ 40) (hPB : 100 ≤ PB) (hnn : n2 ≤ n) (hZ : Zt n M) (hZ2 : Zt n2 M2) (mm oo : Nat) (v : Int32) (hm3 : mm < 3) (hoo : oo < n) : Met l yX1_layOut [Cond.code yX1_layOut cX1_layOut 4 none] { frames := 3, cells := 0, slots := 0, locals := 82 } (WP [.ref (ad PB), .int (nI oo), .int (nI mm), .int (v)] D cy z0 ad V) (va_Qv (fun u => u.1 = ad ∧ isT ad u.2 cy (PB + 7) n (putM n M mm oo v) ∧ ∀ L, (L < PB + 7 ∨ PB + 7 + 6 ≤ L) → u.2 L = V L) (WB D z0) (AA z0)) 0 0 (AA z0) := by
  refine met_of (by decide) (Nat.le_of_ble_eq_true rfl) (fun p e s m below meth c hx hb hr hml hown hlocks hnm hK hz hW ls hl => ?_)
  have hown : s.vm.findClass RX1 = some m.cls := hown
  have hl : lv_has ls 4 [(0, .ref (ad PB)), (1, .int (nI oo)), (2, .int (nI mm)), (3, .int (v))] := hl
  have hS : va_S (AA z0) s.heap s.heap [] := va_S.rf
  have hk12 := hk.1
  obtain ⟨hC0, hCT, hCU, hC3, hC4⟩ := id hC
  obtain ⟨hT0, hT1, hTr⟩ := id hCT
  obtain ⟨hU0, hU1, hUr⟩ := id hCU
  obtain ⟨hB0, hB1, hBr⟩ := id hB
  refine lv_aload_n hx hb dX1_layOut_0 rfl (lv_at hl 0 rfl) ?_
  refine g_X1_X1_behind hx hb hown hK hW hC0 dX1_layOut_1 ?_
  refine lv_aload_n hx hb dX1_layOut_4 rfl (lv_at hl 0 rfl) ?_
  refine g_X1_X1_now hx hb hown hK hW hC0 dX1_layOut_5 ?_
  refine cv (va_runV (As := [.ref (ad (PB + 1))]) (rest := []) ⟨hx, hb, hml, hown, hK.1.use _⟩ (c_X5_becomeLike l D cy z0 ad V (PB + 7) n2 M2 hCU (PB + 1) n M hCT hnn (by omega) (by omega) hZ2 hZ) (k_X1_X5_becomeLike hK.1 rfl rfl ⟨Nat.le_of_ble_eq_true rfl, Nat.le_of_ble_eq_true rfl⟩) (preV hK hz hW hU0 rfl) rfl rfl hl.1 rfl (lv_room (Nat.le_of_ble_eq_true rfl)) dX1_layOut_8 ⟨Nat.le_of_ble_eq_true rfl, Nat.le_of_ble_eq_true rfl⟩) hS (fun ad8 Vc8 H locs h8 hW hS => ?_)
  obtain ⟨e8, hT8, hfr8⟩ := h8
  obtain rfl : ad = ad8 := e8.symm
  have hC8 := hC.lay hT8 hfr8
  have hB8 := hB.mv hk.1 (fun L h1 h2 => hfr8 L (by omega))
  have hk12 := hk.1
  obtain ⟨hC0, hCT, hCU, hC3, hC4⟩ := id hC8
  obtain ⟨hT0, hT1, hTr⟩ := id hCT
  obtain ⟨hU0, hU1, hUr⟩ := id hCU
  obtain ⟨hB0, hB1, hBr⟩ := id hB8
  refine lv_aload_n hx hb dX1_layOut_11 rfl (lv_at hl 0 rfl) ?_
  refine g_X1_X1_behind hx hb hown hK hW hC0 dX1_layOut_12 ?_
  refine lv_iload_n hx hb dX1_layOut_15 rfl (lv_at hl 1 rfl) ?_
  refine lv_iload_n hx hb dX1_layOut_16 rfl (lv_at hl 2 rfl) ?_
  refine lv_iload_n hx hb dX1_layOut_17 rfl (lv_at hl 3 rfl) ?_
  refine cv (va_runV (As := [.int (nI oo), .int (nI mm), .int (v)]) (rest := []) ⟨hx, hb, hml, hown, hK.1.use _⟩ (c_X5_put l D cy z0 ad Vc8 (PB + 7) n M hCU (by omega) mm oo v hm3 hoo) (k_X1_X5_put hK.1 rfl rfl ⟨Nat.le_of_ble_eq_true rfl, Nat.le_of_ble_eq_true rfl⟩) (preV hK (Nat.le_trans hz hS.1) hW hU0 rfl) rfl rfl hl.1 rfl (lv_room (Nat.le_of_ble_eq_true rfl)) dX1_layOut_18 ⟨Nat.le_of_ble_eq_true rfl, Nat.le_of_ble_eq_true rfl⟩) hS (fun ad18 Vc18 H locs h18 hW hS => ?_)
  obtain ⟨e18, hT9, hfr9⟩ := h18
  obtain rfl : ad = ad18 := e18.symm
  exact rwv hx hb hr hlocks dX1_layOut_21 hW hS (⟨rfl, hT9, fun L hL => (hfr9 L hL).trans (hfr8 L hL)⟩)

set_option maxHeartbeats 4000000 in
set_option maxRecDepth 100000 in
theorem c_X1_moveOn (l : Launch) (D : va_G) (cy : Nat → ClassId) (z0 : Nat) (ad : Nat → Nat) (V : Nat → Option va_E) (PB n n2 k : Nat) (M M2 : Nat → Nat → Int32) (kp : Nat → Int64) (fb : Nat → Bool) (ch co fo bk : Int32) (bb : Bool) (ρ : RuT) (hC : isC ad V cy PB n M n2 M2 kp fb ch co fo bb bk) (hB : isBk ad V cy k ρ) (hk : okR k ρ) (hn40 : n ≤ 40) (hn2 : n2 ≤ 40) (hPB : 100 ≤ PB) (hnn : n ≤ n2) (hZ : Zt n M) (hZ2 : Zt n2 M2) : Met l yX1_moveOn [Cond.code yX1_moveOn cX1_moveOn 2 none] { frames := 2, cells := 0, slots := 0, locals := 82 } (WP [.ref (ad PB)] D cy z0 ad V) (va_Qv (fun u => u.1 = ad ∧ isC ad u.2 cy PB n2 M2 n2 M2 kp fb ch (co + nI (ctS ρ M M2 n k)) fo bb bk ∧ ∀ L, (L < PB ∨ PB + 7 ≤ L) → u.2 L = V L) (WB D z0) (AA z0)) 0 0 (AA z0) := by
  refine met_of (by decide) (Nat.le_of_ble_eq_true rfl) (fun p e s m below meth c hx hb hr hml hown hlocks hnm hK hz hW ls hl => ?_)
  have hown : s.vm.findClass RX1 = some m.cls := hown
  have hl : lv_has ls 2 [(0, .ref (ad PB))] := hl
  have hS : va_S (AA z0) s.heap s.heap [] := va_S.rf
  have hk12 := hk.1
  obtain ⟨hC0, hCT, hCU, hC3, hC4⟩ := id hC
  obtain ⟨hT0, hT1, hTr⟩ := id hCT
  obtain ⟨hU0, hU1, hUr⟩ := id hCU
  obtain ⟨hB0, hB1, hBr⟩ := id hB
  refine lv_iconst (v := nI 0) hx hb dX1_moveOn_0 (by decide) ?_
  refine lv_istore_n (lv' := [(1, .int (nI 0)), (0, .ref (ad PB))]) hx hb dX1_moveOn_1 rfl hl (by decide) rfl (fun ls hl => ?_)
  refine wlh (ι := Nat) (fun i => k - i) (fun i H locs g => (i ≤ k) ∧ (∃ X, (isC ad X cy PB n M n2 M2 kp fb ch (co + nI (ctS ρ M M2 n i)) fo bb bk ∧ ∀ L, ¬ L = PB → X L = V L) ∧ HW D z0 ad X H) ∧ va_S (AA z0) s.heap H locs ∧ ∃ ls, g = F0 m 2 ls [] ∧ lv_has ls 2 [(0, .ref (ad PB)), (1, .int (nI i))]) ?_ (0) _ _ _ ⟨Nat.zero_le _, ⟨_, ⟨by rw [show co + nI (ctS ρ M M2 n 0) = co from by show co + nI 0 = co; rw [nI_0]; simp]; exact hC, fun L _ => rfl⟩, hW⟩, hS, ls, rfl, lv_sub hl [1, 0] rfl⟩
  intro i H locs g hg ih
  obtain ⟨hi, ⟨Vl, ⟨hCl, hfr⟩, hW⟩, hS, ls, rfl, hl⟩ := hg
  have hBl := hB.mv hk.1 (fun L h1 h2 => hfr L (by omega))
  obtain ⟨hC0, hCT, hCU, hC3, hC4⟩ := id hCl
  obtain ⟨hT0, hT1, hTr⟩ := id hCT
  obtain ⟨hU0, hU1, hUr⟩ := id hCU
  obtain ⟨hB0, hB1, hBr⟩ := id hBl
  refine lv_iload_n hx hb dX1_moveOn_2 rfl (lv_at hl 1 rfl) ?_
  refine lv_aload_n hx hb dX1_moveOn_3 rfl (lv_at hl 0 rfl) ?_
  refine g_X1_X1_book hx hb hown hK hW hC0 dX1_moveOn_4 ?_
  refine g_X1_X3_size hx hb hown hK hW hB0 dX1_moveOn_7 ?_
  refine lv_icmp_ge (tgt := 48) hx hb dX1_moveOn_10 (by decide) (fun c10 => ?_) (fun c10 => ?_)
  · skip
    have c10 := nI_le' c10 (by omega) (by omega)
    have e9 : i = k := by omega
    subst e9
    refine lv_aload_n hx hb dX1_moveOn_48 rfl (lv_at hl 0 rfl) ?_
    refine g_X1_X1_now hx hb hown hK hW hC0 dX1_moveOn_49 ?_
    refine lv_aload_n hx hb dX1_moveOn_52 rfl (lv_at hl 0 rfl) ?_
    refine g_X1_X1_behind hx hb hown hK hW hC0 dX1_moveOn_53 ?_
    refine cv (va_runV (As := [.ref (ad (PB + 7))]) (rest := []) ⟨hx, hb, hml, hown, hK.1.use _⟩ (c_X5_becomeLike l D cy z0 ad Vl (PB + 1) n M hCT (PB + 7) n2 M2 hCU hnn (by omega) (by omega) hZ hZ2) (k_X1_X5_becomeLike hK.1 rfl rfl ⟨Nat.le_of_ble_eq_true rfl, Nat.le_of_ble_eq_true rfl⟩) (preV hK (Nat.le_trans hz hS.1) hW hT0 rfl) rfl rfl hl.1 rfl (lv_room (Nat.le_of_ble_eq_true rfl)) dX1_moveOn_56 ⟨Nat.le_of_ble_eq_true rfl, Nat.le_of_ble_eq_true rfl⟩) hS (fun ad56 Vc56 H locs h56 hW hS => ?_)
    obtain ⟨e56, hT9, hfr9⟩ := h56
    obtain rfl : ad = ad56 := e56.symm
    exact rwv hx hb hr hlocks dX1_moveOn_59 hW hS (⟨rfl, hCl.now hT9 hfr9, fun L hL => (hfr9 L (by omega)).trans (hfr L (by omega))⟩)
  · skip
    have c10 := nI_nle' c10 (by omega) (by omega)
    have hBri := hBr i (by omega)
    have hki := hk.2 i (by omega)
    refine lv_aload_n hx hb dX1_moveOn_13 rfl (lv_at hl 0 rfl) ?_
    refine lv_dup hx hb dX1_moveOn_14 rfl ?_
    refine g_X1_X1_cost hx hb hown hK hW hC0 dX1_moveOn_15 ?_
    refine lv_aload_n hx hb dX1_moveOn_18 rfl (lv_at hl 0 rfl) ?_
    refine g_X1_X1_book hx hb hown hK hW hC0 dX1_moveOn_19 ?_
    refine g_X1_X3_rules hx hb hown hK hW hB0 dX1_moveOn_22 ?_
    refine lv_iload_n hx hb dX1_moveOn_25 rfl (lv_at hl 1 rfl) ?_
    refine w_aald hx hb hK hW 6 rfl rfl hB1 (j := i) (rfl) (by omega) (by omega) dX1_moveOn_26 ?_
    refine asv (y := .ref (ad (10 + i))) (elK (by omega)) ?_
    refine lv_aload_n hx hb dX1_moveOn_27 rfl (lv_at hl 0 rfl) ?_
    refine g_X1_X1_now hx hb hown hK hW hC0 dX1_moveOn_28 ?_
    refine lv_aload_n hx hb dX1_moveOn_31 rfl (lv_at hl 0 rfl) ?_
    refine g_X1_X1_behind hx hb hown hK hW hC0 dX1_moveOn_32 ?_
    refine vp_callSi (va_Run.run (va_runV (As := [.ref (ad (PB + 1)), .ref (ad (PB + 7))]) (rest := [.int (co + nI (ctS ρ M M2 n i)), .ref (ad PB)]) ⟨hx, hb, hml, hown, hK.1.use _⟩ (c_X2_countTouched l D cy z0 ad Vl (10 + i) (ρ i).1 (ρ i).2.1 (ρ i).2.2.1 (ρ i).2.2.2.1 (ρ i).2.2.2.2 hBri hki.1 hki.2 (PB + 1) n M hCT (PB + 7) n2 M2 hCU (by omega)) (k_X1_X2_countTouched hK.1 rfl rfl ⟨Nat.le_of_ble_eq_true rfl, Nat.le_of_ble_eq_true rfl⟩) (preV hK (Nat.le_trans hz hS.1) hW hBri rfl) rfl rfl hl.1 rfl (lv_room (Nat.le_of_ble_eq_true rfl)) dX1_moveOn_35 ⟨Nat.le_of_ble_eq_true rfl, Nat.le_of_ble_eq_true rfl⟩)) (fun r35 h35 => ?_)
    have h35 : r35 = nI (ctR ρ i M M2 n) := h35
    subst h35
    refine lv_iadd hx hb dX1_moveOn_38 ?_
    refine asi (y := co + nI (ctS ρ M M2 n (i + 1))) (by rw [Int32.add_assoc, nI_add]; rfl) ?_
    refine p_X1_X1_cost hx hb hown hK hW hS hC0 dX1_moveOn_39 (fun H locs hW hS => ?_)
    obtain ⟨V1, eV1⟩ : ∃ x, x = va_up Vl (PB) (some (.inr (1, [.ref (ad (1)), .ref (ad (PB + 1)), .ref (ad (PB + 7)), .ref (ad (PB + 13)), .ref (ad (PB + 14)), .ref (ad (PB + 15)), .int (ch), .int (co + nI (ctS ρ M M2 n (i + 1))), .int (fo), .int (b2i bb), .int (bk)]))) := ⟨_, rfl⟩
    rw [← eV1] at hW
    have hC3 : V1 (PB + 13) = some (.inl (cy 1, 12, .inr (.inl kp))) := by rw [eV1, va_up_ne _ _ (by omega)]; exact hC3
    have hC4 : V1 (PB + 14) = some (.inl (cy 2, 12, .inl (fun r => b2i (fb r)))) := by rw [eV1, va_up_ne _ _ (by omega)]; exact hC4
    have hT0 : V1 (PB + 1) = some (.inr (5, [.ref (ad (PB + 1 + 1)), .int (nI n)])) := by rw [eV1, va_up_ne _ _ (by omega)]; exact hT0
    have hT1 : V1 (PB + 1 + 1) = some (.inl (cy 3, 4, .inr (.inr (.inr (.inr (fun i => if i < 4 then some (ad (PB + 1 + 2 + i)) else none)))))) := by rw [eV1, va_up_ne _ _ (by omega)]; exact hT1
    have hU0 : V1 (PB + 7) = some (.inr (5, [.ref (ad (PB + 7 + 1)), .int (nI n2)])) := by rw [eV1, va_up_ne _ _ (by omega)]; exact hU0
    have hU1 : V1 (PB + 7 + 1) = some (.inl (cy 3, 4, .inr (.inr (.inr (.inr (fun i => if i < 4 then some (ad (PB + 7 + 2 + i)) else none)))))) := by rw [eV1, va_up_ne _ _ (by omega)]; exact hU1
    have hB0 : V1 (1) = some (.inr (3, [.ref (ad (2)), .int (nI k)])) := by rw [eV1, va_up_ne _ _ (by omega)]; exact hB0
    have hB1 : V1 (2) = some (.inl (cy 6, 12, .inr (.inr (.inr (.inr (fun i => if i < k then some (ad (10 + i)) else none)))))) := by rw [eV1, va_up_ne _ _ (by omega)]; exact hB1
    have hBri : V1 (10 + i) = some (.inr (2, [.int (nI ((ρ i).1)), .int (nI ((ρ i).2.1)), .int ((ρ i).2.2.1), .int ((ρ i).2.2.2.1), .int ((ρ i).2.2.2.2)])) := by rw [eV1, va_up_ne _ _ (by omega)]; exact hBri
    have hC0 : V1 (PB) = some (.inr (1, [.ref (ad (1)), .ref (ad (PB + 1)), .ref (ad (PB + 7)), .ref (ad (PB + 13)), .ref (ad (PB + 14)), .ref (ad (PB + 15)), .int (ch), .int (co + nI (ctS ρ M M2 n (i + 1))), .int (fo), .int (b2i bb), .int (bk)])) := by rw [eV1, va_up_self]
    refine lv_iinc (v := nI (i + 1)) (lv' := [(1, .int (nI (i + 1))), (0, .ref (ad PB))]) hx hb dX1_moveOn_42 hl (k := 1) rfl (by rw [show Int32.ofInt 1 = nI 1 from by decide]; exact nI_add _ _) (by decide) rfl (fun ls hl => ?_)
    refine lv_goto (tgt := 2) hx hb dX1_moveOn_45 (by decide) ?_
    exact ih (i + 1) _ _ _ ⟨by omega, ⟨_, ⟨⟨hC0, hCT.mv (fun L h1 h2 => by rw [eV1, va_up_ne _ _ (by omega)]), hCU.mv (fun L h1 h2 => by rw [eV1, va_up_ne _ _ (by omega)]), hC3, hC4⟩, fun L hL => by rw [eV1, va_up_ne _ _ hL]; exact hfr L hL⟩, hW⟩, hS, ls, rfl, lv_sub hl [1, 0] rfl⟩ (by omega)
