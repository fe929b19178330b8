set_option maxHeartbeats 4000000 in
set_option maxRecDepth 100000 in
theorem c_X3_add (l : Launch) (D : va_G) (cy : Nat → ClassId) (z0 : Nat) (ad : Nat → Nat) (V : Nat → Option va_E) (k : Nat) (ρ : RuT) (hB : isBk ad V cy k ρ) (hk12 : k < 12) (fs : List Value) (hR : V (10 + k) = some (.inr (2, fs))) : Met l yX3_add [Cond.code yX3_add cX3_add 2 (some .int)] { frames := 0, cells := 0, slots := 0, locals := 0 } (WP [.ref (ad 1), .ref (ad (10 + k))] D cy z0 ad V) (va_Qi (fun r u => r = nI k ∧ u.1 = ad ∧ u.2 1 = some (.inr (3, [.ref (ad 2), .int (nI (k + 1))])) ∧ u.2 2 = some (.inl (cy 6, 12, .inr (.inr (.inr (.inr (fun i => if i < k + 1 then some (ad (10 + i)) else none)))))) ∧ ∀ L, ¬ L = 1 → ¬ L = 2 → u.2 L = V L) (WB D z0) (AA z0)) 0 0 (AA z0) := by
  refine met_of (by decide) (Nat.le_of_ble_eq_true rfl) (fun p e s m below meth c hx hb hr hml hown hlocks hnm hK hz hW ls hl => ?_)
  have hown : s.vm.findClass RX3 = some m.cls := hown
  have hl : lv_has ls 2 [(0, .ref (ad 1)), (1, .ref (ad (10 + k)))] := hl
  have hS : va_S (AA z0) s.heap s.heap [] := va_S.rf
  obtain ⟨hB0, hB1, hBr⟩ := id hB
  refine lv_aload_n hx hb dX3_add_0 rfl (lv_at hl 0 rfl) ?_
  refine g_X3_X3_rules hx hb hown hK hW hB0 dX3_add_1 ?_
  refine lv_aload_n hx hb dX3_add_4 rfl (lv_at hl 0 rfl) ?_
  refine g_X3_X3_size hx hb hown hK hW hB0 dX3_add_5 ?_
  refine lv_aload_n hx hb dX3_add_8 rfl (lv_at hl 1 rfl) ?_
  refine w_astq hx hb hK hW hS 6 2 rfl rfl hB1 hR (j := k) rfl (by omega) (by omega) dX3_add_9 (fun H locs hW hS => ?_)
  obtain ⟨V1, eV1⟩ : ∃ x9, x9 = va_up V (2) (some (.inl (cy 6, 12, .inr (.inr (.inr (.inr (va_up (fun i => if i < k then some (ad (10 + i)) else none) k (some (ad (10 + k)))))))))) := ⟨_, rfl⟩
  rw [← eV1] at hW
  have hB0 : V1 (1) = some (.inr (3, [.ref (ad (2)), .int (nI k)])) := by rw [eV1, va_up_ne _ _ (by omega)]; exact hB0
  have hB1 : V1 (2) = some (.inl (cy 6, 12, .inr (.inr (.inr (.inr (va_up (fun i => if i < k then some (ad (10 + i)) else none) k (some (ad (10 + k))))))))) := by rw [eV1, va_up_self]
  refine lv_aload_n hx hb dX3_add_10 rfl (lv_at hl 0 rfl) ?_
  refine lv_dup hx hb dX3_add_11 rfl ?_
  refine g_X3_X3_size hx hb hown hK hW hB0 dX3_add_12 ?_
  refine lv_iconst (v := nI 1) hx hb dX3_add_15 (by decide) ?_
  refine lv_iadd hx hb dX3_add_16 ?_
  refine asi (y := nI (k + 1)) (nI_add _ _) ?_
  refine p_X3_X3_size hx hb hown hK hW hS hB0 dX3_add_17 (fun H locs hW hS => ?_)
  obtain ⟨V2, eV2⟩ : ∃ x9, x9 = va_up V1 (1) (some (.inr (3, [.ref (ad (2)), .int (nI (k + 1))]))) := ⟨_, rfl⟩
  rw [← eV2] at hW
  have hB1 : V2 (2) = some (.inl (cy 6, 12, .inr (.inr (.inr (.inr (va_up (fun i => if i < k then some (ad (10 + i)) else none) k (some (ad (10 + k))))))))) := by rw [eV2, va_up_ne _ _ (by omega)]; exact hB1
  have hB0 : V2 (1) = some (.inr (3, [.ref (ad (2)), .int (nI (k + 1))])) := by rw [eV2, va_up_self]
  refine lv_aload_n hx hb dX3_add_20 rfl (lv_at hl 0 rfl) ?_
  refine g_X3_X3_size hx hb hown hK hW hB0 dX3_add_21 ?_
  refine lv_iconst (v := nI 1) hx hb dX3_add_24 (by decide) ?_
  refine lv_isub hx hb dX3_add_25 ?_
  refine asi (y := nI ((k + 1) - 1)) (pk_sub (by omega)) ?_
  exact rwi hx hb hr hlocks dX3_add_26 hW hS (⟨rfl, rfl, hB0, by rw [up_if (fun i => ad (10 + i)) k] at hB1; exact hB1, fun L h1 h2 => by show V2 L = _; rw [eV2, va_up_ne _ _ h1, eV1, va_up_ne _ _ h2]⟩)

set_option maxHeartbeats 4000000 in
set_option maxRecDepth 100000 in
theorem c_X6_object (l : Launch) (D : va_G) (cy : Nat → ClassId) (z0 : Nat) (ad : Nat → Nat) (V : Nat → Option va_E) (n k P K : Nat) (ce : Int32) (ρ : RuT) (pl : Nat → PlT) (sn : Nat → SnT) (hX : isX ad V cy n k P K ce ρ pl sn) (hO : okX n k P K ρ pl sn) : Met l yX6_object [Cond.code yX6_object cX6_object 1 (some .int)] { frames := 5, cells := 0, slots := 0, locals := 117 } (WP [.ref (ad 0)] D cy z0 ad V) (va_Qi (fun r u => r = (xObject n k P ρ pl).1 ∧ u.1 = ad ∧ isX ad u.2 cy (xObject n k P ρ pl).2.1 k P K ce ρ (xObject n k P ρ pl).2.2 sn ∧ ∀ L, 2000 ≤ L → u.2 L = V L) (WB D z0) (AA z0)) 0 0 (AA z0) := by
  refine met_of (by decide) (Nat.le_of_ble_eq_true rfl) (fun p e s m below meth c hx hb hr hml hown hlocks hnm hK hz hW ls hl => ?_)
  have hown : s.vm.findClass RX6 = some m.cls := hown
  have hl : lv_has ls 1 [(0, .ref (ad 0))] := hl
  have hS : va_S (AA z0) s.heap s.heap [] := va_S.rf
  obtain ⟨hX0, hB, hX3, hX4, hXp, hXs, hFx⟩ := id hX
  obtain ⟨hn40, hk, hP1, hP4, hK20, hOp, hOs⟩ := id hO
  have hk12 := hk.1
  obtain ⟨hB0, hB1, hBr⟩ := id hB
  have hPq := hXp 0 (by omega)
  have hOq := hOp 0 (by omega)
  obtain ⟨PB, ePB⟩ : ∃ PB, PB = 100 + 100 * 0 := ⟨_, rfl⟩
  rw [← ePB] at hPq
  obtain ⟨π, eπ⟩ : ∃ π, π = pl 0 := ⟨_, rfl⟩
  rw [← eπ] at hPq hOq
  obtain ⟨M, kp, fb, ch, co, fo, bb, bn, ho, hm, hv, hs, nx, kn⟩ := π
  obtain ⟨⟨n2, M2, hC, hnn, hZ2⟩, hH⟩ := id hPq
  obtain ⟨hZ, hb60, hnx, hkn, hbk, hOk⟩ := hOq
  have hC : isC ad V cy PB n M n2 M2 kp fb ch co fo bb (nI bn) := hC
  have hH : isH ad V cy PB ho hm hv hs nx kn := hH
  have hZ : Zt n M := hZ
  have hPB : 100 ≤ PB := by omega
  have hn2 : n2 ≤ 40 := by omega
  have hk12 := hk.1
  obtain ⟨hC0, hCT, hCU, hC3, hC4⟩ := id hC
  obtain ⟨hT0, hT1, hTr⟩ := id hCT
  obtain ⟨hU0, hU1, hUr⟩ := id hCU
  obtain ⟨hB0, hB1, hBr⟩ := id hB
  have hX0' := hX0
  have hX3' := hX3
  have hX4' := hX4
  refine lv_aload_n hx hb dX6_object_0 rfl (lv_at hl 0 rfl) ?_
  refine vp_callSi (va_Run.run (va_runV (As := []) (rest := []) ⟨hx, hb, hml, hown, hK.1.use _⟩ (c_X6_isSettled l D cy z0 ad V n k P K ce ρ pl sn hX hO) (k_X6_X6_isSettled hK.1 rfl rfl ⟨Nat.le_of_ble_eq_true rfl, Nat.le_of_ble_eq_true rfl⟩) (preV hK hz hW hX0 rfl) rfl rfl hl.1 rfl (lv_room (Nat.le_of_ble_eq_true rfl)) dX6_object_1 ⟨Nat.le_of_ble_eq_true rfl, Nat.le_of_ble_eq_true rfl⟩)) (fun r1 h1 => ?_)
  have h1 : r1 = b2i (stB P (pCh (pl 0))) := h1
  subst h1
  refine lv_if_eq (tgt := 10) hx hb dX6_object_4 (by decide) (fun c4 => ?_) (fun c4 => ?_)
  · skip
    have c4 := b2i_0.mp c4
    have hst : ¬ stB P (pCh (pl 0)) = true := by rw [c4]; decide
    refine lv_aload_n hx hb dX6_object_10 rfl (lv_at hl 0 rfl) ?_
    refine g_X6_X6_plans hx hb hown hK hW hX0 dX6_object_11 ?_
    refine lv_iconst (v := nI 0) hx hb dX6_object_14 (by decide) ?_
    refine w_aald hx hb hK hW 5 rfl rfl hX3 (j := 0) (rfl) (by omega) (by omega) dX6_object_15 ?_
    refine asv (y := .ref (ad PB)) (by rw [ePB]; exact elP (by omega)) ?_
    refine g_X6_X1_now hx hb hown hK hW hC0 dX6_object_16 ?_
    refine g_X6_X5_objects hx hb hown hK hW hT0 dX6_object_19 ?_
    refine lv_bipush (v := nI 40) hx hb dX6_object_22 (by decide) ?_
    refine lv_icmp_lt (tgt := 32) hx hb dX6_object_24 (by decide) (fun c24 => ?_) (fun c24 => ?_)
    · skip
      have c24 := nI_lt' c24 (by omega) (by omega)
      refine lv_aload_n hx hb dX6_object_32 rfl (lv_at hl 0 rfl) ?_
      refine g_X6_X6_plans hx hb hown hK hW hX0 dX6_object_33 ?_
      refine lv_iconst (v := nI 0) hx hb dX6_object_36 (by decide) ?_
      refine w_aald hx hb hK hW 5 rfl rfl hX3 (j := 0) (rfl) (by omega) (by omega) dX6_object_37 ?_
      refine asv (y := .ref (ad PB)) (by rw [ePB]; exact elP (by omega)) ?_
      refine ci (va_runV (As := []) (rest := []) ⟨hx, hb, hml, hown, hK.1.use _⟩ (c_X1_addObject l D cy z0 ad V PB n n2 k M M2 kp fb ch co fo (nI bn) bb ρ hC hB hk hn40 hn2 hPB hnn hZ hZ2 (by omega)) (k_X6_X1_addObject hK.1 rfl rfl ⟨Nat.le_of_ble_eq_true rfl, Nat.le_of_ble_eq_true rfl⟩) (preV hK hz hW hC0 rfl) rfl rfl hl.1 rfl (lv_room (Nat.le_of_ble_eq_true rfl)) dX6_object_38 ⟨Nat.le_of_ble_eq_true rfl, Nat.le_of_ble_eq_true rfl⟩) hS (fun r38 ad38 Vc38 H locs h38 hW hS => ?_)
      exact rwi hx hb hr hlocks dX6_object_41 hW hS (by
      obtain ⟨g1, g2, g3, g4⟩ := h38
      have hP1' : P = 1 := by
        have h9 : ¬ 1 < P := fun q => hst (by simp [stB, q])
        omega
      subst hP1'
      unfold xObject
      rw [if_neg hst, if_pos (by omega)]
      refine ⟨g1, g2, ?_, fun L hL => g4 L (by omega)⟩
      refine ⟨(g4 0 (by omega)).trans hX0', hB.mv hk.1 (fun L a b => g4 L (by omega)), (g4 3 (by omega)).trans hX3', (g4 4 (by omega)).trans hX4', fun q hq => ?_, fun i hi => (hXs i hi).mv (fun L a b => g4 L (by omega)), fun r a b => (g4 _ (by omega)).trans (hFx.1 r a b), fun q a b j c => (g4 _ (by omega)).trans (hFx.2.1 q a b j c), fun i a b j c => (g4 _ (by omega)).trans (hFx.2.2 i a b j c)⟩
      have hq0 : q = 0 := by omega
      subst hq0
      show isPL ad Vc38 cy (100 + 100 * 0) (n + 1) (va_up pl 0 (plAdd n k ρ (pl 0)) 0)
      rw [va_up_self, ← eπ, ← ePB]
      exact ⟨⟨n + 1, _, g3, Nat.le_refl _, Zt_add hZ⟩, hH.mv (fun L a b => g4 L (by omega))⟩)
    · skip
      have c24 := nI_nlt' c24 (by omega) (by omega)
      refine lv_bipush (v := -4) hx hb dX6_object_27 (by decide) ?_
      refine lv_goto (tgt := 41) hx hb dX6_object_29 (by decide) ?_
      exact rwi hx hb hr hlocks dX6_object_41 hW hS (⟨by unfold xObject; rw [if_neg hst, if_neg (by omega)], rfl, by unfold xObject; rw [if_neg hst, if_neg (by omega)]; exact hX, fun L _ => rfl⟩)
  · skip
    have c4 := b2i_1.mp c4
    refine lv_bipush (v := -3) hx hb dX6_object_7 (by decide) ?_
    exact rwi hx hb hr hlocks dX6_object_9 hW hS (⟨by unfold xObject; rw [if_pos c4], rfl, by unfold xObject; rw [if_pos c4]; exact hX, fun L _ => rfl⟩)
