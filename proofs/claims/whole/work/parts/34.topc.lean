set_option maxHeartbeats 4000000 in
set_option maxRecDepth 100000 in
theorem c_X6_init (l : Launch) (D : va_G) (cy : Nat → ClassId) (z0 : Nat) (ad : Nat → Nat) (V : Nat → Option va_E) (ρ : RuT) (sn : Nat → SnT) (hV : V 0 = some (.inr (6, [.null, .null, .null, .int 0, .int 0, .int 0]))) (hfree : ∀ L, 1 ≤ L → L < 2000 → V L = none) : Met l yX6_init [Cond.code yX6_init cX6_init 2 none] { frames := 3, cells := 84, slots := 1371, locals := 53 } (WP [.ref (ad (0))] D cy z0 ad V) (va_Qv (fun u => isX u.1 u.2 cy 0 0 1 0 0 ρ (fun _ => pl0) sn ∧ (∀ L, 2000 ≤ L → u.2 L = V L ∧ u.1 L = ad L) ∧ u.1 0 = ad 0) (WB D z0) (AA z0)) 84 1371 (AA z0) := by
  refine met_of (by decide) (Nat.le_of_ble_eq_true rfl) (fun p e s m below meth c hx hb hr hml hown hlocks hnm hK hz hW ls hl => ?_)
  have hown : s.vm.findClass RX6 = some m.cls := hown
  have hl : lv_has ls 2 [(0, .ref (ad (0)))] := hl
  have hS : va_S (AA z0) s.heap s.heap [] := va_S.rf
  have hX0 := hV
  refine lv_aload_n hx hb dX6_init_0 rfl (lv_at hl 0 rfl) ?_
  refine W.objInit hx hb hown (hK.1.use _ _ tw_16) (hK.1.use _ _ tw_17) (hK.1.use _ _ tw_oc) rfl (by rw [hml]; exact hl.1) rfl dX6_init_1 (Nat.le_of_ble_eq_true rfl) (Nat.le_of_ble_eq_true rfl) ?_
  refine W.eq (g2 := F0 m 4 ls []) rfl ?_
  refine n_X6_X3 hx hb hown hK hW hS hz (1) (by exact hfree _ (by omega) (by omega)) (by decide) (by decide) dX6_init_4 (fun qa1 H hW hS => ?_)
  obtain ⟨ada1, eada1⟩ : ∃ x9, x9 = va_up ad (1) qa1 := ⟨_, rfl⟩
  obtain ⟨Va1, eVa1⟩ : ∃ x9, x9 = va_up V (1) (some (.inr (3, [.null, .int (0)]))) := ⟨_, rfl⟩
  rw [← eada1, ← eVa1] at hW
  have hva1 : ∀ L, ¬ L = (1) → Va1 L = V L := fun L h => by rw [eVa1, va_up_ne _ _ h]
  have haa1 : ∀ L, ¬ L = (1) → ada1 L = ad L := fun L h => by rw [eada1, va_up_ne _ _ h]
  have eqa1 : qa1 = ada1 (1) := by rw [eada1, va_up_self]
  have hN1 : Va1 (1) = some (.inr (3, [.null, .int (0)])) := by rw [eVa1, va_up_self]
  have hl : lv_has ls 2 [(0, .ref (ada1 (0)))] := by rw [haa1 (0) (by omega)]; exact hl
  refine W.eq (g2 := F0 m 7 ls [.ref (ada1 (1))]) (by rw [eqa1]) ?_
  have hX0 : Va1 (0) = some (.inr (6, [.null, .null, .null, .int (0), .int (0), .int (0)])) := by rw [hva1 (0) (by omega)]; exact hX0
  refine lv_dup hx hb dX6_init_7 rfl ?_
  refine cv (va_runIN (As := []) (rest := [.ref (ada1 (1))]) ⟨hx, hb, hml, hown, hK.1.use _⟩ (c_X3_init l D cy z0 ada1 Va1 hN1 (by rw [hva1 (2) (by omega)]; exact hfree _ (by omega) (by omega))) (k_X6_X3_init hK.1 rfl rfl ⟨Nat.le_of_ble_eq_true rfl, Nat.le_of_ble_eq_true rfl⟩) (preS hK (Nat.le_trans hz hS.1) hW) rfl rfl hl.1 rfl (lv_room (Nat.le_of_ble_eq_true rfl)) dX6_init_8 ⟨Nat.le_of_ble_eq_true rfl, Nat.le_of_ble_eq_true rfl⟩) hS (fun ad8 Vc8 H locs h8 hW hS => ?_)
  obtain ⟨hB0, hB1, hf8, hg8⟩ := h8
  have hv8 : ∀ L, (¬ L = 1 ∧ ¬ L = 2) → Vc8 L = Va1 L := fun L h => hf8 L h.1 h.2
  have ha8 : ∀ L, ¬ L = 2 → ad8 L = ada1 L := fun L h => hg8 L h
  have hB0 : Vc8 (1) = some (.inr (3, [.ref (ad8 (2)), .int (0)])) := hB0
  have hB1 : Vc8 (2) = some (.inl (cy 6, 12, .inr (.inr (.inr (.inr (fun _ => none)))))) := hB1
  have hl : lv_has ls 2 [(0, .ref (ad8 (0)))] := by rw [ha8 (0) (by omega)]; exact hl
  refine W.eq (g2 := F0 m 11 ls [.ref (ad8 (1))]) (by rw [ha8 (1) (by omega)]) ?_
  have hX0 : Vc8 (0) = some (.inr (6, [.null, .null, .null, .int (0), .int (0), .int (0)])) := by rw [hv8 (0) (by omega)]; exact hX0
  refine lv_astore_n (lv' := [(1, .ref (ad8 (1))), (0, .ref (ad8 (0)))]) hx hb dX6_init_11 rfl hl (by decide) rfl (fun ls hl => ?_)
  refine lv_aload_n hx hb dX6_init_12 rfl (lv_at hl 1 rfl) ?_
  refine lv_aload_n hx hb dX6_init_13 rfl (lv_at hl 0 rfl) ?_
  refine p_X6_X6_book hx hb hown hnm hK hW hS hX0 dX6_init_14 (fun H locs hW hS => ?_)
  obtain ⟨V1, eV1⟩ : ∃ x9, x9 = va_up Vc8 (0) (some (.inr (6, [.ref (ad8 (1)), .null, .null, .int (0), .int (0), .int (0)]))) := ⟨_, rfl⟩
  rw [← eV1] at hW
  have hB0 : V1 (1) = some (.inr (3, [.ref (ad8 (2)), .int (0)])) := by rw [eV1, va_up_ne _ _ (by omega)]; exact hB0
  have hB1 : V1 (2) = some (.inl (cy 6, 12, .inr (.inr (.inr (.inr (fun _ => none)))))) := by rw [eV1, va_up_ne _ _ (by omega)]; exact hB1
  have hX0 : V1 (0) = some (.inr (6, [.ref (ad8 (1)), .null, .null, .int (0), .int (0), .int (0)])) := by rw [eV1, va_up_self]
  refine lv_aload_n hx hb dX6_init_17 rfl (lv_at hl 1 rfl) ?_
  refine lv_iconst (v := nI 4) hx hb dX6_init_18 (by decide) ?_
  refine w_newq hx hb hown tw_37 tw_38 hK hW hS hz 5 rfl (3) (by rw [eV1, va_up_ne _ _ (by omega), hv8 (3) (by omega), hva1 (3) (by omega)]; exact hfree _ (by omega) (by omega)) (nI_pos (n := 4) (by decide)) (nI_clamp (by decide)) (by decide) (by decide) (by decide) dX6_init_19 (fun qa2 H hW hS => ?_)
  obtain ⟨ada2, eada2⟩ : ∃ x9, x9 = va_up ad8 (3) qa2 := ⟨_, rfl⟩
  obtain ⟨Va2, eVa2⟩ : ∃ x9, x9 = va_up V1 (3) (some (.inl (cy 5, 4, .inr (.inr (.inr (.inr (fun _ => none))))))) := ⟨_, rfl⟩
  rw [← eada2, ← eVa2] at hW
  have hva2 : ∀ L, ¬ L = (3) → Va2 L = V1 L := fun L h => by rw [eVa2, va_up_ne _ _ h]
  have haa2 : ∀ L, ¬ L = (3) → ada2 L = ad8 L := fun L h => by rw [eada2, va_up_ne _ _ h]
  have eqa2 : qa2 = ada2 (3) := by rw [eada2, va_up_self]
  have hX3 : Va2 (3) = some (.inl (cy 5, 4, .inr (.inr (.inr (.inr (fun _ => none)))))) := by rw [eVa2, va_up_self]
  have hl : lv_has ls 2 [(1, .ref (ada2 (1))), (0, .ref (ada2 (0)))] := by rw [haa2 (1) (by omega), haa2 (0) (by omega)]; exact hl
  refine W.eq (g2 := F0 m 22 ls [.ref (ada2 (3)), .ref (ada2 (0))]) (by rw [eqa2, haa2 (0) (by omega)]) ?_
  have hB0 : Va2 (1) = some (.inr (3, [.ref (ada2 (2)), .int (0)])) := by rw [hva2 (1) (by omega), haa2 (2) (by omega)]; exact hB0
  have hB1 : Va2 (2) = some (.inl (cy 6, 12, .inr (.inr (.inr (.inr (fun _ => none)))))) := by rw [hva2 (2) (by omega)]; exact hB1
  have hX0 : Va2 (0) = some (.inr (6, [.ref (ada2 (1)), .null, .null, .int (0), .int (0), .int (0)])) := by rw [hva2 (0) (by omega), haa2 (1) (by omega)]; exact hX0
  refine p_X6_X6_plans hx hb hown hnm hK hW hS hX0 dX6_init_22 (fun H locs hW hS => ?_)
  obtain ⟨V2, eV2⟩ : ∃ x9, x9 = va_up Va2 (0) (some (.inr (6, [.ref (ada2 (1)), .ref (ada2 (3)), .null, .int (0), .int (0), .int (0)]))) := ⟨_, rfl⟩
  rw [← eV2] at hW
  have hB0 : V2 (1) = some (.inr (3, [.ref (ada2 (2)), .int (0)])) := by rw [eV2, va_up_ne _ _ (by omega)]; exact hB0
  have hB1 : V2 (2) = some (.inl (cy 6, 12, .inr (.inr (.inr (.inr (fun _ => none)))))) := by rw [eV2, va_up_ne _ _ (by omega)]; exact hB1
  have hX3 : V2 (3) = some (.inl (cy 5, 4, .inr (.inr (.inr (.inr (fun _ => none)))))) := by rw [eV2, va_up_ne _ _ (by omega)]; exact hX3
  have hX0 : V2 (0) = some (.inr (6, [.ref (ada2 (1)), .ref (ada2 (3)), .null, .int (0), .int (0), .int (0)])) := by rw [eV2, va_up_self]
  refine lv_aload_n hx hb dX6_init_25 rfl (lv_at hl 1 rfl) ?_
  refine g_X6_X6_plans hx hb hown hK hW hX0 dX6_init_26 ?_
  refine lv_iconst (v := nI 0) hx hb dX6_init_29 (by decide) ?_
  refine n_X6_X1 hx hb hown hK hW hS hz (100) (by rw [eV2, va_up_ne _ _ (by omega), hva2 (100) (by omega), eV1, va_up_ne _ _ (by omega), hv8 (100) (by omega), hva1 (100) (by omega)]; exact hfree _ (by omega) (by omega)) (by decide) (by decide) dX6_init_30 (fun qa3 H hW hS => ?_)
  obtain ⟨ada3, eada3⟩ : ∃ x9, x9 = va_up ada2 (100) qa3 := ⟨_, rfl⟩
  obtain ⟨Va3, eVa3⟩ : ∃ x9, x9 = va_up V2 (100) (some (.inr (1, [.null, .null, .null, .null, .null, .null, .int (0), .int (0), .int (0), .int (0), .int (0)]))) := ⟨_, rfl⟩
  rw [← eada3, ← eVa3] at hW
  have hva3 : ∀ L, ¬ L = (100) → Va3 L = V2 L := fun L h => by rw [eVa3, va_up_ne _ _ h]
  have haa3 : ∀ L, ¬ L = (100) → ada3 L = ada2 L := fun L h => by rw [eada3, va_up_ne _ _ h]
  have eqa3 : qa3 = ada3 (100) := by rw [eada3, va_up_self]
  have hN100 : Va3 (100) = some (.inr (1, [.null, .null, .null, .null, .null, .null, .int (0), .int (0), .int (0), .int (0), .int (0)])) := by rw [eVa3, va_up_self]
  have hl : lv_has ls 2 [(1, .ref (ada3 (1))), (0, .ref (ada3 (0)))] := by rw [haa3 (1) (by omega), haa3 (0) (by omega)]; exact hl
  refine W.eq (g2 := F0 m 33 ls [.ref (ada3 (100)), .int (nI 0), .ref (ada3 (3))]) (by rw [eqa3, haa3 (3) (by omega)]) ?_
  have hB0 : Va3 (1) = some (.inr (3, [.ref (ada3 (2)), .int (0)])) := by rw [hva3 (1) (by omega), haa3 (2) (by omega)]; exact hB0
  have hB1 : Va3 (2) = some (.inl (cy 6, 12, .inr (.inr (.inr (.inr (fun _ => none)))))) := by rw [hva3 (2) (by omega)]; exact hB1
  have hX3 : Va3 (3) = some (.inl (cy 5, 4, .inr (.inr (.inr (.inr (fun _ => none)))))) := by rw [hva3 (3) (by omega)]; exact hX3
  have hX0 : Va3 (0) = some (.inr (6, [.ref (ada3 (1)), .ref (ada3 (3)), .null, .int (0), .int (0), .int (0)])) := by rw [hva3 (0) (by omega), haa3 (1) (by omega), haa3 (3) (by omega)]; exact hX0
  refine lv_dup hx hb dX6_init_33 rfl ?_
  refine lv_aload_n hx hb dX6_init_34 rfl (lv_at hl 0 rfl) ?_
  refine cv (va_runI (As := [.ref (ada3 (1))]) (rest := [.ref (ada3 (100)), .int (nI 0), .ref (ada3 (3))]) ⟨hx, hb, hml, hown, hK.1.use _⟩ (c_X1_init l D cy z0 ada3 Va3 100 (by omega) hN100 (fun j h1 h2 => by rw [hva3 (100 + j) (by omega), eV2, va_up_ne _ _ (by omega), hva2 (100 + j) (by omega), eV1, va_up_ne _ _ (by omega), hv8 (100 + j) (by omega), hva1 (100 + j) (by omega)]; exact hfree _ (by omega) (by omega))) (k_X6_X1_init hK.1 rfl rfl ⟨Nat.le_of_ble_eq_true rfl, Nat.le_of_ble_eq_true rfl⟩) (preS hK (Nat.le_trans hz hS.1) hW) rfl rfl hl.1 rfl (lv_room (Nat.le_of_ble_eq_true rfl)) dX6_init_35 ⟨Nat.le_of_ble_eq_true rfl, Nat.le_of_ble_eq_true rfl⟩) hS (fun ad35 Vc35 H locs h35 hW hS => ?_)
  obtain ⟨hCn, hHn, hf35, hg35⟩ := h35
  have hQ : isPQ ad35 Vc35 cy 100 0 pl0 := ⟨⟨0, _, hCn, Nat.le_refl 0, fun _ _ _ => rfl⟩, hHn⟩
  have hv35 : ∀ L, (L < 100 ∨ 100 + 80 ≤ L) → Vc35 L = Va3 L := hf35
  have ha35 : ∀ L, (L ≤ 100 ∨ 100 + 80 ≤ L) → ad35 L = ada3 L := hg35
  have hl : lv_has ls 2 [(1, .ref (ad35 (1))), (0, .ref (ad35 (0)))] := by rw [ha35 (1) (by omega), ha35 (0) (by omega)]; exact hl
  refine W.eq (g2 := F0 m 38 ls [.ref (ad35 (100)), .int (nI 0), .ref (ad35 (3))]) (by rw [ha35 (100) (by omega), ha35 (3) (by omega)]) ?_
  have hB0 : Vc35 (1) = some (.inr (3, [.ref (ad35 (2)), .int (0)])) := by rw [hv35 (1) (by omega), ha35 (2) (by omega)]; exact hB0
  have hB1 : Vc35 (2) = some (.inl (cy 6, 12, .inr (.inr (.inr (.inr (fun _ => none)))))) := by rw [hv35 (2) (by omega)]; exact hB1
  have hX3 : Vc35 (3) = some (.inl (cy 5, 4, .inr (.inr (.inr (.inr (fun _ => none)))))) := by rw [hv35 (3) (by omega)]; exact hX3
  have hX0 : Vc35 (0) = some (.inr (6, [.ref (ad35 (1)), .ref (ad35 (3)), .null, .int (0), .int (0), .int (0)])) := by rw [hv35 (0) (by omega), ha35 (1) (by omega), ha35 (3) (by omega)]; exact hX0
  have hQ0 := hCn.1
  refine w_astq hx hb hK hW hS 5 1 rfl rfl hX3 hQ0 (j := 0) (rfl) (by omega) (by omega) dX6_init_38 (fun H locs hW hS => ?_)
  obtain ⟨V3, eV3⟩ : ∃ x9, x9 = va_up Vc35 (3) (some (.inl (cy 5, 4, .inr (.inr (.inr (.inr (va_up (fun _ => none) 0 (some (ad35 (100)))))))))) := ⟨_, rfl⟩
  rw [← eV3] at hW
  have hB0 : V3 (1) = some (.inr (3, [.ref (ad35 (2)), .int (0)])) := by rw [eV3, va_up_ne _ _ (by omega)]; exact hB0
  have hB1 : V3 (2) = some (.inl (cy 6, 12, .inr (.inr (.inr (.inr (fun _ => none)))))) := by rw [eV3, va_up_ne _ _ (by omega)]; exact hB1
  have hX0 : V3 (0) = some (.inr (6, [.ref (ad35 (1)), .ref (ad35 (3)), .null, .int (0), .int (0), .int (0)])) := by rw [eV3, va_up_ne _ _ (by omega)]; exact hX0
  have hQ0 : V3 (100) = some (.inr (1, [.ref (ad35 (1)), .ref (ad35 (100 + 1)), .ref (ad35 (100 + 7)), .ref (ad35 (100 + 13)), .ref (ad35 (100 + 14)), .ref (ad35 (100 + 15)), .int (0), .int (0), .int (-1), .int (b2i false), .int (0)])) := by rw [eV3, va_up_ne _ _ (by omega)]; exact hQ0
  have hX3 : V3 (3) = some (.inl (cy 5, 4, .inr (.inr (.inr (.inr (va_up (fun _ => none) 0 (some (ad35 (100))))))))) := by rw [eV3, va_up_self]
  have hQ := hQ.mv (X := V3) (fun L h1 h2 => by rw [eV3, va_up_ne _ _ (by omega)])
  refine lv_aload_n hx hb dX6_init_39 rfl (lv_at hl 1 rfl) ?_
  refine lv_iconst (v := nI 1) hx hb dX6_init_40 (by decide) ?_
  refine p_X6_X6_planCount hx hb hown hK hW hS hX0 dX6_init_41 (fun H locs hW hS => ?_)
  obtain ⟨V4, eV4⟩ : ∃ x9, x9 = va_up V3 (0) (some (.inr (6, [.ref (ad35 (1)), .ref (ad35 (3)), .null, .int (nI 1), .int (0), .int (0)]))) := ⟨_, rfl⟩
  rw [← eV4] at hW
  have hB0 : V4 (1) = some (.inr (3, [.ref (ad35 (2)), .int (0)])) := by rw [eV4, va_up_ne _ _ (by omega)]; exact hB0
  have hB1 : V4 (2) = some (.inl (cy 6, 12, .inr (.inr (.inr (.inr (fun _ => none)))))) := by rw [eV4, va_up_ne _ _ (by omega)]; exact hB1
  have hQ0 : V4 (100) = some (.inr (1, [.ref (ad35 (1)), .ref (ad35 (100 + 1)), .ref (ad35 (100 + 7)), .ref (ad35 (100 + 13)), .ref (ad35 (100 + 14)), .ref (ad35 (100 + 15)), .int (0), .int (0), .int (-1), .int (b2i false), .int (0)])) := by rw [eV4, va_up_ne _ _ (by omega)]; exact hQ0
  have hX3 : V4 (3) = some (.inl (cy 5, 4, .inr (.inr (.inr (.inr (va_up (fun _ => none) 0 (some (ad35 (100))))))))) := by rw [eV4, va_up_ne _ _ (by omega)]; exact hX3
  have hX0 : V4 (0) = some (.inr (6, [.ref (ad35 (1)), .ref (ad35 (3)), .null, .int (nI 1), .int (0), .int (0)])) := by rw [eV4, va_up_self]
  have hQ := hQ.mv (X := V4) (fun L h1 h2 => by rw [eV4, va_up_ne _ _ (by omega)])
  refine lv_aload_n hx hb dX6_init_44 rfl (lv_at hl 1 rfl) ?_
  refine lv_bipush (v := nI 20) hx hb dX6_init_45 (by decide) ?_
  refine w_newq hx hb hown tw_142 tw_143 hK hW hS hz 7 rfl (4) (by rw [eV4, va_up_ne _ _ (by omega), eV3, va_up_ne _ _ (by omega), hv35 (4) (by omega), hva3 (4) (by omega), eV2, va_up_ne _ _ (by omega), hva2 (4) (by omega), eV1, va_up_ne _ _ (by omega), hv8 (4) (by omega), hva1 (4) (by omega)]; exact hfree _ (by omega) (by omega)) (nI_pos (n := 20) (by decide)) (nI_clamp (by decide)) (by decide) (by decide) (by decide) dX6_init_47 (fun qa4 H hW hS => ?_)
  obtain ⟨ada4, eada4⟩ : ∃ x9, x9 = va_up ad35 (4) qa4 := ⟨_, rfl⟩
  obtain ⟨Va4, eVa4⟩ : ∃ x9, x9 = va_up V4 (4) (some (.inl (cy 7, 20, .inr (.inr (.inr (.inr (fun _ => none))))))) := ⟨_, rfl⟩
  rw [← eada4, ← eVa4] at hW
  have hva4 : ∀ L, ¬ L = (4) → Va4 L = V4 L := fun L h => by rw [eVa4, va_up_ne _ _ h]
  have haa4 : ∀ L, ¬ L = (4) → ada4 L = ad35 L := fun L h => by rw [eada4, va_up_ne _ _ h]
  have eqa4 : qa4 = ada4 (4) := by rw [eada4, va_up_self]
  have hX4 : Va4 (4) = some (.inl (cy 7, 20, .inr (.inr (.inr (.inr (fun _ => none)))))) := by rw [eVa4, va_up_self]
  have hl : lv_has ls 2 [(1, .ref (ada4 (1))), (0, .ref (ada4 (0)))] := by rw [haa4 (1) (by omega), haa4 (0) (by omega)]; exact hl
  refine W.eq (g2 := F0 m 50 ls [.ref (ada4 (4)), .ref (ada4 (0))]) (by rw [eqa4, haa4 (0) (by omega)]) ?_
  have hB0 : Va4 (1) = some (.inr (3, [.ref (ada4 (2)), .int (0)])) := by rw [hva4 (1) (by omega), haa4 (2) (by omega)]; exact hB0
  have hB1 : Va4 (2) = some (.inl (cy 6, 12, .inr (.inr (.inr (.inr (fun _ => none)))))) := by rw [hva4 (2) (by omega)]; exact hB1
  have hQ0 : Va4 (100) = some (.inr (1, [.ref (ada4 (1)), .ref (ada4 (100 + 1)), .ref (ada4 (100 + 7)), .ref (ada4 (100 + 13)), .ref (ada4 (100 + 14)), .ref (ada4 (100 + 15)), .int (0), .int (0), .int (-1), .int (b2i false), .int (0)])) := by rw [hva4 (100) (by omega), haa4 (1) (by omega), haa4 (100 + 1) (by omega), haa4 (100 + 7) (by omega), haa4 (100 + 13) (by omega), haa4 (100 + 14) (by omega), haa4 (100 + 15) (by omega)]; exact hQ0
  have hX0 : Va4 (0) = some (.inr (6, [.ref (ada4 (1)), .ref (ada4 (3)), .null, .int (nI 1), .int (0), .int (0)])) := by rw [hva4 (0) (by omega), haa4 (1) (by omega), haa4 (3) (by omega)]; exact hX0
  have hQ := hQ.mv2 (fun L h1 h2 => ⟨hva4 L (by omega), haa4 L (by omega)⟩)
  refine p_X6_X6_snapshots hx hb hown hnm hK hW hS hX0 dX6_init_50 (fun H locs hW hS => ?_)
  obtain ⟨V5, eV5⟩ : ∃ x9, x9 = va_up Va4 (0) (some (.inr (6, [.ref (ada4 (1)), .ref (ada4 (3)), .ref (ada4 (4)), .int (nI 1), .int (0), .int (0)]))) := ⟨_, rfl⟩
  rw [← eV5] at hW
  have hB0 : V5 (1) = some (.inr (3, [.ref (ada4 (2)), .int (0)])) := by rw [eV5, va_up_ne _ _ (by omega)]; exact hB0
  have hB1 : V5 (2) = some (.inl (cy 6, 12, .inr (.inr (.inr (.inr (fun _ => none)))))) := by rw [eV5, va_up_ne _ _ (by omega)]; exact hB1
  have hQ0 : V5 (100) = some (.inr (1, [.ref (ada4 (1)), .ref (ada4 (100 + 1)), .ref (ada4 (100 + 7)), .ref (ada4 (100 + 13)), .ref (ada4 (100 + 14)), .ref (ada4 (100 + 15)), .int (0), .int (0), .int (-1), .int (b2i false), .int (0)])) := by rw [eV5, va_up_ne _ _ (by omega)]; exact hQ0
  have hX4 : V5 (4) = some (.inl (cy 7, 20, .inr (.inr (.inr (.inr (fun _ => none)))))) := by rw [eV5, va_up_ne _ _ (by omega)]; exact hX4
  have hX0 : V5 (0) = some (.inr (6, [.ref (ada4 (1)), .ref (ada4 (3)), .ref (ada4 (4)), .int (nI 1), .int (0), .int (0)])) := by rw [eV5, va_up_self]
  have hQ := hQ.mv (X := V5) (fun L h1 h2 => by rw [eV5, va_up_ne _ _ (by omega)])
  refine W.widen (k := 84) (n := 1371) (by omega) (by omega) ?_
  exact rwv hx hb hr hlocks dX6_init_53 hW hS (⟨⟨hX0, ⟨hB0, by rw [no_if (fun i => ada4 (10 + i))] at hB1; exact hB1, fun r hr => absurd hr (Nat.not_lt_zero r)⟩, by show V5 3 = _; rw [eV5, va_up_ne _ _ (by omega), hva4 (3) (by omega), hX3, show ad35 100 = ada4 (100 + 100 * 0) from (haa4 100 (by omega)).symm, up_if0 (fun i => ada4 (100 + 100 * i))], by rw [no_if (fun i => ada4 (1000 + 10 * i))] at hX4; exact hX4, fun q hq => by have e9 : q = 0 := (by omega); subst e9; exact hQ, fun i hi => absurd hi (Nat.not_lt_zero i), fun r a b => by show V5 (10 + r) = none; rw [eV5, va_up_ne _ _ (by omega), hva4 (10 + r) (by omega), eV4, va_up_ne _ _ (by omega), eV3, va_up_ne _ _ (by omega), hv35 (10 + r) (by omega), hva3 (10 + r) (by omega), eV2, va_up_ne _ _ (by omega), hva2 (10 + r) (by omega), eV1, va_up_ne _ _ (by omega), hv8 (10 + r) (by omega), hva1 (10 + r) (by omega)]; exact hfree _ (by omega) (by omega), fun q a b j c => by show V5 (100 + 100 * q + j) = none; rw [eV5, va_up_ne _ _ (by omega), hva4 (100 + 100 * q + j) (by omega), eV4, va_up_ne _ _ (by omega), eV3, va_up_ne _ _ (by omega), hv35 (100 + 100 * q + j) (by omega), hva3 (100 + 100 * q + j) (by omega), eV2, va_up_ne _ _ (by omega), hva2 (100 + 100 * q + j) (by omega), eV1, va_up_ne _ _ (by omega), hv8 (100 + 100 * q + j) (by omega), hva1 (100 + 100 * q + j) (by omega)]; exact hfree _ (by omega) (by omega), fun i a b j c => by show V5 (1000 + 10 * i + j) = none; rw [eV5, va_up_ne _ _ (by omega), hva4 (1000 + 10 * i + j) (by omega), eV4, va_up_ne _ _ (by omega), eV3, va_up_ne _ _ (by omega), hv35 (1000 + 10 * i + j) (by omega), hva3 (1000 + 10 * i + j) (by omega), eV2, va_up_ne _ _ (by omega), hva2 (1000 + 10 * i + j) (by omega), eV1, va_up_ne _ _ (by omega), hv8 (1000 + 10 * i + j) (by omega), hva1 (1000 + 10 * i + j) (by omega)]; exact hfree _ (by omega) (by omega)⟩, fun L hL => ⟨by show V5 L = _; rw [eV5, va_up_ne _ _ (by omega), hva4 (L) (by omega), eV4, va_up_ne _ _ (by omega), eV3, va_up_ne _ _ (by omega), hv35 (L) (by omega), hva3 (L) (by omega), eV2, va_up_ne _ _ (by omega), hva2 (L) (by omega), eV1, va_up_ne _ _ (by omega), hv8 (L) (by omega), hva1 (L) (by omega)], by show ada4 L = _; rw [haa4 (L) (by omega), ha35 (L) (by omega), haa3 (L) (by omega), haa2 (L) (by omega), ha8 (L) (by omega), haa1 (L) (by omega)]⟩, by show ada4 0 = _; rw [haa4 (0) (by omega), ha35 (0) (by omega), haa3 (0) (by omega), haa2 (0) (by omega), ha8 (0) (by omega), haa1 (0) (by omega)]⟩)
