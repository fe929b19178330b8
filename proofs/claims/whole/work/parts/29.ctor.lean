set_option maxHeartbeats 4000000 in
set_option maxRecDepth 100000 in
theorem c_X2_init (l : Launch) (D : va_G) (cy : Nat → ClassId) (z0 : Nat) (ad : Nat → Nat) (V : Nat → Option va_E) (LR : Nat) (hV : V LR = some (.inr (2, [.int 0, .int 0, .int 0, .int 0, .int 0]))) (a b x w v : Int32) : Met l yX2_init [Cond.code yX2_init cX2_init 6 none] { frames := 1, cells := 0, slots := 0, locals := 12 } (WP [.ref (ad LR), .int (a), .int (b), .int (x), .int (w), .int (v)] D cy z0 ad V) (va_Qv (fun u => u.1 = ad ∧ u.2 LR = some (.inr (2, [.int a, .int b, .int x, .int w, .int v])) ∧ ∀ L, ¬ L = LR → u.2 L = V L) (WB D z0) (AA z0)) 0 0 (AA z0) := by
  refine met_of (by decide) (Nat.le_of_ble_eq_true rfl) (fun p e s m below meth c hx hb hr hml hown hlocks hnm hK hz hW ls hl => ?_)
  have hown : s.vm.findClass RX2 = some m.cls := hown
  have hl : lv_has ls 6 [(0, .ref (ad LR)), (1, .int (a)), (2, .int (b)), (3, .int (x)), (4, .int (w)), (5, .int (v))] := hl
  have hS : va_S (AA z0) s.heap s.heap [] := va_S.rf
  refine lv_aload_n hx hb dX2_init_0 rfl (lv_at hl 0 rfl) ?_
  refine W.objInit hx hb hown (hK.1.use _ _ tw_250) (hK.1.use _ _ tw_17) (hK.1.use _ _ tw_oc) rfl (by rw [hml]; exact hl.1) rfl dX2_init_1 (Nat.le_of_ble_eq_true rfl) (Nat.le_of_ble_eq_true rfl) ?_
  refine W.eq (g2 := F0 m 4 ls []) rfl ?_
  refine lv_aload_n hx hb dX2_init_4 rfl (lv_at hl 0 rfl) ?_
  refine lv_iload_n hx hb dX2_init_5 rfl (lv_at hl 1 rfl) ?_
  refine p_X2_X2_kind hx hb hown hnm hK hW hS hV dX2_init_6 (fun H locs hW hS => ?_)
  obtain ⟨V1, eV1⟩ : ∃ x9, x9 = va_up V (LR) (some (.inr (2, [.int (a), .int (0), .int (0), .int (0), .int (0)]))) := ⟨_, rfl⟩
  rw [← eV1] at hW
  have hV : V1 (LR) = some (.inr (2, [.int (a), .int (0), .int (0), .int (0), .int (0)])) := by rw [eV1, va_up_self]
  refine lv_aload_n hx hb dX2_init_9 rfl (lv_at hl 0 rfl) ?_
  refine lv_iload_n hx hb dX2_init_10 rfl (lv_at hl 2 rfl) ?_
  refine p_X2_X2_looksAt hx hb hown hnm hK hW hS hV dX2_init_11 (fun H locs hW hS => ?_)
  obtain ⟨V2, eV2⟩ : ∃ x9, x9 = va_up V1 (LR) (some (.inr (2, [.int (a), .int (b), .int (0), .int (0), .int (0)]))) := ⟨_, rfl⟩
  rw [← eV2] at hW
  have hV : V2 (LR) = some (.inr (2, [.int (a), .int (b), .int (0), .int (0), .int (0)])) := by rw [eV2, va_up_self]
  refine lv_aload_n hx hb dX2_init_14 rfl (lv_at hl 0 rfl) ?_
  refine lv_iload_n hx hb dX2_init_15 rfl (lv_at hl 3 rfl) ?_
  refine p_X2_X2_bound hx hb hown hnm hK hW hS hV dX2_init_16 (fun H locs hW hS => ?_)
  obtain ⟨V3, eV3⟩ : ∃ x9, x9 = va_up V2 (LR) (some (.inr (2, [.int (a), .int (b), .int (x), .int (0), .int (0)]))) := ⟨_, rfl⟩
  rw [← eV3] at hW
  have hV : V3 (LR) = some (.inr (2, [.int (a), .int (b), .int (x), .int (0), .int (0)])) := by rw [eV3, va_up_self]
  refine lv_aload_n hx hb dX2_init_19 rfl (lv_at hl 0 rfl) ?_
  refine lv_iload hx hb dX2_init_20 (lv_at hl 4 rfl) ?_
  refine p_X2_X2_weight hx hb hown hnm hK hW hS hV dX2_init_22 (fun H locs hW hS => ?_)
  obtain ⟨V4, eV4⟩ : ∃ x9, x9 = va_up V3 (LR) (some (.inr (2, [.int (a), .int (b), .int (x), .int (w), .int (0)]))) := ⟨_, rfl⟩
  rw [← eV4] at hW
  have hV : V4 (LR) = some (.inr (2, [.int (a), .int (b), .int (x), .int (w), .int (0)])) := by rw [eV4, va_up_self]
  refine lv_aload_n hx hb dX2_init_25 rfl (lv_at hl 0 rfl) ?_
  refine lv_iload hx hb dX2_init_26 (lv_at hl 5 rfl) ?_
  refine p_X2_X2_level hx hb hown hnm hK hW hS hV dX2_init_28 (fun H locs hW hS => ?_)
  obtain ⟨V5, eV5⟩ : ∃ x9, x9 = va_up V4 (LR) (some (.inr (2, [.int (a), .int (b), .int (x), .int (w), .int (v)]))) := ⟨_, rfl⟩
  rw [← eV5] at hW
  have hV : V5 (LR) = some (.inr (2, [.int (a), .int (b), .int (x), .int (w), .int (v)])) := by rw [eV5, va_up_self]
  exact rwv hx hb hr hlocks dX2_init_31 hW hS (⟨rfl, hV, fun L hL => by show V5 L = _; rw [eV5, va_up_ne _ _ hL, eV4, va_up_ne _ _ hL, eV3, va_up_ne _ _ hL, eV2, va_up_ne _ _ hL, eV1, va_up_ne _ _ hL]⟩)

set_option maxHeartbeats 4000000 in
set_option maxRecDepth 100000 in
theorem c_X5_init (l : Launch) (D : va_G) (cy : Nat → ClassId) (z0 : Nat) (ad : Nat → Nat) (V : Nat → Option va_E) (B : Nat) (hV : V B = some (.inr (5, [.null, .int 0]))) (hfree : ∀ j, 1 ≤ j → j < 6 → V (B + j) = none) : Met l yX5_init [Cond.code yX5_init cX5_init 1 none] { frames := 1, cells := 5, slots := 164, locals := 12 } (WP [.ref (ad B)] D cy z0 ad V) (va_Qv (fun u => isT u.1 u.2 cy B 0 (fun _ _ => 0) ∧ u.1 B = ad B ∧ ∀ L, (L < B ∨ B + 6 ≤ L) → u.2 L = V L ∧ u.1 L = ad L) (WB D z0) (AA z0)) 5 164 (AA z0) := by
  refine met_of (by decide) (Nat.le_of_ble_eq_true rfl) (fun p e s m below meth c hx hb hr hml hown hlocks hnm hK hz hW ls hl => ?_)
  have hown : s.vm.findClass RX5 = some m.cls := hown
  have hl : lv_has ls 1 [(0, .ref (ad B))] := hl
  have hS : va_S (AA z0) s.heap s.heap [] := va_S.rf
  refine lv_aload_n hx hb dX5_init_0 rfl (lv_at hl 0 rfl) ?_
  refine W.objInit hx hb hown (hK.1.use _ _ tw_49) (hK.1.use _ _ tw_17) (hK.1.use _ _ tw_oc) rfl (by rw [hml]; exact hl.1) rfl dX5_init_1 (Nat.le_of_ble_eq_true rfl) (Nat.le_of_ble_eq_true rfl) ?_
  refine W.eq (g2 := F0 m 4 ls []) rfl ?_
  refine lv_aload_n hx hb dX5_init_4 rfl (lv_at hl 0 rfl) ?_
  refine lv_iconst (v := nI 4) hx hb dX5_init_5 (by decide) ?_
  refine lv_bipush (v := nI 40) hx hb dX5_init_6 (by decide) ?_
  refine w_mna (ty := .int) (z := (40, .inl (fun _ => 0))) hx hb hown tw_50 tw_51 tw_64 3 0 rfl rfl (fun h => h) hK hW hS hz (nI_pos (n := 4) (by decide)) (nI_pos (n := 40) (by decide)) (nI_clamp (by decide)) (nI_clamp (by decide)) (by decide) (by decide) (by decide) (by decide) (by decide) (by decide) (by decide) (fun c => arrV_new c 40 _) dX5_init_8 (B + 1) (B + 2) (by omega) (hfree 1 (by omega) (by omega)) (fun i hi => by rw [Nat.add_assoc]; exact hfree (2 + i) (by omega) (by omega)) (fun adm Vm H hm0 hm1 hfm hW hS => ?_)
  have hfm : ∀ L, (¬ L = (B + 1) ∧ (L < B + 2 ∨ B + 2 + 4 ≤ L)) → Vm L = V L ∧ adm L = ad L := fun L h => hfm L h.1 h.2
  have hl : lv_has ls 1 [(0, .ref (adm B))] := by rw [(hfm (B) (by omega)).2]; exact hl
  refine W.eq (g2 := F0 m 12 ls [.ref (adm (B + 1)), .ref (adm B)]) (by rw [(hfm (B) (by omega)).2]) ?_
  have hV : Vm (B) = some (.inr (5, [.null, .int (0)])) := by rw [(hfm (B) (by omega)).1]; exact hV
  refine p_X5_X5_rows hx hb hown hnm hK hW hS hV dX5_init_12 (fun H locs hW hS => ?_)
  obtain ⟨V1, eV1⟩ : ∃ x9, x9 = va_up Vm (B) (some (.inr (5, [.ref (adm (B + 1)), .int (0)]))) := ⟨_, rfl⟩
  rw [← eV1] at hW
  have hm0 : V1 (B + 1) = some (.inl (cy 3, 4, .inr (.inr (.inr (.inr (fun i => if i < 4 then some (adm (B + 2 + i)) else none)))))) := by rw [eV1, va_up_ne _ _ (by omega)]; exact hm0
  have hV : V1 (B) = some (.inr (5, [.ref (adm (B + 1)), .int (0)])) := by rw [eV1, va_up_self]
  refine W.widen (k := 5) (n := 164) (by omega) (by omega) ?_
  exact rwv hx hb hr hlocks dX5_init_15 hW hS (⟨⟨hV, hm0, fun q hq => by show V1 (B + 2 + q) = _; rw [eV1, va_up_ne _ _ (by omega)]; exact hm1 q hq⟩, (hfm B (by omega)).2, fun L hL => ⟨by show V1 L = _; rw [eV1, va_up_ne _ _ (by omega)]; exact (hfm L (by omega)).1, (hfm L (by omega)).2⟩⟩)

set_option maxHeartbeats 4000000 in
set_option maxRecDepth 100000 in
theorem c_X0_init (l : Launch) (D : va_G) (cy : Nat → ClassId) (z0 : Nat) (ad : Nat → Nat) (V : Nat → Option va_E) (PB : Nat) (hV : V (PB + 15) = some (.inr (0, [.null, .null, .null, .null, .int 0, .int 0]))) (hfree : ∀ j, 16 ≤ j → j < 80 → V (PB + j) = none) : Met l yX0_init [Cond.code yX0_init cX0_init 1 none] { frames := 1, cells := 64, slots := 960, locals := 12 } (WP [.ref (ad (PB + 15))] D cy z0 ad V) (va_Qv (fun u => isH u.1 u.2 cy PB (fun _ => 0) (fun _ => 0) (fun _ => 0) (fun _ _ => 0) 0 0 ∧ u.1 (PB + 15) = ad (PB + 15) ∧ ∀ L, (L < PB + 15 ∨ PB + 80 ≤ L) → u.2 L = V L ∧ u.1 L = ad L) (WB D z0) (AA z0)) 64 960 (AA z0) := by
  refine met_of (by decide) (Nat.le_of_ble_eq_true rfl) (fun p e s m below meth c hx hb hr hml hown hlocks hnm hK hz hW ls hl => ?_)
  have hown : s.vm.findClass RX0 = some m.cls := hown
  have hl : lv_has ls 1 [(0, .ref (ad (PB + 15)))] := hl
  have hS : va_S (AA z0) s.heap s.heap [] := va_S.rf
  have hH0 := hV
  refine lv_aload_n hx hb dX0_init_0 rfl (lv_at hl 0 rfl) ?_
  refine W.objInit hx hb hown (hK.1.use _ _ tw_70) (hK.1.use _ _ tw_17) (hK.1.use _ _ tw_oc) rfl (by rw [hml]; exact hl.1) rfl dX0_init_1 (Nat.le_of_ble_eq_true rfl) (Nat.le_of_ble_eq_true rfl) ?_
  refine W.eq (g2 := F0 m 4 ls []) rfl ?_
  refine lv_aload_n hx hb dX0_init_4 rfl (lv_at hl 0 rfl) ?_
  refine lv_bipush (v := nI 60) hx hb dX0_init_5 (by decide) ?_
  refine w_newI hx hb hK hW hS hz (N := 60) (PB + 16) (by exact hfree 16 (by omega) (by omega)) (by decide) (by decide) (by decide) dX0_init_7 (fun qa1 H hW hS => ?_)
  obtain ⟨ada1, eada1⟩ : ∃ x9, x9 = va_up ad (PB + 16) qa1 := ⟨_, rfl⟩
  obtain ⟨Va1, eVa1⟩ : ∃ x9, x9 = va_up V (PB + 16) (some (.inl (cy 0, 60, .inl (fun _ => 0)))) := ⟨_, rfl⟩
  rw [← eada1, ← eVa1] at hW
  have hfa1 : ∀ L, ¬ L = (PB + 16) → Va1 L = V L ∧ ada1 L = ad L := fun L h => ⟨by rw [eVa1, va_up_ne _ _ h], by rw [eada1, va_up_ne _ _ h]⟩
  have eqa1 : qa1 = ada1 (PB + 16) := by rw [eada1, va_up_self]
  have hH1 : Va1 (PB + 16) = some (.inl (cy 0, 60, .inl (fun _ => 0))) := by rw [eVa1, va_up_self]
  have hl : lv_has ls 1 [(0, .ref (ada1 (PB + 15)))] := by rw [(hfa1 (PB + 15) (by omega)).2]; exact hl
  refine W.eq (g2 := F0 m 9 ls [.ref (ada1 (PB + 16)), .ref (ada1 (PB + 15))]) (by rw [eqa1, (hfa1 (PB + 15) (by omega)).2]) ?_
  have hH0 : Va1 (PB + 15) = some (.inr (0, [.null, .null, .null, .null, .int (0), .int (0)])) := by rw [(hfa1 (PB + 15) (by omega)).1]; exact hH0
  refine p_X0_X0_objects hx hb hown hnm hK hW hS hH0 dX0_init_9 (fun H locs hW hS => ?_)
  obtain ⟨V1, eV1⟩ : ∃ x9, x9 = va_up Va1 (PB + 15) (some (.inr (0, [.ref (ada1 (PB + 16)), .null, .null, .null, .int (0), .int (0)]))) := ⟨_, rfl⟩
  rw [← eV1] at hW
  have hH1 : V1 (PB + 16) = some (.inl (cy 0, 60, .inl (fun _ => 0))) := by rw [eV1, va_up_ne _ _ (by omega)]; exact hH1
  have hH0 : V1 (PB + 15) = some (.inr (0, [.ref (ada1 (PB + 16)), .null, .null, .null, .int (0), .int (0)])) := by rw [eV1, va_up_self]
  refine lv_aload_n hx hb dX0_init_12 rfl (lv_at hl 0 rfl) ?_
  refine lv_bipush (v := nI 60) hx hb dX0_init_13 (by decide) ?_
  refine w_newI hx hb hK hW hS hz (N := 60) (PB + 17) (by rw [eV1, va_up_ne _ _ (by omega), (hfa1 (PB + 17) (by omega)).1]; exact hfree 17 (by omega) (by omega)) (by decide) (by decide) (by decide) dX0_init_15 (fun qa2 H hW hS => ?_)
  obtain ⟨ada2, eada2⟩ : ∃ x9, x9 = va_up ada1 (PB + 17) qa2 := ⟨_, rfl⟩
  obtain ⟨Va2, eVa2⟩ : ∃ x9, x9 = va_up V1 (PB + 17) (some (.inl (cy 0, 60, .inl (fun _ => 0)))) := ⟨_, rfl⟩
  rw [← eada2, ← eVa2] at hW
  have hfa2 : ∀ L, ¬ L = (PB + 17) → Va2 L = V1 L ∧ ada2 L = ada1 L := fun L h => ⟨by rw [eVa2, va_up_ne _ _ h], by rw [eada2, va_up_ne _ _ h]⟩
  have eqa2 : qa2 = ada2 (PB + 17) := by rw [eada2, va_up_self]
  have hH2 : Va2 (PB + 17) = some (.inl (cy 0, 60, .inl (fun _ => 0))) := by rw [eVa2, va_up_self]
  have hl : lv_has ls 1 [(0, .ref (ada2 (PB + 15)))] := by rw [(hfa2 (PB + 15) (by omega)).2]; exact hl
  refine W.eq (g2 := F0 m 17 ls [.ref (ada2 (PB + 17)), .ref (ada2 (PB + 15))]) (by rw [eqa2, (hfa2 (PB + 15) (by omega)).2]) ?_
  have hH1 : Va2 (PB + 16) = some (.inl (cy 0, 60, .inl (fun _ => 0))) := by rw [(hfa2 (PB + 16) (by omega)).1]; exact hH1
  have hH0 : Va2 (PB + 15) = some (.inr (0, [.ref (ada2 (PB + 16)), .null, .null, .null, .int (0), .int (0)])) := by rw [(hfa2 (PB + 15) (by omega)).1, (hfa2 (PB + 16) (by omega)).2]; exact hH0
  refine p_X0_X0_members hx hb hown hnm hK hW hS hH0 dX0_init_17 (fun H locs hW hS => ?_)
  obtain ⟨V2, eV2⟩ : ∃ x9, x9 = va_up Va2 (PB + 15) (some (.inr (0, [.ref (ada2 (PB + 16)), .ref (ada2 (PB + 17)), .null, .null, .int (0), .int (0)]))) := ⟨_, rfl⟩
  rw [← eV2] at hW
  have hH1 : V2 (PB + 16) = some (.inl (cy 0, 60, .inl (fun _ => 0))) := by rw [eV2, va_up_ne _ _ (by omega)]; exact hH1
  have hH2 : V2 (PB + 17) = some (.inl (cy 0, 60, .inl (fun _ => 0))) := by rw [eV2, va_up_ne _ _ (by omega)]; exact hH2
  have hH0 : V2 (PB + 15) = some (.inr (0, [.ref (ada2 (PB + 16)), .ref (ada2 (PB + 17)), .null, .null, .int (0), .int (0)])) := by rw [eV2, va_up_self]
  refine lv_aload_n hx hb dX0_init_20 rfl (lv_at hl 0 rfl) ?_
  refine lv_bipush (v := nI 60) hx hb dX0_init_21 (by decide) ?_
  refine w_newI hx hb hK hW hS hz (N := 60) (PB + 18) (by rw [eV2, va_up_ne _ _ (by omega), (hfa2 (PB + 18) (by omega)).1, eV1, va_up_ne _ _ (by omega), (hfa1 (PB + 18) (by omega)).1]; exact hfree 18 (by omega) (by omega)) (by decide) (by decide) (by decide) dX0_init_23 (fun qa3 H hW hS => ?_)
  obtain ⟨ada3, eada3⟩ : ∃ x9, x9 = va_up ada2 (PB + 18) qa3 := ⟨_, rfl⟩
  obtain ⟨Va3, eVa3⟩ : ∃ x9, x9 = va_up V2 (PB + 18) (some (.inl (cy 0, 60, .inl (fun _ => 0)))) := ⟨_, rfl⟩
  rw [← eada3, ← eVa3] at hW
  have hfa3 : ∀ L, ¬ L = (PB + 18) → Va3 L = V2 L ∧ ada3 L = ada2 L := fun L h => ⟨by rw [eVa3, va_up_ne _ _ h], by rw [eada3, va_up_ne _ _ h]⟩
  have eqa3 : qa3 = ada3 (PB + 18) := by rw [eada3, va_up_self]
  have hH3 : Va3 (PB + 18) = some (.inl (cy 0, 60, .inl (fun _ => 0))) := by rw [eVa3, va_up_self]
  have hl : lv_has ls 1 [(0, .ref (ada3 (PB + 15)))] := by rw [(hfa3 (PB + 15) (by omega)).2]; exact hl
  refine W.eq (g2 := F0 m 25 ls [.ref (ada3 (PB + 18)), .ref (ada3 (PB + 15))]) (by rw [eqa3, (hfa3 (PB + 15) (by omega)).2]) ?_
  have hH1 : Va3 (PB + 16) = some (.inl (cy 0, 60, .inl (fun _ => 0))) := by rw [(hfa3 (PB + 16) (by omega)).1]; exact hH1
  have hH2 : Va3 (PB + 17) = some (.inl (cy 0, 60, .inl (fun _ => 0))) := by rw [(hfa3 (PB + 17) (by omega)).1]; exact hH2
  have hH0 : Va3 (PB + 15) = some (.inr (0, [.ref (ada3 (PB + 16)), .ref (ada3 (PB + 17)), .null, .null, .int (0), .int (0)])) := by rw [(hfa3 (PB + 15) (by omega)).1, (hfa3 (PB + 16) (by omega)).2, (hfa3 (PB + 17) (by omega)).2]; exact hH0
  refine p_X0_X0_numbers hx hb hown hnm hK hW hS hH0 dX0_init_25 (fun H locs hW hS => ?_)
  obtain ⟨V3, eV3⟩ : ∃ x9, x9 = va_up Va3 (PB + 15) (some (.inr (0, [.ref (ada3 (PB + 16)), .ref (ada3 (PB + 17)), .ref (ada3 (PB + 18)), .null, .int (0), .int (0)]))) := ⟨_, rfl⟩
  rw [← eV3] at hW
  have hH1 : V3 (PB + 16) = some (.inl (cy 0, 60, .inl (fun _ => 0))) := by rw [eV3, va_up_ne _ _ (by omega)]; exact hH1
  have hH2 : V3 (PB + 17) = some (.inl (cy 0, 60, .inl (fun _ => 0))) := by rw [eV3, va_up_ne _ _ (by omega)]; exact hH2
  have hH3 : V3 (PB + 18) = some (.inl (cy 0, 60, .inl (fun _ => 0))) := by rw [eV3, va_up_ne _ _ (by omega)]; exact hH3
  have hH0 : V3 (PB + 15) = some (.inr (0, [.ref (ada3 (PB + 16)), .ref (ada3 (PB + 17)), .ref (ada3 (PB + 18)), .null, .int (0), .int (0)])) := by rw [eV3, va_up_self]
  refine lv_aload_n hx hb dX0_init_28 rfl (lv_at hl 0 rfl) ?_
  refine lv_bipush (v := nI 60) hx hb dX0_init_29 (by decide) ?_
  refine lv_bipush (v := nI 12) hx hb dX0_init_31 (by decide) ?_
  refine w_mna (ty := .long) (z := (12, .inr (.inl (fun _ => 0)))) hx hb hown tw_71 tw_72 tw_98 4 1 rfl rfl (fun h => h) hK hW hS hz (nI_pos (n := 60) (by decide)) (nI_pos (n := 12) (by decide)) (nI_clamp (by decide)) (nI_clamp (by decide)) (by decide) (by decide) (by decide) (by decide) (by decide) (by decide) (by decide) (fun c => arrV_new c 12 _) dX0_init_33 (PB + 19) (PB + 20) (by omega) (by rw [eV3, va_up_ne _ _ (by omega), (hfa3 (PB + 19) (by omega)).1, eV2, va_up_ne _ _ (by omega), (hfa2 (PB + 19) (by omega)).1, eV1, va_up_ne _ _ (by omega), (hfa1 (PB + 19) (by omega)).1]; exact hfree 19 (by omega) (by omega)) (fun i hi => by rw [eV3, va_up_ne _ _ (by omega), (hfa3 (PB + 20 + i) (by omega)).1, eV2, va_up_ne _ _ (by omega), (hfa2 (PB + 20 + i) (by omega)).1, eV1, va_up_ne _ _ (by omega), (hfa1 (PB + 20 + i) (by omega)).1]; rw [Nat.add_assoc]; exact hfree (20 + i) (by omega) (by omega)) (fun adm Vm H hm0 hm1 hfm hW hS => ?_)
  have hfm : ∀ L, (¬ L = (PB + 19) ∧ (L < PB + 20 ∨ PB + 20 + 60 ≤ L)) → Vm L = V3 L ∧ adm L = ada3 L := fun L h => hfm L h.1 h.2
  have hl : lv_has ls 1 [(0, .ref (adm (PB + 15)))] := by rw [(hfm (PB + 15) (by omega)).2]; exact hl
  refine W.eq (g2 := F0 m 37 ls [.ref (adm (PB + 19)), .ref (adm (PB + 15))]) (by rw [(hfm (PB + 15) (by omega)).2]) ?_
  have hH1 : Vm (PB + 16) = some (.inl (cy 0, 60, .inl (fun _ => 0))) := by rw [(hfm (PB + 16) (by omega)).1]; exact hH1
  have hH2 : Vm (PB + 17) = some (.inl (cy 0, 60, .inl (fun _ => 0))) := by rw [(hfm (PB + 17) (by omega)).1]; exact hH2
  have hH3 : Vm (PB + 18) = some (.inl (cy 0, 60, .inl (fun _ => 0))) := by rw [(hfm (PB + 18) (by omega)).1]; exact hH3
  have hH0 : Vm (PB + 15) = some (.inr (0, [.ref (adm (PB + 16)), .ref (adm (PB + 17)), .ref (adm (PB + 18)), .null, .int (0), .int (0)])) := by rw [(hfm (PB + 15) (by omega)).1, (hfm (PB + 16) (by omega)).2, (hfm (PB + 17) (by omega)).2, (hfm (PB + 18) (by omega)).2]; exact hH0
  refine p_X0_X0_keptAt hx hb hown hnm hK hW hS hH0 dX0_init_37 (fun H locs hW hS => ?_)
  obtain ⟨V4, eV4⟩ : ∃ x9, x9 = va_up Vm (PB + 15) (some (.inr (0, [.ref (adm (PB + 16)), .ref (adm (PB + 17)), .ref (adm (PB + 18)), .ref (adm (PB + 19)), .int (0), .int (0)]))) := ⟨_, rfl⟩
  rw [← eV4] at hW
  have hH1 : V4 (PB + 16) = some (.inl (cy 0, 60, .inl (fun _ => 0))) := by rw [eV4, va_up_ne _ _ (by omega)]; exact hH1
  have hH2 : V4 (PB + 17) = some (.inl (cy 0, 60, .inl (fun _ => 0))) := by rw [eV4, va_up_ne _ _ (by omega)]; exact hH2
  have hH3 : V4 (PB + 18) = some (.inl (cy 0, 60, .inl (fun _ => 0))) := by rw [eV4, va_up_ne _ _ (by omega)]; exact hH3
  have hm0 : V4 (PB + 19) = some (.inl (cy 4, 60, .inr (.inr (.inr (.inr (fun i => if i < 60 then some (adm (PB + 20 + i)) else none)))))) := by rw [eV4, va_up_ne _ _ (by omega)]; exact hm0
  have hH0 : V4 (PB + 15) = some (.inr (0, [.ref (adm (PB + 16)), .ref (adm (PB + 17)), .ref (adm (PB + 18)), .ref (adm (PB + 19)), .int (0), .int (0)])) := by rw [eV4, va_up_self]
  refine W.widen (k := 64) (n := 960) (by omega) (by omega) ?_
  exact rwv hx hb hr hlocks dX0_init_40 hW hS (⟨⟨hH0, hH1, hH2, hH3, hm0, fun i hi => by show V4 (PB + 20 + i) = _; rw [eV4, va_up_ne _ _ (by omega)]; exact hm1 i hi⟩, by show adm (PB + 15) = _; rw [(hfm (PB + 15) (by omega)).2, (hfa3 (PB + 15) (by omega)).2, (hfa2 (PB + 15) (by omega)).2, (hfa1 (PB + 15) (by omega)).2], fun L hL => ⟨by show V4 L = _; rw [eV4, va_up_ne _ _ (by omega), (hfm (L) (by omega)).1, eV3, va_up_ne _ _ (by omega), (hfa3 (L) (by omega)).1, eV2, va_up_ne _ _ (by omega), (hfa2 (L) (by omega)).1, eV1, va_up_ne _ _ (by omega), (hfa1 (L) (by omega)).1], by show adm L = _; rw [(hfm (L) (by omega)).2, (hfa3 (L) (by omega)).2, (hfa2 (L) (by omega)).2, (hfa1 (L) (by omega)).2]⟩⟩)
