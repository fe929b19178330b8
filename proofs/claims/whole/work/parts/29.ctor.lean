set_option maxHeartbeats 4000000 in
set_option maxRecDepth 100000 in
theorem c_X2_init (l : Launch) (D : va_G) (cy : Nat → ClassId) (z0 : Nat) (ad : Nat → Nat) (V : Nat → Option va_E) (LR : Nat) (hV : V LR = some (.inr (2, [.int 0, .int 0, .int 0, .int 0, .int 0]))) (a b x w v : Int32) : Met l yX2_init [Cond.code yX2_init cX2_init 6 none] { frames := 1, cells := 0, slots := 0, locals := 12 } (WP [.ref (ad LR), .int (a), .int (b), .int (x), .int (w), .int (v)] D cy z0 ad V) (va_Qv (fun u => u.1 = ad ∧ u.2 LR = some (.inr (2, [.int a, .int b, .int x, .int w, .int v])) ∧ ∀ L, ¬ L = LR → u.2 L = V L) (WB D z0) (AA z0)) 0 0 (AA z0) := by
  refine met_of (by decide) (Nat.le_of_ble_eq_true rfl) (fun p e s m below meth c hx hb hr hml hown hlocks hnm hK hz hW ls hl => ?_)
  have hown : s.vm.findClass RX2 = some m.cls := hown
  have hl : lv_has ls 6 [(0, .ref (ad LR)), (1, .int (a)), (2, .int (b)), (3, .int (x)), (4, .int (w)), (5, .int (v))] := hl
  have hS : va_S (AA z0) s.heap s.heap [] := va_S.rf
  refine lv_aload_n hx hb dX2_init_0 rfl (lv_at hl 0 rfl) ?_
  refine W.objInit hx hb hown (hK.1.use _ _ tw_250) (hK.1.use _ _ tw_17) (hK.1.use _ _ tw_oc) rfl (by rw [hml]; exact hl.1) rfl dX2_init_1 (Nat.le_of_ble_eq_true rfl) (Nat.le_of_ble_eq_true rfl) ?_
  refine W.eq (g2 := F0 m 4 ls []) rfl ?_
  refine lv_aload_n hx hb dX2_init_4 rfl (lv_at hl 0 rfl) ?_
  refine lv_iload_n hx hb dX2_init_5 rfl (lv_at hl 1 rfl) ?_
  refine p_X2_X2_kind hx hb hown hnm hK hW hS hV dX2_init_6 (fun H locs hW hS => ?_)
  obtain ⟨V1, eV1⟩ : ∃ x9, x9 = va_up V (LR) (some (.inr (2, [.int (a), .int (0), .int (0), .int (0), .int (0)]))) := ⟨_, rfl⟩
  rw [← eV1] at hW
  have hV : V1 (LR) = some (.inr (2, [.int (a), .int (0), .int (0), .int (0), .int (0)])) := by rw [eV1, va_up_self]
  refine lv_aload_n hx hb dX2_init_9 rfl (lv_at hl 0 rfl) ?_
  refine lv_iload_n hx hb dX2_init_10 rfl (lv_at hl 2 rfl) ?_
  refine p_X2_X2_looksAt hx hb hown hnm hK hW hS hV dX2_init_11 (fun H locs hW hS => ?_)
  obtain ⟨V2, eV2⟩ : ∃ x9, x9 = va_up V1 (LR) (some (.inr (2, [.int (a), .int (b), .int (0), .int (0), .int (0)]))) := ⟨_, rfl⟩
  rw [← eV2] at hW
  have hV : V2 (LR) = some (.inr (2, [.int (a), .int (b), .int (0), .int (0), .int (0)])) := by rw [eV2, va_up_self]
  refine lv_aload_n hx hb dX2_init_14 rfl (lv_at hl 0 rfl) ?_
  refine lv_iload_n hx hb dX2_init_15 rfl (lv_at hl 3 rfl) ?_
  refine p_X2_X2_bound hx hb hown hnm hK hW hS hV dX2_init_16 (fun H locs hW hS => ?_)
  obtain ⟨V3, eV3⟩ : ∃ x9, x9 = va_up V2 (LR) (some (.inr (2, [.int (a), .int (b), .int (x), .int (0), .int (0)]))) := ⟨_, rfl⟩
  rw [← eV3] at hW
  have hV : V3 (LR) = some (.inr (2, [.int (a), .int (b), .int (x), .int (0), .int (0)])) := by rw [eV3, va_up_self]
  refine lv_aload_n hx hb dX2_init_19 rfl (lv_at hl 0 rfl) ?_
  refine lv_iload hx hb dX2_init_20 (lv_at hl 4 rfl) ?_
  refine p_X2_X2_weight hx hb hown hnm hK hW hS hV dX2_init_22 (fun H locs hW hS => ?_)
  obtain ⟨V4, eV4⟩ : ∃ x9, x9 = va_up V3 (LR) (some (.inr (2, [.int (a), .int (b), .int (x), .int (w), .int (0)]))) := ⟨_, rfl⟩
  rw [← eV4] at hW
  have hV : V4 (LR) = some (.inr (2, [.int (a), .int (b), .int (x), .int (w), .int (0)])) := by rw [eV4, va_up_self]
  refine lv_aload_n hx hb dX2_init_25 rfl (lv_at hl 0 rfl) ?_
  refine lv_iload hx hb dX2_init_26 (lv_at hl 5 rfl) ?_
  refine p_X2_X2_level hx hb hown hnm hK hW hS hV dX2_init_28 (fun H locs hW hS => ?_)
  obtain ⟨V5, eV5⟩ : ∃ x9, x9 = va_up V4 (LR) (some (.inr (2, [.int (a), .int (b), .int (x), .int (w), .int (v)]))) := ⟨_, rfl⟩
  rw [← eV5] at hW
  have hV : V5 (LR) = some (.inr (2, [.int (a), .int (b), .int (x), .int (w), .int (v)])) := by rw [eV5, va_up_self]
  exact rwv hx hb hr hlocks dX2_init_31 hW hS (⟨rfl, hV, fun L hL => by show V5 L = _; rw [eV5, va_up_ne _ _ hL, eV4, va_up_ne _ _ hL, eV3, va_up_ne _ _ hL, eV2, va_up_ne _ _ hL, eV1, va_up_ne _ _ hL]⟩)

set_option maxHeartbeats 4000000 in
set_option maxRecDepth 100000 in
theorem c_X5_init (l : Launch) (D : va_G) (cy : Nat → ClassId) (z0 : Nat) (ad : Nat → Nat) (V : Nat → Option va_E) (B : Nat) (hV : V B = some (.inr (5, [.null, .int 0]))) (hfree : ∀ j, 1 ≤ j → j < 6 → V (B + j) = none) : Met l yX5_init [Cond.code yX5_init cX5_init 1 none] { frames := 1, cells := 5, slots := 164, locals := 12 } (WP [.ref (ad B)] D cy z0 ad V) (va_Qv (fun u => isT u.1 u.2 cy B 0 (fun _ _ => 0) ∧ u.1 B = ad B ∧ ∀ L, (L < B ∨ B + 6 ≤ L) → u.2 L = V L ∧ u.1 L = ad L) (WB D z0) (AA z0)) 5 164 (AA z0) := by
  refine met_of (by decide) (Nat.le_of_ble_eq_true rfl) (fun p e s m below meth c hx hb hr hml hown hlocks hnm hK hz hW ls hl => ?_)
  have hown : s.vm.findClass RX5 = some m.cls := hown
  have hl : lv_has ls 1 [(0, .ref (ad B))] := hl
  have hS : va_S (AA z0) s.heap s.heap [] := va_S.rf
  refine lv_aload_n hx hb dX5_init_0 rfl (lv_at hl 0 rfl) ?_
  refine W.objInit hx hb hown (hK.1.use _ _ tw_49) (hK.1.use _ _ tw_17) (hK.1.use _ _ tw_oc) rfl (by rw [hml]; exact hl.1) rfl dX5_init_1 (Nat.le_of_ble_eq_true rfl) (Nat.le_of_ble_eq_true rfl) ?_
  refine W.eq (g2 := F0 m 4 ls []) rfl ?_
  refine lv_aload_n hx hb dX5_init_4 rfl (lv_at hl 0 rfl) ?_
  refine lv_iconst (v := nI 4) hx hb dX5_init_5 (by decide) ?_
  refine lv_bipush (v := nI 40) hx hb dX5_init_6 (by decide) ?_
  refine w_mna (ty := .int) (z := (40, .inl (fun _ => 0))) hx hb hown tw_50 tw_51 tw_64 3 0 rfl rfl (fun h => h) hK hW hS hz (nI_pos (n := 4) (by decide)) (nI_pos (n := 40) (by decide)) (nI_clamp (by decide)) (nI_clamp (by decide)) (by decide) (by decide) (by decide) (by decide) (by decide) (by decide) (by decide) (fun c => arrV_new c 40 _) dX5_init_8 (B + 1) (B + 2) (by omega) (hfree 1 (by omega) (by omega)) (fun i hi => by rw [Nat.add_assoc]; exact hfree (2 + i) (by omega) (by omega)) (fun adm Vm H hm0 hm1 hfm hW hS => ?_)
  have hfm : ∀ L, (¬ L = (B + 1) ∧ (L < B + 2 ∨ B + 2 + 4 ≤ L)) → Vm L = V L ∧ adm L = ad L := fun L h => hfm L h.1 h.2
  have hvm : ∀ L, (¬ L = (B + 1) ∧ (L < B + 2 ∨ B + 2 + 4 ≤ L)) → Vm L = V L := fun L h => (hfm L h).1
  have ham : ∀ L, (¬ L = (B + 1) ∧ (L < B + 2 ∨ B + 2 + 4 ≤ L)) → adm L = ad L := fun L h => (hfm L h).2
  have hl : lv_has ls 1 [(0, .ref (adm B))] := by rw [ham (B) (by omega)]; exact hl
  refine W.eq (g2 := F0 m 12 ls [.ref (adm (B + 1)), .ref (adm B)]) (by rw [ham (B) (by omega)]) ?_
  have hV : Vm (B) = some (.inr (5, [.null, .int (0)])) := by rw [hvm (B) (by omega)]; exact hV
  refine p_X5_X5_rows hx hb hown hnm hK hW hS hV dX5_init_12 (fun H locs hW hS => ?_)
  obtain ⟨V1, eV1⟩ : ∃ x9, x9 = va_up Vm (B) (some (.inr (5, [.ref (adm (B + 1)), .int (0)]))) := ⟨_, rfl⟩
  rw [← eV1] at hW
  have hm0 : V1 (B + 1) = some (.inl (cy 3, 4, .inr (.inr (.inr (.inr (fun i => if i < 4 then some (adm (B + 2 + i)) else none)))))) := by rw [eV1, va_up_ne _ _ (by omega)]; exact hm0
  have hV : V1 (B) = some (.inr (5, [.ref (adm (B + 1)), .int (0)])) := by rw [eV1, va_up_self]
  refine W.widen (k := 5) (n := 164) (by omega) (by omega) ?_
  exact rwv hx hb hr hlocks dX5_init_15 hW hS (⟨⟨hV, hm0, fun q hq => by show V1 (B + 2 + q) = _; rw [eV1, va_up_ne _ _ (by omega)]; exact hm1 q hq⟩, ham B (by omega), fun L hL => ⟨by show V1 L = _; rw [eV1, va_up_ne _ _ (by omega)]; exact hvm L (by omega), ham L (by omega)⟩⟩)

set_option maxHeartbeats 4000000 in
set_option maxRecDepth 100000 in
theorem c_X0_init (l : Launch) (D : va_G) (cy : Nat → ClassId) (z0 : Nat) (ad : Nat → Nat) (V : Nat → Option va_E) (PB : Nat) (hV : V (PB + 15) = some (.inr (0, [.null, .null, .null, .null, .int 0, .int 0]))) (hfree : ∀ j, 16 ≤ j → j < 80 → V (PB + j) = none) : Met l yX0_init [Cond.code yX0_init cX0_init 1 none] { frames := 1, cells := 64, slots := 960, locals := 12 } (WP [.ref (ad (PB + 15))] D cy z0 ad V) (va_Qv (fun u => isH u.1 u.2 cy PB (fun _ => 0) (fun _ => 0) (fun _ => 0) (fun _ _ => 0) 0 0 ∧ u.1 (PB + 15) = ad (PB + 15) ∧ ∀ L, (L < PB + 15 ∨ PB + 80 ≤ L) → u.2 L = V L ∧ u.1 L = ad L) (WB D z0) (AA z0)) 64 960 (AA z0) := by
  refine met_of (by decide) (Nat.le_of_ble_eq_true rfl) (fun p e s m below meth c hx hb hr hml hown hlocks hnm hK hz hW ls hl => ?_)
  have hown : s.vm.findClass RX0 = some m.cls := hown
  have hl : lv_has ls 1 [(0, .ref (ad (PB + 15)))] := hl
  have hS : va_S (AA z0) s.heap s.heap [] := va_S.rf
  have hH0 := hV
  refine lv_aload_n hx hb dX0_init_0 rfl (lv_at hl 0 rfl) ?_
  refine W.objInit hx hb hown (hK.1.use _ _ tw_70) (hK.1.use _ _ tw_17) (hK.1.use _ _ tw_oc) rfl (by rw [hml]; exact hl.1) rfl dX0_init_1 (Nat.le_of_ble_eq_true rfl) (Nat.le_of_ble_eq_true rfl) ?_
  refine W.eq (g2 := F0 m 4 ls []) rfl ?_
  refine lv_aload_n hx hb dX0_init_4 rfl (lv_at hl 0 rfl) ?_
  refine lv_bipush (v := nI 60) hx hb dX0_init_5 (by decide) ?_
  refine w_newI hx hb hK hW hS hz (N := 60) (PB + 16) (by exact hfree 16 (by omega) (by omega)) (by decide) (by decide) (by decide) dX0_init_7 (fun qa1 H hW hS => ?_)
  obtain ⟨ada1, eada1⟩ : ∃ x9, x9 = va_up ad (PB + 16) qa1 := ⟨_, rfl⟩
  obtain ⟨Va1, eVa1⟩ : ∃ x9, x9 = va_up V (PB + 16) (some (.inl (cy 0, 60, .inl (fun _ => 0)))) := ⟨_, rfl⟩
  rw [← eada1, ← eVa1] at hW
  have hva1 : ∀ L, ¬ L = (PB + 16) → Va1 L = V L := fun L h => by rw [eVa1, va_up_ne _ _ h]
  have haa1 : ∀ L, ¬ L = (PB + 16) → ada1 L = ad L := fun L h => by rw [eada1, va_up_ne _ _ h]
  have eqa1 : qa1 = ada1 (PB + 16) := by rw [eada1, va_up_self]
  have hH1 : Va1 (PB + 16) = some (.inl (cy 0, 60, .inl (fun _ => 0))) := by rw [eVa1, va_up_self]
  have hl : lv_has ls 1 [(0, .ref (ada1 (PB + 15)))] := by rw [haa1 (PB + 15) (by omega)]; exact hl
  refine W.eq (g2 := F0 m 9 ls [.ref (ada1 (PB + 16)), .ref (ada1 (PB + 15))]) (by rw [eqa1, haa1 (PB + 15) (by omega)]) ?_
  have hH0 : Va1 (PB + 15) = some (.inr (0, [.null, .null, .null, .null, .int (0), .int (0)])) := by rw [hva1 (PB + 15) (by omega)]; exact hH0
  refine p_X0_X0_objects hx hb hown hnm hK hW hS hH0 dX0_init_9 (fun H locs hW hS => ?_)
  obtain ⟨V1, eV1⟩ : ∃ x9, x9 = va_up Va1 (PB + 15) (some (.inr (0, [.ref (ada1 (PB + 16)), .null, .null, .null, .int (0), .int (0)]))) := ⟨_, rfl⟩
  rw [← eV1] at hW
  have hH1 : V1 (PB + 16) = some (.inl (cy 0, 60, .inl (fun _ => 0))) := by rw [eV1, va_up_ne _ _ (by omega)]; exact hH1
  have hH0 : V1 (PB + 15) = some (.inr (0, [.ref (ada1 (PB + 16)), .null, .null, .null, .int (0), .int (0)])) := by rw [eV1, va_up_self]
  refine lv_aload_n hx hb dX0_init_12 rfl (lv_at hl 0 rfl) ?_
  refine lv_bipush (v := nI 60) hx hb dX0_init_13 (by decide) ?_
  refine w_newI hx hb hK hW hS hz (N := 60) (PB + 17) (by rw [eV1, va_up_ne _ _ (by omega), hva1 (PB + 17) (by omega)]; exact hfree 17 (by omega) (by omega)) (by decide) (by decide) (by decide) dX0_init_15 (fun qa2 H hW hS => ?_)
  obtain ⟨ada2, eada2⟩ : ∃ x9, x9 = va_up ada1 (PB + 17) qa2 := ⟨_, rfl⟩
  obtain ⟨Va2, eVa2⟩ : ∃ x9, x9 = va_up V1 (PB + 17) (some (.inl (cy 0, 60, .inl (fun _ => 0)))) := ⟨_, rfl⟩
  rw [← eada2, ← eVa2] at hW
  have hva2 : ∀ L, ¬ L = (PB + 17) → Va2 L = V1 L := fun L h => by rw [eVa2, va_up_ne _ _ h]
  have haa2 : ∀ L, ¬ L = (PB + 17) → ada2 L = ada1 L := fun L h => by rw [eada2, va_up_ne _ _ h]
  have eqa2 : qa2 = ada2 (PB + 17) := by rw [eada2, va_up_self]
  have hH2 : Va2 (PB + 17) = some (.inl (cy 0, 60, .inl (fun _ => 0))) := by rw [eVa2, va_up_self]
  have hl : lv_has ls 1 [(0, .ref (ada2 (PB + 15)))] := by rw [haa2 (PB + 15) (by omega)]; exact hl
  refine W.eq (g2 := F0 m 17 ls [.ref (ada2 (PB + 17)), .ref (ada2 (PB + 15))]) (by rw [eqa2, haa2 (PB + 15) (by omega)]) ?_
  have hH1 : Va2 (PB + 16) = some (.inl (cy 0, 60, .inl (fun _ => 0))) := by rw [hva2 (PB + 16) (by omega)]; exact hH1
  have hH0 : Va2 (PB + 15) = some (.inr (0, [.ref (ada2 (PB + 16)), .null, .null, .null, .int (0), .int (0)])) := by rw [hva2 (PB + 15) (by omega), haa2 (PB + 16) (by omega)]; exact hH0
  refine p_X0_X0_members hx hb hown hnm hK hW hS hH0 dX0_init_17 (fun H locs hW hS => ?_)
  obtain ⟨V2, eV2⟩ : ∃ x9, x9 = va_up Va2 (PB + 15) (some (.inr (0, [.ref (ada2 (PB + 16)), .ref (ada2 (PB + 17)), .null, .null, .int (0), .int (0)]))) := ⟨_, rfl⟩
  rw [← eV2] at hW
  have hH1 : V2 (PB + 16) = some (.inl (cy 0, 60, .inl (fun _ => 0))) := by rw [eV2, va_up_ne _ _ (by omega)]; exact hH1
  have hH2 : V2 (PB + 17) = some (.inl (cy 0, 60, .inl (fun _ => 0))) := by rw [eV2, va_up_ne _ _ (by omega)]; exact hH2
  have hH0 : V2 (PB + 15) = some (.inr (0, [.ref (ada2 (PB + 16)), .ref (ada2 (PB + 17)), .null, .null, .int (0), .int (0)])) := by rw [eV2, va_up_self]
  refine lv_aload_n hx hb dX0_init_20 rfl (lv_at hl 0 rfl) ?_
  refine lv_bipush (v := nI 60) hx hb dX0_init_21 (by decide) ?_
  refine w_newI hx hb hK hW hS hz (N := 60) (PB + 18) (by rw [eV2, va_up_ne _ _ (by omega), hva2 (PB + 18) (by omega), eV1, va_up_ne _ _ (by omega), hva1 (PB + 18) (by omega)]; exact hfree 18 (by omega) (by omega)) (by decide) (by decide) (by decide) dX0_init_23 (fun qa3 H hW hS => ?_)
  obtain ⟨ada3, eada3⟩ : ∃ x9, x9 = va_up ada2 (PB + 18) qa3 := ⟨_, rfl⟩
  obtain ⟨Va3, eVa3⟩ : ∃ x9, x9 = va_up V2 (PB + 18) (some (.inl (cy 0, 60, .inl (fun _ => 0)))) := ⟨_, rfl⟩
  rw [← eada3, ← eVa3] at hW
  have hva3 : ∀ L, ¬ L = (PB + 18) → Va3 L = V2 L := fun L h => by rw [eVa3, va_up_ne _ _ h]
  have haa3 : ∀ L, ¬ L = (PB + 18) → ada3 L = ada2 L := fun L h => by rw [eada3, va_up_ne _ _ h]
  have eqa3 : qa3 = ada3 (PB + 18) := by rw [eada3, va_up_self]
  have hH3 : Va3 (PB + 18) = some (.inl (cy 0, 60, .inl (fun _ => 0))) := by rw [eVa3, va_up_self]
  have hl : lv_has ls 1 [(0, .ref (ada3 (PB + 15)))] := by rw [haa3 (PB + 15) (by omega)]; exact hl
  refine W.eq (g2 := F0 m 25 ls [.ref (ada3 (PB + 18)), .ref (ada3 (PB + 15))]) (by rw [eqa3, haa3 (PB + 15) (by omega)]) ?_
  have hH1 : Va3 (PB + 16) = some (.inl (cy 0, 60, .inl (fun _ => 0))) := by rw [hva3 (PB + 16) (by omega)]; exact hH1
  have hH2 : Va3 (PB + 17) = some (.inl (cy 0, 60, .inl (fun _ => 0))) := by rw [hva3 (PB + 17) (by omega)]; exact hH2
  have hH0 : Va3 (PB + 15) = some (.inr (0, [.ref (ada3 (PB + 16)), .ref (ada3 (PB + 17)), .null, .null, .int (0), .int (0)])) := by rw [hva3 (PB + 15) (by omega), haa3 (PB + 16) (by omega), haa3 (PB + 17) (by omega)]; exact hH0
  refine p_X0_X0_numbers hx hb hown hnm hK hW hS hH0 dX0_init_25 (fun H locs hW hS => ?_)
  obtain ⟨V3, eV3⟩ : ∃ x9, x9 = va_up Va3 (PB + 15) (some (.inr (0, [.ref (ada3 (PB + 16)), .ref (ada3 (PB + 17)), .ref (ada3 (PB + 18)), .null, .int (0), .int (0)]))) := ⟨_, rfl⟩
  rw [← eV3] at hW
  have hH1 : V3 (PB + 16) = some (.inl (cy 0, 60, .inl (fun _ => 0))) := by rw [eV3, va_up_ne _ _ (by omega)]; exact hH1
  have hH2 : V3 (PB + 17) = some (.inl (cy 0, 60, .inl (fun _ => 0))) := by rw [eV3, va_up_ne _ _ (by omega)]; exact hH2
  have hH3 : V3 (PB + 18) = some (.inl (cy 0, 60, .inl (fun _ => 0))) := by rw [eV3, va_up_ne _ _ (by omega)]; exact hH3
  have hH0 : V3 (PB + 15) = some (.inr (0, [.ref (ada3 (PB + 16)), .ref (ada3 (PB + 17)), .ref (ada3 (PB + 18)), .null, .int (0), .int (0)])) := by rw [eV3, va_up_self]
  refine lv_aload_n hx hb dX0_init_28 rfl (lv_at hl 0 rfl) ?_
  refine lv_bipush (v := nI 60) hx hb dX0_init_29 (by decide) ?_
  refine lv_bipush (v := nI 12) hx hb dX0_init_31 (by decide) ?_
  refine w_mna (ty := .long) (z := (12, .inr (.inl (fun _ => 0)))) hx hb hown tw_71 tw_72 tw_98 4 1 rfl rfl (fun h => h) hK hW hS hz (nI_pos (n := 60) (by decide)) (nI_pos (n := 12) (by decide)) (nI_clamp (by decide)) (nI_clamp (by decide)) (by decide) (by decide) (by decide) (by decide) (by decide) (by decide) (by decide) (fun c => arrV_new c 12 _) dX0_init_33 (PB + 19) (PB + 20) (by omega) (by rw [eV3, va_up_ne _ _ (by omega), hva3 (PB + 19) (by omega), eV2, va_up_ne _ _ (by omega), hva2 (PB + 19) (by omega), eV1, va_up_ne _ _ (by omega), hva1 (PB + 19) (by omega)]; exact hfree 19 (by omega) (by omega)) (fun i hi => by rw [eV3, va_up_ne _ _ (by omega), hva3 (PB + 20 + i) (by omega), eV2, va_up_ne _ _ (by omega), hva2 (PB + 20 + i) (by omega), eV1, va_up_ne _ _ (by omega), hva1 (PB + 20 + i) (by omega)]; rw [Nat.add_assoc]; exact hfree (20 + i) (by omega) (by omega)) (fun adm Vm H hm0 hm1 hfm hW hS => ?_)
  have hfm : ∀ L, (¬ L = (PB + 19) ∧ (L < PB + 20 ∨ PB + 20 + 60 ≤ L)) → Vm L = V3 L ∧ adm L = ada3 L := fun L h => hfm L h.1 h.2
  have hvm : ∀ L, (¬ L = (PB + 19) ∧ (L < PB + 20 ∨ PB + 20 + 60 ≤ L)) → Vm L = V3 L := fun L h => (hfm L h).1
  have ham : ∀ L, (¬ L = (PB + 19) ∧ (L < PB + 20 ∨ PB + 20 + 60 ≤ L)) → adm L = ada3 L := fun L h => (hfm L h).2
  have hl : lv_has ls 1 [(0, .ref (adm (PB + 15)))] := by rw [ham (PB + 15) (by omega)]; exact hl
  refine W.eq (g2 := F0 m 37 ls [.ref (adm (PB + 19)), .ref (adm (PB + 15))]) (by rw [ham (PB + 15) (by omega)]) ?_
  have hH1 : Vm (PB + 16) = some (.inl (cy 0, 60, .inl (fun _ => 0))) := by rw [hvm (PB + 16) (by omega)]; exact hH1
  have hH2 : Vm (PB + 17) = some (.inl (cy 0, 60, .inl (fun _ => 0))) := by rw [hvm (PB + 17) (by omega)]; exact hH2
  have hH3 : Vm (PB + 18) = some (.inl (cy 0, 60, .inl (fun _ => 0))) := by rw [hvm (PB + 18) (by omega)]; exact hH3
  have hH0 : Vm (PB + 15) = some (.inr (0, [.ref (adm (PB + 16)), .ref (adm (PB + 17)), .ref (adm (PB + 18)), .null, .int (0), .int (0)])) := by rw [hvm (PB + 15) (by omega), ham (PB + 16) (by omega), ham (PB + 17) (by omega), ham (PB + 18) (by omega)]; exact hH0
  refine p_X0_X0_keptAt hx hb hown hnm hK hW hS hH0 dX0_init_37 (fun H locs hW hS => ?_)
  obtain ⟨V4, eV4⟩ : ∃ x9, x9 = va_up Vm (PB + 15) (some (.inr (0, [.ref (adm (PB + 16)), .ref (adm (PB + 17)), .ref (adm (PB + 18)), .ref (adm (PB + 19)), .int (0), .int (0)]))) := ⟨_, rfl⟩
  rw [← eV4] at hW
  have hH1 : V4 (PB + 16) = some (.inl (cy 0, 60, .inl (fun _ => 0))) := by rw [eV4, va_up_ne _ _ (by omega)]; exact hH1
  have hH2 : V4 (PB + 17) = some (.inl (cy 0, 60, .inl (fun _ => 0))) := by rw [eV4, va_up_ne _ _ (by omega)]; exact hH2
  have hH3 : V4 (PB + 18) = some (.inl (cy 0, 60, .inl (fun _ => 0))) := by rw [eV4, va_up_ne _ _ (by omega)]; exact hH3
  have hm0 : V4 (PB + 19) = some (.inl (cy 4, 60, .inr (.inr (.inr (.inr (fun i => if i < 60 then some (adm (PB + 20 + i)) else none)))))) := by rw [eV4, va_up_ne _ _ (by omega)]; exact hm0
  have hH0 : V4 (PB + 15) = some (.inr (0, [.ref (adm (PB + 16)), .ref (adm (PB + 17)), .ref (adm (PB + 18)), .ref (adm (PB + 19)), .int (0), .int (0)])) := by rw [eV4, va_up_self]
  refine W.widen (k := 64) (n := 960) (by omega) (by omega) ?_
  exact rwv hx hb hr hlocks dX0_init_40 hW hS (⟨⟨hH0, hH1, hH2, hH3, hm0, fun i hi => by show V4 (PB + 20 + i) = _; rw [eV4, va_up_ne _ _ (by omega)]; exact hm1 i hi⟩, by show adm (PB + 15) = _; rw [ham (PB + 15) (by omega), haa3 (PB + 15) (by omega), haa2 (PB + 15) (by omega), haa1 (PB + 15) (by omega)], fun L hL => ⟨by show V4 L = _; rw [eV4, va_up_ne _ _ (by omega), hvm (L) (by omega), eV3, va_up_ne _ _ (by omega), hva3 (L) (by omega), eV2, va_up_ne _ _ (by omega), hva2 (L) (by omega), eV1, va_up_ne _ _ (by omega), hva1 (L) (by omega)], by show adm L = _; rw [ham (L) (by omega), haa3 (L) (by omega), haa2 (L) (by omega), haa1 (L) (by omega)]⟩⟩)

set_option maxHeartbeats 4000000 in
set_option maxRecDepth 100000 in
theorem c_X3_init (l : Launch) (D : va_G) (cy : Nat → ClassId) (z0 : Nat) (ad : Nat → Nat) (V : Nat → Option va_E) (hV : V 1 = some (.inr (3, [.null, .int 0]))) (hfree : V 2 = none) : Met l yX3_init [Cond.code yX3_init cX3_init 1 none] { frames := 1, cells := 1, slots := 12, locals := 12 } (WP [.ref (ad 1)] D cy z0 ad V) (va_Qv (fun u => u.2 1 = some (.inr (3, [.ref (u.1 2), .int 0])) ∧ u.2 2 = some (.inl (cy 6, 12, .inr (.inr (.inr (.inr (fun _ => none)))))) ∧ (∀ L, ¬ L = 1 → ¬ L = 2 → u.2 L = V L) ∧ ∀ L, ¬ L = 2 → u.1 L = ad L) (WB D z0) (AA z0)) 1 12 (AA z0) := by
  refine met_of (by decide) (Nat.le_of_ble_eq_true rfl) (fun p e s m below meth c hx hb hr hml hown hlocks hnm hK hz hW ls hl => ?_)
  have hown : s.vm.findClass RX3 = some m.cls := hown
  have hl : lv_has ls 1 [(0, .ref (ad 1))] := hl
  have hS : va_S (AA z0) s.heap s.heap [] := va_S.rf
  refine lv_aload_n hx hb dX3_init_0 rfl (lv_at hl 0 rfl) ?_
  refine W.objInit hx hb hown (hK.1.use _ _ tw_24) (hK.1.use _ _ tw_17) (hK.1.use _ _ tw_oc) rfl (by rw [hml]; exact hl.1) rfl dX3_init_1 (Nat.le_of_ble_eq_true rfl) (Nat.le_of_ble_eq_true rfl) ?_
  refine W.eq (g2 := F0 m 4 ls []) rfl ?_
  refine lv_aload_n hx hb dX3_init_4 rfl (lv_at hl 0 rfl) ?_
  refine lv_bipush (v := nI 12) hx hb dX3_init_5 (by decide) ?_
  refine w_newq hx hb hown tw_25 tw_26 hK hW hS hz 6 rfl (2) (hfree) (nI_pos (n := 12) (by decide)) (nI_clamp (by decide)) (by decide) (by decide) (by decide) dX3_init_7 (fun qa1 H hW hS => ?_)
  obtain ⟨ada1, eada1⟩ : ∃ x9, x9 = va_up ad (2) qa1 := ⟨_, rfl⟩
  obtain ⟨Va1, eVa1⟩ : ∃ x9, x9 = va_up V (2) (some (.inl (cy 6, 12, .inr (.inr (.inr (.inr (fun _ => none))))))) := ⟨_, rfl⟩
  rw [← eada1, ← eVa1] at hW
  have hva1 : ∀ L, ¬ L = (2) → Va1 L = V L := fun L h => by rw [eVa1, va_up_ne _ _ h]
  have haa1 : ∀ L, ¬ L = (2) → ada1 L = ad L := fun L h => by rw [eada1, va_up_ne _ _ h]
  have eqa1 : qa1 = ada1 (2) := by rw [eada1, va_up_self]
  have hA2 : Va1 (2) = some (.inl (cy 6, 12, .inr (.inr (.inr (.inr (fun _ => none)))))) := by rw [eVa1, va_up_self]
  have hl : lv_has ls 1 [(0, .ref (ada1 1))] := by rw [haa1 (1) (by omega)]; exact hl
  refine W.eq (g2 := F0 m 10 ls [.ref (ada1 (2)), .ref (ada1 1)]) (by rw [eqa1, haa1 (1) (by omega)]) ?_
  have hV : Va1 (1) = some (.inr (3, [.null, .int (0)])) := by rw [hva1 (1) (by omega)]; exact hV
  refine p_X3_X3_rules hx hb hown hnm hK hW hS hV dX3_init_10 (fun H locs hW hS => ?_)
  obtain ⟨V1, eV1⟩ : ∃ x9, x9 = va_up Va1 (1) (some (.inr (3, [.ref (ada1 (2)), .int (0)]))) := ⟨_, rfl⟩
  rw [← eV1] at hW
  have hA2 : V1 (2) = some (.inl (cy 6, 12, .inr (.inr (.inr (.inr (fun _ => none)))))) := by rw [eV1, va_up_ne _ _ (by omega)]; exact hA2
  have hV : V1 (1) = some (.inr (3, [.ref (ada1 (2)), .int (0)])) := by rw [eV1, va_up_self]
  refine W.widen (k := 1) (n := 12) (by omega) (by omega) ?_
  exact rwv hx hb hr hlocks dX3_init_13 hW hS (⟨hV, hA2, fun L h1 h2 => by show V1 L = _; rw [eV1, va_up_ne _ _ (by omega), hva1 (L) (by omega)], fun L h => by show ada1 L = _; rw [haa1 (L) (by omega)]⟩)

set_option maxHeartbeats 4000000 in
set_option maxRecDepth 100000 in
theorem c_X1_init (l : Launch) (D : va_G) (cy : Nat → ClassId) (z0 : Nat) (ad : Nat → Nat) (V : Nat → Option va_E) (PB : Nat) (hPB : 100 ≤ PB) (hV : V PB = some (.inr (1, [.null, .null, .null, .null, .null, .null, .int 0, .int 0, .int 0, .int 0, .int 0]))) (hfree : ∀ j, 1 ≤ j → j < 80 → V (PB + j) = none) : Met l yX1_init [Cond.code yX1_init cX1_init 2 none] { frames := 2, cells := 79, slots := 1322, locals := 32 } (WP [.ref (ad PB), .ref (ad (1))] D cy z0 ad V) (va_Qv (fun u => isC u.1 u.2 cy PB 0 (fun _ _ => 0) 0 (fun _ _ => 0) (fun _ => 0) (fun _ => false) 0 0 (-1) false 0 ∧ isH u.1 u.2 cy PB (fun _ => 0) (fun _ => 0) (fun _ => 0) (fun _ _ => 0) 0 0 ∧ (∀ L, (L < PB ∨ PB + 80 ≤ L) → u.2 L = V L) ∧ ∀ L, (L ≤ PB ∨ PB + 80 ≤ L) → u.1 L = ad L) (WB D z0) (AA z0)) 79 1322 (AA z0) := by
  refine met_of (by decide) (Nat.le_of_ble_eq_true rfl) (fun p e s m below meth c hx hb hr hml hown hlocks hnm hK hz hW ls hl => ?_)
  have hown : s.vm.findClass RX1 = some m.cls := hown
  have hl : lv_has ls 2 [(0, .ref (ad PB)), (1, .ref (ad (1)))] := hl
  have hS : va_S (AA z0) s.heap s.heap [] := va_S.rf
  refine lv_aload_n hx hb dX1_init_0 rfl (lv_at hl 0 rfl) ?_
  refine W.objInit hx hb hown (hK.1.use _ _ tw_43) (hK.1.use _ _ tw_17) (hK.1.use _ _ tw_oc) rfl (by rw [hml]; exact hl.1) rfl dX1_init_1 (Nat.le_of_ble_eq_true rfl) (Nat.le_of_ble_eq_true rfl) ?_
  refine W.eq (g2 := F0 m 4 ls []) rfl ?_
  refine lv_aload_n hx hb dX1_init_4 rfl (lv_at hl 0 rfl) ?_
  refine n_X1_X5 hx hb hown hK hW hS hz (PB + 1) (by exact hfree 1 (by omega) (by omega)) (by decide) (by decide) dX1_init_5 (fun qa1 H hW hS => ?_)
  obtain ⟨ada1, eada1⟩ : ∃ x9, x9 = va_up ad (PB + 1) qa1 := ⟨_, rfl⟩
  obtain ⟨Va1, eVa1⟩ : ∃ x9, x9 = va_up V (PB + 1) (some (.inr (5, [.null, .int (0)]))) := ⟨_, rfl⟩
  rw [← eada1, ← eVa1] at hW
  have hva1 : ∀ L, ¬ L = (PB + 1) → Va1 L = V L := fun L h => by rw [eVa1, va_up_ne _ _ h]
  have haa1 : ∀ L, ¬ L = (PB + 1) → ada1 L = ad L := fun L h => by rw [eada1, va_up_ne _ _ h]
  have eqa1 : qa1 = ada1 (PB + 1) := by rw [eada1, va_up_self]
  have hN1 : Va1 (PB + 1) = some (.inr (5, [.null, .int (0)])) := by rw [eVa1, va_up_self]
  have hl : lv_has ls 2 [(0, .ref (ada1 PB)), (1, .ref (ada1 (1)))] := by rw [haa1 (PB) (by omega), haa1 (1) (by omega)]; exact hl
  refine W.eq (g2 := F0 m 8 ls [.ref (ada1 (PB + 1)), .ref (ada1 PB)]) (by rw [eqa1, haa1 (PB) (by omega)]) ?_
  have hV : Va1 (PB) = some (.inr (1, [.null, .null, .null, .null, .null, .null, .int (0), .int (0), .int (0), .int (0), .int (0)])) := by rw [hva1 (PB) (by omega)]; exact hV
  refine lv_dup hx hb dX1_init_8 rfl ?_
  refine cv (va_runIN (As := []) (rest := [.ref (ada1 (PB + 1)), .ref (ada1 PB)]) ⟨hx, hb, hml, hown, hK.1.use _⟩ (c_X5_init l D cy z0 ada1 Va1 (PB + 1) hN1 (fun j h1 h2 => by rw [show PB + 1 + j = PB + (1 + j) from by omega]; rw [hva1 (PB + (1 + j)) (by omega)]; exact hfree (1 + j) (by omega) (by omega))) (k_X1_X5_init hK.1 rfl rfl ⟨Nat.le_of_ble_eq_true rfl, Nat.le_of_ble_eq_true rfl⟩) (preS hK (Nat.le_trans hz hS.1) hW) rfl rfl hl.1 rfl (lv_room (Nat.le_of_ble_eq_true rfl)) dX1_init_9 ⟨Nat.le_of_ble_eq_true rfl, Nat.le_of_ble_eq_true rfl⟩) hS (fun ad9 Vc9 H locs h9 hW hS => ?_)
  obtain ⟨hT1, hb9, hf9⟩ := h9
  have hv9 : ∀ L, (L < PB + 1 ∨ PB + 1 + 6 ≤ L) → Vc9 L = Va1 L := fun L h => (hf9 L h).1
  have ha9 : ∀ L, (L ≤ PB + 1 ∨ PB + 1 + 6 ≤ L) → ad9 L = ada1 L := fun L h => by
    by_cases e : L = PB + 1
    · rw [e]; exact hb9
    · exact (hf9 L (by omega)).2
  have hT1 : isT ad9 Vc9 cy (PB + 1) 0 (fun _ _ => 0) := hT1
  have hl : lv_has ls 2 [(0, .ref (ad9 PB)), (1, .ref (ad9 (1)))] := by rw [ha9 (PB) (by omega), ha9 (1) (by omega)]; exact hl
  refine W.eq (g2 := F0 m 12 ls [.ref (ad9 (PB + 1)), .ref (ad9 PB)]) (by rw [ha9 (PB + 1) (by omega), ha9 (PB) (by omega)]) ?_
  have hV : Vc9 (PB) = some (.inr (1, [.null, .null, .null, .null, .null, .null, .int (0), .int (0), .int (0), .int (0), .int (0)])) := by rw [hv9 (PB) (by omega)]; exact hV
  refine p_X1_X1_now hx hb hown hnm hK hW hS hV dX1_init_12 (fun H locs hW hS => ?_)
  obtain ⟨V1, eV1⟩ : ∃ x9, x9 = va_up Vc9 (PB) (some (.inr (1, [.null, .ref (ad9 (PB + 1)), .null, .null, .null, .null, .int (0), .int (0), .int (0), .int (0), .int (0)]))) := ⟨_, rfl⟩
  rw [← eV1] at hW
  have hV : V1 (PB) = some (.inr (1, [.null, .ref (ad9 (PB + 1)), .null, .null, .null, .null, .int (0), .int (0), .int (0), .int (0), .int (0)])) := by rw [eV1, va_up_self]
  have hT1 := hT1.mv (X := V1) (fun L h1 h2 => by rw [eV1, va_up_ne _ _ (by omega)])
  refine lv_aload_n hx hb dX1_init_15 rfl (lv_at hl 0 rfl) ?_
  refine n_X1_X5 hx hb hown hK hW hS hz (PB + 7) (by rw [eV1, va_up_ne _ _ (by omega), hv9 (PB + 7) (by omega), hva1 (PB + 7) (by omega)]; exact hfree 7 (by omega) (by omega)) (by decide) (by decide) dX1_init_16 (fun qa2 H hW hS => ?_)
  obtain ⟨ada2, eada2⟩ : ∃ x9, x9 = va_up ad9 (PB + 7) qa2 := ⟨_, rfl⟩
  obtain ⟨Va2, eVa2⟩ : ∃ x9, x9 = va_up V1 (PB + 7) (some (.inr (5, [.null, .int (0)]))) := ⟨_, rfl⟩
  rw [← eada2, ← eVa2] at hW
  have hva2 : ∀ L, ¬ L = (PB + 7) → Va2 L = V1 L := fun L h => by rw [eVa2, va_up_ne _ _ h]
  have haa2 : ∀ L, ¬ L = (PB + 7) → ada2 L = ad9 L := fun L h => by rw [eada2, va_up_ne _ _ h]
  have eqa2 : qa2 = ada2 (PB + 7) := by rw [eada2, va_up_self]
  have hN7 : Va2 (PB + 7) = some (.inr (5, [.null, .int (0)])) := by rw [eVa2, va_up_self]
  have hl : lv_has ls 2 [(0, .ref (ada2 PB)), (1, .ref (ada2 (1)))] := by rw [haa2 (PB) (by omega), haa2 (1) (by omega)]; exact hl
  refine W.eq (g2 := F0 m 19 ls [.ref (ada2 (PB + 7)), .ref (ada2 PB)]) (by rw [eqa2, haa2 (PB) (by omega)]) ?_
  have hV : Va2 (PB) = some (.inr (1, [.null, .ref (ada2 (PB + 1)), .null, .null, .null, .null, .int (0), .int (0), .int (0), .int (0), .int (0)])) := by rw [hva2 (PB) (by omega), haa2 (PB + 1) (by omega)]; exact hV
  have hT1 := hT1.mv2 (fun L h1 h2 => ⟨hva2 L (by omega), haa2 L (by omega)⟩)
  refine lv_dup hx hb dX1_init_19 rfl ?_
  refine cv (va_runIN (As := []) (rest := [.ref (ada2 (PB + 7)), .ref (ada2 PB)]) ⟨hx, hb, hml, hown, hK.1.use _⟩ (c_X5_init l D cy z0 ada2 Va2 (PB + 7) hN7 (fun j h1 h2 => by rw [show PB + 7 + j = PB + (7 + j) from by omega]; rw [hva2 (PB + (7 + j)) (by omega), eV1, va_up_ne _ _ (by omega), hv9 (PB + (7 + j)) (by omega), hva1 (PB + (7 + j)) (by omega)]; exact hfree (7 + j) (by omega) (by omega))) (k_X1_X5_init hK.1 rfl rfl ⟨Nat.le_of_ble_eq_true rfl, Nat.le_of_ble_eq_true rfl⟩) (preS hK (Nat.le_trans hz hS.1) hW) rfl rfl hl.1 rfl (lv_room (Nat.le_of_ble_eq_true rfl)) dX1_init_20 ⟨Nat.le_of_ble_eq_true rfl, Nat.le_of_ble_eq_true rfl⟩) hS (fun ad20 Vc20 H locs h20 hW hS => ?_)
  obtain ⟨hT7, hb20, hf20⟩ := h20
  have hv20 : ∀ L, (L < PB + 7 ∨ PB + 7 + 6 ≤ L) → Vc20 L = Va2 L := fun L h => (hf20 L h).1
  have ha20 : ∀ L, (L ≤ PB + 7 ∨ PB + 7 + 6 ≤ L) → ad20 L = ada2 L := fun L h => by
    by_cases e : L = PB + 7
    · rw [e]; exact hb20
    · exact (hf20 L (by omega)).2
  have hT7 : isT ad20 Vc20 cy (PB + 7) 0 (fun _ _ => 0) := hT7
  have hl : lv_has ls 2 [(0, .ref (ad20 PB)), (1, .ref (ad20 (1)))] := by rw [ha20 (PB) (by omega), ha20 (1) (by omega)]; exact hl
  refine W.eq (g2 := F0 m 23 ls [.ref (ad20 (PB + 7)), .ref (ad20 PB)]) (by rw [ha20 (PB + 7) (by omega), ha20 (PB) (by omega)]) ?_
  have hV : Vc20 (PB) = some (.inr (1, [.null, .ref (ad20 (PB + 1)), .null, .null, .null, .null, .int (0), .int (0), .int (0), .int (0), .int (0)])) := by rw [hv20 (PB) (by omega), ha20 (PB + 1) (by omega)]; exact hV
  have hT1 := hT1.mv2 (fun L h1 h2 => ⟨hv20 L (by omega), ha20 L (by omega)⟩)
  refine p_X1_X1_behind hx hb hown hnm hK hW hS hV dX1_init_23 (fun H locs hW hS => ?_)
  obtain ⟨V2, eV2⟩ : ∃ x9, x9 = va_up Vc20 (PB) (some (.inr (1, [.null, .ref (ad20 (PB + 1)), .ref (ad20 (PB + 7)), .null, .null, .null, .int (0), .int (0), .int (0), .int (0), .int (0)]))) := ⟨_, rfl⟩
  rw [← eV2] at hW
  have hV : V2 (PB) = some (.inr (1, [.null, .ref (ad20 (PB + 1)), .ref (ad20 (PB + 7)), .null, .null, .null, .int (0), .int (0), .int (0), .int (0), .int (0)])) := by rw [eV2, va_up_self]
  have hT1 := hT1.mv (X := V2) (fun L h1 h2 => by rw [eV2, va_up_ne _ _ (by omega)])
  have hT7 := hT7.mv (X := V2) (fun L h1 h2 => by rw [eV2, va_up_ne _ _ (by omega)])
  refine lv_aload_n hx hb dX1_init_26 rfl (lv_at hl 0 rfl) ?_
  refine lv_bipush (v := nI 12) hx hb dX1_init_27 (by decide) ?_
  refine w_newJ hx hb hK hW hS hz (N := 12) (PB + 13) (by rw [eV2, va_up_ne _ _ (by omega), hv20 (PB + 13) (by omega), hva2 (PB + 13) (by omega), eV1, va_up_ne _ _ (by omega), hv9 (PB + 13) (by omega), hva1 (PB + 13) (by omega)]; exact hfree 13 (by omega) (by omega)) (by decide) (by decide) (by decide) dX1_init_29 (fun qa3 H hW hS => ?_)
  obtain ⟨ada3, eada3⟩ : ∃ x9, x9 = va_up ad20 (PB + 13) qa3 := ⟨_, rfl⟩
  obtain ⟨Va3, eVa3⟩ : ∃ x9, x9 = va_up V2 (PB + 13) (some (.inl (cy 1, 12, .inr (.inl (fun _ => 0))))) := ⟨_, rfl⟩
  rw [← eada3, ← eVa3] at hW
  have hva3 : ∀ L, ¬ L = (PB + 13) → Va3 L = V2 L := fun L h => by rw [eVa3, va_up_ne _ _ h]
  have haa3 : ∀ L, ¬ L = (PB + 13) → ada3 L = ad20 L := fun L h => by rw [eada3, va_up_ne _ _ h]
  have eqa3 : qa3 = ada3 (PB + 13) := by rw [eada3, va_up_self]
  have hC3 : Va3 (PB + 13) = some (.inl (cy 1, 12, .inr (.inl (fun _ => 0)))) := by rw [eVa3, va_up_self]
  have hl : lv_has ls 2 [(0, .ref (ada3 PB)), (1, .ref (ada3 (1)))] := by rw [haa3 (PB) (by omega), haa3 (1) (by omega)]; exact hl
  refine W.eq (g2 := F0 m 31 ls [.ref (ada3 (PB + 13)), .ref (ada3 PB)]) (by rw [eqa3, haa3 (PB) (by omega)]) ?_
  have hV : Va3 (PB) = some (.inr (1, [.null, .ref (ada3 (PB + 1)), .ref (ada3 (PB + 7)), .null, .null, .null, .int (0), .int (0), .int (0), .int (0), .int (0)])) := by rw [hva3 (PB) (by omega), haa3 (PB + 1) (by omega), haa3 (PB + 7) (by omega)]; exact hV
  have hT1 := hT1.mv2 (fun L h1 h2 => ⟨hva3 L (by omega), haa3 L (by omega)⟩)
  have hT7 := hT7.mv2 (fun L h1 h2 => ⟨hva3 L (by omega), haa3 L (by omega)⟩)
  refine p_X1_X1_keptAt hx hb hown hnm hK hW hS hV dX1_init_31 (fun H locs hW hS => ?_)
  obtain ⟨V3, eV3⟩ : ∃ x9, x9 = va_up Va3 (PB) (some (.inr (1, [.null, .ref (ada3 (PB + 1)), .ref (ada3 (PB + 7)), .ref (ada3 (PB + 13)), .null, .null, .int (0), .int (0), .int (0), .int (0), .int (0)]))) := ⟨_, rfl⟩
  rw [← eV3] at hW
  have hC3 : V3 (PB + 13) = some (.inl (cy 1, 12, .inr (.inl (fun _ => 0)))) := by rw [eV3, va_up_ne _ _ (by omega)]; exact hC3
  have hV : V3 (PB) = some (.inr (1, [.null, .ref (ada3 (PB + 1)), .ref (ada3 (PB + 7)), .ref (ada3 (PB + 13)), .null, .null, .int (0), .int (0), .int (0), .int (0), .int (0)])) := by rw [eV3, va_up_self]
  have hT1 := hT1.mv (X := V3) (fun L h1 h2 => by rw [eV3, va_up_ne _ _ (by omega)])
  have hT7 := hT7.mv (X := V3) (fun L h1 h2 => by rw [eV3, va_up_ne _ _ (by omega)])
  refine lv_aload_n hx hb dX1_init_34 rfl (lv_at hl 0 rfl) ?_
  refine lv_bipush (v := nI 12) hx hb dX1_init_35 (by decide) ?_
  refine w_newZ hx hb hK hW hS hz (N := 12) (PB + 14) (by rw [eV3, va_up_ne _ _ (by omega), hva3 (PB + 14) (by omega), eV2, va_up_ne _ _ (by omega), hv20 (PB + 14) (by omega), hva2 (PB + 14) (by omega), eV1, va_up_ne _ _ (by omega), hv9 (PB + 14) (by omega), hva1 (PB + 14) (by omega)]; exact hfree 14 (by omega) (by omega)) (by decide) (by decide) (by decide) dX1_init_37 (fun qa4 H hW hS => ?_)
  obtain ⟨ada4, eada4⟩ : ∃ x9, x9 = va_up ada3 (PB + 14) qa4 := ⟨_, rfl⟩
  obtain ⟨Va4, eVa4⟩ : ∃ x9, x9 = va_up V3 (PB + 14) (some (.inl (cy 2, 12, .inl (fun _ => 0)))) := ⟨_, rfl⟩
  rw [← eada4, ← eVa4] at hW
  have hva4 : ∀ L, ¬ L = (PB + 14) → Va4 L = V3 L := fun L h => by rw [eVa4, va_up_ne _ _ h]
  have haa4 : ∀ L, ¬ L = (PB + 14) → ada4 L = ada3 L := fun L h => by rw [eada4, va_up_ne _ _ h]
  have eqa4 : qa4 = ada4 (PB + 14) := by rw [eada4, va_up_self]
  have hC4 : Va4 (PB + 14) = some (.inl (cy 2, 12, .inl (fun _ => 0))) := by rw [eVa4, va_up_self]
  have hl : lv_has ls 2 [(0, .ref (ada4 PB)), (1, .ref (ada4 (1)))] := by rw [haa4 (PB) (by omega), haa4 (1) (by omega)]; exact hl
  refine W.eq (g2 := F0 m 39 ls [.ref (ada4 (PB + 14)), .ref (ada4 PB)]) (by rw [eqa4, haa4 (PB) (by omega)]) ?_
  have hC3 : Va4 (PB + 13) = some (.inl (cy 1, 12, .inr (.inl (fun _ => 0)))) := by rw [hva4 (PB + 13) (by omega)]; exact hC3
  have hV : Va4 (PB) = some (.inr (1, [.null, .ref (ada4 (PB + 1)), .ref (ada4 (PB + 7)), .ref (ada4 (PB + 13)), .null, .null, .int (0), .int (0), .int (0), .int (0), .int (0)])) := by rw [hva4 (PB) (by omega), haa4 (PB + 1) (by omega), haa4 (PB + 7) (by omega), haa4 (PB + 13) (by omega)]; exact hV
  have hT1 := hT1.mv2 (fun L h1 h2 => ⟨hva4 L (by omega), haa4 L (by omega)⟩)
  have hT7 := hT7.mv2 (fun L h1 h2 => ⟨hva4 L (by omega), haa4 L (by omega)⟩)
  refine p_X1_X1_forgets hx hb hown hnm hK hW hS hV dX1_init_39 (fun H locs hW hS => ?_)
  obtain ⟨V4, eV4⟩ : ∃ x9, x9 = va_up Va4 (PB) (some (.inr (1, [.null, .ref (ada4 (PB + 1)), .ref (ada4 (PB + 7)), .ref (ada4 (PB + 13)), .ref (ada4 (PB + 14)), .null, .int (0), .int (0), .int (0), .int (0), .int (0)]))) := ⟨_, rfl⟩
  rw [← eV4] at hW
  have hC3 : V4 (PB + 13) = some (.inl (cy 1, 12, .inr (.inl (fun _ => 0)))) := by rw [eV4, va_up_ne _ _ (by omega)]; exact hC3
  have hC4 : V4 (PB + 14) = some (.inl (cy 2, 12, .inl (fun _ => 0))) := by rw [eV4, va_up_ne _ _ (by omega)]; exact hC4
  have hV : V4 (PB) = some (.inr (1, [.null, .ref (ada4 (PB + 1)), .ref (ada4 (PB + 7)), .ref (ada4 (PB + 13)), .ref (ada4 (PB + 14)), .null, .int (0), .int (0), .int (0), .int (0), .int (0)])) := by rw [eV4, va_up_self]
  have hT1 := hT1.mv (X := V4) (fun L h1 h2 => by rw [eV4, va_up_ne _ _ (by omega)])
  have hT7 := hT7.mv (X := V4) (fun L h1 h2 => by rw [eV4, va_up_ne _ _ (by omega)])
  refine lv_aload_n hx hb dX1_init_42 rfl (lv_at hl 0 rfl) ?_
  refine n_X1_X0 hx hb hown hK hW hS hz (PB + 15) (by rw [eV4, va_up_ne _ _ (by omega), hva4 (PB + 15) (by omega), eV3, va_up_ne _ _ (by omega), hva3 (PB + 15) (by omega), eV2, va_up_ne _ _ (by omega), hv20 (PB + 15) (by omega), hva2 (PB + 15) (by omega), eV1, va_up_ne _ _ (by omega), hv9 (PB + 15) (by omega), hva1 (PB + 15) (by omega)]; exact hfree 15 (by omega) (by omega)) (by decide) (by decide) dX1_init_43 (fun qa5 H hW hS => ?_)
  obtain ⟨ada5, eada5⟩ : ∃ x9, x9 = va_up ada4 (PB + 15) qa5 := ⟨_, rfl⟩
  obtain ⟨Va5, eVa5⟩ : ∃ x9, x9 = va_up V4 (PB + 15) (some (.inr (0, [.null, .null, .null, .null, .int (0), .int (0)]))) := ⟨_, rfl⟩
  rw [← eada5, ← eVa5] at hW
  have hva5 : ∀ L, ¬ L = (PB + 15) → Va5 L = V4 L := fun L h => by rw [eVa5, va_up_ne _ _ h]
  have haa5 : ∀ L, ¬ L = (PB + 15) → ada5 L = ada4 L := fun L h => by rw [eada5, va_up_ne _ _ h]
  have eqa5 : qa5 = ada5 (PB + 15) := by rw [eada5, va_up_self]
  have hN15 : Va5 (PB + 15) = some (.inr (0, [.null, .null, .null, .null, .int (0), .int (0)])) := by rw [eVa5, va_up_self]
  have hl : lv_has ls 2 [(0, .ref (ada5 PB)), (1, .ref (ada5 (1)))] := by rw [haa5 (PB) (by omega), haa5 (1) (by omega)]; exact hl
  refine W.eq (g2 := F0 m 46 ls [.ref (ada5 (PB + 15)), .ref (ada5 PB)]) (by rw [eqa5, haa5 (PB) (by omega)]) ?_
  have hC3 : Va5 (PB + 13) = some (.inl (cy 1, 12, .inr (.inl (fun _ => 0)))) := by rw [hva5 (PB + 13) (by omega)]; exact hC3
  have hC4 : Va5 (PB + 14) = some (.inl (cy 2, 12, .inl (fun _ => 0))) := by rw [hva5 (PB + 14) (by omega)]; exact hC4
  have hV : Va5 (PB) = some (.inr (1, [.null, .ref (ada5 (PB + 1)), .ref (ada5 (PB + 7)), .ref (ada5 (PB + 13)), .ref (ada5 (PB + 14)), .null, .int (0), .int (0), .int (0), .int (0), .int (0)])) := by rw [hva5 (PB) (by omega), haa5 (PB + 1) (by omega), haa5 (PB + 7) (by omega), haa5 (PB + 13) (by omega), haa5 (PB + 14) (by omega)]; exact hV
  have hT1 := hT1.mv2 (fun L h1 h2 => ⟨hva5 L (by omega), haa5 L (by omega)⟩)
  have hT7 := hT7.mv2 (fun L h1 h2 => ⟨hva5 L (by omega), haa5 L (by omega)⟩)
  refine lv_dup hx hb dX1_init_46 rfl ?_
  refine cv (va_runIN (As := []) (rest := [.ref (ada5 (PB + 15)), .ref (ada5 PB)]) ⟨hx, hb, hml, hown, hK.1.use _⟩ (c_X0_init l D cy z0 ada5 Va5 PB hN15 (fun j h1 h2 => by rw [hva5 (PB + j) (by omega), eV4, va_up_ne _ _ (by omega), hva4 (PB + j) (by omega), eV3, va_up_ne _ _ (by omega), hva3 (PB + j) (by omega), eV2, va_up_ne _ _ (by omega), hv20 (PB + j) (by omega), hva2 (PB + j) (by omega), eV1, va_up_ne _ _ (by omega), hv9 (PB + j) (by omega), hva1 (PB + j) (by omega)]; exact hfree j (by omega) (by omega))) (k_X1_X0_init hK.1 rfl rfl ⟨Nat.le_of_ble_eq_true rfl, Nat.le_of_ble_eq_true rfl⟩) (preS hK (Nat.le_trans hz hS.1) hW) rfl rfl hl.1 rfl (lv_room (Nat.le_of_ble_eq_true rfl)) dX1_init_47 ⟨Nat.le_of_ble_eq_true rfl, Nat.le_of_ble_eq_true rfl⟩) hS (fun ad47 Vc47 H locs h47 hW hS => ?_)
  obtain ⟨hHn, hb47, hf47⟩ := h47
  have hv47 : ∀ L, (L < PB + 15 ∨ PB + 80 ≤ L) → Vc47 L = Va5 L := fun L h => (hf47 L h).1
  have ha47 : ∀ L, (L ≤ PB + 15 ∨ PB + 80 ≤ L) → ad47 L = ada5 L := fun L h => by
    by_cases e : L = PB + 15
    · rw [e]; exact hb47
    · exact (hf47 L (by omega)).2
  have hHn : isH ad47 Vc47 cy PB (fun _ => 0) (fun _ => 0) (fun _ => 0) (fun _ _ => 0) 0 0 := hHn
  have hl : lv_has ls 2 [(0, .ref (ad47 PB)), (1, .ref (ad47 (1)))] := by rw [ha47 (PB) (by omega), ha47 (1) (by omega)]; exact hl
  refine W.eq (g2 := F0 m 50 ls [.ref (ad47 (PB + 15)), .ref (ad47 PB)]) (by rw [ha47 (PB + 15) (by omega), ha47 (PB) (by omega)]) ?_
  have hC3 : Vc47 (PB + 13) = some (.inl (cy 1, 12, .inr (.inl (fun _ => 0)))) := by rw [hv47 (PB + 13) (by omega)]; exact hC3
  have hC4 : Vc47 (PB + 14) = some (.inl (cy 2, 12, .inl (fun _ => 0))) := by rw [hv47 (PB + 14) (by omega)]; exact hC4
  have hV : Vc47 (PB) = some (.inr (1, [.null, .ref (ad47 (PB + 1)), .ref (ad47 (PB + 7)), .ref (ad47 (PB + 13)), .ref (ad47 (PB + 14)), .null, .int (0), .int (0), .int (0), .int (0), .int (0)])) := by rw [hv47 (PB) (by omega), ha47 (PB + 1) (by omega), ha47 (PB + 7) (by omega), ha47 (PB + 13) (by omega), ha47 (PB + 14) (by omega)]; exact hV
  have hT1 := hT1.mv2 (fun L h1 h2 => ⟨hv47 L (by omega), ha47 L (by omega)⟩)
  have hT7 := hT7.mv2 (fun L h1 h2 => ⟨hv47 L (by omega), ha47 L (by omega)⟩)
  refine p_X1_X1_history hx hb hown hnm hK hW hS hV dX1_init_50 (fun H locs hW hS => ?_)
  obtain ⟨V5, eV5⟩ : ∃ x9, x9 = va_up Vc47 (PB) (some (.inr (1, [.null, .ref (ad47 (PB + 1)), .ref (ad47 (PB + 7)), .ref (ad47 (PB + 13)), .ref (ad47 (PB + 14)), .ref (ad47 (PB + 15)), .int (0), .int (0), .int (0), .int (0), .int (0)]))) := ⟨_, rfl⟩
  rw [← eV5] at hW
  have hC3 : V5 (PB + 13) = some (.inl (cy 1, 12, .inr (.inl (fun _ => 0)))) := by rw [eV5, va_up_ne _ _ (by omega)]; exact hC3
  have hC4 : V5 (PB + 14) = some (.inl (cy 2, 12, .inl (fun _ => 0))) := by rw [eV5, va_up_ne _ _ (by omega)]; exact hC4
  have hV : V5 (PB) = some (.inr (1, [.null, .ref (ad47 (PB + 1)), .ref (ad47 (PB + 7)), .ref (ad47 (PB + 13)), .ref (ad47 (PB + 14)), .ref (ad47 (PB + 15)), .int (0), .int (0), .int (0), .int (0), .int (0)])) := by rw [eV5, va_up_self]
  have hT1 := hT1.mv (X := V5) (fun L h1 h2 => by rw [eV5, va_up_ne _ _ (by omega)])
  have hT7 := hT7.mv (X := V5) (fun L h1 h2 => by rw [eV5, va_up_ne _ _ (by omega)])
  have hHn := hHn.mv (X := V5) (fun L h1 h2 => by rw [eV5, va_up_ne _ _ (by omega)])
  refine lv_aload_n hx hb dX1_init_53 rfl (lv_at hl 0 rfl) ?_
  refine lv_iconst (v := -1) hx hb dX1_init_54 (by decide) ?_
  refine p_X1_X1_foundFalse hx hb hown hK hW hS hV dX1_init_55 (fun H locs hW hS => ?_)
  obtain ⟨V6, eV6⟩ : ∃ x9, x9 = va_up V5 (PB) (some (.inr (1, [.null, .ref (ad47 (PB + 1)), .ref (ad47 (PB + 7)), .ref (ad47 (PB + 13)), .ref (ad47 (PB + 14)), .ref (ad47 (PB + 15)), .int (0), .int (0), .int (-1), .int (0), .int (0)]))) := ⟨_, rfl⟩
  rw [← eV6] at hW
  have hC3 : V6 (PB + 13) = some (.inl (cy 1, 12, .inr (.inl (fun _ => 0)))) := by rw [eV6, va_up_ne _ _ (by omega)]; exact hC3
  have hC4 : V6 (PB + 14) = some (.inl (cy 2, 12, .inl (fun _ => 0))) := by rw [eV6, va_up_ne _ _ (by omega)]; exact hC4
  have hV : V6 (PB) = some (.inr (1, [.null, .ref (ad47 (PB + 1)), .ref (ad47 (PB + 7)), .ref (ad47 (PB + 13)), .ref (ad47 (PB + 14)), .ref (ad47 (PB + 15)), .int (0), .int (0), .int (-1), .int (0), .int (0)])) := by rw [eV6, va_up_self]
  have hT1 := hT1.mv (X := V6) (fun L h1 h2 => by rw [eV6, va_up_ne _ _ (by omega)])
  have hT7 := hT7.mv (X := V6) (fun L h1 h2 => by rw [eV6, va_up_ne _ _ (by omega)])
  have hHn := hHn.mv (X := V6) (fun L h1 h2 => by rw [eV6, va_up_ne _ _ (by omega)])
  refine lv_aload_n hx hb dX1_init_58 rfl (lv_at hl 0 rfl) ?_
  refine lv_aload_n hx hb dX1_init_59 rfl (lv_at hl 1 rfl) ?_
  refine p_X1_X1_book hx hb hown hnm hK hW hS hV dX1_init_60 (fun H locs hW hS => ?_)
  obtain ⟨V7, eV7⟩ : ∃ x9, x9 = va_up V6 (PB) (some (.inr (1, [.ref (ad47 (1)), .ref (ad47 (PB + 1)), .ref (ad47 (PB + 7)), .ref (ad47 (PB + 13)), .ref (ad47 (PB + 14)), .ref (ad47 (PB + 15)), .int (0), .int (0), .int (-1), .int (0), .int (0)]))) := ⟨_, rfl⟩
  rw [← eV7] at hW
  have hC3 : V7 (PB + 13) = some (.inl (cy 1, 12, .inr (.inl (fun _ => 0)))) := by rw [eV7, va_up_ne _ _ (by omega)]; exact hC3
  have hC4 : V7 (PB + 14) = some (.inl (cy 2, 12, .inl (fun _ => 0))) := by rw [eV7, va_up_ne _ _ (by omega)]; exact hC4
  have hV : V7 (PB) = some (.inr (1, [.ref (ad47 (1)), .ref (ad47 (PB + 1)), .ref (ad47 (PB + 7)), .ref (ad47 (PB + 13)), .ref (ad47 (PB + 14)), .ref (ad47 (PB + 15)), .int (0), .int (0), .int (-1), .int (0), .int (0)])) := by rw [eV7, va_up_self]
  have hT1 := hT1.mv (X := V7) (fun L h1 h2 => by rw [eV7, va_up_ne _ _ (by omega)])
  have hT7 := hT7.mv (X := V7) (fun L h1 h2 => by rw [eV7, va_up_ne _ _ (by omega)])
  have hHn := hHn.mv (X := V7) (fun L h1 h2 => by rw [eV7, va_up_ne _ _ (by omega)])
  refine W.widen (k := 79) (n := 1322) (by omega) (by omega) ?_
  exact rwv hx hb hr hlocks dX1_init_63 hW hS (⟨⟨hV, hT1, hT7, hC3, hC4⟩, hHn, fun L hL => by show V7 L = _; rw [eV7, va_up_ne _ _ (by omega), eV6, va_up_ne _ _ (by omega), eV5, va_up_ne _ _ (by omega), hv47 (L) (by omega), hva5 (L) (by omega), eV4, va_up_ne _ _ (by omega), hva4 (L) (by omega), eV3, va_up_ne _ _ (by omega), hva3 (L) (by omega), eV2, va_up_ne _ _ (by omega), hv20 (L) (by omega), hva2 (L) (by omega), eV1, va_up_ne _ _ (by omega), hv9 (L) (by omega), hva1 (L) (by omega)], fun L hL => by show ad47 L = _; rw [ha47 (L) (by omega), haa5 (L) (by omega), haa4 (L) (by omega), haa3 (L) (by omega), ha20 (L) (by omega), haa2 (L) (by omega), ha9 (L) (by omega), haa1 (L) (by omega)]⟩)
