def fnA (i : Nat) : Nat → Int32 := fun j => if j < i then -1 else 0
theorem fnA_0 : fnA 0 = fun _ => 0 := by funext j; simp [fnA]
theorem fnA_s (i : Nat) : upd (fnA i) i (-1) = fnA (i + 1) := by
  funext j
  by_cases h : j = i
  · subst h; simp [fnA, upd]
  · have : j < i + 1 ↔ j < i := by omega
    simp [fnA, upd, h, this]

set_option maxHeartbeats 4000000 in
set_option maxRecDepth 100000 in
theorem c_X7_init (l : Launch) (D : va_G) (cy : Nat → ClassId) (z0 : Nat) (ad : Nat → Nat) (V : Nat → Option va_E) (ρ : RuT) (sn : Nat → SnT) (hV : V 2000 = some (.inr (7, [.int (0), .int (0), .null, .null, .null, .null, .null, .int (0), .null, .null, .null, .null, .null, .null, .null, .null, .null, .null, .null, .null, .null, .int (0), .int (0), .null, .null, .null, .null, .null]))) (hfree : ∀ L, 2000 < L → L < 2100 → V L = none) : Met l yX7_init [Cond.code yX7_init cX7_init 2 none] { frames := 1, cells := 23, slots := 7872, locals := 12 } (WP [.ref (ad (2000))] D cy z0 ad V) (va_Qv (fun u => isM u.1 u.2 cy 0 0 1 0 0 ρ (fun _ => pl0) sn ∧ (∀ L, L < 2000 → u.2 L = V L ∧ u.1 L = ad L) ∧ u.1 2000 = ad 2000) (WB D z0) (AA z0)) 23 7872 (AA z0) := by
  refine met_of (by decide) (Nat.le_of_ble_eq_true rfl) (fun p e s m below meth c hx hb hr hml hown hlocks hnm hK hz hW ls hl => ?_)
  have hown : s.vm.findClass RX7 = some m.cls := hown
  have hl : lv_has ls 2 [(0, .ref (ad (2000)))] := hl
  have hS : va_S (AA z0) s.heap s.heap [] := va_S.rf
  have h2000 := hV
  refine lv_aload_n hx hb dX7_init_0 rfl (lv_at hl 0 rfl) ?_
  refine W.objInit hx hb hown (hK.1.use _ _ tw_488) (hK.1.use _ _ tw_17) (hK.1.use _ _ tw_oc) rfl (by rw [hml]; exact hl.1) rfl dX7_init_1 (Nat.le_of_ble_eq_true rfl) (Nat.le_of_ble_eq_true rfl) ?_
  refine W.eq (g2 := F0 m 4 ls []) rfl ?_
  refine lv_aload_n hx hb dX7_init_4 rfl (lv_at hl 0 rfl) ?_
  refine lv_bipush (v := nI 12) hx hb dX7_init_5 (by decide) ?_
  refine w_newI hx hb hK hW hS hz (N := 12) (2002) (by exact hfree _ (by omega) (by omega)) (by decide) (by decide) (by decide) dX7_init_7 (fun qa1 H hW hS => ?_)
  obtain ⟨ada1, eada1⟩ : ∃ x9, x9 = va_up ad (2002) qa1 := ⟨_, rfl⟩
  obtain ⟨Va1, eVa1⟩ : ∃ x9, x9 = va_up V (2002) (some (.inl (cy 0, 12, .inl (fun _ => 0)))) := ⟨_, rfl⟩
  rw [← eada1, ← eVa1] at hW
  have hva1 : ∀ L, ¬ L = (2002) → Va1 L = V L := fun L h => by rw [eVa1, va_up_ne _ _ h]
  have haa1 : ∀ L, ¬ L = (2002) → ada1 L = ad L := fun L h => by rw [eada1, va_up_ne _ _ h]
  have eqa1 : qa1 = ada1 (2002) := by rw [eada1, va_up_self]
  have h2002 : Va1 (2002) = some (.inl (cy 0, 12, .inl (fun _ => 0))) := by rw [eVa1, va_up_self]
  have hl : lv_has ls 2 [(0, .ref (ada1 (2000)))] := by rw [haa1 (2000) (by omega)]; exact hl
  refine W.eq (g2 := F0 m 9 ls [.ref (ada1 (2002)), .ref (ada1 (2000))]) (by rw [eqa1, haa1 (2000) (by omega)]) ?_
  have h2000 : Va1 (2000) = some (.inr (7, [.int (0), .int (0), .null, .null, .null, .null, .null, .int (0), .null, .null, .null, .null, .null, .null, .null, .null, .null, .null, .null, .null, .null, .int (0), .int (0), .null, .null, .null, .null, .null])) := by rw [hva1 (2000) (by omega)]; exact h2000
  refine p_X7_X7_kind hx hb hown hnm hK hW hS h2000 dX7_init_9 (fun H locs hW hS => ?_)
  obtain ⟨V1, eV1⟩ : ∃ x9, x9 = va_up Va1 (2000) (some (.inr (7, [.int (0), .int (0), .ref (ada1 (2002)), .null, .null, .null, .null, .int (0), .null, .null, .null, .null, .null, .null, .null, .null, .null, .null, .null, .null, .null, .int (0), .int (0), .null, .null, .null, .null, .null]))) := ⟨_, rfl⟩
  rw [← eV1] at hW
  have h2002 : V1 (2002) = some (.inl (cy 0, 12, .inl (fun _ => 0))) := by rw [eV1, va_up_ne _ _ (by omega)]; exact h2002
  have h2000 : V1 (2000) = some (.inr (7, [.int (0), .int (0), .ref (ada1 (2002)), .null, .null, .null, .null, .int (0), .null, .null, .null, .null, .null, .null, .null, .null, .null, .null, .null, .null, .null, .int (0), .int (0), .null, .null, .null, .null, .null])) := by rw [eV1, va_up_self]
  refine lv_aload_n hx hb dX7_init_12 rfl (lv_at hl 0 rfl) ?_
  refine lv_bipush (v := nI 12) hx hb dX7_init_13 (by decide) ?_
  refine w_newI hx hb hK hW hS hz (N := 12) (2003) (by rw [eV1, va_up_ne _ _ (by omega), hva1 (2003) (by omega)]; exact hfree _ (by omega) (by omega)) (by decide) (by decide) (by decide) dX7_init_15 (fun qa2 H hW hS => ?_)
  obtain ⟨ada2, eada2⟩ : ∃ x9, x9 = va_up ada1 (2003) qa2 := ⟨_, rfl⟩
  obtain ⟨Va2, eVa2⟩ : ∃ x9, x9 = va_up V1 (2003) (some (.inl (cy 0, 12, .inl (fun _ => 0)))) := ⟨_, rfl⟩
  rw [← eada2, ← eVa2] at hW
  have hva2 : ∀ L, ¬ L = (2003) → Va2 L = V1 L := fun L h => by rw [eVa2, va_up_ne _ _ h]
  have haa2 : ∀ L, ¬ L = (2003) → ada2 L = ada1 L := fun L h => by rw [eada2, va_up_ne _ _ h]
  have eqa2 : qa2 = ada2 (2003) := by rw [eada2, va_up_self]
  have h2003 : Va2 (2003) = some (.inl (cy 0, 12, .inl (fun _ => 0))) := by rw [eVa2, va_up_self]
  have hl : lv_has ls 2 [(0, .ref (ada2 (2000)))] := by rw [haa2 (2000) (by omega)]; exact hl
  refine W.eq (g2 := F0 m 17 ls [.ref (ada2 (2003)), .ref (ada2 (2000))]) (by rw [eqa2, haa2 (2000) (by omega)]) ?_
  have h2002 : Va2 (2002) = some (.inl (cy 0, 12, .inl (fun _ => 0))) := by rw [hva2 (2002) (by omega)]; exact h2002
  have h2000 : Va2 (2000) = some (.inr (7, [.int (0), .int (0), .ref (ada2 (2002)), .null, .null, .null, .null, .int (0), .null, .null, .null, .null, .null, .null, .null, .null, .null, .null, .null, .null, .null, .int (0), .int (0), .null, .null, .null, .null, .null])) := by rw [hva2 (2000) (by omega), haa2 (2002) (by omega)]; exact h2000
  refine p_X7_X7_looks hx hb hown hnm hK hW hS h2000 dX7_init_17 (fun H locs hW hS => ?_)
  obtain ⟨V2, eV2⟩ : ∃ x9, x9 = va_up Va2 (2000) (some (.inr (7, [.int (0), .int (0), .ref (ada2 (2002)), .ref (ada2 (2003)), .null, .null, .null, .int (0), .null, .null, .null, .null, .null, .null, .null, .null, .null, .null, .null, .null, .null, .int (0), .int (0), .null, .null, .null, .null, .null]))) := ⟨_, rfl⟩
  rw [← eV2] at hW
  have h2002 : V2 (2002) = some (.inl (cy 0, 12, .inl (fun _ => 0))) := by rw [eV2, va_up_ne _ _ (by omega)]; exact h2002
  have h2003 : V2 (2003) = some (.inl (cy 0, 12, .inl (fun _ => 0))) := by rw [eV2, va_up_ne _ _ (by omega)]; exact h2003
  have h2000 : V2 (2000) = some (.inr (7, [.int (0), .int (0), .ref (ada2 (2002)), .ref (ada2 (2003)), .null, .null, .null, .int (0), .null, .null, .null, .null, .null, .null, .null, .null, .null, .null, .null, .null, .null, .int (0), .int (0), .null, .null, .null, .null, .null])) := by rw [eV2, va_up_self]
  refine lv_aload_n hx hb dX7_init_20 rfl (lv_at hl 0 rfl) ?_
  refine lv_bipush (v := nI 12) hx hb dX7_init_21 (by decide) ?_
  refine w_newI hx hb hK hW hS hz (N := 12) (2004) (by rw [eV2, va_up_ne _ _ (by omega), hva2 (2004) (by omega), eV1, va_up_ne _ _ (by omega), hva1 (2004) (by omega)]; exact hfree _ (by omega) (by omega)) (by decide) (by decide) (by decide) dX7_init_23 (fun qa3 H hW hS => ?_)
  obtain ⟨ada3, eada3⟩ : ∃ x9, x9 = va_up ada2 (2004) qa3 := ⟨_, rfl⟩
  obtain ⟨Va3, eVa3⟩ : ∃ x9, x9 = va_up V2 (2004) (some (.inl (cy 0, 12, .inl (fun _ => 0)))) := ⟨_, rfl⟩
  rw [← eada3, ← eVa3] at hW
  have hva3 : ∀ L, ¬ L = (2004) → Va3 L = V2 L := fun L h => by rw [eVa3, va_up_ne _ _ h]
  have haa3 : ∀ L, ¬ L = (2004) → ada3 L = ada2 L := fun L h => by rw [eada3, va_up_ne _ _ h]
  have eqa3 : qa3 = ada3 (2004) := by rw [eada3, va_up_self]
  have h2004 : Va3 (2004) = some (.inl (cy 0, 12, .inl (fun _ => 0))) := by rw [eVa3, va_up_self]
  have hl : lv_has ls 2 [(0, .ref (ada3 (2000)))] := by rw [haa3 (2000) (by omega)]; exact hl
  refine W.eq (g2 := F0 m 25 ls [.ref (ada3 (2004)), .ref (ada3 (2000))]) (by rw [eqa3, haa3 (2000) (by omega)]) ?_
  have h2002 : Va3 (2002) = some (.inl (cy 0, 12, .inl (fun _ => 0))) := by rw [hva3 (2002) (by omega)]; exact h2002
  have h2003 : Va3 (2003) = some (.inl (cy 0, 12, .inl (fun _ => 0))) := by rw [hva3 (2003) (by omega)]; exact h2003
  have h2000 : Va3 (2000) = some (.inr (7, [.int (0), .int (0), .ref (ada3 (2002)), .ref (ada3 (2003)), .null, .null, .null, .int (0), .null, .null, .null, .null, .null, .null, .null, .null, .null, .null, .null, .null, .null, .int (0), .int (0), .null, .null, .null, .null, .null])) := by rw [hva3 (2000) (by omega), haa3 (2002) (by omega), haa3 (2003) (by omega)]; exact h2000
  refine p_X7_X7_bound hx hb hown hnm hK hW hS h2000 dX7_init_25 (fun H locs hW hS => ?_)
  obtain ⟨V3, eV3⟩ : ∃ x9, x9 = va_up Va3 (2000) (some (.inr (7, [.int (0), .int (0), .ref (ada3 (2002)), .ref (ada3 (2003)), .ref (ada3 (2004)), .null, .null, .int (0), .null, .null, .null, .null, .null, .null, .null, .null, .null, .null, .null, .null, .null, .int (0), .int (0), .null, .null, .null, .null, .null]))) := ⟨_, rfl⟩
  rw [← eV3] at hW
  have h2002 : V3 (2002) = some (.inl (cy 0, 12, .inl (fun _ => 0))) := by rw [eV3, va_up_ne _ _ (by omega)]; exact h2002
  have h2003 : V3 (2003) = some (.inl (cy 0, 12, .inl (fun _ => 0))) := by rw [eV3, va_up_ne _ _ (by omega)]; exact h2003
  have h2004 : V3 (2004) = some (.inl (cy 0, 12, .inl (fun _ => 0))) := by rw [eV3, va_up_ne _ _ (by omega)]; exact h2004
  have h2000 : V3 (2000) = some (.inr (7, [.int (0), .int (0), .ref (ada3 (2002)), .ref (ada3 (2003)), .ref (ada3 (2004)), .null, .null, .int (0), .null, .null, .null, .null, .null, .null, .null, .null, .null, .null, .null, .null, .null, .int (0), .int (0), .null, .null, .null, .null, .null])) := by rw [eV3, va_up_self]
  refine lv_aload_n hx hb dX7_init_28 rfl (lv_at hl 0 rfl) ?_
  refine lv_bipush (v := nI 12) hx hb dX7_init_29 (by decide) ?_
  refine w_newI hx hb hK hW hS hz (N := 12) (2005) (by rw [eV3, va_up_ne _ _ (by omega), hva3 (2005) (by omega), eV2, va_up_ne _ _ (by omega), hva2 (2005) (by omega), eV1, va_up_ne _ _ (by omega), hva1 (2005) (by omega)]; exact hfree _ (by omega) (by omega)) (by decide) (by decide) (by decide) dX7_init_31 (fun qa4 H hW hS => ?_)
  obtain ⟨ada4, eada4⟩ : ∃ x9, x9 = va_up ada3 (2005) qa4 := ⟨_, rfl⟩
  obtain ⟨Va4, eVa4⟩ : ∃ x9, x9 = va_up V3 (2005) (some (.inl (cy 0, 12, .inl (fun _ => 0)))) := ⟨_, rfl⟩
  rw [← eada4, ← eVa4] at hW
  have hva4 : ∀ L, ¬ L = (2005) → Va4 L = V3 L := fun L h => by rw [eVa4, va_up_ne _ _ h]
  have haa4 : ∀ L, ¬ L = (2005) → ada4 L = ada3 L := fun L h => by rw [eada4, va_up_ne _ _ h]
  have eqa4 : qa4 = ada4 (2005) := by rw [eada4, va_up_self]
  have h2005 : Va4 (2005) = some (.inl (cy 0, 12, .inl (fun _ => 0))) := by rw [eVa4, va_up_self]
  have hl : lv_has ls 2 [(0, .ref (ada4 (2000)))] := by rw [haa4 (2000) (by omega)]; exact hl
  refine W.eq (g2 := F0 m 33 ls [.ref (ada4 (2005)), .ref (ada4 (2000))]) (by rw [eqa4, haa4 (2000) (by omega)]) ?_
  have h2002 : Va4 (2002) = some (.inl (cy 0, 12, .inl (fun _ => 0))) := by rw [hva4 (2002) (by omega)]; exact h2002
  have h2003 : Va4 (2003) = some (.inl (cy 0, 12, .inl (fun _ => 0))) := by rw [hva4 (2003) (by omega)]; exact h2003
  have h2004 : Va4 (2004) = some (.inl (cy 0, 12, .inl (fun _ => 0))) := by rw [hva4 (2004) (by omega)]; exact h2004
  have h2000 : Va4 (2000) = some (.inr (7, [.int (0), .int (0), .ref (ada4 (2002)), .ref (ada4 (2003)), .ref (ada4 (2004)), .null, .null, .int (0), .null, .null, .null, .null, .null, .null, .null, .null, .null, .null, .null, .null, .null, .int (0), .int (0), .null, .null, .null, .null, .null])) := by rw [hva4 (2000) (by omega), haa4 (2002) (by omega), haa4 (2003) (by omega), haa4 (2004) (by omega)]; exact h2000
  refine p_X7_X7_weight hx hb hown hnm hK hW hS h2000 dX7_init_33 (fun H locs hW hS => ?_)
  obtain ⟨V4, eV4⟩ : ∃ x9, x9 = va_up Va4 (2000) (some (.inr (7, [.int (0), .int (0), .ref (ada4 (2002)), .ref (ada4 (2003)), .ref (ada4 (2004)), .ref (ada4 (2005)), .null, .int (0), .null, .null, .null, .null, .null, .null, .null, .null, .null, .null, .null, .null, .null, .int (0), .int (0), .null, .null, .null, .null, .null]))) := ⟨_, rfl⟩
  rw [← eV4] at hW
  have h2002 : V4 (2002) = some (.inl (cy 0, 12, .inl (fun _ => 0))) := by rw [eV4, va_up_ne _ _ (by omega)]; exact h2002
  have h2003 : V4 (2003) = some (.inl (cy 0, 12, .inl (fun _ => 0))) := by rw [eV4, va_up_ne _ _ (by omega)]; exact h2003
  have h2004 : V4 (2004) = some (.inl (cy 0, 12, .inl (fun _ => 0))) := by rw [eV4, va_up_ne _ _ (by omega)]; exact h2004
  have h2005 : V4 (2005) = some (.inl (cy 0, 12, .inl (fun _ => 0))) := by rw [eV4, va_up_ne _ _ (by omega)]; exact h2005
  have h2000 : V4 (2000) = some (.inr (7, [.int (0), .int (0), .ref (ada4 (2002)), .ref (ada4 (2003)), .ref (ada4 (2004)), .ref (ada4 (2005)), .null, .int (0), .null, .null, .null, .null, .null, .null, .null, .null, .null, .null, .null, .null, .null, .int (0), .int (0), .null, .null, .null, .null, .null])) := by rw [eV4, va_up_self]
  refine lv_aload_n hx hb dX7_init_36 rfl (lv_at hl 0 rfl) ?_
  refine lv_bipush (v := nI 12) hx hb dX7_init_37 (by decide) ?_
  refine w_newI hx hb hK hW hS hz (N := 12) (2006) (by rw [eV4, va_up_ne _ _ (by omega), hva4 (2006) (by omega), eV3, va_up_ne _ _ (by omega), hva3 (2006) (by omega), eV2, va_up_ne _ _ (by omega), hva2 (2006) (by omega), eV1, va_up_ne _ _ (by omega), hva1 (2006) (by omega)]; exact hfree _ (by omega) (by omega)) (by decide) (by decide) (by decide) dX7_init_39 (fun qa5 H hW hS => ?_)
  obtain ⟨ada5, eada5⟩ : ∃ x9, x9 = va_up ada4 (2006) qa5 := ⟨_, rfl⟩
  obtain ⟨Va5, eVa5⟩ : ∃ x9, x9 = va_up V4 (2006) (some (.inl (cy 0, 12, .inl (fun _ => 0)))) := ⟨_, rfl⟩
  rw [← eada5, ← eVa5] at hW
  have hva5 : ∀ L, ¬ L = (2006) → Va5 L = V4 L := fun L h => by rw [eVa5, va_up_ne _ _ h]
  have haa5 : ∀ L, ¬ L = (2006) → ada5 L = ada4 L := fun L h => by rw [eada5, va_up_ne _ _ h]
  have eqa5 : qa5 = ada5 (2006) := by rw [eada5, va_up_self]
  have h2006 : Va5 (2006) = some (.inl (cy 0, 12, .inl (fun _ => 0))) := by rw [eVa5, va_up_self]
  have hl : lv_has ls 2 [(0, .ref (ada5 (2000)))] := by rw [haa5 (2000) (by omega)]; exact hl
  refine W.eq (g2 := F0 m 41 ls [.ref (ada5 (2006)), .ref (ada5 (2000))]) (by rw [eqa5, haa5 (2000) (by omega)]) ?_
  have h2002 : Va5 (2002) = some (.inl (cy 0, 12, .inl (fun _ => 0))) := by rw [hva5 (2002) (by omega)]; exact h2002
  have h2003 : Va5 (2003) = some (.inl (cy 0, 12, .inl (fun _ => 0))) := by rw [hva5 (2003) (by omega)]; exact h2003
  have h2004 : Va5 (2004) = some (.inl (cy 0, 12, .inl (fun _ => 0))) := by rw [hva5 (2004) (by omega)]; exact h2004
  have h2005 : Va5 (2005) = some (.inl (cy 0, 12, .inl (fun _ => 0))) := by rw [hva5 (2005) (by omega)]; exact h2005
  have h2000 : Va5 (2000) = some (.inr (7, [.int (0), .int (0), .ref (ada5 (2002)), .ref (ada5 (2003)), .ref (ada5 (2004)), .ref (ada5 (2005)), .null, .int (0), .null, .null, .null, .null, .null, .null, .null, .null, .null, .null, .null, .null, .null, .int (0), .int (0), .null, .null, .null, .null, .null])) := by rw [hva5 (2000) (by omega), haa5 (2002) (by omega), haa5 (2003) (by omega), haa5 (2004) (by omega), haa5 (2005) (by omega)]; exact h2000
  refine p_X7_X7_level hx hb hown hnm hK hW hS h2000 dX7_init_41 (fun H locs hW hS => ?_)
  obtain ⟨V5, eV5⟩ : ∃ x9, x9 = va_up Va5 (2000) (some (.inr (7, [.int (0), .int (0), .ref (ada5 (2002)), .ref (ada5 (2003)), .ref (ada5 (2004)), .ref (ada5 (2005)), .ref (ada5 (2006)), .int (0), .null, .null, .null, .null, .null, .null, .null, .null, .null, .null, .null, .null, .null, .int (0), .int (0), .null, .null, .null, .null, .null]))) := ⟨_, rfl⟩
  rw [← eV5] at hW
  have h2002 : V5 (2002) = some (.inl (cy 0, 12, .inl (fun _ => 0))) := by rw [eV5, va_up_ne _ _ (by omega)]; exact h2002
  have h2003 : V5 (2003) = some (.inl (cy 0, 12, .inl (fun _ => 0))) := by rw [eV5, va_up_ne _ _ (by omega)]; exact h2003
  have h2004 : V5 (2004) = some (.inl (cy 0, 12, .inl (fun _ => 0))) := by rw [eV5, va_up_ne _ _ (by omega)]; exact h2004
  have h2005 : V5 (2005) = some (.inl (cy 0, 12, .inl (fun _ => 0))) := by rw [eV5, va_up_ne _ _ (by omega)]; exact h2005
  have h2006 : V5 (2006) = some (.inl (cy 0, 12, .inl (fun _ => 0))) := by rw [eV5, va_up_ne _ _ (by omega)]; exact h2006
  have h2000 : V5 (2000) = some (.inr (7, [.int (0), .int (0), .ref (ada5 (2002)), .ref (ada5 (2003)), .ref (ada5 (2004)), .ref (ada5 (2005)), .ref (ada5 (2006)), .int (0), .null, .null, .null, .null, .null, .null, .null, .null, .null, .null, .null, .null, .null, .int (0), .int (0), .null, .null, .null, .null, .null])) := by rw [eV5, va_up_self]
  refine lv_aload_n hx hb dX7_init_44 rfl (lv_at hl 0 rfl) ?_
  refine lv_iconst (v := nI 1) hx hb dX7_init_45 (by decide) ?_
  refine p_X7_X7_plans hx hb hown hK hW hS h2000 dX7_init_46 (fun H locs hW hS => ?_)
  obtain ⟨V6, eV6⟩ : ∃ x9, x9 = va_up V5 (2000) (some (.inr (7, [.int (0), .int (0), .ref (ada5 (2002)), .ref (ada5 (2003)), .ref (ada5 (2004)), .ref (ada5 (2005)), .ref (ada5 (2006)), .int (nI 1), .null, .null, .null, .null, .null, .null, .null, .null, .null, .null, .null, .null, .null, .int (0), .int (0), .null, .null, .null, .null, .null]))) := ⟨_, rfl⟩
  rw [← eV6] at hW
  have h2002 : V6 (2002) = some (.inl (cy 0, 12, .inl (fun _ => 0))) := by rw [eV6, va_up_ne _ _ (by omega)]; exact h2002
  have h2003 : V6 (2003) = some (.inl (cy 0, 12, .inl (fun _ => 0))) := by rw [eV6, va_up_ne _ _ (by omega)]; exact h2003
  have h2004 : V6 (2004) = some (.inl (cy 0, 12, .inl (fun _ => 0))) := by rw [eV6, va_up_ne _ _ (by omega)]; exact h2004
  have h2005 : V6 (2005) = some (.inl (cy 0, 12, .inl (fun _ => 0))) := by rw [eV6, va_up_ne _ _ (by omega)]; exact h2005
  have h2006 : V6 (2006) = some (.inl (cy 0, 12, .inl (fun _ => 0))) := by rw [eV6, va_up_ne _ _ (by omega)]; exact h2006
  have h2000 : V6 (2000) = some (.inr (7, [.int (0), .int (0), .ref (ada5 (2002)), .ref (ada5 (2003)), .ref (ada5 (2004)), .ref (ada5 (2005)), .ref (ada5 (2006)), .int (nI 1), .null, .null, .null, .null, .null, .null, .null, .null, .null, .null, .null, .null, .null, .int (0), .int (0), .null, .null, .null, .null, .null])) := by rw [eV6, va_up_self]
  refine lv_aload_n hx hb dX7_init_49 rfl (lv_at hl 0 rfl) ?_
  refine lv_sipush (v := nI 640) hx hb dX7_init_50 (by decide) ?_
  refine w_newI hx hb hK hW hS hz (N := 640) (2008) (by rw [eV6, va_up_ne _ _ (by omega), eV5, va_up_ne _ _ (by omega), hva5 (2008) (by omega), eV4, va_up_ne _ _ (by omega), hva4 (2008) (by omega), eV3, va_up_ne _ _ (by omega), hva3 (2008) (by omega), eV2, va_up_ne _ _ (by omega), hva2 (2008) (by omega), eV1, va_up_ne _ _ (by omega), hva1 (2008) (by omega)]; exact hfree _ (by omega) (by omega)) (by decide) (by decide) (by decide) dX7_init_53 (fun qa6 H hW hS => ?_)
  obtain ⟨ada6, eada6⟩ : ∃ x9, x9 = va_up ada5 (2008) qa6 := ⟨_, rfl⟩
  obtain ⟨Va6, eVa6⟩ : ∃ x9, x9 = va_up V6 (2008) (some (.inl (cy 0, 640, .inl (fun _ => 0)))) := ⟨_, rfl⟩
  rw [← eada6, ← eVa6] at hW
  have hva6 : ∀ L, ¬ L = (2008) → Va6 L = V6 L := fun L h => by rw [eVa6, va_up_ne _ _ h]
  have haa6 : ∀ L, ¬ L = (2008) → ada6 L = ada5 L := fun L h => by rw [eada6, va_up_ne _ _ h]
  have eqa6 : qa6 = ada6 (2008) := by rw [eada6, va_up_self]
  have h2008 : Va6 (2008) = some (.inl (cy 0, 640, .inl (fun _ => 0))) := by rw [eVa6, va_up_self]
  have hl : lv_has ls 2 [(0, .ref (ada6 (2000)))] := by rw [haa6 (2000) (by omega)]; exact hl
  refine W.eq (g2 := F0 m 55 ls [.ref (ada6 (2008)), .ref (ada6 (2000))]) (by rw [eqa6, haa6 (2000) (by omega)]) ?_
  have h2002 : Va6 (2002) = some (.inl (cy 0, 12, .inl (fun _ => 0))) := by rw [hva6 (2002) (by omega)]; exact h2002
  have h2003 : Va6 (2003) = some (.inl (cy 0, 12, .inl (fun _ => 0))) := by rw [hva6 (2003) (by omega)]; exact h2003
  have h2004 : Va6 (2004) = some (.inl (cy 0, 12, .inl (fun _ => 0))) := by rw [hva6 (2004) (by omega)]; exact h2004
  have h2005 : Va6 (2005) = some (.inl (cy 0, 12, .inl (fun _ => 0))) := by rw [hva6 (2005) (by omega)]; exact h2005
  have h2006 : Va6 (2006) = some (.inl (cy 0, 12, .inl (fun _ => 0))) := by rw [hva6 (2006) (by omega)]; exact h2006
  have h2000 : Va6 (2000) = some (.inr (7, [.int (0), .int (0), .ref (ada6 (2002)), .ref (ada6 (2003)), .ref (ada6 (2004)), .ref (ada6 (2005)), .ref (ada6 (2006)), .int (nI 1), .null, .null, .null, .null, .null, .null, .null, .null, .null, .null, .null, .null, .null, .int (0), .int (0), .null, .null, .null, .null, .null])) := by rw [hva6 (2000) (by omega), haa6 (2002) (by omega), haa6 (2003) (by omega), haa6 (2004) (by omega), haa6 (2005) (by omega), haa6 (2006) (by omega)]; exact h2000
  refine p_X7_X7_member hx hb hown hnm hK hW hS h2000 dX7_init_55 (fun H locs hW hS => ?_)
  obtain ⟨V7, eV7⟩ : ∃ x9, x9 = va_up Va6 (2000) (some (.inr (7, [.int (0), .int (0), .ref (ada6 (2002)), .ref (ada6 (2003)), .ref (ada6 (2004)), .ref (ada6 (2005)), .ref (ada6 (2006)), .int (nI 1), .ref (ada6 (2008)), .null, .null, .null, .null, .null, .null, .null, .null, .null, .null, .null, .null, .int (0), .int (0), .null, .null, .null, .null, .null]))) := ⟨_, rfl⟩
  rw [← eV7] at hW
  have h2002 : V7 (2002) = some (.inl (cy 0, 12, .inl (fun _ => 0))) := by rw [eV7, va_up_ne _ _ (by omega)]; exact h2002
  have h2003 : V7 (2003) = some (.inl (cy 0, 12, .inl (fun _ => 0))) := by rw [eV7, va_up_ne _ _ (by omega)]; exact h2003
  have h2004 : V7 (2004) = some (.inl (cy 0, 12, .inl (fun _ => 0))) := by rw [eV7, va_up_ne _ _ (by omega)]; exact h2004
  have h2005 : V7 (2005) = some (.inl (cy 0, 12, .inl (fun _ => 0))) := by rw [eV7, va_up_ne _ _ (by omega)]; exact h2005
  have h2006 : V7 (2006) = some (.inl (cy 0, 12, .inl (fun _ => 0))) := by rw [eV7, va_up_ne _ _ (by omega)]; exact h2006
  have h2008 : V7 (2008) = some (.inl (cy 0, 640, .inl (fun _ => 0))) := by rw [eV7, va_up_ne _ _ (by omega)]; exact h2008
  have h2000 : V7 (2000) = some (.inr (7, [.int (0), .int (0), .ref (ada6 (2002)), .ref (ada6 (2003)), .ref (ada6 (2004)), .ref (ada6 (2005)), .ref (ada6 (2006)), .int (nI 1), .ref (ada6 (2008)), .null, .null, .null, .null, .null, .null, .null, .null, .null, .null, .null, .null, .int (0), .int (0), .null, .null, .null, .null, .null])) := by rw [eV7, va_up_self]
  refine lv_aload_n hx hb dX7_init_58 rfl (lv_at hl 0 rfl) ?_
  refine lv_bipush (v := nI 48) hx hb dX7_init_59 (by decide) ?_
  refine w_newJ hx hb hK hW hS hz (N := 48) (2009) (by rw [eV7, va_up_ne _ _ (by omega), hva6 (2009) (by omega), eV6, va_up_ne _ _ (by omega), eV5, va_up_ne _ _ (by omega), hva5 (2009) (by omega), eV4, va_up_ne _ _ (by omega), hva4 (2009) (by omega), eV3, va_up_ne _ _ (by omega), hva3 (2009) (by omega), eV2, va_up_ne _ _ (by omega), hva2 (2009) (by omega), eV1, va_up_ne _ _ (by omega), hva1 (2009) (by omega)]; exact hfree _ (by omega) (by omega)) (by decide) (by decide) (by decide) dX7_init_61 (fun qa7 H hW hS => ?_)
  obtain ⟨ada7, eada7⟩ : ∃ x9, x9 = va_up ada6 (2009) qa7 := ⟨_, rfl⟩
  obtain ⟨Va7, eVa7⟩ : ∃ x9, x9 = va_up V7 (2009) (some (.inl (cy 1, 48, .inr (.inl (fun _ => 0))))) := ⟨_, rfl⟩
  rw [← eada7, ← eVa7] at hW
  have hva7 : ∀ L, ¬ L = (2009) → Va7 L = V7 L := fun L h => by rw [eVa7, va_up_ne _ _ h]
  have haa7 : ∀ L, ¬ L = (2009) → ada7 L = ada6 L := fun L h => by rw [eada7, va_up_ne _ _ h]
  have eqa7 : qa7 = ada7 (2009) := by rw [eada7, va_up_self]
  have h2009 : Va7 (2009) = some (.inl (cy 1, 48, .inr (.inl (fun _ => 0)))) := by rw [eVa7, va_up_self]
  have hl : lv_has ls 2 [(0, .ref (ada7 (2000)))] := by rw [haa7 (2000) (by omega)]; exact hl
  refine W.eq (g2 := F0 m 63 ls [.ref (ada7 (2009)), .ref (ada7 (2000))]) (by rw [eqa7, haa7 (2000) (by omega)]) ?_
  have h2002 : Va7 (2002) = some (.inl (cy 0, 12, .inl (fun _ => 0))) := by rw [hva7 (2002) (by omega)]; exact h2002
  have h2003 : Va7 (2003) = some (.inl (cy 0, 12, .inl (fun _ => 0))) := by rw [hva7 (2003) (by omega)]; exact h2003
  have h2004 : Va7 (2004) = some (.inl (cy 0, 12, .inl (fun _ => 0))) := by rw [hva7 (2004) (by omega)]; exact h2004
  have h2005 : Va7 (2005) = some (.inl (cy 0, 12, .inl (fun _ => 0))) := by rw [hva7 (2005) (by omega)]; exact h2005
  have h2006 : Va7 (2006) = some (.inl (cy 0, 12, .inl (fun _ => 0))) := by rw [hva7 (2006) (by omega)]; exact h2006
  have h2008 : Va7 (2008) = some (.inl (cy 0, 640, .inl (fun _ => 0))) := by rw [hva7 (2008) (by omega)]; exact h2008
  have h2000 : Va7 (2000) = some (.inr (7, [.int (0), .int (0), .ref (ada7 (2002)), .ref (ada7 (2003)), .ref (ada7 (2004)), .ref (ada7 (2005)), .ref (ada7 (2006)), .int (nI 1), .ref (ada7 (2008)), .null, .null, .null, .null, .null, .null, .null, .null, .null, .null, .null, .null, .int (0), .int (0), .null, .null, .null, .null, .null])) := by rw [hva7 (2000) (by omega), haa7 (2002) (by omega), haa7 (2003) (by omega), haa7 (2004) (by omega), haa7 (2005) (by omega), haa7 (2006) (by omega), haa7 (2008) (by omega)]; exact h2000
  refine p_X7_X7_kept hx hb hown hnm hK hW hS h2000 dX7_init_63 (fun H locs hW hS => ?_)
  obtain ⟨V8, eV8⟩ : ∃ x9, x9 = va_up Va7 (2000) (some (.inr (7, [.int (0), .int (0), .ref (ada7 (2002)), .ref (ada7 (2003)), .ref (ada7 (2004)), .ref (ada7 (2005)), .ref (ada7 (2006)), .int (nI 1), .ref (ada7 (2008)), .ref (ada7 (2009)), .null, .null, .null, .null, .null, .null, .null, .null, .null, .null, .null, .int (0), .int (0), .null, .null, .null, .null, .null]))) := ⟨_, rfl⟩
  rw [← eV8] at hW
  have h2002 : V8 (2002) = some (.inl (cy 0, 12, .inl (fun _ => 0))) := by rw [eV8, va_up_ne _ _ (by omega)]; exact h2002
  have h2003 : V8 (2003) = some (.inl (cy 0, 12, .inl (fun _ => 0))) := by rw [eV8, va_up_ne _ _ (by omega)]; exact h2003
  have h2004 : V8 (2004) = some (.inl (cy 0, 12, .inl (fun _ => 0))) := by rw [eV8, va_up_ne _ _ (by omega)]; exact h2004
  have h2005 : V8 (2005) = some (.inl (cy 0, 12, .inl (fun _ => 0))) := by rw [eV8, va_up_ne _ _ (by omega)]; exact h2005
  have h2006 : V8 (2006) = some (.inl (cy 0, 12, .inl (fun _ => 0))) := by rw [eV8, va_up_ne _ _ (by omega)]; exact h2006
  have h2008 : V8 (2008) = some (.inl (cy 0, 640, .inl (fun _ => 0))) := by rw [eV8, va_up_ne _ _ (by omega)]; exact h2008
  have h2009 : V8 (2009) = some (.inl (cy 1, 48, .inr (.inl (fun _ => 0)))) := by rw [eV8, va_up_ne _ _ (by omega)]; exact h2009
  have h2000 : V8 (2000) = some (.inr (7, [.int (0), .int (0), .ref (ada7 (2002)), .ref (ada7 (2003)), .ref (ada7 (2004)), .ref (ada7 (2005)), .ref (ada7 (2006)), .int (nI 1), .ref (ada7 (2008)), .ref (ada7 (2009)), .null, .null, .null, .null, .null, .null, .null, .null, .null, .null, .null, .int (0), .int (0), .null, .null, .null, .null, .null])) := by rw [eV8, va_up_self]
  refine lv_aload_n hx hb dX7_init_66 rfl (lv_at hl 0 rfl) ?_
  refine lv_bipush (v := nI 48) hx hb dX7_init_67 (by decide) ?_
  refine w_newZ hx hb hK hW hS hz (N := 48) (2010) (by rw [eV8, va_up_ne _ _ (by omega), hva7 (2010) (by omega), eV7, va_up_ne _ _ (by omega), hva6 (2010) (by omega), eV6, va_up_ne _ _ (by omega), eV5, va_up_ne _ _ (by omega), hva5 (2010) (by omega), eV4, va_up_ne _ _ (by omega), hva4 (2010) (by omega), eV3, va_up_ne _ _ (by omega), hva3 (2010) (by omega), eV2, va_up_ne _ _ (by omega), hva2 (2010) (by omega), eV1, va_up_ne _ _ (by omega), hva1 (2010) (by omega)]; exact hfree _ (by omega) (by omega)) (by decide) (by decide) (by decide) dX7_init_69 (fun qa8 H hW hS => ?_)
  obtain ⟨ada8, eada8⟩ : ∃ x9, x9 = va_up ada7 (2010) qa8 := ⟨_, rfl⟩
  obtain ⟨Va8, eVa8⟩ : ∃ x9, x9 = va_up V8 (2010) (some (.inl (cy 2, 48, .inl (fun _ => 0)))) := ⟨_, rfl⟩
  rw [← eada8, ← eVa8] at hW
  have hva8 : ∀ L, ¬ L = (2010) → Va8 L = V8 L := fun L h => by rw [eVa8, va_up_ne _ _ h]
  have haa8 : ∀ L, ¬ L = (2010) → ada8 L = ada7 L := fun L h => by rw [eada8, va_up_ne _ _ h]
  have eqa8 : qa8 = ada8 (2010) := by rw [eada8, va_up_self]
  have h2010 : Va8 (2010) = some (.inl (cy 2, 48, .inl (fun _ => 0))) := by rw [eVa8, va_up_self]
  have hl : lv_has ls 2 [(0, .ref (ada8 (2000)))] := by rw [haa8 (2000) (by omega)]; exact hl
  refine W.eq (g2 := F0 m 71 ls [.ref (ada8 (2010)), .ref (ada8 (2000))]) (by rw [eqa8, haa8 (2000) (by omega)]) ?_
  have h2002 : Va8 (2002) = some (.inl (cy 0, 12, .inl (fun _ => 0))) := by rw [hva8 (2002) (by omega)]; exact h2002
  have h2003 : Va8 (2003) = some (.inl (cy 0, 12, .inl (fun _ => 0))) := by rw [hva8 (2003) (by omega)]; exact h2003
  have h2004 : Va8 (2004) = some (.inl (cy 0, 12, .inl (fun _ => 0))) := by rw [hva8 (2004) (by omega)]; exact h2004
  have h2005 : Va8 (2005) = some (.inl (cy 0, 12, .inl (fun _ => 0))) := by rw [hva8 (2005) (by omega)]; exact h2005
  have h2006 : Va8 (2006) = some (.inl (cy 0, 12, .inl (fun _ => 0))) := by rw [hva8 (2006) (by omega)]; exact h2006
  have h2008 : Va8 (2008) = some (.inl (cy 0, 640, .inl (fun _ => 0))) := by rw [hva8 (2008) (by omega)]; exact h2008
  have h2009 : Va8 (2009) = some (.inl (cy 1, 48, .inr (.inl (fun _ => 0)))) := by rw [hva8 (2009) (by omega)]; exact h2009
  have h2000 : Va8 (2000) = some (.inr (7, [.int (0), .int (0), .ref (ada8 (2002)), .ref (ada8 (2003)), .ref (ada8 (2004)), .ref (ada8 (2005)), .ref (ada8 (2006)), .int (nI 1), .ref (ada8 (2008)), .ref (ada8 (2009)), .null, .null, .null, .null, .null, .null, .null, .null, .null, .null, .null, .int (0), .int (0), .null, .null, .null, .null, .null])) := by rw [hva8 (2000) (by omega), haa8 (2002) (by omega), haa8 (2003) (by omega), haa8 (2004) (by omega), haa8 (2005) (by omega), haa8 (2006) (by omega), haa8 (2008) (by omega), haa8 (2009) (by omega)]; exact h2000
  refine p_X7_X7_forgets hx hb hown hnm hK hW hS h2000 dX7_init_71 (fun H locs hW hS => ?_)
  obtain ⟨V9, eV9⟩ : ∃ x9, x9 = va_up Va8 (2000) (some (.inr (7, [.int (0), .int (0), .ref (ada8 (2002)), .ref (ada8 (2003)), .ref (ada8 (2004)), .ref (ada8 (2005)), .ref (ada8 (2006)), .int (nI 1), .ref (ada8 (2008)), .ref (ada8 (2009)), .ref (ada8 (2010)), .null, .null, .null, .null, .null, .null, .null, .null, .null, .null, .int (0), .int (0), .null, .null, .null, .null, .null]))) := ⟨_, rfl⟩
  rw [← eV9] at hW
  have h2002 : V9 (2002) = some (.inl (cy 0, 12, .inl (fun _ => 0))) := by rw [eV9, va_up_ne _ _ (by omega)]; exact h2002
  have h2003 : V9 (2003) = some (.inl (cy 0, 12, .inl (fun _ => 0))) := by rw [eV9, va_up_ne _ _ (by omega)]; exact h2003
  have h2004 : V9 (2004) = some (.inl (cy 0, 12, .inl (fun _ => 0))) := by rw [eV9, va_up_ne _ _ (by omega)]; exact h2004
  have h2005 : V9 (2005) = some (.inl (cy 0, 12, .inl (fun _ => 0))) := by rw [eV9, va_up_ne _ _ (by omega)]; exact h2005
  have h2006 : V9 (2006) = some (.inl (cy 0, 12, .inl (fun _ => 0))) := by rw [eV9, va_up_ne _ _ (by omega)]; exact h2006
  have h2008 : V9 (2008) = some (.inl (cy 0, 640, .inl (fun _ => 0))) := by rw [eV9, va_up_ne _ _ (by omega)]; exact h2008
  have h2009 : V9 (2009) = some (.inl (cy 1, 48, .inr (.inl (fun _ => 0)))) := by rw [eV9, va_up_ne _ _ (by omega)]; exact h2009
  have h2010 : V9 (2010) = some (.inl (cy 2, 48, .inl (fun _ => 0))) := by rw [eV9, va_up_ne _ _ (by omega)]; exact h2010
  have h2000 : V9 (2000) = some (.inr (7, [.int (0), .int (0), .ref (ada8 (2002)), .ref (ada8 (2003)), .ref (ada8 (2004)), .ref (ada8 (2005)), .ref (ada8 (2006)), .int (nI 1), .ref (ada8 (2008)), .ref (ada8 (2009)), .ref (ada8 (2010)), .null, .null, .null, .null, .null, .null, .null, .null, .null, .null, .int (0), .int (0), .null, .null, .null, .null, .null])) := by rw [eV9, va_up_self]
  refine lv_aload_n hx hb dX7_init_74 rfl (lv_at hl 0 rfl) ?_
  refine lv_iconst (v := nI 4) hx hb dX7_init_75 (by decide) ?_
  refine w_newI hx hb hK hW hS hz (N := 4) (2011) (by rw [eV9, va_up_ne _ _ (by omega), hva8 (2011) (by omega), eV8, va_up_ne _ _ (by omega), hva7 (2011) (by omega), eV7, va_up_ne _ _ (by omega), hva6 (2011) (by omega), eV6, va_up_ne _ _ (by omega), eV5, va_up_ne _ _ (by omega), hva5 (2011) (by omega), eV4, va_up_ne _ _ (by omega), hva4 (2011) (by omega), eV3, va_up_ne _ _ (by omega), hva3 (2011) (by omega), eV2, va_up_ne _ _ (by omega), hva2 (2011) (by omega), eV1, va_up_ne _ _ (by omega), hva1 (2011) (by omega)]; exact hfree _ (by omega) (by omega)) (by decide) (by decide) (by decide) dX7_init_76 (fun qa9 H hW hS => ?_)
  obtain ⟨ada9, eada9⟩ : ∃ x9, x9 = va_up ada8 (2011) qa9 := ⟨_, rfl⟩
  obtain ⟨Va9, eVa9⟩ : ∃ x9, x9 = va_up V9 (2011) (some (.inl (cy 0, 4, .inl (fun _ => 0)))) := ⟨_, rfl⟩
  rw [← eada9, ← eVa9] at hW
  have hva9 : ∀ L, ¬ L = (2011) → Va9 L = V9 L := fun L h => by rw [eVa9, va_up_ne _ _ h]
  have haa9 : ∀ L, ¬ L = (2011) → ada9 L = ada8 L := fun L h => by rw [eada9, va_up_ne _ _ h]
  have eqa9 : qa9 = ada9 (2011) := by rw [eada9, va_up_self]
  have h2011 : Va9 (2011) = some (.inl (cy 0, 4, .inl (fun _ => 0))) := by rw [eVa9, va_up_self]
  have hl : lv_has ls 2 [(0, .ref (ada9 (2000)))] := by rw [haa9 (2000) (by omega)]; exact hl
  refine W.eq (g2 := F0 m 78 ls [.ref (ada9 (2011)), .ref (ada9 (2000))]) (by rw [eqa9, haa9 (2000) (by omega)]) ?_
  have h2002 : Va9 (2002) = some (.inl (cy 0, 12, .inl (fun _ => 0))) := by rw [hva9 (2002) (by omega)]; exact h2002
  have h2003 : Va9 (2003) = some (.inl (cy 0, 12, .inl (fun _ => 0))) := by rw [hva9 (2003) (by omega)]; exact h2003
  have h2004 : Va9 (2004) = some (.inl (cy 0, 12, .inl (fun _ => 0))) := by rw [hva9 (2004) (by omega)]; exact h2004
  have h2005 : Va9 (2005) = some (.inl (cy 0, 12, .inl (fun _ => 0))) := by rw [hva9 (2005) (by omega)]; exact h2005
  have h2006 : Va9 (2006) = some (.inl (cy 0, 12, .inl (fun _ => 0))) := by rw [hva9 (2006) (by omega)]; exact h2006
  have h2008 : Va9 (2008) = some (.inl (cy 0, 640, .inl (fun _ => 0))) := by rw [hva9 (2008) (by omega)]; exact h2008
  have h2009 : Va9 (2009) = some (.inl (cy 1, 48, .inr (.inl (fun _ => 0)))) := by rw [hva9 (2009) (by omega)]; exact h2009
  have h2010 : Va9 (2010) = some (.inl (cy 2, 48, .inl (fun _ => 0))) := by rw [hva9 (2010) (by omega)]; exact h2010
  have h2000 : Va9 (2000) = some (.inr (7, [.int (0), .int (0), .ref (ada9 (2002)), .ref (ada9 (2003)), .ref (ada9 (2004)), .ref (ada9 (2005)), .ref (ada9 (2006)), .int (nI 1), .ref (ada9 (2008)), .ref (ada9 (2009)), .ref (ada9 (2010)), .null, .null, .null, .null, .null, .null, .null, .null, .null, .null, .int (0), .int (0), .null, .null, .null, .null, .null])) := by rw [hva9 (2000) (by omega), haa9 (2002) (by omega), haa9 (2003) (by omega), haa9 (2004) (by omega), haa9 (2005) (by omega), haa9 (2006) (by omega), haa9 (2008) (by omega), haa9 (2009) (by omega), haa9 (2010) (by omega)]; exact h2000
  refine p_X7_X7_changes hx hb hown hnm hK hW hS h2000 dX7_init_78 (fun H locs hW hS => ?_)
  obtain ⟨V10, eV10⟩ : ∃ x9, x9 = va_up Va9 (2000) (some (.inr (7, [.int (0), .int (0), .ref (ada9 (2002)), .ref (ada9 (2003)), .ref (ada9 (2004)), .ref (ada9 (2005)), .ref (ada9 (2006)), .int (nI 1), .ref (ada9 (2008)), .ref (ada9 (2009)), .ref (ada9 (2010)), .ref (ada9 (2011)), .null, .null, .null, .null, .null, .null, .null, .null, .null, .int (0), .int (0), .null, .null, .null, .null, .null]))) := ⟨_, rfl⟩
  rw [← eV10] at hW
  have h2002 : V10 (2002) = some (.inl (cy 0, 12, .inl (fun _ => 0))) := by rw [eV10, va_up_ne _ _ (by omega)]; exact h2002
  have h2003 : V10 (2003) = some (.inl (cy 0, 12, .inl (fun _ => 0))) := by rw [eV10, va_up_ne _ _ (by omega)]; exact h2003
  have h2004 : V10 (2004) = some (.inl (cy 0, 12, .inl (fun _ => 0))) := by rw [eV10, va_up_ne _ _ (by omega)]; exact h2004
  have h2005 : V10 (2005) = some (.inl (cy 0, 12, .inl (fun _ => 0))) := by rw [eV10, va_up_ne _ _ (by omega)]; exact h2005
  have h2006 : V10 (2006) = some (.inl (cy 0, 12, .inl (fun _ => 0))) := by rw [eV10, va_up_ne _ _ (by omega)]; exact h2006
  have h2008 : V10 (2008) = some (.inl (cy 0, 640, .inl (fun _ => 0))) := by rw [eV10, va_up_ne _ _ (by omega)]; exact h2008
  have h2009 : V10 (2009) = some (.inl (cy 1, 48, .inr (.inl (fun _ => 0)))) := by rw [eV10, va_up_ne _ _ (by omega)]; exact h2009
  have h2010 : V10 (2010) = some (.inl (cy 2, 48, .inl (fun _ => 0))) := by rw [eV10, va_up_ne _ _ (by omega)]; exact h2010
  have h2011 : V10 (2011) = some (.inl (cy 0, 4, .inl (fun _ => 0))) := by rw [eV10, va_up_ne _ _ (by omega)]; exact h2011
  have h2000 : V10 (2000) = some (.inr (7, [.int (0), .int (0), .ref (ada9 (2002)), .ref (ada9 (2003)), .ref (ada9 (2004)), .ref (ada9 (2005)), .ref (ada9 (2006)), .int (nI 1), .ref (ada9 (2008)), .ref (ada9 (2009)), .ref (ada9 (2010)), .ref (ada9 (2011)), .null, .null, .null, .null, .null, .null, .null, .null, .null, .int (0), .int (0), .null, .null, .null, .null, .null])) := by rw [eV10, va_up_self]
  refine lv_aload_n hx hb dX7_init_81 rfl (lv_at hl 0 rfl) ?_
  refine lv_iconst (v := nI 4) hx hb dX7_init_82 (by decide) ?_
  refine w_newI hx hb hK hW hS hz (N := 4) (2012) (by rw [eV10, va_up_ne _ _ (by omega), hva9 (2012) (by omega), eV9, va_up_ne _ _ (by omega), hva8 (2012) (by omega), eV8, va_up_ne _ _ (by omega), hva7 (2012) (by omega), eV7, va_up_ne _ _ (by omega), hva6 (2012) (by omega), eV6, va_up_ne _ _ (by omega), eV5, va_up_ne _ _ (by omega), hva5 (2012) (by omega), eV4, va_up_ne _ _ (by omega), hva4 (2012) (by omega), eV3, va_up_ne _ _ (by omega), hva3 (2012) (by omega), eV2, va_up_ne _ _ (by omega), hva2 (2012) (by omega), eV1, va_up_ne _ _ (by omega), hva1 (2012) (by omega)]; exact hfree _ (by omega) (by omega)) (by decide) (by decide) (by decide) dX7_init_83 (fun qa10 H hW hS => ?_)
  obtain ⟨ada10, eada10⟩ : ∃ x9, x9 = va_up ada9 (2012) qa10 := ⟨_, rfl⟩
  obtain ⟨Va10, eVa10⟩ : ∃ x9, x9 = va_up V10 (2012) (some (.inl (cy 0, 4, .inl (fun _ => 0)))) := ⟨_, rfl⟩
  rw [← eada10, ← eVa10] at hW
  have hva10 : ∀ L, ¬ L = (2012) → Va10 L = V10 L := fun L h => by rw [eVa10, va_up_ne _ _ h]
  have haa10 : ∀ L, ¬ L = (2012) → ada10 L = ada9 L := fun L h => by rw [eada10, va_up_ne _ _ h]
  have eqa10 : qa10 = ada10 (2012) := by rw [eada10, va_up_self]
  have h2012 : Va10 (2012) = some (.inl (cy 0, 4, .inl (fun _ => 0))) := by rw [eVa10, va_up_self]
  have hl : lv_has ls 2 [(0, .ref (ada10 (2000)))] := by rw [haa10 (2000) (by omega)]; exact hl
  refine W.eq (g2 := F0 m 85 ls [.ref (ada10 (2012)), .ref (ada10 (2000))]) (by rw [eqa10, haa10 (2000) (by omega)]) ?_
  have h2002 : Va10 (2002) = some (.inl (cy 0, 12, .inl (fun _ => 0))) := by rw [hva10 (2002) (by omega)]; exact h2002
  have h2003 : Va10 (2003) = some (.inl (cy 0, 12, .inl (fun _ => 0))) := by rw [hva10 (2003) (by omega)]; exact h2003
  have h2004 : Va10 (2004) = some (.inl (cy 0, 12, .inl (fun _ => 0))) := by rw [hva10 (2004) (by omega)]; exact h2004
  have h2005 : Va10 (2005) = some (.inl (cy 0, 12, .inl (fun _ => 0))) := by rw [hva10 (2005) (by omega)]; exact h2005
  have h2006 : Va10 (2006) = some (.inl (cy 0, 12, .inl (fun _ => 0))) := by rw [hva10 (2006) (by omega)]; exact h2006
  have h2008 : Va10 (2008) = some (.inl (cy 0, 640, .inl (fun _ => 0))) := by rw [hva10 (2008) (by omega)]; exact h2008
  have h2009 : Va10 (2009) = some (.inl (cy 1, 48, .inr (.inl (fun _ => 0)))) := by rw [hva10 (2009) (by omega)]; exact h2009
  have h2010 : Va10 (2010) = some (.inl (cy 2, 48, .inl (fun _ => 0))) := by rw [hva10 (2010) (by omega)]; exact h2010
  have h2011 : Va10 (2011) = some (.inl (cy 0, 4, .inl (fun _ => 0))) := by rw [hva10 (2011) (by omega)]; exact h2011
  have h2000 : Va10 (2000) = some (.inr (7, [.int (0), .int (0), .ref (ada10 (2002)), .ref (ada10 (2003)), .ref (ada10 (2004)), .ref (ada10 (2005)), .ref (ada10 (2006)), .int (nI 1), .ref (ada10 (2008)), .ref (ada10 (2009)), .ref (ada10 (2010)), .ref (ada10 (2011)), .null, .null, .null, .null, .null, .null, .null, .null, .null, .int (0), .int (0), .null, .null, .null, .null, .null])) := by rw [hva10 (2000) (by omega), haa10 (2002) (by omega), haa10 (2003) (by omega), haa10 (2004) (by omega), haa10 (2005) (by omega), haa10 (2006) (by omega), haa10 (2008) (by omega), haa10 (2009) (by omega), haa10 (2010) (by omega), haa10 (2011) (by omega)]; exact h2000
  refine p_X7_X7_cost hx hb hown hnm hK hW hS h2000 dX7_init_85 (fun H locs hW hS => ?_)
  obtain ⟨V11, eV11⟩ : ∃ x9, x9 = va_up Va10 (2000) (some (.inr (7, [.int (0), .int (0), .ref (ada10 (2002)), .ref (ada10 (2003)), .ref (ada10 (2004)), .ref (ada10 (2005)), .ref (ada10 (2006)), .int (nI 1), .ref (ada10 (2008)), .ref (ada10 (2009)), .ref (ada10 (2010)), .ref (ada10 (2011)), .ref (ada10 (2012)), .null, .null, .null, .null, .null, .null, .null, .null, .int (0), .int (0), .null, .null, .null, .null, .null]))) := ⟨_, rfl⟩
  rw [← eV11] at hW
  have h2002 : V11 (2002) = some (.inl (cy 0, 12, .inl (fun _ => 0))) := by rw [eV11, va_up_ne _ _ (by omega)]; exact h2002
  have h2003 : V11 (2003) = some (.inl (cy 0, 12, .inl (fun _ => 0))) := by rw [eV11, va_up_ne _ _ (by omega)]; exact h2003
  have h2004 : V11 (2004) = some (.inl (cy 0, 12, .inl (fun _ => 0))) := by rw [eV11, va_up_ne _ _ (by omega)]; exact h2004
  have h2005 : V11 (2005) = some (.inl (cy 0, 12, .inl (fun _ => 0))) := by rw [eV11, va_up_ne _ _ (by omega)]; exact h2005
  have h2006 : V11 (2006) = some (.inl (cy 0, 12, .inl (fun _ => 0))) := by rw [eV11, va_up_ne _ _ (by omega)]; exact h2006
  have h2008 : V11 (2008) = some (.inl (cy 0, 640, .inl (fun _ => 0))) := by rw [eV11, va_up_ne _ _ (by omega)]; exact h2008
  have h2009 : V11 (2009) = some (.inl (cy 1, 48, .inr (.inl (fun _ => 0)))) := by rw [eV11, va_up_ne _ _ (by omega)]; exact h2009
  have h2010 : V11 (2010) = some (.inl (cy 2, 48, .inl (fun _ => 0))) := by rw [eV11, va_up_ne _ _ (by omega)]; exact h2010
  have h2011 : V11 (2011) = some (.inl (cy 0, 4, .inl (fun _ => 0))) := by rw [eV11, va_up_ne _ _ (by omega)]; exact h2011
  have h2012 : V11 (2012) = some (.inl (cy 0, 4, .inl (fun _ => 0))) := by rw [eV11, va_up_ne _ _ (by omega)]; exact h2012
  have h2000 : V11 (2000) = some (.inr (7, [.int (0), .int (0), .ref (ada10 (2002)), .ref (ada10 (2003)), .ref (ada10 (2004)), .ref (ada10 (2005)), .ref (ada10 (2006)), .int (nI 1), .ref (ada10 (2008)), .ref (ada10 (2009)), .ref (ada10 (2010)), .ref (ada10 (2011)), .ref (ada10 (2012)), .null, .null, .null, .null, .null, .null, .null, .null, .int (0), .int (0), .null, .null, .null, .null, .null])) := by rw [eV11, va_up_self]
  refine lv_aload_n hx hb dX7_init_88 rfl (lv_at hl 0 rfl) ?_
  refine lv_iconst (v := nI 4) hx hb dX7_init_89 (by decide) ?_
  refine w_newI hx hb hK hW hS hz (N := 4) (2013) (by rw [eV11, va_up_ne _ _ (by omega), hva10 (2013) (by omega), eV10, va_up_ne _ _ (by omega), hva9 (2013) (by omega), eV9, va_up_ne _ _ (by omega), hva8 (2013) (by omega), eV8, va_up_ne _ _ (by omega), hva7 (2013) (by omega), eV7, va_up_ne _ _ (by omega), hva6 (2013) (by omega), eV6, va_up_ne _ _ (by omega), eV5, va_up_ne _ _ (by omega), hva5 (2013) (by omega), eV4, va_up_ne _ _ (by omega), hva4 (2013) (by omega), eV3, va_up_ne _ _ (by omega), hva3 (2013) (by omega), eV2, va_up_ne _ _ (by omega), hva2 (2013) (by omega), eV1, va_up_ne _ _ (by omega), hva1 (2013) (by omega)]; exact hfree _ (by omega) (by omega)) (by decide) (by decide) (by decide) dX7_init_90 (fun qa11 H hW hS => ?_)
  obtain ⟨ada11, eada11⟩ : ∃ x9, x9 = va_up ada10 (2013) qa11 := ⟨_, rfl⟩
  obtain ⟨Va11, eVa11⟩ : ∃ x9, x9 = va_up V11 (2013) (some (.inl (cy 0, 4, .inl (fun _ => 0)))) := ⟨_, rfl⟩
  rw [← eada11, ← eVa11] at hW
  have hva11 : ∀ L, ¬ L = (2013) → Va11 L = V11 L := fun L h => by rw [eVa11, va_up_ne _ _ h]
  have haa11 : ∀ L, ¬ L = (2013) → ada11 L = ada10 L := fun L h => by rw [eada11, va_up_ne _ _ h]
  have eqa11 : qa11 = ada11 (2013) := by rw [eada11, va_up_self]
  have h2013 : Va11 (2013) = some (.inl (cy 0, 4, .inl (fun _ => 0))) := by rw [eVa11, va_up_self]
  have hl : lv_has ls 2 [(0, .ref (ada11 (2000)))] := by rw [haa11 (2000) (by omega)]; exact hl
  refine W.eq (g2 := F0 m 92 ls [.ref (ada11 (2013)), .ref (ada11 (2000))]) (by rw [eqa11, haa11 (2000) (by omega)]) ?_
  have h2002 : Va11 (2002) = some (.inl (cy 0, 12, .inl (fun _ => 0))) := by rw [hva11 (2002) (by omega)]; exact h2002
  have h2003 : Va11 (2003) = some (.inl (cy 0, 12, .inl (fun _ => 0))) := by rw [hva11 (2003) (by omega)]; exact h2003
  have h2004 : Va11 (2004) = some (.inl (cy 0, 12, .inl (fun _ => 0))) := by rw [hva11 (2004) (by omega)]; exact h2004
  have h2005 : Va11 (2005) = some (.inl (cy 0, 12, .inl (fun _ => 0))) := by rw [hva11 (2005) (by omega)]; exact h2005
  have h2006 : Va11 (2006) = some (.inl (cy 0, 12, .inl (fun _ => 0))) := by rw [hva11 (2006) (by omega)]; exact h2006
  have h2008 : Va11 (2008) = some (.inl (cy 0, 640, .inl (fun _ => 0))) := by rw [hva11 (2008) (by omega)]; exact h2008
  have h2009 : Va11 (2009) = some (.inl (cy 1, 48, .inr (.inl (fun _ => 0)))) := by rw [hva11 (2009) (by omega)]; exact h2009
  have h2010 : Va11 (2010) = some (.inl (cy 2, 48, .inl (fun _ => 0))) := by rw [hva11 (2010) (by omega)]; exact h2010
  have h2011 : Va11 (2011) = some (.inl (cy 0, 4, .inl (fun _ => 0))) := by rw [hva11 (2011) (by omega)]; exact h2011
  have h2012 : Va11 (2012) = some (.inl (cy 0, 4, .inl (fun _ => 0))) := by rw [hva11 (2012) (by omega)]; exact h2012
  have h2000 : Va11 (2000) = some (.inr (7, [.int (0), .int (0), .ref (ada11 (2002)), .ref (ada11 (2003)), .ref (ada11 (2004)), .ref (ada11 (2005)), .ref (ada11 (2006)), .int (nI 1), .ref (ada11 (2008)), .ref (ada11 (2009)), .ref (ada11 (2010)), .ref (ada11 (2011)), .ref (ada11 (2012)), .null, .null, .null, .null, .null, .null, .null, .null, .int (0), .int (0), .null, .null, .null, .null, .null])) := by rw [hva11 (2000) (by omega), haa11 (2002) (by omega), haa11 (2003) (by omega), haa11 (2004) (by omega), haa11 (2005) (by omega), haa11 (2006) (by omega), haa11 (2008) (by omega), haa11 (2009) (by omega), haa11 (2010) (by omega), haa11 (2011) (by omega), haa11 (2012) (by omega)]; exact h2000
  refine p_X7_X7_found hx hb hown hnm hK hW hS h2000 dX7_init_92 (fun H locs hW hS => ?_)
  obtain ⟨V12, eV12⟩ : ∃ x9, x9 = va_up Va11 (2000) (some (.inr (7, [.int (0), .int (0), .ref (ada11 (2002)), .ref (ada11 (2003)), .ref (ada11 (2004)), .ref (ada11 (2005)), .ref (ada11 (2006)), .int (nI 1), .ref (ada11 (2008)), .ref (ada11 (2009)), .ref (ada11 (2010)), .ref (ada11 (2011)), .ref (ada11 (2012)), .ref (ada11 (2013)), .null, .null, .null, .null, .null, .null, .null, .int (0), .int (0), .null, .null, .null, .null, .null]))) := ⟨_, rfl⟩
  rw [← eV12] at hW
  have h2002 : V12 (2002) = some (.inl (cy 0, 12, .inl (fun _ => 0))) := by rw [eV12, va_up_ne _ _ (by omega)]; exact h2002
  have h2003 : V12 (2003) = some (.inl (cy 0, 12, .inl (fun _ => 0))) := by rw [eV12, va_up_ne _ _ (by omega)]; exact h2003
  have h2004 : V12 (2004) = some (.inl (cy 0, 12, .inl (fun _ => 0))) := by rw [eV12, va_up_ne _ _ (by omega)]; exact h2004
  have h2005 : V12 (2005) = some (.inl (cy 0, 12, .inl (fun _ => 0))) := by rw [eV12, va_up_ne _ _ (by omega)]; exact h2005
  have h2006 : V12 (2006) = some (.inl (cy 0, 12, .inl (fun _ => 0))) := by rw [eV12, va_up_ne _ _ (by omega)]; exact h2006
  have h2008 : V12 (2008) = some (.inl (cy 0, 640, .inl (fun _ => 0))) := by rw [eV12, va_up_ne _ _ (by omega)]; exact h2008
  have h2009 : V12 (2009) = some (.inl (cy 1, 48, .inr (.inl (fun _ => 0)))) := by rw [eV12, va_up_ne _ _ (by omega)]; exact h2009
  have h2010 : V12 (2010) = some (.inl (cy 2, 48, .inl (fun _ => 0))) := by rw [eV12, va_up_ne _ _ (by omega)]; exact h2010
  have h2011 : V12 (2011) = some (.inl (cy 0, 4, .inl (fun _ => 0))) := by rw [eV12, va_up_ne _ _ (by omega)]; exact h2011
  have h2012 : V12 (2012) = some (.inl (cy 0, 4, .inl (fun _ => 0))) := by rw [eV12, va_up_ne _ _ (by omega)]; exact h2012
  have h2013 : V12 (2013) = some (.inl (cy 0, 4, .inl (fun _ => 0))) := by rw [eV12, va_up_ne _ _ (by omega)]; exact h2013
  have h2000 : V12 (2000) = some (.inr (7, [.int (0), .int (0), .ref (ada11 (2002)), .ref (ada11 (2003)), .ref (ada11 (2004)), .ref (ada11 (2005)), .ref (ada11 (2006)), .int (nI 1), .ref (ada11 (2008)), .ref (ada11 (2009)), .ref (ada11 (2010)), .ref (ada11 (2011)), .ref (ada11 (2012)), .ref (ada11 (2013)), .null, .null, .null, .null, .null, .null, .null, .int (0), .int (0), .null, .null, .null, .null, .null])) := by rw [eV12, va_up_self]
  refine lv_aload_n hx hb dX7_init_95 rfl (lv_at hl 0 rfl) ?_
  refine lv_iconst (v := nI 4) hx hb dX7_init_96 (by decide) ?_
  refine w_newZ hx hb hK hW hS hz (N := 4) (2014) (by rw [eV12, va_up_ne _ _ (by omega), hva11 (2014) (by omega), eV11, va_up_ne _ _ (by omega), hva10 (2014) (by omega), eV10, va_up_ne _ _ (by omega), hva9 (2014) (by omega), eV9, va_up_ne _ _ (by omega), hva8 (2014) (by omega), eV8, va_up_ne _ _ (by omega), hva7 (2014) (by omega), eV7, va_up_ne _ _ (by omega), hva6 (2014) (by omega), eV6, va_up_ne _ _ (by omega), eV5, va_up_ne _ _ (by omega), hva5 (2014) (by omega), eV4, va_up_ne _ _ (by omega), hva4 (2014) (by omega), eV3, va_up_ne _ _ (by omega), hva3 (2014) (by omega), eV2, va_up_ne _ _ (by omega), hva2 (2014) (by omega), eV1, va_up_ne _ _ (by omega), hva1 (2014) (by omega)]; exact hfree _ (by omega) (by omega)) (by decide) (by decide) (by decide) dX7_init_97 (fun qa12 H hW hS => ?_)
  obtain ⟨ada12, eada12⟩ : ∃ x9, x9 = va_up ada11 (2014) qa12 := ⟨_, rfl⟩
  obtain ⟨Va12, eVa12⟩ : ∃ x9, x9 = va_up V12 (2014) (some (.inl (cy 2, 4, .inl (fun _ => 0)))) := ⟨_, rfl⟩
  rw [← eada12, ← eVa12] at hW
  have hva12 : ∀ L, ¬ L = (2014) → Va12 L = V12 L := fun L h => by rw [eVa12, va_up_ne _ _ h]
  have haa12 : ∀ L, ¬ L = (2014) → ada12 L = ada11 L := fun L h => by rw [eada12, va_up_ne _ _ h]
  have eqa12 : qa12 = ada12 (2014) := by rw [eada12, va_up_self]
  have h2014 : Va12 (2014) = some (.inl (cy 2, 4, .inl (fun _ => 0))) := by rw [eVa12, va_up_self]
  have hl : lv_has ls 2 [(0, .ref (ada12 (2000)))] := by rw [haa12 (2000) (by omega)]; exact hl
  refine W.eq (g2 := F0 m 99 ls [.ref (ada12 (2014)), .ref (ada12 (2000))]) (by rw [eqa12, haa12 (2000) (by omega)]) ?_
  have h2002 : Va12 (2002) = some (.inl (cy 0, 12, .inl (fun _ => 0))) := by rw [hva12 (2002) (by omega)]; exact h2002
  have h2003 : Va12 (2003) = some (.inl (cy 0, 12, .inl (fun _ => 0))) := by rw [hva12 (2003) (by omega)]; exact h2003
  have h2004 : Va12 (2004) = some (.inl (cy 0, 12, .inl (fun _ => 0))) := by rw [hva12 (2004) (by omega)]; exact h2004
  have h2005 : Va12 (2005) = some (.inl (cy 0, 12, .inl (fun _ => 0))) := by rw [hva12 (2005) (by omega)]; exact h2005
  have h2006 : Va12 (2006) = some (.inl (cy 0, 12, .inl (fun _ => 0))) := by rw [hva12 (2006) (by omega)]; exact h2006
  have h2008 : Va12 (2008) = some (.inl (cy 0, 640, .inl (fun _ => 0))) := by rw [hva12 (2008) (by omega)]; exact h2008
  have h2009 : Va12 (2009) = some (.inl (cy 1, 48, .inr (.inl (fun _ => 0)))) := by rw [hva12 (2009) (by omega)]; exact h2009
  have h2010 : Va12 (2010) = some (.inl (cy 2, 48, .inl (fun _ => 0))) := by rw [hva12 (2010) (by omega)]; exact h2010
  have h2011 : Va12 (2011) = some (.inl (cy 0, 4, .inl (fun _ => 0))) := by rw [hva12 (2011) (by omega)]; exact h2011
  have h2012 : Va12 (2012) = some (.inl (cy 0, 4, .inl (fun _ => 0))) := by rw [hva12 (2012) (by omega)]; exact h2012
  have h2013 : Va12 (2013) = some (.inl (cy 0, 4, .inl (fun _ => 0))) := by rw [hva12 (2013) (by omega)]; exact h2013
  have h2000 : Va12 (2000) = some (.inr (7, [.int (0), .int (0), .ref (ada12 (2002)), .ref (ada12 (2003)), .ref (ada12 (2004)), .ref (ada12 (2005)), .ref (ada12 (2006)), .int (nI 1), .ref (ada12 (2008)), .ref (ada12 (2009)), .ref (ada12 (2010)), .ref (ada12 (2011)), .ref (ada12 (2012)), .ref (ada12 (2013)), .null, .null, .null, .null, .null, .null, .null, .int (0), .int (0), .null, .null, .null, .null, .null])) := by rw [hva12 (2000) (by omega), haa12 (2002) (by omega), haa12 (2003) (by omega), haa12 (2004) (by omega), haa12 (2005) (by omega), haa12 (2006) (by omega), haa12 (2008) (by omega), haa12 (2009) (by omega), haa12 (2010) (by omega), haa12 (2011) (by omega), haa12 (2012) (by omega), haa12 (2013) (by omega)]; exact h2000
  refine p_X7_X7_isBatch hx hb hown hnm hK hW hS h2000 dX7_init_99 (fun H locs hW hS => ?_)
  obtain ⟨V13, eV13⟩ : ∃ x9, x9 = va_up Va12 (2000) (some (.inr (7, [.int (0), .int (0), .ref (ada12 (2002)), .ref (ada12 (2003)), .ref (ada12 (2004)), .ref (ada12 (2005)), .ref (ada12 (2006)), .int (nI 1), .ref (ada12 (2008)), .ref (ada12 (2009)), .ref (ada12 (2010)), .ref (ada12 (2011)), .ref (ada12 (2012)), .ref (ada12 (2013)), .ref (ada12 (2014)), .null, .null, .null, .null, .null, .null, .int (0), .int (0), .null, .null, .null, .null, .null]))) := ⟨_, rfl⟩
  rw [← eV13] at hW
  have h2002 : V13 (2002) = some (.inl (cy 0, 12, .inl (fun _ => 0))) := by rw [eV13, va_up_ne _ _ (by omega)]; exact h2002
  have h2003 : V13 (2003) = some (.inl (cy 0, 12, .inl (fun _ => 0))) := by rw [eV13, va_up_ne _ _ (by omega)]; exact h2003
  have h2004 : V13 (2004) = some (.inl (cy 0, 12, .inl (fun _ => 0))) := by rw [eV13, va_up_ne _ _ (by omega)]; exact h2004
  have h2005 : V13 (2005) = some (.inl (cy 0, 12, .inl (fun _ => 0))) := by rw [eV13, va_up_ne _ _ (by omega)]; exact h2005
  have h2006 : V13 (2006) = some (.inl (cy 0, 12, .inl (fun _ => 0))) := by rw [eV13, va_up_ne _ _ (by omega)]; exact h2006
  have h2008 : V13 (2008) = some (.inl (cy 0, 640, .inl (fun _ => 0))) := by rw [eV13, va_up_ne _ _ (by omega)]; exact h2008
  have h2009 : V13 (2009) = some (.inl (cy 1, 48, .inr (.inl (fun _ => 0)))) := by rw [eV13, va_up_ne _ _ (by omega)]; exact h2009
  have h2010 : V13 (2010) = some (.inl (cy 2, 48, .inl (fun _ => 0))) := by rw [eV13, va_up_ne _ _ (by omega)]; exact h2010
  have h2011 : V13 (2011) = some (.inl (cy 0, 4, .inl (fun _ => 0))) := by rw [eV13, va_up_ne _ _ (by omega)]; exact h2011
  have h2012 : V13 (2012) = some (.inl (cy 0, 4, .inl (fun _ => 0))) := by rw [eV13, va_up_ne _ _ (by omega)]; exact h2012
  have h2013 : V13 (2013) = some (.inl (cy 0, 4, .inl (fun _ => 0))) := by rw [eV13, va_up_ne _ _ (by omega)]; exact h2013
  have h2014 : V13 (2014) = some (.inl (cy 2, 4, .inl (fun _ => 0))) := by rw [eV13, va_up_ne _ _ (by omega)]; exact h2014
  have h2000 : V13 (2000) = some (.inr (7, [.int (0), .int (0), .ref (ada12 (2002)), .ref (ada12 (2003)), .ref (ada12 (2004)), .ref (ada12 (2005)), .ref (ada12 (2006)), .int (nI 1), .ref (ada12 (2008)), .ref (ada12 (2009)), .ref (ada12 (2010)), .ref (ada12 (2011)), .ref (ada12 (2012)), .ref (ada12 (2013)), .ref (ada12 (2014)), .null, .null, .null, .null, .null, .null, .int (0), .int (0), .null, .null, .null, .null, .null])) := by rw [eV13, va_up_self]
  refine lv_aload_n hx hb dX7_init_102 rfl (lv_at hl 0 rfl) ?_
  refine lv_iconst (v := nI 4) hx hb dX7_init_103 (by decide) ?_
  refine w_newI hx hb hK hW hS hz (N := 4) (2015) (by rw [eV13, va_up_ne _ _ (by omega), hva12 (2015) (by omega), eV12, va_up_ne _ _ (by omega), hva11 (2015) (by omega), eV11, va_up_ne _ _ (by omega), hva10 (2015) (by omega), eV10, va_up_ne _ _ (by omega), hva9 (2015) (by omega), eV9, va_up_ne _ _ (by omega), hva8 (2015) (by omega), eV8, va_up_ne _ _ (by omega), hva7 (2015) (by omega), eV7, va_up_ne _ _ (by omega), hva6 (2015) (by omega), eV6, va_up_ne _ _ (by omega), eV5, va_up_ne _ _ (by omega), hva5 (2015) (by omega), eV4, va_up_ne _ _ (by omega), hva4 (2015) (by omega), eV3, va_up_ne _ _ (by omega), hva3 (2015) (by omega), eV2, va_up_ne _ _ (by omega), hva2 (2015) (by omega), eV1, va_up_ne _ _ (by omega), hva1 (2015) (by omega)]; exact hfree _ (by omega) (by omega)) (by decide) (by decide) (by decide) dX7_init_104 (fun qa13 H hW hS => ?_)
  obtain ⟨ada13, eada13⟩ : ∃ x9, x9 = va_up ada12 (2015) qa13 := ⟨_, rfl⟩
  obtain ⟨Va13, eVa13⟩ : ∃ x9, x9 = va_up V13 (2015) (some (.inl (cy 0, 4, .inl (fun _ => 0)))) := ⟨_, rfl⟩
  rw [← eada13, ← eVa13] at hW
  have hva13 : ∀ L, ¬ L = (2015) → Va13 L = V13 L := fun L h => by rw [eVa13, va_up_ne _ _ h]
  have haa13 : ∀ L, ¬ L = (2015) → ada13 L = ada12 L := fun L h => by rw [eada13, va_up_ne _ _ h]
  have eqa13 : qa13 = ada13 (2015) := by rw [eada13, va_up_self]
  have h2015 : Va13 (2015) = some (.inl (cy 0, 4, .inl (fun _ => 0))) := by rw [eVa13, va_up_self]
  have hl : lv_has ls 2 [(0, .ref (ada13 (2000)))] := by rw [haa13 (2000) (by omega)]; exact hl
  refine W.eq (g2 := F0 m 106 ls [.ref (ada13 (2015)), .ref (ada13 (2000))]) (by rw [eqa13, haa13 (2000) (by omega)]) ?_
  have h2002 : Va13 (2002) = some (.inl (cy 0, 12, .inl (fun _ => 0))) := by rw [hva13 (2002) (by omega)]; exact h2002
  have h2003 : Va13 (2003) = some (.inl (cy 0, 12, .inl (fun _ => 0))) := by rw [hva13 (2003) (by omega)]; exact h2003
  have h2004 : Va13 (2004) = some (.inl (cy 0, 12, .inl (fun _ => 0))) := by rw [hva13 (2004) (by omega)]; exact h2004
  have h2005 : Va13 (2005) = some (.inl (cy 0, 12, .inl (fun _ => 0))) := by rw [hva13 (2005) (by omega)]; exact h2005
  have h2006 : Va13 (2006) = some (.inl (cy 0, 12, .inl (fun _ => 0))) := by rw [hva13 (2006) (by omega)]; exact h2006
  have h2008 : Va13 (2008) = some (.inl (cy 0, 640, .inl (fun _ => 0))) := by rw [hva13 (2008) (by omega)]; exact h2008
  have h2009 : Va13 (2009) = some (.inl (cy 1, 48, .inr (.inl (fun _ => 0)))) := by rw [hva13 (2009) (by omega)]; exact h2009
  have h2010 : Va13 (2010) = some (.inl (cy 2, 48, .inl (fun _ => 0))) := by rw [hva13 (2010) (by omega)]; exact h2010
  have h2011 : Va13 (2011) = some (.inl (cy 0, 4, .inl (fun _ => 0))) := by rw [hva13 (2011) (by omega)]; exact h2011
  have h2012 : Va13 (2012) = some (.inl (cy 0, 4, .inl (fun _ => 0))) := by rw [hva13 (2012) (by omega)]; exact h2012
  have h2013 : Va13 (2013) = some (.inl (cy 0, 4, .inl (fun _ => 0))) := by rw [hva13 (2013) (by omega)]; exact h2013
  have h2014 : Va13 (2014) = some (.inl (cy 2, 4, .inl (fun _ => 0))) := by rw [hva13 (2014) (by omega)]; exact h2014
  have h2000 : Va13 (2000) = some (.inr (7, [.int (0), .int (0), .ref (ada13 (2002)), .ref (ada13 (2003)), .ref (ada13 (2004)), .ref (ada13 (2005)), .ref (ada13 (2006)), .int (nI 1), .ref (ada13 (2008)), .ref (ada13 (2009)), .ref (ada13 (2010)), .ref (ada13 (2011)), .ref (ada13 (2012)), .ref (ada13 (2013)), .ref (ada13 (2014)), .null, .null, .null, .null, .null, .null, .int (0), .int (0), .null, .null, .null, .null, .null])) := by rw [hva13 (2000) (by omega), haa13 (2002) (by omega), haa13 (2003) (by omega), haa13 (2004) (by omega), haa13 (2005) (by omega), haa13 (2006) (by omega), haa13 (2008) (by omega), haa13 (2009) (by omega), haa13 (2010) (by omega), haa13 (2011) (by omega), haa13 (2012) (by omega), haa13 (2013) (by omega), haa13 (2014) (by omega)]; exact h2000
  refine p_X7_X7_batch hx hb hown hnm hK hW hS h2000 dX7_init_106 (fun H locs hW hS => ?_)
  obtain ⟨V14, eV14⟩ : ∃ x9, x9 = va_up Va13 (2000) (some (.inr (7, [.int (0), .int (0), .ref (ada13 (2002)), .ref (ada13 (2003)), .ref (ada13 (2004)), .ref (ada13 (2005)), .ref (ada13 (2006)), .int (nI 1), .ref (ada13 (2008)), .ref (ada13 (2009)), .ref (ada13 (2010)), .ref (ada13 (2011)), .ref (ada13 (2012)), .ref (ada13 (2013)), .ref (ada13 (2014)), .ref (ada13 (2015)), .null, .null, .null, .null, .null, .int (0), .int (0), .null, .null, .null, .null, .null]))) := ⟨_, rfl⟩
  rw [← eV14] at hW
  have h2002 : V14 (2002) = some (.inl (cy 0, 12, .inl (fun _ => 0))) := by rw [eV14, va_up_ne _ _ (by omega)]; exact h2002
  have h2003 : V14 (2003) = some (.inl (cy 0, 12, .inl (fun _ => 0))) := by rw [eV14, va_up_ne _ _ (by omega)]; exact h2003
  have h2004 : V14 (2004) = some (.inl (cy 0, 12, .inl (fun _ => 0))) := by rw [eV14, va_up_ne _ _ (by omega)]; exact h2004
  have h2005 : V14 (2005) = some (.inl (cy 0, 12, .inl (fun _ => 0))) := by rw [eV14, va_up_ne _ _ (by omega)]; exact h2005
  have h2006 : V14 (2006) = some (.inl (cy 0, 12, .inl (fun _ => 0))) := by rw [eV14, va_up_ne _ _ (by omega)]; exact h2006
  have h2008 : V14 (2008) = some (.inl (cy 0, 640, .inl (fun _ => 0))) := by rw [eV14, va_up_ne _ _ (by omega)]; exact h2008
  have h2009 : V14 (2009) = some (.inl (cy 1, 48, .inr (.inl (fun _ => 0)))) := by rw [eV14, va_up_ne _ _ (by omega)]; exact h2009
  have h2010 : V14 (2010) = some (.inl (cy 2, 48, .inl (fun _ => 0))) := by rw [eV14, va_up_ne _ _ (by omega)]; exact h2010
  have h2011 : V14 (2011) = some (.inl (cy 0, 4, .inl (fun _ => 0))) := by rw [eV14, va_up_ne _ _ (by omega)]; exact h2011
  have h2012 : V14 (2012) = some (.inl (cy 0, 4, .inl (fun _ => 0))) := by rw [eV14, va_up_ne _ _ (by omega)]; exact h2012
  have h2013 : V14 (2013) = some (.inl (cy 0, 4, .inl (fun _ => 0))) := by rw [eV14, va_up_ne _ _ (by omega)]; exact h2013
  have h2014 : V14 (2014) = some (.inl (cy 2, 4, .inl (fun _ => 0))) := by rw [eV14, va_up_ne _ _ (by omega)]; exact h2014
  have h2015 : V14 (2015) = some (.inl (cy 0, 4, .inl (fun _ => 0))) := by rw [eV14, va_up_ne _ _ (by omega)]; exact h2015
  have h2000 : V14 (2000) = some (.inr (7, [.int (0), .int (0), .ref (ada13 (2002)), .ref (ada13 (2003)), .ref (ada13 (2004)), .ref (ada13 (2005)), .ref (ada13 (2006)), .int (nI 1), .ref (ada13 (2008)), .ref (ada13 (2009)), .ref (ada13 (2010)), .ref (ada13 (2011)), .ref (ada13 (2012)), .ref (ada13 (2013)), .ref (ada13 (2014)), .ref (ada13 (2015)), .null, .null, .null, .null, .null, .int (0), .int (0), .null, .null, .null, .null, .null])) := by rw [eV14, va_up_self]
  refine lv_aload_n hx hb dX7_init_109 rfl (lv_at hl 0 rfl) ?_
  refine lv_iconst (v := nI 4) hx hb dX7_init_110 (by decide) ?_
  refine w_newI hx hb hK hW hS hz (N := 4) (2016) (by rw [eV14, va_up_ne _ _ (by omega), hva13 (2016) (by omega), eV13, va_up_ne _ _ (by omega), hva12 (2016) (by omega), eV12, va_up_ne _ _ (by omega), hva11 (2016) (by omega), eV11, va_up_ne _ _ (by omega), hva10 (2016) (by omega), eV10, va_up_ne _ _ (by omega), hva9 (2016) (by omega), eV9, va_up_ne _ _ (by omega), hva8 (2016) (by omega), eV8, va_up_ne _ _ (by omega), hva7 (2016) (by omega), eV7, va_up_ne _ _ (by omega), hva6 (2016) (by omega), eV6, va_up_ne _ _ (by omega), eV5, va_up_ne _ _ (by omega), hva5 (2016) (by omega), eV4, va_up_ne _ _ (by omega), hva4 (2016) (by omega), eV3, va_up_ne _ _ (by omega), hva3 (2016) (by omega), eV2, va_up_ne _ _ (by omega), hva2 (2016) (by omega), eV1, va_up_ne _ _ (by omega), hva1 (2016) (by omega)]; exact hfree _ (by omega) (by omega)) (by decide) (by decide) (by decide) dX7_init_111 (fun qa14 H hW hS => ?_)
  obtain ⟨ada14, eada14⟩ : ∃ x9, x9 = va_up ada13 (2016) qa14 := ⟨_, rfl⟩
  obtain ⟨Va14, eVa14⟩ : ∃ x9, x9 = va_up V14 (2016) (some (.inl (cy 0, 4, .inl (fun _ => 0)))) := ⟨_, rfl⟩
  rw [← eada14, ← eVa14] at hW
  have hva14 : ∀ L, ¬ L = (2016) → Va14 L = V14 L := fun L h => by rw [eVa14, va_up_ne _ _ h]
  have haa14 : ∀ L, ¬ L = (2016) → ada14 L = ada13 L := fun L h => by rw [eada14, va_up_ne _ _ h]
  have eqa14 : qa14 = ada14 (2016) := by rw [eada14, va_up_self]
  have h2016 : Va14 (2016) = some (.inl (cy 0, 4, .inl (fun _ => 0))) := by rw [eVa14, va_up_self]
  have hl : lv_has ls 2 [(0, .ref (ada14 (2000)))] := by rw [haa14 (2000) (by omega)]; exact hl
  refine W.eq (g2 := F0 m 113 ls [.ref (ada14 (2016)), .ref (ada14 (2000))]) (by rw [eqa14, haa14 (2000) (by omega)]) ?_
  have h2002 : Va14 (2002) = some (.inl (cy 0, 12, .inl (fun _ => 0))) := by rw [hva14 (2002) (by omega)]; exact h2002
  have h2003 : Va14 (2003) = some (.inl (cy 0, 12, .inl (fun _ => 0))) := by rw [hva14 (2003) (by omega)]; exact h2003
  have h2004 : Va14 (2004) = some (.inl (cy 0, 12, .inl (fun _ => 0))) := by rw [hva14 (2004) (by omega)]; exact h2004
  have h2005 : Va14 (2005) = some (.inl (cy 0, 12, .inl (fun _ => 0))) := by rw [hva14 (2005) (by omega)]; exact h2005
  have h2006 : Va14 (2006) = some (.inl (cy 0, 12, .inl (fun _ => 0))) := by rw [hva14 (2006) (by omega)]; exact h2006
  have h2008 : Va14 (2008) = some (.inl (cy 0, 640, .inl (fun _ => 0))) := by rw [hva14 (2008) (by omega)]; exact h2008
  have h2009 : Va14 (2009) = some (.inl (cy 1, 48, .inr (.inl (fun _ => 0)))) := by rw [hva14 (2009) (by omega)]; exact h2009
  have h2010 : Va14 (2010) = some (.inl (cy 2, 48, .inl (fun _ => 0))) := by rw [hva14 (2010) (by omega)]; exact h2010
  have h2011 : Va14 (2011) = some (.inl (cy 0, 4, .inl (fun _ => 0))) := by rw [hva14 (2011) (by omega)]; exact h2011
  have h2012 : Va14 (2012) = some (.inl (cy 0, 4, .inl (fun _ => 0))) := by rw [hva14 (2012) (by omega)]; exact h2012
  have h2013 : Va14 (2013) = some (.inl (cy 0, 4, .inl (fun _ => 0))) := by rw [hva14 (2013) (by omega)]; exact h2013
  have h2014 : Va14 (2014) = some (.inl (cy 2, 4, .inl (fun _ => 0))) := by rw [hva14 (2014) (by omega)]; exact h2014
  have h2015 : Va14 (2015) = some (.inl (cy 0, 4, .inl (fun _ => 0))) := by rw [hva14 (2015) (by omega)]; exact h2015
  have h2000 : Va14 (2000) = some (.inr (7, [.int (0), .int (0), .ref (ada14 (2002)), .ref (ada14 (2003)), .ref (ada14 (2004)), .ref (ada14 (2005)), .ref (ada14 (2006)), .int (nI 1), .ref (ada14 (2008)), .ref (ada14 (2009)), .ref (ada14 (2010)), .ref (ada14 (2011)), .ref (ada14 (2012)), .ref (ada14 (2013)), .ref (ada14 (2014)), .ref (ada14 (2015)), .null, .null, .null, .null, .null, .int (0), .int (0), .null, .null, .null, .null, .null])) := by rw [hva14 (2000) (by omega), haa14 (2002) (by omega), haa14 (2003) (by omega), haa14 (2004) (by omega), haa14 (2005) (by omega), haa14 (2006) (by omega), haa14 (2008) (by omega), haa14 (2009) (by omega), haa14 (2010) (by omega), haa14 (2011) (by omega), haa14 (2012) (by omega), haa14 (2013) (by omega), haa14 (2014) (by omega), haa14 (2015) (by omega)]; exact h2000
  refine p_X7_X7_known hx hb hown hnm hK hW hS h2000 dX7_init_113 (fun H locs hW hS => ?_)
  obtain ⟨V15, eV15⟩ : ∃ x9, x9 = va_up Va14 (2000) (some (.inr (7, [.int (0), .int (0), .ref (ada14 (2002)), .ref (ada14 (2003)), .ref (ada14 (2004)), .ref (ada14 (2005)), .ref (ada14 (2006)), .int (nI 1), .ref (ada14 (2008)), .ref (ada14 (2009)), .ref (ada14 (2010)), .ref (ada14 (2011)), .ref (ada14 (2012)), .ref (ada14 (2013)), .ref (ada14 (2014)), .ref (ada14 (2015)), .ref (ada14 (2016)), .null, .null, .null, .null, .int (0), .int (0), .null, .null, .null, .null, .null]))) := ⟨_, rfl⟩
  rw [← eV15] at hW
  have h2002 : V15 (2002) = some (.inl (cy 0, 12, .inl (fun _ => 0))) := by rw [eV15, va_up_ne _ _ (by omega)]; exact h2002
  have h2003 : V15 (2003) = some (.inl (cy 0, 12, .inl (fun _ => 0))) := by rw [eV15, va_up_ne _ _ (by omega)]; exact h2003
  have h2004 : V15 (2004) = some (.inl (cy 0, 12, .inl (fun _ => 0))) := by rw [eV15, va_up_ne _ _ (by omega)]; exact h2004
  have h2005 : V15 (2005) = some (.inl (cy 0, 12, .inl (fun _ => 0))) := by rw [eV15, va_up_ne _ _ (by omega)]; exact h2005
  have h2006 : V15 (2006) = some (.inl (cy 0, 12, .inl (fun _ => 0))) := by rw [eV15, va_up_ne _ _ (by omega)]; exact h2006
  have h2008 : V15 (2008) = some (.inl (cy 0, 640, .inl (fun _ => 0))) := by rw [eV15, va_up_ne _ _ (by omega)]; exact h2008
  have h2009 : V15 (2009) = some (.inl (cy 1, 48, .inr (.inl (fun _ => 0)))) := by rw [eV15, va_up_ne _ _ (by omega)]; exact h2009
  have h2010 : V15 (2010) = some (.inl (cy 2, 48, .inl (fun _ => 0))) := by rw [eV15, va_up_ne _ _ (by omega)]; exact h2010
  have h2011 : V15 (2011) = some (.inl (cy 0, 4, .inl (fun _ => 0))) := by rw [eV15, va_up_ne _ _ (by omega)]; exact h2011
  have h2012 : V15 (2012) = some (.inl (cy 0, 4, .inl (fun _ => 0))) := by rw [eV15, va_up_ne _ _ (by omega)]; exact h2012
  have h2013 : V15 (2013) = some (.inl (cy 0, 4, .inl (fun _ => 0))) := by rw [eV15, va_up_ne _ _ (by omega)]; exact h2013
  have h2014 : V15 (2014) = some (.inl (cy 2, 4, .inl (fun _ => 0))) := by rw [eV15, va_up_ne _ _ (by omega)]; exact h2014
  have h2015 : V15 (2015) = some (.inl (cy 0, 4, .inl (fun _ => 0))) := by rw [eV15, va_up_ne _ _ (by omega)]; exact h2015
  have h2016 : V15 (2016) = some (.inl (cy 0, 4, .inl (fun _ => 0))) := by rw [eV15, va_up_ne _ _ (by omega)]; exact h2016
  have h2000 : V15 (2000) = some (.inr (7, [.int (0), .int (0), .ref (ada14 (2002)), .ref (ada14 (2003)), .ref (ada14 (2004)), .ref (ada14 (2005)), .ref (ada14 (2006)), .int (nI 1), .ref (ada14 (2008)), .ref (ada14 (2009)), .ref (ada14 (2010)), .ref (ada14 (2011)), .ref (ada14 (2012)), .ref (ada14 (2013)), .ref (ada14 (2014)), .ref (ada14 (2015)), .ref (ada14 (2016)), .null, .null, .null, .null, .int (0), .int (0), .null, .null, .null, .null, .null])) := by rw [eV15, va_up_self]
  refine lv_aload_n hx hb dX7_init_116 rfl (lv_at hl 0 rfl) ?_
  refine lv_sipush (v := nI 240) hx hb dX7_init_117 (by decide) ?_
  refine w_newI hx hb hK hW hS hz (N := 240) (2017) (by rw [eV15, va_up_ne _ _ (by omega), hva14 (2017) (by omega), eV14, va_up_ne _ _ (by omega), hva13 (2017) (by omega), eV13, va_up_ne _ _ (by omega), hva12 (2017) (by omega), eV12, va_up_ne _ _ (by omega), hva11 (2017) (by omega), eV11, va_up_ne _ _ (by omega), hva10 (2017) (by omega), eV10, va_up_ne _ _ (by omega), hva9 (2017) (by omega), eV9, va_up_ne _ _ (by omega), hva8 (2017) (by omega), eV8, va_up_ne _ _ (by omega), hva7 (2017) (by omega), eV7, va_up_ne _ _ (by omega), hva6 (2017) (by omega), eV6, va_up_ne _ _ (by omega), eV5, va_up_ne _ _ (by omega), hva5 (2017) (by omega), eV4, va_up_ne _ _ (by omega), hva4 (2017) (by omega), eV3, va_up_ne _ _ (by omega), hva3 (2017) (by omega), eV2, va_up_ne _ _ (by omega), hva2 (2017) (by omega), eV1, va_up_ne _ _ (by omega), hva1 (2017) (by omega)]; exact hfree _ (by omega) (by omega)) (by decide) (by decide) (by decide) dX7_init_120 (fun qa15 H hW hS => ?_)
  obtain ⟨ada15, eada15⟩ : ∃ x9, x9 = va_up ada14 (2017) qa15 := ⟨_, rfl⟩
  obtain ⟨Va15, eVa15⟩ : ∃ x9, x9 = va_up V15 (2017) (some (.inl (cy 0, 240, .inl (fun _ => 0)))) := ⟨_, rfl⟩
  rw [← eada15, ← eVa15] at hW
  have hva15 : ∀ L, ¬ L = (2017) → Va15 L = V15 L := fun L h => by rw [eVa15, va_up_ne _ _ h]
  have haa15 : ∀ L, ¬ L = (2017) → ada15 L = ada14 L := fun L h => by rw [eada15, va_up_ne _ _ h]
  have eqa15 : qa15 = ada15 (2017) := by rw [eada15, va_up_self]
  have h2017 : Va15 (2017) = some (.inl (cy 0, 240, .inl (fun _ => 0))) := by rw [eVa15, va_up_self]
  have hl : lv_has ls 2 [(0, .ref (ada15 (2000)))] := by rw [haa15 (2000) (by omega)]; exact hl
  refine W.eq (g2 := F0 m 122 ls [.ref (ada15 (2017)), .ref (ada15 (2000))]) (by rw [eqa15, haa15 (2000) (by omega)]) ?_
  have h2002 : Va15 (2002) = some (.inl (cy 0, 12, .inl (fun _ => 0))) := by rw [hva15 (2002) (by omega)]; exact h2002
  have h2003 : Va15 (2003) = some (.inl (cy 0, 12, .inl (fun _ => 0))) := by rw [hva15 (2003) (by omega)]; exact h2003
  have h2004 : Va15 (2004) = some (.inl (cy 0, 12, .inl (fun _ => 0))) := by rw [hva15 (2004) (by omega)]; exact h2004
  have h2005 : Va15 (2005) = some (.inl (cy 0, 12, .inl (fun _ => 0))) := by rw [hva15 (2005) (by omega)]; exact h2005
  have h2006 : Va15 (2006) = some (.inl (cy 0, 12, .inl (fun _ => 0))) := by rw [hva15 (2006) (by omega)]; exact h2006
  have h2008 : Va15 (2008) = some (.inl (cy 0, 640, .inl (fun _ => 0))) := by rw [hva15 (2008) (by omega)]; exact h2008
  have h2009 : Va15 (2009) = some (.inl (cy 1, 48, .inr (.inl (fun _ => 0)))) := by rw [hva15 (2009) (by omega)]; exact h2009
  have h2010 : Va15 (2010) = some (.inl (cy 2, 48, .inl (fun _ => 0))) := by rw [hva15 (2010) (by omega)]; exact h2010
  have h2011 : Va15 (2011) = some (.inl (cy 0, 4, .inl (fun _ => 0))) := by rw [hva15 (2011) (by omega)]; exact h2011
  have h2012 : Va15 (2012) = some (.inl (cy 0, 4, .inl (fun _ => 0))) := by rw [hva15 (2012) (by omega)]; exact h2012
  have h2013 : Va15 (2013) = some (.inl (cy 0, 4, .inl (fun _ => 0))) := by rw [hva15 (2013) (by omega)]; exact h2013
  have h2014 : Va15 (2014) = some (.inl (cy 2, 4, .inl (fun _ => 0))) := by rw [hva15 (2014) (by omega)]; exact h2014
  have h2015 : Va15 (2015) = some (.inl (cy 0, 4, .inl (fun _ => 0))) := by rw [hva15 (2015) (by omega)]; exact h2015
  have h2016 : Va15 (2016) = some (.inl (cy 0, 4, .inl (fun _ => 0))) := by rw [hva15 (2016) (by omega)]; exact h2016
  have h2000 : Va15 (2000) = some (.inr (7, [.int (0), .int (0), .ref (ada15 (2002)), .ref (ada15 (2003)), .ref (ada15 (2004)), .ref (ada15 (2005)), .ref (ada15 (2006)), .int (nI 1), .ref (ada15 (2008)), .ref (ada15 (2009)), .ref (ada15 (2010)), .ref (ada15 (2011)), .ref (ada15 (2012)), .ref (ada15 (2013)), .ref (ada15 (2014)), .ref (ada15 (2015)), .ref (ada15 (2016)), .null, .null, .null, .null, .int (0), .int (0), .null, .null, .null, .null, .null])) := by rw [hva15 (2000) (by omega), haa15 (2002) (by omega), haa15 (2003) (by omega), haa15 (2004) (by omega), haa15 (2005) (by omega), haa15 (2006) (by omega), haa15 (2008) (by omega), haa15 (2009) (by omega), haa15 (2010) (by omega), haa15 (2011) (by omega), haa15 (2012) (by omega), haa15 (2013) (by omega), haa15 (2014) (by omega), haa15 (2015) (by omega), haa15 (2016) (by omega)]; exact h2000
  refine p_X7_X7_oldObject hx hb hown hnm hK hW hS h2000 dX7_init_122 (fun H locs hW hS => ?_)
  obtain ⟨V16, eV16⟩ : ∃ x9, x9 = va_up Va15 (2000) (some (.inr (7, [.int (0), .int (0), .ref (ada15 (2002)), .ref (ada15 (2003)), .ref (ada15 (2004)), .ref (ada15 (2005)), .ref (ada15 (2006)), .int (nI 1), .ref (ada15 (2008)), .ref (ada15 (2009)), .ref (ada15 (2010)), .ref (ada15 (2011)), .ref (ada15 (2012)), .ref (ada15 (2013)), .ref (ada15 (2014)), .ref (ada15 (2015)), .ref (ada15 (2016)), .ref (ada15 (2017)), .null, .null, .null, .int (0), .int (0), .null, .null, .null, .null, .null]))) := ⟨_, rfl⟩
  rw [← eV16] at hW
  have h2002 : V16 (2002) = some (.inl (cy 0, 12, .inl (fun _ => 0))) := by rw [eV16, va_up_ne _ _ (by omega)]; exact h2002
  have h2003 : V16 (2003) = some (.inl (cy 0, 12, .inl (fun _ => 0))) := by rw [eV16, va_up_ne _ _ (by omega)]; exact h2003
  have h2004 : V16 (2004) = some (.inl (cy 0, 12, .inl (fun _ => 0))) := by rw [eV16, va_up_ne _ _ (by omega)]; exact h2004
  have h2005 : V16 (2005) = some (.inl (cy 0, 12, .inl (fun _ => 0))) := by rw [eV16, va_up_ne _ _ (by omega)]; exact h2005
  have h2006 : V16 (2006) = some (.inl (cy 0, 12, .inl (fun _ => 0))) := by rw [eV16, va_up_ne _ _ (by omega)]; exact h2006
  have h2008 : V16 (2008) = some (.inl (cy 0, 640, .inl (fun _ => 0))) := by rw [eV16, va_up_ne _ _ (by omega)]; exact h2008
  have h2009 : V16 (2009) = some (.inl (cy 1, 48, .inr (.inl (fun _ => 0)))) := by rw [eV16, va_up_ne _ _ (by omega)]; exact h2009
  have h2010 : V16 (2010) = some (.inl (cy 2, 48, .inl (fun _ => 0))) := by rw [eV16, va_up_ne _ _ (by omega)]; exact h2010
  have h2011 : V16 (2011) = some (.inl (cy 0, 4, .inl (fun _ => 0))) := by rw [eV16, va_up_ne _ _ (by omega)]; exact h2011
  have h2012 : V16 (2012) = some (.inl (cy 0, 4, .inl (fun _ => 0))) := by rw [eV16, va_up_ne _ _ (by omega)]; exact h2012
  have h2013 : V16 (2013) = some (.inl (cy 0, 4, .inl (fun _ => 0))) := by rw [eV16, va_up_ne _ _ (by omega)]; exact h2013
  have h2014 : V16 (2014) = some (.inl (cy 2, 4, .inl (fun _ => 0))) := by rw [eV16, va_up_ne _ _ (by omega)]; exact h2014
  have h2015 : V16 (2015) = some (.inl (cy 0, 4, .inl (fun _ => 0))) := by rw [eV16, va_up_ne _ _ (by omega)]; exact h2015
  have h2016 : V16 (2016) = some (.inl (cy 0, 4, .inl (fun _ => 0))) := by rw [eV16, va_up_ne _ _ (by omega)]; exact h2016
  have h2017 : V16 (2017) = some (.inl (cy 0, 240, .inl (fun _ => 0))) := by rw [eV16, va_up_ne _ _ (by omega)]; exact h2017
  have h2000 : V16 (2000) = some (.inr (7, [.int (0), .int (0), .ref (ada15 (2002)), .ref (ada15 (2003)), .ref (ada15 (2004)), .ref (ada15 (2005)), .ref (ada15 (2006)), .int (nI 1), .ref (ada15 (2008)), .ref (ada15 (2009)), .ref (ada15 (2010)), .ref (ada15 (2011)), .ref (ada15 (2012)), .ref (ada15 (2013)), .ref (ada15 (2014)), .ref (ada15 (2015)), .ref (ada15 (2016)), .ref (ada15 (2017)), .null, .null, .null, .int (0), .int (0), .null, .null, .null, .null, .null])) := by rw [eV16, va_up_self]
  refine lv_aload_n hx hb dX7_init_125 rfl (lv_at hl 0 rfl) ?_
  refine lv_sipush (v := nI 240) hx hb dX7_init_126 (by decide) ?_
  refine w_newI hx hb hK hW hS hz (N := 240) (2018) (by rw [eV16, va_up_ne _ _ (by omega), hva15 (2018) (by omega), eV15, va_up_ne _ _ (by omega), hva14 (2018) (by omega), eV14, va_up_ne _ _ (by omega), hva13 (2018) (by omega), eV13, va_up_ne _ _ (by omega), hva12 (2018) (by omega), eV12, va_up_ne _ _ (by omega), hva11 (2018) (by omega), eV11, va_up_ne _ _ (by omega), hva10 (2018) (by omega), eV10, va_up_ne _ _ (by omega), hva9 (2018) (by omega), eV9, va_up_ne _ _ (by omega), hva8 (2018) (by omega), eV8, va_up_ne _ _ (by omega), hva7 (2018) (by omega), eV7, va_up_ne _ _ (by omega), hva6 (2018) (by omega), eV6, va_up_ne _ _ (by omega), eV5, va_up_ne _ _ (by omega), hva5 (2018) (by omega), eV4, va_up_ne _ _ (by omega), hva4 (2018) (by omega), eV3, va_up_ne _ _ (by omega), hva3 (2018) (by omega), eV2, va_up_ne _ _ (by omega), hva2 (2018) (by omega), eV1, va_up_ne _ _ (by omega), hva1 (2018) (by omega)]; exact hfree _ (by omega) (by omega)) (by decide) (by decide) (by decide) dX7_init_129 (fun qa16 H hW hS => ?_)
  obtain ⟨ada16, eada16⟩ : ∃ x9, x9 = va_up ada15 (2018) qa16 := ⟨_, rfl⟩
  obtain ⟨Va16, eVa16⟩ : ∃ x9, x9 = va_up V16 (2018) (some (.inl (cy 0, 240, .inl (fun _ => 0)))) := ⟨_, rfl⟩
  rw [← eada16, ← eVa16] at hW
  have hva16 : ∀ L, ¬ L = (2018) → Va16 L = V16 L := fun L h => by rw [eVa16, va_up_ne _ _ h]
  have haa16 : ∀ L, ¬ L = (2018) → ada16 L = ada15 L := fun L h => by rw [eada16, va_up_ne _ _ h]
  have eqa16 : qa16 = ada16 (2018) := by rw [eada16, va_up_self]
  have h2018 : Va16 (2018) = some (.inl (cy 0, 240, .inl (fun _ => 0))) := by rw [eVa16, va_up_self]
  have hl : lv_has ls 2 [(0, .ref (ada16 (2000)))] := by rw [haa16 (2000) (by omega)]; exact hl
  refine W.eq (g2 := F0 m 131 ls [.ref (ada16 (2018)), .ref (ada16 (2000))]) (by rw [eqa16, haa16 (2000) (by omega)]) ?_
  have h2002 : Va16 (2002) = some (.inl (cy 0, 12, .inl (fun _ => 0))) := by rw [hva16 (2002) (by omega)]; exact h2002
  have h2003 : Va16 (2003) = some (.inl (cy 0, 12, .inl (fun _ => 0))) := by rw [hva16 (2003) (by omega)]; exact h2003
  have h2004 : Va16 (2004) = some (.inl (cy 0, 12, .inl (fun _ => 0))) := by rw [hva16 (2004) (by omega)]; exact h2004
  have h2005 : Va16 (2005) = some (.inl (cy 0, 12, .inl (fun _ => 0))) := by rw [hva16 (2005) (by omega)]; exact h2005
  have h2006 : Va16 (2006) = some (.inl (cy 0, 12, .inl (fun _ => 0))) := by rw [hva16 (2006) (by omega)]; exact h2006
  have h2008 : Va16 (2008) = some (.inl (cy 0, 640, .inl (fun _ => 0))) := by rw [hva16 (2008) (by omega)]; exact h2008
  have h2009 : Va16 (2009) = some (.inl (cy 1, 48, .inr (.inl (fun _ => 0)))) := by rw [hva16 (2009) (by omega)]; exact h2009
  have h2010 : Va16 (2010) = some (.inl (cy 2, 48, .inl (fun _ => 0))) := by rw [hva16 (2010) (by omega)]; exact h2010
  have h2011 : Va16 (2011) = some (.inl (cy 0, 4, .inl (fun _ => 0))) := by rw [hva16 (2011) (by omega)]; exact h2011
  have h2012 : Va16 (2012) = some (.inl (cy 0, 4, .inl (fun _ => 0))) := by rw [hva16 (2012) (by omega)]; exact h2012
  have h2013 : Va16 (2013) = some (.inl (cy 0, 4, .inl (fun _ => 0))) := by rw [hva16 (2013) (by omega)]; exact h2013
  have h2014 : Va16 (2014) = some (.inl (cy 2, 4, .inl (fun _ => 0))) := by rw [hva16 (2014) (by omega)]; exact h2014
  have h2015 : Va16 (2015) = some (.inl (cy 0, 4, .inl (fun _ => 0))) := by rw [hva16 (2015) (by omega)]; exact h2015
  have h2016 : Va16 (2016) = some (.inl (cy 0, 4, .inl (fun _ => 0))) := by rw [hva16 (2016) (by omega)]; exact h2016
  have h2017 : Va16 (2017) = some (.inl (cy 0, 240, .inl (fun _ => 0))) := by rw [hva16 (2017) (by omega)]; exact h2017
  have h2000 : Va16 (2000) = some (.inr (7, [.int (0), .int (0), .ref (ada16 (2002)), .ref (ada16 (2003)), .ref (ada16 (2004)), .ref (ada16 (2005)), .ref (ada16 (2006)), .int (nI 1), .ref (ada16 (2008)), .ref (ada16 (2009)), .ref (ada16 (2010)), .ref (ada16 (2011)), .ref (ada16 (2012)), .ref (ada16 (2013)), .ref (ada16 (2014)), .ref (ada16 (2015)), .ref (ada16 (2016)), .ref (ada16 (2017)), .null, .null, .null, .int (0), .int (0), .null, .null, .null, .null, .null])) := by rw [hva16 (2000) (by omega), haa16 (2002) (by omega), haa16 (2003) (by omega), haa16 (2004) (by omega), haa16 (2005) (by omega), haa16 (2006) (by omega), haa16 (2008) (by omega), haa16 (2009) (by omega), haa16 (2010) (by omega), haa16 (2011) (by omega), haa16 (2012) (by omega), haa16 (2013) (by omega), haa16 (2014) (by omega), haa16 (2015) (by omega), haa16 (2016) (by omega), haa16 (2017) (by omega)]; exact h2000
  refine p_X7_X7_oldMember hx hb hown hnm hK hW hS h2000 dX7_init_131 (fun H locs hW hS => ?_)
  obtain ⟨V17, eV17⟩ : ∃ x9, x9 = va_up Va16 (2000) (some (.inr (7, [.int (0), .int (0), .ref (ada16 (2002)), .ref (ada16 (2003)), .ref (ada16 (2004)), .ref (ada16 (2005)), .ref (ada16 (2006)), .int (nI 1), .ref (ada16 (2008)), .ref (ada16 (2009)), .ref (ada16 (2010)), .ref (ada16 (2011)), .ref (ada16 (2012)), .ref (ada16 (2013)), .ref (ada16 (2014)), .ref (ada16 (2015)), .ref (ada16 (2016)), .ref (ada16 (2017)), .ref (ada16 (2018)), .null, .null, .int (0), .int (0), .null, .null, .null, .null, .null]))) := ⟨_, rfl⟩
  rw [← eV17] at hW
  have h2002 : V17 (2002) = some (.inl (cy 0, 12, .inl (fun _ => 0))) := by rw [eV17, va_up_ne _ _ (by omega)]; exact h2002
  have h2003 : V17 (2003) = some (.inl (cy 0, 12, .inl (fun _ => 0))) := by rw [eV17, va_up_ne _ _ (by omega)]; exact h2003
  have h2004 : V17 (2004) = some (.inl (cy 0, 12, .inl (fun _ => 0))) := by rw [eV17, va_up_ne _ _ (by omega)]; exact h2004
  have h2005 : V17 (2005) = some (.inl (cy 0, 12, .inl (fun _ => 0))) := by rw [eV17, va_up_ne _ _ (by omega)]; exact h2005
  have h2006 : V17 (2006) = some (.inl (cy 0, 12, .inl (fun _ => 0))) := by rw [eV17, va_up_ne _ _ (by omega)]; exact h2006
  have h2008 : V17 (2008) = some (.inl (cy 0, 640, .inl (fun _ => 0))) := by rw [eV17, va_up_ne _ _ (by omega)]; exact h2008
  have h2009 : V17 (2009) = some (.inl (cy 1, 48, .inr (.inl (fun _ => 0)))) := by rw [eV17, va_up_ne _ _ (by omega)]; exact h2009
  have h2010 : V17 (2010) = some (.inl (cy 2, 48, .inl (fun _ => 0))) := by rw [eV17, va_up_ne _ _ (by omega)]; exact h2010
  have h2011 : V17 (2011) = some (.inl (cy 0, 4, .inl (fun _ => 0))) := by rw [eV17, va_up_ne _ _ (by omega)]; exact h2011
  have h2012 : V17 (2012) = some (.inl (cy 0, 4, .inl (fun _ => 0))) := by rw [eV17, va_up_ne _ _ (by omega)]; exact h2012
  have h2013 : V17 (2013) = some (.inl (cy 0, 4, .inl (fun _ => 0))) := by rw [eV17, va_up_ne _ _ (by omega)]; exact h2013
  have h2014 : V17 (2014) = some (.inl (cy 2, 4, .inl (fun _ => 0))) := by rw [eV17, va_up_ne _ _ (by omega)]; exact h2014
  have h2015 : V17 (2015) = some (.inl (cy 0, 4, .inl (fun _ => 0))) := by rw [eV17, va_up_ne _ _ (by omega)]; exact h2015
  have h2016 : V17 (2016) = some (.inl (cy 0, 4, .inl (fun _ => 0))) := by rw [eV17, va_up_ne _ _ (by omega)]; exact h2016
  have h2017 : V17 (2017) = some (.inl (cy 0, 240, .inl (fun _ => 0))) := by rw [eV17, va_up_ne _ _ (by omega)]; exact h2017
  have h2018 : V17 (2018) = some (.inl (cy 0, 240, .inl (fun _ => 0))) := by rw [eV17, va_up_ne _ _ (by omega)]; exact h2018
  have h2000 : V17 (2000) = some (.inr (7, [.int (0), .int (0), .ref (ada16 (2002)), .ref (ada16 (2003)), .ref (ada16 (2004)), .ref (ada16 (2005)), .ref (ada16 (2006)), .int (nI 1), .ref (ada16 (2008)), .ref (ada16 (2009)), .ref (ada16 (2010)), .ref (ada16 (2011)), .ref (ada16 (2012)), .ref (ada16 (2013)), .ref (ada16 (2014)), .ref (ada16 (2015)), .ref (ada16 (2016)), .ref (ada16 (2017)), .ref (ada16 (2018)), .null, .null, .int (0), .int (0), .null, .null, .null, .null, .null])) := by rw [eV17, va_up_self]
  refine lv_aload_n hx hb dX7_init_134 rfl (lv_at hl 0 rfl) ?_
  refine lv_sipush (v := nI 240) hx hb dX7_init_135 (by decide) ?_
  refine w_newI hx hb hK hW hS hz (N := 240) (2019) (by rw [eV17, va_up_ne _ _ (by omega), hva16 (2019) (by omega), eV16, va_up_ne _ _ (by omega), hva15 (2019) (by omega), eV15, va_up_ne _ _ (by omega), hva14 (2019) (by omega), eV14, va_up_ne _ _ (by omega), hva13 (2019) (by omega), eV13, va_up_ne _ _ (by omega), hva12 (2019) (by omega), eV12, va_up_ne _ _ (by omega), hva11 (2019) (by omega), eV11, va_up_ne _ _ (by omega), hva10 (2019) (by omega), eV10, va_up_ne _ _ (by omega), hva9 (2019) (by omega), eV9, va_up_ne _ _ (by omega), hva8 (2019) (by omega), eV8, va_up_ne _ _ (by omega), hva7 (2019) (by omega), eV7, va_up_ne _ _ (by omega), hva6 (2019) (by omega), eV6, va_up_ne _ _ (by omega), eV5, va_up_ne _ _ (by omega), hva5 (2019) (by omega), eV4, va_up_ne _ _ (by omega), hva4 (2019) (by omega), eV3, va_up_ne _ _ (by omega), hva3 (2019) (by omega), eV2, va_up_ne _ _ (by omega), hva2 (2019) (by omega), eV1, va_up_ne _ _ (by omega), hva1 (2019) (by omega)]; exact hfree _ (by omega) (by omega)) (by decide) (by decide) (by decide) dX7_init_138 (fun qa17 H hW hS => ?_)
  obtain ⟨ada17, eada17⟩ : ∃ x9, x9 = va_up ada16 (2019) qa17 := ⟨_, rfl⟩
  obtain ⟨Va17, eVa17⟩ : ∃ x9, x9 = va_up V17 (2019) (some (.inl (cy 0, 240, .inl (fun _ => 0)))) := ⟨_, rfl⟩
  rw [← eada17, ← eVa17] at hW
  have hva17 : ∀ L, ¬ L = (2019) → Va17 L = V17 L := fun L h => by rw [eVa17, va_up_ne _ _ h]
  have haa17 : ∀ L, ¬ L = (2019) → ada17 L = ada16 L := fun L h => by rw [eada17, va_up_ne _ _ h]
  have eqa17 : qa17 = ada17 (2019) := by rw [eada17, va_up_self]
  have h2019 : Va17 (2019) = some (.inl (cy 0, 240, .inl (fun _ => 0))) := by rw [eVa17, va_up_self]
  have hl : lv_has ls 2 [(0, .ref (ada17 (2000)))] := by rw [haa17 (2000) (by omega)]; exact hl
  refine W.eq (g2 := F0 m 140 ls [.ref (ada17 (2019)), .ref (ada17 (2000))]) (by rw [eqa17, haa17 (2000) (by omega)]) ?_
  have h2002 : Va17 (2002) = some (.inl (cy 0, 12, .inl (fun _ => 0))) := by rw [hva17 (2002) (by omega)]; exact h2002
  have h2003 : Va17 (2003) = some (.inl (cy 0, 12, .inl (fun _ => 0))) := by rw [hva17 (2003) (by omega)]; exact h2003
  have h2004 : Va17 (2004) = some (.inl (cy 0, 12, .inl (fun _ => 0))) := by rw [hva17 (2004) (by omega)]; exact h2004
  have h2005 : Va17 (2005) = some (.inl (cy 0, 12, .inl (fun _ => 0))) := by rw [hva17 (2005) (by omega)]; exact h2005
  have h2006 : Va17 (2006) = some (.inl (cy 0, 12, .inl (fun _ => 0))) := by rw [hva17 (2006) (by omega)]; exact h2006
  have h2008 : Va17 (2008) = some (.inl (cy 0, 640, .inl (fun _ => 0))) := by rw [hva17 (2008) (by omega)]; exact h2008
  have h2009 : Va17 (2009) = some (.inl (cy 1, 48, .inr (.inl (fun _ => 0)))) := by rw [hva17 (2009) (by omega)]; exact h2009
  have h2010 : Va17 (2010) = some (.inl (cy 2, 48, .inl (fun _ => 0))) := by rw [hva17 (2010) (by omega)]; exact h2010
  have h2011 : Va17 (2011) = some (.inl (cy 0, 4, .inl (fun _ => 0))) := by rw [hva17 (2011) (by omega)]; exact h2011
  have h2012 : Va17 (2012) = some (.inl (cy 0, 4, .inl (fun _ => 0))) := by rw [hva17 (2012) (by omega)]; exact h2012
  have h2013 : Va17 (2013) = some (.inl (cy 0, 4, .inl (fun _ => 0))) := by rw [hva17 (2013) (by omega)]; exact h2013
  have h2014 : Va17 (2014) = some (.inl (cy 2, 4, .inl (fun _ => 0))) := by rw [hva17 (2014) (by omega)]; exact h2014
  have h2015 : Va17 (2015) = some (.inl (cy 0, 4, .inl (fun _ => 0))) := by rw [hva17 (2015) (by omega)]; exact h2015
  have h2016 : Va17 (2016) = some (.inl (cy 0, 4, .inl (fun _ => 0))) := by rw [hva17 (2016) (by omega)]; exact h2016
  have h2017 : Va17 (2017) = some (.inl (cy 0, 240, .inl (fun _ => 0))) := by rw [hva17 (2017) (by omega)]; exact h2017
  have h2018 : Va17 (2018) = some (.inl (cy 0, 240, .inl (fun _ => 0))) := by rw [hva17 (2018) (by omega)]; exact h2018
  have h2000 : Va17 (2000) = some (.inr (7, [.int (0), .int (0), .ref (ada17 (2002)), .ref (ada17 (2003)), .ref (ada17 (2004)), .ref (ada17 (2005)), .ref (ada17 (2006)), .int (nI 1), .ref (ada17 (2008)), .ref (ada17 (2009)), .ref (ada17 (2010)), .ref (ada17 (2011)), .ref (ada17 (2012)), .ref (ada17 (2013)), .ref (ada17 (2014)), .ref (ada17 (2015)), .ref (ada17 (2016)), .ref (ada17 (2017)), .ref (ada17 (2018)), .null, .null, .int (0), .int (0), .null, .null, .null, .null, .null])) := by rw [hva17 (2000) (by omega), haa17 (2002) (by omega), haa17 (2003) (by omega), haa17 (2004) (by omega), haa17 (2005) (by omega), haa17 (2006) (by omega), haa17 (2008) (by omega), haa17 (2009) (by omega), haa17 (2010) (by omega), haa17 (2011) (by omega), haa17 (2012) (by omega), haa17 (2013) (by omega), haa17 (2014) (by omega), haa17 (2015) (by omega), haa17 (2016) (by omega), haa17 (2017) (by omega), haa17 (2018) (by omega)]; exact h2000
  refine p_X7_X7_oldNumber hx hb hown hnm hK hW hS h2000 dX7_init_140 (fun H locs hW hS => ?_)
  obtain ⟨V18, eV18⟩ : ∃ x9, x9 = va_up Va17 (2000) (some (.inr (7, [.int (0), .int (0), .ref (ada17 (2002)), .ref (ada17 (2003)), .ref (ada17 (2004)), .ref (ada17 (2005)), .ref (ada17 (2006)), .int (nI 1), .ref (ada17 (2008)), .ref (ada17 (2009)), .ref (ada17 (2010)), .ref (ada17 (2011)), .ref (ada17 (2012)), .ref (ada17 (2013)), .ref (ada17 (2014)), .ref (ada17 (2015)), .ref (ada17 (2016)), .ref (ada17 (2017)), .ref (ada17 (2018)), .ref (ada17 (2019)), .null, .int (0), .int (0), .null, .null, .null, .null, .null]))) := ⟨_, rfl⟩
  rw [← eV18] at hW
  have h2002 : V18 (2002) = some (.inl (cy 0, 12, .inl (fun _ => 0))) := by rw [eV18, va_up_ne _ _ (by omega)]; exact h2002
  have h2003 : V18 (2003) = some (.inl (cy 0, 12, .inl (fun _ => 0))) := by rw [eV18, va_up_ne _ _ (by omega)]; exact h2003
  have h2004 : V18 (2004) = some (.inl (cy 0, 12, .inl (fun _ => 0))) := by rw [eV18, va_up_ne _ _ (by omega)]; exact h2004
  have h2005 : V18 (2005) = some (.inl (cy 0, 12, .inl (fun _ => 0))) := by rw [eV18, va_up_ne _ _ (by omega)]; exact h2005
  have h2006 : V18 (2006) = some (.inl (cy 0, 12, .inl (fun _ => 0))) := by rw [eV18, va_up_ne _ _ (by omega)]; exact h2006
  have h2008 : V18 (2008) = some (.inl (cy 0, 640, .inl (fun _ => 0))) := by rw [eV18, va_up_ne _ _ (by omega)]; exact h2008
  have h2009 : V18 (2009) = some (.inl (cy 1, 48, .inr (.inl (fun _ => 0)))) := by rw [eV18, va_up_ne _ _ (by omega)]; exact h2009
  have h2010 : V18 (2010) = some (.inl (cy 2, 48, .inl (fun _ => 0))) := by rw [eV18, va_up_ne _ _ (by omega)]; exact h2010
  have h2011 : V18 (2011) = some (.inl (cy 0, 4, .inl (fun _ => 0))) := by rw [eV18, va_up_ne _ _ (by omega)]; exact h2011
  have h2012 : V18 (2012) = some (.inl (cy 0, 4, .inl (fun _ => 0))) := by rw [eV18, va_up_ne _ _ (by omega)]; exact h2012
  have h2013 : V18 (2013) = some (.inl (cy 0, 4, .inl (fun _ => 0))) := by rw [eV18, va_up_ne _ _ (by omega)]; exact h2013
  have h2014 : V18 (2014) = some (.inl (cy 2, 4, .inl (fun _ => 0))) := by rw [eV18, va_up_ne _ _ (by omega)]; exact h2014
  have h2015 : V18 (2015) = some (.inl (cy 0, 4, .inl (fun _ => 0))) := by rw [eV18, va_up_ne _ _ (by omega)]; exact h2015
  have h2016 : V18 (2016) = some (.inl (cy 0, 4, .inl (fun _ => 0))) := by rw [eV18, va_up_ne _ _ (by omega)]; exact h2016
  have h2017 : V18 (2017) = some (.inl (cy 0, 240, .inl (fun _ => 0))) := by rw [eV18, va_up_ne _ _ (by omega)]; exact h2017
  have h2018 : V18 (2018) = some (.inl (cy 0, 240, .inl (fun _ => 0))) := by rw [eV18, va_up_ne _ _ (by omega)]; exact h2018
  have h2019 : V18 (2019) = some (.inl (cy 0, 240, .inl (fun _ => 0))) := by rw [eV18, va_up_ne _ _ (by omega)]; exact h2019
  have h2000 : V18 (2000) = some (.inr (7, [.int (0), .int (0), .ref (ada17 (2002)), .ref (ada17 (2003)), .ref (ada17 (2004)), .ref (ada17 (2005)), .ref (ada17 (2006)), .int (nI 1), .ref (ada17 (2008)), .ref (ada17 (2009)), .ref (ada17 (2010)), .ref (ada17 (2011)), .ref (ada17 (2012)), .ref (ada17 (2013)), .ref (ada17 (2014)), .ref (ada17 (2015)), .ref (ada17 (2016)), .ref (ada17 (2017)), .ref (ada17 (2018)), .ref (ada17 (2019)), .null, .int (0), .int (0), .null, .null, .null, .null, .null])) := by rw [eV18, va_up_self]
  refine lv_aload_n hx hb dX7_init_143 rfl (lv_at hl 0 rfl) ?_
  refine lv_sipush (v := nI 2880) hx hb dX7_init_144 (by decide) ?_
  refine w_newJ hx hb hK hW hS hz (N := 2880) (2020) (by rw [eV18, va_up_ne _ _ (by omega), hva17 (2020) (by omega), eV17, va_up_ne _ _ (by omega), hva16 (2020) (by omega), eV16, va_up_ne _ _ (by omega), hva15 (2020) (by omega), eV15, va_up_ne _ _ (by omega), hva14 (2020) (by omega), eV14, va_up_ne _ _ (by omega), hva13 (2020) (by omega), eV13, va_up_ne _ _ (by omega), hva12 (2020) (by omega), eV12, va_up_ne _ _ (by omega), hva11 (2020) (by omega), eV11, va_up_ne _ _ (by omega), hva10 (2020) (by omega), eV10, va_up_ne _ _ (by omega), hva9 (2020) (by omega), eV9, va_up_ne _ _ (by omega), hva8 (2020) (by omega), eV8, va_up_ne _ _ (by omega), hva7 (2020) (by omega), eV7, va_up_ne _ _ (by omega), hva6 (2020) (by omega), eV6, va_up_ne _ _ (by omega), eV5, va_up_ne _ _ (by omega), hva5 (2020) (by omega), eV4, va_up_ne _ _ (by omega), hva4 (2020) (by omega), eV3, va_up_ne _ _ (by omega), hva3 (2020) (by omega), eV2, va_up_ne _ _ (by omega), hva2 (2020) (by omega), eV1, va_up_ne _ _ (by omega), hva1 (2020) (by omega)]; exact hfree _ (by omega) (by omega)) (by decide) (by decide) (by decide) dX7_init_147 (fun qa18 H hW hS => ?_)
  obtain ⟨ada18, eada18⟩ : ∃ x9, x9 = va_up ada17 (2020) qa18 := ⟨_, rfl⟩
  obtain ⟨Va18, eVa18⟩ : ∃ x9, x9 = va_up V18 (2020) (some (.inl (cy 1, 2880, .inr (.inl (fun _ => 0))))) := ⟨_, rfl⟩
  rw [← eada18, ← eVa18] at hW
  have hva18 : ∀ L, ¬ L = (2020) → Va18 L = V18 L := fun L h => by rw [eVa18, va_up_ne _ _ h]
  have haa18 : ∀ L, ¬ L = (2020) → ada18 L = ada17 L := fun L h => by rw [eada18, va_up_ne _ _ h]
  have eqa18 : qa18 = ada18 (2020) := by rw [eada18, va_up_self]
  have h2020 : Va18 (2020) = some (.inl (cy 1, 2880, .inr (.inl (fun _ => 0)))) := by rw [eVa18, va_up_self]
  have hl : lv_has ls 2 [(0, .ref (ada18 (2000)))] := by rw [haa18 (2000) (by omega)]; exact hl
  refine W.eq (g2 := F0 m 149 ls [.ref (ada18 (2020)), .ref (ada18 (2000))]) (by rw [eqa18, haa18 (2000) (by omega)]) ?_
  have h2002 : Va18 (2002) = some (.inl (cy 0, 12, .inl (fun _ => 0))) := by rw [hva18 (2002) (by omega)]; exact h2002
  have h2003 : Va18 (2003) = some (.inl (cy 0, 12, .inl (fun _ => 0))) := by rw [hva18 (2003) (by omega)]; exact h2003
  have h2004 : Va18 (2004) = some (.inl (cy 0, 12, .inl (fun _ => 0))) := by rw [hva18 (2004) (by omega)]; exact h2004
  have h2005 : Va18 (2005) = some (.inl (cy 0, 12, .inl (fun _ => 0))) := by rw [hva18 (2005) (by omega)]; exact h2005
  have h2006 : Va18 (2006) = some (.inl (cy 0, 12, .inl (fun _ => 0))) := by rw [hva18 (2006) (by omega)]; exact h2006
  have h2008 : Va18 (2008) = some (.inl (cy 0, 640, .inl (fun _ => 0))) := by rw [hva18 (2008) (by omega)]; exact h2008
  have h2009 : Va18 (2009) = some (.inl (cy 1, 48, .inr (.inl (fun _ => 0)))) := by rw [hva18 (2009) (by omega)]; exact h2009
  have h2010 : Va18 (2010) = some (.inl (cy 2, 48, .inl (fun _ => 0))) := by rw [hva18 (2010) (by omega)]; exact h2010
  have h2011 : Va18 (2011) = some (.inl (cy 0, 4, .inl (fun _ => 0))) := by rw [hva18 (2011) (by omega)]; exact h2011
  have h2012 : Va18 (2012) = some (.inl (cy 0, 4, .inl (fun _ => 0))) := by rw [hva18 (2012) (by omega)]; exact h2012
  have h2013 : Va18 (2013) = some (.inl (cy 0, 4, .inl (fun _ => 0))) := by rw [hva18 (2013) (by omega)]; exact h2013
  have h2014 : Va18 (2014) = some (.inl (cy 2, 4, .inl (fun _ => 0))) := by rw [hva18 (2014) (by omega)]; exact h2014
  have h2015 : Va18 (2015) = some (.inl (cy 0, 4, .inl (fun _ => 0))) := by rw [hva18 (2015) (by omega)]; exact h2015
  have h2016 : Va18 (2016) = some (.inl (cy 0, 4, .inl (fun _ => 0))) := by rw [hva18 (2016) (by omega)]; exact h2016
  have h2017 : Va18 (2017) = some (.inl (cy 0, 240, .inl (fun _ => 0))) := by rw [hva18 (2017) (by omega)]; exact h2017
  have h2018 : Va18 (2018) = some (.inl (cy 0, 240, .inl (fun _ => 0))) := by rw [hva18 (2018) (by omega)]; exact h2018
  have h2019 : Va18 (2019) = some (.inl (cy 0, 240, .inl (fun _ => 0))) := by rw [hva18 (2019) (by omega)]; exact h2019
  have h2000 : Va18 (2000) = some (.inr (7, [.int (0), .int (0), .ref (ada18 (2002)), .ref (ada18 (2003)), .ref (ada18 (2004)), .ref (ada18 (2005)), .ref (ada18 (2006)), .int (nI 1), .ref (ada18 (2008)), .ref (ada18 (2009)), .ref (ada18 (2010)), .ref (ada18 (2011)), .ref (ada18 (2012)), .ref (ada18 (2013)), .ref (ada18 (2014)), .ref (ada18 (2015)), .ref (ada18 (2016)), .ref (ada18 (2017)), .ref (ada18 (2018)), .ref (ada18 (2019)), .null, .int (0), .int (0), .null, .null, .null, .null, .null])) := by rw [hva18 (2000) (by omega), haa18 (2002) (by omega), haa18 (2003) (by omega), haa18 (2004) (by omega), haa18 (2005) (by omega), haa18 (2006) (by omega), haa18 (2008) (by omega), haa18 (2009) (by omega), haa18 (2010) (by omega), haa18 (2011) (by omega), haa18 (2012) (by omega), haa18 (2013) (by omega), haa18 (2014) (by omega), haa18 (2015) (by omega), haa18 (2016) (by omega), haa18 (2017) (by omega), haa18 (2018) (by omega), haa18 (2019) (by omega)]; exact h2000
  refine p_X7_X7_oldKept hx hb hown hnm hK hW hS h2000 dX7_init_149 (fun H locs hW hS => ?_)
  obtain ⟨V19, eV19⟩ : ∃ x9, x9 = va_up Va18 (2000) (some (.inr (7, [.int (0), .int (0), .ref (ada18 (2002)), .ref (ada18 (2003)), .ref (ada18 (2004)), .ref (ada18 (2005)), .ref (ada18 (2006)), .int (nI 1), .ref (ada18 (2008)), .ref (ada18 (2009)), .ref (ada18 (2010)), .ref (ada18 (2011)), .ref (ada18 (2012)), .ref (ada18 (2013)), .ref (ada18 (2014)), .ref (ada18 (2015)), .ref (ada18 (2016)), .ref (ada18 (2017)), .ref (ada18 (2018)), .ref (ada18 (2019)), .ref (ada18 (2020)), .int (0), .int (0), .null, .null, .null, .null, .null]))) := ⟨_, rfl⟩
  rw [← eV19] at hW
  have h2002 : V19 (2002) = some (.inl (cy 0, 12, .inl (fun _ => 0))) := by rw [eV19, va_up_ne _ _ (by omega)]; exact h2002
  have h2003 : V19 (2003) = some (.inl (cy 0, 12, .inl (fun _ => 0))) := by rw [eV19, va_up_ne _ _ (by omega)]; exact h2003
  have h2004 : V19 (2004) = some (.inl (cy 0, 12, .inl (fun _ => 0))) := by rw [eV19, va_up_ne _ _ (by omega)]; exact h2004
  have h2005 : V19 (2005) = some (.inl (cy 0, 12, .inl (fun _ => 0))) := by rw [eV19, va_up_ne _ _ (by omega)]; exact h2005
  have h2006 : V19 (2006) = some (.inl (cy 0, 12, .inl (fun _ => 0))) := by rw [eV19, va_up_ne _ _ (by omega)]; exact h2006
  have h2008 : V19 (2008) = some (.inl (cy 0, 640, .inl (fun _ => 0))) := by rw [eV19, va_up_ne _ _ (by omega)]; exact h2008
  have h2009 : V19 (2009) = some (.inl (cy 1, 48, .inr (.inl (fun _ => 0)))) := by rw [eV19, va_up_ne _ _ (by omega)]; exact h2009
  have h2010 : V19 (2010) = some (.inl (cy 2, 48, .inl (fun _ => 0))) := by rw [eV19, va_up_ne _ _ (by omega)]; exact h2010
  have h2011 : V19 (2011) = some (.inl (cy 0, 4, .inl (fun _ => 0))) := by rw [eV19, va_up_ne _ _ (by omega)]; exact h2011
  have h2012 : V19 (2012) = some (.inl (cy 0, 4, .inl (fun _ => 0))) := by rw [eV19, va_up_ne _ _ (by omega)]; exact h2012
  have h2013 : V19 (2013) = some (.inl (cy 0, 4, .inl (fun _ => 0))) := by rw [eV19, va_up_ne _ _ (by omega)]; exact h2013
  have h2014 : V19 (2014) = some (.inl (cy 2, 4, .inl (fun _ => 0))) := by rw [eV19, va_up_ne _ _ (by omega)]; exact h2014
  have h2015 : V19 (2015) = some (.inl (cy 0, 4, .inl (fun _ => 0))) := by rw [eV19, va_up_ne _ _ (by omega)]; exact h2015
  have h2016 : V19 (2016) = some (.inl (cy 0, 4, .inl (fun _ => 0))) := by rw [eV19, va_up_ne _ _ (by omega)]; exact h2016
  have h2017 : V19 (2017) = some (.inl (cy 0, 240, .inl (fun _ => 0))) := by rw [eV19, va_up_ne _ _ (by omega)]; exact h2017
  have h2018 : V19 (2018) = some (.inl (cy 0, 240, .inl (fun _ => 0))) := by rw [eV19, va_up_ne _ _ (by omega)]; exact h2018
  have h2019 : V19 (2019) = some (.inl (cy 0, 240, .inl (fun _ => 0))) := by rw [eV19, va_up_ne _ _ (by omega)]; exact h2019
  have h2020 : V19 (2020) = some (.inl (cy 1, 2880, .inr (.inl (fun _ => 0)))) := by rw [eV19, va_up_ne _ _ (by omega)]; exact h2020
  have h2000 : V19 (2000) = some (.inr (7, [.int (0), .int (0), .ref (ada18 (2002)), .ref (ada18 (2003)), .ref (ada18 (2004)), .ref (ada18 (2005)), .ref (ada18 (2006)), .int (nI 1), .ref (ada18 (2008)), .ref (ada18 (2009)), .ref (ada18 (2010)), .ref (ada18 (2011)), .ref (ada18 (2012)), .ref (ada18 (2013)), .ref (ada18 (2014)), .ref (ada18 (2015)), .ref (ada18 (2016)), .ref (ada18 (2017)), .ref (ada18 (2018)), .ref (ada18 (2019)), .ref (ada18 (2020)), .int (0), .int (0), .null, .null, .null, .null, .null])) := by rw [eV19, va_up_self]
  refine lv_aload_n hx hb dX7_init_152 rfl (lv_at hl 0 rfl) ?_
  refine lv_bipush (v := nI 60) hx hb dX7_init_153 (by decide) ?_
  refine w_newJ hx hb hK hW hS hz (N := 60) (2023) (by rw [eV19, va_up_ne _ _ (by omega), hva18 (2023) (by omega), eV18, va_up_ne _ _ (by omega), hva17 (2023) (by omega), eV17, va_up_ne _ _ (by omega), hva16 (2023) (by omega), eV16, va_up_ne _ _ (by omega), hva15 (2023) (by omega), eV15, va_up_ne _ _ (by omega), hva14 (2023) (by omega), eV14, va_up_ne _ _ (by omega), hva13 (2023) (by omega), eV13, va_up_ne _ _ (by omega), hva12 (2023) (by omega), eV12, va_up_ne _ _ (by omega), hva11 (2023) (by omega), eV11, va_up_ne _ _ (by omega), hva10 (2023) (by omega), eV10, va_up_ne _ _ (by omega), hva9 (2023) (by omega), eV9, va_up_ne _ _ (by omega), hva8 (2023) (by omega), eV8, va_up_ne _ _ (by omega), hva7 (2023) (by omega), eV7, va_up_ne _ _ (by omega), hva6 (2023) (by omega), eV6, va_up_ne _ _ (by omega), eV5, va_up_ne _ _ (by omega), hva5 (2023) (by omega), eV4, va_up_ne _ _ (by omega), hva4 (2023) (by omega), eV3, va_up_ne _ _ (by omega), hva3 (2023) (by omega), eV2, va_up_ne _ _ (by omega), hva2 (2023) (by omega), eV1, va_up_ne _ _ (by omega), hva1 (2023) (by omega)]; exact hfree _ (by omega) (by omega)) (by decide) (by decide) (by decide) dX7_init_155 (fun qa19 H hW hS => ?_)
  obtain ⟨ada19, eada19⟩ : ∃ x9, x9 = va_up ada18 (2023) qa19 := ⟨_, rfl⟩
  obtain ⟨Va19, eVa19⟩ : ∃ x9, x9 = va_up V19 (2023) (some (.inl (cy 1, 60, .inr (.inl (fun _ => 0))))) := ⟨_, rfl⟩
  rw [← eada19, ← eVa19] at hW
  have hva19 : ∀ L, ¬ L = (2023) → Va19 L = V19 L := fun L h => by rw [eVa19, va_up_ne _ _ h]
  have haa19 : ∀ L, ¬ L = (2023) → ada19 L = ada18 L := fun L h => by rw [eada19, va_up_ne _ _ h]
  have eqa19 : qa19 = ada19 (2023) := by rw [eada19, va_up_self]
  have h2023 : Va19 (2023) = some (.inl (cy 1, 60, .inr (.inl (fun _ => 0)))) := by rw [eVa19, va_up_self]
  have hl : lv_has ls 2 [(0, .ref (ada19 (2000)))] := by rw [haa19 (2000) (by omega)]; exact hl
  refine W.eq (g2 := F0 m 157 ls [.ref (ada19 (2023)), .ref (ada19 (2000))]) (by rw [eqa19, haa19 (2000) (by omega)]) ?_
  have h2002 : Va19 (2002) = some (.inl (cy 0, 12, .inl (fun _ => 0))) := by rw [hva19 (2002) (by omega)]; exact h2002
  have h2003 : Va19 (2003) = some (.inl (cy 0, 12, .inl (fun _ => 0))) := by rw [hva19 (2003) (by omega)]; exact h2003
  have h2004 : Va19 (2004) = some (.inl (cy 0, 12, .inl (fun _ => 0))) := by rw [hva19 (2004) (by omega)]; exact h2004
  have h2005 : Va19 (2005) = some (.inl (cy 0, 12, .inl (fun _ => 0))) := by rw [hva19 (2005) (by omega)]; exact h2005
  have h2006 : Va19 (2006) = some (.inl (cy 0, 12, .inl (fun _ => 0))) := by rw [hva19 (2006) (by omega)]; exact h2006
  have h2008 : Va19 (2008) = some (.inl (cy 0, 640, .inl (fun _ => 0))) := by rw [hva19 (2008) (by omega)]; exact h2008
  have h2009 : Va19 (2009) = some (.inl (cy 1, 48, .inr (.inl (fun _ => 0)))) := by rw [hva19 (2009) (by omega)]; exact h2009
  have h2010 : Va19 (2010) = some (.inl (cy 2, 48, .inl (fun _ => 0))) := by rw [hva19 (2010) (by omega)]; exact h2010
  have h2011 : Va19 (2011) = some (.inl (cy 0, 4, .inl (fun _ => 0))) := by rw [hva19 (2011) (by omega)]; exact h2011
  have h2012 : Va19 (2012) = some (.inl (cy 0, 4, .inl (fun _ => 0))) := by rw [hva19 (2012) (by omega)]; exact h2012
  have h2013 : Va19 (2013) = some (.inl (cy 0, 4, .inl (fun _ => 0))) := by rw [hva19 (2013) (by omega)]; exact h2013
  have h2014 : Va19 (2014) = some (.inl (cy 2, 4, .inl (fun _ => 0))) := by rw [hva19 (2014) (by omega)]; exact h2014
  have h2015 : Va19 (2015) = some (.inl (cy 0, 4, .inl (fun _ => 0))) := by rw [hva19 (2015) (by omega)]; exact h2015
  have h2016 : Va19 (2016) = some (.inl (cy 0, 4, .inl (fun _ => 0))) := by rw [hva19 (2016) (by omega)]; exact h2016
  have h2017 : Va19 (2017) = some (.inl (cy 0, 240, .inl (fun _ => 0))) := by rw [hva19 (2017) (by omega)]; exact h2017
  have h2018 : Va19 (2018) = some (.inl (cy 0, 240, .inl (fun _ => 0))) := by rw [hva19 (2018) (by omega)]; exact h2018
  have h2019 : Va19 (2019) = some (.inl (cy 0, 240, .inl (fun _ => 0))) := by rw [hva19 (2019) (by omega)]; exact h2019
  have h2020 : Va19 (2020) = some (.inl (cy 1, 2880, .inr (.inl (fun _ => 0)))) := by rw [hva19 (2020) (by omega)]; exact h2020
  have h2000 : Va19 (2000) = some (.inr (7, [.int (0), .int (0), .ref (ada19 (2002)), .ref (ada19 (2003)), .ref (ada19 (2004)), .ref (ada19 (2005)), .ref (ada19 (2006)), .int (nI 1), .ref (ada19 (2008)), .ref (ada19 (2009)), .ref (ada19 (2010)), .ref (ada19 (2011)), .ref (ada19 (2012)), .ref (ada19 (2013)), .ref (ada19 (2014)), .ref (ada19 (2015)), .ref (ada19 (2016)), .ref (ada19 (2017)), .ref (ada19 (2018)), .ref (ada19 (2019)), .ref (ada19 (2020)), .int (0), .int (0), .null, .null, .null, .null, .null])) := by rw [hva19 (2000) (by omega), haa19 (2002) (by omega), haa19 (2003) (by omega), haa19 (2004) (by omega), haa19 (2005) (by omega), haa19 (2006) (by omega), haa19 (2008) (by omega), haa19 (2009) (by omega), haa19 (2010) (by omega), haa19 (2011) (by omega), haa19 (2012) (by omega), haa19 (2013) (by omega), haa19 (2014) (by omega), haa19 (2015) (by omega), haa19 (2016) (by omega), haa19 (2017) (by omega), haa19 (2018) (by omega), haa19 (2019) (by omega), haa19 (2020) (by omega)]; exact h2000
  refine p_X7_X7_keptScore hx hb hown hnm hK hW hS h2000 dX7_init_157 (fun H locs hW hS => ?_)
  obtain ⟨V20, eV20⟩ : ∃ x9, x9 = va_up Va19 (2000) (some (.inr (7, [.int (0), .int (0), .ref (ada19 (2002)), .ref (ada19 (2003)), .ref (ada19 (2004)), .ref (ada19 (2005)), .ref (ada19 (2006)), .int (nI 1), .ref (ada19 (2008)), .ref (ada19 (2009)), .ref (ada19 (2010)), .ref (ada19 (2011)), .ref (ada19 (2012)), .ref (ada19 (2013)), .ref (ada19 (2014)), .ref (ada19 (2015)), .ref (ada19 (2016)), .ref (ada19 (2017)), .ref (ada19 (2018)), .ref (ada19 (2019)), .ref (ada19 (2020)), .int (0), .int (0), .ref (ada19 (2023)), .null, .null, .null, .null]))) := ⟨_, rfl⟩
  rw [← eV20] at hW
  have h2002 : V20 (2002) = some (.inl (cy 0, 12, .inl (fun _ => 0))) := by rw [eV20, va_up_ne _ _ (by omega)]; exact h2002
  have h2003 : V20 (2003) = some (.inl (cy 0, 12, .inl (fun _ => 0))) := by rw [eV20, va_up_ne _ _ (by omega)]; exact h2003
  have h2004 : V20 (2004) = some (.inl (cy 0, 12, .inl (fun _ => 0))) := by rw [eV20, va_up_ne _ _ (by omega)]; exact h2004
  have h2005 : V20 (2005) = some (.inl (cy 0, 12, .inl (fun _ => 0))) := by rw [eV20, va_up_ne _ _ (by omega)]; exact h2005
  have h2006 : V20 (2006) = some (.inl (cy 0, 12, .inl (fun _ => 0))) := by rw [eV20, va_up_ne _ _ (by omega)]; exact h2006
  have h2008 : V20 (2008) = some (.inl (cy 0, 640, .inl (fun _ => 0))) := by rw [eV20, va_up_ne _ _ (by omega)]; exact h2008
  have h2009 : V20 (2009) = some (.inl (cy 1, 48, .inr (.inl (fun _ => 0)))) := by rw [eV20, va_up_ne _ _ (by omega)]; exact h2009
  have h2010 : V20 (2010) = some (.inl (cy 2, 48, .inl (fun _ => 0))) := by rw [eV20, va_up_ne _ _ (by omega)]; exact h2010
  have h2011 : V20 (2011) = some (.inl (cy 0, 4, .inl (fun _ => 0))) := by rw [eV20, va_up_ne _ _ (by omega)]; exact h2011
  have h2012 : V20 (2012) = some (.inl (cy 0, 4, .inl (fun _ => 0))) := by rw [eV20, va_up_ne _ _ (by omega)]; exact h2012
  have h2013 : V20 (2013) = some (.inl (cy 0, 4, .inl (fun _ => 0))) := by rw [eV20, va_up_ne _ _ (by omega)]; exact h2013
  have h2014 : V20 (2014) = some (.inl (cy 2, 4, .inl (fun _ => 0))) := by rw [eV20, va_up_ne _ _ (by omega)]; exact h2014
  have h2015 : V20 (2015) = some (.inl (cy 0, 4, .inl (fun _ => 0))) := by rw [eV20, va_up_ne _ _ (by omega)]; exact h2015
  have h2016 : V20 (2016) = some (.inl (cy 0, 4, .inl (fun _ => 0))) := by rw [eV20, va_up_ne _ _ (by omega)]; exact h2016
  have h2017 : V20 (2017) = some (.inl (cy 0, 240, .inl (fun _ => 0))) := by rw [eV20, va_up_ne _ _ (by omega)]; exact h2017
  have h2018 : V20 (2018) = some (.inl (cy 0, 240, .inl (fun _ => 0))) := by rw [eV20, va_up_ne _ _ (by omega)]; exact h2018
  have h2019 : V20 (2019) = some (.inl (cy 0, 240, .inl (fun _ => 0))) := by rw [eV20, va_up_ne _ _ (by omega)]; exact h2019
  have h2020 : V20 (2020) = some (.inl (cy 1, 2880, .inr (.inl (fun _ => 0)))) := by rw [eV20, va_up_ne _ _ (by omega)]; exact h2020
  have h2023 : V20 (2023) = some (.inl (cy 1, 60, .inr (.inl (fun _ => 0)))) := by rw [eV20, va_up_ne _ _ (by omega)]; exact h2023
  have h2000 : V20 (2000) = some (.inr (7, [.int (0), .int (0), .ref (ada19 (2002)), .ref (ada19 (2003)), .ref (ada19 (2004)), .ref (ada19 (2005)), .ref (ada19 (2006)), .int (nI 1), .ref (ada19 (2008)), .ref (ada19 (2009)), .ref (ada19 (2010)), .ref (ada19 (2011)), .ref (ada19 (2012)), .ref (ada19 (2013)), .ref (ada19 (2014)), .ref (ada19 (2015)), .ref (ada19 (2016)), .ref (ada19 (2017)), .ref (ada19 (2018)), .ref (ada19 (2019)), .ref (ada19 (2020)), .int (0), .int (0), .ref (ada19 (2023)), .null, .null, .null, .null])) := by rw [eV20, va_up_self]
  refine lv_aload_n hx hb dX7_init_160 rfl (lv_at hl 0 rfl) ?_
  refine lv_sipush (v := nI 3200) hx hb dX7_init_161 (by decide) ?_
  refine w_newI hx hb hK hW hS hz (N := 3200) (2024) (by rw [eV20, va_up_ne _ _ (by omega), hva19 (2024) (by omega), eV19, va_up_ne _ _ (by omega), hva18 (2024) (by omega), eV18, va_up_ne _ _ (by omega), hva17 (2024) (by omega), eV17, va_up_ne _ _ (by omega), hva16 (2024) (by omega), eV16, va_up_ne _ _ (by omega), hva15 (2024) (by omega), eV15, va_up_ne _ _ (by omega), hva14 (2024) (by omega), eV14, va_up_ne _ _ (by omega), hva13 (2024) (by omega), eV13, va_up_ne _ _ (by omega), hva12 (2024) (by omega), eV12, va_up_ne _ _ (by omega), hva11 (2024) (by omega), eV11, va_up_ne _ _ (by omega), hva10 (2024) (by omega), eV10, va_up_ne _ _ (by omega), hva9 (2024) (by omega), eV9, va_up_ne _ _ (by omega), hva8 (2024) (by omega), eV8, va_up_ne _ _ (by omega), hva7 (2024) (by omega), eV7, va_up_ne _ _ (by omega), hva6 (2024) (by omega), eV6, va_up_ne _ _ (by omega), eV5, va_up_ne _ _ (by omega), hva5 (2024) (by omega), eV4, va_up_ne _ _ (by omega), hva4 (2024) (by omega), eV3, va_up_ne _ _ (by omega), hva3 (2024) (by omega), eV2, va_up_ne _ _ (by omega), hva2 (2024) (by omega), eV1, va_up_ne _ _ (by omega), hva1 (2024) (by omega)]; exact hfree _ (by omega) (by omega)) (by decide) (by decide) (by decide) dX7_init_164 (fun qa20 H hW hS => ?_)
  obtain ⟨ada20, eada20⟩ : ∃ x9, x9 = va_up ada19 (2024) qa20 := ⟨_, rfl⟩
  obtain ⟨Va20, eVa20⟩ : ∃ x9, x9 = va_up V20 (2024) (some (.inl (cy 0, 3200, .inl (fun _ => 0)))) := ⟨_, rfl⟩
  rw [← eada20, ← eVa20] at hW
  have hva20 : ∀ L, ¬ L = (2024) → Va20 L = V20 L := fun L h => by rw [eVa20, va_up_ne _ _ h]
  have haa20 : ∀ L, ¬ L = (2024) → ada20 L = ada19 L := fun L h => by rw [eada20, va_up_ne _ _ h]
  have eqa20 : qa20 = ada20 (2024) := by rw [eada20, va_up_self]
  have h2024 : Va20 (2024) = some (.inl (cy 0, 3200, .inl (fun _ => 0))) := by rw [eVa20, va_up_self]
  have hl : lv_has ls 2 [(0, .ref (ada20 (2000)))] := by rw [haa20 (2000) (by omega)]; exact hl
  refine W.eq (g2 := F0 m 166 ls [.ref (ada20 (2024)), .ref (ada20 (2000))]) (by rw [eqa20, haa20 (2000) (by omega)]) ?_
  have h2002 : Va20 (2002) = some (.inl (cy 0, 12, .inl (fun _ => 0))) := by rw [hva20 (2002) (by omega)]; exact h2002
  have h2003 : Va20 (2003) = some (.inl (cy 0, 12, .inl (fun _ => 0))) := by rw [hva20 (2003) (by omega)]; exact h2003
  have h2004 : Va20 (2004) = some (.inl (cy 0, 12, .inl (fun _ => 0))) := by rw [hva20 (2004) (by omega)]; exact h2004
  have h2005 : Va20 (2005) = some (.inl (cy 0, 12, .inl (fun _ => 0))) := by rw [hva20 (2005) (by omega)]; exact h2005
  have h2006 : Va20 (2006) = some (.inl (cy 0, 12, .inl (fun _ => 0))) := by rw [hva20 (2006) (by omega)]; exact h2006
  have h2008 : Va20 (2008) = some (.inl (cy 0, 640, .inl (fun _ => 0))) := by rw [hva20 (2008) (by omega)]; exact h2008
  have h2009 : Va20 (2009) = some (.inl (cy 1, 48, .inr (.inl (fun _ => 0)))) := by rw [hva20 (2009) (by omega)]; exact h2009
  have h2010 : Va20 (2010) = some (.inl (cy 2, 48, .inl (fun _ => 0))) := by rw [hva20 (2010) (by omega)]; exact h2010
  have h2011 : Va20 (2011) = some (.inl (cy 0, 4, .inl (fun _ => 0))) := by rw [hva20 (2011) (by omega)]; exact h2011
  have h2012 : Va20 (2012) = some (.inl (cy 0, 4, .inl (fun _ => 0))) := by rw [hva20 (2012) (by omega)]; exact h2012
  have h2013 : Va20 (2013) = some (.inl (cy 0, 4, .inl (fun _ => 0))) := by rw [hva20 (2013) (by omega)]; exact h2013
  have h2014 : Va20 (2014) = some (.inl (cy 2, 4, .inl (fun _ => 0))) := by rw [hva20 (2014) (by omega)]; exact h2014
  have h2015 : Va20 (2015) = some (.inl (cy 0, 4, .inl (fun _ => 0))) := by rw [hva20 (2015) (by omega)]; exact h2015
  have h2016 : Va20 (2016) = some (.inl (cy 0, 4, .inl (fun _ => 0))) := by rw [hva20 (2016) (by omega)]; exact h2016
  have h2017 : Va20 (2017) = some (.inl (cy 0, 240, .inl (fun _ => 0))) := by rw [hva20 (2017) (by omega)]; exact h2017
  have h2018 : Va20 (2018) = some (.inl (cy 0, 240, .inl (fun _ => 0))) := by rw [hva20 (2018) (by omega)]; exact h2018
  have h2019 : Va20 (2019) = some (.inl (cy 0, 240, .inl (fun _ => 0))) := by rw [hva20 (2019) (by omega)]; exact h2019
  have h2020 : Va20 (2020) = some (.inl (cy 1, 2880, .inr (.inl (fun _ => 0)))) := by rw [hva20 (2020) (by omega)]; exact h2020
  have h2023 : Va20 (2023) = some (.inl (cy 1, 60, .inr (.inl (fun _ => 0)))) := by rw [hva20 (2023) (by omega)]; exact h2023
  have h2000 : Va20 (2000) = some (.inr (7, [.int (0), .int (0), .ref (ada20 (2002)), .ref (ada20 (2003)), .ref (ada20 (2004)), .ref (ada20 (2005)), .ref (ada20 (2006)), .int (nI 1), .ref (ada20 (2008)), .ref (ada20 (2009)), .ref (ada20 (2010)), .ref (ada20 (2011)), .ref (ada20 (2012)), .ref (ada20 (2013)), .ref (ada20 (2014)), .ref (ada20 (2015)), .ref (ada20 (2016)), .ref (ada20 (2017)), .ref (ada20 (2018)), .ref (ada20 (2019)), .ref (ada20 (2020)), .int (0), .int (0), .ref (ada20 (2023)), .null, .null, .null, .null])) := by rw [hva20 (2000) (by omega), haa20 (2002) (by omega), haa20 (2003) (by omega), haa20 (2004) (by omega), haa20 (2005) (by omega), haa20 (2006) (by omega), haa20 (2008) (by omega), haa20 (2009) (by omega), haa20 (2010) (by omega), haa20 (2011) (by omega), haa20 (2012) (by omega), haa20 (2013) (by omega), haa20 (2014) (by omega), haa20 (2015) (by omega), haa20 (2016) (by omega), haa20 (2017) (by omega), haa20 (2018) (by omega), haa20 (2019) (by omega), haa20 (2020) (by omega), haa20 (2023) (by omega)]; exact h2000
  refine p_X7_X7_keptMember hx hb hown hnm hK hW hS h2000 dX7_init_166 (fun H locs hW hS => ?_)
  obtain ⟨V21, eV21⟩ : ∃ x9, x9 = va_up Va20 (2000) (some (.inr (7, [.int (0), .int (0), .ref (ada20 (2002)), .ref (ada20 (2003)), .ref (ada20 (2004)), .ref (ada20 (2005)), .ref (ada20 (2006)), .int (nI 1), .ref (ada20 (2008)), .ref (ada20 (2009)), .ref (ada20 (2010)), .ref (ada20 (2011)), .ref (ada20 (2012)), .ref (ada20 (2013)), .ref (ada20 (2014)), .ref (ada20 (2015)), .ref (ada20 (2016)), .ref (ada20 (2017)), .ref (ada20 (2018)), .ref (ada20 (2019)), .ref (ada20 (2020)), .int (0), .int (0), .ref (ada20 (2023)), .ref (ada20 (2024)), .null, .null, .null]))) := ⟨_, rfl⟩
  rw [← eV21] at hW
  have h2002 : V21 (2002) = some (.inl (cy 0, 12, .inl (fun _ => 0))) := by rw [eV21, va_up_ne _ _ (by omega)]; exact h2002
  have h2003 : V21 (2003) = some (.inl (cy 0, 12, .inl (fun _ => 0))) := by rw [eV21, va_up_ne _ _ (by omega)]; exact h2003
  have h2004 : V21 (2004) = some (.inl (cy 0, 12, .inl (fun _ => 0))) := by rw [eV21, va_up_ne _ _ (by omega)]; exact h2004
  have h2005 : V21 (2005) = some (.inl (cy 0, 12, .inl (fun _ => 0))) := by rw [eV21, va_up_ne _ _ (by omega)]; exact h2005
  have h2006 : V21 (2006) = some (.inl (cy 0, 12, .inl (fun _ => 0))) := by rw [eV21, va_up_ne _ _ (by omega)]; exact h2006
  have h2008 : V21 (2008) = some (.inl (cy 0, 640, .inl (fun _ => 0))) := by rw [eV21, va_up_ne _ _ (by omega)]; exact h2008
  have h2009 : V21 (2009) = some (.inl (cy 1, 48, .inr (.inl (fun _ => 0)))) := by rw [eV21, va_up_ne _ _ (by omega)]; exact h2009
  have h2010 : V21 (2010) = some (.inl (cy 2, 48, .inl (fun _ => 0))) := by rw [eV21, va_up_ne _ _ (by omega)]; exact h2010
  have h2011 : V21 (2011) = some (.inl (cy 0, 4, .inl (fun _ => 0))) := by rw [eV21, va_up_ne _ _ (by omega)]; exact h2011
  have h2012 : V21 (2012) = some (.inl (cy 0, 4, .inl (fun _ => 0))) := by rw [eV21, va_up_ne _ _ (by omega)]; exact h2012
  have h2013 : V21 (2013) = some (.inl (cy 0, 4, .inl (fun _ => 0))) := by rw [eV21, va_up_ne _ _ (by omega)]; exact h2013
  have h2014 : V21 (2014) = some (.inl (cy 2, 4, .inl (fun _ => 0))) := by rw [eV21, va_up_ne _ _ (by omega)]; exact h2014
  have h2015 : V21 (2015) = some (.inl (cy 0, 4, .inl (fun _ => 0))) := by rw [eV21, va_up_ne _ _ (by omega)]; exact h2015
  have h2016 : V21 (2016) = some (.inl (cy 0, 4, .inl (fun _ => 0))) := by rw [eV21, va_up_ne _ _ (by omega)]; exact h2016
  have h2017 : V21 (2017) = some (.inl (cy 0, 240, .inl (fun _ => 0))) := by rw [eV21, va_up_ne _ _ (by omega)]; exact h2017
  have h2018 : V21 (2018) = some (.inl (cy 0, 240, .inl (fun _ => 0))) := by rw [eV21, va_up_ne _ _ (by omega)]; exact h2018
  have h2019 : V21 (2019) = some (.inl (cy 0, 240, .inl (fun _ => 0))) := by rw [eV21, va_up_ne _ _ (by omega)]; exact h2019
  have h2020 : V21 (2020) = some (.inl (cy 1, 2880, .inr (.inl (fun _ => 0)))) := by rw [eV21, va_up_ne _ _ (by omega)]; exact h2020
  have h2023 : V21 (2023) = some (.inl (cy 1, 60, .inr (.inl (fun _ => 0)))) := by rw [eV21, va_up_ne _ _ (by omega)]; exact h2023
  have h2024 : V21 (2024) = some (.inl (cy 0, 3200, .inl (fun _ => 0))) := by rw [eV21, va_up_ne _ _ (by omega)]; exact h2024
  have h2000 : V21 (2000) = some (.inr (7, [.int (0), .int (0), .ref (ada20 (2002)), .ref (ada20 (2003)), .ref (ada20 (2004)), .ref (ada20 (2005)), .ref (ada20 (2006)), .int (nI 1), .ref (ada20 (2008)), .ref (ada20 (2009)), .ref (ada20 (2010)), .ref (ada20 (2011)), .ref (ada20 (2012)), .ref (ada20 (2013)), .ref (ada20 (2014)), .ref (ada20 (2015)), .ref (ada20 (2016)), .ref (ada20 (2017)), .ref (ada20 (2018)), .ref (ada20 (2019)), .ref (ada20 (2020)), .int (0), .int (0), .ref (ada20 (2023)), .ref (ada20 (2024)), .null, .null, .null])) := by rw [eV21, va_up_self]
  refine lv_aload_n hx hb dX7_init_169 rfl (lv_at hl 0 rfl) ?_
  refine lv_bipush (v := nI 20) hx hb dX7_init_170 (by decide) ?_
  refine w_newI hx hb hK hW hS hz (N := 20) (2025) (by rw [eV21, va_up_ne _ _ (by omega), hva20 (2025) (by omega), eV20, va_up_ne _ _ (by omega), hva19 (2025) (by omega), eV19, va_up_ne _ _ (by omega), hva18 (2025) (by omega), eV18, va_up_ne _ _ (by omega), hva17 (2025) (by omega), eV17, va_up_ne _ _ (by omega), hva16 (2025) (by omega), eV16, va_up_ne _ _ (by omega), hva15 (2025) (by omega), eV15, va_up_ne _ _ (by omega), hva14 (2025) (by omega), eV14, va_up_ne _ _ (by omega), hva13 (2025) (by omega), eV13, va_up_ne _ _ (by omega), hva12 (2025) (by omega), eV12, va_up_ne _ _ (by omega), hva11 (2025) (by omega), eV11, va_up_ne _ _ (by omega), hva10 (2025) (by omega), eV10, va_up_ne _ _ (by omega), hva9 (2025) (by omega), eV9, va_up_ne _ _ (by omega), hva8 (2025) (by omega), eV8, va_up_ne _ _ (by omega), hva7 (2025) (by omega), eV7, va_up_ne _ _ (by omega), hva6 (2025) (by omega), eV6, va_up_ne _ _ (by omega), eV5, va_up_ne _ _ (by omega), hva5 (2025) (by omega), eV4, va_up_ne _ _ (by omega), hva4 (2025) (by omega), eV3, va_up_ne _ _ (by omega), hva3 (2025) (by omega), eV2, va_up_ne _ _ (by omega), hva2 (2025) (by omega), eV1, va_up_ne _ _ (by omega), hva1 (2025) (by omega)]; exact hfree _ (by omega) (by omega)) (by decide) (by decide) (by decide) dX7_init_172 (fun qa21 H hW hS => ?_)
  obtain ⟨ada21, eada21⟩ : ∃ x9, x9 = va_up ada20 (2025) qa21 := ⟨_, rfl⟩
  obtain ⟨Va21, eVa21⟩ : ∃ x9, x9 = va_up V21 (2025) (some (.inl (cy 0, 20, .inl (fun _ => 0)))) := ⟨_, rfl⟩
  rw [← eada21, ← eVa21] at hW
  have hva21 : ∀ L, ¬ L = (2025) → Va21 L = V21 L := fun L h => by rw [eVa21, va_up_ne _ _ h]
  have haa21 : ∀ L, ¬ L = (2025) → ada21 L = ada20 L := fun L h => by rw [eada21, va_up_ne _ _ h]
  have eqa21 : qa21 = ada21 (2025) := by rw [eada21, va_up_self]
  have h2025 : Va21 (2025) = some (.inl (cy 0, 20, .inl (fun _ => 0))) := by rw [eVa21, va_up_self]
  have hl : lv_has ls 2 [(0, .ref (ada21 (2000)))] := by rw [haa21 (2000) (by omega)]; exact hl
  refine W.eq (g2 := F0 m 174 ls [.ref (ada21 (2025)), .ref (ada21 (2000))]) (by rw [eqa21, haa21 (2000) (by omega)]) ?_
  have h2002 : Va21 (2002) = some (.inl (cy 0, 12, .inl (fun _ => 0))) := by rw [hva21 (2002) (by omega)]; exact h2002
  have h2003 : Va21 (2003) = some (.inl (cy 0, 12, .inl (fun _ => 0))) := by rw [hva21 (2003) (by omega)]; exact h2003
  have h2004 : Va21 (2004) = some (.inl (cy 0, 12, .inl (fun _ => 0))) := by rw [hva21 (2004) (by omega)]; exact h2004
  have h2005 : Va21 (2005) = some (.inl (cy 0, 12, .inl (fun _ => 0))) := by rw [hva21 (2005) (by omega)]; exact h2005
  have h2006 : Va21 (2006) = some (.inl (cy 0, 12, .inl (fun _ => 0))) := by rw [hva21 (2006) (by omega)]; exact h2006
  have h2008 : Va21 (2008) = some (.inl (cy 0, 640, .inl (fun _ => 0))) := by rw [hva21 (2008) (by omega)]; exact h2008
  have h2009 : Va21 (2009) = some (.inl (cy 1, 48, .inr (.inl (fun _ => 0)))) := by rw [hva21 (2009) (by omega)]; exact h2009
  have h2010 : Va21 (2010) = some (.inl (cy 2, 48, .inl (fun _ => 0))) := by rw [hva21 (2010) (by omega)]; exact h2010
  have h2011 : Va21 (2011) = some (.inl (cy 0, 4, .inl (fun _ => 0))) := by rw [hva21 (2011) (by omega)]; exact h2011
  have h2012 : Va21 (2012) = some (.inl (cy 0, 4, .inl (fun _ => 0))) := by rw [hva21 (2012) (by omega)]; exact h2012
  have h2013 : Va21 (2013) = some (.inl (cy 0, 4, .inl (fun _ => 0))) := by rw [hva21 (2013) (by omega)]; exact h2013
  have h2014 : Va21 (2014) = some (.inl (cy 2, 4, .inl (fun _ => 0))) := by rw [hva21 (2014) (by omega)]; exact h2014
  have h2015 : Va21 (2015) = some (.inl (cy 0, 4, .inl (fun _ => 0))) := by rw [hva21 (2015) (by omega)]; exact h2015
  have h2016 : Va21 (2016) = some (.inl (cy 0, 4, .inl (fun _ => 0))) := by rw [hva21 (2016) (by omega)]; exact h2016
  have h2017 : Va21 (2017) = some (.inl (cy 0, 240, .inl (fun _ => 0))) := by rw [hva21 (2017) (by omega)]; exact h2017
  have h2018 : Va21 (2018) = some (.inl (cy 0, 240, .inl (fun _ => 0))) := by rw [hva21 (2018) (by omega)]; exact h2018
  have h2019 : Va21 (2019) = some (.inl (cy 0, 240, .inl (fun _ => 0))) := by rw [hva21 (2019) (by omega)]; exact h2019
  have h2020 : Va21 (2020) = some (.inl (cy 1, 2880, .inr (.inl (fun _ => 0)))) := by rw [hva21 (2020) (by omega)]; exact h2020
  have h2023 : Va21 (2023) = some (.inl (cy 1, 60, .inr (.inl (fun _ => 0)))) := by rw [hva21 (2023) (by omega)]; exact h2023
  have h2024 : Va21 (2024) = some (.inl (cy 0, 3200, .inl (fun _ => 0))) := by rw [hva21 (2024) (by omega)]; exact h2024
  have h2000 : Va21 (2000) = some (.inr (7, [.int (0), .int (0), .ref (ada21 (2002)), .ref (ada21 (2003)), .ref (ada21 (2004)), .ref (ada21 (2005)), .ref (ada21 (2006)), .int (nI 1), .ref (ada21 (2008)), .ref (ada21 (2009)), .ref (ada21 (2010)), .ref (ada21 (2011)), .ref (ada21 (2012)), .ref (ada21 (2013)), .ref (ada21 (2014)), .ref (ada21 (2015)), .ref (ada21 (2016)), .ref (ada21 (2017)), .ref (ada21 (2018)), .ref (ada21 (2019)), .ref (ada21 (2020)), .int (0), .int (0), .ref (ada21 (2023)), .ref (ada21 (2024)), .null, .null, .null])) := by rw [hva21 (2000) (by omega), haa21 (2002) (by omega), haa21 (2003) (by omega), haa21 (2004) (by omega), haa21 (2005) (by omega), haa21 (2006) (by omega), haa21 (2008) (by omega), haa21 (2009) (by omega), haa21 (2010) (by omega), haa21 (2011) (by omega), haa21 (2012) (by omega), haa21 (2013) (by omega), haa21 (2014) (by omega), haa21 (2015) (by omega), haa21 (2016) (by omega), haa21 (2017) (by omega), haa21 (2018) (by omega), haa21 (2019) (by omega), haa21 (2020) (by omega), haa21 (2023) (by omega), haa21 (2024) (by omega)]; exact h2000
  refine p_X7_X7_keptObjects hx hb hown hnm hK hW hS h2000 dX7_init_174 (fun H locs hW hS => ?_)
  obtain ⟨V22, eV22⟩ : ∃ x9, x9 = va_up Va21 (2000) (some (.inr (7, [.int (0), .int (0), .ref (ada21 (2002)), .ref (ada21 (2003)), .ref (ada21 (2004)), .ref (ada21 (2005)), .ref (ada21 (2006)), .int (nI 1), .ref (ada21 (2008)), .ref (ada21 (2009)), .ref (ada21 (2010)), .ref (ada21 (2011)), .ref (ada21 (2012)), .ref (ada21 (2013)), .ref (ada21 (2014)), .ref (ada21 (2015)), .ref (ada21 (2016)), .ref (ada21 (2017)), .ref (ada21 (2018)), .ref (ada21 (2019)), .ref (ada21 (2020)), .int (0), .int (0), .ref (ada21 (2023)), .ref (ada21 (2024)), .ref (ada21 (2025)), .null, .null]))) := ⟨_, rfl⟩
  rw [← eV22] at hW
  have h2002 : V22 (2002) = some (.inl (cy 0, 12, .inl (fun _ => 0))) := by rw [eV22, va_up_ne _ _ (by omega)]; exact h2002
  have h2003 : V22 (2003) = some (.inl (cy 0, 12, .inl (fun _ => 0))) := by rw [eV22, va_up_ne _ _ (by omega)]; exact h2003
  have h2004 : V22 (2004) = some (.inl (cy 0, 12, .inl (fun _ => 0))) := by rw [eV22, va_up_ne _ _ (by omega)]; exact h2004
  have h2005 : V22 (2005) = some (.inl (cy 0, 12, .inl (fun _ => 0))) := by rw [eV22, va_up_ne _ _ (by omega)]; exact h2005
  have h2006 : V22 (2006) = some (.inl (cy 0, 12, .inl (fun _ => 0))) := by rw [eV22, va_up_ne _ _ (by omega)]; exact h2006
  have h2008 : V22 (2008) = some (.inl (cy 0, 640, .inl (fun _ => 0))) := by rw [eV22, va_up_ne _ _ (by omega)]; exact h2008
  have h2009 : V22 (2009) = some (.inl (cy 1, 48, .inr (.inl (fun _ => 0)))) := by rw [eV22, va_up_ne _ _ (by omega)]; exact h2009
  have h2010 : V22 (2010) = some (.inl (cy 2, 48, .inl (fun _ => 0))) := by rw [eV22, va_up_ne _ _ (by omega)]; exact h2010
  have h2011 : V22 (2011) = some (.inl (cy 0, 4, .inl (fun _ => 0))) := by rw [eV22, va_up_ne _ _ (by omega)]; exact h2011
  have h2012 : V22 (2012) = some (.inl (cy 0, 4, .inl (fun _ => 0))) := by rw [eV22, va_up_ne _ _ (by omega)]; exact h2012
  have h2013 : V22 (2013) = some (.inl (cy 0, 4, .inl (fun _ => 0))) := by rw [eV22, va_up_ne _ _ (by omega)]; exact h2013
  have h2014 : V22 (2014) = some (.inl (cy 2, 4, .inl (fun _ => 0))) := by rw [eV22, va_up_ne _ _ (by omega)]; exact h2014
  have h2015 : V22 (2015) = some (.inl (cy 0, 4, .inl (fun _ => 0))) := by rw [eV22, va_up_ne _ _ (by omega)]; exact h2015
  have h2016 : V22 (2016) = some (.inl (cy 0, 4, .inl (fun _ => 0))) := by rw [eV22, va_up_ne _ _ (by omega)]; exact h2016
  have h2017 : V22 (2017) = some (.inl (cy 0, 240, .inl (fun _ => 0))) := by rw [eV22, va_up_ne _ _ (by omega)]; exact h2017
  have h2018 : V22 (2018) = some (.inl (cy 0, 240, .inl (fun _ => 0))) := by rw [eV22, va_up_ne _ _ (by omega)]; exact h2018
  have h2019 : V22 (2019) = some (.inl (cy 0, 240, .inl (fun _ => 0))) := by rw [eV22, va_up_ne _ _ (by omega)]; exact h2019
  have h2020 : V22 (2020) = some (.inl (cy 1, 2880, .inr (.inl (fun _ => 0)))) := by rw [eV22, va_up_ne _ _ (by omega)]; exact h2020
  have h2023 : V22 (2023) = some (.inl (cy 1, 60, .inr (.inl (fun _ => 0)))) := by rw [eV22, va_up_ne _ _ (by omega)]; exact h2023
  have h2024 : V22 (2024) = some (.inl (cy 0, 3200, .inl (fun _ => 0))) := by rw [eV22, va_up_ne _ _ (by omega)]; exact h2024
  have h2025 : V22 (2025) = some (.inl (cy 0, 20, .inl (fun _ => 0))) := by rw [eV22, va_up_ne _ _ (by omega)]; exact h2025
  have h2000 : V22 (2000) = some (.inr (7, [.int (0), .int (0), .ref (ada21 (2002)), .ref (ada21 (2003)), .ref (ada21 (2004)), .ref (ada21 (2005)), .ref (ada21 (2006)), .int (nI 1), .ref (ada21 (2008)), .ref (ada21 (2009)), .ref (ada21 (2010)), .ref (ada21 (2011)), .ref (ada21 (2012)), .ref (ada21 (2013)), .ref (ada21 (2014)), .ref (ada21 (2015)), .ref (ada21 (2016)), .ref (ada21 (2017)), .ref (ada21 (2018)), .ref (ada21 (2019)), .ref (ada21 (2020)), .int (0), .int (0), .ref (ada21 (2023)), .ref (ada21 (2024)), .ref (ada21 (2025)), .null, .null])) := by rw [eV22, va_up_self]
  refine lv_aload_n hx hb dX7_init_177 rfl (lv_at hl 0 rfl) ?_
  refine lv_sipush (v := nI 160) hx hb dX7_init_178 (by decide) ?_
  refine w_newI hx hb hK hW hS hz (N := 160) (2026) (by rw [eV22, va_up_ne _ _ (by omega), hva21 (2026) (by omega), eV21, va_up_ne _ _ (by omega), hva20 (2026) (by omega), eV20, va_up_ne _ _ (by omega), hva19 (2026) (by omega), eV19, va_up_ne _ _ (by omega), hva18 (2026) (by omega), eV18, va_up_ne _ _ (by omega), hva17 (2026) (by omega), eV17, va_up_ne _ _ (by omega), hva16 (2026) (by omega), eV16, va_up_ne _ _ (by omega), hva15 (2026) (by omega), eV15, va_up_ne _ _ (by omega), hva14 (2026) (by omega), eV14, va_up_ne _ _ (by omega), hva13 (2026) (by omega), eV13, va_up_ne _ _ (by omega), hva12 (2026) (by omega), eV12, va_up_ne _ _ (by omega), hva11 (2026) (by omega), eV11, va_up_ne _ _ (by omega), hva10 (2026) (by omega), eV10, va_up_ne _ _ (by omega), hva9 (2026) (by omega), eV9, va_up_ne _ _ (by omega), hva8 (2026) (by omega), eV8, va_up_ne _ _ (by omega), hva7 (2026) (by omega), eV7, va_up_ne _ _ (by omega), hva6 (2026) (by omega), eV6, va_up_ne _ _ (by omega), eV5, va_up_ne _ _ (by omega), hva5 (2026) (by omega), eV4, va_up_ne _ _ (by omega), hva4 (2026) (by omega), eV3, va_up_ne _ _ (by omega), hva3 (2026) (by omega), eV2, va_up_ne _ _ (by omega), hva2 (2026) (by omega), eV1, va_up_ne _ _ (by omega), hva1 (2026) (by omega)]; exact hfree _ (by omega) (by omega)) (by decide) (by decide) (by decide) dX7_init_181 (fun qa22 H hW hS => ?_)
  obtain ⟨ada22, eada22⟩ : ∃ x9, x9 = va_up ada21 (2026) qa22 := ⟨_, rfl⟩
  obtain ⟨Va22, eVa22⟩ : ∃ x9, x9 = va_up V22 (2026) (some (.inl (cy 0, 160, .inl (fun _ => 0)))) := ⟨_, rfl⟩
  rw [← eada22, ← eVa22] at hW
  have hva22 : ∀ L, ¬ L = (2026) → Va22 L = V22 L := fun L h => by rw [eVa22, va_up_ne _ _ h]
  have haa22 : ∀ L, ¬ L = (2026) → ada22 L = ada21 L := fun L h => by rw [eada22, va_up_ne _ _ h]
  have eqa22 : qa22 = ada22 (2026) := by rw [eada22, va_up_self]
  have h2026 : Va22 (2026) = some (.inl (cy 0, 160, .inl (fun _ => 0))) := by rw [eVa22, va_up_self]
  have hl : lv_has ls 2 [(0, .ref (ada22 (2000)))] := by rw [haa22 (2000) (by omega)]; exact hl
  refine W.eq (g2 := F0 m 183 ls [.ref (ada22 (2026)), .ref (ada22 (2000))]) (by rw [eqa22, haa22 (2000) (by omega)]) ?_
  have h2002 : Va22 (2002) = some (.inl (cy 0, 12, .inl (fun _ => 0))) := by rw [hva22 (2002) (by omega)]; exact h2002
  have h2003 : Va22 (2003) = some (.inl (cy 0, 12, .inl (fun _ => 0))) := by rw [hva22 (2003) (by omega)]; exact h2003
  have h2004 : Va22 (2004) = some (.inl (cy 0, 12, .inl (fun _ => 0))) := by rw [hva22 (2004) (by omega)]; exact h2004
  have h2005 : Va22 (2005) = some (.inl (cy 0, 12, .inl (fun _ => 0))) := by rw [hva22 (2005) (by omega)]; exact h2005
  have h2006 : Va22 (2006) = some (.inl (cy 0, 12, .inl (fun _ => 0))) := by rw [hva22 (2006) (by omega)]; exact h2006
  have h2008 : Va22 (2008) = some (.inl (cy 0, 640, .inl (fun _ => 0))) := by rw [hva22 (2008) (by omega)]; exact h2008
  have h2009 : Va22 (2009) = some (.inl (cy 1, 48, .inr (.inl (fun _ => 0)))) := by rw [hva22 (2009) (by omega)]; exact h2009
  have h2010 : Va22 (2010) = some (.inl (cy 2, 48, .inl (fun _ => 0))) := by rw [hva22 (2010) (by omega)]; exact h2010
  have h2011 : Va22 (2011) = some (.inl (cy 0, 4, .inl (fun _ => 0))) := by rw [hva22 (2011) (by omega)]; exact h2011
  have h2012 : Va22 (2012) = some (.inl (cy 0, 4, .inl (fun _ => 0))) := by rw [hva22 (2012) (by omega)]; exact h2012
  have h2013 : Va22 (2013) = some (.inl (cy 0, 4, .inl (fun _ => 0))) := by rw [hva22 (2013) (by omega)]; exact h2013
  have h2014 : Va22 (2014) = some (.inl (cy 2, 4, .inl (fun _ => 0))) := by rw [hva22 (2014) (by omega)]; exact h2014
  have h2015 : Va22 (2015) = some (.inl (cy 0, 4, .inl (fun _ => 0))) := by rw [hva22 (2015) (by omega)]; exact h2015
  have h2016 : Va22 (2016) = some (.inl (cy 0, 4, .inl (fun _ => 0))) := by rw [hva22 (2016) (by omega)]; exact h2016
  have h2017 : Va22 (2017) = some (.inl (cy 0, 240, .inl (fun _ => 0))) := by rw [hva22 (2017) (by omega)]; exact h2017
  have h2018 : Va22 (2018) = some (.inl (cy 0, 240, .inl (fun _ => 0))) := by rw [hva22 (2018) (by omega)]; exact h2018
  have h2019 : Va22 (2019) = some (.inl (cy 0, 240, .inl (fun _ => 0))) := by rw [hva22 (2019) (by omega)]; exact h2019
  have h2020 : Va22 (2020) = some (.inl (cy 1, 2880, .inr (.inl (fun _ => 0)))) := by rw [hva22 (2020) (by omega)]; exact h2020
  have h2023 : Va22 (2023) = some (.inl (cy 1, 60, .inr (.inl (fun _ => 0)))) := by rw [hva22 (2023) (by omega)]; exact h2023
  have h2024 : Va22 (2024) = some (.inl (cy 0, 3200, .inl (fun _ => 0))) := by rw [hva22 (2024) (by omega)]; exact h2024
  have h2025 : Va22 (2025) = some (.inl (cy 0, 20, .inl (fun _ => 0))) := by rw [hva22 (2025) (by omega)]; exact h2025
  have h2000 : Va22 (2000) = some (.inr (7, [.int (0), .int (0), .ref (ada22 (2002)), .ref (ada22 (2003)), .ref (ada22 (2004)), .ref (ada22 (2005)), .ref (ada22 (2006)), .int (nI 1), .ref (ada22 (2008)), .ref (ada22 (2009)), .ref (ada22 (2010)), .ref (ada22 (2011)), .ref (ada22 (2012)), .ref (ada22 (2013)), .ref (ada22 (2014)), .ref (ada22 (2015)), .ref (ada22 (2016)), .ref (ada22 (2017)), .ref (ada22 (2018)), .ref (ada22 (2019)), .ref (ada22 (2020)), .int (0), .int (0), .ref (ada22 (2023)), .ref (ada22 (2024)), .ref (ada22 (2025)), .null, .null])) := by rw [hva22 (2000) (by omega), haa22 (2002) (by omega), haa22 (2003) (by omega), haa22 (2004) (by omega), haa22 (2005) (by omega), haa22 (2006) (by omega), haa22 (2008) (by omega), haa22 (2009) (by omega), haa22 (2010) (by omega), haa22 (2011) (by omega), haa22 (2012) (by omega), haa22 (2013) (by omega), haa22 (2014) (by omega), haa22 (2015) (by omega), haa22 (2016) (by omega), haa22 (2017) (by omega), haa22 (2018) (by omega), haa22 (2019) (by omega), haa22 (2020) (by omega), haa22 (2023) (by omega), haa22 (2024) (by omega), haa22 (2025) (by omega)]; exact h2000
  refine p_X7_X7_was hx hb hown hnm hK hW hS h2000 dX7_init_183 (fun H locs hW hS => ?_)
  obtain ⟨V23, eV23⟩ : ∃ x9, x9 = va_up Va22 (2000) (some (.inr (7, [.int (0), .int (0), .ref (ada22 (2002)), .ref (ada22 (2003)), .ref (ada22 (2004)), .ref (ada22 (2005)), .ref (ada22 (2006)), .int (nI 1), .ref (ada22 (2008)), .ref (ada22 (2009)), .ref (ada22 (2010)), .ref (ada22 (2011)), .ref (ada22 (2012)), .ref (ada22 (2013)), .ref (ada22 (2014)), .ref (ada22 (2015)), .ref (ada22 (2016)), .ref (ada22 (2017)), .ref (ada22 (2018)), .ref (ada22 (2019)), .ref (ada22 (2020)), .int (0), .int (0), .ref (ada22 (2023)), .ref (ada22 (2024)), .ref (ada22 (2025)), .ref (ada22 (2026)), .null]))) := ⟨_, rfl⟩
  rw [← eV23] at hW
  have h2002 : V23 (2002) = some (.inl (cy 0, 12, .inl (fun _ => 0))) := by rw [eV23, va_up_ne _ _ (by omega)]; exact h2002
  have h2003 : V23 (2003) = some (.inl (cy 0, 12, .inl (fun _ => 0))) := by rw [eV23, va_up_ne _ _ (by omega)]; exact h2003
  have h2004 : V23 (2004) = some (.inl (cy 0, 12, .inl (fun _ => 0))) := by rw [eV23, va_up_ne _ _ (by omega)]; exact h2004
  have h2005 : V23 (2005) = some (.inl (cy 0, 12, .inl (fun _ => 0))) := by rw [eV23, va_up_ne _ _ (by omega)]; exact h2005
  have h2006 : V23 (2006) = some (.inl (cy 0, 12, .inl (fun _ => 0))) := by rw [eV23, va_up_ne _ _ (by omega)]; exact h2006
  have h2008 : V23 (2008) = some (.inl (cy 0, 640, .inl (fun _ => 0))) := by rw [eV23, va_up_ne _ _ (by omega)]; exact h2008
  have h2009 : V23 (2009) = some (.inl (cy 1, 48, .inr (.inl (fun _ => 0)))) := by rw [eV23, va_up_ne _ _ (by omega)]; exact h2009
  have h2010 : V23 (2010) = some (.inl (cy 2, 48, .inl (fun _ => 0))) := by rw [eV23, va_up_ne _ _ (by omega)]; exact h2010
  have h2011 : V23 (2011) = some (.inl (cy 0, 4, .inl (fun _ => 0))) := by rw [eV23, va_up_ne _ _ (by omega)]; exact h2011
  have h2012 : V23 (2012) = some (.inl (cy 0, 4, .inl (fun _ => 0))) := by rw [eV23, va_up_ne _ _ (by omega)]; exact h2012
  have h2013 : V23 (2013) = some (.inl (cy 0, 4, .inl (fun _ => 0))) := by rw [eV23, va_up_ne _ _ (by omega)]; exact h2013
  have h2014 : V23 (2014) = some (.inl (cy 2, 4, .inl (fun _ => 0))) := by rw [eV23, va_up_ne _ _ (by omega)]; exact h2014
  have h2015 : V23 (2015) = some (.inl (cy 0, 4, .inl (fun _ => 0))) := by rw [eV23, va_up_ne _ _ (by omega)]; exact h2015
  have h2016 : V23 (2016) = some (.inl (cy 0, 4, .inl (fun _ => 0))) := by rw [eV23, va_up_ne _ _ (by omega)]; exact h2016
  have h2017 : V23 (2017) = some (.inl (cy 0, 240, .inl (fun _ => 0))) := by rw [eV23, va_up_ne _ _ (by omega)]; exact h2017
  have h2018 : V23 (2018) = some (.inl (cy 0, 240, .inl (fun _ => 0))) := by rw [eV23, va_up_ne _ _ (by omega)]; exact h2018
  have h2019 : V23 (2019) = some (.inl (cy 0, 240, .inl (fun _ => 0))) := by rw [eV23, va_up_ne _ _ (by omega)]; exact h2019
  have h2020 : V23 (2020) = some (.inl (cy 1, 2880, .inr (.inl (fun _ => 0)))) := by rw [eV23, va_up_ne _ _ (by omega)]; exact h2020
  have h2023 : V23 (2023) = some (.inl (cy 1, 60, .inr (.inl (fun _ => 0)))) := by rw [eV23, va_up_ne _ _ (by omega)]; exact h2023
  have h2024 : V23 (2024) = some (.inl (cy 0, 3200, .inl (fun _ => 0))) := by rw [eV23, va_up_ne _ _ (by omega)]; exact h2024
  have h2025 : V23 (2025) = some (.inl (cy 0, 20, .inl (fun _ => 0))) := by rw [eV23, va_up_ne _ _ (by omega)]; exact h2025
  have h2026 : V23 (2026) = some (.inl (cy 0, 160, .inl (fun _ => 0))) := by rw [eV23, va_up_ne _ _ (by omega)]; exact h2026
  have h2000 : V23 (2000) = some (.inr (7, [.int (0), .int (0), .ref (ada22 (2002)), .ref (ada22 (2003)), .ref (ada22 (2004)), .ref (ada22 (2005)), .ref (ada22 (2006)), .int (nI 1), .ref (ada22 (2008)), .ref (ada22 (2009)), .ref (ada22 (2010)), .ref (ada22 (2011)), .ref (ada22 (2012)), .ref (ada22 (2013)), .ref (ada22 (2014)), .ref (ada22 (2015)), .ref (ada22 (2016)), .ref (ada22 (2017)), .ref (ada22 (2018)), .ref (ada22 (2019)), .ref (ada22 (2020)), .int (0), .int (0), .ref (ada22 (2023)), .ref (ada22 (2024)), .ref (ada22 (2025)), .ref (ada22 (2026)), .null])) := by rw [eV23, va_up_self]
  refine lv_aload_n hx hb dX7_init_186 rfl (lv_at hl 0 rfl) ?_
  refine lv_bipush (v := nI 12) hx hb dX7_init_187 (by decide) ?_
  refine w_newJ hx hb hK hW hS hz (N := 12) (2027) (by rw [eV23, va_up_ne _ _ (by omega), hva22 (2027) (by omega), eV22, va_up_ne _ _ (by omega), hva21 (2027) (by omega), eV21, va_up_ne _ _ (by omega), hva20 (2027) (by omega), eV20, va_up_ne _ _ (by omega), hva19 (2027) (by omega), eV19, va_up_ne _ _ (by omega), hva18 (2027) (by omega), eV18, va_up_ne _ _ (by omega), hva17 (2027) (by omega), eV17, va_up_ne _ _ (by omega), hva16 (2027) (by omega), eV16, va_up_ne _ _ (by omega), hva15 (2027) (by omega), eV15, va_up_ne _ _ (by omega), hva14 (2027) (by omega), eV14, va_up_ne _ _ (by omega), hva13 (2027) (by omega), eV13, va_up_ne _ _ (by omega), hva12 (2027) (by omega), eV12, va_up_ne _ _ (by omega), hva11 (2027) (by omega), eV11, va_up_ne _ _ (by omega), hva10 (2027) (by omega), eV10, va_up_ne _ _ (by omega), hva9 (2027) (by omega), eV9, va_up_ne _ _ (by omega), hva8 (2027) (by omega), eV8, va_up_ne _ _ (by omega), hva7 (2027) (by omega), eV7, va_up_ne _ _ (by omega), hva6 (2027) (by omega), eV6, va_up_ne _ _ (by omega), eV5, va_up_ne _ _ (by omega), hva5 (2027) (by omega), eV4, va_up_ne _ _ (by omega), hva4 (2027) (by omega), eV3, va_up_ne _ _ (by omega), hva3 (2027) (by omega), eV2, va_up_ne _ _ (by omega), hva2 (2027) (by omega), eV1, va_up_ne _ _ (by omega), hva1 (2027) (by omega)]; exact hfree _ (by omega) (by omega)) (by decide) (by decide) (by decide) dX7_init_189 (fun qa23 H hW hS => ?_)
  obtain ⟨ada23, eada23⟩ : ∃ x9, x9 = va_up ada22 (2027) qa23 := ⟨_, rfl⟩
  obtain ⟨Va23, eVa23⟩ : ∃ x9, x9 = va_up V23 (2027) (some (.inl (cy 1, 12, .inr (.inl (fun _ => 0))))) := ⟨_, rfl⟩
  rw [← eada23, ← eVa23] at hW
  have hva23 : ∀ L, ¬ L = (2027) → Va23 L = V23 L := fun L h => by rw [eVa23, va_up_ne _ _ h]
  have haa23 : ∀ L, ¬ L = (2027) → ada23 L = ada22 L := fun L h => by rw [eada23, va_up_ne _ _ h]
  have eqa23 : qa23 = ada23 (2027) := by rw [eada23, va_up_self]
  have h2027 : Va23 (2027) = some (.inl (cy 1, 12, .inr (.inl (fun _ => 0)))) := by rw [eVa23, va_up_self]
  have hl : lv_has ls 2 [(0, .ref (ada23 (2000)))] := by rw [haa23 (2000) (by omega)]; exact hl
  refine W.eq (g2 := F0 m 191 ls [.ref (ada23 (2027)), .ref (ada23 (2000))]) (by rw [eqa23, haa23 (2000) (by omega)]) ?_
  have h2002 : Va23 (2002) = some (.inl (cy 0, 12, .inl (fun _ => 0))) := by rw [hva23 (2002) (by omega)]; exact h2002
  have h2003 : Va23 (2003) = some (.inl (cy 0, 12, .inl (fun _ => 0))) := by rw [hva23 (2003) (by omega)]; exact h2003
  have h2004 : Va23 (2004) = some (.inl (cy 0, 12, .inl (fun _ => 0))) := by rw [hva23 (2004) (by omega)]; exact h2004
  have h2005 : Va23 (2005) = some (.inl (cy 0, 12, .inl (fun _ => 0))) := by rw [hva23 (2005) (by omega)]; exact h2005
  have h2006 : Va23 (2006) = some (.inl (cy 0, 12, .inl (fun _ => 0))) := by rw [hva23 (2006) (by omega)]; exact h2006
  have h2008 : Va23 (2008) = some (.inl (cy 0, 640, .inl (fun _ => 0))) := by rw [hva23 (2008) (by omega)]; exact h2008
  have h2009 : Va23 (2009) = some (.inl (cy 1, 48, .inr (.inl (fun _ => 0)))) := by rw [hva23 (2009) (by omega)]; exact h2009
  have h2010 : Va23 (2010) = some (.inl (cy 2, 48, .inl (fun _ => 0))) := by rw [hva23 (2010) (by omega)]; exact h2010
  have h2011 : Va23 (2011) = some (.inl (cy 0, 4, .inl (fun _ => 0))) := by rw [hva23 (2011) (by omega)]; exact h2011
  have h2012 : Va23 (2012) = some (.inl (cy 0, 4, .inl (fun _ => 0))) := by rw [hva23 (2012) (by omega)]; exact h2012
  have h2013 : Va23 (2013) = some (.inl (cy 0, 4, .inl (fun _ => 0))) := by rw [hva23 (2013) (by omega)]; exact h2013
  have h2014 : Va23 (2014) = some (.inl (cy 2, 4, .inl (fun _ => 0))) := by rw [hva23 (2014) (by omega)]; exact h2014
  have h2015 : Va23 (2015) = some (.inl (cy 0, 4, .inl (fun _ => 0))) := by rw [hva23 (2015) (by omega)]; exact h2015
  have h2016 : Va23 (2016) = some (.inl (cy 0, 4, .inl (fun _ => 0))) := by rw [hva23 (2016) (by omega)]; exact h2016
  have h2017 : Va23 (2017) = some (.inl (cy 0, 240, .inl (fun _ => 0))) := by rw [hva23 (2017) (by omega)]; exact h2017
  have h2018 : Va23 (2018) = some (.inl (cy 0, 240, .inl (fun _ => 0))) := by rw [hva23 (2018) (by omega)]; exact h2018
  have h2019 : Va23 (2019) = some (.inl (cy 0, 240, .inl (fun _ => 0))) := by rw [hva23 (2019) (by omega)]; exact h2019
  have h2020 : Va23 (2020) = some (.inl (cy 1, 2880, .inr (.inl (fun _ => 0)))) := by rw [hva23 (2020) (by omega)]; exact h2020
  have h2023 : Va23 (2023) = some (.inl (cy 1, 60, .inr (.inl (fun _ => 0)))) := by rw [hva23 (2023) (by omega)]; exact h2023
  have h2024 : Va23 (2024) = some (.inl (cy 0, 3200, .inl (fun _ => 0))) := by rw [hva23 (2024) (by omega)]; exact h2024
  have h2025 : Va23 (2025) = some (.inl (cy 0, 20, .inl (fun _ => 0))) := by rw [hva23 (2025) (by omega)]; exact h2025
  have h2026 : Va23 (2026) = some (.inl (cy 0, 160, .inl (fun _ => 0))) := by rw [hva23 (2026) (by omega)]; exact h2026
  have h2000 : Va23 (2000) = some (.inr (7, [.int (0), .int (0), .ref (ada23 (2002)), .ref (ada23 (2003)), .ref (ada23 (2004)), .ref (ada23 (2005)), .ref (ada23 (2006)), .int (nI 1), .ref (ada23 (2008)), .ref (ada23 (2009)), .ref (ada23 (2010)), .ref (ada23 (2011)), .ref (ada23 (2012)), .ref (ada23 (2013)), .ref (ada23 (2014)), .ref (ada23 (2015)), .ref (ada23 (2016)), .ref (ada23 (2017)), .ref (ada23 (2018)), .ref (ada23 (2019)), .ref (ada23 (2020)), .int (0), .int (0), .ref (ada23 (2023)), .ref (ada23 (2024)), .ref (ada23 (2025)), .ref (ada23 (2026)), .null])) := by rw [hva23 (2000) (by omega), haa23 (2002) (by omega), haa23 (2003) (by omega), haa23 (2004) (by omega), haa23 (2005) (by omega), haa23 (2006) (by omega), haa23 (2008) (by omega), haa23 (2009) (by omega), haa23 (2010) (by omega), haa23 (2011) (by omega), haa23 (2012) (by omega), haa23 (2013) (by omega), haa23 (2014) (by omega), haa23 (2015) (by omega), haa23 (2016) (by omega), haa23 (2017) (by omega), haa23 (2018) (by omega), haa23 (2019) (by omega), haa23 (2020) (by omega), haa23 (2023) (by omega), haa23 (2024) (by omega), haa23 (2025) (by omega), haa23 (2026) (by omega)]; exact h2000
  refine p_X7_X7_worthWas hx hb hown hnm hK hW hS h2000 dX7_init_191 (fun H locs hW hS => ?_)
  obtain ⟨V24, eV24⟩ : ∃ x9, x9 = va_up Va23 (2000) (some (.inr (7, [.int (0), .int (0), .ref (ada23 (2002)), .ref (ada23 (2003)), .ref (ada23 (2004)), .ref (ada23 (2005)), .ref (ada23 (2006)), .int (nI 1), .ref (ada23 (2008)), .ref (ada23 (2009)), .ref (ada23 (2010)), .ref (ada23 (2011)), .ref (ada23 (2012)), .ref (ada23 (2013)), .ref (ada23 (2014)), .ref (ada23 (2015)), .ref (ada23 (2016)), .ref (ada23 (2017)), .ref (ada23 (2018)), .ref (ada23 (2019)), .ref (ada23 (2020)), .int (0), .int (0), .ref (ada23 (2023)), .ref (ada23 (2024)), .ref (ada23 (2025)), .ref (ada23 (2026)), .ref (ada23 (2027))]))) := ⟨_, rfl⟩
  rw [← eV24] at hW
  have h2002 : V24 (2002) = some (.inl (cy 0, 12, .inl (fun _ => 0))) := by rw [eV24, va_up_ne _ _ (by omega)]; exact h2002
  have h2003 : V24 (2003) = some (.inl (cy 0, 12, .inl (fun _ => 0))) := by rw [eV24, va_up_ne _ _ (by omega)]; exact h2003
  have h2004 : V24 (2004) = some (.inl (cy 0, 12, .inl (fun _ => 0))) := by rw [eV24, va_up_ne _ _ (by omega)]; exact h2004
  have h2005 : V24 (2005) = some (.inl (cy 0, 12, .inl (fun _ => 0))) := by rw [eV24, va_up_ne _ _ (by omega)]; exact h2005
  have h2006 : V24 (2006) = some (.inl (cy 0, 12, .inl (fun _ => 0))) := by rw [eV24, va_up_ne _ _ (by omega)]; exact h2006
  have h2008 : V24 (2008) = some (.inl (cy 0, 640, .inl (fun _ => 0))) := by rw [eV24, va_up_ne _ _ (by omega)]; exact h2008
  have h2009 : V24 (2009) = some (.inl (cy 1, 48, .inr (.inl (fun _ => 0)))) := by rw [eV24, va_up_ne _ _ (by omega)]; exact h2009
  have h2010 : V24 (2010) = some (.inl (cy 2, 48, .inl (fun _ => 0))) := by rw [eV24, va_up_ne _ _ (by omega)]; exact h2010
  have h2011 : V24 (2011) = some (.inl (cy 0, 4, .inl (fun _ => 0))) := by rw [eV24, va_up_ne _ _ (by omega)]; exact h2011
  have h2012 : V24 (2012) = some (.inl (cy 0, 4, .inl (fun _ => 0))) := by rw [eV24, va_up_ne _ _ (by omega)]; exact h2012
  have h2013 : V24 (2013) = some (.inl (cy 0, 4, .inl (fun _ => 0))) := by rw [eV24, va_up_ne _ _ (by omega)]; exact h2013
  have h2014 : V24 (2014) = some (.inl (cy 2, 4, .inl (fun _ => 0))) := by rw [eV24, va_up_ne _ _ (by omega)]; exact h2014
  have h2015 : V24 (2015) = some (.inl (cy 0, 4, .inl (fun _ => 0))) := by rw [eV24, va_up_ne _ _ (by omega)]; exact h2015
  have h2016 : V24 (2016) = some (.inl (cy 0, 4, .inl (fun _ => 0))) := by rw [eV24, va_up_ne _ _ (by omega)]; exact h2016
  have h2017 : V24 (2017) = some (.inl (cy 0, 240, .inl (fun _ => 0))) := by rw [eV24, va_up_ne _ _ (by omega)]; exact h2017
  have h2018 : V24 (2018) = some (.inl (cy 0, 240, .inl (fun _ => 0))) := by rw [eV24, va_up_ne _ _ (by omega)]; exact h2018
  have h2019 : V24 (2019) = some (.inl (cy 0, 240, .inl (fun _ => 0))) := by rw [eV24, va_up_ne _ _ (by omega)]; exact h2019
  have h2020 : V24 (2020) = some (.inl (cy 1, 2880, .inr (.inl (fun _ => 0)))) := by rw [eV24, va_up_ne _ _ (by omega)]; exact h2020
  have h2023 : V24 (2023) = some (.inl (cy 1, 60, .inr (.inl (fun _ => 0)))) := by rw [eV24, va_up_ne _ _ (by omega)]; exact h2023
  have h2024 : V24 (2024) = some (.inl (cy 0, 3200, .inl (fun _ => 0))) := by rw [eV24, va_up_ne _ _ (by omega)]; exact h2024
  have h2025 : V24 (2025) = some (.inl (cy 0, 20, .inl (fun _ => 0))) := by rw [eV24, va_up_ne _ _ (by omega)]; exact h2025
  have h2026 : V24 (2026) = some (.inl (cy 0, 160, .inl (fun _ => 0))) := by rw [eV24, va_up_ne _ _ (by omega)]; exact h2026
  have h2027 : V24 (2027) = some (.inl (cy 1, 12, .inr (.inl (fun _ => 0)))) := by rw [eV24, va_up_ne _ _ (by omega)]; exact h2027
  have h2000 : V24 (2000) = some (.inr (7, [.int (0), .int (0), .ref (ada23 (2002)), .ref (ada23 (2003)), .ref (ada23 (2004)), .ref (ada23 (2005)), .ref (ada23 (2006)), .int (nI 1), .ref (ada23 (2008)), .ref (ada23 (2009)), .ref (ada23 (2010)), .ref (ada23 (2011)), .ref (ada23 (2012)), .ref (ada23 (2013)), .ref (ada23 (2014)), .ref (ada23 (2015)), .ref (ada23 (2016)), .ref (ada23 (2017)), .ref (ada23 (2018)), .ref (ada23 (2019)), .ref (ada23 (2020)), .int (0), .int (0), .ref (ada23 (2023)), .ref (ada23 (2024)), .ref (ada23 (2025)), .ref (ada23 (2026)), .ref (ada23 (2027))])) := by rw [eV24, va_up_self]
  refine lv_iconst (v := nI 0) hx hb dX7_init_194 (by decide) ?_
  refine lv_istore_n (lv' := [(1, .int (nI 0)), (0, .ref (ada23 (2000)))]) hx hb dX7_init_195 rfl hl (by decide) rfl (fun ls hl => ?_)
  refine wlh (ι := Nat) (fun i => 4 - i) (fun i H locs g => (i ≤ 4) ∧ (∃ X, (X 2000 = some (.inr (7, [.int (nI 0), .int (nI 0), .ref (ada23 (2002)), .ref (ada23 (2003)), .ref (ada23 (2004)), .ref (ada23 (2005)), .ref (ada23 (2006)), .int (nI 1), .ref (ada23 (2008)), .ref (ada23 (2009)), .ref (ada23 (2010)), .ref (ada23 (2011)), .ref (ada23 (2012)), .ref (ada23 (2013)), .ref (ada23 (2014)), .ref (ada23 (2015)), .ref (ada23 (2016)), .ref (ada23 (2017)), .ref (ada23 (2018)), .ref (ada23 (2019)), .ref (ada23 (2020)), .int (0), .int (nI 0), .ref (ada23 (2023)), .ref (ada23 (2024)), .ref (ada23 (2025)), .ref (ada23 (2026)), .ref (ada23 (2027))])) ∧ X 2002 = some (.inl (cy 0, 12, .inl (fun _ => 0))) ∧ X 2003 = some (.inl (cy 0, 12, .inl (fun _ => 0))) ∧ X 2004 = some (.inl (cy 0, 12, .inl (fun _ => 0))) ∧ X 2005 = some (.inl (cy 0, 12, .inl (fun _ => 0))) ∧ X 2006 = some (.inl (cy 0, 12, .inl (fun _ => 0))) ∧ X 2008 = some (.inl (cy 0, 640, .inl (fun _ => 0))) ∧ X 2009 = some (.inl (cy 1, 48, .inr (.inl (fun _ => 0)))) ∧ X 2010 = some (.inl (cy 2, 48, .inl (fun r => b2i ((fun _ => false) r)))) ∧ X 2011 = some (.inl (cy 0, 4, .inl (fun _ => 0))) ∧ X 2012 = some (.inl (cy 0, 4, .inl (fun _ => 0))) ∧ X 2014 = some (.inl (cy 2, 4, .inl (fun r => b2i ((fun _ => false) r)))) ∧ X 2015 = some (.inl (cy 0, 4, .inl (fun _ => 0))) ∧ X 2016 = some (.inl (cy 0, 4, .inl (fun _ => 0))) ∧ X 2017 = some (.inl (cy 0, 240, .inl (fun _ => 0))) ∧ X 2018 = some (.inl (cy 0, 240, .inl (fun _ => 0))) ∧ X 2019 = some (.inl (cy 0, 240, .inl (fun _ => 0))) ∧ X 2020 = some (.inl (cy 1, 2880, .inr (.inl (fun _ => 0)))) ∧ X 2023 = some (.inl (cy 1, 60, .inr (.inl (fun _ => 0)))) ∧ X 2024 = some (.inl (cy 0, 3200, .inl (fun _ => 0))) ∧ X 2025 = some (.inl (cy 0, 20, .inl (fun _ => 0))) ∧ X 2026 = some (.inl (cy 0, 160, .inl (fun _ => 0))) ∧ X 2027 = some (.inl (cy 1, 12, .inr (.inl (fun _ => 0)))) ∧ X 2013 = some (.inl (cy 0, 4, .inl (fnA i))) ∧ ∀ L, L < 2000 → X L = V L) ∧ HW D z0 ada23 X H) ∧ va_S (AA z0) s.heap H locs ∧ ∃ ls, g = F0 m 196 ls [] ∧ lv_has ls 2 [(0, .ref (ada23 (2000))), (1, .int (nI i))]) ?_ (0) _ _ _ ⟨Nat.zero_le _, ⟨_, ⟨h2000, h2002, h2003, h2004, h2005, h2006, h2008, h2009, h2010, h2011, h2012, h2014, h2015, h2016, h2017, h2018, h2019, h2020, h2023, h2024, h2025, h2026, h2027, by rw [fnA_0]; exact h2013, fun L hL => by rw [eV24, va_up_ne _ _ (by omega), hva23 (L) (by omega), eV23, va_up_ne _ _ (by omega), hva22 (L) (by omega), eV22, va_up_ne _ _ (by omega), hva21 (L) (by omega), eV21, va_up_ne _ _ (by omega), hva20 (L) (by omega), eV20, va_up_ne _ _ (by omega), hva19 (L) (by omega), eV19, va_up_ne _ _ (by omega), hva18 (L) (by omega), eV18, va_up_ne _ _ (by omega), hva17 (L) (by omega), eV17, va_up_ne _ _ (by omega), hva16 (L) (by omega), eV16, va_up_ne _ _ (by omega), hva15 (L) (by omega), eV15, va_up_ne _ _ (by omega), hva14 (L) (by omega), eV14, va_up_ne _ _ (by omega), hva13 (L) (by omega), eV13, va_up_ne _ _ (by omega), hva12 (L) (by omega), eV12, va_up_ne _ _ (by omega), hva11 (L) (by omega), eV11, va_up_ne _ _ (by omega), hva10 (L) (by omega), eV10, va_up_ne _ _ (by omega), hva9 (L) (by omega), eV9, va_up_ne _ _ (by omega), hva8 (L) (by omega), eV8, va_up_ne _ _ (by omega), hva7 (L) (by omega), eV7, va_up_ne _ _ (by omega), hva6 (L) (by omega), eV6, va_up_ne _ _ (by omega), eV5, va_up_ne _ _ (by omega), hva5 (L) (by omega), eV4, va_up_ne _ _ (by omega), hva4 (L) (by omega), eV3, va_up_ne _ _ (by omega), hva3 (L) (by omega), eV2, va_up_ne _ _ (by omega), hva2 (L) (by omega), eV1, va_up_ne _ _ (by omega), hva1 (L) (by omega)]⟩, hW⟩, hS, ls, rfl, lv_sub hl [1, 0] rfl⟩
  intro i H locs g hg ih
  obtain ⟨hi, ⟨Vn, ⟨h2000, h2002, h2003, h2004, h2005, h2006, h2008, h2009, h2010, h2011, h2012, h2014, h2015, h2016, h2017, h2018, h2019, h2020, h2023, h2024, h2025, h2026, h2027, h2013, hfn⟩, hW⟩, hS, ls, rfl, hl⟩ := hg
  refine lv_iload_n hx hb dX7_init_196 rfl (lv_at hl 1 rfl) ?_
  refine lv_iconst (v := nI 4) hx hb dX7_init_197 (by decide) ?_
  refine lv_icmp_ge (tgt := 214) hx hb dX7_init_198 (by decide) (fun c198 => ?_) (fun c198 => ?_)
  · skip
    have c198 := nI_le' c198 (by omega) (by omega)
    refine W.widen (k := 23) (n := 7872) (by omega) (by omega) ?_
    exact rwv hx hb hr hlocks dX7_init_214 hW hS (by
      have e9 : i = 4 := by omega
      rw [e9] at h2013
      refine ⟨?_, fun L hL => ⟨hfn L hL, by show ada23 L = _; rw [haa23 (L) (by omega), haa22 (L) (by omega), haa21 (L) (by omega), haa20 (L) (by omega), haa19 (L) (by omega), haa18 (L) (by omega), haa17 (L) (by omega), haa16 (L) (by omega), haa15 (L) (by omega), haa14 (L) (by omega), haa13 (L) (by omega), haa12 (L) (by omega), haa11 (L) (by omega), haa10 (L) (by omega), haa9 (L) (by omega), haa8 (L) (by omega), haa7 (L) (by omega), haa6 (L) (by omega), haa5 (L) (by omega), haa4 (L) (by omega), haa3 (L) (by omega), haa2 (L) (by omega), haa1 (L) (by omega)]⟩, by show ada23 2000 = _; rw [haa23 (2000) (by omega), haa22 (2000) (by omega), haa21 (2000) (by omega), haa20 (2000) (by omega), haa19 (2000) (by omega), haa18 (2000) (by omega), haa17 (2000) (by omega), haa16 (2000) (by omega), haa15 (2000) (by omega), haa14 (2000) (by omega), haa13 (2000) (by omega), haa12 (2000) (by omega), haa11 (2000) (by omega), haa10 (2000) (by omega), haa9 (2000) (by omega), haa8 (2000) (by omega), haa7 (2000) (by omega), haa6 (2000) (by omega), haa5 (2000) (by omega), haa4 (2000) (by omega), haa3 (2000) (by omega), haa2 (2000) (by omega), haa1 (2000) (by omega)]⟩
      refine ⟨_, _, _, _, _, _, _, _, _, _, _, _, _, _, _, _, _, _, _, _, _, _, _, ⟨h2000, h2002, h2003, h2004, h2005, h2006, h2008, h2009, h2010, h2011, h2012, h2013, h2014, h2015, h2016, h2017, h2018, h2019, h2020, h2023, h2024, h2025, h2026, h2027⟩, ⟨fun r hr => absurd hr (Nat.not_lt_zero r), fun r hr => absurd hr (Nat.not_lt_zero r)⟩, ⟨fun q hq => ?_, fun q h1 h2 => ?_⟩, fun q hq => absurd hq (Nat.not_lt_zero q)⟩
      · have e8 : q = 0 := by omega
        subst e8
        exact ⟨fun _ _ _ _ => rfl, fun r hr => absurd hr (Nat.not_lt_zero r), fun _ _ => rfl, rfl, rfl, rfl, rfl, rfl, rfl, fun i hi => absurd hi (Nat.not_lt_zero i)⟩
      · exact ⟨rfl, rfl, by show (if q < 4 then (-1 : Int32) else 0) = -1; rw [if_pos h2], rfl, rfl, rfl⟩)
  · skip
    have c198 := nI_nle' c198 (by omega) (by omega)
    refine lv_aload_n hx hb dX7_init_201 rfl (lv_at hl 0 rfl) ?_
    refine g_X7_X7_found hx hb hown hK hW h2000 dX7_init_202 ?_
    refine lv_iload_n hx hb dX7_init_205 rfl (lv_at hl 1 rfl) ?_
    refine lv_iconst (v := -1) hx hb dX7_init_206 (by decide) ?_
    refine w_iast hx hb hK hW hS h2013 (j := i) (rfl) (by omega) (by omega) dX7_init_207 (fun H locs hW hS => ?_)
    obtain ⟨V25, eV25⟩ : ∃ x9, x9 = va_up Vn (2013) (some (.inl (cy 0, 4, .inl (upd (fnA i) i (-1))))) := ⟨_, rfl⟩
    rw [← eV25] at hW
    have h2000 : V25 (2000) = some (.inr (7, [.int (nI 0), .int (nI 0), .ref (ada23 (2002)), .ref (ada23 (2003)), .ref (ada23 (2004)), .ref (ada23 (2005)), .ref (ada23 (2006)), .int (nI 1), .ref (ada23 (2008)), .ref (ada23 (2009)), .ref (ada23 (2010)), .ref (ada23 (2011)), .ref (ada23 (2012)), .ref (ada23 (2013)), .ref (ada23 (2014)), .ref (ada23 (2015)), .ref (ada23 (2016)), .ref (ada23 (2017)), .ref (ada23 (2018)), .ref (ada23 (2019)), .ref (ada23 (2020)), .int (0), .int (nI 0), .ref (ada23 (2023)), .ref (ada23 (2024)), .ref (ada23 (2025)), .ref (ada23 (2026)), .ref (ada23 (2027))])) := by rw [eV25, va_up_ne _ _ (by omega)]; exact h2000
    have h2002 : V25 (2002) = some (.inl (cy 0, 12, .inl (fun _ => 0))) := by rw [eV25, va_up_ne _ _ (by omega)]; exact h2002
    have h2003 : V25 (2003) = some (.inl (cy 0, 12, .inl (fun _ => 0))) := by rw [eV25, va_up_ne _ _ (by omega)]; exact h2003
    have h2004 : V25 (2004) = some (.inl (cy 0, 12, .inl (fun _ => 0))) := by rw [eV25, va_up_ne _ _ (by omega)]; exact h2004
    have h2005 : V25 (2005) = some (.inl (cy 0, 12, .inl (fun _ => 0))) := by rw [eV25, va_up_ne _ _ (by omega)]; exact h2005
    have h2006 : V25 (2006) = some (.inl (cy 0, 12, .inl (fun _ => 0))) := by rw [eV25, va_up_ne _ _ (by omega)]; exact h2006
    have h2008 : V25 (2008) = some (.inl (cy 0, 640, .inl (fun _ => 0))) := by rw [eV25, va_up_ne _ _ (by omega)]; exact h2008
    have h2009 : V25 (2009) = some (.inl (cy 1, 48, .inr (.inl (fun _ => 0)))) := by rw [eV25, va_up_ne _ _ (by omega)]; exact h2009
    have h2010 : V25 (2010) = some (.inl (cy 2, 48, .inl (fun r => b2i ((fun _ => false) r)))) := by rw [eV25, va_up_ne _ _ (by omega)]; exact h2010
    have h2011 : V25 (2011) = some (.inl (cy 0, 4, .inl (fun _ => 0))) := by rw [eV25, va_up_ne _ _ (by omega)]; exact h2011
    have h2012 : V25 (2012) = some (.inl (cy 0, 4, .inl (fun _ => 0))) := by rw [eV25, va_up_ne _ _ (by omega)]; exact h2012
    have h2014 : V25 (2014) = some (.inl (cy 2, 4, .inl (fun r => b2i ((fun _ => false) r)))) := by rw [eV25, va_up_ne _ _ (by omega)]; exact h2014
    have h2015 : V25 (2015) = some (.inl (cy 0, 4, .inl (fun _ => 0))) := by rw [eV25, va_up_ne _ _ (by omega)]; exact h2015
    have h2016 : V25 (2016) = some (.inl (cy 0, 4, .inl (fun _ => 0))) := by rw [eV25, va_up_ne _ _ (by omega)]; exact h2016
    have h2017 : V25 (2017) = some (.inl (cy 0, 240, .inl (fun _ => 0))) := by rw [eV25, va_up_ne _ _ (by omega)]; exact h2017
    have h2018 : V25 (2018) = some (.inl (cy 0, 240, .inl (fun _ => 0))) := by rw [eV25, va_up_ne _ _ (by omega)]; exact h2018
    have h2019 : V25 (2019) = some (.inl (cy 0, 240, .inl (fun _ => 0))) := by rw [eV25, va_up_ne _ _ (by omega)]; exact h2019
    have h2020 : V25 (2020) = some (.inl (cy 1, 2880, .inr (.inl (fun _ => 0)))) := by rw [eV25, va_up_ne _ _ (by omega)]; exact h2020
    have h2023 : V25 (2023) = some (.inl (cy 1, 60, .inr (.inl (fun _ => 0)))) := by rw [eV25, va_up_ne _ _ (by omega)]; exact h2023
    have h2024 : V25 (2024) = some (.inl (cy 0, 3200, .inl (fun _ => 0))) := by rw [eV25, va_up_ne _ _ (by omega)]; exact h2024
    have h2025 : V25 (2025) = some (.inl (cy 0, 20, .inl (fun _ => 0))) := by rw [eV25, va_up_ne _ _ (by omega)]; exact h2025
    have h2026 : V25 (2026) = some (.inl (cy 0, 160, .inl (fun _ => 0))) := by rw [eV25, va_up_ne _ _ (by omega)]; exact h2026
    have h2027 : V25 (2027) = some (.inl (cy 1, 12, .inr (.inl (fun _ => 0)))) := by rw [eV25, va_up_ne _ _ (by omega)]; exact h2027
    have h2013 : V25 (2013) = some (.inl (cy 0, 4, .inl (upd (fnA i) i (-1)))) := by rw [eV25, va_up_self]
    refine lv_iinc (v := nI (i + 1)) (lv' := [(1, .int (nI (i + 1))), (0, .ref (ada23 (2000)))]) hx hb dX7_init_208 hl (k := 1) rfl (by rw [show Int32.ofInt 1 = nI 1 from by decide]; exact nI_add _ _) (by decide) rfl (fun ls hl => ?_)
    refine lv_goto (tgt := 196) hx hb dX7_init_211 (by decide) ?_
    exact ih (i + 1) _ _ _ ⟨by omega, ⟨_, ⟨h2000, h2002, h2003, h2004, h2005, h2006, h2008, h2009, h2010, h2011, h2012, h2014, h2015, h2016, h2017, h2018, h2019, h2020, h2023, h2024, h2025, h2026, h2027, by rw [← fnA_s]; exact h2013, fun L hL => by rw [eV25, va_up_ne _ _ (by omega)]; exact hfn L hL⟩, hW⟩, hS, ls, rfl, lv_sub hl [1, 0] rfl⟩ (by omega)
