theorem isX.mv9 {ad ad2 : Nat → Nat} {V X : Nat → Option va_E} {cy : Nat → ClassId} {n k P K : Nat} {ce : Int32} {ρ : RuT} {pl : Nat → PlT} {sn : Nat → SnT} (h : isX ad V cy n k P K ce ρ pl sn) (hO : okX n k P K ρ pl sn) (hs : ∀ L, L < 2000 → X L = V L ∧ ad2 L = ad L) : isX ad2 X cy n k P K ce ρ pl sn := by
  obtain ⟨o1, o2, o3, o4, o5, o6, o7⟩ := hO
  have o21 := o2.1
  obtain ⟨f1, f2, f3⟩ := h.frs
  exact (h.y.mv2 o4 o2.1 (fun L h1 h2 => hs L (by omega))).x ⟨fun r a b => (hs _ (by omega)).1.trans (f1 r a b), fun q a b j c => (hs _ (by omega)).1.trans (f2 q a b j c), fun i a b j c => (hs _ (by omega)).1.trans (f3 i a b j c)⟩
theorem lw_lt {i L : Nat} (hL : L ≤ 3072) (hi : i ≤ 512) (h : ¬ Int32.ofNat L - nI 6 < nI (6 * i)) : 6 * i + 6 ≤ L := by
  have h0 : (Int32.ofNat L).toInt = (L : Int) := nI_toInt (n := L) (by omega)
  have h6 : (nI 6).toInt = 6 := nI_toInt (by omega)
  have h1 : (Int32.ofNat L - nI 6).toInt = (L : Int) - 6 := by
    rw [sub32 (by rw [h0, h6]; omega) (by rw [h0, h6]; omega), h0, h6]
  rw [Int32.lt_iff_toInt_lt, h1, nI_toInt (by omega)] at h
  omega
set_option maxHeartbeats 4000000 in
set_option maxRecDepth 100000 in
theorem law_loop {p : Program} {l : Launch} {e : Env} {s : State} {m : MethodId} {below : List Frame} {meth : Method} {c : Code} {b L : Nat} {xs : Nat → Int32} {D : va_G} {cy : Nat → ClassId} {z0 : Nat} (hL : L ≤ 3072) (C0 : lw_At p s m meth c b L xs) (hK : KB D cy s) (hz : z0 ≤ s.heap.size) (hz2 : s.heap.size ≤ z0) {n k P K : Nat} {ce : Int32} {ρ : RuT} {pl : Nat → PlT} {sn : Nat → SnT} {ad : Nat → Nat} {V : Nat → Option va_E} {H : Heap} {locs : List Loc} {ls : Array Slot} (hX : isX ad V cy n k P K ce ρ pl sn) (hM : isM ad V cy n k P K ce ρ pl sn) (hG : gdX 0 n k P K ρ pl sn) (hW : HW D z0 ad V H) (hS : va_S (AA z0) s.heap H locs) (hl : lv_has ls 4 [(0, .ref b), (1, .ref (ad 0)), (2, .ref (ad 2000)), (3, .int (nI (6 * 0)))]) : W p l e room_1 s m #[Value.ref b] below meth c H locs (200 + 80 * 0) (10000 + 1333 * 0) (lw_Z below #[Value.ref b] s) (F0 m 18 ls []) := by
  refine wlc (fun i => 200 + 80 * i) (fun i => 10000 + 1333 * i) 512 (fun i H locs g => ∃ (n k P K : Nat) (ce : Int32) (ρ : RuT) (pl : Nat → PlT) (sn : Nat → SnT) (ad : Nat → Nat) (V : Nat → Option va_E) (ls : Array Slot), isX ad V cy n k P K ce ρ pl sn ∧ isM ad V cy n k P K ce ρ pl sn ∧ gdX i n k P K ρ pl sn ∧ HW D z0 ad V H ∧ va_S (AA z0) s.heap H locs ∧ g = F0 m 18 ls [] ∧ lv_has ls 4 [(0, .ref b), (1, .ref (ad 0)), (2, .ref (ad 2000)), (3, .int (nI (6 * i)))]) ?_ 0 H locs _ (Nat.zero_le _) ⟨n, k, P, K, ce, ρ, pl, sn, ad, V, ls, hX, hM, hG, hW, hS, rfl, hl⟩
  clear hX hM hG hW hS hl
  intro i H locs g hiN hI ih
  obtain ⟨n, k, P, K, ce, ρ, pl, sn, ad, V, ls, hX, hM, hG, hW, hS, rfl, hl⟩ := hI
  obtain ⟨hx, hb, hr, hml, hown, hts, hXs, hbl, hlocks, hgv⟩ := id C0
  have hbA : ¬ AA z0 b := fun q => absurd (Nat.lt_of_lt_of_le hbl hz2) (Nat.not_lt.mpr q)
  refine lv_iload_n hx hb dL_law_18 rfl (lv_at hl 3 rfl) ?_
  refine lv_aload_n hx hb dL_law_19 rfl (lv_at hl 0 rfl) ?_
  refine va_slen hx hb hXs hbl hbA hS dL_law_20 ?_
  refine lv_bipush (v := nI 6) hx hb dL_law_21 (by decide) ?_
  refine lv_isub hx hb dL_law_23 ?_
  refine lv_icmp_gt (tgt := 860) hx hb dL_law_24 (by decide) (fun c24 => ?_) (fun c24 => ?_)
  · refine va_forget (fun q hq => Nat.le_trans hz2 (hS.2.2 q hq)) ?_
    refine W.widen (k := 600000) (n := 7302250) (by omega) (by omega) ?_
    refine lv_iconst (v := 1) hx hb dL_law_860 (by decide) ?_
    exact lw_ret hx hb hr hlocks dL_law_861
  · have hlt : 6 * i + 6 ≤ L := lw_lt hL hiN c24
    have KK : lcK p l e s m below meth c b D cy z0 i := by
      intro n k P K ce ρ pl sn ad V H locs ls hX hM hG hW hS hl
      refine lv_iinc (v := nI (6 * (i + 1))) (lv' := [(3, .int (nI (6 * (i + 1)))), (0, .ref b), (1, .ref (ad 0)), (2, .ref (ad 2000))]) hx hb dL_law_854 hl (k := 3) rfl (by rw [show Int32.ofInt 6 = nI 6 from by decide]; exact nI_add _ _) (by decide) rfl (fun ls hl => ?_)
      refine lv_goto (tgt := 18) hx hb dL_law_857 (by decide) ?_
      exact ih _ _ _ (by omega) ⟨n, k, P, K, ce, ρ, pl, sn, ad, V, ls, hX, hM, hG, hW, hS, rfl, lv_sub hl [1, 2, 3, 0] rfl⟩
    refine lv_aload_n hx hb dL_law_27 rfl (lv_at hl 0 rfl) ?_
    refine lv_iload_n hx hb dL_law_28 rfl (lv_at hl 3 rfl) ?_
    refine va_sld hx hb hXs hbl hbA hS (vp_in_nI (n := 6 * i) (N := L) (by omega) (by omega)) dL_law_29 ?_
    refine lv_bipush (v := nI 31) hx hb dL_law_30 (by decide) ?_
    refine lv_iand hx hb dL_law_32 ?_
    obtain ⟨x, ex⟩ : ∃ y : Int32, y = xs (nI (6 * i)).toNatClampNeg &&& nI 31 := ⟨_, rfl⟩
    rw [← ex]
    by_cases h0 : x = nI 0
    · rw [h0]
      refine lv_tableIn (off := 95) (tgt := 128) hx hb dL_law_33 (by decide) (by decide) (by decide) (by decide) ?_
      exact lc_0 hL C0 hK hz hz2 hlt hX hM hG hW hS hl KK
    by_cases h1 : x = nI 1
    · rw [h1]
      refine lv_tableIn (off := 108) (tgt := 141) hx hb dL_law_33 (by decide) (by decide) (by decide) (by decide) ?_
      exact lc_1 hL C0 hK hz hz2 hlt hX hM hG hW hS hl KK
    by_cases h2 : x = nI 2
    · rw [h2]
      refine lv_tableIn (off := 171) (tgt := 204) hx hb dL_law_33 (by decide) (by decide) (by decide) (by decide) ?_
      exact lc_2 hL C0 hK hz hz2 hlt hX hM hG hW hS hl KK
    by_cases h3 : x = nI 3
    · rw [h3]
      refine lv_tableIn (off := 230) (tgt := 263) hx hb dL_law_33 (by decide) (by decide) (by decide) (by decide) ?_
      exact lc_3 hL C0 hK hz hz2 hlt hX hM hG hW hS hl KK
    by_cases h4 : x = nI 4
    · rw [h4]
      refine lv_tableIn (off := 253) (tgt := 286) hx hb dL_law_33 (by decide) (by decide) (by decide) (by decide) ?_
      exact lc_4 hL C0 hK hz hz2 hlt hX hM hG hW hS hl KK
    by_cases h5 : x = nI 5
    · rw [h5]
      refine lv_tableIn (off := 306) (tgt := 339) hx hb dL_law_33 (by decide) (by decide) (by decide) (by decide) ?_
      exact lc_5 hL C0 hK hz hz2 hlt hX hM hG hW hS hl KK
    by_cases h6 : x = nI 6
    · rw [h6]
      refine lv_tableIn (off := 370) (tgt := 403) hx hb dL_law_33 (by decide) (by decide) (by decide) (by decide) ?_
      exact lc_6 hL C0 hK hz hz2 hlt hX hM hG hW hS hl KK
    by_cases h7 : x = nI 7
    · rw [h7]
      refine lv_tableIn (off := 393) (tgt := 426) hx hb dL_law_33 (by decide) (by decide) (by decide) (by decide) ?_
      exact lc_7 hL C0 hK hz hz2 hlt hX hM hG hW hS hl KK
    by_cases h8 : x = nI 8
    · rw [h8]
      refine lv_tableIn (off := 416) (tgt := 449) hx hb dL_law_33 (by decide) (by decide) (by decide) (by decide) ?_
      exact lc_8 hL C0 hK hz hz2 hlt hX hM hG hW hS hl KK
    by_cases h9 : x = nI 9
    · rw [h9]
      refine lv_tableIn (off := 465) (tgt := 498) hx hb dL_law_33 (by decide) (by decide) (by decide) (by decide) ?_
      exact lc_9 hL C0 hK hz hz2 hlt hX hM hG hW hS hl KK
    by_cases h10 : x = nI 10
    · rw [h10]
      refine lv_tableIn (off := 508) (tgt := 541) hx hb dL_law_33 (by decide) (by decide) (by decide) (by decide) ?_
      exact lc_10 hL C0 hK hz hz2 hlt hX hM hG hW hS hl KK
    by_cases h11 : x = nI 11
    · rw [h11]
      refine lv_tableIn (off := 542) (tgt := 575) hx hb dL_law_33 (by decide) (by decide) (by decide) (by decide) ?_
      exact lc_11 hL C0 hK hz hz2 hlt hX hM hG hW hS hl KK
    by_cases h12 : x = nI 12
    · rw [h12]
      refine lv_tableIn (off := 586) (tgt := 619) hx hb dL_law_33 (by decide) (by decide) (by decide) (by decide) ?_
      exact lc_12 hL C0 hK hz hz2 hlt hX hM hG hW hS hl KK
    by_cases h13 : x = nI 13
    · rw [h13]
      refine lv_tableIn (off := 609) (tgt := 642) hx hb dL_law_33 (by decide) (by decide) (by decide) (by decide) ?_
      exact lc_13 hL C0 hK hz hz2 hlt hX hM hG hW hS hl KK
    by_cases h14 : x = nI 14
    · rw [h14]
      refine lv_tableIn (off := 632) (tgt := 665) hx hb dL_law_33 (by decide) (by decide) (by decide) (by decide) ?_
      exact lc_14 hL C0 hK hz hz2 hlt hX hM hG hW hS hl KK
    by_cases h15 : x = nI 15
    · rw [h15]
      refine lv_tableIn (off := 665) (tgt := 698) hx hb dL_law_33 (by decide) (by decide) (by decide) (by decide) ?_
      exact lc_15 hL C0 hK hz hz2 hlt hX hM hG hW hS hl KK
    by_cases h16 : x = nI 16
    · rw [h16]
      refine lv_tableIn (off := 688) (tgt := 721) hx hb dL_law_33 (by decide) (by decide) (by decide) (by decide) ?_
      exact lc_16 hL C0 hK hz hz2 hlt hX hM hG hW hS hl KK
    by_cases h17 : x = nI 17
    · rw [h17]
      refine lv_tableIn (off := 722) (tgt := 755) hx hb dL_law_33 (by decide) (by decide) (by decide) (by decide) ?_
      exact lc_17 hL C0 hK hz hz2 hlt hX hM hG hW hS hl KK
    by_cases h18 : x = nI 18
    · rw [h18]
      refine lv_tableIn (off := 765) (tgt := 798) hx hb dL_law_33 (by decide) (by decide) (by decide) (by decide) ?_
      exact lc_18 hL C0 hK hz hz2 hlt hX hM hG hW hS hl KK
    by_cases h19 : x = nI 19
    · rw [h19]
      refine lv_tableIn (off := 798) (tgt := 831) hx hb dL_law_33 (by decide) (by decide) (by decide) (by decide) ?_
      exact lc_19 hL C0 hK hz hz2 hlt hX hM hG hW hS hl KK
    have hsw : ∀ k, k ≤ 19 → ¬ x = nI k := fun k hk => by
      have hk3 : k = 0 ∨ k = 1 ∨ k = 2 ∨ k = 3 ∨ k = 4 ∨ k = 5 ∨ k = 6 ∨ k = 7 ∨ k = 8 ∨ k = 9 ∨ k = 10 ∨ k = 11 ∨ k = 12 ∨ k = 13 ∨ k = 14 ∨ k = 15 ∨ k = 16 ∨ k = 17 ∨ k = 18 ∨ k = 19 := by omega
      rcases hk3 with rfl | rfl | rfl | rfl | rfl | rfl | rfl | rfl | rfl | rfl | rfl | rfl | rfl | rfl | rfl | rfl | rfl | rfl | rfl | rfl <;> assumption
    refine lv_tableOut (tgt := 854) hx hb dL_law_33 (swO 19 hsw) (by decide) ?_
    refine W.widen (k := 200 + 80 * (i + 1)) (n := 10000 + 1333 * (i + 1)) (by omega) (by omega) ?_
    exact KK n k P K ce ρ pl sn ad V H locs ls hX hM (gdX_s hG) hW hS hl
set_option maxHeartbeats 4000000 in
set_option maxRecDepth 100000 in
/-- from the entry, for every script of at most 3072 ints, the law comes to its end with true -/
theorem whole_start {p : Program} {e : Env} {s : State} {m : MethodId} {below : List Frame} {meth : Method} {c : Code} (l : Launch) {b L : Nat} {xs : Nat → Int32} (hL : L ≤ 3072) (C0 : lw_At p s m meth c b L xs) : W p l e room_1 s m #[Value.ref b] below meth c s.heap [] 0 0 (lw_Z below #[Value.ref b] s) (entryFrame m ([Value.ref b] : List Value).toArray 4) := by
  obtain ⟨hx, hb, hr, hml, hown, hts, hXs, hbl, hlocks, hgv⟩ := id C0
  have hown : s.vm.findClass RL = some m.cls := hown
  obtain ⟨D, cy, hK⟩ := law_KB hts
  obtain ⟨z0, ez⟩ : ∃ z, z = s.heap.size := ⟨_, rfl⟩
  have hz : z0 ≤ s.heap.size := by omega
  have hz2 : s.heap.size ≤ z0 := by omega
  have hS : va_S (AA z0) s.heap s.heap [] := va_S.rf
  have hW : HW D z0 (fun _ => 0) (fun _ => none) s.heap := ⟨[], fun k q h => by simp at h, ⟨fun i j p q h => by simp at h, fun k q h => by simp at h⟩, fun L e h => (by cases h), fun L L' e e' h => (by cases h)⟩
  have hl := lv_entry ([.ref b]) (n := 4) (Nat.le_of_ble_eq_true rfl)
  rw [lg_entry_eq]
  generalize (lg_sl ([.ref b]) ++ List.replicate (4 - (lg_sl ([.ref b])).length) Slot.unset).toArray = ls at hl ⊢
  have hl : lv_has ls 4 [(0, .ref b)] := hl
  refine n_L_X6 hx hb hown hK hW hS hz 0 rfl (Nat.le_of_ble_eq_true rfl) (Nat.le_of_ble_eq_true rfl) dL_law_0 (fun q0 H hW hS => ?_)
  obtain ⟨ad1, ead1⟩ : ∃ x, x = va_up (fun _ => 0) 0 q0 := ⟨_, rfl⟩
  obtain ⟨V1, eV1⟩ : ∃ x, x = va_up (fun _ => none) 0 (some (.inr (6, [.null, .null, .null, .int 0, .int 0, .int 0]) : va_E)) := ⟨_, rfl⟩
  rw [← ead1, ← eV1] at hW
  have hV0 : V1 0 = some (.inr (6, [.null, .null, .null, .int 0, .int 0, .int 0])) := by rw [eV1, va_up_self]
  have hfr1 : ∀ L, 1 ≤ L → V1 L = none := fun L h => by rw [eV1, va_up_ne _ _ (by omega)]
  have eq0 : q0 = ad1 0 := by rw [ead1, va_up_self]
  refine W.eq (g2 := F0 m 3 ls [.ref (ad1 0)]) (by rw [eq0]) ?_
  refine lv_dup hx hb dL_law_3 rfl ?_
  refine cv (va_runI (As := []) (rest := [.ref (ad1 0)]) ⟨hx, hb, hml, hown, hK.1.use _⟩ (c_X6_init l D cy z0 ad1 V1 (fun _ => (0, 0, 0, 0, 0)) (fun _ => (0, fun _ _ => 0, fun _ => 0)) hV0 (fun L h1 _ => hfr1 L h1)) (k_L_X6_init hK.1 rfl rfl ⟨Nat.le_of_ble_eq_true rfl, Nat.le_of_ble_eq_true rfl⟩) (preS hK (Nat.le_trans hz hS.1) hW) rfl rfl hl.1 rfl (lv_room (Nat.le_of_ble_eq_true rfl)) dL_law_4 ⟨Nat.le_of_ble_eq_true rfl, Nat.le_of_ble_eq_true rfl⟩) hS (fun ad2 V2 H locs h4 hW hS => ?_)
  obtain ⟨hX2, hf2, ha2⟩ := h4
  have ha2 : ad2 0 = ad1 0 := ha2
  refine W.eq (g2 := F0 m 7 ls [.ref (ad2 0)]) (by rw [ha2]) ?_
  refine lv_astore_n (lv' := [(1, .ref (ad2 0)), (0, .ref b)]) hx hb dL_law_7 rfl hl (by decide) rfl (fun ls hl => ?_)
  have hfr2 : ∀ L, 2000 ≤ L → V2 L = none := fun L h => (hf2 L h).1.trans (hfr1 L (by omega))
  refine n_L_X7 hx hb hown hK hW hS hz 2000 (hfr2 2000 (by omega)) (Nat.le_of_ble_eq_true rfl) (Nat.le_of_ble_eq_true rfl) dL_law_8 (fun q7 H hW hS => ?_)
  obtain ⟨ad3, ead3⟩ : ∃ x, x = va_up ad2 2000 q7 := ⟨_, rfl⟩
  obtain ⟨V3, eV3⟩ : ∃ x, x = va_up V2 2000 (some (.inr (7, [.int 0, .int 0, .null, .null, .null, .null, .null, .int 0, .null, .null, .null, .null, .null, .null, .null, .null, .null, .null, .null, .null, .null, .int 0, .int 0, .null, .null, .null, .null, .null]))) := ⟨_, rfl⟩
  rw [← ead3, ← eV3] at hW
  have hV7 : V3 2000 = some (.inr (7, [.int 0, .int 0, .null, .null, .null, .null, .null, .int 0, .null, .null, .null, .null, .null, .null, .null, .null, .null, .null, .null, .null, .null, .int 0, .int 0, .null, .null, .null, .null, .null])) := by rw [eV3, va_up_self]
  have hs3 : ∀ L, ¬ L = 2000 → V3 L = V2 L ∧ ad3 L = ad2 L := fun L h => ⟨by rw [eV3, va_up_ne _ _ h], by rw [ead3, va_up_ne _ _ h]⟩
  have eq7 : q7 = ad3 2000 := by rw [ead3, va_up_self]
  have hO := (gdX_0 (ρ := fun _ => (0, 0, 0, 0, 0)) (sn := fun _ => (0, fun _ _ => 0, fun _ => 0))).1
  have hX3 := hX2.mv9 hO (fun L h => hs3 L (by omega))
  refine W.eq (g2 := F0 m 11 ls [.ref (ad3 2000)]) (by rw [eq7]) ?_
  refine lv_dup hx hb dL_law_11 rfl ?_
  refine cv (va_runI (As := []) (rest := [.ref (ad3 2000)]) ⟨hx, hb, hml, hown, hK.1.use _⟩ (c_X7_init l D cy z0 ad3 V3 (fun _ => (0, 0, 0, 0, 0)) (fun _ => (0, fun _ _ => 0, fun _ => 0)) hV7 (fun L h1 _ => (hs3 L (by omega)).1.trans (hfr2 L (by omega)))) (k_L_X7_init hK.1 rfl rfl ⟨Nat.le_of_ble_eq_true rfl, Nat.le_of_ble_eq_true rfl⟩) (preS hK (Nat.le_trans hz hS.1) hW) rfl rfl hl.1 rfl (lv_room (Nat.le_of_ble_eq_true rfl)) dL_law_12 ⟨Nat.le_of_ble_eq_true rfl, Nat.le_of_ble_eq_true rfl⟩) hS (fun ad4 V4 H locs h12 hW hS => ?_)
  obtain ⟨hM4, hf4, ha4⟩ := h12
  have ha4 : ad4 2000 = ad3 2000 := ha4
  have hX4 := hX3.mv9 hO hf4
  have e40 : ad4 0 = ad2 0 := (hf4 0 (by omega)).2.trans (hs3 0 (by omega)).2
  refine W.eq (g2 := F0 m 15 ls [.ref (ad4 2000)]) (by rw [ha4]) ?_
  have hl : lv_has ls 4 [(1, .ref (ad4 0)), (0, .ref b)] := by rw [e40]; exact hl
  refine lv_astore_n (lv' := [(2, .ref (ad4 2000)), (1, .ref (ad4 0)), (0, .ref b)]) hx hb dL_law_15 rfl hl (by decide) rfl (fun ls hl => ?_)
  refine lv_iconst (v := nI (6 * 0)) hx hb dL_law_16 (by decide) ?_
  refine lv_istore_n (lv' := [(3, .int (nI (6 * 0))), (2, .ref (ad4 2000)), (1, .ref (ad4 0)), (0, .ref b)]) hx hb dL_law_17 rfl hl (by decide) rfl (fun ls hl => ?_)
  refine W.widen (k := 200 + 80 * 0) (n := 10000 + 1333 * 0) (by omega) (by omega) ?_
  exact law_loop hL C0 hK hz hz2 hX4 hM4 gdX_0 hW hS (lv_sub hl [3, 2, 1, 0] rfl)
