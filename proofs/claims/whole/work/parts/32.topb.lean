set_option maxHeartbeats 4000000 in
set_option maxRecDepth 100000 in
theorem c_X4_init (l : Launch) (D : va_G) (cy : Nat → ClassId) (z0 : Nat) (ad : Nat → Nat) (V : Nat → Option va_E) (PB n n2 k : Nat) (M M2 : Nat → Nat → Int32) (kp : Nat → Int64) (fb : Nat → Bool) (ch co fo bk : Int32) (bb : Bool) (ρ : RuT) (hC : isC ad V cy PB n M n2 M2 kp fb ch co fo bb bk) (hB : isBk ad V cy k ρ) (hk : okR k ρ) (hn40 : n ≤ 40) (hn2 : n2 ≤ 40) (hPB : 100 ≤ PB) (SB : Nat) (hSB : 1000 ≤ SB) (hPS : PB + 80 ≤ 1000) (hV : V SB = some (.inr (4, [.null, .null]))) (hfree : ∀ j, 1 ≤ j → j < 8 → V (SB + j) = none) (hZ : Zt n M) : Met l yX4_init [Cond.code yX4_init cX4_init 3 none] { frames := 2, cells := 7, slots := 171, locals := 82 } (WP [.ref (ad SB), .ref (ad PB)] D cy z0 ad V) (va_Qv (fun u => isSN u.1 u.2 cy SB (n, M, scS ρ kp k 3) ∧ (∀ L, (L < SB ∨ SB + 8 ≤ L) → u.2 L = V L) ∧ ∀ L, (L ≤ SB ∨ SB + 8 ≤ L) → u.1 L = ad L) (WB D z0) (AA z0)) 7 171 (AA z0) := by
  refine met_of (by decide) (Nat.le_of_ble_eq_true rfl) (fun p e s m below meth c hx hb hr hml hown hlocks hnm hK hz hW ls hl => ?_)
  have hown : s.vm.findClass RX4 = some m.cls := hown
  have hl : lv_has ls 3 [(0, .ref (ad SB)), (1, .ref (ad PB))] := hl
  have hS : va_S (AA z0) s.heap s.heap [] := va_S.rf
  have hk12 := hk.1
  refine lv_aload_n hx hb dX4_init_0 rfl (lv_at hl 0 rfl) ?_
  refine W.objInit hx hb hown (hK.1.use _ _ tw_440) (hK.1.use _ _ tw_17) (hK.1.use _ _ tw_oc) rfl (by rw [hml]; exact hl.1) rfl dX4_init_1 (Nat.le_of_ble_eq_true rfl) (Nat.le_of_ble_eq_true rfl) ?_
  refine W.eq (g2 := F0 m 4 ls []) rfl ?_
  refine lv_aload_n hx hb dX4_init_4 rfl (lv_at hl 0 rfl) ?_
  refine n_X4_X5 hx hb hown hK hW hS hz (SB + 1) (by exact hfree 1 (by omega) (by omega)) (by decide) (by decide) dX4_init_5 (fun qa1 H hW hS => ?_)
  obtain ⟨ada1, eada1⟩ : ∃ x9, x9 = va_up ad (SB + 1) qa1 := ⟨_, rfl⟩
  obtain ⟨Va1, eVa1⟩ : ∃ x9, x9 = va_up V (SB + 1) (some (.inr (5, [.null, .int (0)]))) := ⟨_, rfl⟩
  rw [← eada1, ← eVa1] at hW
  have hva1 : ∀ L, ¬ L = (SB + 1) → Va1 L = V L := fun L h => by rw [eVa1, va_up_ne _ _ h]
  have haa1 : ∀ L, ¬ L = (SB + 1) → ada1 L = ad L := fun L h => by rw [eada1, va_up_ne _ _ h]
  have eqa1 : qa1 = ada1 (SB + 1) := by rw [eada1, va_up_self]
  have hN1 : Va1 (SB + 1) = some (.inr (5, [.null, .int (0)])) := by rw [eVa1, va_up_self]
  have hl : lv_has ls 3 [(0, .ref (ada1 SB)), (1, .ref (ada1 PB))] := by rw [haa1 (SB) (by omega), haa1 (PB) (by omega)]; exact hl
  refine W.eq (g2 := F0 m 8 ls [.ref (ada1 (SB + 1)), .ref (ada1 SB)]) (by rw [eqa1, haa1 (SB) (by omega)]) ?_
  have hV : Va1 (SB) = some (.inr (4, [.null, .null])) := by rw [hva1 (SB) (by omega)]; exact hV
  refine lv_dup hx hb dX4_init_8 rfl ?_
  refine cv (va_runIN (As := []) (rest := [.ref (ada1 (SB + 1)), .ref (ada1 SB)]) ⟨hx, hb, hml, hown, hK.1.use _⟩ (c_X5_init l D cy z0 ada1 Va1 (SB + 1) hN1 (fun j h1 h2 => by rw [show SB + 1 + j = SB + (1 + j) from by omega]; rw [hva1 (SB + (1 + j)) (by omega)]; exact hfree (1 + j) (by omega) (by omega))) (k_X4_X5_init hK.1 rfl rfl ⟨Nat.le_of_ble_eq_true rfl, Nat.le_of_ble_eq_true rfl⟩) (preS hK (Nat.le_trans hz hS.1) hW) rfl rfl hl.1 rfl (lv_room (Nat.le_of_ble_eq_true rfl)) dX4_init_9 ⟨Nat.le_of_ble_eq_true rfl, Nat.le_of_ble_eq_true rfl⟩) hS (fun ad9 Vc9 H locs h9 hW hS => ?_)
  obtain ⟨hT1, hb9, hf9⟩ := h9
  have hv9 : ∀ L, (L < SB + 1 ∨ SB + 1 + 6 ≤ L) → Vc9 L = Va1 L := fun L h => (hf9 L h).1
  have ha9 : ∀ L, (L ≤ SB + 1 ∨ SB + 1 + 6 ≤ L) → ad9 L = ada1 L := fun L h => by
    by_cases e : L = SB + 1
    · rw [e]; exact hb9
    · exact (hf9 L (by omega)).2
  have hT1 : isT ad9 Vc9 cy (SB + 1) 0 (fun _ _ => 0) := hT1
  have hl : lv_has ls 3 [(0, .ref (ad9 SB)), (1, .ref (ad9 PB))] := by rw [ha9 (SB) (by omega), ha9 (PB) (by omega)]; exact hl
  refine W.eq (g2 := F0 m 12 ls [.ref (ad9 (SB + 1)), .ref (ad9 SB)]) (by rw [ha9 (SB + 1) (by omega), ha9 (SB) (by omega)]) ?_
  have hV : Vc9 (SB) = some (.inr (4, [.null, .null])) := by rw [hv9 (SB) (by omega)]; exact hV
  refine p_X4_X4_members hx hb hown hnm hK hW hS hV dX4_init_12 (fun H locs hW hS => ?_)
  obtain ⟨V1, eV1⟩ : ∃ x9, x9 = va_up Vc9 (SB) (some (.inr (4, [.ref (ad9 (SB + 1)), .null]))) := ⟨_, rfl⟩
  rw [← eV1] at hW
  have hV : V1 (SB) = some (.inr (4, [.ref (ad9 (SB + 1)), .null])) := by rw [eV1, va_up_self]
  have hT1 := hT1.mv (X := V1) (fun L h1 h2 => by rw [eV1, va_up_ne _ _ (by omega)])
  refine lv_aload_n hx hb dX4_init_15 rfl (lv_at hl 0 rfl) ?_
  refine lv_iconst (v := nI 3) hx hb dX4_init_16 (by decide) ?_
  refine w_newJ hx hb hK hW hS hz (N := 3) (SB + 7) (by rw [eV1, va_up_ne _ _ (by omega), hv9 (SB + 7) (by omega), hva1 (SB + 7) (by omega)]; exact hfree 7 (by omega) (by omega)) (by decide) (by decide) (by decide) dX4_init_17 (fun qa2 H hW hS => ?_)
  obtain ⟨ada2, eada2⟩ : ∃ x9, x9 = va_up ad9 (SB + 7) qa2 := ⟨_, rfl⟩
  obtain ⟨Va2, eVa2⟩ : ∃ x9, x9 = va_up V1 (SB + 7) (some (.inl (cy 1, 3, .inr (.inl (fun _ => 0))))) := ⟨_, rfl⟩
  rw [← eada2, ← eVa2] at hW
  have hva2 : ∀ L, ¬ L = (SB + 7) → Va2 L = V1 L := fun L h => by rw [eVa2, va_up_ne _ _ h]
  have haa2 : ∀ L, ¬ L = (SB + 7) → ada2 L = ad9 L := fun L h => by rw [eada2, va_up_ne _ _ h]
  have eqa2 : qa2 = ada2 (SB + 7) := by rw [eada2, va_up_self]
  have hS7 : Va2 (SB + 7) = some (.inl (cy 1, 3, .inr (.inl (fun _ => 0)))) := by rw [eVa2, va_up_self]
  have hl : lv_has ls 3 [(0, .ref (ada2 SB)), (1, .ref (ada2 PB))] := by rw [haa2 (SB) (by omega), haa2 (PB) (by omega)]; exact hl
  refine W.eq (g2 := F0 m 19 ls [.ref (ada2 (SB + 7)), .ref (ada2 SB)]) (by rw [eqa2, haa2 (SB) (by omega)]) ?_
  have hV : Va2 (SB) = some (.inr (4, [.ref (ada2 (SB + 1)), .null])) := by rw [hva2 (SB) (by omega), haa2 (SB + 1) (by omega)]; exact hV
  have hT1 := hT1.mv2 (fun L h1 h2 => ⟨hva2 L (by omega), haa2 L (by omega)⟩)
  refine p_X4_X4_scores hx hb hown hnm hK hW hS hV dX4_init_19 (fun H locs hW hS => ?_)
  obtain ⟨V2, eV2⟩ : ∃ x9, x9 = va_up Va2 (SB) (some (.inr (4, [.ref (ada2 (SB + 1)), .ref (ada2 (SB + 7))]))) := ⟨_, rfl⟩
  rw [← eV2] at hW
  have hS7 : V2 (SB + 7) = some (.inl (cy 1, 3, .inr (.inl (fun _ => 0)))) := by rw [eV2, va_up_ne _ _ (by omega)]; exact hS7
  have hV : V2 (SB) = some (.inr (4, [.ref (ada2 (SB + 1)), .ref (ada2 (SB + 7))])) := by rw [eV2, va_up_self]
  have hT1 := hT1.mv (X := V2) (fun L h1 h2 => by rw [eV2, va_up_ne _ _ (by omega)])
  have hvQ : ∀ L, (L < SB ∨ SB + 8 ≤ L) → V2 L = V L := fun L hL => by rw [eV2, va_up_ne _ _ (by omega), hva2 (L) (by omega), eV1, va_up_ne _ _ (by omega), hv9 (L) (by omega), hva1 (L) (by omega)]
  have haQ : ∀ L, (L ≤ SB ∨ SB + 8 ≤ L) → ada2 L = ad L := fun L hL => by rw [haa2 (L) (by omega), ha9 (L) (by omega), haa1 (L) (by omega)]
  have hC := hC.mv2 (ad2 := ada2) (X := V2) (haQ 1 (by omega)) (fun L h1 h2 => ⟨hvQ L (by omega), haQ L (by omega)⟩) trivial
  have hB := hB.mv2 (ad2 := ada2) (X := V2) (fun L h1 h2 => ⟨hvQ L (by omega), haQ L (by omega)⟩)
  obtain ⟨hC0, hCT, hCU, hC3, hC4⟩ := id hC
  obtain ⟨hT0, hT1_, hTr⟩ := id hT1
  have hD0 := hCT.1
  refine lv_aload_n hx hb dX4_init_22 rfl (lv_at hl 0 rfl) ?_
  refine g_X4_X4_members hx hb hown hK hW hV dX4_init_23 ?_
  refine lv_aload_n hx hb dX4_init_26 rfl (lv_at hl 1 rfl) ?_
  refine g_X4_X1_now hx hb hown hK hW hC0 dX4_init_27 ?_
  refine cv (va_runV (As := [.ref (ada2 (PB + 1))]) (rest := []) ⟨hx, hb, hml, hown, hK.1.use _⟩ (c_X5_becomeLike l D cy z0 ada2 V2 (SB + 1) 0 (fun _ _ => 0) hT1 (PB + 1) n M hCT (Nat.zero_le n) (by omega) (by omega) (fun _ _ _ => rfl) hZ) (k_X4_X5_becomeLike hK.1 rfl rfl ⟨Nat.le_of_ble_eq_true rfl, Nat.le_of_ble_eq_true rfl⟩) (preV hK (Nat.le_trans hz hS.1) hW hT0 rfl) rfl rfl hl.1 rfl (lv_room (Nat.le_of_ble_eq_true rfl)) dX4_init_30 ⟨Nat.le_of_ble_eq_true rfl, Nat.le_of_ble_eq_true rfl⟩) hS (fun ad30 Vc30 H locs h30 hW hS => ?_)
  obtain ⟨e30, hTn, hf30⟩ := h30
  obtain rfl : ada2 = ad30 := e30.symm
  have hvR : ∀ L, (L < SB ∨ SB + 8 ≤ L) → Vc30 L = V L := fun L hL => (hf30 L (by omega)).trans (hvQ L hL)
  have hC := hC.mv2 (ad2 := ada2) (X := Vc30) rfl (fun L h1 h2 => ⟨hf30 L (by omega), rfl⟩) trivial
  have hB := hB.mv2 (ad2 := ada2) (X := Vc30) (fun L h1 h2 => ⟨hf30 L (by omega), rfl⟩)
  have hV : Vc30 SB = _ := (hf30 SB (by omega)).trans hV
  have hS7 : Vc30 (SB + 7) = _ := (hf30 (SB + 7) (by omega)).trans hS7
  refine lv_iconst (v := nI 0) hx hb dX4_init_33 (by decide) ?_
  refine lv_istore_n (lv' := [(2, .int (nI 0)), (0, .ref (ada2 SB)), (1, .ref (ada2 PB))]) hx hb dX4_init_34 rfl hl (by decide) rfl (fun ls hl => ?_)
  refine wlh (ι := Nat) (fun i => 3 - i) (fun i H locs g => (i ≤ 3) ∧ (∃ X, (X SB = some (.inr (4, [.ref (ada2 (SB + 1)), .ref (ada2 (SB + 7))])) ∧ isT ada2 X cy (SB + 1) n M ∧ X (SB + 7) = some (.inl (cy 1, 3, .inr (.inl (scS ρ kp k i)))) ∧ isC ada2 X cy PB n M n2 M2 kp fb ch co fo bb bk ∧ isBk ada2 X cy k ρ ∧ ∀ L, (L < SB ∨ SB + 8 ≤ L) → X L = V L) ∧ HW D z0 ada2 X H) ∧ va_S (AA z0) s.heap H locs ∧ ∃ ls, g = F0 m 35 ls [] ∧ lv_has ls 3 [(0, .ref (ada2 SB)), (1, .ref (ada2 PB)), (2, .int (nI i))]) ?_ (0) _ _ _ ⟨Nat.zero_le _, ⟨_, ⟨hV, hTn, by have e9 : scS ρ kp k 0 = fun _ => 0 := (by funext j; simp [scS]); rw [e9]; exact hS7, hC, hB, hvR⟩, hW⟩, hS, ls, rfl, lv_sub hl [1, 2, 0] rfl⟩
  intro i H locs g hg ih
  obtain ⟨hi, ⟨Vl, ⟨hV, hTl, hS7, hC, hB, hvl⟩, hW⟩, hS, ls, rfl, hl⟩ := hg
  obtain ⟨hC0, hCT, hCU, hC3, hC4⟩ := id hC
  refine lv_iload_n hx hb dX4_init_35 rfl (lv_at hl 2 rfl) ?_
  refine lv_iconst (v := nI 3) hx hb dX4_init_36 (by decide) ?_
  refine lv_icmp_ge (tgt := 57) hx hb dX4_init_37 (by decide) (fun c37 => ?_) (fun c37 => ?_)
  · skip
    have c37 := nI_le' c37 (by omega) (by omega)
    refine W.widen (k := 7) (n := 171) (by omega) (by omega) ?_
    exact rwv hx hb hr hlocks dX4_init_57 hW hS (by have e9 : i = 3 := (by omega); rw [e9] at hS7; exact ⟨⟨hV, hTl, hS7⟩, hvl, haQ⟩)
  · skip
    have c37 := nI_nle' c37 (by omega) (by omega)
    refine lv_aload_n hx hb dX4_init_40 rfl (lv_at hl 0 rfl) ?_
    refine g_X4_X4_scores hx hb hown hK hW hV dX4_init_41 ?_
    refine lv_iload_n hx hb dX4_init_44 rfl (lv_at hl 2 rfl) ?_
    refine lv_aload_n hx hb dX4_init_45 rfl (lv_at hl 1 rfl) ?_
    refine lv_iload_n hx hb dX4_init_46 rfl (lv_at hl 2 rfl) ?_
    refine vp_callSl (va_Run.run (va_runV (As := [.int (nI i)]) (rest := [.int (nI i), .ref (ada2 (SB + 7))]) ⟨hx, hb, hml, hown, hK.1.use _⟩ (c_X1_scoreNow l D cy z0 ada2 Vl PB n n2 k M M2 kp fb ch co fo bk bb ρ hC hB hk hn40 hn2 hPB (nI i)) (k_X4_X1_scoreNow hK.1 rfl rfl ⟨Nat.le_of_ble_eq_true rfl, Nat.le_of_ble_eq_true rfl⟩) (preV hK (Nat.le_trans hz hS.1) hW hC0 rfl) rfl rfl hl.1 rfl (lv_room (Nat.le_of_ble_eq_true rfl)) dX4_init_47 ⟨Nat.le_of_ble_eq_true rfl, Nat.le_of_ble_eq_true rfl⟩)) (fun r47 h47 => ?_)
    have h47 : r47 = scL ρ kp (nI i) k := h47
    subst h47
    refine w_last hx hb hK hW hS hS7 (j := i) (rfl) (by omega) (by omega) dX4_init_50 (fun H locs hW hS => ?_)
    obtain ⟨V3, eV3⟩ : ∃ x9, x9 = va_up Vl (SB + 7) (some (.inl (cy 1, 3, .inr (.inl (vp_updL (scS ρ kp k i) i (scL ρ kp (nI i) k)))))) := ⟨_, rfl⟩
    rw [← eV3] at hW
    have hV : V3 (SB) = some (.inr (4, [.ref (ada2 (SB + 1)), .ref (ada2 (SB + 7))])) := by rw [eV3, va_up_ne _ _ (by omega)]; exact hV
    have hC0 : V3 (PB) = some (.inr (1, [.ref (ada2 (1)), .ref (ada2 (PB + 1)), .ref (ada2 (PB + 7)), .ref (ada2 (PB + 13)), .ref (ada2 (PB + 14)), .ref (ada2 (PB + 15)), .int (ch), .int (co), .int (fo), .int (b2i bb), .int (bk)])) := by rw [eV3, va_up_ne _ _ (by omega)]; exact hC0
    have hS7 : V3 (SB + 7) = some (.inl (cy 1, 3, .inr (.inl (vp_updL (scS ρ kp k i) i (scL ρ kp (nI i) k))))) := by rw [eV3, va_up_self]
    refine lv_iinc (v := nI (i + 1)) (lv' := [(2, .int (nI (i + 1))), (0, .ref (ada2 SB)), (1, .ref (ada2 PB))]) hx hb dX4_init_51 hl (k := 2) rfl (by rw [show Int32.ofInt 1 = nI 1 from by decide]; exact nI_add _ _) (by decide) rfl (fun ls hl => ?_)
    refine lv_goto (tgt := 35) hx hb dX4_init_54 (by decide) ?_
    exact ih (i + 1) _ _ _ ⟨by omega, ⟨_, ⟨hV, hTl.mv (fun L h1 h2 => by rw [eV3, va_up_ne _ _ (by omega)]), by rw [← scS_s]; exact hS7, hC.mv (fun L h1 h2 => by rw [eV3, va_up_ne _ _ (by omega)]), hB.mv (by omega) (fun L h1 h2 => by rw [eV3, va_up_ne _ _ (by omega)]), fun L hL => by rw [eV3, va_up_ne _ _ (by omega)]; exact hvl L hL⟩, hW⟩, hS, ls, rfl, lv_sub hl [1, 2, 0] rfl⟩ (by omega)
