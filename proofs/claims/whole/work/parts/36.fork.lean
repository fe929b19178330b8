set_option maxHeartbeats 4000000 in
set_option maxRecDepth 100000 in
theorem c_X6_fork (l : Launch) (D : va_G) (cy : Nat → ClassId) (z0 : Nat) (ad : Nat → Nat) (V : Nat → Option va_E) (n k P K : Nat) (ce : Int32) (ρ : RuT) (pl : Nat → PlT) (sn : Nat → SnT) (hX : isX ad V cy n k P K ce ρ pl sn) (hO : okX n k P K ρ pl sn) (pi : Int32) : Met l yX6_fork [Cond.code yX6_fork cX6_fork 4 (some .int)] { frames := 3, cells := 80, slots := 1333, locals := 104 } (WP [.ref (ad (0)), .int (pi)] D cy z0 ad V) (va_Qi (fun r u => r = (xFork k P pl pi).1 ∧ isX u.1 u.2 cy n k (xFork k P pl pi).2.1 K ce ρ (xFork k P pl pi).2.2 sn ∧ (∀ L, 2000 ≤ L → u.2 L = V L ∧ u.1 L = ad L) ∧ u.1 0 = ad 0) (WB D z0) (AA z0)) 80 1333 (AA z0) := by
  refine met_of (by decide) (Nat.le_of_ble_eq_true rfl) (fun p e s m below meth c hx hb hr hml hown hlocks hnm hK hz hW ls hl => ?_)
  have hown : s.vm.findClass RX6 = some m.cls := hown
  have hl : lv_has ls 4 [(0, .ref (ad (0))), (1, .int (pi))] := hl
  have hS : va_S (AA z0) s.heap s.heap [] := va_S.rf
  obtain ⟨hX0, hB, hX3, hX4, hXp, hXs, hFx⟩ := id hX
  obtain ⟨hn40, hk, hP1, hP4, hK20, hOp, hOs⟩ := id hO
  have hk12 := hk.1
  obtain ⟨hB0, hB1, hBr⟩ := id hB
  refine lv_aload_n hx hb dX6_fork_0 rfl (lv_at hl 0 rfl) ?_
  refine lv_iload_n hx hb dX6_fork_1 rfl (lv_at hl 1 rfl) ?_
  refine va_csq (va_Run.run (va_runV (As := [.int (pi)]) (rest := []) ⟨hx, hb, hml, hown, hK.1.use _⟩ (c_X6_planAt l D cy z0 ad V n k P K ce ρ pl sn hX hO pi) (k_X6_X6_planAt hK.1 rfl rfl ⟨Nat.le_of_ble_eq_true rfl, Nat.le_of_ble_eq_true rfl⟩) (preV hK hz hW hX0 rfl) rfl rfl hl.1 rfl (lv_room (Nat.le_of_ble_eq_true rfl)) dX6_fork_2 ⟨Nat.le_of_ble_eq_true rfl, Nat.le_of_ble_eq_true rfl⟩)) (fun r2 h2 => ?_)
  have h2 : r2 = if hasB P pi = true then some (ad (100 + 100 * pi.toNatClampNeg)) else none := h2
  subst h2
  by_cases hp : hasB P pi = true
  · skip
    have hb9 := hasB_of hp (by omega)
    obtain ⟨PB, ePB⟩ : ∃ PB, PB = 100 + 100 * pi.toNatClampNeg := ⟨_, rfl⟩
    refine asv (y := .ref (ad PB)) (by rw [if_pos hp, ← ePB]; rfl) ?_
    have hPq := hXp _ hb9.2
    have hOq := hOp _ hb9.2
    rw [← ePB] at hPq
    obtain ⟨π, eπ⟩ : ∃ π, π = pl pi.toNatClampNeg := ⟨_, rfl⟩
    rw [← eπ] at hPq hOq
    obtain ⟨M, kp, fb, ch, co, fo, bb, bn, ho, hm, hv, hs, nx, kn⟩ := π
    obtain ⟨⟨n2, M2, hC, hnn, hZ2⟩, hH⟩ := id hPq
    obtain ⟨hZ, hb60, hnx, hkn, hbk, hOk⟩ := hOq
    have hC : isC ad V cy PB n M n2 M2 kp fb ch co fo bb (nI bn) := hC
    have hH : isH ad V cy PB ho hm hv hs nx kn := hH
    have hZ : Zt n M := hZ
    have hb60 : bn ≤ 60 := hb60
    have hnx : nx < 60 := hnx
    have hkn : kn ≤ 60 := hkn
    have hbk : bb = true → bn ≤ kn := hbk
    have hOk : hOK n ho hm nx kn := hOk
    have hPB : 100 ≤ PB := by omega
    have hn2 : n2 ≤ 40 := by omega
    have hk12 := hk.1
    obtain ⟨hC0, hCT, hCU, hC3, hC4⟩ := id hC
    obtain ⟨hT0, hT1, hTr⟩ := id hCT
    obtain ⟨hU0, hU1, hUr⟩ := id hCU
    obtain ⟨hB0, hB1, hBr⟩ := id hB
    obtain ⟨hH0, hH1, hH2, hH3, hH4, hHr⟩ := id hH
    refine lv_astore_n (lv' := [(2, .ref (ad PB)), (0, .ref (ad (0))), (1, .int (pi))]) hx hb dX6_fork_5 rfl hl (by decide) rfl (fun ls hl => ?_)
    refine lv_aload_n hx hb dX6_fork_6 rfl (lv_at hl 0 rfl) ?_
    refine lv_ifnonnull (tgt := 12) hx hb dX6_fork_7 (by decide) ?_
    refine lv_aload_n hx hb dX6_fork_12 rfl (lv_at hl 1 rfl) ?_
    refine g_X6_X6_planCount hx hb hown hK hW hX0 dX6_fork_13 ?_
    refine lv_iconst (v := nI 4) hx hb dX6_fork_16 (by decide) ?_
    refine lv_icmp_lt (tgt := 23) hx hb dX6_fork_17 (by decide) (fun c17 => ?_) (fun c17 => ?_)
    · skip
      have c17 := nI_lt' c17 (by omega) (by omega)
      obtain ⟨Q, eQ⟩ : ∃ Q, Q = 100 + 100 * P := ⟨_, rfl⟩
      have hfQ : ∀ j, j < 80 → V (Q + j) = none := fun j hj => by rw [eQ]; exact hFx.2.1 P (Nat.le_refl P) (by omega) j hj
      refine n_X6_X1 hx hb hown hK hW hS hz (Q) (hfQ 0 (by omega)) (by decide) (by decide) dX6_fork_23 (fun qa1 H hW hS => ?_)
      obtain ⟨ada1, eada1⟩ : ∃ x9, x9 = va_up ad (Q) qa1 := ⟨_, rfl⟩
      obtain ⟨Va1, eVa1⟩ : ∃ x9, x9 = va_up V (Q) (some (.inr (1, [.null, .null, .null, .null, .null, .null, .int (0), .int (0), .int (0), .int (0), .int (0)]))) := ⟨_, rfl⟩
      rw [← eada1, ← eVa1] at hW
      have hva1 : ∀ L, ¬ L = (Q) → Va1 L = V L := fun L h => by rw [eVa1, va_up_ne _ _ h]
      have haa1 : ∀ L, ¬ L = (Q) → ada1 L = ad L := fun L h => by rw [eada1, va_up_ne _ _ h]
      have eqa1 : qa1 = ada1 (Q) := by rw [eada1, va_up_self]
      have hN : Va1 (Q) = some (.inr (1, [.null, .null, .null, .null, .null, .null, .int (0), .int (0), .int (0), .int (0), .int (0)])) := by rw [eVa1, va_up_self]
      have hl : lv_has ls 4 [(2, .ref (ada1 PB)), (0, .ref (ada1 (0))), (1, .int (pi))] := by rw [haa1 (PB) (by omega), haa1 (0) (by omega)]; exact hl
      refine W.eq (g2 := F0 m 26 ls [.ref (ada1 (Q))]) (by rw [eqa1]) ?_
      have hY : isY ada1 Va1 cy n k P K ce ρ pl sn := hX.y.mv2 hP4 hk.1 (fun L h1 h2 => ⟨hva1 L (by omega), haa1 L (by omega)⟩)
      obtain ⟨hX0, hB, hX3, hX4, hXp, hXs⟩ := id hY
      refine lv_dup hx hb dX6_fork_26 rfl ?_
      refine lv_aload_n hx hb dX6_fork_27 rfl (lv_at hl 1 rfl) ?_
      refine g_X6_X6_book hx hb hown hK hW hX0 dX6_fork_28 ?_
      refine cv (va_runI (As := [.ref (ada1 (1))]) (rest := [.ref (ada1 (Q))]) ⟨hx, hb, hml, hown, hK.1.use _⟩ (c_X1_init l D cy z0 ada1 Va1 Q (by omega) hN (fun j h1 h2 => (hva1 _ (by omega)).trans (hfQ j h2))) (k_X6_X1_init hK.1 rfl rfl ⟨Nat.le_of_ble_eq_true rfl, Nat.le_of_ble_eq_true rfl⟩) (preS hK (Nat.le_trans hz hS.1) hW) rfl rfl hl.1 rfl (lv_room (Nat.le_of_ble_eq_true rfl)) dX6_fork_31 ⟨by decide, by decide⟩) hS (fun ad31 Vc31 H locs h31 hW hS => ?_)
      obtain ⟨hCn, hHn, hf31, hg31⟩ := h31
      have hv31 : ∀ L, (L < Q ∨ Q + 80 ≤ L) → Vc31 L = Va1 L := hf31
      have ha31 : ∀ L, (L ≤ Q ∨ Q + 80 ≤ L) → ad31 L = ada1 L := hg31
      have hl : lv_has ls 4 [(2, .ref (ad31 PB)), (0, .ref (ad31 (0))), (1, .int (pi))] := by rw [ha31 (PB) (by omega), ha31 (0) (by omega)]; exact hl
      refine W.eq (g2 := F0 m 34 ls [.ref (ad31 (Q))]) (by rw [ha31 (Q) (by omega)]) ?_
      have hvV : ∀ L, (L < Q ∨ Q + 80 ≤ L) → Vc31 L = V L := fun L h => by rw [hv31 L h, hva1 L (by omega)]
      have haV : ∀ L, (L < Q ∨ Q + 80 ≤ L) → ad31 L = ad L := fun L h => by rw [ha31 L (by omega), haa1 L (by omega)]
      have hY : isY ad31 Vc31 cy n k P K ce ρ pl sn := hX.y.mv2 hP4 hk.1 (fun L h1 h2 => ⟨hvV L (by omega), haV L (by omega)⟩)
      obtain ⟨hX0, hB, hX3, hX4, hXp, hXs⟩ := id hY
      have hC : isC ad31 Vc31 cy PB n M n2 M2 kp fb ch co fo bb (nI bn) := hC.mv2 (haV 1 (by omega)) (fun L h1 h2 => ⟨hvV L (by omega), haV L (by omega)⟩) trivial
      have hQ0 := hCn.1
      refine lv_astore_n (lv' := [(3, .ref (ad31 (Q))), (2, .ref (ad31 PB)), (0, .ref (ad31 (0))), (1, .int (pi))]) hx hb dX6_fork_34 rfl hl (by decide) rfl (fun ls hl => ?_)
      refine lv_aload_n hx hb dX6_fork_35 rfl (lv_at hl 0 rfl) ?_
      refine lv_aload_n hx hb dX6_fork_36 rfl (lv_at hl 1 rfl) ?_
      refine cv (va_runV (As := [.ref (ad31 PB)]) (rest := []) ⟨hx, hb, hml, hown, hK.1.use _⟩ (c_X1_becomeLike l D cy z0 ad31 Vc31 Q 0 0 k (fun _ _ => 0) (fun _ _ => 0) (fun _ => 0) (fun _ => false) 0 0 (-1) 0 false ρ hCn hB hk PB n n2 M M2 kp fb ch co fo (nI bn) bb hC hn40 (by omega) hPB (by omega) (Nat.zero_le n) (fun _ _ _ => rfl) hZ) (k_X6_X1_becomeLike hK.1 rfl rfl ⟨Nat.le_of_ble_eq_true rfl, Nat.le_of_ble_eq_true rfl⟩) (preV hK (Nat.le_trans hz hS.1) hW hQ0 rfl) rfl rfl hl.1 rfl (lv_room (Nat.le_of_ble_eq_true rfl)) dX6_fork_37 ⟨by decide, by decide⟩) hS (fun ad37 Vc37 H locs h37 hW hS => ?_)
      obtain ⟨e37, hCq, hf37⟩ := h37
      obtain rfl : ad31 = ad37 := e37.symm
      have hf37 : ∀ L, (L < Q ∨ Q + 15 ≤ L) → Vc37 L = Vc31 L := hf37
      have hvV : ∀ L, (L < Q ∨ Q + 80 ≤ L) → Vc37 L = V L := fun L h => by rw [hf37 L (by omega), hvV L h]
      have hHn : isH ad31 Vc37 cy Q (fun _ => 0) (fun _ => 0) (fun _ => 0) (fun _ _ => 0) 0 0 := hHn.mv (fun L h1 h2 => hf37 L (by omega))
      have hY : isY ad31 Vc37 cy n k P K ce ρ pl sn := hY.mv2 hP4 hk.1 (fun L h1 h2 => ⟨hf37 L (by omega), rfl⟩)
      obtain ⟨hX0, hB, hX3, hX4, hXp, hXs⟩ := id hY
      have hQ0 := hCq.1
      refine lv_aload_n hx hb dX6_fork_40 rfl (lv_at hl 2 rfl) ?_
      refine g_X6_X6_plans hx hb hown hK hW hX0 dX6_fork_41 ?_
      refine lv_aload_n hx hb dX6_fork_44 rfl (lv_at hl 2 rfl) ?_
      refine g_X6_X6_planCount hx hb hown hK hW hX0 dX6_fork_45 ?_
      refine lv_aload_n hx hb dX6_fork_48 rfl (lv_at hl 0 rfl) ?_
      refine w_astq hx hb hK hW hS 5 1 rfl rfl hX3 hQ0 (j := P) (rfl) (by omega) (by omega) dX6_fork_49 (fun H locs hW hS => ?_)
      obtain ⟨V1, eV1⟩ : ∃ x9, x9 = va_up Vc37 (3) (some (.inl (cy 5, 4, .inr (.inr (.inr (.inr (va_up (fun i => if i < P then some (ad31 (100 + 100 * i)) else none) P (some (ad31 (Q)))))))))) := ⟨_, rfl⟩
      rw [← eV1] at hW
      have hX0 : V1 (0) = some (.inr (6, [.ref (ad31 (1)), .ref (ad31 (3)), .ref (ad31 (4)), .int (nI P), .int (nI K), .int (ce)])) := by rw [eV1, va_up_ne _ _ (by omega)]; exact hX0
      have hQ0 : V1 (Q) = some (.inr (1, [.ref (ad31 (1)), .ref (ad31 (Q + 1)), .ref (ad31 (Q + 7)), .ref (ad31 (Q + 13)), .ref (ad31 (Q + 14)), .ref (ad31 (Q + 15)), .int (0), .int (0), .int (-1), .int (b2i false), .int (0)])) := by rw [eV1, va_up_ne _ _ (by omega)]; exact hQ0
      have hX3 : V1 (3) = some (.inl (cy 5, 4, .inr (.inr (.inr (.inr (va_up (fun i => if i < P then some (ad31 (100 + 100 * i)) else none) P (some (ad31 (Q))))))))) := by rw [eV1, va_up_self]
      refine lv_aload_n hx hb dX6_fork_50 rfl (lv_at hl 2 rfl) ?_
      refine lv_dup hx hb dX6_fork_51 rfl ?_
      refine g_X6_X6_planCount hx hb hown hK hW hX0 dX6_fork_52 ?_
      refine lv_iconst (v := nI 1) hx hb dX6_fork_55 (by decide) ?_
      refine lv_iadd hx hb dX6_fork_56 ?_
      refine asi (y := nI (P + 1)) (nI_add _ _) ?_
      refine p_X6_X6_planCount hx hb hown hK hW hS hX0 dX6_fork_57 (fun H locs hW hS => ?_)
      obtain ⟨V2, eV2⟩ : ∃ x9, x9 = va_up V1 (0) (some (.inr (6, [.ref (ad31 (1)), .ref (ad31 (3)), .ref (ad31 (4)), .int (nI (P + 1)), .int (nI K), .int (ce)]))) := ⟨_, rfl⟩
      rw [← eV2] at hW
      have hQ0 : V2 (Q) = some (.inr (1, [.ref (ad31 (1)), .ref (ad31 (Q + 1)), .ref (ad31 (Q + 7)), .ref (ad31 (Q + 13)), .ref (ad31 (Q + 14)), .ref (ad31 (Q + 15)), .int (0), .int (0), .int (-1), .int (b2i false), .int (0)])) := by rw [eV2, va_up_ne _ _ (by omega)]; exact hQ0
      have hX3 : V2 (3) = some (.inl (cy 5, 4, .inr (.inr (.inr (.inr (va_up (fun i => if i < P then some (ad31 (100 + 100 * i)) else none) P (some (ad31 (Q))))))))) := by rw [eV2, va_up_ne _ _ (by omega)]; exact hX3
      have hX0 : V2 (0) = some (.inr (6, [.ref (ad31 (1)), .ref (ad31 (3)), .ref (ad31 (4)), .int (nI (P + 1)), .int (nI K), .int (ce)])) := by rw [eV2, va_up_self]
      refine lv_aload_n hx hb dX6_fork_60 rfl (lv_at hl 2 rfl) ?_
      refine g_X6_X6_planCount hx hb hown hK hW hX0 dX6_fork_61 ?_
      refine lv_iconst (v := nI 1) hx hb dX6_fork_64 (by decide) ?_
      refine lv_isub hx hb dX6_fork_65 ?_
      refine asi (y := nI ((P + 1) - 1)) (pk_sub (by omega)) ?_
      refine W.widen (k := 80) (n := 1333) (by omega) (by omega) ?_
      exact rwi hx hb hr hlocks dX6_fork_66 hW hS (by
      unfold xFork
      rw [if_pos hp, if_pos (by omega)]
      have hw : ∀ L, ¬ L = 0 → ¬ L = 3 → V2 L = Vc37 L := fun L h1 h2 => by rw [eV2, va_up_ne _ _ h1, eV1, va_up_ne _ _ h2]
      refine ⟨by rw [show P + 1 - 1 = P by omega], ?_, fun L hL => ⟨(hw L (by omega) (by omega)).trans (hvV L (by omega)), haV L (by omega)⟩, haV 0 (by omega)⟩
      refine ⟨hX0, hB.mv3 hk.1 (fun L h1 h2 => hw L (by omega) (by omega)), ?_, (hw 4 (by omega) (by omega)).trans hX4, fun q hq => ?_, fun i hi => (hXs i hi).mv (fun L h1 h2 => hw L (by omega) (by omega)), fun r h1 h2 => ((hw _ (by omega) (by omega)).trans (hvV _ (by omega))).trans (hFx.1 r h1 h2), fun q (h1 : P + 1 ≤ q) h2 j h3 => ((hw _ (by omega) (by omega)).trans (hvV _ (by omega))).trans (hFx.2.1 q (by omega) h2 j h3), fun i h1 h2 j h3 => ((hw _ (by omega) (by omega)).trans (hvV _ (by omega))).trans (hFx.2.2 i h1 h2 j h3)⟩
      · rw [eQ, up_if (fun i => ad31 (100 + 100 * i)) P] at hX3
        exact hX3
      · have hq : q < P + 1 := hq
        show isPL ad31 V2 cy (100 + 100 * q) n (va_up pl P (plNew k (pl pi.toNatClampNeg)) q)
        by_cases e9 : q = P
        · subst e9
          rw [va_up_self, ← eπ, ← eQ]
          exact isPL.mv (V := Vc37) ⟨⟨0, _, hCq, Nat.zero_le n, fun _ _ _ => rfl⟩, hHn⟩ (fun L h1 h2 => hw L (by omega) (by omega))
        · rw [va_up_ne _ _ e9]
          exact (hXp q (by omega)).mv (fun L h1 h2 => hw L (by omega) (by omega)))
    · skip
      have c17 := nI_nlt' c17 (by omega) (by omega)
      refine lv_bipush (v := -4) hx hb dX6_fork_20 (by decide) ?_
      refine W.widen (k := 80) (n := 1333) (by omega) (by omega) ?_
      exact rwi hx hb hr hlocks dX6_fork_22 hW hS (⟨by unfold xFork; rw [if_pos hp, if_neg (by omega)], by unfold xFork; rw [if_pos hp, if_neg (by omega)]; exact hX, fun L _ => ⟨rfl, rfl⟩, rfl⟩)
  · skip
    refine asv (y := .null) (by rw [if_neg hp]; rfl) ?_
    refine lv_astore_nN (lv' := [(2, .null), (0, .ref (ad (0))), (1, .int (pi))]) hx hb dX6_fork_5 rfl hl (by decide) rfl (fun ls hl => ?_)
    refine lv_aload_nN hx hb dX6_fork_6 rfl (lv_at hl 0 rfl) ?_
    refine lv_ifnonnullN hx hb dX6_fork_7 ?_
    refine lv_iconst (v := -1) hx hb dX6_fork_10 (by decide) ?_
    refine W.widen (k := 80) (n := 1333) (by omega) (by omega) ?_
    exact rwi hx hb hr hlocks dX6_fork_11 hW hS (⟨by unfold xFork; rw [if_neg hp], by unfold xFork; rw [if_neg hp]; exact hX, fun L _ => ⟨rfl, rfl⟩, rfl⟩)

set_option maxHeartbeats 4000000 in
set_option maxRecDepth 100000 in
theorem c_X6_keep (l : Launch) (D : va_G) (cy : Nat → ClassId) (z0 : Nat) (ad : Nat → Nat) (V : Nat → Option va_E) (n k P K : Nat) (ce : Int32) (ρ : RuT) (pl : Nat → PlT) (sn : Nat → SnT) (hX : isX ad V cy n k P K ce ρ pl sn) (hO : okX n k P K ρ pl sn) (pi : Int32) : Met l yX6_keep [Cond.code yX6_keep cX6_keep 3 (some .int)] { frames := 3, cells := 8, slots := 173, locals := 104 } (WP [.ref (ad (0)), .int (pi)] D cy z0 ad V) (va_Qi (fun r u => r = (xKeep n k P K ρ pl sn pi).1 ∧ isX u.1 u.2 cy n k P (xKeep n k P K ρ pl sn pi).2.1 ce ρ pl (xKeep n k P K ρ pl sn pi).2.2 ∧ (∀ L, 2000 ≤ L → u.2 L = V L ∧ u.1 L = ad L) ∧ u.1 0 = ad 0) (WB D z0) (AA z0)) 8 173 (AA z0) := by
  refine met_of (by decide) (Nat.le_of_ble_eq_true rfl) (fun p e s m below meth c hx hb hr hml hown hlocks hnm hK hz hW ls hl => ?_)
  have hown : s.vm.findClass RX6 = some m.cls := hown
  have hl : lv_has ls 3 [(0, .ref (ad (0))), (1, .int (pi))] := hl
  have hS : va_S (AA z0) s.heap s.heap [] := va_S.rf
  obtain ⟨hX0, hB, hX3, hX4, hXp, hXs, hFx⟩ := id hX
  obtain ⟨hn40, hk, hP1, hP4, hK20, hOp, hOs⟩ := id hO
  have hk12 := hk.1
  obtain ⟨hB0, hB1, hBr⟩ := id hB
  refine lv_aload_n hx hb dX6_keep_0 rfl (lv_at hl 0 rfl) ?_
  refine lv_iload_n hx hb dX6_keep_1 rfl (lv_at hl 1 rfl) ?_
  refine va_csq (va_Run.run (va_runV (As := [.int (pi)]) (rest := []) ⟨hx, hb, hml, hown, hK.1.use _⟩ (c_X6_planAt l D cy z0 ad V n k P K ce ρ pl sn hX hO pi) (k_X6_X6_planAt hK.1 rfl rfl ⟨Nat.le_of_ble_eq_true rfl, Nat.le_of_ble_eq_true rfl⟩) (preV hK hz hW hX0 rfl) rfl rfl hl.1 rfl (lv_room (Nat.le_of_ble_eq_true rfl)) dX6_keep_2 ⟨Nat.le_of_ble_eq_true rfl, Nat.le_of_ble_eq_true rfl⟩)) (fun r2 h2 => ?_)
  have h2 : r2 = if hasB P pi = true then some (ad (100 + 100 * pi.toNatClampNeg)) else none := h2
  subst h2
  by_cases hp : hasB P pi = true
  · skip
    have hb9 := hasB_of hp (by omega)
    obtain ⟨PB, ePB⟩ : ∃ PB, PB = 100 + 100 * pi.toNatClampNeg := ⟨_, rfl⟩
    refine asv (y := .ref (ad PB)) (by rw [if_pos hp, ← ePB]; rfl) ?_
    have hPq := hXp _ hb9.2
    have hOq := hOp _ hb9.2
    rw [← ePB] at hPq
    obtain ⟨π, eπ⟩ : ∃ π, π = pl pi.toNatClampNeg := ⟨_, rfl⟩
    rw [← eπ] at hPq hOq
    obtain ⟨M, kp, fb, ch, co, fo, bb, bn, ho, hm, hv, hs, nx, kn⟩ := π
    obtain ⟨⟨n2, M2, hC, hnn, hZ2⟩, hH⟩ := id hPq
    obtain ⟨hZ, hb60, hnx, hkn, hbk, hOk⟩ := hOq
    have hC : isC ad V cy PB n M n2 M2 kp fb ch co fo bb (nI bn) := hC
    have hH : isH ad V cy PB ho hm hv hs nx kn := hH
    have hZ : Zt n M := hZ
    have hb60 : bn ≤ 60 := hb60
    have hnx : nx < 60 := hnx
    have hkn : kn ≤ 60 := hkn
    have hbk : bb = true → bn ≤ kn := hbk
    have hOk : hOK n ho hm nx kn := hOk
    have hPB : 100 ≤ PB := by omega
    have hn2 : n2 ≤ 40 := by omega
    have hk12 := hk.1
    obtain ⟨hC0, hCT, hCU, hC3, hC4⟩ := id hC
    obtain ⟨hT0, hT1, hTr⟩ := id hCT
    obtain ⟨hU0, hU1, hUr⟩ := id hCU
    obtain ⟨hB0, hB1, hBr⟩ := id hB
    obtain ⟨hH0, hH1, hH2, hH3, hH4, hHr⟩ := id hH
    refine lv_astore_n (lv' := [(2, .ref (ad PB)), (0, .ref (ad (0))), (1, .int (pi))]) hx hb dX6_keep_5 rfl hl (by decide) rfl (fun ls hl => ?_)
    refine lv_aload_n hx hb dX6_keep_6 rfl (lv_at hl 0 rfl) ?_
    refine lv_ifnonnull (tgt := 12) hx hb dX6_keep_7 (by decide) ?_
    refine lv_aload_n hx hb dX6_keep_12 rfl (lv_at hl 1 rfl) ?_
    refine g_X6_X6_snapshotCount hx hb hown hK hW hX0 dX6_keep_13 ?_
    refine lv_bipush (v := nI 20) hx hb dX6_keep_16 (by decide) ?_
    refine lv_icmp_lt (tgt := 24) hx hb dX6_keep_18 (by decide) (fun c18 => ?_) (fun c18 => ?_)
    · skip
      have c18 := nI_lt' c18 (by omega) (by omega)
      refine lv_aload_n hx hb dX6_keep_24 rfl (lv_at hl 1 rfl) ?_
      refine g_X6_X6_snapshots hx hb hown hK hW hX0 dX6_keep_25 ?_
      refine lv_aload_n hx hb dX6_keep_28 rfl (lv_at hl 1 rfl) ?_
      refine g_X6_X6_snapshotCount hx hb hown hK hW hX0 dX6_keep_29 ?_
      obtain ⟨Q, eQ⟩ : ∃ Q, Q = 1000 + 10 * K := ⟨_, rfl⟩
      have hfQ : ∀ j, j < 8 → V (Q + j) = none := fun j hj => by rw [eQ]; exact hFx.2.2 K (Nat.le_refl K) (by omega) j hj
      refine n_X6_X4 hx hb hown hK hW hS hz (Q) (hfQ 0 (by omega)) (by decide) (by decide) dX6_keep_32 (fun qa1 H hW hS => ?_)
      obtain ⟨ada1, eada1⟩ : ∃ x9, x9 = va_up ad (Q) qa1 := ⟨_, rfl⟩
      obtain ⟨Va1, eVa1⟩ : ∃ x9, x9 = va_up V (Q) (some (.inr (4, [.null, .null]))) := ⟨_, rfl⟩
      rw [← eada1, ← eVa1] at hW
      have hva1 : ∀ L, ¬ L = (Q) → Va1 L = V L := fun L h => by rw [eVa1, va_up_ne _ _ h]
      have haa1 : ∀ L, ¬ L = (Q) → ada1 L = ad L := fun L h => by rw [eada1, va_up_ne _ _ h]
      have eqa1 : qa1 = ada1 (Q) := by rw [eada1, va_up_self]
      have hN : Va1 (Q) = some (.inr (4, [.null, .null])) := by rw [eVa1, va_up_self]
      have hl : lv_has ls 3 [(2, .ref (ada1 PB)), (0, .ref (ada1 (0))), (1, .int (pi))] := by rw [haa1 (PB) (by omega), haa1 (0) (by omega)]; exact hl
      refine W.eq (g2 := F0 m 35 ls [.ref (ada1 (Q)), .int (nI K), .ref (ada1 (4))]) (by rw [eqa1, haa1 (4) (by omega)]) ?_
      have hC : isC ada1 Va1 cy PB n M n2 M2 kp fb ch co fo bb (nI bn) := hC.mv2 (haa1 1 (by omega)) (fun L h1 h2 => ⟨hva1 L (by omega), haa1 L (by omega)⟩) trivial
      have hB := hB.mv2 (ad2 := ada1) (X := Va1) (fun L h1 h2 => ⟨hva1 L (by omega), haa1 L (by omega)⟩)
      refine lv_dup hx hb dX6_keep_35 rfl ?_
      refine lv_aload_n hx hb dX6_keep_36 rfl (lv_at hl 0 rfl) ?_
      refine cv (va_runI (As := [.ref (ada1 PB)]) (rest := [.ref (ada1 (Q)), .int (nI K), .ref (ada1 (4))]) ⟨hx, hb, hml, hown, hK.1.use _⟩ (c_X4_init l D cy z0 ada1 Va1 PB n n2 k M M2 kp fb ch co fo (nI bn) bb ρ hC hB hk hn40 hn2 hPB Q (by omega) (by omega) hN (fun j h1 h2 => (hva1 _ (by omega)).trans (hfQ j h2)) hZ) (k_X6_X4_init hK.1 rfl rfl ⟨Nat.le_of_ble_eq_true rfl, Nat.le_of_ble_eq_true rfl⟩) (preS hK (Nat.le_trans hz hS.1) hW) rfl rfl hl.1 rfl (lv_room (Nat.le_of_ble_eq_true rfl)) dX6_keep_37 ⟨by decide, by decide⟩) hS (fun ad37 Vc37 H locs h37 hW hS => ?_)
      obtain ⟨hSn, hf37, hg37⟩ := h37
      have hv37 : ∀ L, (L < Q ∨ Q + 8 ≤ L) → Vc37 L = Va1 L := hf37
      have ha37 : ∀ L, (L ≤ Q ∨ Q + 8 ≤ L) → ad37 L = ada1 L := hg37
      have hl : lv_has ls 3 [(2, .ref (ad37 PB)), (0, .ref (ad37 (0))), (1, .int (pi))] := by rw [ha37 (PB) (by omega), ha37 (0) (by omega)]; exact hl
      refine W.eq (g2 := F0 m 40 ls [.ref (ad37 (Q)), .int (nI K), .ref (ad37 (4))]) (by rw [ha37 (Q) (by omega), ha37 (4) (by omega)]) ?_
      have hvV : ∀ L, (L < Q ∨ Q + 8 ≤ L) → Vc37 L = V L := fun L h => by rw [hv37 L h, hva1 L (by omega)]
      have haV : ∀ L, (L < Q ∨ Q + 8 ≤ L) → ad37 L = ad L := fun L h => by rw [ha37 L (by omega), haa1 L (by omega)]
      have hY : isY ad37 Vc37 cy n k P K ce ρ pl sn := hX.y.mv2 hP4 hk.1 (fun L h1 h2 => ⟨hvV L (by omega), haV L (by omega)⟩)
      obtain ⟨hX0, hB, hX3, hX4, hXp, hXs⟩ := id hY
      have hQ0 := hSn.1
      refine w_astq hx hb hK hW hS 7 4 rfl rfl hX4 hQ0 (j := K) (rfl) (by omega) (by omega) dX6_keep_40 (fun H locs hW hS => ?_)
      obtain ⟨V1, eV1⟩ : ∃ x9, x9 = va_up Vc37 (4) (some (.inl (cy 7, 20, .inr (.inr (.inr (.inr (va_up (fun i => if i < K then some (ad37 (1000 + 10 * i)) else none) K (some (ad37 (Q)))))))))) := ⟨_, rfl⟩
      rw [← eV1] at hW
      have hX0 : V1 (0) = some (.inr (6, [.ref (ad37 (1)), .ref (ad37 (3)), .ref (ad37 (4)), .int (nI P), .int (nI K), .int (ce)])) := by rw [eV1, va_up_ne _ _ (by omega)]; exact hX0
      have hQ0 : V1 (Q) = some (.inr (4, [.ref (ad37 (Q + 1)), .ref (ad37 (Q + 7))])) := by rw [eV1, va_up_ne _ _ (by omega)]; exact hQ0
      have hX4 : V1 (4) = some (.inl (cy 7, 20, .inr (.inr (.inr (.inr (va_up (fun i => if i < K then some (ad37 (1000 + 10 * i)) else none) K (some (ad37 (Q))))))))) := by rw [eV1, va_up_self]
      refine lv_aload_n hx hb dX6_keep_41 rfl (lv_at hl 1 rfl) ?_
      refine lv_dup hx hb dX6_keep_42 rfl ?_
      refine g_X6_X6_snapshotCount hx hb hown hK hW hX0 dX6_keep_43 ?_
      refine lv_iconst (v := nI 1) hx hb dX6_keep_46 (by decide) ?_
      refine lv_iadd hx hb dX6_keep_47 ?_
      refine asi (y := nI (K + 1)) (nI_add _ _) ?_
      refine p_X6_X6_snapshotCount hx hb hown hK hW hS hX0 dX6_keep_48 (fun H locs hW hS => ?_)
      obtain ⟨V2, eV2⟩ : ∃ x9, x9 = va_up V1 (0) (some (.inr (6, [.ref (ad37 (1)), .ref (ad37 (3)), .ref (ad37 (4)), .int (nI P), .int (nI (K + 1)), .int (ce)]))) := ⟨_, rfl⟩
      rw [← eV2] at hW
      have hQ0 : V2 (Q) = some (.inr (4, [.ref (ad37 (Q + 1)), .ref (ad37 (Q + 7))])) := by rw [eV2, va_up_ne _ _ (by omega)]; exact hQ0
      have hX4 : V2 (4) = some (.inl (cy 7, 20, .inr (.inr (.inr (.inr (va_up (fun i => if i < K then some (ad37 (1000 + 10 * i)) else none) K (some (ad37 (Q))))))))) := by rw [eV2, va_up_ne _ _ (by omega)]; exact hX4
      have hX0 : V2 (0) = some (.inr (6, [.ref (ad37 (1)), .ref (ad37 (3)), .ref (ad37 (4)), .int (nI P), .int (nI (K + 1)), .int (ce)])) := by rw [eV2, va_up_self]
      refine lv_aload_n hx hb dX6_keep_51 rfl (lv_at hl 1 rfl) ?_
      refine g_X6_X6_snapshotCount hx hb hown hK hW hX0 dX6_keep_52 ?_
      refine lv_iconst (v := nI 1) hx hb dX6_keep_55 (by decide) ?_
      refine lv_isub hx hb dX6_keep_56 ?_
      refine asi (y := nI ((K + 1) - 1)) (pk_sub (by omega)) ?_
      refine W.widen (k := 8) (n := 173) (by omega) (by omega) ?_
      exact rwi hx hb hr hlocks dX6_keep_57 hW hS (by
      unfold xKeep
      rw [if_pos hp, if_pos (by omega)]
      have hw : ∀ L, ¬ L = 0 → ¬ L = 4 → V2 L = Vc37 L := fun L h1 h2 => by rw [eV2, va_up_ne _ _ h1, eV1, va_up_ne _ _ h2]
      refine ⟨by rw [show K + 1 - 1 = K by omega], ?_, fun L hL => ⟨(hw L (by omega) (by omega)).trans (hvV L (by omega)), haV L (by omega)⟩, haV 0 (by omega)⟩
      refine ⟨hX0, hB.mv3 hk.1 (fun L h1 h2 => hw L (by omega) (by omega)), (hw 3 (by omega) (by omega)).trans hX3, ?_, fun q hq => (hXp q hq).mv (fun L h1 h2 => hw L (by omega) (by omega)), fun i hi => ?_, fun r h1 h2 => ((hw _ (by omega) (by omega)).trans (hvV _ (by omega))).trans (hFx.1 r h1 h2), fun q h1 h2 j h3 => ((hw _ (by omega) (by omega)).trans (hvV _ (by omega))).trans (hFx.2.1 q h1 h2 j h3), fun i (h1 : K + 1 ≤ i) h2 j h3 => ((hw _ (by omega) (by omega)).trans (hvV _ (by omega))).trans (hFx.2.2 i (by omega) h2 j h3)⟩
      · rw [eQ, up_if (fun i => ad37 (1000 + 10 * i)) K] at hX4
        exact hX4
      · have hi : i < K + 1 := hi
        show isSN ad37 V2 cy (1000 + 10 * i) (va_up sn K (n, pM (pl pi.toNatClampNeg), scS ρ (pK (pl pi.toNatClampNeg)) k 3) i)
        by_cases e9 : i = K
        · subst e9
          rw [va_up_self, ← eπ, ← eQ]
          exact isSN.mv (V := Vc37) hSn (fun L h1 h2 => hw L (by omega) (by omega))
        · rw [va_up_ne _ _ e9]
          exact (hXs i (by omega)).mv (fun L h1 h2 => hw L (by omega) (by omega)))
    · skip
      have c18 := nI_nlt' c18 (by omega) (by omega)
      refine lv_bipush (v := -4) hx hb dX6_keep_21 (by decide) ?_
      refine W.widen (k := 8) (n := 173) (by omega) (by omega) ?_
      exact rwi hx hb hr hlocks dX6_keep_23 hW hS (⟨by unfold xKeep; rw [if_pos hp, if_neg (by omega)], by unfold xKeep; rw [if_pos hp, if_neg (by omega)]; exact hX, fun L _ => ⟨rfl, rfl⟩, rfl⟩)
  · skip
    refine asv (y := .null) (by rw [if_neg hp]; rfl) ?_
    refine lv_astore_nN (lv' := [(2, .null), (0, .ref (ad (0))), (1, .int (pi))]) hx hb dX6_keep_5 rfl hl (by decide) rfl (fun ls hl => ?_)
    refine lv_aload_nN hx hb dX6_keep_6 rfl (lv_at hl 0 rfl) ?_
    refine lv_ifnonnullN hx hb dX6_keep_7 ?_
    refine lv_iconst (v := -1) hx hb dX6_keep_10 (by decide) ?_
    refine W.widen (k := 8) (n := 173) (by omega) (by omega) ?_
    exact rwi hx hb hr hlocks dX6_keep_11 hW hS (⟨by unfold xKeep; rw [if_neg hp], by unfold xKeep; rw [if_neg hp]; exact hX, fun L _ => ⟨rfl, rfl⟩, rfl⟩)
