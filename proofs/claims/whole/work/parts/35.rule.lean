set_option maxHeartbeats 4000000 in
set_option maxRecDepth 100000 in
theorem c_X6_rule (l : Launch) (D : va_G) (cy : Nat → ClassId) (z0 : Nat) (ad : Nat → Nat) (V : Nat → Option va_E) (n k P K : Nat) (ce : Int32) (ρ : RuT) (pl : Nat → PlT) (sn : Nat → SnT) (hX : isX ad V cy n k P K ce ρ pl sn) (hO : okX n k P K ρ pl sn) (a b x w v : Int32) : Met l yX6_rule [Cond.code yX6_rule cX6_rule 7 (some .int)] { frames := 4, cells := 1, slots := 5, locals := 96 } (WP [.ref (ad (0)), .int (a), .int (b), .int (x), .int (w), .int (v)] D cy z0 ad V) (va_Qi (fun r u => r = (xRule n k P ρ pl a b x w v).1 ∧ isX u.1 u.2 cy n (xRule n k P ρ pl a b x w v).2.1 P K ce (xRule n k P ρ pl a b x w v).2.2.1 (xRule n k P ρ pl a b x w v).2.2.2 sn ∧ (∀ L, 2000 ≤ L → u.2 L = V L ∧ u.1 L = ad L) ∧ u.1 0 = ad 0) (WB D z0) (AA z0)) 1 5 (AA z0) := by
  refine met_of (by decide) (Nat.le_of_ble_eq_true rfl) (fun p e s m below meth c hx hb hr hml hown hlocks hnm hK hz hW ls hl => ?_)
  have hown : s.vm.findClass RX6 = some m.cls := hown
  have hl : lv_has ls 7 [(0, .ref (ad (0))), (1, .int (a)), (2, .int (b)), (3, .int (x)), (4, .int (w)), (5, .int (v))] := hl
  have hS : va_S (AA z0) s.heap s.heap [] := va_S.rf
  obtain ⟨hX0, hB, hX3, hX4, hXp, hXs, hFx⟩ := id hX
  obtain ⟨hn40, hk, hP1, hP4, hK20, hOp, hOs⟩ := id hO
  have hk12 := hk.1
  obtain ⟨hB0, hB1, hBr⟩ := id hB
  refine lv_iload_n hx hb dX6_rule_0 rfl (lv_at hl 1 rfl) ?_
  refine lv_iload_n hx hb dX6_rule_1 rfl (lv_at hl 2 rfl) ?_
  refine lv_iload_n hx hb dX6_rule_2 rfl (lv_at hl 3 rfl) ?_
  refine lv_iload hx hb dX6_rule_3 (lv_at hl 4 rfl) ?_
  refine lv_iload hx hb dX6_rule_5 (lv_at hl 5 rfl) ?_
  refine vp_callSi (va_Run.run (va_runS (As := [.int (a), .int (b), .int (x), .int (w), .int (v)]) (rest := []) ⟨hx, hb, hml, hown, hK.1.use _⟩ (c_X6_isRule l D cy z0 ad V a b x w v) (k_X6_X6_isRule hK.1 rfl rfl ⟨Nat.le_of_ble_eq_true rfl, Nat.le_of_ble_eq_true rfl⟩) (preS hK hz hW) rfl rfl hl.1 rfl (lv_room (Nat.le_of_ble_eq_true rfl)) dX6_rule_7 ⟨Nat.le_of_ble_eq_true rfl, Nat.le_of_ble_eq_true rfl⟩)) (fun r7 h7 => ?_)
  have h7 : r7 = b2i (ruB a b x w v) := h7
  subst h7
  refine lv_if_ne (tgt := 15) hx hb dX6_rule_10 (by decide) (fun c10 => ?_) (fun c10 => ?_)
  · skip
    have c10 := b2i_1.mp c10
    have hru := c10
    simp only [ruB, Bool.and_eq_true] at hru
    have hra := wiB_of (b := 5) hru.1.1.1.1 (by omega)
    have hrb := wiB_of (b := 3) hru.1.1.1.2 (by omega)
    refine lv_aload_n hx hb dX6_rule_15 rfl (lv_at hl 0 rfl) ?_
    refine vp_callSi (va_Run.run (va_runV (As := []) (rest := []) ⟨hx, hb, hml, hown, hK.1.use _⟩ (c_X6_isSettled l D cy z0 ad V n k P K ce ρ pl sn hX hO) (k_X6_X6_isSettled hK.1 rfl rfl ⟨Nat.le_of_ble_eq_true rfl, Nat.le_of_ble_eq_true rfl⟩) (preV hK hz hW hX0 rfl) rfl rfl hl.1 rfl (lv_room (Nat.le_of_ble_eq_true rfl)) dX6_rule_16 ⟨Nat.le_of_ble_eq_true rfl, Nat.le_of_ble_eq_true rfl⟩)) (fun r16 h16 => ?_)
    have h16 : r16 = b2i (stB P (pCh (pl 0))) := h16
    subst h16
    refine lv_if_eq (tgt := 25) hx hb dX6_rule_19 (by decide) (fun c19 => ?_) (fun c19 => ?_)
    · skip
      have c19 := b2i_0.mp c19
      have hst : ¬ stB P (pCh (pl 0)) = true := by rw [c19]; decide
      refine lv_aload_n hx hb dX6_rule_25 rfl (lv_at hl 0 rfl) ?_
      refine g_X6_X6_book hx hb hown hK hW hX0 dX6_rule_26 ?_
      refine g_X6_X3_size hx hb hown hK hW hB0 dX6_rule_29 ?_
      refine lv_bipush (v := nI 12) hx hb dX6_rule_32 (by decide) ?_
      refine lv_icmp_lt (tgt := 40) hx hb dX6_rule_34 (by decide) (fun c34 => ?_) (fun c34 => ?_)
      · skip
        have c34 := nI_lt' c34 (by omega) (by omega)
        refine lv_aload_n hx hb dX6_rule_40 rfl (lv_at hl 0 rfl) ?_
        refine g_X6_X6_book hx hb hown hK hW hX0 dX6_rule_41 ?_
        refine n_X6_X2 hx hb hown hK hW hS hz (10 + k) (hFx.1 k (Nat.le_refl k) (by omega)) (by decide) (by decide) dX6_rule_44 (fun qa1 H hW hS => ?_)
        obtain ⟨ada1, eada1⟩ : ∃ x9, x9 = va_up ad (10 + k) qa1 := ⟨_, rfl⟩
        obtain ⟨Va1, eVa1⟩ : ∃ x9, x9 = va_up V (10 + k) (some (.inr (2, [.int (0), .int (0), .int (0), .int (0), .int (0)]))) := ⟨_, rfl⟩
        rw [← eada1, ← eVa1] at hW
        have hva1 : ∀ L, ¬ L = (10 + k) → Va1 L = V L := fun L h => by rw [eVa1, va_up_ne _ _ h]
        have haa1 : ∀ L, ¬ L = (10 + k) → ada1 L = ad L := fun L h => by rw [eada1, va_up_ne _ _ h]
        have eqa1 : qa1 = ada1 (10 + k) := by rw [eada1, va_up_self]
        have hR : Va1 (10 + k) = some (.inr (2, [.int (0), .int (0), .int (0), .int (0), .int (0)])) := by rw [eVa1, va_up_self]
        have hl : lv_has ls 7 [(0, .ref (ada1 (0))), (1, .int (a)), (2, .int (b)), (3, .int (x)), (4, .int (w)), (5, .int (v))] := by rw [haa1 (0) (by omega)]; exact hl
        refine W.eq (g2 := F0 m 47 ls [.ref (ada1 (10 + k)), .ref (ada1 (1))]) (by rw [eqa1, haa1 (1) (by omega)]) ?_
        have hX0 : Va1 (0) = some (.inr (6, [.ref (ada1 (1)), .ref (ada1 (3)), .ref (ada1 (4)), .int (nI P), .int (nI K), .int (ce)])) := by rw [hva1 (0) (by omega), haa1 (1) (by omega), haa1 (3) (by omega), haa1 (4) (by omega)]; exact hX0
        have hB0 : Va1 (1) = some (.inr (3, [.ref (ada1 (2)), .int (nI k)])) := by rw [hva1 (1) (by omega), haa1 (2) (by omega)]; exact hB0
        have hY : isY ada1 Va1 cy n k P K ce ρ pl sn := hX.y.mv2 hP4 hk.1 (fun L h1 h2 => ⟨hva1 L (by omega), haa1 L (by omega)⟩)
        refine lv_dup hx hb dX6_rule_47 rfl ?_
        refine lv_iload_n hx hb dX6_rule_48 rfl (lv_at hl 1 rfl) ?_
        refine lv_iload_n hx hb dX6_rule_49 rfl (lv_at hl 2 rfl) ?_
        refine lv_iload_n hx hb dX6_rule_50 rfl (lv_at hl 3 rfl) ?_
        refine lv_iload hx hb dX6_rule_51 (lv_at hl 4 rfl) ?_
        refine lv_iload hx hb dX6_rule_53 (lv_at hl 5 rfl) ?_
        refine cv (va_runI (As := [.int (a), .int (b), .int (x), .int (w), .int (v)]) (rest := [.ref (ada1 (10 + k)), .ref (ada1 (1))]) ⟨hx, hb, hml, hown, hK.1.use _⟩ (c_X2_init l D cy z0 ada1 Va1 (10 + k) hR a b x w v) (k_X6_X2_init hK.1 rfl rfl ⟨Nat.le_of_ble_eq_true rfl, Nat.le_of_ble_eq_true rfl⟩) (preS hK (Nat.le_trans hz hS.1) hW) rfl rfl hl.1 rfl (lv_room (Nat.le_of_ble_eq_true rfl)) dX6_rule_55 ⟨by decide, by decide⟩) hS (fun ad55 Vc55 H locs h55 hW hS => ?_)
        obtain ⟨e55, hR, hf55⟩ := h55
        obtain rfl : ada1 = ad55 := e55.symm
        have hf55 : ∀ L, ¬ L = 10 + k → Vc55 L = Va1 L := hf55
        have hY : isY ada1 Vc55 cy n k P K ce ρ pl sn := hY.mv2 hP4 hk.1 (fun L h1 h2 => ⟨hf55 L (by omega), rfl⟩)
        obtain ⟨hX0, hB, hX3, hX4, hXp, hXs⟩ := id hY
        obtain ⟨hB0, hB1, hBr⟩ := id hB
        refine ci (va_runV (As := [.ref (ada1 (10 + k))]) (rest := []) ⟨hx, hb, hml, hown, hK.1.use _⟩ (c_X3_add l D cy z0 ada1 Vc55 k ρ hB (by omega) _ hR) (k_X6_X3_add hK.1 rfl rfl ⟨Nat.le_of_ble_eq_true rfl, Nat.le_of_ble_eq_true rfl⟩) (preV hK (Nat.le_trans hz hS.1) hW hB0 rfl) rfl rfl hl.1 rfl (lv_room (Nat.le_of_ble_eq_true rfl)) dX6_rule_58 ⟨by decide, by decide⟩) hS (fun r58 ad58 Vc58 H locs h58 hW hS => ?_)
        obtain ⟨hr58, e58, g1, g2, hf58⟩ := h58
        obtain rfl : ada1 = ad58 := e58.symm
        have hr58 : r58 = nI k := hr58
        subst hr58
        have hf58 : ∀ L, ¬ L = 1 → ¬ L = 2 → Vc58 L = Vc55 L := hf58
        obtain ⟨ρ2, eρ⟩ : ∃ y, y = va_up ρ k (ruT a b x w v) := ⟨_, rfl⟩
        have hB2 : isBk ada1 Vc58 cy (k + 1) ρ2 := ⟨g1, g2, fun r hr => by
          rw [eρ]
          by_cases e9 : r = k
          · subst e9
            rw [va_up_self]
            show Vc58 (10 + r) = some (.inr (2, [.int (nI a.toNatClampNeg), .int (nI b.toNatClampNeg), .int x, .int w, .int v]))
            rw [hf58 (10 + r) (by omega) (by omega), ← hra.1, ← hrb.1]
            exact hR
          · rw [va_up_ne _ _ e9]
            exact (hf58 (10 + r) (by omega) (by omega)).trans (hBr r (by omega))⟩
        have hk2 : okR (k + 1) ρ2 := ⟨by omega, fun r hr => by
          rw [eρ]
          by_cases e9 : r = k
          · subst e9; rw [va_up_self]; exact ⟨by show a.toNatClampNeg < 6; omega, by show b.toNatClampNeg < 4; omega⟩
          · rw [va_up_ne _ _ e9]; exact hk.2 r (by omega)⟩
        have hX0 : Vc58 (0) = _ := (hf58 0 (by omega) (by omega)).trans hX0
        have hX3 : Vc58 (3) = _ := (hf58 3 (by omega) (by omega)).trans hX3
        have hX4 : Vc58 (4) = _ := (hf58 4 (by omega) (by omega)).trans hX4
        have hXp : ∀ q, q < P → isPL ada1 Vc58 cy (100 + 100 * q) n (pl q) := fun q hq => (hXp q hq).mv (fun L h1 h2 => hf58 L (by omega) (by omega))
        have hXs : ∀ i, i < K → isSN ada1 Vc58 cy (1000 + 10 * i) (sn i) := fun i hi => (hXs i hi).mv (fun L h1 h2 => hf58 L (by omega) (by omega))
        have hPq := hXp 0 (by omega)
        have hOq := hOp 0 (by omega)
        obtain ⟨PB, ePB⟩ : ∃ PB, PB = 100 + 100 * 0 := ⟨_, rfl⟩
        rw [← ePB] at hPq
        obtain ⟨π, eπ⟩ : ∃ π, π = pl 0 := ⟨_, rfl⟩
        rw [← eπ] at hPq hOq
        obtain ⟨M, kp, fb, ch, co, fo, bb, bn, ho, hm, hv, hs, nx, kn⟩ := π
        obtain ⟨⟨n2, M2, hC, hnn, hZ2⟩, hH⟩ := id hPq
        obtain ⟨hZ, hb60, hnx, hkn, hbk, hOk⟩ := hOq
        have hC : isC ada1 Vc58 cy PB n M n2 M2 kp fb ch co fo bb (nI bn) := hC
        have hH : isH ada1 Vc58 cy PB ho hm hv hs nx kn := hH
        have hZ : Zt n M := hZ
        have hPB : 100 ≤ PB := by omega
        have hn2 : n2 ≤ 40 := by omega
        obtain ⟨hC0, hCT, hCU, hC3, hC4⟩ := id hC
        refine lv_istore (lv' := [(6, .int (nI k)), (0, .ref (ada1 (0))), (1, .int (a)), (2, .int (b)), (3, .int (x)), (4, .int (w)), (5, .int (v))]) hx hb dX6_rule_61 hl (by decide) rfl (fun ls hl => ?_)
        refine lv_aload_n hx hb dX6_rule_63 rfl (lv_at hl 1 rfl) ?_
        refine g_X6_X6_plans hx hb hown hK hW hX0 dX6_rule_64 ?_
        refine lv_iconst (v := nI 0) hx hb dX6_rule_67 (by decide) ?_
        refine w_aald hx hb hK hW 5 rfl rfl hX3 (j := 0) (rfl) (by omega) (by omega) dX6_rule_68 ?_
        refine asv (y := .ref (ada1 (PB))) (by rw [ePB]; exact elP (by omega)) ?_
        refine g_X6_X1_keptAt hx hb hown hK hW hC0 dX6_rule_69 ?_
        refine lv_iload hx hb dX6_rule_72 (lv_at hl 0 rfl) ?_
        refine lv_aload_n hx hb dX6_rule_74 rfl (lv_at hl 1 rfl) ?_
        refine g_X6_X6_plans hx hb hown hK hW hX0 dX6_rule_75 ?_
        refine lv_iconst (v := nI 0) hx hb dX6_rule_78 (by decide) ?_
        refine w_aald hx hb hK hW 5 rfl rfl hX3 (j := 0) (rfl) (by omega) (by omega) dX6_rule_79 ?_
        refine asv (y := .ref (ada1 (PB))) (by rw [ePB]; exact elP (by omega)) ?_
        refine lv_iload hx hb dX6_rule_80 (lv_at hl 0 rfl) ?_
        refine vp_callSl (va_Run.run (va_runV (As := [.int (nI k)]) (rest := [.int (nI k), .ref (ada1 (PB + 13))]) ⟨hx, hb, hml, hown, hK.1.use _⟩ (c_X1_fromNothing l D cy z0 ada1 Vc58 PB n n2 (k + 1) M M2 kp fb ch co fo (nI bn) bb ρ2 hC hB2 hk2 hn40 hn2 hPB k (by omega)) (k_X6_X1_fromNothing hK.1 rfl rfl ⟨Nat.le_of_ble_eq_true rfl, Nat.le_of_ble_eq_true rfl⟩) (preV hK (Nat.le_trans hz hS.1) hW hC0 rfl) rfl rfl hl.1 rfl (lv_room (Nat.le_of_ble_eq_true rfl)) dX6_rule_82 ⟨by decide, by decide⟩)) (fun r82 h82 => ?_)
        have h82 : r82 = wthR ρ2 k M n := h82
        subst h82
        refine w_last hx hb hK hW hS hC3 (j := k) (rfl) (by omega) (by omega) dX6_rule_85 (fun H locs hW hS => ?_)
        obtain ⟨V1, eV1⟩ : ∃ x9, x9 = va_up Vc58 (PB + 13) (some (.inl (cy 1, 12, .inr (.inl (vp_updL kp k (wthR ρ2 k M n)))))) := ⟨_, rfl⟩
        rw [← eV1] at hW
        have hX0 : V1 (0) = some (.inr (6, [.ref (ada1 (1)), .ref (ada1 (3)), .ref (ada1 (4)), .int (nI P), .int (nI K), .int (ce)])) := by rw [eV1, va_up_ne _ _ (by omega)]; exact hX0
        have hX3 : V1 (3) = some (.inl (cy 5, 4, .inr (.inr (.inr (.inr (fun i => if i < P then some (ada1 (100 + 100 * i)) else none)))))) := by rw [eV1, va_up_ne _ _ (by omega)]; exact hX3
        have hX4 : V1 (4) = some (.inl (cy 7, 20, .inr (.inr (.inr (.inr (fun i => if i < K then some (ada1 (1000 + 10 * i)) else none)))))) := by rw [eV1, va_up_ne _ _ (by omega)]; exact hX4
        have hC0 : V1 (PB) = some (.inr (1, [.ref (ada1 (1)), .ref (ada1 (PB + 1)), .ref (ada1 (PB + 7)), .ref (ada1 (PB + 13)), .ref (ada1 (PB + 14)), .ref (ada1 (PB + 15)), .int (ch), .int (co), .int (fo), .int (b2i bb), .int (nI bn)])) := by rw [eV1, va_up_ne _ _ (by omega)]; exact hC0
        have hC3 : V1 (PB + 13) = some (.inl (cy 1, 12, .inr (.inl (vp_updL kp k (wthR ρ2 k M n))))) := by rw [eV1, va_up_self]
        refine lv_iload hx hb dX6_rule_86 (lv_at hl 0 rfl) ?_
        refine W.widen (k := 1) (n := 5) (by omega) (by omega) ?_
        exact rwi hx hb hr hlocks dX6_rule_88 hW hS (by
      unfold xRule
      rw [if_pos c10, if_neg hst, if_pos (by omega)]
      rw [← eρ]
      refine ⟨rfl, ?_, fun L hL => ⟨by show V1 L = _; rw [eV1, va_up_ne _ _ (by omega)]; rw [hf58 L (by omega) (by omega), hf55 L (by omega), hva1 L (by omega)], haa1 L (by omega)⟩, haa1 0 (by omega)⟩
      refine ⟨hX0, hB2.mv (X := V1) (by omega) (fun L h1 h2 => by rw [eV1, va_up_ne _ _ (by omega)]), hX3, hX4, fun q hq => ?_, fun i hi => (hXs i hi).mv (X := V1) (fun L h1 h2 => by rw [eV1, va_up_ne _ _ (by omega)]), fun r (h1 : k + 1 ≤ r) h2 => by show V1 _ = _; rw [eV1, va_up_ne _ _ (by omega)]; rw [hf58 _ (by omega) (by omega), hf55 _ (by omega), hva1 _ (by omega)]; exact hFx.1 r (by omega) h2, fun q h1 h2 j h3 => by show V1 _ = _; rw [eV1, va_up_ne _ _ (by omega)]; rw [hf58 _ (by omega) (by omega), hf55 _ (by omega), hva1 _ (by omega)]; exact hFx.2.1 q h1 h2 j h3, fun i h1 h2 j h3 => by show V1 _ = _; rw [eV1, va_up_ne _ _ (by omega)]; rw [hf58 _ (by omega) (by omega), hf55 _ (by omega), hva1 _ (by omega)]; exact hFx.2.2 i h1 h2 j h3⟩
      show isPL ada1 V1 cy (100 + 100 * q) n (va_up pl 0 (plRule n k ρ2 (pl 0)) q)
      by_cases e9 : q = 0
      · subst e9
        rw [va_up_self, ← eπ, ← ePB]
        exact ⟨⟨n2, M2, ⟨hC0, hCT.mv (fun L h1 h2 => by rw [eV1, va_up_ne _ _ (by omega)]), hCU.mv (fun L h1 h2 => by rw [eV1, va_up_ne _ _ (by omega)]), hC3, by show V1 (PB + 14) = _; rw [eV1, va_up_ne _ _ (by omega)]; exact hC.2.2.2.2⟩, hnn, hZ2⟩, hH.mv (fun L h1 h2 => by rw [eV1, va_up_ne _ _ (by omega)])⟩
      · rw [va_up_ne _ _ e9]
        exact (hXp q hq).mv (fun L h1 h2 => by rw [eV1, va_up_ne _ _ (by omega)]))
      · skip
        have c34 := nI_nlt' c34 (by omega) (by omega)
        refine lv_bipush (v := -4) hx hb dX6_rule_37 (by decide) ?_
        refine W.widen (k := 1) (n := 5) (by omega) (by omega) ?_
        exact rwi hx hb hr hlocks dX6_rule_39 hW hS (⟨by unfold xRule; rw [if_pos c10, if_neg hst, if_neg (by omega)], by unfold xRule; rw [if_pos c10, if_neg hst, if_neg (by omega)]; exact hX, fun L _ => ⟨rfl, rfl⟩, rfl⟩)
    · skip
      have c19 := b2i_1.mp c19
      refine lv_bipush (v := -3) hx hb dX6_rule_22 (by decide) ?_
      refine W.widen (k := 1) (n := 5) (by omega) (by omega) ?_
      exact rwi hx hb hr hlocks dX6_rule_24 hW hS (⟨by unfold xRule; rw [if_pos c10, if_pos c19], by unfold xRule; rw [if_pos c10, if_pos c19]; exact hX, fun L _ => ⟨rfl, rfl⟩, rfl⟩)
  · skip
    have c10 := b2i_0.mp c10
    refine lv_iconst (v := -1) hx hb dX6_rule_13 (by decide) ?_
    refine W.widen (k := 1) (n := 5) (by omega) (by omega) ?_
    exact rwi hx hb hr hlocks dX6_rule_14 hW hS (⟨by unfold xRule; rw [if_neg (by rw [c10]; decide)], by unfold xRule; rw [if_neg (by rw [c10]; decide)]; exact hX, fun L _ => ⟨rfl, rfl⟩, rfl⟩)
