set_option maxHeartbeats 4000000 in
set_option maxRecDepth 100000 in
theorem c_X1_closeBatch (l : Launch) (D : va_G) (cy : Nat → ClassId) (z0 : Nat) (ad : Nat → Nat) (V : Nat → Option va_E) (PB n n2 k : Nat) (M M2 : Nat → Nat → Int32) (kp : Nat → Int64) (fb : Nat → Bool) (ch co fo bk : Int32) (bb : Bool) (ρ : RuT) (hC : isC ad V cy PB n M n2 M2 kp fb ch co fo bb bk) (hB : isBk ad V cy k ρ) (hk : okR k ρ) (hn40 : n ≤ 40) (hn2 : n2 ≤ 40) (hPB : 100 ≤ PB) (ho hm hv : Nat → Int32) (hs : Nat → Nat → Int64) (nx kn : Nat) (hH : isH ad V cy PB ho hm hv hs nx kn) (hnn : n2 ≤ n) (hZ : Zt n M) (hZ2 : Zt n2 M2) (bn : Nat) (hbn : bk = nI bn) (hb60 : bn ≤ 60) (hnx : nx < 60) (hkn : kn ≤ 60) (hbt : bb = true) (hbk : bn ≤ kn) (hOk : hOK n ho hm nx kn) (sb : Bool) : Met l yX1_closeBatch [Cond.code yX1_closeBatch cX1_closeBatch 4 (some .int)] { frames := 5, cells := 0, slots := 0, locals := 126 } (WP [.ref (ad PB), .int (b2i sb)] D cy z0 ad V) (va_Qi (fun r u => r = nI bn ∧ u.1 = ad ∧ (∃ n3 M3, isC ad u.2 cy PB n (if sb = true then (M, kp, co, nx, kn, bn) else tbI n k ρ ho hm hv hs true bn (M, kp, co, nx, kn, bn)).1 n3 M3 (if sb = true then (M, kp, co, nx, kn, bn) else tbI n k ρ ho hm hv hs true bn (M, kp, co, nx, kn, bn)).2.1 fb ch (if sb = true then (M, kp, co, nx, kn, bn) else tbI n k ρ ho hm hv hs true bn (M, kp, co, nx, kn, bn)).2.2.1 fo false (nI (if sb = true then (M, kp, co, nx, kn, bn) else tbI n k ρ ho hm hv hs true bn (M, kp, co, nx, kn, bn)).2.2.2.2.2) ∧ n3 ≤ n ∧ Zt n3 M3) ∧ isH ad u.2 cy PB ho hm hv hs (if sb = true then (M, kp, co, nx, kn, bn) else tbI n k ρ ho hm hv hs true bn (M, kp, co, nx, kn, bn)).2.2.2.1 (if sb = true then (M, kp, co, nx, kn, bn) else tbI n k ρ ho hm hv hs true bn (M, kp, co, nx, kn, bn)).2.2.2.2.1 ∧ ∀ L, (L < PB ∨ PB + 80 ≤ L) → u.2 L = V L) (WB D z0) (AA z0)) 0 0 (AA z0) := by
  refine met_of (by decide) (Nat.le_of_ble_eq_true rfl) (fun p e s m below meth c hx hb hr hml hown hlocks hnm hK hz hW ls hl => ?_)
  have hown : s.vm.findClass RX1 = some m.cls := hown
  have hl : lv_has ls 4 [(0, .ref (ad PB)), (1, .int (b2i sb))] := hl
  have hS : va_S (AA z0) s.heap s.heap [] := va_S.rf
  have hk12 := hk.1
  obtain ⟨hC0, hCT, hCU, hC3, hC4⟩ := id hC
  obtain ⟨hT0, hT1, hTr⟩ := id hCT
  obtain ⟨hU0, hU1, hUr⟩ := id hCU
  obtain ⟨hB0, hB1, hBr⟩ := id hB
  obtain ⟨hH0, hH1, hH2, hH3, hH4, hHr⟩ := id hH
  subst hbt
  refine lv_aload_n hx hb dX1_closeBatch_0 rfl (lv_at hl 0 rfl) ?_
  refine g_X1_X1_batchKnown hx hb hown hK hW hC0 dX1_closeBatch_1 ?_
  refine asi (y := nI bn) (hbn) ?_
  refine lv_istore_n (lv' := [(2, .int (nI bn)), (0, .ref (ad PB)), (1, .int (b2i sb))]) hx hb dX1_closeBatch_4 rfl hl (by decide) rfl (fun ls hl => ?_)
  refine lv_iconst (v := nI 0) hx hb dX1_closeBatch_5 (by decide) ?_
  refine lv_istore_n (lv' := [(3, .int (nI 0)), (2, .int (nI bn)), (0, .ref (ad PB)), (1, .int (b2i sb))]) hx hb dX1_closeBatch_6 rfl hl (by decide) rfl (fun ls hl => ?_)
  refine wlh (ι := Nat) (fun i => bn - i) (fun i H locs g => (i ≤ bn ∧ (sb = true → i = 0)) ∧ (∃ X, ((∃ n3 M3, isC ad X cy PB n (tbI n k ρ ho hm hv hs true i (M, kp, co, nx, kn, bn)).1 n3 M3 (tbI n k ρ ho hm hv hs true i (M, kp, co, nx, kn, bn)).2.1 fb ch (tbI n k ρ ho hm hv hs true i (M, kp, co, nx, kn, bn)).2.2.1 fo true (nI (tbI n k ρ ho hm hv hs true i (M, kp, co, nx, kn, bn)).2.2.2.2.2) ∧ n3 ≤ n ∧ Zt n3 M3) ∧ isH ad X cy PB ho hm hv hs (tbI n k ρ ho hm hv hs true i (M, kp, co, nx, kn, bn)).2.2.2.1 (tbI n k ρ ho hm hv hs true i (M, kp, co, nx, kn, bn)).2.2.2.2.1 ∧ ∀ L, (L < PB ∨ PB + 80 ≤ L) → X L = V L) ∧ HW D z0 ad X H) ∧ va_S (AA z0) s.heap H locs ∧ ∃ ls, g = F0 m 7 ls [] ∧ lv_has ls 4 [(0, .ref (ad PB)), (1, .int (b2i sb)), (2, .int (nI bn)), (3, .int (nI i))]) ?_ (0) _ _ _ ⟨⟨Nat.zero_le _, fun _ => rfl⟩, ⟨_, ⟨⟨n2, M2, hbn ▸ hC, hnn, hZ2⟩, hH, fun L _ => rfl⟩, hW⟩, hS, ls, rfl, lv_sub hl [2, 3, 1, 0] rfl⟩
  intro i H locs g hg ih
  obtain ⟨⟨hi, hsb⟩, ⟨Vl, ⟨⟨n3, M3, hCl, hn3, hZ3⟩, hHl, hfrl⟩, hW⟩, hS, ls, rfl, hl⟩ := hg
  obtain ⟨g1, g2, g3, g4, g5⟩ := tbI_ok (k := k) (ρ := ρ) (hv := hv) (hs := hs) (kp := kp) (co := co) hn40 hZ hnx hkn hOk hbk i hi
  obtain ⟨y, ey⟩ : ∃ y, y = tbI n k ρ ho hm hv hs true i (M, kp, co, nx, kn, bn) := ⟨_, rfl⟩
  rw [← ey] at g1 g2 g3 g4 g5 hCl hHl
  obtain ⟨My, kpy, coy, nxy, kny, bny⟩ := y
  dsimp only at g1 g2 g3 g4 g5 hCl hHl
  have hBl := hB.mv hk.1 (fun L h1 h2 => hfrl L (by omega))
  obtain ⟨hC0, hCT, hCU, hC3, hC4⟩ := id hCl
  obtain ⟨hT0, hT1, hTr⟩ := id hCT
  obtain ⟨hU0, hU1, hUr⟩ := id hCU
  obtain ⟨hB0, hB1, hBr⟩ := id hBl
  refine lv_iload_n hx hb dX1_closeBatch_7 rfl (lv_at hl 3 rfl) ?_
  refine lv_iload_n hx hb dX1_closeBatch_8 rfl (lv_at hl 2 rfl) ?_
  refine lv_icmp_ge (tgt := 26) hx hb dX1_closeBatch_9 (by decide) (fun c9 => ?_) (fun c9 => ?_)
  · skip
    have c9 := nI_le' c9 (by omega) (by omega)
    have eY : (My, kpy, coy, nxy, kny, bny) = (if sb = true then (M, kp, co, nx, kn, bn) else tbI n k ρ ho hm hv hs true bn (M, kp, co, nx, kn, bn)) := by
      by_cases hs9 : sb = true
      · rw [if_pos hs9, ey, hsb hs9]; rfl
      · rw [if_neg hs9, ey]
        have e9 : i = bn := by first | omega | exact absurd c13 hs9
        rw [e9]
    refine lv_aload_n hx hb dX1_closeBatch_26 rfl (lv_at hl 0 rfl) ?_
    refine lv_iconst (v := nI 0) hx hb dX1_closeBatch_27 (by decide) ?_
    refine asi (y := b2i false) (by decide) ?_
    refine p_X1_X1_batchBegun hx hb hown hK hW hS hC0 (b2i_n) (b2i_f) dX1_closeBatch_28 (fun H locs hW hS => ?_)
    obtain ⟨V1, eV1⟩ : ∃ x, x = va_up Vl (PB) (some (.inr (1, [.ref (ad (1)), .ref (ad (PB + 1)), .ref (ad (PB + 7)), .ref (ad (PB + 13)), .ref (ad (PB + 14)), .ref (ad (PB + 15)), .int (ch), .int (coy), .int (fo), .int (b2i false), .int (nI bny)]))) := ⟨_, rfl⟩
    rw [← eV1] at hW
    have hC3 : V1 (PB + 13) = some (.inl (cy 1, 12, .inr (.inl kpy))) := by rw [eV1, va_up_ne _ _ (by omega)]; exact hC3
    have hC4 : V1 (PB + 14) = some (.inl (cy 2, 12, .inl (fun r => b2i (fb r)))) := by rw [eV1, va_up_ne _ _ (by omega)]; exact hC4
    have hT0 : V1 (PB + 1) = some (.inr (5, [.ref (ad (PB + 1 + 1)), .int (nI n)])) := by rw [eV1, va_up_ne _ _ (by omega)]; exact hT0
    have hT1 : V1 (PB + 1 + 1) = some (.inl (cy 3, 4, .inr (.inr (.inr (.inr (fun i => if i < 4 then some (ad (PB + 1 + 2 + i)) else none)))))) := by rw [eV1, va_up_ne _ _ (by omega)]; exact hT1
    have hU0 : V1 (PB + 7) = some (.inr (5, [.ref (ad (PB + 7 + 1)), .int (nI n3)])) := by rw [eV1, va_up_ne _ _ (by omega)]; exact hU0
    have hU1 : V1 (PB + 7 + 1) = some (.inl (cy 3, 4, .inr (.inr (.inr (.inr (fun i => if i < 4 then some (ad (PB + 7 + 2 + i)) else none)))))) := by rw [eV1, va_up_ne _ _ (by omega)]; exact hU1
    have hB0 : V1 (1) = some (.inr (3, [.ref (ad (2)), .int (nI k)])) := by rw [eV1, va_up_ne _ _ (by omega)]; exact hB0
    have hB1 : V1 (2) = some (.inl (cy 6, 12, .inr (.inr (.inr (.inr (fun i => if i < k then some (ad (10 + i)) else none)))))) := by rw [eV1, va_up_ne _ _ (by omega)]; exact hB1
    have hC0 : V1 (PB) = some (.inr (1, [.ref (ad (1)), .ref (ad (PB + 1)), .ref (ad (PB + 7)), .ref (ad (PB + 13)), .ref (ad (PB + 14)), .ref (ad (PB + 15)), .int (ch), .int (coy), .int (fo), .int (b2i false), .int (nI bny)])) := by rw [eV1, va_up_self]
    refine lv_iload_n hx hb dX1_closeBatch_31 rfl (lv_at hl 2 rfl) ?_
    exact rwi hx hb hr hlocks dX1_closeBatch_32 hW hS (by
    rw [← eY]
    exact ⟨rfl, rfl, ⟨n3, M3, ⟨hC0, hCT.mv (fun L h1 h2 => by show V1 L = _; rw [eV1, va_up_ne _ _ (by omega)]), hCU.mv (fun L h1 h2 => by show V1 L = _; rw [eV1, va_up_ne _ _ (by omega)]), hC3, hC4⟩, hn3, hZ3⟩, hHl.mv (fun L h1 h2 => by show V1 L = _; rw [eV1, va_up_ne _ _ (by omega)]), fun L hL => by show V1 L = _; rw [eV1, va_up_ne _ _ (by omega)]; exact hfrl L hL⟩)
  · skip
    have c9 := nI_nle' c9 (by omega) (by omega)
    refine lv_iload_n hx hb dX1_closeBatch_12 rfl (lv_at hl 1 rfl) ?_
    refine lv_if_ne (tgt := 26) hx hb dX1_closeBatch_13 (by decide) (fun c13 => ?_) (fun c13 => ?_)
    · skip
      have c13 := b2i_1.mp c13
      have eY : (My, kpy, coy, nxy, kny, bny) = (if sb = true then (M, kp, co, nx, kn, bn) else tbI n k ρ ho hm hv hs true bn (M, kp, co, nx, kn, bn)) := by
        by_cases hs9 : sb = true
        · rw [if_pos hs9, ey, hsb hs9]; rfl
        · rw [if_neg hs9, ey]
          have e9 : i = bn := by first | omega | exact absurd c13 hs9
          rw [e9]
      refine lv_aload_n hx hb dX1_closeBatch_26 rfl (lv_at hl 0 rfl) ?_
      refine lv_iconst (v := nI 0) hx hb dX1_closeBatch_27 (by decide) ?_
      refine asi (y := b2i false) (by decide) ?_
      refine p_X1_X1_batchBegun hx hb hown hK hW hS hC0 (b2i_n) (b2i_f) dX1_closeBatch_28 (fun H locs hW hS => ?_)
      obtain ⟨V2, eV2⟩ : ∃ x, x = va_up Vl (PB) (some (.inr (1, [.ref (ad (1)), .ref (ad (PB + 1)), .ref (ad (PB + 7)), .ref (ad (PB + 13)), .ref (ad (PB + 14)), .ref (ad (PB + 15)), .int (ch), .int (coy), .int (fo), .int (b2i false), .int (nI bny)]))) := ⟨_, rfl⟩
      rw [← eV2] at hW
      have hC3 : V2 (PB + 13) = some (.inl (cy 1, 12, .inr (.inl kpy))) := by rw [eV2, va_up_ne _ _ (by omega)]; exact hC3
      have hC4 : V2 (PB + 14) = some (.inl (cy 2, 12, .inl (fun r => b2i (fb r)))) := by rw [eV2, va_up_ne _ _ (by omega)]; exact hC4
      have hT0 : V2 (PB + 1) = some (.inr (5, [.ref (ad (PB + 1 + 1)), .int (nI n)])) := by rw [eV2, va_up_ne _ _ (by omega)]; exact hT0
      have hT1 : V2 (PB + 1 + 1) = some (.inl (cy 3, 4, .inr (.inr (.inr (.inr (fun i => if i < 4 then some (ad (PB + 1 + 2 + i)) else none)))))) := by rw [eV2, va_up_ne _ _ (by omega)]; exact hT1
      have hU0 : V2 (PB + 7) = some (.inr (5, [.ref (ad (PB + 7 + 1)), .int (nI n3)])) := by rw [eV2, va_up_ne _ _ (by omega)]; exact hU0
      have hU1 : V2 (PB + 7 + 1) = some (.inl (cy 3, 4, .inr (.inr (.inr (.inr (fun i => if i < 4 then some (ad (PB + 7 + 2 + i)) else none)))))) := by rw [eV2, va_up_ne _ _ (by omega)]; exact hU1
      have hB0 : V2 (1) = some (.inr (3, [.ref (ad (2)), .int (nI k)])) := by rw [eV2, va_up_ne _ _ (by omega)]; exact hB0
      have hB1 : V2 (2) = some (.inl (cy 6, 12, .inr (.inr (.inr (.inr (fun i => if i < k then some (ad (10 + i)) else none)))))) := by rw [eV2, va_up_ne _ _ (by omega)]; exact hB1
      have hC0 : V2 (PB) = some (.inr (1, [.ref (ad (1)), .ref (ad (PB + 1)), .ref (ad (PB + 7)), .ref (ad (PB + 13)), .ref (ad (PB + 14)), .ref (ad (PB + 15)), .int (ch), .int (coy), .int (fo), .int (b2i false), .int (nI bny)])) := by rw [eV2, va_up_self]
      refine lv_iload_n hx hb dX1_closeBatch_31 rfl (lv_at hl 2 rfl) ?_
      exact rwi hx hb hr hlocks dX1_closeBatch_32 hW hS (by
    rw [← eY]
    exact ⟨rfl, rfl, ⟨n3, M3, ⟨hC0, hCT.mv (fun L h1 h2 => by show V2 L = _; rw [eV2, va_up_ne _ _ (by omega)]), hCU.mv (fun L h1 h2 => by show V2 L = _; rw [eV2, va_up_ne _ _ (by omega)]), hC3, hC4⟩, hn3, hZ3⟩, hHl.mv (fun L h1 h2 => by show V2 L = _; rw [eV2, va_up_ne _ _ (by omega)]), fun L hL => by show V2 L = _; rw [eV2, va_up_ne _ _ (by omega)]; exact hfrl L hL⟩)
    · skip
      have c13 := b2i_0.mp c13
      refine lv_aload_n hx hb dX1_closeBatch_16 rfl (lv_at hl 0 rfl) ?_
      refine cv (va_runV (As := []) (rest := []) ⟨hx, hb, hml, hown, hK.1.use _⟩ (c_X1_takeBack l D cy z0 ad Vl PB n n3 k My M3 kpy fb ch coy fo (nI bny) true ρ hCl hBl hk hn40 (by omega) hPB ho hm hv hs nxy kny hHl hn3 g1 hZ3 bny rfl (by omega) g2 (by omega) (by omega) (fun _ => by omega) (by rw [g3]; exact g5)) (k_X1_X1_takeBack hK.1 rfl rfl ⟨Nat.le_of_ble_eq_true rfl, Nat.le_of_ble_eq_true rfl⟩) (preV hK (Nat.le_trans hz hS.1) hW hC0 rfl) rfl rfl hl.1 rfl (lv_room (Nat.le_of_ble_eq_true rfl)) dX1_closeBatch_17 ⟨Nat.le_of_ble_eq_true rfl, Nat.le_of_ble_eq_true rfl⟩) hS (fun ad17 Vc17 H locs h17 hW hS => ?_)
      obtain ⟨e17, hC8, hH8, hfr8⟩ := h17
      obtain rfl : ad = ad17 := e17.symm
      have hfr8 : ∀ L, (L < PB ∨ PB + 80 ≤ L) → Vc17 L = V L := fun L hL => (hfr8 L hL).trans (hfrl L hL)
      refine lv_iinc (v := nI (i + 1)) (lv' := [(3, .int (nI (i + 1))), (0, .ref (ad PB)), (1, .int (b2i sb)), (2, .int (nI bn))]) hx hb dX1_closeBatch_20 hl (k := 3) rfl (by rw [show Int32.ofInt 1 = nI 1 from by decide]; exact nI_add _ _) (by decide) rfl (fun ls hl => ?_)
      refine lv_goto (tgt := 7) hx hb dX1_closeBatch_23 (by decide) ?_
      exact ih (i + 1) _ _ _ ⟨⟨by omega, fun q => by rw [q] at c13; cases c13⟩, ⟨_, by show (∃ n3 M3, isC ad _ cy PB n (tbF n k ρ ho hm hv hs true (tbI n k ρ ho hm hv hs true i (M, kp, co, nx, kn, bn))).1 n3 M3 _ fb ch _ fo true _ ∧ n3 ≤ n ∧ Zt n3 M3) ∧ _; obtain ⟨z1, -⟩ := tbI_ok (k := k) (ρ := ρ) (hv := hv) (hs := hs) (kp := kp) (co := co) hn40 hZ hnx hkn hOk hbk (i + 1) (by omega); refine ⟨⟨n, _, ?_, Nat.le_refl n, z1⟩, ?_, hfr8⟩; (show isC ad _ cy PB n (tbF n k ρ ho hm hv hs true (tbI n k ρ ho hm hv hs true i (M, kp, co, nx, kn, bn))).1 n (tbF n k ρ ho hm hv hs true (tbI n k ρ ho hm hv hs true i (M, kp, co, nx, kn, bn))).1 (tbF n k ρ ho hm hv hs true (tbI n k ρ ho hm hv hs true i (M, kp, co, nx, kn, bn))).2.1 fb ch (tbF n k ρ ho hm hv hs true (tbI n k ρ ho hm hv hs true i (M, kp, co, nx, kn, bn))).2.2.1 fo true (nI (tbF n k ρ ho hm hv hs true (tbI n k ρ ho hm hv hs true i (M, kp, co, nx, kn, bn))).2.2.2.2.2); rw [← ey]; exact hC8); (show isH ad _ cy PB ho hm hv hs (tbF n k ρ ho hm hv hs true (tbI n k ρ ho hm hv hs true i (M, kp, co, nx, kn, bn))).2.2.2.1 (tbF n k ρ ho hm hv hs true (tbI n k ρ ho hm hv hs true i (M, kp, co, nx, kn, bn))).2.2.2.2.1; rw [← ey]; exact hH8), hW⟩, hS, ls, rfl, lv_sub hl [1, 2, 3, 0] rfl⟩ (by omega)

set_option maxHeartbeats 4000000 in
set_option maxRecDepth 100000 in
theorem c_X1_becomeLike (l : Launch) (D : va_G) (cy : Nat → ClassId) (z0 : Nat) (ad : Nat → Nat) (V : Nat → Option va_E) (PB n1 n2 k : Nat) (M1 M2 : Nat → Nat → Int32) (kp1 : Nat → Int64) (fb1 : Nat → Bool) (ch co fo bk : Int32) (bb : Bool) (ρ : RuT) (hC : isC ad V cy PB n1 M1 n2 M2 kp1 fb1 ch co fo bb bk) (hB : isBk ad V cy k ρ) (hk : okR k ρ) (PS n n4 : Nat) (M M4 : Nat → Nat → Int32) (kp : Nat → Int64) (fb : Nat → Bool) (ch4 co4 fo4 bk4 : Int32) (bb4 : Bool) (hD : isC ad V cy PS n M n4 M4 kp fb ch4 co4 fo4 bb4 bk4) (hn40 : n ≤ 40) (hPB : 100 ≤ PB) (hPS : 100 ≤ PS) (hap : PB + 80 ≤ PS ∨ PS + 80 ≤ PB) (hnn : n1 ≤ n) (hZ1 : Zt n1 M1) (hZ : Zt n M) : Met l yX1_becomeLike [Cond.code yX1_becomeLike cX1_becomeLike 3 none] { frames := 2, cells := 0, slots := 0, locals := 82 } (WP [.ref (ad PB), .ref (ad PS)] D cy z0 ad V) (va_Qv (fun u => u.1 = ad ∧ isC ad u.2 cy PB n M n2 M2 (cpU kp1 kp k) (cpU fb1 fb k) ch co fo bb bk ∧ ∀ L, (L < PB ∨ PB + 15 ≤ L) → u.2 L = V L) (WB D z0) (AA z0)) 0 0 (AA z0) := by
  refine met_of (by decide) (Nat.le_of_ble_eq_true rfl) (fun p e s m below meth c hx hb hr hml hown hlocks hnm hK hz hW ls hl => ?_)
  have hown : s.vm.findClass RX1 = some m.cls := hown
  have hl : lv_has ls 3 [(0, .ref (ad PB)), (1, .ref (ad PS))] := hl
  have hS : va_S (AA z0) s.heap s.heap [] := va_S.rf
  have hk12 := hk.1
  obtain ⟨hC0, hCT, hCU, hC3, hC4⟩ := id hC
  obtain ⟨hD0, hDT, hDU, hD3, hD4⟩ := id hD
  obtain ⟨hT0, hT1, hTr⟩ := id hCT
  obtain ⟨hB0, hB1, hBr⟩ := id hB
  refine lv_aload_n hx hb dX1_becomeLike_0 rfl (lv_at hl 0 rfl) ?_
  refine g_X1_X1_now hx hb hown hK hW hC0 dX1_becomeLike_1 ?_
  refine lv_aload_n hx hb dX1_becomeLike_4 rfl (lv_at hl 1 rfl) ?_
  refine g_X1_X1_now hx hb hown hK hW hD0 dX1_becomeLike_5 ?_
  refine cv (va_runV (As := [.ref (ad (PS + 1))]) (rest := []) ⟨hx, hb, hml, hown, hK.1.use _⟩ (c_X5_becomeLike l D cy z0 ad V (PB + 1) n1 M1 hCT (PS + 1) n M hDT hnn (by omega) (by omega) hZ1 hZ) (k_X1_X5_becomeLike hK.1 rfl rfl ⟨Nat.le_of_ble_eq_true rfl, Nat.le_of_ble_eq_true rfl⟩) (preV hK hz hW hT0 rfl) rfl rfl hl.1 rfl (lv_room (Nat.le_of_ble_eq_true rfl)) dX1_becomeLike_8 ⟨Nat.le_of_ble_eq_true rfl, Nat.le_of_ble_eq_true rfl⟩) hS (fun ad8 Vc8 H locs h8 hW hS => ?_)
  obtain ⟨e8, hT8, hfr8⟩ := h8
  obtain rfl : ad = ad8 := e8.symm
  have hC8 := hC.now hT8 hfr8
  have hfr8 : ∀ L, (L < PB ∨ PB + 15 ≤ L) → Vc8 L = V L := fun L hL => hfr8 L (by omega)
  refine lv_iconst (v := nI 0) hx hb dX1_becomeLike_11 (by decide) ?_
  refine lv_istore_n (lv' := [(2, .int (nI 0)), (0, .ref (ad PB)), (1, .ref (ad PS))]) hx hb dX1_becomeLike_12 rfl hl (by decide) rfl (fun ls hl => ?_)
  refine wlh (ι := Nat) (fun i => k - i) (fun i H locs g => (i ≤ k) ∧ (∃ X, (isC ad X cy PB n M n2 M2 (cpU kp1 kp i) (cpU fb1 fb i) ch co fo bb bk ∧ ∀ L, (L < PB ∨ PB + 15 ≤ L) → X L = V L) ∧ HW D z0 ad X H) ∧ va_S (AA z0) s.heap H locs ∧ ∃ ls, g = F0 m 13 ls [] ∧ lv_has ls 3 [(0, .ref (ad PB)), (1, .ref (ad PS)), (2, .int (nI i))]) ?_ (0) _ _ _ ⟨Nat.zero_le _, ⟨_, ⟨by rw [cpU_0, cpU_0]; exact hC8, hfr8⟩, hW⟩, hS, ls, rfl, lv_sub hl [1, 2, 0] rfl⟩
  intro i H locs g hg ih
  obtain ⟨hi, ⟨Vl, ⟨hCl, hfrl⟩, hW⟩, hS, ls, rfl, hl⟩ := hg
  have hBl := hB.mv hk.1 (fun L h1 h2 => hfrl L (by omega))
  have hDl := hD.mv (fun L h1 h2 => hfrl L (by omega))
  obtain ⟨hC0, hCT, hCU, hC3, hC4⟩ := id hCl
  obtain ⟨hD0, hDT, hDU, hD3, hD4⟩ := id hDl
  obtain ⟨hB0, hB1, hBr⟩ := id hBl
  refine lv_iload_n hx hb dX1_becomeLike_13 rfl (lv_at hl 2 rfl) ?_
  refine lv_aload_n hx hb dX1_becomeLike_14 rfl (lv_at hl 0 rfl) ?_
  refine g_X1_X1_book hx hb hown hK hW hC0 dX1_becomeLike_15 ?_
  refine g_X1_X3_size hx hb hown hK hW hB0 dX1_becomeLike_18 ?_
  refine lv_icmp_ge (tgt := 54) hx hb dX1_becomeLike_21 (by decide) (fun c21 => ?_) (fun c21 => ?_)
  · skip
    have c21 := nI_le' c21 (by omega) (by omega)
    exact rwv hx hb hr hlocks dX1_becomeLike_54 hW hS (by have e9 : i = k := (by omega); rw [e9] at hCl; exact ⟨rfl, hCl, hfrl⟩)
  · skip
    have c21 := nI_nle' c21 (by omega) (by omega)
    refine lv_aload_n hx hb dX1_becomeLike_24 rfl (lv_at hl 0 rfl) ?_
    refine g_X1_X1_keptAt hx hb hown hK hW hC0 dX1_becomeLike_25 ?_
    refine lv_iload_n hx hb dX1_becomeLike_28 rfl (lv_at hl 2 rfl) ?_
    refine lv_aload_n hx hb dX1_becomeLike_29 rfl (lv_at hl 1 rfl) ?_
    refine g_X1_X1_keptAt hx hb hown hK hW hD0 dX1_becomeLike_30 ?_
    refine lv_iload_n hx hb dX1_becomeLike_33 rfl (lv_at hl 2 rfl) ?_
    refine w_lald hx hb hK hW hD3 (j := i) (rfl) (by omega) (by omega) dX1_becomeLike_34 ?_
    refine w_last hx hb hK hW hS hC3 (j := i) (rfl) (by omega) (by omega) dX1_becomeLike_35 (fun H locs hW hS => ?_)
    obtain ⟨V1, eV1⟩ : ∃ x, x = va_up Vl (PB + 13) (some (.inl (cy 1, 12, .inr (.inl (vp_updL (cpU kp1 kp i) i (kp i)))))) := ⟨_, rfl⟩
    rw [← eV1] at hW
    have hC0 : V1 (PB) = some (.inr (1, [.ref (ad (1)), .ref (ad (PB + 1)), .ref (ad (PB + 7)), .ref (ad (PB + 13)), .ref (ad (PB + 14)), .ref (ad (PB + 15)), .int (ch), .int (co), .int (fo), .int (b2i bb), .int (bk)])) := by rw [eV1, va_up_ne _ _ (by omega)]; exact hC0
    have hC4 : V1 (PB + 14) = some (.inl (cy 2, 12, .inl (fun r => b2i ((cpU fb1 fb i) r)))) := by rw [eV1, va_up_ne _ _ (by omega)]; exact hC4
    have hD0 : V1 (PS) = some (.inr (1, [.ref (ad (1)), .ref (ad (PS + 1)), .ref (ad (PS + 7)), .ref (ad (PS + 13)), .ref (ad (PS + 14)), .ref (ad (PS + 15)), .int (ch4), .int (co4), .int (fo4), .int (b2i bb4), .int (bk4)])) := by rw [eV1, va_up_ne _ _ (by omega)]; exact hD0
    have hD3 : V1 (PS + 13) = some (.inl (cy 1, 12, .inr (.inl kp))) := by rw [eV1, va_up_ne _ _ (by omega)]; exact hD3
    have hD4 : V1 (PS + 14) = some (.inl (cy 2, 12, .inl (fun r => b2i (fb r)))) := by rw [eV1, va_up_ne _ _ (by omega)]; exact hD4
    have hB0 : V1 (1) = some (.inr (3, [.ref (ad (2)), .int (nI k)])) := by rw [eV1, va_up_ne _ _ (by omega)]; exact hB0
    have hB1 : V1 (2) = some (.inl (cy 6, 12, .inr (.inr (.inr (.inr (fun i => if i < k then some (ad (10 + i)) else none)))))) := by rw [eV1, va_up_ne _ _ (by omega)]; exact hB1
    have hC3 : V1 (PB + 13) = some (.inl (cy 1, 12, .inr (.inl (vp_updL (cpU kp1 kp i) i (kp i))))) := by rw [eV1, va_up_self]
    refine lv_aload_n hx hb dX1_becomeLike_36 rfl (lv_at hl 0 rfl) ?_
    refine g_X1_X1_forgets hx hb hown hK hW hC0 dX1_becomeLike_37 ?_
    refine lv_iload_n hx hb dX1_becomeLike_40 rfl (lv_at hl 2 rfl) ?_
    refine lv_aload_n hx hb dX1_becomeLike_41 rfl (lv_at hl 1 rfl) ?_
    refine g_X1_X1_forgets hx hb hown hK hW hD0 dX1_becomeLike_42 ?_
    refine lv_iload_n hx hb dX1_becomeLike_45 rfl (lv_at hl 2 rfl) ?_
    refine w_zald hx hb hK hW hD4 (j := i) (rfl) (by omega) (by omega) dX1_becomeLike_46 ?_
    refine w_zast hx hb hK hW hS hC4 (j := i) (rfl) (by omega) (by omega) (b2i_v) dX1_becomeLike_47 (fun H locs hW hS => ?_)
    obtain ⟨V2, eV2⟩ : ∃ x, x = va_up V1 (PB + 14) (some (.inl (cy 2, 12, .inl (upd (fun r => b2i ((cpU fb1 fb i) r)) i (b2i (fb i)))))) := ⟨_, rfl⟩
    rw [← eV2] at hW
    have hC0 : V2 (PB) = some (.inr (1, [.ref (ad (1)), .ref (ad (PB + 1)), .ref (ad (PB + 7)), .ref (ad (PB + 13)), .ref (ad (PB + 14)), .ref (ad (PB + 15)), .int (ch), .int (co), .int (fo), .int (b2i bb), .int (bk)])) := by rw [eV2, va_up_ne _ _ (by omega)]; exact hC0
    have hD0 : V2 (PS) = some (.inr (1, [.ref (ad (1)), .ref (ad (PS + 1)), .ref (ad (PS + 7)), .ref (ad (PS + 13)), .ref (ad (PS + 14)), .ref (ad (PS + 15)), .int (ch4), .int (co4), .int (fo4), .int (b2i bb4), .int (bk4)])) := by rw [eV2, va_up_ne _ _ (by omega)]; exact hD0
    have hD3 : V2 (PS + 13) = some (.inl (cy 1, 12, .inr (.inl kp))) := by rw [eV2, va_up_ne _ _ (by omega)]; exact hD3
    have hD4 : V2 (PS + 14) = some (.inl (cy 2, 12, .inl (fun r => b2i (fb r)))) := by rw [eV2, va_up_ne _ _ (by omega)]; exact hD4
    have hB0 : V2 (1) = some (.inr (3, [.ref (ad (2)), .int (nI k)])) := by rw [eV2, va_up_ne _ _ (by omega)]; exact hB0
    have hB1 : V2 (2) = some (.inl (cy 6, 12, .inr (.inr (.inr (.inr (fun i => if i < k then some (ad (10 + i)) else none)))))) := by rw [eV2, va_up_ne _ _ (by omega)]; exact hB1
    have hC3 : V2 (PB + 13) = some (.inl (cy 1, 12, .inr (.inl (vp_updL (cpU kp1 kp i) i (kp i))))) := by rw [eV2, va_up_ne _ _ (by omega)]; exact hC3
    have hC4 : V2 (PB + 14) = some (.inl (cy 2, 12, .inl (upd (fun r => b2i ((cpU fb1 fb i) r)) i (b2i (fb i))))) := by rw [eV2, va_up_self]
    refine lv_iinc (v := nI (i + 1)) (lv' := [(2, .int (nI (i + 1))), (0, .ref (ad PB)), (1, .ref (ad PS))]) hx hb dX1_becomeLike_48 hl (k := 2) rfl (by rw [show Int32.ofInt 1 = nI 1 from by decide]; exact nI_add _ _) (by decide) rfl (fun ls hl => ?_)
    refine lv_goto (tgt := 13) hx hb dX1_becomeLike_51 (by decide) ?_
    exact ih (i + 1) _ _ _ ⟨by omega, ⟨_, ⟨⟨hC0, hCT.mv (fun L h1 h2 => by rw [eV2, va_up_ne _ _ (by omega), eV1, va_up_ne _ _ (by omega)]), hCU.mv (fun L h1 h2 => by rw [eV2, va_up_ne _ _ (by omega), eV1, va_up_ne _ _ (by omega)]), by rw [← cpU_l]; exact hC3, by rw [← cpU_b]; exact hC4⟩, fun L hL => by rw [eV2, va_up_ne _ _ (by omega), eV1, va_up_ne _ _ (by omega)]; exact hfrl L hL⟩, hW⟩, hS, ls, rfl, lv_sub hl [1, 2, 0] rfl⟩ (by omega)

set_option maxHeartbeats 4000000 in
set_option maxRecDepth 100000 in
theorem c_X1_addObject (l : Launch) (D : va_G) (cy : Nat → ClassId) (z0 : Nat) (ad : Nat → Nat) (V : Nat → Option va_E) (PB n n2 k : Nat) (M M2 : Nat → Nat → Int32) (kp : Nat → Int64) (fb : Nat → Bool) (ch co fo bk : Int32) (bb : Bool) (ρ : RuT) (hC : isC ad V cy PB n M n2 M2 kp fb ch co fo bb bk) (hB : isBk ad V cy k ρ) (hk : okR k ρ) (hn40 : n ≤ 40) (hn2 : n2 ≤ 40) (hPB : 100 ≤ PB) (hnn : n2 ≤ n) (hZ : Zt n M) (hZ2 : Zt n2 M2) (hn39 : n < 40) : Met l yX1_addObject [Cond.code yX1_addObject cX1_addObject 2 (some .int)] { frames := 4, cells := 0, slots := 0, locals := 96 } (WP [.ref (ad PB)] D cy z0 ad V) (va_Qi (fun r u => r = nI n ∧ u.1 = ad ∧ isC ad u.2 cy PB (n + 1) (addM n M) (n + 1) (addM n M) (kpU kp (fun r => wthR ρ r (addM n M) (n + 1) - wthR ρ r M n) k) fb ch co fo bb bk ∧ ∀ L, (L < PB ∨ PB + 15 ≤ L) → u.2 L = V L) (WB D z0) (AA z0)) 0 0 (AA z0) := by
  refine met_of (by decide) (Nat.le_of_ble_eq_true rfl) (fun p e s m below meth c hx hb hr hml hown hlocks hnm hK hz hW ls hl => ?_)
  have hown : s.vm.findClass RX1 = some m.cls := hown
  have hl : lv_has ls 2 [(0, .ref (ad PB))] := hl
  have hS : va_S (AA z0) s.heap s.heap [] := va_S.rf
  have hk12 := hk.1
  obtain ⟨hC0, hCT, hCU, hC3, hC4⟩ := id hC
  obtain ⟨hT0, hT1, hTr⟩ := id hCT
  obtain ⟨hU0, hU1, hUr⟩ := id hCU
  obtain ⟨hB0, hB1, hBr⟩ := id hB
  refine lv_aload_n hx hb dX1_addObject_0 rfl (lv_at hl 0 rfl) ?_
  refine g_X1_X1_behind hx hb hown hK hW hC0 dX1_addObject_1 ?_
  refine lv_aload_n hx hb dX1_addObject_4 rfl (lv_at hl 0 rfl) ?_
  refine g_X1_X1_now hx hb hown hK hW hC0 dX1_addObject_5 ?_
  refine cv (va_runV (As := [.ref (ad (PB + 1))]) (rest := []) ⟨hx, hb, hml, hown, hK.1.use _⟩ (c_X5_becomeLike l D cy z0 ad V (PB + 7) n2 M2 hCU (PB + 1) n M hCT hnn (by omega) (by omega) hZ2 hZ) (k_X1_X5_becomeLike hK.1 rfl rfl ⟨Nat.le_of_ble_eq_true rfl, Nat.le_of_ble_eq_true rfl⟩) (preV hK hz hW hU0 rfl) rfl rfl hl.1 rfl (lv_room (Nat.le_of_ble_eq_true rfl)) dX1_addObject_8 ⟨Nat.le_of_ble_eq_true rfl, Nat.le_of_ble_eq_true rfl⟩) hS (fun ad8 Vc8 H locs h8 hW hS => ?_)
  obtain ⟨e8, hT8, hfr8⟩ := h8
  obtain rfl : ad = ad8 := e8.symm
  have hC8 := hC.lay hT8 hfr8
  have hB8 := hB.mv hk.1 (fun L h1 h2 => hfr8 L (by omega))
  have hk12 := hk.1
  obtain ⟨hC0, hCT, hCU, hC3, hC4⟩ := id hC8
  obtain ⟨hT0, hT1, hTr⟩ := id hCT
  obtain ⟨hU0, hU1, hUr⟩ := id hCU
  obtain ⟨hB0, hB1, hBr⟩ := id hB8
  refine lv_aload_n hx hb dX1_addObject_11 rfl (lv_at hl 0 rfl) ?_
  refine g_X1_X1_behind hx hb hown hK hW hC0 dX1_addObject_12 ?_
  refine cv (va_runV (As := []) (rest := []) ⟨hx, hb, hml, hown, hK.1.use _⟩ (c_X5_addObject l D cy z0 ad Vc8 (PB + 7) n M hCU hn39) (k_X1_X5_addObject hK.1 rfl rfl ⟨Nat.le_of_ble_eq_true rfl, Nat.le_of_ble_eq_true rfl⟩) (preV hK (Nat.le_trans hz hS.1) hW hU0 rfl) rfl rfl hl.1 rfl (lv_room (Nat.le_of_ble_eq_true rfl)) dX1_addObject_15 ⟨Nat.le_of_ble_eq_true rfl, Nat.le_of_ble_eq_true rfl⟩) hS (fun ad15 Vc15 H locs h15 hW hS => ?_)
  obtain ⟨e15, hT9, hfr9⟩ := h15
  obtain rfl : ad = ad15 := e15.symm
  have hC9 := hC8.lay hT9 hfr9
  have hfr9 : ∀ L, (L < PB ∨ PB + 15 ≤ L) → Vc15 L = V L := fun L hL => (hfr9 L (by omega)).trans (hfr8 L (by omega))
  have hB9 := hB.mv hk.1 (fun L h1 h2 => hfr9 L (by omega))
  have hk12 := hk.1
  obtain ⟨hC0, hCT, hCU, hC3, hC4⟩ := id hC9
  obtain ⟨hT0, hT1, hTr⟩ := id hCT
  obtain ⟨hU0, hU1, hUr⟩ := id hCU
  obtain ⟨hB0, hB1, hBr⟩ := id hB9
  refine lv_iconst (v := nI 0) hx hb dX1_addObject_18 (by decide) ?_
  refine lv_istore_n (lv' := [(1, .int (nI 0)), (0, .ref (ad PB))]) hx hb dX1_addObject_19 rfl hl (by decide) rfl (fun ls hl => ?_)
  refine wlh (ι := Nat) (fun i => k - i) (fun i H locs g => (i ≤ k) ∧ (∃ X, (isC ad X cy PB n M (n + 1) (addM n M) (kpU kp (fun r => wthR ρ r (addM n M) (n + 1) - wthR ρ r M n) i) fb ch co fo bb bk ∧ ∀ L, (L < PB ∨ PB + 15 ≤ L) → X L = V L) ∧ HW D z0 ad X H) ∧ va_S (AA z0) s.heap H locs ∧ ∃ ls, g = F0 m 20 ls [] ∧ lv_has ls 2 [(0, .ref (ad PB)), (1, .int (nI i))]) ?_ (0) _ _ _ ⟨Nat.zero_le _, ⟨_, ⟨by rw [kpU_0]; exact hC9, hfr9⟩, hW⟩, hS, ls, rfl, lv_sub hl [1, 0] rfl⟩
  intro i H locs g hg ih
  obtain ⟨hi, ⟨Vl, ⟨hCl, hfrl⟩, hW⟩, hS, ls, rfl, hl⟩ := hg
  have hBl := hB.mv hk.1 (fun L h1 h2 => hfrl L (by omega))
  obtain ⟨hC0, hCT, hCU, hC3, hC4⟩ := id hCl
  obtain ⟨hT0, hT1, hTr⟩ := id hCT
  obtain ⟨hU0, hU1, hUr⟩ := id hCU
  obtain ⟨hB0, hB1, hBr⟩ := id hBl
  refine lv_iload_n hx hb dX1_addObject_20 rfl (lv_at hl 1 rfl) ?_
  refine lv_aload_n hx hb dX1_addObject_21 rfl (lv_at hl 0 rfl) ?_
  refine g_X1_X1_book hx hb hown hK hW hC0 dX1_addObject_22 ?_
  refine g_X1_X3_size hx hb hown hK hW hB0 dX1_addObject_25 ?_
  refine lv_icmp_ge (tgt := 51) hx hb dX1_addObject_28 (by decide) (fun c28 => ?_) (fun c28 => ?_)
  · skip
    have c28 := nI_le' c28 (by omega) (by omega)
    have e9 : i = k := by omega
    rw [e9] at hCl hC3
    refine lv_aload_n hx hb dX1_addObject_51 rfl (lv_at hl 0 rfl) ?_
    refine g_X1_X1_now hx hb hown hK hW hC0 dX1_addObject_52 ?_
    refine lv_aload_n hx hb dX1_addObject_55 rfl (lv_at hl 0 rfl) ?_
    refine g_X1_X1_behind hx hb hown hK hW hC0 dX1_addObject_56 ?_
    refine cv (va_runV (As := [.ref (ad (PB + 7))]) (rest := []) ⟨hx, hb, hml, hown, hK.1.use _⟩ (c_X5_becomeLike l D cy z0 ad Vl (PB + 1) n M hCT (PB + 7) (n + 1) (addM n M) hCU (by omega) (by omega) (by omega) hZ (Zt_add hZ)) (k_X1_X5_becomeLike hK.1 rfl rfl ⟨Nat.le_of_ble_eq_true rfl, Nat.le_of_ble_eq_true rfl⟩) (preV hK (Nat.le_trans hz hS.1) hW hT0 rfl) rfl rfl hl.1 rfl (lv_room (Nat.le_of_ble_eq_true rfl)) dX1_addObject_59 ⟨Nat.le_of_ble_eq_true rfl, Nat.le_of_ble_eq_true rfl⟩) hS (fun ad59 Vc59 H locs h59 hW hS => ?_)
    obtain ⟨e59, hT6, hfr6⟩ := h59
    obtain rfl : ad = ad59 := e59.symm
    have hC6 := hCl.now hT6 hfr6
    have hfr6 : ∀ L, (L < PB ∨ PB + 15 ≤ L) → Vc59 L = V L := fun L hL => (hfr6 L (by omega)).trans (hfrl L hL)
    obtain ⟨hC0, hCT, hCU, hC3, hC4⟩ := id hC6
    obtain ⟨hT0, hT1, hTr⟩ := id hCT
    obtain ⟨hU0, hU1, hUr⟩ := id hCU
    refine lv_aload_n hx hb dX1_addObject_62 rfl (lv_at hl 0 rfl) ?_
    refine g_X1_X1_now hx hb hown hK hW hC0 dX1_addObject_63 ?_
    refine g_X1_X5_objects hx hb hown hK hW hT0 dX1_addObject_66 ?_
    refine lv_iconst (v := nI 1) hx hb dX1_addObject_69 (by decide) ?_
    refine lv_isub hx hb dX1_addObject_70 ?_
    refine asi (y := nI (((n + 1)) - 1)) (pk_sub (by omega)) ?_
    exact rwi hx hb hr hlocks dX1_addObject_71 hW hS (⟨rfl, rfl, hC6, hfr6⟩)
  · skip
    have c28 := nI_nle' c28 (by omega) (by omega)
    refine lv_aload_n hx hb dX1_addObject_31 rfl (lv_at hl 0 rfl) ?_
    refine g_X1_X1_keptAt hx hb hown hK hW hC0 dX1_addObject_32 ?_
    refine lv_iload_n hx hb dX1_addObject_35 rfl (lv_at hl 1 rfl) ?_
    refine lv_dup2_11 hx hb dX1_addObject_36 rfl rfl ?_
    refine w_lald hx hb hK hW hC3 (j := i) (rfl) (by omega) (by omega) dX1_addObject_37 ?_
    refine lv_aload_n hx hb dX1_addObject_38 rfl (lv_at hl 0 rfl) ?_
    refine lv_iload_n hx hb dX1_addObject_39 rfl (lv_at hl 1 rfl) ?_
    refine vp_callSl (va_Run.run (va_runV (As := [.int (nI i)]) (rest := [.long ((kpU kp (fun r => wthR ρ r (addM n M) (n + 1) - wthR ρ r M n) i) i), .int (nI i), .ref (ad (PB + 13))]) ⟨hx, hb, hml, hown, hK.1.use _⟩ (c_X1_gain l D cy z0 ad Vl PB n (n + 1) k M (addM n M) (kpU kp (fun r => wthR ρ r (addM n M) (n + 1) - wthR ρ r M n) i) fb ch co fo bk bb ρ hCl hBl hk hn40 (by omega) hPB i (by omega)) (k_X1_X1_gain hK.1 rfl rfl ⟨Nat.le_of_ble_eq_true rfl, Nat.le_of_ble_eq_true rfl⟩) (preV hK (Nat.le_trans hz hS.1) hW hC0 rfl) rfl rfl hl.1 rfl (lv_room (Nat.le_of_ble_eq_true rfl)) dX1_addObject_40 ⟨Nat.le_of_ble_eq_true rfl, Nat.le_of_ble_eq_true rfl⟩)) (fun r40 h40 => ?_)
    have h40 : r40 = wthR ρ i (addM n M) (n + 1) - wthR ρ i M n := h40
    subst h40
    refine lv_ladd hx hb dX1_addObject_43 ?_
    refine w_last hx hb hK hW hS hC3 (j := i) (rfl) (by omega) (by omega) dX1_addObject_44 (fun H locs hW hS => ?_)
    obtain ⟨V1, eV1⟩ : ∃ x, x = va_up Vl (PB + 13) (some (.inl (cy 1, 12, .inr (.inl (vp_updL (kpU kp (fun r => wthR ρ r (addM n M) (n + 1) - wthR ρ r M n) i) i (((kpU kp (fun r => wthR ρ r (addM n M) (n + 1) - wthR ρ r M n) i) i) + (wthR ρ i (addM n M) (n + 1) - wthR ρ i M n))))))) := ⟨_, rfl⟩
    rw [← eV1] at hW
    have hC0 : V1 (PB) = some (.inr (1, [.ref (ad (1)), .ref (ad (PB + 1)), .ref (ad (PB + 7)), .ref (ad (PB + 13)), .ref (ad (PB + 14)), .ref (ad (PB + 15)), .int (ch), .int (co), .int (fo), .int (b2i bb), .int (bk)])) := by rw [eV1, va_up_ne _ _ (by omega)]; exact hC0
    have hC4 : V1 (PB + 14) = some (.inl (cy 2, 12, .inl (fun r => b2i (fb r)))) := by rw [eV1, va_up_ne _ _ (by omega)]; exact hC4
    have hT0 : V1 (PB + 1) = some (.inr (5, [.ref (ad (PB + 1 + 1)), .int (nI n)])) := by rw [eV1, va_up_ne _ _ (by omega)]; exact hT0
    have hT1 : V1 (PB + 1 + 1) = some (.inl (cy 3, 4, .inr (.inr (.inr (.inr (fun i => if i < 4 then some (ad (PB + 1 + 2 + i)) else none)))))) := by rw [eV1, va_up_ne _ _ (by omega)]; exact hT1
    have hU0 : V1 (PB + 7) = some (.inr (5, [.ref (ad (PB + 7 + 1)), .int (nI ((n + 1)))])) := by rw [eV1, va_up_ne _ _ (by omega)]; exact hU0
    have hU1 : V1 (PB + 7 + 1) = some (.inl (cy 3, 4, .inr (.inr (.inr (.inr (fun i => if i < 4 then some (ad (PB + 7 + 2 + i)) else none)))))) := by rw [eV1, va_up_ne _ _ (by omega)]; exact hU1
    have hB0 : V1 (1) = some (.inr (3, [.ref (ad (2)), .int (nI k)])) := by rw [eV1, va_up_ne _ _ (by omega)]; exact hB0
    have hB1 : V1 (2) = some (.inl (cy 6, 12, .inr (.inr (.inr (.inr (fun i => if i < k then some (ad (10 + i)) else none)))))) := by rw [eV1, va_up_ne _ _ (by omega)]; exact hB1
    have hC3 : V1 (PB + 13) = some (.inl (cy 1, 12, .inr (.inl (vp_updL (kpU kp (fun r => wthR ρ r (addM n M) (n + 1) - wthR ρ r M n) i) i (((kpU kp (fun r => wthR ρ r (addM n M) (n + 1) - wthR ρ r M n) i) i) + (wthR ρ i (addM n M) (n + 1) - wthR ρ i M n)))))) := by rw [eV1, va_up_self]
    refine lv_iinc (v := nI (i + 1)) (lv' := [(1, .int (nI (i + 1))), (0, .ref (ad PB))]) hx hb dX1_addObject_45 hl (k := 1) rfl (by rw [show Int32.ofInt 1 = nI 1 from by decide]; exact nI_add _ _) (by decide) rfl (fun ls hl => ?_)
    refine lv_goto (tgt := 20) hx hb dX1_addObject_48 (by decide) ?_
    exact ih (i + 1) _ _ _ ⟨by omega, ⟨_, ⟨⟨hC0, hCT.mv (fun L h1 h2 => by rw [eV1, va_up_ne _ _ (by omega)]), hCU.mv (fun L h1 h2 => by rw [eV1, va_up_ne _ _ (by omega)]), by rw [← kpU_s]; exact hC3, hC4⟩, fun L hL => by rw [eV1, va_up_ne _ _ (by omega)]; exact hfrl L hL⟩, hW⟩, hS, ls, rfl, lv_sub hl [1, 0] rfl⟩ (by omega)
