set_option maxHeartbeats 4000000 in
set_option maxRecDepth 100000 in
theorem c_X2_countTouched (l : Launch) (D : va_G) (cy : Nat → ClassId) (z0 : Nat) (ad : Nat → Nat) (V : Nat → Option va_E) (LR kd lk : Nat) (bd wt lv : Int32) (hR : isR V LR kd lk bd wt lv) (hkd : kd < 6) (hlk : lk < 4) (B n : Nat) (M : Nat → Nat → Int32) (hT : isT ad V cy B n M) (B2 n2 : Nat) (M2 : Nat → Nat → Int32) (hU : isT ad V cy B2 n2 M2) (hn40 : n ≤ 40) : Met l yX2_countTouched [Cond.code yX2_countTouched cX2_countTouched 7 (some .int)] { frames := 1, cells := 0, slots := 0, locals := 20 } (WP [.ref (ad LR), .ref (ad B), .ref (ad B2)] D cy z0 ad V) (vp_Si (fun r => r = nI (ctT kd (M lk) (M2 lk) (M 2) (M2 2) n))) 0 0 (fun _ => False) := by
  refine met_of (by decide) (Nat.le_of_ble_eq_true rfl) (fun p e s m below meth c hx hb hr hml hown hlocks hnm hK hz hW ls hl => ?_)
  have hown : s.vm.findClass RX2 = some m.cls := hown
  have hl : lv_has ls 7 [(0, .ref (ad LR)), (1, .ref (ad B)), (2, .ref (ad B2))] := hl
  obtain ⟨hT0, hT1, hTr⟩ := id hT
  have hTrlk := hTr lk (by omega)
  have hTr2 := hTr 2 (by omega)
  obtain ⟨hU0, hU1, hUr⟩ := id hU
  have hUrlk := hUr lk (by omega)
  have hUr2 := hUr 2 (by omega)
  refine lv_iconst (v := nI 0) hx hb dX2_countTouched_0 (by decide) ?_
  refine lv_istore_n (lv' := [(3, .int (nI 0)), (0, .ref (ad LR)), (1, .ref (ad B)), (2, .ref (ad B2))]) hx hb dX2_countTouched_1 rfl hl (by decide) rfl (fun ls hl => ?_)
  refine lv_iconst (v := nI 0) hx hb dX2_countTouched_2 (by decide) ?_
  refine lv_istore (lv' := [(4, .int (nI 0)), (3, .int (nI 0)), (0, .ref (ad LR)), (1, .ref (ad B)), (2, .ref (ad B2))]) hx hb dX2_countTouched_3 hl (by decide) rfl (fun ls hl => ?_)
  refine wl (ι := Nat) (fun i => n - i) (fun i g => (i ≤ n) ∧ ∃ ls, g = F0 m 5 ls [] ∧ lv_has ls 7 [(0, .ref (ad LR)), (1, .ref (ad B)), (2, .ref (ad B2)), (3, .int (nI (ctT kd (M lk) (M2 lk) (M 2) (M2 2) i))), (4, .int (nI i))]) ?_ (0) _ ⟨Nat.zero_le _, ls, rfl, lv_sub hl [2, 3, 4, 1, 0] rfl⟩
  intro i g hg ih
  obtain ⟨hi, ls, rfl, hl⟩ := hg
  refine lv_iload hx hb dX2_countTouched_5 (lv_at hl 4 rfl) ?_
  refine lv_aload_n hx hb dX2_countTouched_7 rfl (lv_at hl 1 rfl) ?_
  refine g_X2_X5_objects hx hb hown hK hW hT0 dX2_countTouched_8 ?_
  refine lv_icmp_ge (tgt := 111) hx hb dX2_countTouched_11 (by decide) (fun c11 => ?_) (fun c11 => ?_)
  · skip
    have c11 := nI_le' c11 (by omega) (by omega)
    refine lv_iload_n hx hb dX2_countTouched_111 rfl (lv_at hl 3 rfl) ?_
    exact ri hx hb hr hlocks dX2_countTouched_112 (by have e9 : i = n := (by omega); rw [e9])
  · skip
    have c11 := nI_nle' c11 (by omega) (by omega)
    refine jl (pcj := 46) (st := [.int (b2i (decide (¬ M lk i = M2 lk i)))]) (nL := 7) (lv := [(0, .ref (ad LR)), (1, .ref (ad B)), (2, .ref (ad B2)), (3, .int (nI (ctT kd (M lk) (M2 lk) (M 2) (M2 2) i))), (4, .int (nI i))]) (fun K => ?_) (fun ls hl => ?_)
    · skip
      refine lv_aload_n hx hb dX2_countTouched_14 rfl (lv_at hl 1 rfl) ?_
      refine g_X2_X5_rows hx hb hown hK hW hT0 dX2_countTouched_15 ?_
      refine lv_aload_n hx hb dX2_countTouched_18 rfl (lv_at hl 0 rfl) ?_
      refine g_X2_X2_looksAt hx hb hown hK hW hR dX2_countTouched_19 ?_
      refine w_aald hx hb hK hW 3 rfl rfl hT1 (j := lk) (rfl) (by omega) (by omega) dX2_countTouched_22 ?_
      refine asv (y := .ref (ad (B + 2 + lk))) (el4 (by omega)) ?_
      refine lv_iload hx hb dX2_countTouched_23 (lv_at hl 4 rfl) ?_
      refine w_iald hx hb hK hW hTrlk (j := i) (rfl) (by omega) (by omega) dX2_countTouched_25 ?_
      refine lv_aload_n hx hb dX2_countTouched_26 rfl (lv_at hl 2 rfl) ?_
      refine g_X2_X5_rows hx hb hown hK hW hU0 dX2_countTouched_27 ?_
      refine lv_aload_n hx hb dX2_countTouched_30 rfl (lv_at hl 0 rfl) ?_
      refine g_X2_X2_looksAt hx hb hown hK hW hR dX2_countTouched_31 ?_
      refine w_aald hx hb hK hW 3 rfl rfl hU1 (j := lk) (rfl) (by omega) (by omega) dX2_countTouched_34 ?_
      refine asv (y := .ref (ad (B2 + 2 + lk))) (el4 (by omega)) ?_
      refine lv_iload hx hb dX2_countTouched_35 (lv_at hl 4 rfl) ?_
      refine w_iald hx hb hK hW hUrlk (j := i) (rfl) (by omega) (by omega) dX2_countTouched_37 ?_
      refine lv_icmp_eq (tgt := 45) hx hb dX2_countTouched_38 (by decide) (fun c38 => ?_) (fun c38 => ?_)
      · skip
        refine lv_iconst (v := nI 0) hx hb dX2_countTouched_45 (by decide) ?_
        refine asi (y := b2i (decide (¬ M lk i = M2 lk i))) (by simp [b2i, nI, c38]) ?_
        exact K ls (lv_sub hl [0, 1, 2, 3, 4] rfl)
      · skip
        refine lv_iconst (v := nI 1) hx hb dX2_countTouched_41 (by decide) ?_
        refine lv_goto (tgt := 46) hx hb dX2_countTouched_42 (by decide) ?_
        refine asi (y := b2i (decide (¬ M lk i = M2 lk i))) (by simp [b2i, nI, c38]) ?_
        exact K ls (lv_sub hl [0, 1, 2, 3, 4] rfl)
    · skip
      refine lv_istore (lv' := [(5, .int (b2i (decide (¬ M lk i = M2 lk i)))), (0, .ref (ad LR)), (1, .ref (ad B)), (2, .ref (ad B2)), (3, .int (nI (ctT kd (M lk) (M2 lk) (M 2) (M2 2) i))), (4, .int (nI i))]) hx hb dX2_countTouched_46 hl (by decide) rfl (fun ls hl => ?_)
      refine jl (pcj := 82) (st := [.int (b2i (decide (kd = 5 ∧ ¬ M 2 i = M2 2 i)))]) (nL := 7) (lv := [(5, .int (b2i (decide (¬ M lk i = M2 lk i)))), (0, .ref (ad LR)), (1, .ref (ad B)), (2, .ref (ad B2)), (3, .int (nI (ctT kd (M lk) (M2 lk) (M 2) (M2 2) i))), (4, .int (nI i))]) (fun K => ?_) (fun ls hl => ?_)
      · skip
        refine lv_aload_n hx hb dX2_countTouched_48 rfl (lv_at hl 1 rfl) ?_
        refine g_X2_X2_kind hx hb hown hK hW hR dX2_countTouched_49 ?_
        refine lv_iconst (v := nI 5) hx hb dX2_countTouched_52 (by decide) ?_
        refine lv_icmp_ne (tgt := 81) hx hb dX2_countTouched_53 (by decide) (fun c53 => ?_) (fun c53 => ?_)
        · skip
          have c53 := nI_ne' c53 (by omega) (by omega)
          refine lv_iconst (v := nI 0) hx hb dX2_countTouched_81 (by decide) ?_
          refine asi (y := b2i (decide (kd = 5 ∧ ¬ M 2 i = M2 2 i))) (by first | (simp [b2i, nI, c53]; done) | (simp [b2i, nI, c53, c74]; done)) ?_
          exact K ls (lv_sub hl [0, 1, 2, 3, 4, 5] rfl)
        · skip
          have c53 := nI_eq' c53 (by omega) (by omega)
          refine lv_aload_n hx hb dX2_countTouched_56 rfl (lv_at hl 2 rfl) ?_
          refine g_X2_X5_rows hx hb hown hK hW hT0 dX2_countTouched_57 ?_
          refine lv_iconst (v := nI 2) hx hb dX2_countTouched_60 (by decide) ?_
          refine w_aald hx hb hK hW 3 rfl rfl hT1 (j := 2) (rfl) (by omega) (by omega) dX2_countTouched_61 ?_
          refine asv (y := .ref (ad (B + 2 + 2))) (el4 (by omega)) ?_
          refine lv_iload hx hb dX2_countTouched_62 (lv_at hl 5 rfl) ?_
          refine w_iald hx hb hK hW hTr2 (j := i) (rfl) (by omega) (by omega) dX2_countTouched_64 ?_
          refine lv_aload_n hx hb dX2_countTouched_65 rfl (lv_at hl 3 rfl) ?_
          refine g_X2_X5_rows hx hb hown hK hW hU0 dX2_countTouched_66 ?_
          refine lv_iconst (v := nI 2) hx hb dX2_countTouched_69 (by decide) ?_
          refine w_aald hx hb hK hW 3 rfl rfl hU1 (j := 2) (rfl) (by omega) (by omega) dX2_countTouched_70 ?_
          refine asv (y := .ref (ad (B2 + 2 + 2))) (el4 (by omega)) ?_
          refine lv_iload hx hb dX2_countTouched_71 (lv_at hl 5 rfl) ?_
          refine w_iald hx hb hK hW hUr2 (j := i) (rfl) (by omega) (by omega) dX2_countTouched_73 ?_
          refine lv_icmp_eq (tgt := 81) hx hb dX2_countTouched_74 (by decide) (fun c74 => ?_) (fun c74 => ?_)
          · skip
            refine lv_iconst (v := nI 0) hx hb dX2_countTouched_81 (by decide) ?_
            refine asi (y := b2i (decide (kd = 5 ∧ ¬ M 2 i = M2 2 i))) (by first | (simp [b2i, nI, c53]; done) | (simp [b2i, nI, c53, c74]; done)) ?_
            exact K ls (lv_sub hl [0, 1, 2, 3, 4, 5] rfl)
          · skip
            refine lv_iconst (v := nI 1) hx hb dX2_countTouched_77 (by decide) ?_
            refine lv_goto (tgt := 82) hx hb dX2_countTouched_78 (by decide) ?_
            refine asi (y := b2i (decide (kd = 5 ∧ ¬ M 2 i = M2 2 i))) (by first | (simp [b2i, nI, c53]; done) | (simp [b2i, nI, c53, c74]; done)) ?_
            exact K ls (lv_sub hl [0, 1, 2, 3, 4, 5] rfl)
      · skip
        refine lv_istore (lv' := [(6, .int (b2i (decide (kd = 5 ∧ ¬ M 2 i = M2 2 i)))), (5, .int (b2i (decide (¬ M lk i = M2 lk i)))), (0, .ref (ad LR)), (1, .ref (ad B)), (2, .ref (ad B2)), (3, .int (nI (ctT kd (M lk) (M2 lk) (M 2) (M2 2) i))), (4, .int (nI i))]) hx hb dX2_countTouched_82 hl (by decide) rfl (fun ls hl => ?_)
        refine lv_iload_n hx hb dX2_countTouched_84 rfl (lv_at hl 5 rfl) ?_
        refine jl (pcj := 100) (st := [.int (b2i (decide (¬ M lk i = M2 lk i) || decide (kd = 5 ∧ ¬ M 2 i = M2 2 i))), .int (nI (ctT kd (M lk) (M2 lk) (M 2) (M2 2) i))]) (nL := 7) (lv := [(6, .int (b2i (decide (kd = 5 ∧ ¬ M 2 i = M2 2 i)))), (5, .int (b2i (decide (¬ M lk i = M2 lk i)))), (0, .ref (ad LR)), (1, .ref (ad B)), (2, .ref (ad B2)), (3, .int (nI (ctT kd (M lk) (M2 lk) (M 2) (M2 2) i))), (4, .int (nI i))]) (fun K => ?_) (fun ls hl => ?_)
        · skip
          refine lv_iload hx hb dX2_countTouched_85 (lv_at hl 1 rfl) ?_
          refine lv_if_ne (tgt := 95) hx hb dX2_countTouched_87 (by decide) (fun c87 => ?_) (fun c87 => ?_)
          · skip
            have c87 := b2i_1.mp c87
            refine lv_iconst (v := nI 1) hx hb dX2_countTouched_95 (by decide) ?_
            refine lv_goto (tgt := 100) hx hb dX2_countTouched_96 (by decide) ?_
            refine asi (y := b2i (decide (¬ M lk i = M2 lk i) || decide (kd = 5 ∧ ¬ M 2 i = M2 2 i))) (by first | (rw [c87]; rfl) | (rw [c87, c92]; rfl)) ?_
            exact K ls (lv_sub hl [0, 1, 2, 3, 4, 5, 6] rfl)
          · skip
            have c87 := b2i_0.mp c87
            refine lv_iload hx hb dX2_countTouched_90 (lv_at hl 0 rfl) ?_
            refine lv_if_eq (tgt := 99) hx hb dX2_countTouched_92 (by decide) (fun c92 => ?_) (fun c92 => ?_)
            · skip
              have c92 := b2i_0.mp c92
              refine lv_iconst (v := nI 0) hx hb dX2_countTouched_99 (by decide) ?_
              refine asi (y := b2i (decide (¬ M lk i = M2 lk i) || decide (kd = 5 ∧ ¬ M 2 i = M2 2 i))) (by first | (rw [c87]; rfl) | (rw [c87, c92]; rfl)) ?_
              exact K ls (lv_sub hl [0, 1, 2, 3, 4, 5, 6] rfl)
            · skip
              have c92 := b2i_1.mp c92
              refine lv_iconst (v := nI 1) hx hb dX2_countTouched_95 (by decide) ?_
              refine lv_goto (tgt := 100) hx hb dX2_countTouched_96 (by decide) ?_
              refine asi (y := b2i (decide (¬ M lk i = M2 lk i) || decide (kd = 5 ∧ ¬ M 2 i = M2 2 i))) (by first | (rw [c87]; rfl) | (rw [c87, c92]; rfl)) ?_
              exact K ls (lv_sub hl [0, 1, 2, 3, 4, 5, 6] rfl)
        · skip
          refine vp_callSi (va_Run.run (va_runSN (As := [.int (b2i (decide (¬ M lk i = M2 lk i) || decide (kd = 5 ∧ ¬ M 2 i = M2 2 i)))]) (rest := [.int (nI (ctT kd (M lk) (M2 lk) (M 2) (M2 2) i))]) ⟨hx, hb, hml, hown, hK.1.use _⟩ (c_X6_oneIf l D cy z0 ad V (decide (¬ M lk i = M2 lk i) || decide (kd = 5 ∧ ¬ M 2 i = M2 2 i))) (k_X2_X6_oneIf hK.1 rfl rfl ⟨Nat.le_of_ble_eq_true rfl, Nat.le_of_ble_eq_true rfl⟩) (preS hK hz hW) rfl rfl hl.1 rfl (lv_room (Nat.le_of_ble_eq_true rfl)) dX2_countTouched_100 ⟨Nat.le_of_ble_eq_true rfl, Nat.le_of_ble_eq_true rfl⟩)) (fun r100 h100 => ?_)
          have h100 : r100 = b2i (decide (¬ M lk i = M2 lk i) || decide (kd = 5 ∧ ¬ M 2 i = M2 2 i)) := h100
          subst h100
          refine lv_iadd hx hb dX2_countTouched_103 ?_
          refine asi (y := nI (ctT kd (M lk) (M2 lk) (M 2) (M2 2) (i + 1))) (by simp only [ctT]; rw [← nI_add]; congr 1; by_cases h1 : M lk i = M2 lk i <;> by_cases h2 : kd = 5 ∧ ¬ M 2 i = M2 2 i <;> simp [h1, h2, b2i, nI]) ?_
          refine lv_istore_n (lv' := [(3, .int (nI (ctT kd (M lk) (M2 lk) (M 2) (M2 2) (i + 1)))), (6, .int (b2i (decide (kd = 5 ∧ ¬ M 2 i = M2 2 i)))), (5, .int (b2i (decide (¬ M lk i = M2 lk i)))), (0, .ref (ad LR)), (1, .ref (ad B)), (2, .ref (ad B2)), (4, .int (nI i))]) hx hb dX2_countTouched_104 rfl hl (by decide) rfl (fun ls hl => ?_)
          refine lv_iinc (v := nI (i + 1)) (lv' := [(4, .int (nI (i + 1))), (3, .int (nI (ctT kd (M lk) (M2 lk) (M 2) (M2 2) (i + 1)))), (6, .int (b2i (decide (kd = 5 ∧ ¬ M 2 i = M2 2 i)))), (5, .int (b2i (decide (¬ M lk i = M2 lk i)))), (0, .ref (ad LR)), (1, .ref (ad B)), (2, .ref (ad B2))]) hx hb dX2_countTouched_105 hl (k := 6) rfl (by rw [show Int32.ofInt 1 = nI 1 from by decide]; exact nI_add _ _) (by decide) rfl (fun ls hl => ?_)
          refine lv_goto (tgt := 5) hx hb dX2_countTouched_108 (by decide) ?_
          exact ih (i + 1) _ ⟨by omega, ls, rfl, lv_sub hl [4, 5, 6, 1, 0] rfl⟩ (by omega)

set_option maxHeartbeats 4000000 in
set_option maxRecDepth 100000 in
theorem c_X2_fromNothing (l : Launch) (D : va_G) (cy : Nat → ClassId) (z0 : Nat) (ad : Nat → Nat) (V : Nat → Option va_E) (LR kd lk : Nat) (bd wt lv : Int32) (hR : isR V LR kd lk bd wt lv) (hkd : kd < 6) (hlk : lk < 4) (B n : Nat) (M : Nat → Nat → Int32) (hT : isT ad V cy B n M) (hn40 : n ≤ 40) : Met l yX2_fromNothing [Cond.code yX2_fromNothing cX2_fromNothing 4 (some .long)] { frames := 2, cells := 0, slots := 0, locals := 52 } (WP [.ref (ad LR), .ref (ad B)] D cy z0 ad V) (vp_Sl (fun r => r = wth kd bd wt (M lk) (M 2) n)) 0 0 (fun _ => False) := by
  refine met_of (by decide) (Nat.le_of_ble_eq_true rfl) (fun p e s m below meth c hx hb hr hml hown hlocks hnm hK hz hW ls hl => ?_)
  have hown : s.vm.findClass RX2 = some m.cls := hown
  have hl : lv_has ls 4 [(0, .ref (ad LR)), (1, .ref (ad B))] := hl
  obtain ⟨hT0, hT1, hTr⟩ := id hT
  have hTrlk := hTr lk (by omega)
  refine lv_aload_n hx hb dX2_fromNothing_0 rfl (lv_at hl 1 rfl) ?_
  refine g_X2_X5_rows hx hb hown hK hW hT0 dX2_fromNothing_1 ?_
  refine lv_aload_n hx hb dX2_fromNothing_4 rfl (lv_at hl 0 rfl) ?_
  refine g_X2_X2_looksAt hx hb hown hK hW hR dX2_fromNothing_5 ?_
  refine w_aald hx hb hK hW 3 rfl rfl hT1 (j := lk) (rfl) (by omega) (by omega) dX2_fromNothing_8 ?_
  refine asv (y := .ref (ad (B + 2 + lk))) (el4 (by omega)) ?_
  refine lv_astore_n (lv' := [(2, .ref (ad (B + 2 + lk))), (0, .ref (ad LR)), (1, .ref (ad B))]) hx hb dX2_fromNothing_9 rfl hl (by decide) rfl (fun ls hl => ?_)
  refine lv_aload_n hx hb dX2_fromNothing_10 rfl (lv_at hl 2 rfl) ?_
  refine g_X2_X5_objects hx hb hown hK hW hT0 dX2_fromNothing_11 ?_
  refine lv_istore_n (lv' := [(3, .int (nI n)), (2, .ref (ad (B + 2 + lk))), (0, .ref (ad LR)), (1, .ref (ad B))]) hx hb dX2_fromNothing_14 rfl hl (by decide) rfl (fun ls hl => ?_)
  refine lv_aload_n hx hb dX2_fromNothing_15 rfl (lv_at hl 2 rfl) ?_
  refine g_X2_X2_kind hx hb hown hK hW hR dX2_fromNothing_16 ?_
  have hq6 : kd = 0 ∨ kd = 1 ∨ kd = 2 ∨ kd = 3 ∨ kd = 4 ∨ kd = 5 := by omega
  rcases hq6 with hq | hq | hq | hq | hq | hq
  · skip
    refine asi (y := nI 0) (by rw [hq]) ?_
    refine lv_tableIn (off := 33) (tgt := 52) hx hb dX2_fromNothing_19 (by decide) (by decide) (by decide) (by decide) ?_
    refine lv_aload_n hx hb dX2_fromNothing_52 rfl (lv_at hl 2 rfl) ?_
    refine g_X2_X2_weight hx hb hown hK hW hR dX2_fromNothing_53 ?_
    refine lv_i2l (v := wt.toInt64) hx hb dX2_fromNothing_56 rfl ?_
    refine lv_aload_n hx hb dX2_fromNothing_57 rfl (lv_at hl 2 rfl) ?_
    refine lv_aload_n hx hb dX2_fromNothing_58 rfl (lv_at hl 1 rfl) ?_
    refine lv_iload_n hx hb dX2_fromNothing_59 rfl (lv_at hl 0 rfl) ?_
    refine vp_callSl (va_Run.run (va_runV (As := [.ref (ad (B + 2 + lk)), .int (nI n)]) (rest := [.long (wt.toInt64)]) ⟨hx, hb, hml, hown, hK.1.use _⟩ (c_X2_eachAbove l D cy z0 ad V LR kd lk bd wt lv hR (B + 2 + lk) 40 n (M lk) hTrlk (by omega) (by omega)) (k_X2_X2_eachAbove hK.1 rfl rfl ⟨Nat.le_of_ble_eq_true rfl, Nat.le_of_ble_eq_true rfl⟩) (preV hK hz hW hR rfl) rfl rfl hl.1 rfl (lv_room (Nat.le_of_ble_eq_true rfl)) dX2_fromNothing_60 ⟨Nat.le_of_ble_eq_true rfl, Nat.le_of_ble_eq_true rfl⟩)) (fun r60 h60 => ?_)
    have h60 : r60 = eaL (M lk) bd n := h60
    subst h60
    refine lv_lmul hx hb dX2_fromNothing_63 ?_
    exact rl hx hb hr hlocks dX2_fromNothing_64 (by simp [wth, hq])
  · skip
    refine asi (y := nI 1) (by rw [hq]) ?_
    refine lv_tableIn (off := 46) (tgt := 65) hx hb dX2_fromNothing_19 (by decide) (by decide) (by decide) (by decide) ?_
    refine lv_aload_n hx hb dX2_fromNothing_65 rfl (lv_at hl 2 rfl) ?_
    refine g_X2_X2_weight hx hb hown hK hW hR dX2_fromNothing_66 ?_
    refine lv_i2l (v := wt.toInt64) hx hb dX2_fromNothing_69 rfl ?_
    refine lv_lconst (v := 0) hx hb dX2_fromNothing_70 (by decide) ?_
    refine lv_aload_n hx hb dX2_fromNothing_71 rfl (lv_at hl 1 rfl) ?_
    refine lv_iload_n hx hb dX2_fromNothing_72 rfl (lv_at hl 0 rfl) ?_
    refine vp_callSl (va_Run.run (va_runS (As := [.ref (ad (B + 2 + lk)), .int (nI n)]) (rest := [.long (0), .long (wt.toInt64)]) ⟨hx, hb, hml, hown, hK.1.use _⟩ (c_X2_sum l D cy z0 ad V (B + 2 + lk) 40 n (M lk) hTrlk (by omega) (by omega)) (k_X2_X2_sum hK.1 rfl rfl ⟨Nat.le_of_ble_eq_true rfl, Nat.le_of_ble_eq_true rfl⟩) (preS hK hz hW) rfl rfl hl.1 rfl (lv_room (Nat.le_of_ble_eq_true rfl)) dX2_fromNothing_73 ⟨Nat.le_of_ble_eq_true rfl, Nat.le_of_ble_eq_true rfl⟩)) (fun r73 h73 => ?_)
    have h73 : r73 = sumL (M lk) n := h73
    subst h73
    refine lv_aload_n hx hb dX2_fromNothing_76 rfl (lv_at hl 2 rfl) ?_
    refine g_X2_X2_bound hx hb hown hK hW hR dX2_fromNothing_77 ?_
    refine lv_i2l (v := bd.toInt64) hx hb dX2_fromNothing_80 rfl ?_
    refine lv_lsub hx hb dX2_fromNothing_81 ?_
    refine k_X2_mmax_long hx hb (hml.trans hl.1.symm) hown hK (Nat.le_of_ble_eq_true rfl) (Nat.le_of_ble_eq_true rfl) (Nat.zero_le _) (Nat.zero_le _) dX2_fromNothing_82 ?_
    refine lv_lmul hx hb dX2_fromNothing_85 ?_
    exact rl hx hb hr hlocks dX2_fromNothing_86 (by simp [wth, hq])
  · skip
    refine asi (y := nI 2) (by rw [hq]) ?_
    refine lv_tableIn (off := 68) (tgt := 87) hx hb dX2_fromNothing_19 (by decide) (by decide) (by decide) (by decide) ?_
    refine lv_aload_n hx hb dX2_fromNothing_87 rfl (lv_at hl 2 rfl) ?_
    refine g_X2_X2_weight hx hb hown hK hW hR dX2_fromNothing_88 ?_
    refine lv_i2l (v := wt.toInt64) hx hb dX2_fromNothing_91 rfl ?_
    refine lv_aload_n hx hb dX2_fromNothing_92 rfl (lv_at hl 1 rfl) ?_
    refine lv_iload_n hx hb dX2_fromNothing_93 rfl (lv_at hl 0 rfl) ?_
    refine vp_callSl (va_Run.run (va_runS (As := [.ref (ad (B + 2 + lk)), .int (nI n)]) (rest := [.long (wt.toInt64)]) ⟨hx, hb, hml, hown, hK.1.use _⟩ (c_X2_sum l D cy z0 ad V (B + 2 + lk) 40 n (M lk) hTrlk (by omega) (by omega)) (k_X2_X2_sum hK.1 rfl rfl ⟨Nat.le_of_ble_eq_true rfl, Nat.le_of_ble_eq_true rfl⟩) (preS hK hz hW) rfl rfl hl.1 rfl (lv_room (Nat.le_of_ble_eq_true rfl)) dX2_fromNothing_94 ⟨Nat.le_of_ble_eq_true rfl, Nat.le_of_ble_eq_true rfl⟩)) (fun r94 h94 => ?_)
    have h94 : r94 = sumL (M lk) n := h94
    subst h94
    refine lv_aload_n hx hb dX2_fromNothing_97 rfl (lv_at hl 2 rfl) ?_
    refine g_X2_X2_bound hx hb hown hK hW hR dX2_fromNothing_98 ?_
    refine lv_i2l (v := bd.toInt64) hx hb dX2_fromNothing_101 rfl ?_
    refine lv_lsub hx hb dX2_fromNothing_102 ?_
    refine k_X2_mabs_long hx hb (hml.trans hl.1.symm) hown hK (Nat.le_of_ble_eq_true rfl) (Nat.le_of_ble_eq_true rfl) (Nat.zero_le _) (Nat.zero_le _) dX2_fromNothing_103 ?_
    refine lv_lmul hx hb dX2_fromNothing_106 ?_
    exact rl hx hb hr hlocks dX2_fromNothing_107 (by simp [wth, hq])
  · skip
    refine asi (y := nI 3) (by rw [hq]) ?_
    refine lv_tableIn (off := 89) (tgt := 108) hx hb dX2_fromNothing_19 (by decide) (by decide) (by decide) (by decide) ?_
    refine lv_aload_n hx hb dX2_fromNothing_108 rfl (lv_at hl 2 rfl) ?_
    refine g_X2_X2_weight hx hb hown hK hW hR dX2_fromNothing_109 ?_
    refine lv_i2l (v := wt.toInt64) hx hb dX2_fromNothing_112 rfl ?_
    refine lv_aload_n hx hb dX2_fromNothing_113 rfl (lv_at hl 1 rfl) ?_
    refine lv_iload_n hx hb dX2_fromNothing_114 rfl (lv_at hl 0 rfl) ?_
    refine vp_callSl (va_Run.run (va_runS (As := [.ref (ad (B + 2 + lk)), .int (nI n)]) (rest := [.long (wt.toInt64)]) ⟨hx, hb, hml, hown, hK.1.use _⟩ (c_X2_equalPairs l D cy z0 ad V (B + 2 + lk) 40 n (M lk) hTrlk (by omega) (by omega)) (k_X2_X2_equalPairs hK.1 rfl rfl ⟨Nat.le_of_ble_eq_true rfl, Nat.le_of_ble_eq_true rfl⟩) (preS hK hz hW) rfl rfl hl.1 rfl (lv_room (Nat.le_of_ble_eq_true rfl)) dX2_fromNothing_115 ⟨Nat.le_of_ble_eq_true rfl, Nat.le_of_ble_eq_true rfl⟩)) (fun r115 h115 => ?_)
    have h115 : r115 = epL (M lk) n := h115
    subst h115
    refine lv_lmul hx hb dX2_fromNothing_118 ?_
    exact rl hx hb hr hlocks dX2_fromNothing_119 (by simp [wth, hq])
  · skip
    refine asi (y := nI 4) (by rw [hq]) ?_
    refine lv_tableIn (off := 101) (tgt := 120) hx hb dX2_fromNothing_19 (by decide) (by decide) (by decide) (by decide) ?_
    refine lv_aload_n hx hb dX2_fromNothing_120 rfl (lv_at hl 2 rfl) ?_
    refine g_X2_X2_weight hx hb hown hK hW hR dX2_fromNothing_121 ?_
    refine lv_i2l (v := wt.toInt64) hx hb dX2_fromNothing_124 rfl ?_
    refine lv_aload_n hx hb dX2_fromNothing_125 rfl (lv_at hl 2 rfl) ?_
    refine lv_aload_n hx hb dX2_fromNothing_126 rfl (lv_at hl 1 rfl) ?_
    refine lv_iload_n hx hb dX2_fromNothing_127 rfl (lv_at hl 0 rfl) ?_
    refine vp_callSl (va_Run.run (va_runV (As := [.ref (ad (B + 2 + lk)), .int (nI n)]) (rest := [.long (wt.toInt64)]) ⟨hx, hb, hml, hown, hK.1.use _⟩ (c_X2_crowds l D cy z0 ad V LR kd lk bd wt lv hR (B + 2 + lk) 40 n (M lk) hTrlk (by omega) (by omega)) (k_X2_X2_crowds hK.1 rfl rfl ⟨Nat.le_of_ble_eq_true rfl, Nat.le_of_ble_eq_true rfl⟩) (preV hK hz hW hR rfl) rfl rfl hl.1 rfl (lv_room (Nat.le_of_ble_eq_true rfl)) dX2_fromNothing_128 ⟨Nat.le_of_ble_eq_true rfl, Nat.le_of_ble_eq_true rfl⟩)) (fun r128 h128 => ?_)
    have h128 : r128 = crL (M lk) (if nI 0 < bd then bd else nI 0) n n := h128
    subst h128
    refine lv_lmul hx hb dX2_fromNothing_131 ?_
    exact rl hx hb hr hlocks dX2_fromNothing_132 (by simp [wth, hq])
  · skip
    refine asi (y := nI 5) (by rw [hq]) ?_
    refine lv_tableOut (tgt := 133) hx hb dX2_fromNothing_19 (by decide) (by decide) ?_
    refine lv_aload_n hx hb dX2_fromNothing_133 rfl (lv_at hl 2 rfl) ?_
    refine g_X2_X2_weight hx hb hown hK hW hR dX2_fromNothing_134 ?_
    refine lv_i2l (v := wt.toInt64) hx hb dX2_fromNothing_137 rfl ?_
    refine lv_aload_n hx hb dX2_fromNothing_138 rfl (lv_at hl 1 rfl) ?_
    refine lv_aload_n hx hb dX2_fromNothing_139 rfl (lv_at hl 3 rfl) ?_
    refine vp_callSl (va_Run.run (va_runS (As := [.ref (ad (B + 2 + lk)), .ref (ad B)]) (rest := [.long (wt.toInt64)]) ⟨hx, hb, hml, hown, hK.1.use _⟩ (c_X2_lessThanBefore l D cy z0 ad V (B + 2 + lk) 40 (M lk) hTrlk B n M hT (by omega) (by omega) (by omega)) (k_X2_X2_lessThanBefore hK.1 rfl rfl ⟨Nat.le_of_ble_eq_true rfl, Nat.le_of_ble_eq_true rfl⟩) (preS hK hz hW) rfl rfl hl.1 rfl (lv_room (Nat.le_of_ble_eq_true rfl)) dX2_fromNothing_140 ⟨Nat.le_of_ble_eq_true rfl, Nat.le_of_ble_eq_true rfl⟩)) (fun r140 h140 => ?_)
    have h140 : r140 = lbL n (M lk) (M 2) n := h140
    subst h140
    refine lv_lmul hx hb dX2_fromNothing_143 ?_
    exact rl hx hb hr hlocks dX2_fromNothing_144 (by simp [wth, hq])

set_option maxHeartbeats 4000000 in
set_option maxRecDepth 100000 in
theorem c_X5_read (l : Launch) (D : va_G) (cy : Nat → ClassId) (z0 : Nat) (ad : Nat → Nat) (V : Nat → Option va_E) (B n : Nat) (M : Nat → Nat → Int32) (hT : isT ad V cy B n M) (hn40 : n ≤ 40) (o mm : Int32) : Met l yX5_read [Cond.code yX5_read cX5_read 3 (some .int)] { frames := 1, cells := 0, slots := 0, locals := 22 } (WP [.ref (ad B), .int (o), .int (mm)] D cy z0 ad V) (vp_Si (fun r => r = rdM n M o mm)) 0 0 (fun _ => False) := by
  refine met_of (by decide) (Nat.le_of_ble_eq_true rfl) (fun p e s m below meth c hx hb hr hml hown hlocks hnm hK hz hW ls hl => ?_)
  have hown : s.vm.findClass RX5 = some m.cls := hown
  have hl : lv_has ls 3 [(0, .ref (ad B)), (1, .int (o)), (2, .int (mm))] := hl
  obtain ⟨hT0, hT1, hTr⟩ := id hT
  refine lv_aload_n hx hb dX5_read_0 rfl (lv_at hl 0 rfl) ?_
  refine lv_iload_n hx hb dX5_read_1 rfl (lv_at hl 1 rfl) ?_
  refine vp_callSi (va_Run.run (va_runV (As := [.int (o)]) (rest := []) ⟨hx, hb, hml, hown, hK.1.use _⟩ (c_X5_has l D cy z0 ad V B n M o hT) (k_X5_X5_has hK.1 rfl rfl ⟨Nat.le_of_ble_eq_true rfl, Nat.le_of_ble_eq_true rfl⟩) (preV hK hz hW hT0 rfl) rfl rfl hl.1 rfl (lv_room (Nat.le_of_ble_eq_true rfl)) dX5_read_2 ⟨Nat.le_of_ble_eq_true rfl, Nat.le_of_ble_eq_true rfl⟩)) (fun r2 h2 => ?_)
  have h2 : r2 = b2i (hasB n o) := h2
  subst h2
  refine lv_if_eq (tgt := 28) hx hb dX5_read_5 (by decide) (fun c5 => ?_) (fun c5 => ?_)
  · skip
    have c5 := b2i_0.mp c5
    refine lv_ldc (v := -1000000) hx hb hown (hK.1.use _ _ tw_408) dX5_read_28 ?_
    exact ri hx hb hr hlocks dX5_read_30 (by first | (simp [rdM, c5]; done) | (simp [rdM, c5, c14]; done))
  · skip
    have c5 := b2i_1.mp c5
    have ho := hasB_of c5 (by omega)
    refine lv_iload_n hx hb dX5_read_8 rfl (lv_at hl 2 rfl) ?_
    refine lv_iconst (v := nI 0) hx hb dX5_read_9 (by decide) ?_
    refine lv_iconst (v := nI 3) hx hb dX5_read_10 (by decide) ?_
    refine vp_callSi (va_Run.run (va_runSN (As := [.int (mm), .int (nI 0), .int (nI 3)]) (rest := []) ⟨hx, hb, hml, hown, hK.1.use _⟩ (c_X6_within l D cy z0 ad V mm (nI 0) (nI 3)) (k_X5_X6_within hK.1 rfl rfl ⟨Nat.le_of_ble_eq_true rfl, Nat.le_of_ble_eq_true rfl⟩) (preS hK hz hW) rfl rfl hl.1 rfl (lv_room (Nat.le_of_ble_eq_true rfl)) dX5_read_11 ⟨Nat.le_of_ble_eq_true rfl, Nat.le_of_ble_eq_true rfl⟩)) (fun r11 h11 => ?_)
    have h11 : r11 = b2i (wiB mm (nI 0) (nI 3)) := h11
    subst h11
    refine lv_if_eq (tgt := 28) hx hb dX5_read_14 (by decide) (fun c14 => ?_) (fun c14 => ?_)
    · skip
      have c14 := b2i_0.mp c14
      refine lv_ldc (v := -1000000) hx hb hown (hK.1.use _ _ tw_408) dX5_read_28 ?_
      exact ri hx hb hr hlocks dX5_read_30 (by first | (simp [rdM, c5]; done) | (simp [rdM, c5, c14]; done))
    · skip
      have c14 := b2i_1.mp c14
      have hm := wiB_of (b := 3) c14 (by omega)
      have hTrm := hTr mm.toNatClampNeg (by omega)
      refine lv_aload_n hx hb dX5_read_17 rfl (lv_at hl 0 rfl) ?_
      refine g_X5_X5_rows hx hb hown hK hW hT0 dX5_read_18 ?_
      refine lv_iload_n hx hb dX5_read_21 rfl (lv_at hl 2 rfl) ?_
      refine w_aald hx hb hK hW 3 rfl rfl hT1 (j := mm.toNatClampNeg) (hm.1) (by omega) (by omega) dX5_read_22 ?_
      refine asv (y := .ref (ad (B + 2 + mm.toNatClampNeg))) (el4 (by omega)) ?_
      refine lv_iload_n hx hb dX5_read_23 rfl (lv_at hl 1 rfl) ?_
      refine w_iald hx hb hK hW hTrm (j := o.toNatClampNeg) (ho.1) (by omega) (by omega) dX5_read_24 ?_
      refine lv_goto (tgt := 30) hx hb dX5_read_25 (by decide) ?_
      exact ri hx hb hr hlocks dX5_read_30 (by first | (simp [rdM, c5]; done) | (simp [rdM, c5, c14]; done))

set_option maxHeartbeats 4000000 in
set_option maxRecDepth 100000 in
theorem c_X5_leads (l : Launch) (D : va_G) (cy : Nat → ClassId) (z0 : Nat) (ad : Nat → Nat) (V : Nat → Option va_E) (B n : Nat) (M : Nat → Nat → Int32) (hT : isT ad V cy B n M) (hn40 : n ≤ 40) (x0 t : Int32) : Met l yX5_leads [Cond.code yX5_leads cX5_leads 5 (some .boolean)] { frames := 1, cells := 0, slots := 0, locals := 21 } (WP [.ref (ad B), .int (x0), .int (t)] D cy z0 ad V) (vp_Si (fun r => r = b2i (ldB n (M 2) n x0 t))) 0 0 (fun _ => False) := by
  refine met_of (by decide) (Nat.le_of_ble_eq_true rfl) (fun p e s m below meth c hx hb hr hml hown hlocks hnm hK hz hW ls hl => ?_)
  have hown : s.vm.findClass RX5 = some m.cls := hown
  have hl : lv_has ls 5 [(0, .ref (ad B)), (1, .int (x0)), (2, .int (t))] := hl
  obtain ⟨hT0, hT1, hTr⟩ := id hT
  have hTr2 := hTr 2 (by omega)
  refine lv_iload_n hx hb dX5_leads_0 rfl (lv_at hl 1 rfl) ?_
  refine lv_istore_n (lv' := [(3, .int (x0)), (0, .ref (ad B)), (1, .int (x0)), (2, .int (t))]) hx hb dX5_leads_1 rfl hl (by decide) rfl (fun ls hl => ?_)
  refine lv_iconst (v := nI 0) hx hb dX5_leads_2 (by decide) ?_
  refine lv_istore (lv' := [(4, .int (nI 0)), (3, .int (x0)), (0, .ref (ad B)), (1, .int (x0)), (2, .int (t))]) hx hb dX5_leads_3 hl (by decide) rfl (fun ls hl => ?_)
  refine wl (ι := Nat × Int32) (fun q => n - q.1) (fun q g => (q.1 ≤ n ∧ ldB n (M 2) n x0 t = ldB n (M 2) (n - q.1) q.2 t) ∧ ∃ ls, g = F0 m 5 ls [] ∧ lv_has ls 5 [(0, .ref (ad B)), (2, .int (t)), (3, .int (q.2)), (4, .int (nI q.1))]) ?_ ((0, x0)) _ ⟨⟨Nat.zero_le _, rfl⟩, ls, rfl, lv_sub hl [2, 4, 1, 0] rfl⟩
  intro ⟨k, x⟩ g hg ih
  obtain ⟨⟨hi, he⟩, ls, rfl, hl⟩ := hg
  have hi : k ≤ n := hi
  have he : ldB n (M 2) n x0 t = ldB n (M 2) (n - k) x t := he
  have hl : lv_has ls 5 [(0, .ref (ad B)), (2, .int (t)), (3, .int (x)), (4, .int (nI k))] := hl
  refine lv_iload hx hb dX5_leads_5 (lv_at hl 3 rfl) ?_
  refine lv_aload_n hx hb dX5_leads_7 rfl (lv_at hl 0 rfl) ?_
  refine g_X5_X5_objects hx hb hown hK hW hT0 dX5_leads_8 ?_
  refine lv_icmp_ge (tgt := 44) hx hb dX5_leads_11 (by decide) (fun c11 => ?_) (fun c11 => ?_)
  · skip
    have c11 := nI_le' c11 (by omega) (by omega)
    refine lv_iconst (v := nI 0) hx hb dX5_leads_44 (by decide) ?_
    exact rz hx hb hr hlocks dX5_leads_45 (by first | exact b2i_n | rfl | decide) (by first | (rw [he, show n - k = 0 by omega]; rfl) | (rw [he, hu]; simp [c19, b2i, nI]))
  · skip
    have c11 := nI_nle' c11 (by omega) (by omega)
    have hu : ldB n (M 2) (n - k) x t = (hasB n x && (decide (x = t) || ldB n (M 2) (n - (k + 1)) (M 2 x.toNatClampNeg) t)) := by rw [show n - k = (n - (k + 1)) + 1 by omega]; rfl
    refine lv_aload_n hx hb dX5_leads_14 rfl (lv_at hl 0 rfl) ?_
    refine lv_iload_n hx hb dX5_leads_15 rfl (lv_at hl 2 rfl) ?_
    refine vp_callSi (va_Run.run (va_runV (As := [.int (x)]) (rest := []) ⟨hx, hb, hml, hown, hK.1.use _⟩ (c_X5_has l D cy z0 ad V B n M x hT) (k_X5_X5_has hK.1 rfl rfl ⟨Nat.le_of_ble_eq_true rfl, Nat.le_of_ble_eq_true rfl⟩) (preV hK hz hW hT0 rfl) rfl rfl hl.1 rfl (lv_room (Nat.le_of_ble_eq_true rfl)) dX5_leads_16 ⟨Nat.le_of_ble_eq_true rfl, Nat.le_of_ble_eq_true rfl⟩)) (fun r16 h16 => ?_)
    have h16 : r16 = b2i (hasB n x) := h16
    subst h16
    refine lv_if_eq (tgt := 44) hx hb dX5_leads_19 (by decide) (fun c19 => ?_) (fun c19 => ?_)
    · skip
      have c19 := b2i_0.mp c19
      refine lv_iconst (v := nI 0) hx hb dX5_leads_44 (by decide) ?_
      exact rz hx hb hr hlocks dX5_leads_45 (by first | exact b2i_n | rfl | decide) (by first | (rw [he, show n - k = 0 by omega]; rfl) | (rw [he, hu]; simp [c19, b2i, nI]))
    · skip
      have c19 := b2i_1.mp c19
      have hb9 := hasB_of c19 (by omega)
      refine lv_iload_n hx hb dX5_leads_22 rfl (lv_at hl 2 rfl) ?_
      refine lv_iload_n hx hb dX5_leads_23 rfl (lv_at hl 1 rfl) ?_
      refine lv_icmp_ne (tgt := 29) hx hb dX5_leads_24 (by decide) (fun c24 => ?_) (fun c24 => ?_)
      · skip
        refine lv_aload_n hx hb dX5_leads_29 rfl (lv_at hl 0 rfl) ?_
        refine g_X5_X5_rows hx hb hown hK hW hT0 dX5_leads_30 ?_
        refine lv_iconst (v := nI 2) hx hb dX5_leads_33 (by decide) ?_
        refine w_aald hx hb hK hW 3 rfl rfl hT1 (j := 2) (rfl) (by omega) (by omega) dX5_leads_34 ?_
        refine asv (y := .ref (ad (B + 2 + 2))) (el4 (by omega)) ?_
        refine lv_iload_n hx hb dX5_leads_35 rfl (lv_at hl 2 rfl) ?_
        refine w_iald hx hb hK hW hTr2 (j := x.toNatClampNeg) (hb9.1) (by omega) (by omega) dX5_leads_36 ?_
        refine lv_istore_n (lv' := [(3, .int ((M 2) x.toNatClampNeg)), (0, .ref (ad B)), (2, .int (t)), (4, .int (nI k))]) hx hb dX5_leads_37 rfl hl (by decide) rfl (fun ls hl => ?_)
        refine lv_iinc (v := nI (k + 1)) (lv' := [(4, .int (nI (k + 1))), (3, .int ((M 2) x.toNatClampNeg)), (0, .ref (ad B)), (2, .int (t))]) hx hb dX5_leads_38 hl (k := 3) rfl (by rw [show Int32.ofInt 1 = nI 1 from by decide]; exact nI_add _ _) (by decide) rfl (fun ls hl => ?_)
        refine lv_goto (tgt := 5) hx hb dX5_leads_41 (by decide) ?_
        exact ih ((k + 1, M 2 x.toNatClampNeg)) _ ⟨⟨by show k + 1 ≤ n; omega, by show _ = ldB n (M 2) (n - (k + 1)) (M 2 x.toNatClampNeg) t; rw [he, hu]; simp [c19, c24]⟩, ls, rfl, lv_sub hl [2, 3, 1, 0] rfl⟩ (by show n - (k + 1) < n - k; omega)
      · skip
        refine lv_iconst (v := nI 1) hx hb dX5_leads_27 (by decide) ?_
        exact rz hx hb hr hlocks dX5_leads_28 (by first | exact b2i_n | rfl | decide) (by rw [he, hu, c19]; simp [c24, b2i, nI])

set_option maxHeartbeats 4000000 in
set_option maxRecDepth 100000 in
theorem c_X5_takes (l : Launch) (D : va_G) (cy : Nat → ClassId) (z0 : Nat) (ad : Nat → Nat) (V : Nat → Option va_E) (B n : Nat) (M : Nat → Nat → Int32) (hT : isT ad V cy B n M) (hn40 : n ≤ 40) (o mm v : Int32) : Met l yX5_takes [Cond.code yX5_takes cX5_takes 4 (some .boolean)] { frames := 2, cells := 0, slots := 0, locals := 45 } (WP [.ref (ad B), .int (o), .int (mm), .int (v)] D cy z0 ad V) (vp_Si (fun r => r = b2i (tkB n (M 2) o mm v))) 0 0 (fun _ => False) := by
  refine met_of (by decide) (Nat.le_of_ble_eq_true rfl) (fun p e s m below meth c hx hb hr hml hown hlocks hnm hK hz hW ls hl => ?_)
  have hown : s.vm.findClass RX5 = some m.cls := hown
  have hl : lv_has ls 4 [(0, .ref (ad B)), (1, .int (o)), (2, .int (mm)), (3, .int (v))] := hl
  obtain ⟨hT0, hT1, hTr⟩ := id hT
  refine lv_aload_n hx hb dX5_takes_0 rfl (lv_at hl 0 rfl) ?_
  refine lv_iload_n hx hb dX5_takes_1 rfl (lv_at hl 1 rfl) ?_
  refine vp_callSi (va_Run.run (va_runV (As := [.int (o)]) (rest := []) ⟨hx, hb, hml, hown, hK.1.use _⟩ (c_X5_has l D cy z0 ad V B n M o hT) (k_X5_X5_has hK.1 rfl rfl ⟨Nat.le_of_ble_eq_true rfl, Nat.le_of_ble_eq_true rfl⟩) (preV hK hz hW hT0 rfl) rfl rfl hl.1 rfl (lv_room (Nat.le_of_ble_eq_true rfl)) dX5_takes_2 ⟨Nat.le_of_ble_eq_true rfl, Nat.le_of_ble_eq_true rfl⟩)) (fun r2 h2 => ?_)
  have h2 : r2 = b2i (hasB n o) := h2
  subst h2
  refine lv_if_ne (tgt := 10) hx hb dX5_takes_5 (by decide) (fun c5 => ?_) (fun c5 => ?_)
  · skip
    have c5 := b2i_1.mp c5
    refine lv_iload_n hx hb dX5_takes_10 rfl (lv_at hl 2 rfl) ?_
    by_cases hq0 : mm = nI 0
    · skip
      refine asi (y := nI 0) (by rw [hq0]) ?_
      refine lv_tableIn (off := 25) (tgt := 36) hx hb dX5_takes_11 (by decide) (by decide) (by decide) (by decide) ?_
      refine lv_iload_n hx hb dX5_takes_36 rfl (lv_at hl 3 rfl) ?_
      refine lv_sipush (v := -1000) hx hb dX5_takes_37 (by decide) ?_
      refine lv_sipush (v := nI 1000) hx hb dX5_takes_40 (by decide) ?_
      refine vp_callSi (va_Run.run (va_runSN (As := [.int (v), .int (-1000), .int (nI 1000)]) (rest := []) ⟨hx, hb, hml, hown, hK.1.use _⟩ (c_X6_within l D cy z0 ad V v (-1000) (nI 1000)) (k_X5_X6_within hK.1 rfl rfl ⟨Nat.le_of_ble_eq_true rfl, Nat.le_of_ble_eq_true rfl⟩) (preS hK hz hW) rfl rfl hl.1 rfl (lv_room (Nat.le_of_ble_eq_true rfl)) dX5_takes_43 ⟨Nat.le_of_ble_eq_true rfl, Nat.le_of_ble_eq_true rfl⟩)) (fun r43 h43 => ?_)
      have h43 : r43 = b2i (wiB v (-1000) (nI 1000)) := h43
      subst h43
      exact rz hx hb hr hlocks dX5_takes_46 (by first | exact b2i_n | rfl | decide) (by simp [tkB, c5, hq0])
    · skip
      by_cases hq1 : mm = nI 1
      · skip
        refine asi (y := nI 1) (by rw [hq1]) ?_
        refine lv_tableIn (off := 36) (tgt := 47) hx hb dX5_takes_11 (by decide) (by decide) (by decide) (by decide) ?_
        refine lv_iload_n hx hb dX5_takes_47 rfl (lv_at hl 3 rfl) ?_
        refine lv_iconst (v := nI 0) hx hb dX5_takes_48 (by decide) ?_
        refine lv_bipush (v := nI 20) hx hb dX5_takes_49 (by decide) ?_
        refine vp_callSi (va_Run.run (va_runSN (As := [.int (v), .int (nI 0), .int (nI 20)]) (rest := []) ⟨hx, hb, hml, hown, hK.1.use _⟩ (c_X6_within l D cy z0 ad V v (nI 0) (nI 20)) (k_X5_X6_within hK.1 rfl rfl ⟨Nat.le_of_ble_eq_true rfl, Nat.le_of_ble_eq_true rfl⟩) (preS hK hz hW) rfl rfl hl.1 rfl (lv_room (Nat.le_of_ble_eq_true rfl)) dX5_takes_51 ⟨Nat.le_of_ble_eq_true rfl, Nat.le_of_ble_eq_true rfl⟩)) (fun r51 h51 => ?_)
        have h51 : r51 = b2i (wiB v (nI 0) (nI 20)) := h51
        subst h51
        exact rz hx hb hr hlocks dX5_takes_54 (by first | exact b2i_n | rfl | decide) (by simp [tkB, c5, hq1, show ¬ nI 1 = nI 0 from by decide])
      · skip
        by_cases hq2 : mm = nI 2
        · skip
          refine asi (y := nI 2) (by rw [hq2]) ?_
          refine lv_tableIn (off := 44) (tgt := 55) hx hb dX5_takes_11 (by decide) (by decide) (by decide) (by decide) ?_
          refine lv_iload_n hx hb dX5_takes_55 rfl (lv_at hl 3 rfl) ?_
          refine lv_iconst (v := -1) hx hb dX5_takes_56 (by decide) ?_
          refine lv_icmp_eq (tgt := 77) hx hb dX5_takes_57 (by decide) (fun c57 => ?_) (fun c57 => ?_)
          · skip
            refine lv_iconst (v := nI 1) hx hb dX5_takes_77 (by decide) ?_
            refine lv_goto (tgt := 82) hx hb dX5_takes_78 (by decide) ?_
            exact rz hx hb hr hlocks dX5_takes_82 (by first | exact b2i_n | rfl | decide) (by first | (simp [tkB, c5, hq2, show ¬ nI 2 = nI 0 from by decide, show ¬ nI 2 = nI 1 from by decide, c57, b2i, nI]; done) | (simp [tkB, c5, hq2, show ¬ nI 2 = nI 0 from by decide, show ¬ nI 2 = nI 1 from by decide, c57, c65, b2i, nI]; done) | (simp [tkB, c5, hq2, show ¬ nI 2 = nI 0 from by decide, show ¬ nI 2 = nI 1 from by decide, c57, c65, c74, b2i, nI]; done))
          · skip
            refine lv_aload_n hx hb dX5_takes_60 rfl (lv_at hl 0 rfl) ?_
            refine lv_iload_n hx hb dX5_takes_61 rfl (lv_at hl 3 rfl) ?_
            refine vp_callSi (va_Run.run (va_runV (As := [.int (v)]) (rest := []) ⟨hx, hb, hml, hown, hK.1.use _⟩ (c_X5_has l D cy z0 ad V B n M v hT) (k_X5_X5_has hK.1 rfl rfl ⟨Nat.le_of_ble_eq_true rfl, Nat.le_of_ble_eq_true rfl⟩) (preV hK hz hW hT0 rfl) rfl rfl hl.1 rfl (lv_room (Nat.le_of_ble_eq_true rfl)) dX5_takes_62 ⟨Nat.le_of_ble_eq_true rfl, Nat.le_of_ble_eq_true rfl⟩)) (fun r62 h62 => ?_)
            have h62 : r62 = b2i (hasB n v) := h62
            subst h62
            refine lv_if_eq (tgt := 81) hx hb dX5_takes_65 (by decide) (fun c65 => ?_) (fun c65 => ?_)
            · skip
              have c65 := b2i_0.mp c65
              refine lv_iconst (v := nI 0) hx hb dX5_takes_81 (by decide) ?_
              exact rz hx hb hr hlocks dX5_takes_82 (by first | exact b2i_n | rfl | decide) (by first | (simp [tkB, c5, hq2, show ¬ nI 2 = nI 0 from by decide, show ¬ nI 2 = nI 1 from by decide, c57, b2i, nI]; done) | (simp [tkB, c5, hq2, show ¬ nI 2 = nI 0 from by decide, show ¬ nI 2 = nI 1 from by decide, c57, c65, b2i, nI]; done) | (simp [tkB, c5, hq2, show ¬ nI 2 = nI 0 from by decide, show ¬ nI 2 = nI 1 from by decide, c57, c65, c74, b2i, nI]; done))
            · skip
              have c65 := b2i_1.mp c65
              refine lv_aload_n hx hb dX5_takes_68 rfl (lv_at hl 0 rfl) ?_
              refine lv_iload_n hx hb dX5_takes_69 rfl (lv_at hl 3 rfl) ?_
              refine lv_iload_n hx hb dX5_takes_70 rfl (lv_at hl 1 rfl) ?_
              refine vp_callSi (va_Run.run (va_runV (As := [.int (v), .int (o)]) (rest := []) ⟨hx, hb, hml, hown, hK.1.use _⟩ (c_X5_leads l D cy z0 ad V B n M hT hn40 v o) (k_X5_X5_leads hK.1 rfl rfl ⟨Nat.le_of_ble_eq_true rfl, Nat.le_of_ble_eq_true rfl⟩) (preV hK hz hW hT0 rfl) rfl rfl hl.1 rfl (lv_room (Nat.le_of_ble_eq_true rfl)) dX5_takes_71 ⟨Nat.le_of_ble_eq_true rfl, Nat.le_of_ble_eq_true rfl⟩)) (fun r71 h71 => ?_)
              have h71 : r71 = b2i (ldB n (M 2) n v o) := h71
              subst h71
              refine lv_if_ne (tgt := 81) hx hb dX5_takes_74 (by decide) (fun c74 => ?_) (fun c74 => ?_)
              · skip
                have c74 := b2i_1.mp c74
                refine lv_iconst (v := nI 0) hx hb dX5_takes_81 (by decide) ?_
                exact rz hx hb hr hlocks dX5_takes_82 (by first | exact b2i_n | rfl | decide) (by first | (simp [tkB, c5, hq2, show ¬ nI 2 = nI 0 from by decide, show ¬ nI 2 = nI 1 from by decide, c57, b2i, nI]; done) | (simp [tkB, c5, hq2, show ¬ nI 2 = nI 0 from by decide, show ¬ nI 2 = nI 1 from by decide, c57, c65, b2i, nI]; done) | (simp [tkB, c5, hq2, show ¬ nI 2 = nI 0 from by decide, show ¬ nI 2 = nI 1 from by decide, c57, c65, c74, b2i, nI]; done))
              · skip
                have c74 := b2i_0.mp c74
                refine lv_iconst (v := nI 1) hx hb dX5_takes_77 (by decide) ?_
                refine lv_goto (tgt := 82) hx hb dX5_takes_78 (by decide) ?_
                exact rz hx hb hr hlocks dX5_takes_82 (by first | exact b2i_n | rfl | decide) (by first | (simp [tkB, c5, hq2, show ¬ nI 2 = nI 0 from by decide, show ¬ nI 2 = nI 1 from by decide, c57, b2i, nI]; done) | (simp [tkB, c5, hq2, show ¬ nI 2 = nI 0 from by decide, show ¬ nI 2 = nI 1 from by decide, c57, c65, b2i, nI]; done) | (simp [tkB, c5, hq2, show ¬ nI 2 = nI 0 from by decide, show ¬ nI 2 = nI 1 from by decide, c57, c65, c74, b2i, nI]; done))
        · skip
          refine lv_tableOut (tgt := 83) hx hb dX5_takes_11 (swO 2 (fun k hk => by have hk3 : k = 0 ∨ k = 1 ∨ k = 2 := (by omega); rcases hk3 with rfl | rfl | rfl <;> assumption)) (by decide) ?_
          refine lv_iconst (v := nI 0) hx hb dX5_takes_83 (by decide) ?_
          exact rz hx hb hr hlocks dX5_takes_84 (by first | exact b2i_n | rfl | decide) (by rw [show tkB n (M 2) o mm v = false from by simp [tkB, hq0, hq1, hq2]]; rfl)
  · skip
    have c5 := b2i_0.mp c5
    refine lv_iconst (v := nI 0) hx hb dX5_takes_8 (by decide) ?_
    exact rz hx hb hr hlocks dX5_takes_9 (by first | exact b2i_n | rfl | decide) (by simp [tkB, c5, b2i, nI])

set_option maxHeartbeats 4000000 in
set_option maxRecDepth 100000 in
theorem c_X5_countOther (l : Launch) (D : va_G) (cy : Nat → ClassId) (z0 : Nat) (ad : Nat → Nat) (V : Nat → Option va_E) (B n : Nat) (M : Nat → Nat → Int32) (hT : isT ad V cy B n M) (B2 n2 : Nat) (M2 : Nat → Nat → Int32) (hU : isT ad V cy B2 n2 M2) (hn40 : n ≤ 40) : Met l yX5_countOther [Cond.code yX5_countOther cX5_countOther 5 (some .int)] { frames := 1, cells := 0, slots := 0, locals := 20 } (WP [.ref (ad B), .ref (ad B2)] D cy z0 ad V) (vp_Si (fun r => r = nI (coT n M M2 4))) 0 0 (fun _ => False) := by
  refine met_of (by decide) (Nat.le_of_ble_eq_true rfl) (fun p e s m below meth c hx hb hr hml hown hlocks hnm hK hz hW ls hl => ?_)
  have hown : s.vm.findClass RX5 = some m.cls := hown
  have hl : lv_has ls 5 [(0, .ref (ad B)), (1, .ref (ad B2))] := hl
  obtain ⟨hT0, hT1, hTr⟩ := id hT
  obtain ⟨hU0, hU1, hUr⟩ := id hU
  refine lv_iconst (v := nI 0) hx hb dX5_countOther_0 (by decide) ?_
  refine lv_istore_n (lv' := [(2, .int (nI 0)), (0, .ref (ad B)), (1, .ref (ad B2))]) hx hb dX5_countOther_1 rfl hl (by decide) rfl (fun ls hl => ?_)
  refine lv_iconst (v := nI 0) hx hb dX5_countOther_2 (by decide) ?_
  refine lv_istore_n (lv' := [(3, .int (nI 0)), (2, .int (nI 0)), (0, .ref (ad B)), (1, .ref (ad B2))]) hx hb dX5_countOther_3 rfl hl (by decide) rfl (fun ls hl => ?_)
  refine wl (ι := Nat) (fun k => 4 - k) (fun k g => (k ≤ 4) ∧ ∃ ls, g = F0 m 4 ls [] ∧ lv_has ls 5 [(0, .ref (ad B)), (1, .ref (ad B2)), (2, .int (nI (coT n M M2 k))), (3, .int (nI k))]) ?_ (0) _ ⟨Nat.zero_le _, ls, rfl, lv_sub hl [2, 3, 1, 0] rfl⟩
  intro k g hg ih
  obtain ⟨hk, ls, rfl, hl⟩ := hg
  have ihA := ih
  refine lv_iload_n hx hb dX5_countOther_4 rfl (lv_at hl 3 rfl) ?_
  refine lv_iconst (v := nI 4) hx hb dX5_countOther_5 (by decide) ?_
  refine lv_icmp_ge (tgt := 65) hx hb dX5_countOther_6 (by decide) (fun c6 => ?_) (fun c6 => ?_)
  · skip
    have c6 := nI_le' c6 (by omega) (by omega)
    refine lv_iload_n hx hb dX5_countOther_65 rfl (lv_at hl 2 rfl) ?_
    exact ri hx hb hr hlocks dX5_countOther_66 (by have e9 : k = 4 := (by omega); rw [e9])
  · skip
    have c6 := nI_nle' c6 (by omega) (by omega)
    have hTrk := hTr k (by omega)
    have hUrk := hUr k (by omega)
    refine lv_iconst (v := nI 0) hx hb dX5_countOther_9 (by decide) ?_
    refine lv_istore (lv' := [(4, .int (nI 0)), (0, .ref (ad B)), (1, .ref (ad B2)), (2, .int (nI (coT n M M2 k))), (3, .int (nI k))]) hx hb dX5_countOther_10 hl (by decide) rfl (fun ls hl => ?_)
    refine wl (ι := Nat) (fun i => n - i) (fun i g => (i ≤ n) ∧ ∃ ls, g = F0 m 12 ls [] ∧ lv_has ls 5 [(0, .ref (ad B)), (1, .ref (ad B2)), (2, .int (nI (coT n M M2 k + rdT (M k) (M2 k) i))), (3, .int (nI k)), (4, .int (nI i))]) ?_ (0) _ ⟨Nat.zero_le _, ls, rfl, lv_sub hl [1, 2, 3, 4, 0] rfl⟩
    intro i g hg ih
    obtain ⟨hi, ls, rfl, hl⟩ := hg
    refine lv_iload hx hb dX5_countOther_12 (lv_at hl 4 rfl) ?_
    refine lv_aload_n hx hb dX5_countOther_14 rfl (lv_at hl 0 rfl) ?_
    refine g_X5_X5_objects hx hb hown hK hW hT0 dX5_countOther_15 ?_
    refine lv_icmp_ge (tgt := 59) hx hb dX5_countOther_18 (by decide) (fun c18 => ?_) (fun c18 => ?_)
    · skip
      have c18 := nI_le' c18 (by omega) (by omega)
      have hq59_2 : (nI (coT n M M2 k + rdT (M k) (M2 k) i)) = (nI (coT n M M2 (k + 1))) := by have e9 : i = n := (by omega); rw [e9]; rfl
      rw [hq59_2] at hl
      refine lv_iinc (v := nI (k + 1)) (lv' := [(3, .int (nI (k + 1))), (0, .ref (ad B)), (1, .ref (ad B2)), (2, .int (nI (coT n M M2 (k + 1)))), (4, .int (nI i))]) hx hb dX5_countOther_59 hl (k := 3) rfl (by rw [show Int32.ofInt 1 = nI 1 from by decide]; exact nI_add _ _) (by decide) rfl (fun ls hl => ?_)
      refine lv_goto (tgt := 4) hx hb dX5_countOther_62 (by decide) ?_
      exact ihA (k + 1) _ ⟨by omega, ls, rfl, lv_sub hl [1, 2, 3, 0] rfl⟩ (by omega)
    · skip
      have c18 := nI_nle' c18 (by omega) (by omega)
      refine lv_iload_n hx hb dX5_countOther_21 rfl (lv_at hl 2 rfl) ?_
      refine jl (pcj := 48) (st := [.int (b2i (decide (¬ M k i = M2 k i))), .int (nI (coT n M M2 k + rdT (M k) (M2 k) i))]) (nL := 5) (lv := [(0, .ref (ad B)), (1, .ref (ad B2)), (2, .int (nI (coT n M M2 k + rdT (M k) (M2 k) i))), (3, .int (nI k)), (4, .int (nI i))]) (fun K => ?_) (fun ls hl => ?_)
      · skip
        refine lv_aload_n hx hb dX5_countOther_22 rfl (lv_at hl 0 rfl) ?_
        refine g_X5_X5_rows hx hb hown hK hW hT0 dX5_countOther_23 ?_
        refine lv_iload_n hx hb dX5_countOther_26 rfl (lv_at hl 3 rfl) ?_
        refine w_aald hx hb hK hW 3 rfl rfl hT1 (j := k) (rfl) (by omega) (by omega) dX5_countOther_27 ?_
        refine asv (y := .ref (ad (B + 2 + k))) (el4 (by omega)) ?_
        refine lv_iload hx hb dX5_countOther_28 (lv_at hl 4 rfl) ?_
        refine w_iald hx hb hK hW hTrk (j := i) (rfl) (by omega) (by omega) dX5_countOther_30 ?_
        refine lv_aload_n hx hb dX5_countOther_31 rfl (lv_at hl 1 rfl) ?_
        refine g_X5_X5_rows hx hb hown hK hW hU0 dX5_countOther_32 ?_
        refine lv_iload_n hx hb dX5_countOther_35 rfl (lv_at hl 3 rfl) ?_
        refine w_aald hx hb hK hW 3 rfl rfl hU1 (j := k) (rfl) (by omega) (by omega) dX5_countOther_36 ?_
        refine asv (y := .ref (ad (B2 + 2 + k))) (el4 (by omega)) ?_
        refine lv_iload hx hb dX5_countOther_37 (lv_at hl 4 rfl) ?_
        refine w_iald hx hb hK hW hUrk (j := i) (rfl) (by omega) (by omega) dX5_countOther_39 ?_
        refine lv_icmp_eq (tgt := 47) hx hb dX5_countOther_40 (by decide) (fun c40 => ?_) (fun c40 => ?_)
        · skip
          refine lv_iconst (v := nI 0) hx hb dX5_countOther_47 (by decide) ?_
          refine asi (y := b2i (decide (¬ M k i = M2 k i))) (by simp [b2i, nI, c40]) ?_
          exact K ls (lv_sub hl [0, 1, 2, 3, 4] rfl)
        · skip
          refine lv_iconst (v := nI 1) hx hb dX5_countOther_43 (by decide) ?_
          refine lv_goto (tgt := 48) hx hb dX5_countOther_44 (by decide) ?_
          refine asi (y := b2i (decide (¬ M k i = M2 k i))) (by simp [b2i, nI, c40]) ?_
          exact K ls (lv_sub hl [0, 1, 2, 3, 4] rfl)
      · skip
        refine vp_callSi (va_Run.run (va_runSN (As := [.int (b2i (decide (¬ M k i = M2 k i)))]) (rest := [.int (nI (coT n M M2 k + rdT (M k) (M2 k) i))]) ⟨hx, hb, hml, hown, hK.1.use _⟩ (c_X6_oneIf l D cy z0 ad V (decide (¬ M k i = M2 k i))) (k_X5_X6_oneIf hK.1 rfl rfl ⟨Nat.le_of_ble_eq_true rfl, Nat.le_of_ble_eq_true rfl⟩) (preS hK hz hW) rfl rfl hl.1 rfl (lv_room (Nat.le_of_ble_eq_true rfl)) dX5_countOther_48 ⟨Nat.le_of_ble_eq_true rfl, Nat.le_of_ble_eq_true rfl⟩)) (fun r48 h48 => ?_)
        have h48 : r48 = b2i (decide (¬ M k i = M2 k i)) := h48
        subst h48
        refine lv_iadd hx hb dX5_countOther_51 ?_
        refine asi (y := nI (coT n M M2 k + rdT (M k) (M2 k) (i + 1))) (by simp only [rdT]; rw [← Nat.add_assoc, ← nI_add]; congr 1; by_cases h1 : M k i = M2 k i <;> simp [h1, b2i, nI]) ?_
        refine lv_istore_n (lv' := [(2, .int (nI (coT n M M2 k + rdT (M k) (M2 k) (i + 1)))), (0, .ref (ad B)), (1, .ref (ad B2)), (3, .int (nI k)), (4, .int (nI i))]) hx hb dX5_countOther_52 rfl hl (by decide) rfl (fun ls hl => ?_)
        refine lv_iinc (v := nI (i + 1)) (lv' := [(4, .int (nI (i + 1))), (2, .int (nI (coT n M M2 k + rdT (M k) (M2 k) (i + 1)))), (0, .ref (ad B)), (1, .ref (ad B2)), (3, .int (nI k))]) hx hb dX5_countOther_53 hl (k := 4) rfl (by rw [show Int32.ofInt 1 = nI 1 from by decide]; exact nI_add _ _) (by decide) rfl (fun ls hl => ?_)
        refine lv_goto (tgt := 12) hx hb dX5_countOther_56 (by decide) ?_
        exact ih (i + 1) _ ⟨by omega, ls, rfl, lv_sub hl [2, 3, 1, 4, 0] rfl⟩ (by omega)
