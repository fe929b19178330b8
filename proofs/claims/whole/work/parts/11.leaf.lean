-- within: between two bounds
set_option maxHeartbeats 4000000 in
set_option maxRecDepth 100000 in
theorem c_X6_within (l : Launch) (D : va_G) (cy : Nat → ClassId) (z0 : Nat) (ad : Nat → Nat) (V : Nat → Option va_E) (x a b : Int32) : Met l yX6_within [Cond.code yX6_within cX6_within 3 (some .boolean)] { frames := 0, cells := 0, slots := 0, locals := 0 } (WP [.int (x), .int (a), .int (b)] D cy z0 ad V) (vp_Si (fun r => r = b2i (wiB x a b))) 0 0 (fun _ => False) := by
  refine met_of (by decide) (Nat.le_of_ble_eq_true rfl) (fun p e s m below meth c hx hb hr hml hown hlocks hnm hK hz hW ls hl => ?_)
  have hown : s.vm.findClass RX6 = some m.cls := hown
  have hl : lv_has ls 3 [(0, .int (x)), (1, .int (a)), (2, .int (b))] := hl
  refine lv_iload_n hx hb dX6_within_0 rfl (lv_at hl 0 rfl) ?_
  refine lv_iload_n hx hb dX6_within_1 rfl (lv_at hl 1 rfl) ?_
  refine lv_icmp_lt (tgt := 14) hx hb dX6_within_2 (by decide) (fun c2 => ?_) (fun c2 => ?_)
  · skip
    refine lv_iconst (v := nI 0) hx hb dX6_within_14 (by decide) ?_
    exact rz hx hb hr hlocks dX6_within_15 (by first | exact b2i_n | rfl | decide) (by simp_all [b2i, nI, wiB, Int32.not_lt, ← Int32.not_le])
  · skip
    refine lv_iload_n hx hb dX6_within_5 rfl (lv_at hl 0 rfl) ?_
    refine lv_iload_n hx hb dX6_within_6 rfl (lv_at hl 2 rfl) ?_
    refine lv_icmp_gt (tgt := 14) hx hb dX6_within_7 (by decide) (fun c7 => ?_) (fun c7 => ?_)
    · skip
      refine lv_iconst (v := nI 0) hx hb dX6_within_14 (by decide) ?_
      exact rz hx hb hr hlocks dX6_within_15 (by first | exact b2i_n | rfl | decide) (by simp_all [b2i, nI, wiB, Int32.not_lt, ← Int32.not_le])
    · skip
      refine lv_iconst (v := nI 1) hx hb dX6_within_10 (by decide) ?_
      refine lv_goto (tgt := 15) hx hb dX6_within_11 (by decide) ?_
      exact rz hx hb hr hlocks dX6_within_15 (by first | exact b2i_n | rfl | decide) (by simp_all [b2i, nI, wiB, Int32.not_lt, ← Int32.not_le])

-- oneIf: the truth value itself
set_option maxHeartbeats 4000000 in
set_option maxRecDepth 100000 in
theorem c_X6_oneIf (l : Launch) (D : va_G) (cy : Nat → ClassId) (z0 : Nat) (ad : Nat → Nat) (V : Nat → Option va_E) (b : Bool) : Met l yX6_oneIf [Cond.code yX6_oneIf cX6_oneIf 1 (some .int)] { frames := 0, cells := 0, slots := 0, locals := 0 } (WP [.int (b2i b)] D cy z0 ad V) (vp_Si (fun r => r = b2i b)) 0 0 (fun _ => False) := by
  refine met_of (by decide) (Nat.le_of_ble_eq_true rfl) (fun p e s m below meth c hx hb hr hml hown hlocks hnm hK hz hW ls hl => ?_)
  have hown : s.vm.findClass RX6 = some m.cls := hown
  have hl : lv_has ls 1 [(0, .int (b2i b))] := hl
  refine lv_iload_n hx hb dX6_oneIf_0 rfl (lv_at hl 0 rfl) ?_
  refine lv_if_eq (tgt := 8) hx hb dX6_oneIf_1 (by decide) (fun c1 => ?_) (fun c1 => ?_)
  · skip
    have c1 := b2i_0.mp c1
    refine lv_iconst (v := nI 0) hx hb dX6_oneIf_8 (by decide) ?_
    exact ri hx hb hr hlocks dX6_oneIf_9 (by simp_all [b2i, nI])
  · skip
    have c1 := b2i_1.mp c1
    refine lv_iconst (v := nI 1) hx hb dX6_oneIf_4 (by decide) ?_
    refine lv_goto (tgt := 9) hx hb dX6_oneIf_5 (by decide) ?_
    exact ri hx hb hr hlocks dX6_oneIf_9 (by simp_all [b2i, nI])

-- sum of the first n
set_option maxHeartbeats 4000000 in
set_option maxRecDepth 100000 in
theorem c_X2_sum (l : Launch) (D : va_G) (cy : Nat → ClassId) (z0 : Nat) (ad : Nat → Nat) (V : Nat → Option va_E) (L N n : Nat) (f : Nat → Int32) (hV : V L = some (.inl (cy 0, N, .inl f))) (hn : n ≤ N) (hN : N < 2147483648) : Met l yX2_sum [Cond.code yX2_sum cX2_sum 5 (some .long)] { frames := 0, cells := 0, slots := 0, locals := 0 } (WP [.ref (ad L), .int (nI n)] D cy z0 ad V) (vp_Sl (fun r => r = sumL f n)) 0 0 (fun _ => False) := by
  refine met_of (by decide) (Nat.le_of_ble_eq_true rfl) (fun p e s m below meth c hx hb hr hml hown hlocks hnm hK hz hW ls hl => ?_)
  have hown : s.vm.findClass RX2 = some m.cls := hown
  have hl : lv_has ls 5 [(0, .ref (ad L)), (1, .int (nI n))] := hl
  refine lv_lconst (v := 0) hx hb dX2_sum_0 (by decide) ?_
  refine lv_lstore_n (lv' := [(2, .long (0)), (0, .ref (ad L)), (1, .int (nI n))]) hx hb dX2_sum_1 rfl hl (by decide) rfl (fun ls hl => ?_)
  refine lv_iconst (v := nI 0) hx hb dX2_sum_2 (by decide) ?_
  refine lv_istore (lv' := [(4, .int (nI 0)), (2, .long (0)), (0, .ref (ad L)), (1, .int (nI n))]) hx hb dX2_sum_3 hl (by decide) rfl (fun ls hl => ?_)
  refine wl (ι := Nat) (fun i => n - i) (fun i g => (i ≤ n) ∧ ∃ ls, g = F0 m 5 ls [] ∧ lv_has ls 5 [(0, .ref (ad L)), (1, .int (nI n)), (2, .long (sumL f i)), (4, .int (nI i))]) ?_ (0) _ ⟨Nat.zero_le _, ls, rfl, lv_sub hl [2, 3, 1, 0] rfl⟩
  intro i g hg ih
  obtain ⟨hi, ls, rfl, hl⟩ := hg
  refine lv_iload hx hb dX2_sum_5 (lv_at hl 3 rfl) ?_
  refine lv_iload_n hx hb dX2_sum_7 rfl (lv_at hl 1 rfl) ?_
  refine lv_icmp_ge (tgt := 25) hx hb dX2_sum_8 (by decide) (fun c8 => ?_) (fun c8 => ?_)
  · skip
    have c8 := nI_le' c8 (by omega) (by omega)
    refine lv_lload_n hx hb dX2_sum_25 rfl (lv_at hl 2 rfl) ?_
    exact rl hx hb hr hlocks dX2_sum_26 (by have e9 : i = n := (by omega); rw [e9])
  · skip
    have c8 := nI_nle' c8 (by omega) (by omega)
    refine lv_lload_n hx hb dX2_sum_11 rfl (lv_at hl 2 rfl) ?_
    refine lv_aload_n hx hb dX2_sum_12 rfl (lv_at hl 0 rfl) ?_
    refine lv_iload hx hb dX2_sum_13 (lv_at hl 3 rfl) ?_
    refine w_iald hx hb hK hW hV (j := i) (rfl) (by omega) (by omega) dX2_sum_15 ?_
    refine lv_i2l (v := (f i).toInt64) hx hb dX2_sum_16 rfl ?_
    refine lv_ladd hx hb dX2_sum_17 ?_
    refine asl (y := sumL f (i + 1)) (rfl) ?_
    refine lv_lstore_n (lv' := [(2, .long (sumL f (i + 1))), (0, .ref (ad L)), (1, .int (nI n)), (4, .int (nI i))]) hx hb dX2_sum_18 rfl hl (by decide) rfl (fun ls hl => ?_)
    refine lv_iinc (v := nI (i + 1)) (lv' := [(4, .int (nI (i + 1))), (2, .long (sumL f (i + 1))), (0, .ref (ad L)), (1, .int (nI n))]) hx hb dX2_sum_19 hl (k := 3) rfl (by rw [show Int32.ofInt 1 = nI 1 from by decide]; exact nI_add _ _) (by decide) rfl (fun ls hl => ?_)
    refine lv_goto (tgt := 5) hx hb dX2_sum_22 (by decide) ?_
    exact ih (i + 1) _ ⟨by omega, ls, rfl, lv_sub hl [2, 3, 1, 0] rfl⟩ (by omega)

-- how many of the places a .. b - 1 hold x
set_option maxHeartbeats 4000000 in
set_option maxRecDepth 100000 in
theorem c_X2_countOf (l : Launch) (D : va_G) (cy : Nat → ClassId) (z0 : Nat) (ad : Nat → Nat) (V : Nat → Option va_E) (L N a b : Nat) (x : Int32) (f : Nat → Int32) (hV : V L = some (.inl (cy 0, N, .inl f))) (ha : a ≤ b) (hb0 : b ≤ N) (hN : N < 2147483648) : Met l yX2_countOf [Cond.code yX2_countOf cX2_countOf 6 (some .int)] { frames := 0, cells := 0, slots := 0, locals := 0 } (WP [.int (x), .ref (ad L), .int (nI a), .int (nI b)] D cy z0 ad V) (vp_Si (fun r => r = nI (cnt f x a (b - a)))) 0 0 (fun _ => False) := by
  refine met_of (by decide) (Nat.le_of_ble_eq_true rfl) (fun p e s m below meth c hx hb hr hml hown hlocks hnm hK hz hW ls hl => ?_)
  have hown : s.vm.findClass RX2 = some m.cls := hown
  have hl : lv_has ls 6 [(0, .int (x)), (1, .ref (ad L)), (2, .int (nI a)), (3, .int (nI b))] := hl
  refine lv_iconst (v := nI 0) hx hb dX2_countOf_0 (by decide) ?_
  refine lv_istore (lv' := [(4, .int (nI 0)), (0, .int (x)), (1, .ref (ad L)), (2, .int (nI a)), (3, .int (nI b))]) hx hb dX2_countOf_1 hl (by decide) rfl (fun ls hl => ?_)
  refine lv_iload_n hx hb dX2_countOf_3 rfl (lv_at hl 3 rfl) ?_
  refine lv_istore (lv' := [(5, .int (nI a)), (4, .int (nI 0)), (0, .int (x)), (1, .ref (ad L)), (2, .int (nI a)), (3, .int (nI b))]) hx hb dX2_countOf_4 hl (by decide) rfl (fun ls hl => ?_)
  refine wl (ι := Nat) (fun k => b - a - k) (fun k g => (a + k ≤ b) ∧ ∃ ls, g = F0 m 6 ls [] ∧ lv_has ls 6 [(0, .int (x)), (1, .ref (ad L)), (3, .int (nI b)), (4, .int (nI (cnt f x a k))), (5, .int (nI (a + k)))]) ?_ (0) _ ⟨by omega, ls, rfl, lv_sub hl [2, 3, 5, 1, 0] rfl⟩
  intro k g hg ih
  obtain ⟨hi, ls, rfl, hl⟩ := hg
  refine lv_iload hx hb dX2_countOf_6 (lv_at hl 4 rfl) ?_
  refine lv_iload_n hx hb dX2_countOf_8 rfl (lv_at hl 2 rfl) ?_
  refine lv_icmp_ge (tgt := 29) hx hb dX2_countOf_9 (by decide) (fun c9 => ?_) (fun c9 => ?_)
  · skip
    have c9 := nI_le' c9 (by omega) (by omega)
    refine lv_iload hx hb dX2_countOf_29 (lv_at hl 3 rfl) ?_
    exact ri hx hb hr hlocks dX2_countOf_31 (by have e9 : k = b - a := (by omega); rw [e9])
  · skip
    have c9 := nI_nle' c9 (by omega) (by omega)
    refine jl (pcj := 23) (st := []) (nL := 6) (lv := [(4, .int (nI (cnt f x a (k + 1)))), (0, .int (x)), (1, .ref (ad L)), (3, .int (nI b)), (5, .int (nI (a + k)))]) (fun K => ?_) (fun ls hl => ?_)
    · skip
      refine lv_aload_n hx hb dX2_countOf_12 rfl (lv_at hl 1 rfl) ?_
      refine lv_iload hx hb dX2_countOf_13 (lv_at hl 4 rfl) ?_
      refine w_iald hx hb hK hW hV (j := a + k) (rfl) (by omega) (by omega) dX2_countOf_15 ?_
      refine lv_iload_n hx hb dX2_countOf_16 rfl (lv_at hl 0 rfl) ?_
      refine lv_icmp_ne (tgt := 23) hx hb dX2_countOf_17 (by decide) (fun c17 => ?_) (fun c17 => ?_)
      · skip
        have hq4 : (nI (cnt f x a k)) = (nI (cnt f x a (k + 1))) := by simp [cnt, c17]
        rw [hq4] at hl
        exact K ls (lv_sub hl [3, 0, 1, 2, 4] rfl)
      · skip
        refine lv_iinc (v := nI (cnt f x a k + 1)) (lv' := [(4, .int (nI (cnt f x a k + 1))), (0, .int (x)), (1, .ref (ad L)), (3, .int (nI b)), (5, .int (nI (a + k)))]) hx hb dX2_countOf_20 hl (k := 3) rfl (by rw [show Int32.ofInt 1 = nI 1 from by decide]; exact nI_add _ _) (by decide) rfl (fun ls hl => ?_)
        have hq4 : (nI (cnt f x a k + 1)) = (nI (cnt f x a (k + 1))) := by simp [cnt, c17]
        rw [hq4] at hl
        exact K ls (lv_sub hl [0, 1, 2, 3, 4] rfl)
    · skip
      refine lv_iinc (v := nI (a + (k + 1))) (lv' := [(5, .int (nI (a + (k + 1)))), (4, .int (nI (cnt f x a (k + 1)))), (0, .int (x)), (1, .ref (ad L)), (3, .int (nI b))]) hx hb dX2_countOf_23 hl (k := 4) rfl (by rw [show Int32.ofInt 1 = nI 1 from by decide]; exact nI_add _ _) (by decide) rfl (fun ls hl => ?_)
      refine lv_goto (tgt := 6) hx hb dX2_countOf_26 (by decide) ?_
      exact ih (k + 1) _ ⟨by omega, ls, rfl, lv_sub hl [2, 3, 4, 1, 0] rfl⟩ (by omega)

set_option maxHeartbeats 4000000 in
set_option maxRecDepth 100000 in
theorem c_X2_eachAbove (l : Launch) (D : va_G) (cy : Nat → ClassId) (z0 : Nat) (ad : Nat → Nat) (V : Nat → Option va_E) (LR kd lk : Nat) (bd wt lv : Int32) (hR : isR V LR kd lk bd wt lv) (L N n : Nat) (f : Nat → Int32) (hV : V L = some (.inl (cy 0, N, .inl f))) (hn : n ≤ N) (hN : N < 2147483648) : Met l yX2_eachAbove [Cond.code yX2_eachAbove cX2_eachAbove 6 (some .long)] { frames := 1, cells := 0, slots := 0, locals := 24 } (WP [.ref (ad LR), .ref (ad L), .int (nI n)] D cy z0 ad V) (vp_Sl (fun r => r = eaL f bd n)) 0 0 (fun _ => False) := by
  refine met_of (by decide) (Nat.le_of_ble_eq_true rfl) (fun p e s m below meth c hx hb hr hml hown hlocks hnm hK hz hW ls hl => ?_)
  have hown : s.vm.findClass RX2 = some m.cls := hown
  have hl : lv_has ls 6 [(0, .ref (ad LR)), (1, .ref (ad L)), (2, .int (nI n))] := hl
  refine lv_lconst (v := 0) hx hb dX2_eachAbove_0 (by decide) ?_
  refine lv_lstore_n (lv' := [(3, .long (0)), (0, .ref (ad LR)), (1, .ref (ad L)), (2, .int (nI n))]) hx hb dX2_eachAbove_1 rfl hl (by decide) rfl (fun ls hl => ?_)
  refine lv_iconst (v := nI 0) hx hb dX2_eachAbove_2 (by decide) ?_
  refine lv_istore (lv' := [(5, .int (nI 0)), (3, .long (0)), (0, .ref (ad LR)), (1, .ref (ad L)), (2, .int (nI n))]) hx hb dX2_eachAbove_3 hl (by decide) rfl (fun ls hl => ?_)
  refine wl (ι := Nat) (fun i => n - i) (fun i g => (i ≤ n) ∧ ∃ ls, g = F0 m 5 ls [] ∧ lv_has ls 6 [(0, .ref (ad LR)), (1, .ref (ad L)), (2, .int (nI n)), (3, .long (eaL f bd i)), (5, .int (nI i))]) ?_ (0) _ ⟨Nat.zero_le _, ls, rfl, lv_sub hl [2, 3, 4, 1, 0] rfl⟩
  intro i g hg ih
  obtain ⟨hi, ls, rfl, hl⟩ := hg
  refine lv_iload hx hb dX2_eachAbove_5 (lv_at hl 4 rfl) ?_
  refine lv_iload_n hx hb dX2_eachAbove_7 rfl (lv_at hl 2 rfl) ?_
  refine lv_icmp_ge (tgt := 34) hx hb dX2_eachAbove_8 (by decide) (fun c8 => ?_) (fun c8 => ?_)
  · skip
    have c8 := nI_le' c8 (by omega) (by omega)
    refine lv_lload_n hx hb dX2_eachAbove_34 rfl (lv_at hl 3 rfl) ?_
    exact rl hx hb hr hlocks dX2_eachAbove_35 (by have e9 : i = n := (by omega); rw [e9])
  · skip
    have c8 := nI_nle' c8 (by omega) (by omega)
    refine lv_lload_n hx hb dX2_eachAbove_11 rfl (lv_at hl 3 rfl) ?_
    refine lv_iconst (v := nI 0) hx hb dX2_eachAbove_12 (by decide) ?_
    refine lv_aload_n hx hb dX2_eachAbove_13 rfl (lv_at hl 1 rfl) ?_
    refine lv_iload hx hb dX2_eachAbove_14 (lv_at hl 4 rfl) ?_
    refine w_iald hx hb hK hW hV (j := i) (rfl) (by omega) (by omega) dX2_eachAbove_16 ?_
    refine lv_aload_n hx hb dX2_eachAbove_17 rfl (lv_at hl 0 rfl) ?_
    refine g_X2_X2_bound hx hb hown hK hW hR dX2_eachAbove_18 ?_
    refine lv_isub hx hb dX2_eachAbove_21 ?_
    refine k_X2_mmax hx hb (hml.trans hl.1.symm) hown hK (Nat.le_of_ble_eq_true rfl) (Nat.le_of_ble_eq_true rfl) (Nat.zero_le _) (Nat.zero_le _) dX2_eachAbove_22 ?_
    refine lv_i2l (v := (if (nI 0) < ((f i) - bd) then ((f i) - bd) else (nI 0)).toInt64) hx hb dX2_eachAbove_25 rfl ?_
    refine lv_ladd hx hb dX2_eachAbove_26 ?_
    refine asl (y := eaL f bd (i + 1)) (rfl) ?_
    refine lv_lstore_n (lv' := [(3, .long (eaL f bd (i + 1))), (0, .ref (ad LR)), (1, .ref (ad L)), (2, .int (nI n)), (5, .int (nI i))]) hx hb dX2_eachAbove_27 rfl hl (by decide) rfl (fun ls hl => ?_)
    refine lv_iinc (v := nI (i + 1)) (lv' := [(5, .int (nI (i + 1))), (3, .long (eaL f bd (i + 1))), (0, .ref (ad LR)), (1, .ref (ad L)), (2, .int (nI n))]) hx hb dX2_eachAbove_28 hl (k := 4) rfl (by rw [show Int32.ofInt 1 = nI 1 from by decide]; exact nI_add _ _) (by decide) rfl (fun ls hl => ?_)
    refine lv_goto (tgt := 5) hx hb dX2_eachAbove_31 (by decide) ?_
    exact ih (i + 1) _ ⟨by omega, ls, rfl, lv_sub hl [2, 3, 4, 1, 0] rfl⟩ (by omega)

set_option maxHeartbeats 4000000 in
set_option maxRecDepth 100000 in
theorem c_X2_equalPairs (l : Launch) (D : va_G) (cy : Nat → ClassId) (z0 : Nat) (ad : Nat → Nat) (V : Nat → Option va_E) (L N n : Nat) (f : Nat → Int32) (hV : V L = some (.inl (cy 0, N, .inl f))) (hn : n ≤ N) (hN : N < 2147483648) : Met l yX2_equalPairs [Cond.code yX2_equalPairs cX2_equalPairs 5 (some .long)] { frames := 1, cells := 0, slots := 0, locals := 25 } (WP [.ref (ad L), .int (nI n)] D cy z0 ad V) (vp_Sl (fun r => r = epL f n)) 0 0 (fun _ => False) := by
  refine met_of (by decide) (Nat.le_of_ble_eq_true rfl) (fun p e s m below meth c hx hb hr hml hown hlocks hnm hK hz hW ls hl => ?_)
  have hown : s.vm.findClass RX2 = some m.cls := hown
  have hl : lv_has ls 5 [(0, .ref (ad L)), (1, .int (nI n))] := hl
  refine lv_lconst (v := 0) hx hb dX2_equalPairs_0 (by decide) ?_
  refine lv_lstore_n (lv' := [(2, .long (0)), (0, .ref (ad L)), (1, .int (nI n))]) hx hb dX2_equalPairs_1 rfl hl (by decide) rfl (fun ls hl => ?_)
  refine lv_iconst (v := nI 0) hx hb dX2_equalPairs_2 (by decide) ?_
  refine lv_istore (lv' := [(4, .int (nI 0)), (2, .long (0)), (0, .ref (ad L)), (1, .int (nI n))]) hx hb dX2_equalPairs_3 hl (by decide) rfl (fun ls hl => ?_)
  refine wl (ι := Nat) (fun i => n - i) (fun i g => (i ≤ n) ∧ ∃ ls, g = F0 m 5 ls [] ∧ lv_has ls 5 [(0, .ref (ad L)), (1, .int (nI n)), (2, .long (epL f i)), (4, .int (nI i))]) ?_ (0) _ ⟨Nat.zero_le _, ls, rfl, lv_sub hl [2, 3, 1, 0] rfl⟩
  intro i g hg ih
  obtain ⟨hi, ls, rfl, hl⟩ := hg
  refine lv_iload hx hb dX2_equalPairs_5 (lv_at hl 3 rfl) ?_
  refine lv_iload_n hx hb dX2_equalPairs_7 rfl (lv_at hl 1 rfl) ?_
  refine lv_icmp_ge (tgt := 32) hx hb dX2_equalPairs_8 (by decide) (fun c8 => ?_) (fun c8 => ?_)
  · skip
    have c8 := nI_le' c8 (by omega) (by omega)
    refine lv_lload_n hx hb dX2_equalPairs_32 rfl (lv_at hl 2 rfl) ?_
    exact rl hx hb hr hlocks dX2_equalPairs_33 (by have e9 : i = n := (by omega); rw [e9])
  · skip
    have c8 := nI_nle' c8 (by omega) (by omega)
    refine lv_lload_n hx hb dX2_equalPairs_11 rfl (lv_at hl 2 rfl) ?_
    refine lv_aload_n hx hb dX2_equalPairs_12 rfl (lv_at hl 0 rfl) ?_
    refine lv_iload hx hb dX2_equalPairs_13 (lv_at hl 3 rfl) ?_
    refine w_iald hx hb hK hW hV (j := i) (rfl) (by omega) (by omega) dX2_equalPairs_15 ?_
    refine lv_aload_n hx hb dX2_equalPairs_16 rfl (lv_at hl 0 rfl) ?_
    refine lv_iconst (v := nI 0) hx hb dX2_equalPairs_17 (by decide) ?_
    refine lv_iload hx hb dX2_equalPairs_18 (lv_at hl 3 rfl) ?_
    refine vp_callSi (va_Run.run (va_runS (As := [.int (f i), .ref (ad L), .int (nI 0), .int (nI i)]) (rest := [.long (epL f i)]) ⟨hx, hb, hml, hown, hK.1.use _⟩ (c_X2_countOf l D cy z0 ad V L N 0 i (f i) f hV (by omega) (by omega) (by omega)) (k_X2_X2_countOf hK.1 rfl rfl ⟨Nat.le_of_ble_eq_true rfl, Nat.le_of_ble_eq_true rfl⟩) (preS hK hz hW) rfl rfl hl.1 rfl (lv_room (Nat.le_of_ble_eq_true rfl)) dX2_equalPairs_20 ⟨Nat.le_of_ble_eq_true rfl, Nat.le_of_ble_eq_true rfl⟩)) (fun r20 h20 => ?_)
    have h20 : r20 = nI (cnt f (f i) 0 (i - 0)) := h20
    subst h20
    refine lv_i2l (v := (nI (cnt f (f i) 0 (i - 0))).toInt64) hx hb dX2_equalPairs_23 rfl ?_
    refine lv_ladd hx hb dX2_equalPairs_24 ?_
    refine asl (y := epL f (i + 1)) (rfl) ?_
    refine lv_lstore_n (lv' := [(2, .long (epL f (i + 1))), (0, .ref (ad L)), (1, .int (nI n)), (4, .int (nI i))]) hx hb dX2_equalPairs_25 rfl hl (by decide) rfl (fun ls hl => ?_)
    refine lv_iinc (v := nI (i + 1)) (lv' := [(4, .int (nI (i + 1))), (2, .long (epL f (i + 1))), (0, .ref (ad L)), (1, .int (nI n))]) hx hb dX2_equalPairs_26 hl (k := 3) rfl (by rw [show Int32.ofInt 1 = nI 1 from by decide]; exact nI_add _ _) (by decide) rfl (fun ls hl => ?_)
    refine lv_goto (tgt := 5) hx hb dX2_equalPairs_29 (by decide) ?_
    exact ih (i + 1) _ ⟨by omega, ls, rfl, lv_sub hl [2, 3, 1, 0] rfl⟩ (by omega)

set_option maxHeartbeats 4000000 in
set_option maxRecDepth 100000 in
theorem c_X2_crowds (l : Launch) (D : va_G) (cy : Nat → ClassId) (z0 : Nat) (ad : Nat → Nat) (V : Nat → Option va_E) (LR kd lk : Nat) (bd wt lv : Int32) (hR : isR V LR kd lk bd wt lv) (L N n : Nat) (f : Nat → Int32) (hV : V L = some (.inl (cy 0, N, .inl f))) (hn : n ≤ N) (hN : N < 2147483648) : Met l yX2_crowds [Cond.code yX2_crowds cX2_crowds 8 (some .long)] { frames := 1, cells := 0, slots := 0, locals := 25 } (WP [.ref (ad LR), .ref (ad L), .int (nI n)] D cy z0 ad V) (vp_Sl (fun r => r = crL f (if nI 0 < bd then bd else nI 0) n n)) 0 0 (fun _ => False) := by
  refine met_of (by decide) (Nat.le_of_ble_eq_true rfl) (fun p e s m below meth c hx hb hr hml hown hlocks hnm hK hz hW ls hl => ?_)
  have hown : s.vm.findClass RX2 = some m.cls := hown
  have hl : lv_has ls 8 [(0, .ref (ad LR)), (1, .ref (ad L)), (2, .int (nI n))] := hl
  refine lv_iconst (v := nI 0) hx hb dX2_crowds_0 (by decide) ?_
  refine lv_aload_n hx hb dX2_crowds_1 rfl (lv_at hl 0 rfl) ?_
  refine g_X2_X2_bound hx hb hown hK hW hR dX2_crowds_2 ?_
  refine k_X2_mmax hx hb (hml.trans hl.1.symm) hown hK (Nat.le_of_ble_eq_true rfl) (Nat.le_of_ble_eq_true rfl) (Nat.zero_le _) (Nat.zero_le _) dX2_crowds_5 ?_
  refine lv_istore_n (lv' := [(3, .int (if (nI 0) < bd then bd else (nI 0))), (0, .ref (ad LR)), (1, .ref (ad L)), (2, .int (nI n))]) hx hb dX2_crowds_8 rfl hl (by decide) rfl (fun ls hl => ?_)
  refine lv_lconst (v := 0) hx hb dX2_crowds_9 (by decide) ?_
  refine lv_lstore (lv' := [(4, .long (0)), (3, .int (if (nI 0) < bd then bd else (nI 0))), (0, .ref (ad LR)), (1, .ref (ad L)), (2, .int (nI n))]) hx hb dX2_crowds_10 hl (by decide) rfl (fun ls hl => ?_)
  refine lv_iconst (v := nI 0) hx hb dX2_crowds_12 (by decide) ?_
  refine lv_istore (lv' := [(6, .int (nI 0)), (4, .long (0)), (3, .int (if (nI 0) < bd then bd else (nI 0))), (0, .ref (ad LR)), (1, .ref (ad L)), (2, .int (nI n))]) hx hb dX2_crowds_13 hl (by decide) rfl (fun ls hl => ?_)
  refine wl (ι := Nat) (fun i => n - i) (fun i g => (i ≤ n) ∧ ∃ ls, g = F0 m 15 ls [] ∧ lv_has ls 8 [(1, .ref (ad L)), (2, .int (nI n)), (3, .int (if nI 0 < bd then bd else nI 0)), (4, .long (crL f (if nI 0 < bd then bd else nI 0) n i)), (6, .int (nI i))]) ?_ (0) _ ⟨Nat.zero_le _, ls, rfl, lv_sub hl [4, 5, 2, 1, 0] rfl⟩
  intro i g hg ih
  obtain ⟨hi, ls, rfl, hl⟩ := hg
  refine lv_iload hx hb dX2_crowds_15 (lv_at hl 4 rfl) ?_
  refine lv_iload_n hx hb dX2_crowds_17 rfl (lv_at hl 1 rfl) ?_
  refine lv_icmp_ge (tgt := 76) hx hb dX2_crowds_18 (by decide) (fun c18 => ?_) (fun c18 => ?_)
  · skip
    have c18 := nI_le' c18 (by omega) (by omega)
    refine lv_lload hx hb dX2_crowds_76 (lv_at hl 3 rfl) ?_
    exact rl hx hb hr hlocks dX2_crowds_78 (by have e9 : i = n := (by omega); rw [e9])
  · skip
    have c18 := nI_nle' c18 (by omega) (by omega)
    refine lv_aload_n hx hb dX2_crowds_21 rfl (lv_at hl 0 rfl) ?_
    refine lv_iload hx hb dX2_crowds_22 (lv_at hl 4 rfl) ?_
    refine w_iald hx hb hK hW hV (j := i) (rfl) (by omega) (by omega) dX2_crowds_24 ?_
    refine lv_aload_n hx hb dX2_crowds_25 rfl (lv_at hl 0 rfl) ?_
    refine lv_iconst (v := nI 0) hx hb dX2_crowds_26 (by decide) ?_
    refine lv_iload hx hb dX2_crowds_27 (lv_at hl 4 rfl) ?_
    refine vp_callSi (va_Run.run (va_runS (As := [.int (f i), .ref (ad L), .int (nI 0), .int (nI i)]) (rest := []) ⟨hx, hb, hml, hown, hK.1.use _⟩ (c_X2_countOf l D cy z0 ad V L N 0 i (f i) f hV (by omega) (by omega) (by omega)) (k_X2_X2_countOf hK.1 rfl rfl ⟨Nat.le_of_ble_eq_true rfl, Nat.le_of_ble_eq_true rfl⟩) (preS hK hz hW) rfl rfl hl.1 rfl (lv_room (Nat.le_of_ble_eq_true rfl)) dX2_crowds_29 ⟨Nat.le_of_ble_eq_true rfl, Nat.le_of_ble_eq_true rfl⟩)) (fun r29 h29 => ?_)
    have h29 : r29 = nI (cnt f (f i) 0 (i - 0)) := h29
    subst h29
    have hcl : cnt f (f i) 0 (i - 0) ≤ i := (cnt_le _ _ _ _)
    refine jl (pcj := 40) (st := [.int (b2i (decide (cnt f (f i) 0 i = 0)))]) (nL := 8) (lv := [(1, .ref (ad L)), (2, .int (nI n)), (3, .int (if nI 0 < bd then bd else nI 0)), (4, .long (crL f (if nI 0 < bd then bd else nI 0) n i)), (6, .int (nI i))]) (fun K => ?_) (fun ls hl => ?_)
    · skip
      refine lv_if_ne (tgt := 39) hx hb dX2_crowds_32 (by decide) (fun c32 => ?_) (fun c32 => ?_)
      · skip
        have c32 := nI_ne' (b := 0) c32 (by omega) (by omega)
        refine lv_iconst (v := nI 0) hx hb dX2_crowds_39 (by decide) ?_
        refine asi (y := b2i (decide (cnt f (f i) 0 i = 0))) (by have c32 : _ := c32; simp at c32; simp [b2i, nI, c32]) ?_
        exact K ls (lv_sub hl [0, 1, 2, 3, 4] rfl)
      · skip
        have c32 := nI_eq' (b := 0) c32 (by omega) (by omega)
        refine lv_iconst (v := nI 1) hx hb dX2_crowds_35 (by decide) ?_
        refine lv_goto (tgt := 40) hx hb dX2_crowds_36 (by decide) ?_
        refine asi (y := b2i (decide (cnt f (f i) 0 i = 0))) (by have c32 : _ := c32; simp at c32; simp [b2i, nI, c32]) ?_
        exact K ls (lv_sub hl [0, 1, 2, 3, 4] rfl)
    · skip
      refine lv_istore (lv' := [(7, .int (b2i (decide (cnt f (f i) 0 i = 0)))), (1, .ref (ad L)), (2, .int (nI n)), (3, .int (if nI 0 < bd then bd else nI 0)), (4, .long (crL f (if nI 0 < bd then bd else nI 0) n i)), (6, .int (nI i))]) hx hb dX2_crowds_40 hl (by decide) rfl (fun ls hl => ?_)
      refine jl (pcj := 70) (st := []) (nL := 8) (lv := [(4, .long (crL f (if nI 0 < bd then bd else nI 0) n (i + 1))), (1, .ref (ad L)), (2, .int (nI n)), (3, .int (if nI 0 < bd then bd else nI 0)), (6, .int (nI i))]) (fun K => ?_) (fun ls hl => ?_)
      · skip
        refine lv_iload hx hb dX2_crowds_42 (lv_at hl 0 rfl) ?_
        refine lv_if_eq (tgt := 70) hx hb dX2_crowds_44 (by decide) (fun c44 => ?_) (fun c44 => ?_)
        · skip
          have c44 := b2i_0.mp c44
          have c44 : ¬ cnt f (f i) 0 i = 0 := by simpa using c44
          have hq4 : (crL f (if nI 0 < bd then bd else nI 0) n i) = (crL f (if nI 0 < bd then bd else nI 0) n (i + 1)) := by simp [crL, c44]
          rw [hq4] at hl
          exact K ls (lv_sub hl [4, 1, 2, 3, 5] rfl)
        · skip
          have c44 := b2i_1.mp c44
          have c44 : cnt f (f i) 0 i = 0 := by simpa using c44
          refine lv_lload hx hb dX2_crowds_47 (lv_at hl 4 rfl) ?_
          refine lv_iconst (v := nI 0) hx hb dX2_crowds_49 (by decide) ?_
          refine lv_aload_n hx hb dX2_crowds_50 rfl (lv_at hl 1 rfl) ?_
          refine lv_iload hx hb dX2_crowds_51 (lv_at hl 5 rfl) ?_
          refine w_iald hx hb hK hW hV (j := i) (rfl) (by omega) (by omega) dX2_crowds_53 ?_
          refine lv_aload_n hx hb dX2_crowds_54 rfl (lv_at hl 1 rfl) ?_
          refine lv_iload hx hb dX2_crowds_55 (lv_at hl 5 rfl) ?_
          refine lv_iload_n hx hb dX2_crowds_57 rfl (lv_at hl 2 rfl) ?_
          refine vp_callSi (va_Run.run (va_runS (As := [.int (f i), .ref (ad L), .int (nI i), .int (nI n)]) (rest := [.int (nI 0), .long (crL f (if nI 0 < bd then bd else nI 0) n i)]) ⟨hx, hb, hml, hown, hK.1.use _⟩ (c_X2_countOf l D cy z0 ad V L N i n (f i) f hV (by omega) (by omega) (by omega)) (k_X2_X2_countOf hK.1 rfl rfl ⟨Nat.le_of_ble_eq_true rfl, Nat.le_of_ble_eq_true rfl⟩) (preS hK hz hW) rfl rfl hl.1 rfl (lv_room (Nat.le_of_ble_eq_true rfl)) dX2_crowds_58 ⟨Nat.le_of_ble_eq_true rfl, Nat.le_of_ble_eq_true rfl⟩)) (fun r58 h58 => ?_)
          have h58 : r58 = nI (cnt f (f i) i (n - i)) := h58
          subst h58
          refine lv_iload_n hx hb dX2_crowds_61 rfl (lv_at hl 3 rfl) ?_
          refine lv_isub hx hb dX2_crowds_62 ?_
          refine k_X2_mmax hx hb (hml.trans hl.1.symm) hown hK (Nat.le_of_ble_eq_true rfl) (Nat.le_of_ble_eq_true rfl) (Nat.zero_le _) (Nat.zero_le _) dX2_crowds_63 ?_
          refine lv_i2l (v := (if (nI 0) < ((nI (cnt f (f i) i (n - i))) - (if nI 0 < bd then bd else nI 0)) then ((nI (cnt f (f i) i (n - i))) - (if nI 0 < bd then bd else nI 0)) else (nI 0)).toInt64) hx hb dX2_crowds_66 rfl ?_
          refine lv_ladd hx hb dX2_crowds_67 ?_
          refine lv_lstore (lv' := [(4, .long ((crL f (if nI 0 < bd then bd else nI 0) n i) + ((if (nI 0) < ((nI (cnt f (f i) i (n - i))) - (if nI 0 < bd then bd else nI 0)) then ((nI (cnt f (f i) i (n - i))) - (if nI 0 < bd then bd else nI 0)) else (nI 0)).toInt64))), (7, .int (b2i (decide (cnt f (f i) 0 i = 0)))), (1, .ref (ad L)), (2, .int (nI n)), (3, .int (if nI 0 < bd then bd else nI 0)), (6, .int (nI i))]) hx hb dX2_crowds_68 hl (by decide) rfl (fun ls hl => ?_)
          have hq4 : ((crL f (if nI 0 < bd then bd else nI 0) n i) + ((if (nI 0) < ((nI (cnt f (f i) i (n - i))) - (if nI 0 < bd then bd else nI 0)) then ((nI (cnt f (f i) i (n - i))) - (if nI 0 < bd then bd else nI 0)) else (nI 0)).toInt64)) = (crL f (if nI 0 < bd then bd else nI 0) n (i + 1)) := by simp [crL, c44]
          rw [hq4] at hl
          exact K ls (lv_sub hl [0, 2, 3, 4, 5] rfl)
      · skip
        refine lv_iinc (v := nI (i + 1)) (lv' := [(6, .int (nI (i + 1))), (4, .long (crL f (if nI 0 < bd then bd else nI 0) n (i + 1))), (1, .ref (ad L)), (2, .int (nI n)), (3, .int (if nI 0 < bd then bd else nI 0))]) hx hb dX2_crowds_70 hl (k := 4) rfl (by rw [show Int32.ofInt 1 = nI 1 from by decide]; exact nI_add _ _) (by decide) rfl (fun ls hl => ?_)
        refine lv_goto (tgt := 15) hx hb dX2_crowds_73 (by decide) ?_
        exact ih (i + 1) _ ⟨by omega, ls, rfl, lv_sub hl [2, 3, 4, 1, 0] rfl⟩ (by omega)

set_option maxHeartbeats 4000000 in
set_option maxRecDepth 100000 in
theorem c_X5_has (l : Launch) (D : va_G) (cy : Nat → ClassId) (z0 : Nat) (ad : Nat → Nat) (V : Nat → Option va_E) (B n : Nat) (M : Nat → Nat → Int32) (x : Int32) (hT : isT ad V cy B n M) : Met l yX5_has [Cond.code yX5_has cX5_has 2 (some .boolean)] { frames := 0, cells := 0, slots := 0, locals := 0 } (WP [.ref (ad B), .int (x)] D cy z0 ad V) (vp_Si (fun r => r = b2i (hasB n x))) 0 0 (fun _ => False) := by
  refine met_of (by decide) (Nat.le_of_ble_eq_true rfl) (fun p e s m below meth c hx hb hr hml hown hlocks hnm hK hz hW ls hl => ?_)
  have hown : s.vm.findClass RX5 = some m.cls := hown
  have hl : lv_has ls 2 [(0, .ref (ad B)), (1, .int (x))] := hl
  obtain ⟨hT0, hT1, hTr⟩ := id hT
  refine lv_iload_n hx hb dX5_has_0 rfl (lv_at hl 1 rfl) ?_
  refine lv_if_lt (tgt := 16) hx hb dX5_has_1 (by decide) (fun c1 => ?_) (fun c1 => ?_)
  · skip
    refine lv_iconst (v := nI 0) hx hb dX5_has_16 (by decide) ?_
    exact rz hx hb hr hlocks dX5_has_17 (by first | exact b2i_n | rfl | decide) (by simp_all [b2i, nI, hasB])
  · skip
    refine lv_iload_n hx hb dX5_has_4 rfl (lv_at hl 1 rfl) ?_
    refine lv_aload_n hx hb dX5_has_5 rfl (lv_at hl 0 rfl) ?_
    refine g_X5_X5_objects hx hb hown hK hW hT0 dX5_has_6 ?_
    refine lv_icmp_ge (tgt := 16) hx hb dX5_has_9 (by decide) (fun c9 => ?_) (fun c9 => ?_)
    · skip
      refine lv_iconst (v := nI 0) hx hb dX5_has_16 (by decide) ?_
      exact rz hx hb hr hlocks dX5_has_17 (by first | exact b2i_n | rfl | decide) (by simp_all [b2i, nI, hasB])
    · skip
      refine lv_iconst (v := nI 1) hx hb dX5_has_12 (by decide) ?_
      refine lv_goto (tgt := 17) hx hb dX5_has_13 (by decide) ?_
      exact rz hx hb hr hlocks dX5_has_17 (by first | exact b2i_n | rfl | decide) (by simp_all [b2i, nI, hasB])

set_option maxHeartbeats 4000000 in
set_option maxRecDepth 100000 in
theorem c_X2_lessThanBefore (l : Launch) (D : va_G) (cy : Nat → ClassId) (z0 : Nat) (ad : Nat → Nat) (V : Nat → Option va_E) (L N : Nat) (f : Nat → Int32) (hV : V L = some (.inl (cy 0, N, .inl f))) (B n : Nat) (M : Nat → Nat → Int32) (hT : isT ad V cy B n M) (hn : n ≤ N) (hn40 : n ≤ 40) (hN : N < 2147483648) : Met l yX2_lessThanBefore [Cond.code yX2_lessThanBefore cX2_lessThanBefore 6 (some .long)] { frames := 1, cells := 0, slots := 0, locals := 21 } (WP [.ref (ad L), .ref (ad B)] D cy z0 ad V) (vp_Sl (fun r => r = lbL n f (M 2) n)) 0 0 (fun _ => False) := by
  refine met_of (by decide) (Nat.le_of_ble_eq_true rfl) (fun p e s m below meth c hx hb hr hml hown hlocks hnm hK hz hW ls hl => ?_)
  have hown : s.vm.findClass RX2 = some m.cls := hown
  have hl : lv_has ls 6 [(0, .ref (ad L)), (1, .ref (ad B))] := hl
  obtain ⟨hT0, hT1, hTr⟩ := id hT
  have hTr2 := hTr 2 (by omega)
  refine lv_lconst (v := 0) hx hb dX2_lessThanBefore_0 (by decide) ?_
  refine lv_lstore_n (lv' := [(2, .long (0)), (0, .ref (ad L)), (1, .ref (ad B))]) hx hb dX2_lessThanBefore_1 rfl hl (by decide) rfl (fun ls hl => ?_)
  refine lv_iconst (v := nI 0) hx hb dX2_lessThanBefore_2 (by decide) ?_
  refine lv_istore (lv' := [(4, .int (nI 0)), (2, .long (0)), (0, .ref (ad L)), (1, .ref (ad B))]) hx hb dX2_lessThanBefore_3 hl (by decide) rfl (fun ls hl => ?_)
  refine wl (ι := Nat) (fun i => n - i) (fun i g => (i ≤ n) ∧ ∃ ls, g = F0 m 5 ls [] ∧ lv_has ls 6 [(0, .ref (ad L)), (1, .ref (ad B)), (2, .long (lbL n f (M 2) i)), (4, .int (nI i))]) ?_ (0) _ ⟨Nat.zero_le _, ls, rfl, lv_sub hl [2, 3, 1, 0] rfl⟩
  intro i g hg ih
  obtain ⟨hi, ls, rfl, hl⟩ := hg
  refine lv_iload hx hb dX2_lessThanBefore_5 (lv_at hl 3 rfl) ?_
  refine lv_aload_n hx hb dX2_lessThanBefore_7 rfl (lv_at hl 1 rfl) ?_
  refine g_X2_X5_objects hx hb hown hK hW hT0 dX2_lessThanBefore_8 ?_
  refine lv_icmp_ge (tgt := 63) hx hb dX2_lessThanBefore_11 (by decide) (fun c11 => ?_) (fun c11 => ?_)
  · skip
    have c11 := nI_le' c11 (by omega) (by omega)
    refine lv_lload_n hx hb dX2_lessThanBefore_63 rfl (lv_at hl 2 rfl) ?_
    exact rl hx hb hr hlocks dX2_lessThanBefore_64 (by have e9 : i = n := (by omega); rw [e9])
  · skip
    have c11 := nI_nle' c11 (by omega) (by omega)
    refine lv_aload_n hx hb dX2_lessThanBefore_14 rfl (lv_at hl 1 rfl) ?_
    refine g_X2_X5_rows hx hb hown hK hW hT0 dX2_lessThanBefore_15 ?_
    refine lv_iconst (v := nI 2) hx hb dX2_lessThanBefore_18 (by decide) ?_
    refine w_aald hx hb hK hW 3 rfl rfl hT1 (j := 2) (rfl) (by omega) (by omega) dX2_lessThanBefore_19 ?_
    refine asv (y := .ref (ad (B + 2 + 2))) (el4 (by omega)) ?_
    refine lv_iload hx hb dX2_lessThanBefore_20 (lv_at hl 3 rfl) ?_
    refine w_iald hx hb hK hW hTr2 (j := i) (rfl) (by omega) (by omega) dX2_lessThanBefore_22 ?_
    refine lv_istore (lv' := [(5, .int ((M 2) i)), (0, .ref (ad L)), (1, .ref (ad B)), (2, .long (lbL n f (M 2) i)), (4, .int (nI i))]) hx hb dX2_lessThanBefore_23 hl (by decide) rfl (fun ls hl => ?_)
    refine lv_lload_n hx hb dX2_lessThanBefore_25 rfl (lv_at hl 3 rfl) ?_
    refine jl (pcj := 51) (st := [.int (b2i (hasB n (M 2 i) && decide (¬ f (M 2 i).toNatClampNeg ≤ f i))), .long (lbL n f (M 2) i)]) (nL := 6) (lv := [(5, .int ((M 2) i)), (0, .ref (ad L)), (1, .ref (ad B)), (2, .long (lbL n f (M 2) i)), (4, .int (nI i))]) (fun K => ?_) (fun ls hl => ?_)
    · skip
      refine lv_aload_n hx hb dX2_lessThanBefore_26 rfl (lv_at hl 2 rfl) ?_
      refine lv_iload hx hb dX2_lessThanBefore_27 (lv_at hl 0 rfl) ?_
      refine vp_callSi (va_Run.run (va_runV (As := [.int ((M 2) i)]) (rest := [.long (lbL n f (M 2) i)]) ⟨hx, hb, hml, hown, hK.1.use _⟩ (c_X5_has l D cy z0 ad V B n M (M 2 i) hT) (k_X2_X5_has hK.1 rfl rfl ⟨Nat.le_of_ble_eq_true rfl, Nat.le_of_ble_eq_true rfl⟩) (preV hK hz hW hT0 rfl) rfl rfl hl.1 rfl (lv_room (Nat.le_of_ble_eq_true rfl)) dX2_lessThanBefore_29 ⟨Nat.le_of_ble_eq_true rfl, Nat.le_of_ble_eq_true rfl⟩)) (fun r29 h29 => ?_)
      have h29 : r29 = b2i (hasB n (M 2 i)) := h29
      subst h29
      refine lv_if_eq (tgt := 50) hx hb dX2_lessThanBefore_32 (by decide) (fun c32 => ?_) (fun c32 => ?_)
      · skip
        have c32 := b2i_0.mp c32
        refine lv_iconst (v := nI 0) hx hb dX2_lessThanBefore_50 (by decide) ?_
        refine asi (y := b2i (hasB n (M 2 i) && decide (¬ f (M 2 i).toNatClampNeg ≤ f i))) (by first | (simp [b2i, nI, c32]; done) | (simp [b2i, nI, c32, c43]; done)) ?_
        exact K ls (lv_sub hl [0, 1, 2, 3, 4] rfl)
      · skip
        have c32 := b2i_1.mp c32
        have hb9 := hasB_of c32 (by omega)
        refine lv_aload_n hx hb dX2_lessThanBefore_35 rfl (lv_at hl 1 rfl) ?_
        refine lv_iload hx hb dX2_lessThanBefore_36 (lv_at hl 0 rfl) ?_
        refine w_iald hx hb hK hW hV (j := (M 2 i).toNatClampNeg) (hb9.1) (by omega) (by omega) dX2_lessThanBefore_38 ?_
        refine lv_aload_n hx hb dX2_lessThanBefore_39 rfl (lv_at hl 1 rfl) ?_
        refine lv_iload hx hb dX2_lessThanBefore_40 (lv_at hl 4 rfl) ?_
        refine w_iald hx hb hK hW hV (j := i) (rfl) (by omega) (by omega) dX2_lessThanBefore_42 ?_
        refine lv_icmp_le (tgt := 50) hx hb dX2_lessThanBefore_43 (by decide) (fun c43 => ?_) (fun c43 => ?_)
        · skip
          refine lv_iconst (v := nI 0) hx hb dX2_lessThanBefore_50 (by decide) ?_
          refine asi (y := b2i (hasB n (M 2 i) && decide (¬ f (M 2 i).toNatClampNeg ≤ f i))) (by first | (simp [b2i, nI, c32]; done) | (simp [b2i, nI, c32, c43]; done)) ?_
          exact K ls (lv_sub hl [0, 1, 2, 3, 4] rfl)
        · skip
          refine lv_iconst (v := nI 1) hx hb dX2_lessThanBefore_46 (by decide) ?_
          refine lv_goto (tgt := 51) hx hb dX2_lessThanBefore_47 (by decide) ?_
          refine asi (y := b2i (hasB n (M 2 i) && decide (¬ f (M 2 i).toNatClampNeg ≤ f i))) (by first | (simp [b2i, nI, c32]; done) | (simp [b2i, nI, c32, c43]; done)) ?_
          exact K ls (lv_sub hl [0, 1, 2, 3, 4] rfl)
    · skip
      refine vp_callSi (va_Run.run (va_runSN (As := [.int (b2i (hasB n (M 2 i) && decide (¬ f (M 2 i).toNatClampNeg ≤ f i)))]) (rest := [.long (lbL n f (M 2) i)]) ⟨hx, hb, hml, hown, hK.1.use _⟩ (c_X6_oneIf l D cy z0 ad V (hasB n (M 2 i) && decide (¬ f (M 2 i).toNatClampNeg ≤ f i))) (k_X2_X6_oneIf hK.1 rfl rfl ⟨Nat.le_of_ble_eq_true rfl, Nat.le_of_ble_eq_true rfl⟩) (preS hK hz hW) rfl rfl hl.1 rfl (lv_room (Nat.le_of_ble_eq_true rfl)) dX2_lessThanBefore_51 ⟨Nat.le_of_ble_eq_true rfl, Nat.le_of_ble_eq_true rfl⟩)) (fun r51 h51 => ?_)
      have h51 : r51 = b2i (hasB n (M 2 i) && decide (¬ f (M 2 i).toNatClampNeg ≤ f i)) := h51
      subst h51
      refine lv_i2l (v := (b2i (hasB n (M 2 i) && decide (¬ f (M 2 i).toNatClampNeg ≤ f i))).toInt64) hx hb dX2_lessThanBefore_54 rfl ?_
      refine lv_ladd hx hb dX2_lessThanBefore_55 ?_
      refine asl (y := lbL n f (M 2) (i + 1)) (rfl) ?_
      refine lv_lstore_n (lv' := [(2, .long (lbL n f (M 2) (i + 1))), (5, .int ((M 2) i)), (0, .ref (ad L)), (1, .ref (ad B)), (4, .int (nI i))]) hx hb dX2_lessThanBefore_56 rfl hl (by decide) rfl (fun ls hl => ?_)
      refine lv_iinc (v := nI (i + 1)) (lv' := [(4, .int (nI (i + 1))), (2, .long (lbL n f (M 2) (i + 1))), (5, .int ((M 2) i)), (0, .ref (ad L)), (1, .ref (ad B))]) hx hb dX2_lessThanBefore_57 hl (k := 4) rfl (by rw [show Int32.ofInt 1 = nI 1 from by decide]; exact nI_add _ _) (by decide) rfl (fun ls hl => ?_)
      refine lv_goto (tgt := 5) hx hb dX2_lessThanBefore_60 (by decide) ?_
      exact ih (i + 1) _ ⟨by omega, ls, rfl, lv_sub hl [3, 4, 1, 0] rfl⟩ (by omega)
