-- within: between two bounds
set_option maxHeartbeats 4000000 in
set_option maxRecDepth 100000 in
theorem c_X6_within (l : Launch) (D : va_G) (cy : Nat → ClassId) (z0 : Nat) (ad : Nat → Nat) (V : Nat → Option va_E) (x a b : Int32) : Met l yX6_within [Cond.code yX6_within cX6_within 3 (some .boolean)] { frames := 0, cells := 0, slots := 0, locals := 0 } (WP [.int (x), .int (a), .int (b)] D cy z0 ad V) (vp_Si (fun r => r = b2i (decide (a ≤ x) && decide (x ≤ b)))) 0 0 (fun _ => False) := by
  refine met_of (by decide) (Nat.le_of_ble_eq_true rfl) (fun p e s m below meth c hx hb hr hml hown hlocks hnm hK hz hW ls hl => ?_)
  have hown : s.vm.findClass RX6 = some m.cls := hown
  have hl : lv_has ls 3 [(0, .int (x)), (1, .int (a)), (2, .int (b))] := hl
  refine lv_iload_n hx hb dX6_within_0 rfl (lv_at hl 0 rfl) ?_
  refine lv_iload_n hx hb dX6_within_1 rfl (lv_at hl 1 rfl) ?_
  refine lv_icmp_lt (tgt := 14) hx hb dX6_within_2 (by decide) (fun c2 => ?_) (fun c2 => ?_)
  · skip
    refine lv_iconst (v := nI 0) hx hb dX6_within_14 (by decide) ?_
    exact rz hx hb hr hlocks dX6_within_15 (by first | exact b2i_n | rfl | decide) (by simp_all [b2i, nI, Int32.not_lt, ← Int32.not_le])
  · skip
    refine lv_iload_n hx hb dX6_within_5 rfl (lv_at hl 0 rfl) ?_
    refine lv_iload_n hx hb dX6_within_6 rfl (lv_at hl 2 rfl) ?_
    refine lv_icmp_gt (tgt := 14) hx hb dX6_within_7 (by decide) (fun c7 => ?_) (fun c7 => ?_)
    · skip
      refine lv_iconst (v := nI 0) hx hb dX6_within_14 (by decide) ?_
      exact rz hx hb hr hlocks dX6_within_15 (by first | exact b2i_n | rfl | decide) (by simp_all [b2i, nI, Int32.not_lt, ← Int32.not_le])
    · skip
      refine lv_iconst (v := nI 1) hx hb dX6_within_10 (by decide) ?_
      refine lv_goto (tgt := 15) hx hb dX6_within_11 (by decide) ?_
      exact rz hx hb hr hlocks dX6_within_15 (by first | exact b2i_n | rfl | decide) (by simp_all [b2i, nI, Int32.not_lt, ← Int32.not_le])

-- oneIf: the truth value itself
set_option maxHeartbeats 4000000 in
set_option maxRecDepth 100000 in
theorem c_X6_oneIf (l : Launch) (D : va_G) (cy : Nat → ClassId) (z0 : Nat) (ad : Nat → Nat) (V : Nat → Option va_E) (b : Bool) : Met l yX6_oneIf [Cond.code yX6_oneIf cX6_oneIf 1 (some .int)] { frames := 0, cells := 0, slots := 0, locals := 0 } (WP [.int (b2i b)] D cy z0 ad V) (vp_Si (fun r => r = b2i b)) 0 0 (fun _ => False) := by
  refine met_of (by decide) (Nat.le_of_ble_eq_true rfl) (fun p e s m below meth c hx hb hr hml hown hlocks hnm hK hz hW ls hl => ?_)
  have hown : s.vm.findClass RX6 = some m.cls := hown
  have hl : lv_has ls 1 [(0, .int (b2i b))] := hl
  refine lv_iload_n hx hb dX6_oneIf_0 rfl (lv_at hl 0 rfl) ?_
  refine lv_if_eq (tgt := 8) hx hb dX6_oneIf_1 (by decide) (fun c1 => ?_) (fun c1 => ?_)
  · skip
    have c1 := b2i_0.mp c1
    refine lv_iconst (v := nI 0) hx hb dX6_oneIf_8 (by decide) ?_
    exact ri hx hb hr hlocks dX6_oneIf_9 (by simp_all [b2i, nI])
  · skip
    have c1 := b2i_1.mp c1
    refine lv_iconst (v := nI 1) hx hb dX6_oneIf_4 (by decide) ?_
    refine lv_goto (tgt := 9) hx hb dX6_oneIf_5 (by decide) ?_
    exact ri hx hb hr hlocks dX6_oneIf_9 (by simp_all [b2i, nI])

-- sum of the first n
set_option maxHeartbeats 4000000 in
set_option maxRecDepth 100000 in
theorem c_X2_sum (l : Launch) (D : va_G) (cy : Nat → ClassId) (z0 : Nat) (ad : Nat → Nat) (V : Nat → Option va_E) (L N n : Nat) (f : Nat → Int32) (hV : V L = some (.inl (cy 0, N, .inl f))) (hn : n ≤ N) (hN : N < 2147483648) : Met l yX2_sum [Cond.code yX2_sum cX2_sum 5 (some .long)] { frames := 0, cells := 0, slots := 0, locals := 0 } (WP [.ref (ad L), .int (nI n)] D cy z0 ad V) (vp_Sl (fun r => r = sumL f n)) 0 0 (fun _ => False) := by
  refine met_of (by decide) (Nat.le_of_ble_eq_true rfl) (fun p e s m below meth c hx hb hr hml hown hlocks hnm hK hz hW ls hl => ?_)
  have hown : s.vm.findClass RX2 = some m.cls := hown
  have hl : lv_has ls 5 [(0, .ref (ad L)), (1, .int (nI n))] := hl
  refine lv_lconst (v := 0) hx hb dX2_sum_0 (by decide) ?_
  refine lv_lstore_n (lv' := [(2, .long (0)), (0, .ref (ad L)), (1, .int (nI n))]) hx hb dX2_sum_1 rfl hl (by decide) rfl (fun ls hl => ?_)
  refine lv_iconst (v := nI 0) hx hb dX2_sum_2 (by decide) ?_
  refine lv_istore (lv' := [(4, .int (nI 0)), (2, .long (0)), (0, .ref (ad L)), (1, .int (nI n))]) hx hb dX2_sum_3 hl (by decide) rfl (fun ls hl => ?_)
  refine wl (ι := Nat) (fun i => n - i) (fun i g => (i ≤ n) ∧ ∃ ls, g = F0 m 5 ls [] ∧ lv_has ls 5 [(0, .ref (ad L)), (1, .int (nI n)), (2, .long (sumL f i)), (4, .int (nI i))]) ?_ (0) _ ⟨Nat.zero_le _, ls, rfl, lv_sub hl [2, 3, 1, 0] rfl⟩
  intro i g hg ih
  obtain ⟨hi, ls, rfl, hl⟩ := hg
  refine lv_iload hx hb dX2_sum_5 (lv_at hl 3 rfl) ?_
  refine lv_iload_n hx hb dX2_sum_7 rfl (lv_at hl 1 rfl) ?_
  refine lv_icmp_ge (tgt := 25) hx hb dX2_sum_8 (by decide) (fun c8 => ?_) (fun c8 => ?_)
  · skip
    have c8 := nI_le' c8 (by omega) (by omega)
    refine lv_lload_n hx hb dX2_sum_25 rfl (lv_at hl 2 rfl) ?_
    exact rl hx hb hr hlocks dX2_sum_26 (by have e9 : i = n := (by omega); rw [e9])
  · skip
    have c8 := nI_nle' c8 (by omega) (by omega)
    refine lv_lload_n hx hb dX2_sum_11 rfl (lv_at hl 2 rfl) ?_
    refine lv_aload_n hx hb dX2_sum_12 rfl (lv_at hl 0 rfl) ?_
    refine lv_iload hx hb dX2_sum_13 (lv_at hl 3 rfl) ?_
    refine w_iald hx hb hK hW hV (j := i) (rfl) (by omega) (by omega) dX2_sum_15 ?_
    refine lv_i2l (v := (f i).toInt64) hx hb dX2_sum_16 rfl ?_
    refine lv_ladd hx hb dX2_sum_17 ?_
    refine asl (y := sumL f (i + 1)) (rfl) ?_
    refine lv_lstore_n (lv' := [(2, .long (sumL f (i + 1))), (0, .ref (ad L)), (1, .int (nI n)), (4, .int (nI i))]) hx hb dX2_sum_18 rfl hl (by decide) rfl (fun ls hl => ?_)
    refine lv_iinc (v := nI (i + 1)) (lv' := [(4, .int (nI (i + 1))), (2, .long (sumL f (i + 1))), (0, .ref (ad L)), (1, .int (nI n))]) hx hb dX2_sum_19 hl (k := 3) rfl (by rw [show Int32.ofInt 1 = nI 1 from by decide]; exact nI_add _ _) (by decide) rfl (fun ls hl => ?_)
    refine lv_goto (tgt := 5) hx hb dX2_sum_22 (by decide) ?_
    exact ih (i + 1) _ ⟨by omega, ls, rfl, lv_sub hl [2, 3, 1, 0] rfl⟩ (by omega)

-- how many of the places a .. b - 1 hold x
set_option maxHeartbeats 4000000 in
set_option maxRecDepth 100000 in
theorem c_X2_countOf (l : Launch) (D : va_G) (cy : Nat → ClassId) (z0 : Nat) (ad : Nat → Nat) (V : Nat → Option va_E) (L N a b : Nat) (x : Int32) (f : Nat → Int32) (hV : V L = some (.inl (cy 0, N, .inl f))) (ha : a ≤ b) (hb0 : b ≤ N) (hN : N < 2147483648) : Met l yX2_countOf [Cond.code yX2_countOf cX2_countOf 6 (some .int)] { frames := 0, cells := 0, slots := 0, locals := 0 } (WP [.int (x), .ref (ad L), .int (nI a), .int (nI b)] D cy z0 ad V) (vp_Si (fun r => r = nI (cnt f x a (b - a)))) 0 0 (fun _ => False) := by
  refine met_of (by decide) (Nat.le_of_ble_eq_true rfl) (fun p e s m below meth c hx hb hr hml hown hlocks hnm hK hz hW ls hl => ?_)
  have hown : s.vm.findClass RX2 = some m.cls := hown
  have hl : lv_has ls 6 [(0, .int (x)), (1, .ref (ad L)), (2, .int (nI a)), (3, .int (nI b))] := hl
  refine lv_iconst (v := nI 0) hx hb dX2_countOf_0 (by decide) ?_
  refine lv_istore (lv' := [(4, .int (nI 0)), (0, .int (x)), (1, .ref (ad L)), (2, .int (nI a)), (3, .int (nI b))]) hx hb dX2_countOf_1 hl (by decide) rfl (fun ls hl => ?_)
  refine lv_iload_n hx hb dX2_countOf_3 rfl (lv_at hl 3 rfl) ?_
  refine lv_istore (lv' := [(5, .int (nI a)), (4, .int (nI 0)), (0, .int (x)), (1, .ref (ad L)), (2, .int (nI a)), (3, .int (nI b))]) hx hb dX2_countOf_4 hl (by decide) rfl (fun ls hl => ?_)
  refine wl (ι := Nat) (fun k => b - a - k) (fun k g => (a + k ≤ b) ∧ ∃ ls, g = F0 m 6 ls [] ∧ lv_has ls 6 [(0, .int (x)), (1, .ref (ad L)), (3, .int (nI b)), (4, .int (nI (cnt f x a k))), (5, .int (nI (a + k)))]) ?_ (0) _ ⟨by omega, ls, rfl, lv_sub hl [2, 3, 5, 1, 0] rfl⟩
  intro k g hg ih
  obtain ⟨hi, ls, rfl, hl⟩ := hg
  refine lv_iload hx hb dX2_countOf_6 (lv_at hl 4 rfl) ?_
  refine lv_iload_n hx hb dX2_countOf_8 rfl (lv_at hl 2 rfl) ?_
  refine lv_icmp_ge (tgt := 29) hx hb dX2_countOf_9 (by decide) (fun c9 => ?_) (fun c9 => ?_)
  · skip
    have c9 := nI_le' c9 (by omega) (by omega)
    refine lv_iload hx hb dX2_countOf_29 (lv_at hl 3 rfl) ?_
    exact ri hx hb hr hlocks dX2_countOf_31 (by have e9 : k = b - a := (by omega); rw [e9])
  · skip
    have c9 := nI_nle' c9 (by omega) (by omega)
    refine jl (pcj := 23) (st := []) (nL := 6) (lv := [(4, .int (nI (cnt f x a (k + 1)))), (0, .int (x)), (1, .ref (ad L)), (3, .int (nI b)), (5, .int (nI (a + k)))]) (fun K => ?_) (fun ls hl => ?_)
    · skip
      refine lv_aload_n hx hb dX2_countOf_12 rfl (lv_at hl 1 rfl) ?_
      refine lv_iload hx hb dX2_countOf_13 (lv_at hl 4 rfl) ?_
      refine w_iald hx hb hK hW hV (j := a + k) (rfl) (by omega) (by omega) dX2_countOf_15 ?_
      refine lv_iload_n hx hb dX2_countOf_16 rfl (lv_at hl 0 rfl) ?_
      refine lv_icmp_ne (tgt := 23) hx hb dX2_countOf_17 (by decide) (fun c17 => ?_) (fun c17 => ?_)
      · skip
        have hq4 : (nI (cnt f x a k)) = (nI (cnt f x a (k + 1))) := by simp [cnt, c17]
        rw [hq4] at hl
        exact K ls (lv_sub hl [3, 0, 1, 2, 4] rfl)
      · skip
        refine lv_iinc (v := nI (cnt f x a k + 1)) (lv' := [(4, .int (nI (cnt f x a k + 1))), (0, .int (x)), (1, .ref (ad L)), (3, .int (nI b)), (5, .int (nI (a + k)))]) hx hb dX2_countOf_20 hl (k := 3) rfl (by rw [show Int32.ofInt 1 = nI 1 from by decide]; exact nI_add _ _) (by decide) rfl (fun ls hl => ?_)
        have hq4 : (nI (cnt f x a k + 1)) = (nI (cnt f x a (k + 1))) := by simp [cnt, c17]
        rw [hq4] at hl
        exact K ls (lv_sub hl [0, 1, 2, 3, 4] rfl)
    · skip
      refine lv_iinc (v := nI (a + (k + 1))) (lv' := [(5, .int (nI (a + (k + 1)))), (4, .int (nI (cnt f x a (k + 1)))), (0, .int (x)), (1, .ref (ad L)), (3, .int (nI b))]) hx hb dX2_countOf_23 hl (k := 4) rfl (by rw [show Int32.ofInt 1 = nI 1 from by decide]; exact nI_add _ _) (by decide) rfl (fun ls hl => ?_)
      refine lv_goto (tgt := 6) hx hb dX2_countOf_26 (by decide) ?_
      exact ih (k + 1) _ ⟨by omega, ls, rfl, lv_sub hl [2, 3, 4, 1, 0] rfl⟩ (by omega)
