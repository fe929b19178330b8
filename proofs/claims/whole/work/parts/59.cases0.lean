set_option maxHeartbeats 4000000 in
set_option maxRecDepth 100000 in
theorem lc_0 {p : Program} {l : Launch} {e : Env} {s : State} {m : MethodId} {below : List Frame} {meth : Method} {c : Code} {b L : Nat} {xs : Nat → Int32} {D : va_G} {cy : Nat → ClassId} {z0 i n k P K : Nat} {ce : Int32} {ρ : RuT} {pl : Nat → PlT} {sn : Nat → SnT} {ad : Nat → Nat} {V : Nat → Option va_E} {H : Heap} {locs : List Loc} {ls : Array Slot} (hL : L ≤ 3072) (C0 : lw_At p s m meth c b L xs) (hK : KB D cy s) (hz : z0 ≤ s.heap.size) (hz2 : s.heap.size ≤ z0) (hi : 6 * i + 6 ≤ L) (hX : isX ad V cy n k P K ce ρ pl sn) (hM : isM ad V cy n k P K ce ρ pl sn) (hG : gdX i n k P K ρ pl sn) (hW : HW D z0 ad V H) (hS : va_S (AA z0) s.heap H locs) (hl : lv_has ls 4 [(0, .ref b), (1, .ref (ad 0)), (2, .ref (ad 2000)), (3, .int (nI (6 * i)))]) (KK : lcK p l e s m below meth c b D cy z0 i) : W p l e room_1 s m #[Value.ref b] below meth c H locs (200 + 80 * i) (10000 + 1333 * i) (lw_Z below #[Value.ref b] s) (F0 m 128 ls []) := by
  obtain ⟨hx, hb, hr, hml, hown, hts, hXs, hbl, hlocks, hgv⟩ := id C0
  have hown : s.vm.findClass RL = some m.cls := hown
  have hbA : ¬ AA z0 b := fun q => absurd (Nat.lt_of_lt_of_le hbl hz2) (Nat.not_lt.mpr q)
  have hO := hG.1
  have hX0 := hX.1
  obtain ⟨fs7, h2000⟩ := hM.o
  refine lv_aload_n hx hb dL_law_128 rfl (lv_at hl 1 rfl) ?_
  refine ci (va_runV (As := []) (rest := []) ⟨hx, hb, hml, hown, hK.1.use _⟩ (c_X6_object l D cy z0 ad V n k P K ce ρ pl sn hX hO ) (k_L_X6_object hK.1 rfl rfl ⟨Nat.le_of_ble_eq_true rfl, Nat.le_of_ble_eq_true rfl⟩) (preV hK (Nat.le_trans hz hS.1) hW hX0 rfl) rfl rfl hl.1 rfl (lv_room (Nat.le_of_ble_eq_true rfl)) dL_law_129 ⟨by show 200 + 80 * i + 0 ≤ 600000; omega, by show 10000 + 1333 * i + 0 ≤ 7302250; omega⟩) hS (fun r129 ad129 Vc129 H locs h129 hW hS => ?_)
  obtain ⟨hr1, e1, hX1, hf1⟩ := h129
  obtain rfl : ad = ad129 := e1.symm
  have hM1 : isM ad Vc129 cy n k P K ce ρ pl sn := hM.mv (fun L hL => ⟨hf1 L hL, rfl⟩)
  have hr1 : r129 = (xObject n k P ρ pl).1 := hr1
  subst hr1
  obtain ⟨fs8, h2001⟩ := hM1.o
  refine lv_aload_n hx hb dL_law_132 rfl (lv_at hl 2 rfl) ?_
  refine ci (va_runV (As := []) (rest := [.int ((xObject n k P ρ pl).1)]) ⟨hx, hb, hml, hown, hK.1.use _⟩ (c_X7_object l D cy z0 ad Vc129 i n k P K ce ρ pl sn hM1 hG (by omega) ) (k_L_X7_object hK.1 rfl rfl ⟨Nat.le_of_ble_eq_true rfl, Nat.le_of_ble_eq_true rfl⟩) (preV hK (Nat.le_trans hz hS.1) hW h2001 rfl) rfl rfl hl.1 rfl (lv_room (Nat.le_of_ble_eq_true rfl)) dL_law_133 ⟨by show 200 + 80 * i + 0 + 0 ≤ 600000; omega, by show 10000 + 1333 * i + 0 + 0 ≤ 7302250; omega⟩) hS (fun r133 ad133 Vc133 H locs h133 hW hS => ?_)
  obtain ⟨hr2, e2, hM2, hf2⟩ := h133
  obtain rfl : ad = ad133 := e2.symm
  have hr2 : r133 = (xObject n k P ρ pl).1 := hr2
  subst hr2
  have hG2 : gdX (i + 1) (xObject n k P ρ pl).2.1 k P K ρ (xObject n k P ρ pl).2.2 sn := gdX_object hG (by omega)
  have hX2 := hX1.mv hG2.1 hf2
  refine lv_icmp_eq (tgt := 854) hx hb dL_law_136 (by decide) (fun c136 => ?_) (fun c136 => ?_)
  · skip
    refine W.widen (k := 200 + 80 * (i + 1)) (n := 10000 + 1333 * (i + 1)) (by omega) (by omega) ?_
    exact KK _ _ _ _ _ _ _ _ _ _ _ _ ls hX2 hM2 hG2 hW hS (lv_sub hl [0, 1, 2, 3] rfl)
  · skip
    exact absurd rfl c136

set_option maxHeartbeats 4000000 in
set_option maxRecDepth 100000 in
theorem lc_1 {p : Program} {l : Launch} {e : Env} {s : State} {m : MethodId} {below : List Frame} {meth : Method} {c : Code} {b L : Nat} {xs : Nat → Int32} {D : va_G} {cy : Nat → ClassId} {z0 i n k P K : Nat} {ce : Int32} {ρ : RuT} {pl : Nat → PlT} {sn : Nat → SnT} {ad : Nat → Nat} {V : Nat → Option va_E} {H : Heap} {locs : List Loc} {ls : Array Slot} (hL : L ≤ 3072) (C0 : lw_At p s m meth c b L xs) (hK : KB D cy s) (hz : z0 ≤ s.heap.size) (hz2 : s.heap.size ≤ z0) (hi : 6 * i + 6 ≤ L) (hX : isX ad V cy n k P K ce ρ pl sn) (hM : isM ad V cy n k P K ce ρ pl sn) (hG : gdX i n k P K ρ pl sn) (hW : HW D z0 ad V H) (hS : va_S (AA z0) s.heap H locs) (hl : lv_has ls 4 [(0, .ref b), (1, .ref (ad 0)), (2, .ref (ad 2000)), (3, .int (nI (6 * i)))]) (KK : lcK p l e s m below meth c b D cy z0 i) : W p l e room_1 s m #[Value.ref b] below meth c H locs (200 + 80 * i) (10000 + 1333 * i) (lw_Z below #[Value.ref b] s) (F0 m 141 ls []) := by
  obtain ⟨hx, hb, hr, hml, hown, hts, hXs, hbl, hlocks, hgv⟩ := id C0
  have hown : s.vm.findClass RL = some m.cls := hown
  have hbA : ¬ AA z0 b := fun q => absurd (Nat.lt_of_lt_of_le hbl hz2) (Nat.not_lt.mpr q)
  have hO := hG.1
  have hX0 := hX.1
  obtain ⟨fs7, h2000⟩ := hM.o
  refine lv_aload_n hx hb dL_law_141 rfl (lv_at hl 1 rfl) ?_
  refine lv_aload_n hx hb dL_law_142 rfl (lv_at hl 0 rfl) ?_
  refine lv_iload_n hx hb dL_law_143 rfl (lv_at hl 3 rfl) ?_
  refine lv_iconst (v := nI 1) hx hb dL_law_144 (by decide) ?_
  refine lv_iadd hx hb dL_law_145 ?_
  refine asi (y := nI ((6 * i) + 1)) (nI_add _ _) ?_
  refine va_sld hx hb hXs hbl hbA hS (vp_in_nI (n := (6 * i) + 1) (N := L) (by omega) (by omega)) dL_law_146 ?_
  refine asi (y := xs ((6 * i) + 1)) (by rw [nI_clamp (by omega)]) ?_
  refine lv_aload_n hx hb dL_law_147 rfl (lv_at hl 0 rfl) ?_
  refine lv_iload_n hx hb dL_law_148 rfl (lv_at hl 3 rfl) ?_
  refine lv_iconst (v := nI 2) hx hb dL_law_149 (by decide) ?_
  refine lv_iadd hx hb dL_law_150 ?_
  refine asi (y := nI ((6 * i) + 2)) (nI_add _ _) ?_
  refine va_sld hx hb hXs hbl hbA hS (vp_in_nI (n := (6 * i) + 2) (N := L) (by omega) (by omega)) dL_law_151 ?_
  refine asi (y := xs ((6 * i) + 2)) (by rw [nI_clamp (by omega)]) ?_
  refine lv_aload_n hx hb dL_law_152 rfl (lv_at hl 0 rfl) ?_
  refine lv_iload_n hx hb dL_law_153 rfl (lv_at hl 3 rfl) ?_
  refine lv_iconst (v := nI 3) hx hb dL_law_154 (by decide) ?_
  refine lv_iadd hx hb dL_law_155 ?_
  refine asi (y := nI ((6 * i) + 3)) (nI_add _ _) ?_
  refine va_sld hx hb hXs hbl hbA hS (vp_in_nI (n := (6 * i) + 3) (N := L) (by omega) (by omega)) dL_law_156 ?_
  refine asi (y := xs ((6 * i) + 3)) (by rw [nI_clamp (by omega)]) ?_
  refine lv_aload_n hx hb dL_law_157 rfl (lv_at hl 0 rfl) ?_
  refine lv_iload_n hx hb dL_law_158 rfl (lv_at hl 3 rfl) ?_
  refine lv_iconst (v := nI 4) hx hb dL_law_159 (by decide) ?_
  refine lv_iadd hx hb dL_law_160 ?_
  refine asi (y := nI ((6 * i) + 4)) (nI_add _ _) ?_
  refine va_sld hx hb hXs hbl hbA hS (vp_in_nI (n := (6 * i) + 4) (N := L) (by omega) (by omega)) dL_law_161 ?_
  refine asi (y := xs ((6 * i) + 4)) (by rw [nI_clamp (by omega)]) ?_
  refine lv_aload_n hx hb dL_law_162 rfl (lv_at hl 0 rfl) ?_
  refine lv_iload_n hx hb dL_law_163 rfl (lv_at hl 3 rfl) ?_
  refine lv_iconst (v := nI 5) hx hb dL_law_164 (by decide) ?_
  refine lv_iadd hx hb dL_law_165 ?_
  refine asi (y := nI ((6 * i) + 5)) (nI_add _ _) ?_
  refine va_sld hx hb hXs hbl hbA hS (vp_in_nI (n := (6 * i) + 5) (N := L) (by omega) (by omega)) dL_law_166 ?_
  refine asi (y := xs ((6 * i) + 5)) (by rw [nI_clamp (by omega)]) ?_
  refine ci (va_runV (As := [.int (xs ((6 * i) + 1)), .int (xs ((6 * i) + 2)), .int (xs ((6 * i) + 3)), .int (xs ((6 * i) + 4)), .int (xs ((6 * i) + 5))]) (rest := []) ⟨hx, hb, hml, hown, hK.1.use _⟩ (c_X6_rule l D cy z0 ad V n k P K ce ρ pl sn hX hO (xs (6 * i + 1)) (xs (6 * i + 2)) (xs (6 * i + 3)) (xs (6 * i + 4)) (xs (6 * i + 5))) (k_L_X6_rule hK.1 rfl rfl ⟨Nat.le_of_ble_eq_true rfl, Nat.le_of_ble_eq_true rfl⟩) (preV hK (Nat.le_trans hz hS.1) hW hX0 rfl) rfl rfl hl.1 rfl (lv_room (Nat.le_of_ble_eq_true rfl)) dL_law_167 ⟨by show 200 + 80 * i + 1 ≤ 600000; omega, by show 10000 + 1333 * i + 5 ≤ 7302250; omega⟩) hS (fun r167 ad167 Vc167 H locs h167 hW hS => ?_)
  obtain ⟨hr1, hX1, hf1, ha0⟩ := h167
  have hM1 : isM ad167 Vc167 cy n k P K ce ρ pl sn := hM.mv hf1
  have ha2 : ad167 2000 = ad 2000 := (hf1 2000 (by omega)).2
  have ha0 : ad167 0 = ad 0 := ha0
  have hl : lv_has ls 4 [(0, .ref (b)), (1, .ref (ad167 (0))), (2, .ref (ad167 (2000))), (3, .int (nI (6 * i)))] := by rw [ha0, ha2]; exact lv_sub hl [0, 1, 2, 3] rfl
  have hr1 : r167 = (xRule n k P ρ pl (xs (6 * i + 1)) (xs (6 * i + 2)) (xs (6 * i + 3)) (xs (6 * i + 4)) (xs (6 * i + 5))).1 := hr1
  subst hr1
  obtain ⟨fs8, h2001⟩ := hM1.o
  refine lv_aload_n hx hb dL_law_170 rfl (lv_at hl 2 rfl) ?_
  refine lv_aload_n hx hb dL_law_171 rfl (lv_at hl 0 rfl) ?_
  refine lv_iload_n hx hb dL_law_172 rfl (lv_at hl 3 rfl) ?_
  refine lv_iconst (v := nI 1) hx hb dL_law_173 (by decide) ?_
  refine lv_iadd hx hb dL_law_174 ?_
  refine asi (y := nI ((6 * i) + 1)) (nI_add _ _) ?_
  refine va_sld hx hb hXs hbl hbA hS (vp_in_nI (n := (6 * i) + 1) (N := L) (by omega) (by omega)) dL_law_175 ?_
  refine asi (y := xs ((6 * i) + 1)) (by rw [nI_clamp (by omega)]) ?_
  refine lv_aload_n hx hb dL_law_176 rfl (lv_at hl 0 rfl) ?_
  refine lv_iload_n hx hb dL_law_177 rfl (lv_at hl 3 rfl) ?_
  refine lv_iconst (v := nI 2) hx hb dL_law_178 (by decide) ?_
  refine lv_iadd hx hb dL_law_179 ?_
  refine asi (y := nI ((6 * i) + 2)) (nI_add _ _) ?_
  refine va_sld hx hb hXs hbl hbA hS (vp_in_nI (n := (6 * i) + 2) (N := L) (by omega) (by omega)) dL_law_180 ?_
  refine asi (y := xs ((6 * i) + 2)) (by rw [nI_clamp (by omega)]) ?_
  refine lv_aload_n hx hb dL_law_181 rfl (lv_at hl 0 rfl) ?_
  refine lv_iload_n hx hb dL_law_182 rfl (lv_at hl 3 rfl) ?_
  refine lv_iconst (v := nI 3) hx hb dL_law_183 (by decide) ?_
  refine lv_iadd hx hb dL_law_184 ?_
  refine asi (y := nI ((6 * i) + 3)) (nI_add _ _) ?_
  refine va_sld hx hb hXs hbl hbA hS (vp_in_nI (n := (6 * i) + 3) (N := L) (by omega) (by omega)) dL_law_185 ?_
  refine asi (y := xs ((6 * i) + 3)) (by rw [nI_clamp (by omega)]) ?_
  refine lv_aload_n hx hb dL_law_186 rfl (lv_at hl 0 rfl) ?_
  refine lv_iload_n hx hb dL_law_187 rfl (lv_at hl 3 rfl) ?_
  refine lv_iconst (v := nI 4) hx hb dL_law_188 (by decide) ?_
  refine lv_iadd hx hb dL_law_189 ?_
  refine asi (y := nI ((6 * i) + 4)) (nI_add _ _) ?_
  refine va_sld hx hb hXs hbl hbA hS (vp_in_nI (n := (6 * i) + 4) (N := L) (by omega) (by omega)) dL_law_190 ?_
  refine asi (y := xs ((6 * i) + 4)) (by rw [nI_clamp (by omega)]) ?_
  refine lv_aload_n hx hb dL_law_191 rfl (lv_at hl 0 rfl) ?_
  refine lv_iload_n hx hb dL_law_192 rfl (lv_at hl 3 rfl) ?_
  refine lv_iconst (v := nI 5) hx hb dL_law_193 (by decide) ?_
  refine lv_iadd hx hb dL_law_194 ?_
  refine asi (y := nI ((6 * i) + 5)) (nI_add _ _) ?_
  refine va_sld hx hb hXs hbl hbA hS (vp_in_nI (n := (6 * i) + 5) (N := L) (by omega) (by omega)) dL_law_195 ?_
  refine asi (y := xs ((6 * i) + 5)) (by rw [nI_clamp (by omega)]) ?_
  refine ci (va_runV (As := [.int (xs ((6 * i) + 1)), .int (xs ((6 * i) + 2)), .int (xs ((6 * i) + 3)), .int (xs ((6 * i) + 4)), .int (xs ((6 * i) + 5))]) (rest := [.int ((xRule n k P ρ pl (xs (6 * i + 1)) (xs (6 * i + 2)) (xs (6 * i + 3)) (xs (6 * i + 4)) (xs (6 * i + 5))).1)]) ⟨hx, hb, hml, hown, hK.1.use _⟩ (c_X7_rule l D cy z0 ad167 Vc167 i n k P K ce ρ pl sn hM1 hG (by omega) (xs (6 * i + 1)) (xs (6 * i + 2)) (xs (6 * i + 3)) (xs (6 * i + 4)) (xs (6 * i + 5))) (k_L_X7_rule hK.1 rfl rfl ⟨Nat.le_of_ble_eq_true rfl, Nat.le_of_ble_eq_true rfl⟩) (preV hK (Nat.le_trans hz hS.1) hW h2001 rfl) rfl rfl hl.1 rfl (lv_room (Nat.le_of_ble_eq_true rfl)) dL_law_196 ⟨by show 200 + 80 * i + 1 + 0 ≤ 600000; omega, by show 10000 + 1333 * i + 5 + 0 ≤ 7302250; omega⟩) hS (fun r196 ad196 Vc196 H locs h196 hW hS => ?_)
  obtain ⟨hr2, e2, hM2, hf2⟩ := h196
  obtain rfl : ad167 = ad196 := e2.symm
  have hr2 : r196 = (xRule n k P ρ pl (xs (6 * i + 1)) (xs (6 * i + 2)) (xs (6 * i + 3)) (xs (6 * i + 4)) (xs (6 * i + 5))).1 := hr2
  subst hr2
  have hG2 : gdX (i + 1) n (xRule n k P ρ pl (xs (6 * i + 1)) (xs (6 * i + 2)) (xs (6 * i + 3)) (xs (6 * i + 4)) (xs (6 * i + 5))).2.1 P K (xRule n k P ρ pl (xs (6 * i + 1)) (xs (6 * i + 2)) (xs (6 * i + 3)) (xs (6 * i + 4)) (xs (6 * i + 5))).2.2.1 (xRule n k P ρ pl (xs (6 * i + 1)) (xs (6 * i + 2)) (xs (6 * i + 3)) (xs (6 * i + 4)) (xs (6 * i + 5))).2.2.2 sn := gdX_rule hG
  have hX2 := hX1.mv hG2.1 hf2
  refine lv_icmp_eq (tgt := 854) hx hb dL_law_199 (by decide) (fun c199 => ?_) (fun c199 => ?_)
  · skip
    refine W.widen (k := 200 + 80 * (i + 1)) (n := 10000 + 1333 * (i + 1)) (by omega) (by omega) ?_
    exact KK _ _ _ _ _ _ _ _ _ _ _ _ ls hX2 hM2 hG2 hW hS (lv_sub hl [0, 1, 2, 3] rfl)
  · skip
    exact absurd rfl c199

set_option maxHeartbeats 4000000 in
set_option maxRecDepth 100000 in
theorem lc_2 {p : Program} {l : Launch} {e : Env} {s : State} {m : MethodId} {below : List Frame} {meth : Method} {c : Code} {b L : Nat} {xs : Nat → Int32} {D : va_G} {cy : Nat → ClassId} {z0 i n k P K : Nat} {ce : Int32} {ρ : RuT} {pl : Nat → PlT} {sn : Nat → SnT} {ad : Nat → Nat} {V : Nat → Option va_E} {H : Heap} {locs : List Loc} {ls : Array Slot} (hL : L ≤ 3072) (C0 : lw_At p s m meth c b L xs) (hK : KB D cy s) (hz : z0 ≤ s.heap.size) (hz2 : s.heap.size ≤ z0) (hi : 6 * i + 6 ≤ L) (hX : isX ad V cy n k P K ce ρ pl sn) (hM : isM ad V cy n k P K ce ρ pl sn) (hG : gdX i n k P K ρ pl sn) (hW : HW D z0 ad V H) (hS : va_S (AA z0) s.heap H locs) (hl : lv_has ls 4 [(0, .ref b), (1, .ref (ad 0)), (2, .ref (ad 2000)), (3, .int (nI (6 * i)))]) (KK : lcK p l e s m below meth c b D cy z0 i) : W p l e room_1 s m #[Value.ref b] below meth c H locs (200 + 80 * i) (10000 + 1333 * i) (lw_Z below #[Value.ref b] s) (F0 m 204 ls []) := by
  obtain ⟨hx, hb, hr, hml, hown, hts, hXs, hbl, hlocks, hgv⟩ := id C0
  have hown : s.vm.findClass RL = some m.cls := hown
  have hbA : ¬ AA z0 b := fun q => absurd (Nat.lt_of_lt_of_le hbl hz2) (Nat.not_lt.mpr q)
  have hO := hG.1
  have hX0 := hX.1
  obtain ⟨fs7, h2000⟩ := hM.o
  refine lv_aload_n hx hb dL_law_204 rfl (lv_at hl 1 rfl) ?_
  refine lv_aload_n hx hb dL_law_205 rfl (lv_at hl 0 rfl) ?_
  refine lv_iload_n hx hb dL_law_206 rfl (lv_at hl 3 rfl) ?_
  refine lv_iconst (v := nI 1) hx hb dL_law_207 (by decide) ?_
  refine lv_iadd hx hb dL_law_208 ?_
  refine asi (y := nI ((6 * i) + 1)) (nI_add _ _) ?_
  refine va_sld hx hb hXs hbl hbA hS (vp_in_nI (n := (6 * i) + 1) (N := L) (by omega) (by omega)) dL_law_209 ?_
  refine asi (y := xs ((6 * i) + 1)) (by rw [nI_clamp (by omega)]) ?_
  refine lv_aload_n hx hb dL_law_210 rfl (lv_at hl 0 rfl) ?_
  refine lv_iload_n hx hb dL_law_211 rfl (lv_at hl 3 rfl) ?_
  refine lv_iconst (v := nI 2) hx hb dL_law_212 (by decide) ?_
  refine lv_iadd hx hb dL_law_213 ?_
  refine asi (y := nI ((6 * i) + 2)) (nI_add _ _) ?_
  refine va_sld hx hb hXs hbl hbA hS (vp_in_nI (n := (6 * i) + 2) (N := L) (by omega) (by omega)) dL_law_214 ?_
  refine asi (y := xs ((6 * i) + 2)) (by rw [nI_clamp (by omega)]) ?_
  refine jl (pcj := 228) (st := [.int (b2i (decide (¬ xs (6 * i + 3) = 0))), .int (xs ((6 * i) + 2)), .int (xs ((6 * i) + 1)), .ref (ad (0))]) (nL := 4) (lv := [(0, .ref (b)), (1, .ref (ad (0))), (2, .ref (ad (2000))), (3, .int (nI (6 * i)))]) (fun KJ => ?_) (fun ls hl => ?_)
  · skip
    refine lv_aload_n hx hb dL_law_215 rfl (lv_at hl 0 rfl) ?_
    refine lv_iload_n hx hb dL_law_216 rfl (lv_at hl 3 rfl) ?_
    refine lv_iconst (v := nI 3) hx hb dL_law_217 (by decide) ?_
    refine lv_iadd hx hb dL_law_218 ?_
    refine asi (y := nI ((6 * i) + 3)) (nI_add _ _) ?_
    refine va_sld hx hb hXs hbl hbA hS (vp_in_nI (n := (6 * i) + 3) (N := L) (by omega) (by omega)) dL_law_219 ?_
    refine asi (y := xs ((6 * i) + 3)) (by rw [nI_clamp (by omega)]) ?_
    refine lv_if_eq (tgt := 227) hx hb dL_law_220 (by decide) (fun c220 => ?_) (fun c220 => ?_)
    · skip
      refine lv_iconst (v := nI 0) hx hb dL_law_227 (by decide) ?_
      refine asi (y := b2i (decide (¬ xs (6 * i + 3) = 0))) (by simp [b2i, nI, c220]) ?_
      exact KJ ls (lv_sub hl [0, 1, 2, 3] rfl)
    · skip
      refine lv_iconst (v := nI 1) hx hb dL_law_223 (by decide) ?_
      refine lv_goto (tgt := 228) hx hb dL_law_224 (by decide) ?_
      refine asi (y := b2i (decide (¬ xs (6 * i + 3) = 0))) (by simp [b2i, nI, c220]) ?_
      exact KJ ls (lv_sub hl [0, 1, 2, 3] rfl)
  · skip
    refine ci (va_runV (As := [.int (xs ((6 * i) + 1)), .int (xs ((6 * i) + 2)), .int (b2i (decide (¬ xs (6 * i + 3) = 0)))]) (rest := []) ⟨hx, hb, hml, hown, hK.1.use _⟩ (c_X6_forget l D cy z0 ad V n k P K ce ρ pl sn hX hO (xs (6 * i + 1)) (xs (6 * i + 2)) (decide (¬ xs (6 * i + 3) = 0))) (k_L_X6_forget hK.1 rfl rfl ⟨Nat.le_of_ble_eq_true rfl, Nat.le_of_ble_eq_true rfl⟩) (preV hK (Nat.le_trans hz hS.1) hW hX0 rfl) rfl rfl hl.1 rfl (lv_room (Nat.le_of_ble_eq_true rfl)) dL_law_228 ⟨by show 200 + 80 * i + 0 ≤ 600000; omega, by show 10000 + 1333 * i + 0 ≤ 7302250; omega⟩) hS (fun r228 ad228 Vc228 H locs h228 hW hS => ?_)
    obtain ⟨hr1, e1, hX1, hf1⟩ := h228
    obtain rfl : ad = ad228 := e1.symm
    have hM1 : isM ad Vc228 cy n k P K ce ρ pl sn := hM.mv (fun L hL => ⟨hf1 L hL, rfl⟩)
    have hr1 : r228 = (xPl P pl (xs (6 * i + 1)) (plForget k (xs (6 * i + 2)) (decide (¬ xs (6 * i + 3) = 0)))).1 := hr1
    subst hr1
    obtain ⟨fs8, h2001⟩ := hM1.o
    refine lv_aload_n hx hb dL_law_231 rfl (lv_at hl 2 rfl) ?_
    refine lv_aload_n hx hb dL_law_232 rfl (lv_at hl 0 rfl) ?_
    refine lv_iload_n hx hb dL_law_233 rfl (lv_at hl 3 rfl) ?_
    refine lv_iconst (v := nI 1) hx hb dL_law_234 (by decide) ?_
    refine lv_iadd hx hb dL_law_235 ?_
    refine asi (y := nI ((6 * i) + 1)) (nI_add _ _) ?_
    refine va_sld hx hb hXs hbl hbA hS (vp_in_nI (n := (6 * i) + 1) (N := L) (by omega) (by omega)) dL_law_236 ?_
    refine asi (y := xs ((6 * i) + 1)) (by rw [nI_clamp (by omega)]) ?_
    refine lv_aload_n hx hb dL_law_237 rfl (lv_at hl 0 rfl) ?_
    refine lv_iload_n hx hb dL_law_238 rfl (lv_at hl 3 rfl) ?_
    refine lv_iconst (v := nI 2) hx hb dL_law_239 (by decide) ?_
    refine lv_iadd hx hb dL_law_240 ?_
    refine asi (y := nI ((6 * i) + 2)) (nI_add _ _) ?_
    refine va_sld hx hb hXs hbl hbA hS (vp_in_nI (n := (6 * i) + 2) (N := L) (by omega) (by omega)) dL_law_241 ?_
    refine asi (y := xs ((6 * i) + 2)) (by rw [nI_clamp (by omega)]) ?_
    refine jl (pcj := 255) (st := [.int (b2i (decide (¬ xs (6 * i + 3) = 0))), .int (xs ((6 * i) + 2)), .int (xs ((6 * i) + 1)), .ref (ad (2000)), .int ((xPl P pl (xs (6 * i + 1)) (plForget k (xs (6 * i + 2)) (decide (¬ xs (6 * i + 3) = 0)))).1)]) (nL := 4) (lv := [(0, .ref (b)), (1, .ref (ad (0))), (2, .ref (ad (2000))), (3, .int (nI (6 * i)))]) (fun KJ => ?_) (fun ls hl => ?_)
    · skip
      refine lv_aload_n hx hb dL_law_242 rfl (lv_at hl 0 rfl) ?_
      refine lv_iload_n hx hb dL_law_243 rfl (lv_at hl 3 rfl) ?_
      refine lv_iconst (v := nI 3) hx hb dL_law_244 (by decide) ?_
      refine lv_iadd hx hb dL_law_245 ?_
      refine asi (y := nI ((6 * i) + 3)) (nI_add _ _) ?_
      refine va_sld hx hb hXs hbl hbA hS (vp_in_nI (n := (6 * i) + 3) (N := L) (by omega) (by omega)) dL_law_246 ?_
      refine asi (y := xs ((6 * i) + 3)) (by rw [nI_clamp (by omega)]) ?_
      refine lv_if_eq (tgt := 254) hx hb dL_law_247 (by decide) (fun c247 => ?_) (fun c247 => ?_)
      · skip
        refine lv_iconst (v := nI 0) hx hb dL_law_254 (by decide) ?_
        refine asi (y := b2i (decide (¬ xs (6 * i + 3) = 0))) (by simp [b2i, nI, c247]) ?_
        exact KJ ls (lv_sub hl [0, 1, 2, 3] rfl)
      · skip
        refine lv_iconst (v := nI 1) hx hb dL_law_250 (by decide) ?_
        refine lv_goto (tgt := 255) hx hb dL_law_251 (by decide) ?_
        refine asi (y := b2i (decide (¬ xs (6 * i + 3) = 0))) (by simp [b2i, nI, c247]) ?_
        exact KJ ls (lv_sub hl [0, 1, 2, 3] rfl)
    · skip
      refine ci (va_runV (As := [.int (xs ((6 * i) + 1)), .int (xs ((6 * i) + 2)), .int (b2i (decide (¬ xs (6 * i + 3) = 0)))]) (rest := [.int ((xPl P pl (xs (6 * i + 1)) (plForget k (xs (6 * i + 2)) (decide (¬ xs (6 * i + 3) = 0)))).1)]) ⟨hx, hb, hml, hown, hK.1.use _⟩ (c_X7_forget l D cy z0 ad Vc228 i n k P K ce ρ pl sn hM1 hG (xs (6 * i + 1)) (xs (6 * i + 2)) (decide (¬ xs (6 * i + 3) = 0))) (k_L_X7_forget hK.1 rfl rfl ⟨Nat.le_of_ble_eq_true rfl, Nat.le_of_ble_eq_true rfl⟩) (preV hK (Nat.le_trans hz hS.1) hW h2001 rfl) rfl rfl hl.1 rfl (lv_room (Nat.le_of_ble_eq_true rfl)) dL_law_255 ⟨by show 200 + 80 * i + 0 + 0 ≤ 600000; omega, by show 10000 + 1333 * i + 0 + 0 ≤ 7302250; omega⟩) hS (fun r255 ad255 Vc255 H locs h255 hW hS => ?_)
      obtain ⟨hr2, e2, hM2, hf2⟩ := h255
      obtain rfl : ad = ad255 := e2.symm
      have hr2 : r255 = (xPl P pl (xs (6 * i + 1)) (plForget k (xs (6 * i + 2)) (decide (¬ xs (6 * i + 3) = 0)))).1 := hr2
      subst hr2
      have hG2 : gdX (i + 1) n k P K ρ (xPl P pl (xs (6 * i + 1)) (plForget k (xs (6 * i + 2)) (decide (¬ xs (6 * i + 3) = 0)))).2 sn := gdX_pl hG (fun π h => gd_forget h hO.2.1.1)
      have hX2 := hX1.mv hG2.1 hf2
      refine lv_icmp_eq (tgt := 854) hx hb dL_law_258 (by decide) (fun c258 => ?_) (fun c258 => ?_)
      · skip
        refine W.widen (k := 200 + 80 * (i + 1)) (n := 10000 + 1333 * (i + 1)) (by omega) (by omega) ?_
        exact KK _ _ _ _ _ _ _ _ _ _ _ _ ls hX2 hM2 hG2 hW hS (lv_sub hl [0, 1, 2, 3] rfl)
      · skip
        exact absurd rfl c258

set_option maxHeartbeats 4000000 in
set_option maxRecDepth 100000 in
theorem lc_3 {p : Program} {l : Launch} {e : Env} {s : State} {m : MethodId} {below : List Frame} {meth : Method} {c : Code} {b L : Nat} {xs : Nat → Int32} {D : va_G} {cy : Nat → ClassId} {z0 i n k P K : Nat} {ce : Int32} {ρ : RuT} {pl : Nat → PlT} {sn : Nat → SnT} {ad : Nat → Nat} {V : Nat → Option va_E} {H : Heap} {locs : List Loc} {ls : Array Slot} (hL : L ≤ 3072) (C0 : lw_At p s m meth c b L xs) (hK : KB D cy s) (hz : z0 ≤ s.heap.size) (hz2 : s.heap.size ≤ z0) (hi : 6 * i + 6 ≤ L) (hX : isX ad V cy n k P K ce ρ pl sn) (hM : isM ad V cy n k P K ce ρ pl sn) (hG : gdX i n k P K ρ pl sn) (hW : HW D z0 ad V H) (hS : va_S (AA z0) s.heap H locs) (hl : lv_has ls 4 [(0, .ref b), (1, .ref (ad 0)), (2, .ref (ad 2000)), (3, .int (nI (6 * i)))]) (KK : lcK p l e s m below meth c b D cy z0 i) : W p l e room_1 s m #[Value.ref b] below meth c H locs (200 + 80 * i) (10000 + 1333 * i) (lw_Z below #[Value.ref b] s) (F0 m 263 ls []) := by
  obtain ⟨hx, hb, hr, hml, hown, hts, hXs, hbl, hlocks, hgv⟩ := id C0
  have hown : s.vm.findClass RL = some m.cls := hown
  have hbA : ¬ AA z0 b := fun q => absurd (Nat.lt_of_lt_of_le hbl hz2) (Nat.not_lt.mpr q)
  have hO := hG.1
  have hX0 := hX.1
  obtain ⟨fs7, h2000⟩ := hM.o
  refine lv_aload_n hx hb dL_law_263 rfl (lv_at hl 1 rfl) ?_
  refine lv_aload_n hx hb dL_law_264 rfl (lv_at hl 0 rfl) ?_
  refine lv_iload_n hx hb dL_law_265 rfl (lv_at hl 3 rfl) ?_
  refine lv_iconst (v := nI 1) hx hb dL_law_266 (by decide) ?_
  refine lv_iadd hx hb dL_law_267 ?_
  refine asi (y := nI ((6 * i) + 1)) (nI_add _ _) ?_
  refine va_sld hx hb hXs hbl hbA hS (vp_in_nI (n := (6 * i) + 1) (N := L) (by omega) (by omega)) dL_law_268 ?_
  refine asi (y := xs ((6 * i) + 1)) (by rw [nI_clamp (by omega)]) ?_
  refine ci (va_runV (As := [.int (xs ((6 * i) + 1))]) (rest := []) ⟨hx, hb, hml, hown, hK.1.use _⟩ (c_X6_fork l D cy z0 ad V n k P K ce ρ pl sn hX hO (xs (6 * i + 1))) (k_L_X6_fork hK.1 rfl rfl ⟨Nat.le_of_ble_eq_true rfl, Nat.le_of_ble_eq_true rfl⟩) (preV hK (Nat.le_trans hz hS.1) hW hX0 rfl) rfl rfl hl.1 rfl (lv_room (Nat.le_of_ble_eq_true rfl)) dL_law_269 ⟨by show 200 + 80 * i + 80 ≤ 600000; omega, by show 10000 + 1333 * i + 1333 ≤ 7302250; omega⟩) hS (fun r269 ad269 Vc269 H locs h269 hW hS => ?_)
  obtain ⟨hr1, hX1, hf1, ha0⟩ := h269
  have hM1 : isM ad269 Vc269 cy n k P K ce ρ pl sn := hM.mv hf1
  have ha2 : ad269 2000 = ad 2000 := (hf1 2000 (by omega)).2
  have ha0 : ad269 0 = ad 0 := ha0
  have hl : lv_has ls 4 [(0, .ref (b)), (1, .ref (ad269 (0))), (2, .ref (ad269 (2000))), (3, .int (nI (6 * i)))] := by rw [ha0, ha2]; exact lv_sub hl [0, 1, 2, 3] rfl
  have hr1 : r269 = (xFork k P pl (xs (6 * i + 1))).1 := hr1
  subst hr1
  obtain ⟨fs8, h2001⟩ := hM1.o
  refine lv_aload_n hx hb dL_law_272 rfl (lv_at hl 2 rfl) ?_
  refine lv_aload_n hx hb dL_law_273 rfl (lv_at hl 0 rfl) ?_
  refine lv_iload_n hx hb dL_law_274 rfl (lv_at hl 3 rfl) ?_
  refine lv_iconst (v := nI 1) hx hb dL_law_275 (by decide) ?_
  refine lv_iadd hx hb dL_law_276 ?_
  refine asi (y := nI ((6 * i) + 1)) (nI_add _ _) ?_
  refine va_sld hx hb hXs hbl hbA hS (vp_in_nI (n := (6 * i) + 1) (N := L) (by omega) (by omega)) dL_law_277 ?_
  refine asi (y := xs ((6 * i) + 1)) (by rw [nI_clamp (by omega)]) ?_
  refine ci (va_runV (As := [.int (xs ((6 * i) + 1))]) (rest := [.int ((xFork k P pl (xs (6 * i + 1))).1)]) ⟨hx, hb, hml, hown, hK.1.use _⟩ (c_X7_fork l D cy z0 ad269 Vc269 i n k P K ce ρ pl sn hM1 hG (xs (6 * i + 1))) (k_L_X7_fork hK.1 rfl rfl ⟨Nat.le_of_ble_eq_true rfl, Nat.le_of_ble_eq_true rfl⟩) (preV hK (Nat.le_trans hz hS.1) hW h2001 rfl) rfl rfl hl.1 rfl (lv_room (Nat.le_of_ble_eq_true rfl)) dL_law_278 ⟨by show 200 + 80 * i + 80 + 0 ≤ 600000; omega, by show 10000 + 1333 * i + 1333 + 0 ≤ 7302250; omega⟩) hS (fun r278 ad278 Vc278 H locs h278 hW hS => ?_)
  obtain ⟨hr2, e2, hM2, hf2⟩ := h278
  obtain rfl : ad269 = ad278 := e2.symm
  have hr2 : r278 = (xFork k P pl (xs (6 * i + 1))).1 := hr2
  subst hr2
  have hG2 : gdX (i + 1) n k (xFork k P pl (xs (6 * i + 1))).2.1 K ρ (xFork k P pl (xs (6 * i + 1))).2.2 sn := gdX_fork hG
  have hX2 := hX1.mv hG2.1 hf2
  refine lv_icmp_eq (tgt := 854) hx hb dL_law_281 (by decide) (fun c281 => ?_) (fun c281 => ?_)
  · skip
    refine W.widen (k := 200 + 80 * (i + 1)) (n := 10000 + 1333 * (i + 1)) (by omega) (by omega) ?_
    exact KK _ _ _ _ _ _ _ _ _ _ _ _ ls hX2 hM2 hG2 hW hS (lv_sub hl [0, 1, 2, 3] rfl)
  · skip
    exact absurd rfl c281

set_option maxHeartbeats 4000000 in
set_option maxRecDepth 100000 in
theorem lc_4 {p : Program} {l : Launch} {e : Env} {s : State} {m : MethodId} {below : List Frame} {meth : Method} {c : Code} {b L : Nat} {xs : Nat → Int32} {D : va_G} {cy : Nat → ClassId} {z0 i n k P K : Nat} {ce : Int32} {ρ : RuT} {pl : Nat → PlT} {sn : Nat → SnT} {ad : Nat → Nat} {V : Nat → Option va_E} {H : Heap} {locs : List Loc} {ls : Array Slot} (hL : L ≤ 3072) (C0 : lw_At p s m meth c b L xs) (hK : KB D cy s) (hz : z0 ≤ s.heap.size) (hz2 : s.heap.size ≤ z0) (hi : 6 * i + 6 ≤ L) (hX : isX ad V cy n k P K ce ρ pl sn) (hM : isM ad V cy n k P K ce ρ pl sn) (hG : gdX i n k P K ρ pl sn) (hW : HW D z0 ad V H) (hS : va_S (AA z0) s.heap H locs) (hl : lv_has ls 4 [(0, .ref b), (1, .ref (ad 0)), (2, .ref (ad 2000)), (3, .int (nI (6 * i)))]) (KK : lcK p l e s m below meth c b D cy z0 i) : W p l e room_1 s m #[Value.ref b] below meth c H locs (200 + 80 * i) (10000 + 1333 * i) (lw_Z below #[Value.ref b] s) (F0 m 286 ls []) := by
  obtain ⟨hx, hb, hr, hml, hown, hts, hXs, hbl, hlocks, hgv⟩ := id C0
  have hown : s.vm.findClass RL = some m.cls := hown
  have hbA : ¬ AA z0 b := fun q => absurd (Nat.lt_of_lt_of_le hbl hz2) (Nat.not_lt.mpr q)
  have hO := hG.1
  have hX0 := hX.1
  obtain ⟨fs7, h2000⟩ := hM.o
  refine lv_aload_n hx hb dL_law_286 rfl (lv_at hl 1 rfl) ?_
  refine lv_aload_n hx hb dL_law_287 rfl (lv_at hl 0 rfl) ?_
  refine lv_iload_n hx hb dL_law_288 rfl (lv_at hl 3 rfl) ?_
  refine lv_iconst (v := nI 1) hx hb dL_law_289 (by decide) ?_
  refine lv_iadd hx hb dL_law_290 ?_
  refine asi (y := nI ((6 * i) + 1)) (nI_add _ _) ?_
  refine va_sld hx hb hXs hbl hbA hS (vp_in_nI (n := (6 * i) + 1) (N := L) (by omega) (by omega)) dL_law_291 ?_
  refine asi (y := xs ((6 * i) + 1)) (by rw [nI_clamp (by omega)]) ?_
  refine lv_aload_n hx hb dL_law_292 rfl (lv_at hl 0 rfl) ?_
  refine lv_iload_n hx hb dL_law_293 rfl (lv_at hl 3 rfl) ?_
  refine lv_iconst (v := nI 2) hx hb dL_law_294 (by decide) ?_
  refine lv_iadd hx hb dL_law_295 ?_
  refine asi (y := nI ((6 * i) + 2)) (nI_add _ _) ?_
  refine va_sld hx hb hXs hbl hbA hS (vp_in_nI (n := (6 * i) + 2) (N := L) (by omega) (by omega)) dL_law_296 ?_
  refine asi (y := xs ((6 * i) + 2)) (by rw [nI_clamp (by omega)]) ?_
  refine lv_aload_n hx hb dL_law_297 rfl (lv_at hl 0 rfl) ?_
  refine lv_iload_n hx hb dL_law_298 rfl (lv_at hl 3 rfl) ?_
  refine lv_iconst (v := nI 3) hx hb dL_law_299 (by decide) ?_
  refine lv_iadd hx hb dL_law_300 ?_
  refine asi (y := nI ((6 * i) + 3)) (nI_add _ _) ?_
  refine va_sld hx hb hXs hbl hbA hS (vp_in_nI (n := (6 * i) + 3) (N := L) (by omega) (by omega)) dL_law_301 ?_
  refine asi (y := xs ((6 * i) + 3)) (by rw [nI_clamp (by omega)]) ?_
  refine lv_aload_n hx hb dL_law_302 rfl (lv_at hl 0 rfl) ?_
  refine lv_iload_n hx hb dL_law_303 rfl (lv_at hl 3 rfl) ?_
  refine lv_iconst (v := nI 4) hx hb dL_law_304 (by decide) ?_
  refine lv_iadd hx hb dL_law_305 ?_
  refine asi (y := nI ((6 * i) + 4)) (nI_add _ _) ?_
  refine va_sld hx hb hXs hbl hbA hS (vp_in_nI (n := (6 * i) + 4) (N := L) (by omega) (by omega)) dL_law_306 ?_
  refine asi (y := xs ((6 * i) + 4)) (by rw [nI_clamp (by omega)]) ?_
  refine ci (va_runV (As := [.int (xs ((6 * i) + 1)), .int (xs ((6 * i) + 2)), .int (xs ((6 * i) + 3)), .int (xs ((6 * i) + 4))]) (rest := []) ⟨hx, hb, hml, hown, hK.1.use _⟩ (c_X6_change l D cy z0 ad V n k P K ce ρ pl sn hX hO (xs (6 * i + 1)) (xs (6 * i + 2)) (xs (6 * i + 3)) (xs (6 * i + 4))) (k_L_X6_change hK.1 rfl rfl ⟨Nat.le_of_ble_eq_true rfl, Nat.le_of_ble_eq_true rfl⟩) (preV hK (Nat.le_trans hz hS.1) hW hX0 rfl) rfl rfl hl.1 rfl (lv_room (Nat.le_of_ble_eq_true rfl)) dL_law_307 ⟨by show 200 + 80 * i + 0 ≤ 600000; omega, by show 10000 + 1333 * i + 0 ≤ 7302250; omega⟩) hS (fun r307 ad307 Vc307 H locs h307 hW hS => ?_)
  obtain ⟨hr1, e1, hX1, hf1⟩ := h307
  obtain rfl : ad = ad307 := e1.symm
  have hM1 : isM ad Vc307 cy n k P K ce ρ pl sn := hM.mv (fun L hL => ⟨hf1 L hL, rfl⟩)
  have hr1 : r307 = (xPl P pl (xs (6 * i + 1)) (plChange n k ce ρ (xs (6 * i + 2)) (xs (6 * i + 3)) (xs (6 * i + 4)))).1 := hr1
  subst hr1
  obtain ⟨fs8, h2001⟩ := hM1.o
  refine lv_aload_n hx hb dL_law_310 rfl (lv_at hl 2 rfl) ?_
  refine lv_aload_n hx hb dL_law_311 rfl (lv_at hl 0 rfl) ?_
  refine lv_iload_n hx hb dL_law_312 rfl (lv_at hl 3 rfl) ?_
  refine lv_iconst (v := nI 1) hx hb dL_law_313 (by decide) ?_
  refine lv_iadd hx hb dL_law_314 ?_
  refine asi (y := nI ((6 * i) + 1)) (nI_add _ _) ?_
  refine va_sld hx hb hXs hbl hbA hS (vp_in_nI (n := (6 * i) + 1) (N := L) (by omega) (by omega)) dL_law_315 ?_
  refine asi (y := xs ((6 * i) + 1)) (by rw [nI_clamp (by omega)]) ?_
  refine lv_aload_n hx hb dL_law_316 rfl (lv_at hl 0 rfl) ?_
  refine lv_iload_n hx hb dL_law_317 rfl (lv_at hl 3 rfl) ?_
  refine lv_iconst (v := nI 2) hx hb dL_law_318 (by decide) ?_
  refine lv_iadd hx hb dL_law_319 ?_
  refine asi (y := nI ((6 * i) + 2)) (nI_add _ _) ?_
  refine va_sld hx hb hXs hbl hbA hS (vp_in_nI (n := (6 * i) + 2) (N := L) (by omega) (by omega)) dL_law_320 ?_
  refine asi (y := xs ((6 * i) + 2)) (by rw [nI_clamp (by omega)]) ?_
  refine lv_aload_n hx hb dL_law_321 rfl (lv_at hl 0 rfl) ?_
  refine lv_iload_n hx hb dL_law_322 rfl (lv_at hl 3 rfl) ?_
  refine lv_iconst (v := nI 3) hx hb dL_law_323 (by decide) ?_
  refine lv_iadd hx hb dL_law_324 ?_
  refine asi (y := nI ((6 * i) + 3)) (nI_add _ _) ?_
  refine va_sld hx hb hXs hbl hbA hS (vp_in_nI (n := (6 * i) + 3) (N := L) (by omega) (by omega)) dL_law_325 ?_
  refine asi (y := xs ((6 * i) + 3)) (by rw [nI_clamp (by omega)]) ?_
  refine lv_aload_n hx hb dL_law_326 rfl (lv_at hl 0 rfl) ?_
  refine lv_iload_n hx hb dL_law_327 rfl (lv_at hl 3 rfl) ?_
  refine lv_iconst (v := nI 4) hx hb dL_law_328 (by decide) ?_
  refine lv_iadd hx hb dL_law_329 ?_
  refine asi (y := nI ((6 * i) + 4)) (nI_add _ _) ?_
  refine va_sld hx hb hXs hbl hbA hS (vp_in_nI (n := (6 * i) + 4) (N := L) (by omega) (by omega)) dL_law_330 ?_
  refine asi (y := xs ((6 * i) + 4)) (by rw [nI_clamp (by omega)]) ?_
  refine ci (va_runV (As := [.int (xs ((6 * i) + 1)), .int (xs ((6 * i) + 2)), .int (xs ((6 * i) + 3)), .int (xs ((6 * i) + 4))]) (rest := [.int ((xPl P pl (xs (6 * i + 1)) (plChange n k ce ρ (xs (6 * i + 2)) (xs (6 * i + 3)) (xs (6 * i + 4)))).1)]) ⟨hx, hb, hml, hown, hK.1.use _⟩ (c_X7_change l D cy z0 ad Vc307 i n k P K ce ρ pl sn hM1 hG (xs (6 * i + 1)) (xs (6 * i + 2)) (xs (6 * i + 3)) (xs (6 * i + 4))) (k_L_X7_change hK.1 rfl rfl ⟨Nat.le_of_ble_eq_true rfl, Nat.le_of_ble_eq_true rfl⟩) (preV hK (Nat.le_trans hz hS.1) hW h2001 rfl) rfl rfl hl.1 rfl (lv_room (Nat.le_of_ble_eq_true rfl)) dL_law_331 ⟨by show 200 + 80 * i + 0 + 0 ≤ 600000; omega, by show 10000 + 1333 * i + 0 + 0 ≤ 7302250; omega⟩) hS (fun r331 ad331 Vc331 H locs h331 hW hS => ?_)
  obtain ⟨hr2, e2, hM2, hf2⟩ := h331
  obtain rfl : ad = ad331 := e2.symm
  have hr2 : r331 = (xPl P pl (xs (6 * i + 1)) (plChange n k ce ρ (xs (6 * i + 2)) (xs (6 * i + 3)) (xs (6 * i + 4)))).1 := hr2
  subst hr2
  have hG2 : gdX (i + 1) n k P K ρ (xPl P pl (xs (6 * i + 1)) (plChange n k ce ρ (xs (6 * i + 2)) (xs (6 * i + 3)) (xs (6 * i + 4)))).2 sn := gdX_pl hG (fun π h => gd_change h hO.1)
  have hX2 := hX1.mv hG2.1 hf2
  refine lv_icmp_eq (tgt := 854) hx hb dL_law_334 (by decide) (fun c334 => ?_) (fun c334 => ?_)
  · skip
    refine W.widen (k := 200 + 80 * (i + 1)) (n := 10000 + 1333 * (i + 1)) (by omega) (by omega) ?_
    exact KK _ _ _ _ _ _ _ _ _ _ _ _ ls hX2 hM2 hG2 hW hS (lv_sub hl [0, 1, 2, 3] rfl)
  · skip
    exact absurd rfl c334

set_option maxHeartbeats 4000000 in
set_option maxRecDepth 100000 in
theorem lc_5 {p : Program} {l : Launch} {e : Env} {s : State} {m : MethodId} {below : List Frame} {meth : Method} {c : Code} {b L : Nat} {xs : Nat → Int32} {D : va_G} {cy : Nat → ClassId} {z0 i n k P K : Nat} {ce : Int32} {ρ : RuT} {pl : Nat → PlT} {sn : Nat → SnT} {ad : Nat → Nat} {V : Nat → Option va_E} {H : Heap} {locs : List Loc} {ls : Array Slot} (hL : L ≤ 3072) (C0 : lw_At p s m meth c b L xs) (hK : KB D cy s) (hz : z0 ≤ s.heap.size) (hz2 : s.heap.size ≤ z0) (hi : 6 * i + 6 ≤ L) (hX : isX ad V cy n k P K ce ρ pl sn) (hM : isM ad V cy n k P K ce ρ pl sn) (hG : gdX i n k P K ρ pl sn) (hW : HW D z0 ad V H) (hS : va_S (AA z0) s.heap H locs) (hl : lv_has ls 4 [(0, .ref b), (1, .ref (ad 0)), (2, .ref (ad 2000)), (3, .int (nI (6 * i)))]) (KK : lcK p l e s m below meth c b D cy z0 i) : W p l e room_1 s m #[Value.ref b] below meth c H locs (200 + 80 * i) (10000 + 1333 * i) (lw_Z below #[Value.ref b] s) (F0 m 339 ls []) := by
  obtain ⟨hx, hb, hr, hml, hown, hts, hXs, hbl, hlocks, hgv⟩ := id C0
  have hown : s.vm.findClass RL = some m.cls := hown
  have hbA : ¬ AA z0 b := fun q => absurd (Nat.lt_of_lt_of_le hbl hz2) (Nat.not_lt.mpr q)
  have hO := hG.1
  have hX0 := hX.1
  obtain ⟨fs7, h2000⟩ := hM.o
  refine lv_aload_n hx hb dL_law_339 rfl (lv_at hl 1 rfl) ?_
  refine lv_aload_n hx hb dL_law_340 rfl (lv_at hl 0 rfl) ?_
  refine lv_iload_n hx hb dL_law_341 rfl (lv_at hl 3 rfl) ?_
  refine lv_iconst (v := nI 1) hx hb dL_law_342 (by decide) ?_
  refine lv_iadd hx hb dL_law_343 ?_
  refine asi (y := nI ((6 * i) + 1)) (nI_add _ _) ?_
  refine va_sld hx hb hXs hbl hbA hS (vp_in_nI (n := (6 * i) + 1) (N := L) (by omega) (by omega)) dL_law_344 ?_
  refine asi (y := xs ((6 * i) + 1)) (by rw [nI_clamp (by omega)]) ?_
  refine lv_aload_n hx hb dL_law_345 rfl (lv_at hl 0 rfl) ?_
  refine lv_iload_n hx hb dL_law_346 rfl (lv_at hl 3 rfl) ?_
  refine lv_iconst (v := nI 2) hx hb dL_law_347 (by decide) ?_
  refine lv_iadd hx hb dL_law_348 ?_
  refine asi (y := nI ((6 * i) + 2)) (nI_add _ _) ?_
  refine va_sld hx hb hXs hbl hbA hS (vp_in_nI (n := (6 * i) + 2) (N := L) (by omega) (by omega)) dL_law_349 ?_
  refine asi (y := xs ((6 * i) + 2)) (by rw [nI_clamp (by omega)]) ?_
  refine lv_aload_n hx hb dL_law_350 rfl (lv_at hl 0 rfl) ?_
  refine lv_iload_n hx hb dL_law_351 rfl (lv_at hl 3 rfl) ?_
  refine lv_iconst (v := nI 3) hx hb dL_law_352 (by decide) ?_
  refine lv_iadd hx hb dL_law_353 ?_
  refine asi (y := nI ((6 * i) + 3)) (nI_add _ _) ?_
  refine va_sld hx hb hXs hbl hbA hS (vp_in_nI (n := (6 * i) + 3) (N := L) (by omega) (by omega)) dL_law_354 ?_
  refine asi (y := xs ((6 * i) + 3)) (by rw [nI_clamp (by omega)]) ?_
  refine lv_aload_n hx hb dL_law_355 rfl (lv_at hl 0 rfl) ?_
  refine lv_iload_n hx hb dL_law_356 rfl (lv_at hl 3 rfl) ?_
  refine lv_iconst (v := nI 4) hx hb dL_law_357 (by decide) ?_
  refine lv_iadd hx hb dL_law_358 ?_
  refine asi (y := nI ((6 * i) + 4)) (nI_add _ _) ?_
  refine va_sld hx hb hXs hbl hbA hS (vp_in_nI (n := (6 * i) + 4) (N := L) (by omega) (by omega)) dL_law_359 ?_
  refine asi (y := xs ((6 * i) + 4)) (by rw [nI_clamp (by omega)]) ?_
  refine lv_aload_n hx hb dL_law_360 rfl (lv_at hl 0 rfl) ?_
  refine lv_iload_n hx hb dL_law_361 rfl (lv_at hl 3 rfl) ?_
  refine lv_iconst (v := nI 5) hx hb dL_law_362 (by decide) ?_
  refine lv_iadd hx hb dL_law_363 ?_
  refine asi (y := nI ((6 * i) + 5)) (nI_add _ _) ?_
  refine va_sld hx hb hXs hbl hbA hS (vp_in_nI (n := (6 * i) + 5) (N := L) (by omega) (by omega)) dL_law_364 ?_
  refine asi (y := xs ((6 * i) + 5)) (by rw [nI_clamp (by omega)]) ?_
  refine cl (va_runV (As := [.int (xs ((6 * i) + 1)), .int (xs ((6 * i) + 2)), .int (xs ((6 * i) + 3)), .int (xs ((6 * i) + 4)), .int (xs ((6 * i) + 5))]) (rest := []) ⟨hx, hb, hml, hown, hK.1.use _⟩ (c_X6_attempt l D cy z0 ad V n k P K ce ρ pl sn hX hO (xs (6 * i + 1)) (xs (6 * i + 2)) (xs (6 * i + 3)) (xs (6 * i + 4)) (xs (6 * i + 5))) (k_L_X6_attempt hK.1 rfl rfl ⟨Nat.le_of_ble_eq_true rfl, Nat.le_of_ble_eq_true rfl⟩) (preV hK (Nat.le_trans hz hS.1) hW hX0 rfl) rfl rfl hl.1 rfl (lv_room (Nat.le_of_ble_eq_true rfl)) dL_law_365 ⟨by show 200 + 80 * i + 0 ≤ 600000; omega, by show 10000 + 1333 * i + 0 ≤ 7302250; omega⟩) hS (fun r365 ad365 Vc365 H locs h365 hW hS => ?_)
  obtain ⟨hr1, e1, hX1, hf1⟩ := h365
  obtain rfl : ad = ad365 := e1.symm
  have hM1 : isM ad Vc365 cy n k P K ce ρ pl sn := hM.mv (fun L hL => ⟨hf1 L hL, rfl⟩)
  have hr1 : r365 = xAttempt n k P ρ pl (xs (6 * i + 1)) (xs (6 * i + 2)) (xs (6 * i + 3)) (xs (6 * i + 4)) (xs (6 * i + 5)) := hr1
  subst hr1
  obtain ⟨fs8, h2001⟩ := hM1.o
  refine lv_aload_n hx hb dL_law_368 rfl (lv_at hl 2 rfl) ?_
  refine lv_aload_n hx hb dL_law_369 rfl (lv_at hl 0 rfl) ?_
  refine lv_iload_n hx hb dL_law_370 rfl (lv_at hl 3 rfl) ?_
  refine lv_iconst (v := nI 1) hx hb dL_law_371 (by decide) ?_
  refine lv_iadd hx hb dL_law_372 ?_
  refine asi (y := nI ((6 * i) + 1)) (nI_add _ _) ?_
  refine va_sld hx hb hXs hbl hbA hS (vp_in_nI (n := (6 * i) + 1) (N := L) (by omega) (by omega)) dL_law_373 ?_
  refine asi (y := xs ((6 * i) + 1)) (by rw [nI_clamp (by omega)]) ?_
  refine lv_aload_n hx hb dL_law_374 rfl (lv_at hl 0 rfl) ?_
  refine lv_iload_n hx hb dL_law_375 rfl (lv_at hl 3 rfl) ?_
  refine lv_iconst (v := nI 2) hx hb dL_law_376 (by decide) ?_
  refine lv_iadd hx hb dL_law_377 ?_
  refine asi (y := nI ((6 * i) + 2)) (nI_add _ _) ?_
  refine va_sld hx hb hXs hbl hbA hS (vp_in_nI (n := (6 * i) + 2) (N := L) (by omega) (by omega)) dL_law_378 ?_
  refine asi (y := xs ((6 * i) + 2)) (by rw [nI_clamp (by omega)]) ?_
  refine lv_aload_n hx hb dL_law_379 rfl (lv_at hl 0 rfl) ?_
  refine lv_iload_n hx hb dL_law_380 rfl (lv_at hl 3 rfl) ?_
  refine lv_iconst (v := nI 3) hx hb dL_law_381 (by decide) ?_
  refine lv_iadd hx hb dL_law_382 ?_
  refine asi (y := nI ((6 * i) + 3)) (nI_add _ _) ?_
  refine va_sld hx hb hXs hbl hbA hS (vp_in_nI (n := (6 * i) + 3) (N := L) (by omega) (by omega)) dL_law_383 ?_
  refine asi (y := xs ((6 * i) + 3)) (by rw [nI_clamp (by omega)]) ?_
  refine lv_aload_n hx hb dL_law_384 rfl (lv_at hl 0 rfl) ?_
  refine lv_iload_n hx hb dL_law_385 rfl (lv_at hl 3 rfl) ?_
  refine lv_iconst (v := nI 4) hx hb dL_law_386 (by decide) ?_
  refine lv_iadd hx hb dL_law_387 ?_
  refine asi (y := nI ((6 * i) + 4)) (nI_add _ _) ?_
  refine va_sld hx hb hXs hbl hbA hS (vp_in_nI (n := (6 * i) + 4) (N := L) (by omega) (by omega)) dL_law_388 ?_
  refine asi (y := xs ((6 * i) + 4)) (by rw [nI_clamp (by omega)]) ?_
  refine lv_aload_n hx hb dL_law_389 rfl (lv_at hl 0 rfl) ?_
  refine lv_iload_n hx hb dL_law_390 rfl (lv_at hl 3 rfl) ?_
  refine lv_iconst (v := nI 5) hx hb dL_law_391 (by decide) ?_
  refine lv_iadd hx hb dL_law_392 ?_
  refine asi (y := nI ((6 * i) + 5)) (nI_add _ _) ?_
  refine va_sld hx hb hXs hbl hbA hS (vp_in_nI (n := (6 * i) + 5) (N := L) (by omega) (by omega)) dL_law_393 ?_
  refine asi (y := xs ((6 * i) + 5)) (by rw [nI_clamp (by omega)]) ?_
  refine cl (va_runV (As := [.int (xs ((6 * i) + 1)), .int (xs ((6 * i) + 2)), .int (xs ((6 * i) + 3)), .int (xs ((6 * i) + 4)), .int (xs ((6 * i) + 5))]) (rest := [.long (xAttempt n k P ρ pl (xs (6 * i + 1)) (xs (6 * i + 2)) (xs (6 * i + 3)) (xs (6 * i + 4)) (xs (6 * i + 5)))]) ⟨hx, hb, hml, hown, hK.1.use _⟩ (c_X7_attempt l D cy z0 ad Vc365 i n k P K ce ρ pl sn hM1 hG (xs (6 * i + 1)) (xs (6 * i + 2)) (xs (6 * i + 3)) (xs (6 * i + 4)) (xs (6 * i + 5))) (k_L_X7_attempt hK.1 rfl rfl ⟨Nat.le_of_ble_eq_true rfl, Nat.le_of_ble_eq_true rfl⟩) (preV hK (Nat.le_trans hz hS.1) hW h2001 rfl) rfl rfl hl.1 rfl (lv_room (Nat.le_of_ble_eq_true rfl)) dL_law_394 ⟨by show 200 + 80 * i + 0 + 0 ≤ 600000; omega, by show 10000 + 1333 * i + 0 + 0 ≤ 7302250; omega⟩) hS (fun r394 ad394 Vc394 H locs h394 hW hS => ?_)
  obtain ⟨hr2, e2, hM2, hf2⟩ := h394
  obtain rfl : ad = ad394 := e2.symm
  have hr2 : r394 = xAttempt n k P ρ pl (xs (6 * i + 1)) (xs (6 * i + 2)) (xs (6 * i + 3)) (xs (6 * i + 4)) (xs (6 * i + 5)) := hr2
  subst hr2
  have hG2 : gdX (i + 1) n k P K ρ pl sn := gdX_s hG
  have hX2 := hX1.mv hG2.1 hf2
  refine W.lcmp hx hb dL_law_397 ?_
  refine lv_if_eq (tgt := 854) hx hb dL_law_398 (by decide) (fun c398 => ?_) (fun c398 => ?_)
  · skip
    refine W.widen (k := 200 + 80 * (i + 1)) (n := 10000 + 1333 * (i + 1)) (by omega) (by omega) ?_
    exact KK _ _ _ _ _ _ _ _ _ _ _ _ ls hX2 hM2 hG2 hW hS (lv_sub hl [0, 1, 2, 3] rfl)
  · skip
    exact absurd ((lg_cmp_eq _ _).mpr rfl) c398

set_option maxHeartbeats 4000000 in
set_option maxRecDepth 100000 in
theorem lc_6 {p : Program} {l : Launch} {e : Env} {s : State} {m : MethodId} {below : List Frame} {meth : Method} {c : Code} {b L : Nat} {xs : Nat → Int32} {D : va_G} {cy : Nat → ClassId} {z0 i n k P K : Nat} {ce : Int32} {ρ : RuT} {pl : Nat → PlT} {sn : Nat → SnT} {ad : Nat → Nat} {V : Nat → Option va_E} {H : Heap} {locs : List Loc} {ls : Array Slot} (hL : L ≤ 3072) (C0 : lw_At p s m meth c b L xs) (hK : KB D cy s) (hz : z0 ≤ s.heap.size) (hz2 : s.heap.size ≤ z0) (hi : 6 * i + 6 ≤ L) (hX : isX ad V cy n k P K ce ρ pl sn) (hM : isM ad V cy n k P K ce ρ pl sn) (hG : gdX i n k P K ρ pl sn) (hW : HW D z0 ad V H) (hS : va_S (AA z0) s.heap H locs) (hl : lv_has ls 4 [(0, .ref b), (1, .ref (ad 0)), (2, .ref (ad 2000)), (3, .int (nI (6 * i)))]) (KK : lcK p l e s m below meth c b D cy z0 i) : W p l e room_1 s m #[Value.ref b] below meth c H locs (200 + 80 * i) (10000 + 1333 * i) (lw_Z below #[Value.ref b] s) (F0 m 403 ls []) := by
  obtain ⟨hx, hb, hr, hml, hown, hts, hXs, hbl, hlocks, hgv⟩ := id C0
  have hown : s.vm.findClass RL = some m.cls := hown
  have hbA : ¬ AA z0 b := fun q => absurd (Nat.lt_of_lt_of_le hbl hz2) (Nat.not_lt.mpr q)
  have hO := hG.1
  have hX0 := hX.1
  obtain ⟨fs7, h2000⟩ := hM.o
  refine lv_aload_n hx hb dL_law_403 rfl (lv_at hl 1 rfl) ?_
  refine lv_aload_n hx hb dL_law_404 rfl (lv_at hl 0 rfl) ?_
  refine lv_iload_n hx hb dL_law_405 rfl (lv_at hl 3 rfl) ?_
  refine lv_iconst (v := nI 1) hx hb dL_law_406 (by decide) ?_
  refine lv_iadd hx hb dL_law_407 ?_
  refine asi (y := nI ((6 * i) + 1)) (nI_add _ _) ?_
  refine va_sld hx hb hXs hbl hbA hS (vp_in_nI (n := (6 * i) + 1) (N := L) (by omega) (by omega)) dL_law_408 ?_
  refine asi (y := xs ((6 * i) + 1)) (by rw [nI_clamp (by omega)]) ?_
  refine ci (va_runV (As := [.int (xs ((6 * i) + 1))]) (rest := []) ⟨hx, hb, hml, hown, hK.1.use _⟩ (c_X6_undo l D cy z0 ad V n k P K ce ρ pl sn hX hO (xs (6 * i + 1))) (k_L_X6_undo hK.1 rfl rfl ⟨Nat.le_of_ble_eq_true rfl, Nat.le_of_ble_eq_true rfl⟩) (preV hK (Nat.le_trans hz hS.1) hW hX0 rfl) rfl rfl hl.1 rfl (lv_room (Nat.le_of_ble_eq_true rfl)) dL_law_409 ⟨by show 200 + 80 * i + 0 ≤ 600000; omega, by show 10000 + 1333 * i + 0 ≤ 7302250; omega⟩) hS (fun r409 ad409 Vc409 H locs h409 hW hS => ?_)
  obtain ⟨hr1, e1, hX1, hf1⟩ := h409
  obtain rfl : ad = ad409 := e1.symm
  have hM1 : isM ad Vc409 cy n k P K ce ρ pl sn := hM.mv (fun L hL => ⟨hf1 L hL, rfl⟩)
  have hr1 : r409 = (xPl P pl (xs (6 * i + 1)) (plUndo n k ρ)).1 := hr1
  subst hr1
  obtain ⟨fs8, h2001⟩ := hM1.o
  refine lv_aload_n hx hb dL_law_412 rfl (lv_at hl 2 rfl) ?_
  refine lv_aload_n hx hb dL_law_413 rfl (lv_at hl 0 rfl) ?_
  refine lv_iload_n hx hb dL_law_414 rfl (lv_at hl 3 rfl) ?_
  refine lv_iconst (v := nI 1) hx hb dL_law_415 (by decide) ?_
  refine lv_iadd hx hb dL_law_416 ?_
  refine asi (y := nI ((6 * i) + 1)) (nI_add _ _) ?_
  refine va_sld hx hb hXs hbl hbA hS (vp_in_nI (n := (6 * i) + 1) (N := L) (by omega) (by omega)) dL_law_417 ?_
  refine asi (y := xs ((6 * i) + 1)) (by rw [nI_clamp (by omega)]) ?_
  refine ci (va_runV (As := [.int (xs ((6 * i) + 1))]) (rest := [.int ((xPl P pl (xs (6 * i + 1)) (plUndo n k ρ)).1)]) ⟨hx, hb, hml, hown, hK.1.use _⟩ (c_X7_undo l D cy z0 ad Vc409 i n k P K ce ρ pl sn hM1 hG (xs (6 * i + 1))) (k_L_X7_undo hK.1 rfl rfl ⟨Nat.le_of_ble_eq_true rfl, Nat.le_of_ble_eq_true rfl⟩) (preV hK (Nat.le_trans hz hS.1) hW h2001 rfl) rfl rfl hl.1 rfl (lv_room (Nat.le_of_ble_eq_true rfl)) dL_law_418 ⟨by show 200 + 80 * i + 0 + 0 ≤ 600000; omega, by show 10000 + 1333 * i + 0 + 0 ≤ 7302250; omega⟩) hS (fun r418 ad418 Vc418 H locs h418 hW hS => ?_)
  obtain ⟨hr2, e2, hM2, hf2⟩ := h418
  obtain rfl : ad = ad418 := e2.symm
  have hr2 : r418 = (xPl P pl (xs (6 * i + 1)) (plUndo n k ρ)).1 := hr2
  subst hr2
  have hG2 : gdX (i + 1) n k P K ρ (xPl P pl (xs (6 * i + 1)) (plUndo n k ρ)).2 sn := gdX_pl hG (fun π h => gd_undo h hO.1)
  have hX2 := hX1.mv hG2.1 hf2
  refine lv_icmp_eq (tgt := 854) hx hb dL_law_421 (by decide) (fun c421 => ?_) (fun c421 => ?_)
  · skip
    refine W.widen (k := 200 + 80 * (i + 1)) (n := 10000 + 1333 * (i + 1)) (by omega) (by omega) ?_
    exact KK _ _ _ _ _ _ _ _ _ _ _ _ ls hX2 hM2 hG2 hW hS (lv_sub hl [0, 1, 2, 3] rfl)
  · skip
    exact absurd rfl c421

set_option maxHeartbeats 4000000 in
set_option maxRecDepth 100000 in
theorem lc_7 {p : Program} {l : Launch} {e : Env} {s : State} {m : MethodId} {below : List Frame} {meth : Method} {c : Code} {b L : Nat} {xs : Nat → Int32} {D : va_G} {cy : Nat → ClassId} {z0 i n k P K : Nat} {ce : Int32} {ρ : RuT} {pl : Nat → PlT} {sn : Nat → SnT} {ad : Nat → Nat} {V : Nat → Option va_E} {H : Heap} {locs : List Loc} {ls : Array Slot} (hL : L ≤ 3072) (C0 : lw_At p s m meth c b L xs) (hK : KB D cy s) (hz : z0 ≤ s.heap.size) (hz2 : s.heap.size ≤ z0) (hi : 6 * i + 6 ≤ L) (hX : isX ad V cy n k P K ce ρ pl sn) (hM : isM ad V cy n k P K ce ρ pl sn) (hG : gdX i n k P K ρ pl sn) (hW : HW D z0 ad V H) (hS : va_S (AA z0) s.heap H locs) (hl : lv_has ls 4 [(0, .ref b), (1, .ref (ad 0)), (2, .ref (ad 2000)), (3, .int (nI (6 * i)))]) (KK : lcK p l e s m below meth c b D cy z0 i) : W p l e room_1 s m #[Value.ref b] below meth c H locs (200 + 80 * i) (10000 + 1333 * i) (lw_Z below #[Value.ref b] s) (F0 m 426 ls []) := by
  obtain ⟨hx, hb, hr, hml, hown, hts, hXs, hbl, hlocks, hgv⟩ := id C0
  have hown : s.vm.findClass RL = some m.cls := hown
  have hbA : ¬ AA z0 b := fun q => absurd (Nat.lt_of_lt_of_le hbl hz2) (Nat.not_lt.mpr q)
  have hO := hG.1
  have hX0 := hX.1
  obtain ⟨fs7, h2000⟩ := hM.o
  refine lv_aload_n hx hb dL_law_426 rfl (lv_at hl 1 rfl) ?_
  refine lv_aload_n hx hb dL_law_427 rfl (lv_at hl 0 rfl) ?_
  refine lv_iload_n hx hb dL_law_428 rfl (lv_at hl 3 rfl) ?_
  refine lv_iconst (v := nI 1) hx hb dL_law_429 (by decide) ?_
  refine lv_iadd hx hb dL_law_430 ?_
  refine asi (y := nI ((6 * i) + 1)) (nI_add _ _) ?_
  refine va_sld hx hb hXs hbl hbA hS (vp_in_nI (n := (6 * i) + 1) (N := L) (by omega) (by omega)) dL_law_431 ?_
  refine asi (y := xs ((6 * i) + 1)) (by rw [nI_clamp (by omega)]) ?_
  refine ci (va_runV (As := [.int (xs ((6 * i) + 1))]) (rest := []) ⟨hx, hb, hml, hown, hK.1.use _⟩ (c_X6_begin l D cy z0 ad V n k P K ce ρ pl sn hX hO (xs (6 * i + 1))) (k_L_X6_begin hK.1 rfl rfl ⟨Nat.le_of_ble_eq_true rfl, Nat.le_of_ble_eq_true rfl⟩) (preV hK (Nat.le_trans hz hS.1) hW hX0 rfl) rfl rfl hl.1 rfl (lv_room (Nat.le_of_ble_eq_true rfl)) dL_law_432 ⟨by show 200 + 80 * i + 0 ≤ 600000; omega, by show 10000 + 1333 * i + 0 ≤ 7302250; omega⟩) hS (fun r432 ad432 Vc432 H locs h432 hW hS => ?_)
  obtain ⟨hr1, e1, hX1, hf1⟩ := h432
  obtain rfl : ad = ad432 := e1.symm
  have hM1 : isM ad Vc432 cy n k P K ce ρ pl sn := hM.mv (fun L hL => ⟨hf1 L hL, rfl⟩)
  have hr1 : r432 = (xPl P pl (xs (6 * i + 1)) (plBegin)).1 := hr1
  subst hr1
  obtain ⟨fs8, h2001⟩ := hM1.o
  refine lv_aload_n hx hb dL_law_435 rfl (lv_at hl 2 rfl) ?_
  refine lv_aload_n hx hb dL_law_436 rfl (lv_at hl 0 rfl) ?_
  refine lv_iload_n hx hb dL_law_437 rfl (lv_at hl 3 rfl) ?_
  refine lv_iconst (v := nI 1) hx hb dL_law_438 (by decide) ?_
  refine lv_iadd hx hb dL_law_439 ?_
  refine asi (y := nI ((6 * i) + 1)) (nI_add _ _) ?_
  refine va_sld hx hb hXs hbl hbA hS (vp_in_nI (n := (6 * i) + 1) (N := L) (by omega) (by omega)) dL_law_440 ?_
  refine asi (y := xs ((6 * i) + 1)) (by rw [nI_clamp (by omega)]) ?_
  refine ci (va_runV (As := [.int (xs ((6 * i) + 1))]) (rest := [.int ((xPl P pl (xs (6 * i + 1)) (plBegin)).1)]) ⟨hx, hb, hml, hown, hK.1.use _⟩ (c_X7_begin l D cy z0 ad Vc432 i n k P K ce ρ pl sn hM1 hG (xs (6 * i + 1))) (k_L_X7_begin hK.1 rfl rfl ⟨Nat.le_of_ble_eq_true rfl, Nat.le_of_ble_eq_true rfl⟩) (preV hK (Nat.le_trans hz hS.1) hW h2001 rfl) rfl rfl hl.1 rfl (lv_room (Nat.le_of_ble_eq_true rfl)) dL_law_441 ⟨by show 200 + 80 * i + 0 + 0 ≤ 600000; omega, by show 10000 + 1333 * i + 0 + 0 ≤ 7302250; omega⟩) hS (fun r441 ad441 Vc441 H locs h441 hW hS => ?_)
  obtain ⟨hr2, e2, hM2, hf2⟩ := h441
  obtain rfl : ad = ad441 := e2.symm
  have hr2 : r441 = (xPl P pl (xs (6 * i + 1)) (plBegin)).1 := hr2
  subst hr2
  have hG2 : gdX (i + 1) n k P K ρ (xPl P pl (xs (6 * i + 1)) (plBegin)).2 sn := gdX_pl hG (fun π h => gd_begin h)
  have hX2 := hX1.mv hG2.1 hf2
  refine lv_icmp_eq (tgt := 854) hx hb dL_law_444 (by decide) (fun c444 => ?_) (fun c444 => ?_)
  · skip
    refine W.widen (k := 200 + 80 * (i + 1)) (n := 10000 + 1333 * (i + 1)) (by omega) (by omega) ?_
    exact KK _ _ _ _ _ _ _ _ _ _ _ _ ls hX2 hM2 hG2 hW hS (lv_sub hl [0, 1, 2, 3] rfl)
  · skip
    exact absurd rfl c444

set_option maxHeartbeats 4000000 in
set_option maxRecDepth 100000 in
theorem lc_8 {p : Program} {l : Launch} {e : Env} {s : State} {m : MethodId} {below : List Frame} {meth : Method} {c : Code} {b L : Nat} {xs : Nat → Int32} {D : va_G} {cy : Nat → ClassId} {z0 i n k P K : Nat} {ce : Int32} {ρ : RuT} {pl : Nat → PlT} {sn : Nat → SnT} {ad : Nat → Nat} {V : Nat → Option va_E} {H : Heap} {locs : List Loc} {ls : Array Slot} (hL : L ≤ 3072) (C0 : lw_At p s m meth c b L xs) (hK : KB D cy s) (hz : z0 ≤ s.heap.size) (hz2 : s.heap.size ≤ z0) (hi : 6 * i + 6 ≤ L) (hX : isX ad V cy n k P K ce ρ pl sn) (hM : isM ad V cy n k P K ce ρ pl sn) (hG : gdX i n k P K ρ pl sn) (hW : HW D z0 ad V H) (hS : va_S (AA z0) s.heap H locs) (hl : lv_has ls 4 [(0, .ref b), (1, .ref (ad 0)), (2, .ref (ad 2000)), (3, .int (nI (6 * i)))]) (KK : lcK p l e s m below meth c b D cy z0 i) : W p l e room_1 s m #[Value.ref b] below meth c H locs (200 + 80 * i) (10000 + 1333 * i) (lw_Z below #[Value.ref b] s) (F0 m 449 ls []) := by
  obtain ⟨hx, hb, hr, hml, hown, hts, hXs, hbl, hlocks, hgv⟩ := id C0
  have hown : s.vm.findClass RL = some m.cls := hown
  have hbA : ¬ AA z0 b := fun q => absurd (Nat.lt_of_lt_of_le hbl hz2) (Nat.not_lt.mpr q)
  have hO := hG.1
  have hX0 := hX.1
  obtain ⟨fs7, h2000⟩ := hM.o
  refine lv_aload_n hx hb dL_law_449 rfl (lv_at hl 1 rfl) ?_
  refine lv_aload_n hx hb dL_law_450 rfl (lv_at hl 0 rfl) ?_
  refine lv_iload_n hx hb dL_law_451 rfl (lv_at hl 3 rfl) ?_
  refine lv_iconst (v := nI 1) hx hb dL_law_452 (by decide) ?_
  refine lv_iadd hx hb dL_law_453 ?_
  refine asi (y := nI ((6 * i) + 1)) (nI_add _ _) ?_
  refine va_sld hx hb hXs hbl hbA hS (vp_in_nI (n := (6 * i) + 1) (N := L) (by omega) (by omega)) dL_law_454 ?_
  refine asi (y := xs ((6 * i) + 1)) (by rw [nI_clamp (by omega)]) ?_
  refine jl (pcj := 468) (st := [.int (b2i (decide (¬ xs (6 * i + 2) = 0))), .int (xs ((6 * i) + 1)), .ref (ad (0))]) (nL := 4) (lv := [(0, .ref (b)), (1, .ref (ad (0))), (2, .ref (ad (2000))), (3, .int (nI (6 * i)))]) (fun KJ => ?_) (fun ls hl => ?_)
  · skip
    refine lv_aload_n hx hb dL_law_455 rfl (lv_at hl 0 rfl) ?_
    refine lv_iload_n hx hb dL_law_456 rfl (lv_at hl 3 rfl) ?_
    refine lv_iconst (v := nI 2) hx hb dL_law_457 (by decide) ?_
    refine lv_iadd hx hb dL_law_458 ?_
    refine asi (y := nI ((6 * i) + 2)) (nI_add _ _) ?_
    refine va_sld hx hb hXs hbl hbA hS (vp_in_nI (n := (6 * i) + 2) (N := L) (by omega) (by omega)) dL_law_459 ?_
    refine asi (y := xs ((6 * i) + 2)) (by rw [nI_clamp (by omega)]) ?_
    refine lv_if_eq (tgt := 467) hx hb dL_law_460 (by decide) (fun c460 => ?_) (fun c460 => ?_)
    · skip
      refine lv_iconst (v := nI 0) hx hb dL_law_467 (by decide) ?_
      refine asi (y := b2i (decide (¬ xs (6 * i + 2) = 0))) (by simp [b2i, nI, c460]) ?_
      exact KJ ls (lv_sub hl [0, 1, 2, 3] rfl)
    · skip
      refine lv_iconst (v := nI 1) hx hb dL_law_463 (by decide) ?_
      refine lv_goto (tgt := 468) hx hb dL_law_464 (by decide) ?_
      refine asi (y := b2i (decide (¬ xs (6 * i + 2) = 0))) (by simp [b2i, nI, c460]) ?_
      exact KJ ls (lv_sub hl [0, 1, 2, 3] rfl)
  · skip
    refine ci (va_runV (As := [.int (xs ((6 * i) + 1)), .int (b2i (decide (¬ xs (6 * i + 2) = 0)))]) (rest := []) ⟨hx, hb, hml, hown, hK.1.use _⟩ (c_X6_end l D cy z0 ad V n k P K ce ρ pl sn hX hO (xs (6 * i + 1)) (decide (¬ xs (6 * i + 2) = 0))) (k_L_X6_end hK.1 rfl rfl ⟨Nat.le_of_ble_eq_true rfl, Nat.le_of_ble_eq_true rfl⟩) (preV hK (Nat.le_trans hz hS.1) hW hX0 rfl) rfl rfl hl.1 rfl (lv_room (Nat.le_of_ble_eq_true rfl)) dL_law_468 ⟨by show 200 + 80 * i + 0 ≤ 600000; omega, by show 10000 + 1333 * i + 0 ≤ 7302250; omega⟩) hS (fun r468 ad468 Vc468 H locs h468 hW hS => ?_)
    obtain ⟨hr1, e1, hX1, hf1⟩ := h468
    obtain rfl : ad = ad468 := e1.symm
    have hM1 : isM ad Vc468 cy n k P K ce ρ pl sn := hM.mv (fun L hL => ⟨hf1 L hL, rfl⟩)
    have hr1 : r468 = (xPl P pl (xs (6 * i + 1)) (plEnd n k ρ (decide (¬ xs (6 * i + 2) = 0)))).1 := hr1
    subst hr1
    obtain ⟨fs8, h2001⟩ := hM1.o
    refine lv_aload_n hx hb dL_law_471 rfl (lv_at hl 2 rfl) ?_
    refine lv_aload_n hx hb dL_law_472 rfl (lv_at hl 0 rfl) ?_
    refine lv_iload_n hx hb dL_law_473 rfl (lv_at hl 3 rfl) ?_
    refine lv_iconst (v := nI 1) hx hb dL_law_474 (by decide) ?_
    refine lv_iadd hx hb dL_law_475 ?_
    refine asi (y := nI ((6 * i) + 1)) (nI_add _ _) ?_
    refine va_sld hx hb hXs hbl hbA hS (vp_in_nI (n := (6 * i) + 1) (N := L) (by omega) (by omega)) dL_law_476 ?_
    refine asi (y := xs ((6 * i) + 1)) (by rw [nI_clamp (by omega)]) ?_
    refine jl (pcj := 490) (st := [.int (b2i (decide (¬ xs (6 * i + 2) = 0))), .int (xs ((6 * i) + 1)), .ref (ad (2000)), .int ((xPl P pl (xs (6 * i + 1)) (plEnd n k ρ (decide (¬ xs (6 * i + 2) = 0)))).1)]) (nL := 4) (lv := [(0, .ref (b)), (1, .ref (ad (0))), (2, .ref (ad (2000))), (3, .int (nI (6 * i)))]) (fun KJ => ?_) (fun ls hl => ?_)
    · skip
      refine lv_aload_n hx hb dL_law_477 rfl (lv_at hl 0 rfl) ?_
      refine lv_iload_n hx hb dL_law_478 rfl (lv_at hl 3 rfl) ?_
      refine lv_iconst (v := nI 2) hx hb dL_law_479 (by decide) ?_
      refine lv_iadd hx hb dL_law_480 ?_
      refine asi (y := nI ((6 * i) + 2)) (nI_add _ _) ?_
      refine va_sld hx hb hXs hbl hbA hS (vp_in_nI (n := (6 * i) + 2) (N := L) (by omega) (by omega)) dL_law_481 ?_
      refine asi (y := xs ((6 * i) + 2)) (by rw [nI_clamp (by omega)]) ?_
      refine lv_if_eq (tgt := 489) hx hb dL_law_482 (by decide) (fun c482 => ?_) (fun c482 => ?_)
      · skip
        refine lv_iconst (v := nI 0) hx hb dL_law_489 (by decide) ?_
        refine asi (y := b2i (decide (¬ xs (6 * i + 2) = 0))) (by simp [b2i, nI, c482]) ?_
        exact KJ ls (lv_sub hl [0, 1, 2, 3] rfl)
      · skip
        refine lv_iconst (v := nI 1) hx hb dL_law_485 (by decide) ?_
        refine lv_goto (tgt := 490) hx hb dL_law_486 (by decide) ?_
        refine asi (y := b2i (decide (¬ xs (6 * i + 2) = 0))) (by simp [b2i, nI, c482]) ?_
        exact KJ ls (lv_sub hl [0, 1, 2, 3] rfl)
    · skip
      refine ci (va_runV (As := [.int (xs ((6 * i) + 1)), .int (b2i (decide (¬ xs (6 * i + 2) = 0)))]) (rest := [.int ((xPl P pl (xs (6 * i + 1)) (plEnd n k ρ (decide (¬ xs (6 * i + 2) = 0)))).1)]) ⟨hx, hb, hml, hown, hK.1.use _⟩ (c_X7_end l D cy z0 ad Vc468 i n k P K ce ρ pl sn hM1 hG (xs (6 * i + 1)) (decide (¬ xs (6 * i + 2) = 0))) (k_L_X7_end hK.1 rfl rfl ⟨Nat.le_of_ble_eq_true rfl, Nat.le_of_ble_eq_true rfl⟩) (preV hK (Nat.le_trans hz hS.1) hW h2001 rfl) rfl rfl hl.1 rfl (lv_room (Nat.le_of_ble_eq_true rfl)) dL_law_490 ⟨by show 200 + 80 * i + 0 + 0 ≤ 600000; omega, by show 10000 + 1333 * i + 0 + 0 ≤ 7302250; omega⟩) hS (fun r490 ad490 Vc490 H locs h490 hW hS => ?_)
      obtain ⟨hr2, e2, hM2, hf2⟩ := h490
      obtain rfl : ad = ad490 := e2.symm
      have hr2 : r490 = (xPl P pl (xs (6 * i + 1)) (plEnd n k ρ (decide (¬ xs (6 * i + 2) = 0)))).1 := hr2
      subst hr2
      have hG2 : gdX (i + 1) n k P K ρ (xPl P pl (xs (6 * i + 1)) (plEnd n k ρ (decide (¬ xs (6 * i + 2) = 0)))).2 sn := gdX_pl hG (fun π h => gd_end h hO.1)
      have hX2 := hX1.mv hG2.1 hf2
      refine lv_icmp_eq (tgt := 854) hx hb dL_law_493 (by decide) (fun c493 => ?_) (fun c493 => ?_)
      · skip
        refine W.widen (k := 200 + 80 * (i + 1)) (n := 10000 + 1333 * (i + 1)) (by omega) (by omega) ?_
        exact KK _ _ _ _ _ _ _ _ _ _ _ _ ls hX2 hM2 hG2 hW hS (lv_sub hl [0, 1, 2, 3] rfl)
      · skip
        exact absurd rfl c493

set_option maxHeartbeats 4000000 in
set_option maxRecDepth 100000 in
theorem lc_9 {p : Program} {l : Launch} {e : Env} {s : State} {m : MethodId} {below : List Frame} {meth : Method} {c : Code} {b L : Nat} {xs : Nat → Int32} {D : va_G} {cy : Nat → ClassId} {z0 i n k P K : Nat} {ce : Int32} {ρ : RuT} {pl : Nat → PlT} {sn : Nat → SnT} {ad : Nat → Nat} {V : Nat → Option va_E} {H : Heap} {locs : List Loc} {ls : Array Slot} (hL : L ≤ 3072) (C0 : lw_At p s m meth c b L xs) (hK : KB D cy s) (hz : z0 ≤ s.heap.size) (hz2 : s.heap.size ≤ z0) (hi : 6 * i + 6 ≤ L) (hX : isX ad V cy n k P K ce ρ pl sn) (hM : isM ad V cy n k P K ce ρ pl sn) (hG : gdX i n k P K ρ pl sn) (hW : HW D z0 ad V H) (hS : va_S (AA z0) s.heap H locs) (hl : lv_has ls 4 [(0, .ref b), (1, .ref (ad 0)), (2, .ref (ad 2000)), (3, .int (nI (6 * i)))]) (KK : lcK p l e s m below meth c b D cy z0 i) : W p l e room_1 s m #[Value.ref b] below meth c H locs (200 + 80 * i) (10000 + 1333 * i) (lw_Z below #[Value.ref b] s) (F0 m 498 ls []) := by
  obtain ⟨hx, hb, hr, hml, hown, hts, hXs, hbl, hlocks, hgv⟩ := id C0
  have hown : s.vm.findClass RL = some m.cls := hown
  have hbA : ¬ AA z0 b := fun q => absurd (Nat.lt_of_lt_of_le hbl hz2) (Nat.not_lt.mpr q)
  have hO := hG.1
  have hX0 := hX.1
  obtain ⟨fs7, h2000⟩ := hM.o
  refine lv_aload_n hx hb dL_law_498 rfl (lv_at hl 1 rfl) ?_
  refine lv_aload_n hx hb dL_law_499 rfl (lv_at hl 0 rfl) ?_
  refine lv_iload_n hx hb dL_law_500 rfl (lv_at hl 3 rfl) ?_
  refine lv_iconst (v := nI 1) hx hb dL_law_501 (by decide) ?_
  refine lv_iadd hx hb dL_law_502 ?_
  refine asi (y := nI ((6 * i) + 1)) (nI_add _ _) ?_
  refine va_sld hx hb hXs hbl hbA hS (vp_in_nI (n := (6 * i) + 1) (N := L) (by omega) (by omega)) dL_law_503 ?_
  refine asi (y := xs ((6 * i) + 1)) (by rw [nI_clamp (by omega)]) ?_
  refine lv_aload_n hx hb dL_law_504 rfl (lv_at hl 0 rfl) ?_
  refine lv_iload_n hx hb dL_law_505 rfl (lv_at hl 3 rfl) ?_
  refine lv_iconst (v := nI 2) hx hb dL_law_506 (by decide) ?_
  refine lv_iadd hx hb dL_law_507 ?_
  refine asi (y := nI ((6 * i) + 2)) (nI_add _ _) ?_
  refine va_sld hx hb hXs hbl hbA hS (vp_in_nI (n := (6 * i) + 2) (N := L) (by omega) (by omega)) dL_law_508 ?_
  refine asi (y := xs ((6 * i) + 2)) (by rw [nI_clamp (by omega)]) ?_
  refine lv_aload_n hx hb dL_law_509 rfl (lv_at hl 0 rfl) ?_
  refine lv_iload_n hx hb dL_law_510 rfl (lv_at hl 3 rfl) ?_
  refine lv_iconst (v := nI 3) hx hb dL_law_511 (by decide) ?_
  refine lv_iadd hx hb dL_law_512 ?_
  refine asi (y := nI ((6 * i) + 3)) (nI_add _ _) ?_
  refine va_sld hx hb hXs hbl hbA hS (vp_in_nI (n := (6 * i) + 3) (N := L) (by omega) (by omega)) dL_law_513 ?_
  refine asi (y := xs ((6 * i) + 3)) (by rw [nI_clamp (by omega)]) ?_
  refine vp_callSi (va_Run.run (va_runV (As := [.int (xs ((6 * i) + 1)), .int (xs ((6 * i) + 2)), .int (xs ((6 * i) + 3))]) (rest := []) ⟨hx, hb, hml, hown, hK.1.use _⟩ (c_X6_member l D cy z0 ad V n k P K ce ρ pl sn hX hO (xs (6 * i + 1)) (xs (6 * i + 2)) (xs (6 * i + 3))) (k_L_X6_member hK.1 rfl rfl ⟨Nat.le_of_ble_eq_true rfl, Nat.le_of_ble_eq_true rfl⟩) (preV hK (Nat.le_trans hz hS.1) hW hX0 rfl) rfl rfl hl.1 rfl (lv_room (Nat.le_of_ble_eq_true rfl)) dL_law_514 ⟨by show 200 + 80 * i + 0 ≤ 600000; omega, by show 10000 + 1333 * i + 0 ≤ 7302250; omega⟩)) (fun r514 h514 => ?_)
  have h514 : r514 = xMember n P pl (xs (6 * i + 1)) (xs (6 * i + 2)) (xs (6 * i + 3)) := h514
  subst h514
  refine lv_aload_n hx hb dL_law_517 rfl (lv_at hl 2 rfl) ?_
  refine lv_aload_n hx hb dL_law_518 rfl (lv_at hl 0 rfl) ?_
  refine lv_iload_n hx hb dL_law_519 rfl (lv_at hl 3 rfl) ?_
  refine lv_iconst (v := nI 1) hx hb dL_law_520 (by decide) ?_
  refine lv_iadd hx hb dL_law_521 ?_
  refine asi (y := nI ((6 * i) + 1)) (nI_add _ _) ?_
  refine va_sld hx hb hXs hbl hbA hS (vp_in_nI (n := (6 * i) + 1) (N := L) (by omega) (by omega)) dL_law_522 ?_
  refine asi (y := xs ((6 * i) + 1)) (by rw [nI_clamp (by omega)]) ?_
  refine lv_aload_n hx hb dL_law_523 rfl (lv_at hl 0 rfl) ?_
  refine lv_iload_n hx hb dL_law_524 rfl (lv_at hl 3 rfl) ?_
  refine lv_iconst (v := nI 2) hx hb dL_law_525 (by decide) ?_
  refine lv_iadd hx hb dL_law_526 ?_
  refine asi (y := nI ((6 * i) + 2)) (nI_add _ _) ?_
  refine va_sld hx hb hXs hbl hbA hS (vp_in_nI (n := (6 * i) + 2) (N := L) (by omega) (by omega)) dL_law_527 ?_
  refine asi (y := xs ((6 * i) + 2)) (by rw [nI_clamp (by omega)]) ?_
  refine lv_aload_n hx hb dL_law_528 rfl (lv_at hl 0 rfl) ?_
  refine lv_iload_n hx hb dL_law_529 rfl (lv_at hl 3 rfl) ?_
  refine lv_iconst (v := nI 3) hx hb dL_law_530 (by decide) ?_
  refine lv_iadd hx hb dL_law_531 ?_
  refine asi (y := nI ((6 * i) + 3)) (nI_add _ _) ?_
  refine va_sld hx hb hXs hbl hbA hS (vp_in_nI (n := (6 * i) + 3) (N := L) (by omega) (by omega)) dL_law_532 ?_
  refine asi (y := xs ((6 * i) + 3)) (by rw [nI_clamp (by omega)]) ?_
  refine vp_callSi (va_Run.run (va_runV (As := [.int (xs ((6 * i) + 1)), .int (xs ((6 * i) + 2)), .int (xs ((6 * i) + 3))]) (rest := [.int (xMember n P pl (xs (6 * i + 1)) (xs (6 * i + 2)) (xs (6 * i + 3)))]) ⟨hx, hb, hml, hown, hK.1.use _⟩ (c_X7_member l D cy z0 ad V i n k P K ce ρ pl sn hM hG (xs (6 * i + 1)) (xs (6 * i + 2)) (xs (6 * i + 3))) (k_L_X7_member hK.1 rfl rfl ⟨Nat.le_of_ble_eq_true rfl, Nat.le_of_ble_eq_true rfl⟩) (preV hK (Nat.le_trans hz hS.1) hW h2000 rfl) rfl rfl hl.1 rfl (lv_room (Nat.le_of_ble_eq_true rfl)) dL_law_533 ⟨by show 200 + 80 * i + 0 ≤ 600000; omega, by show 10000 + 1333 * i + 0 ≤ 7302250; omega⟩)) (fun r533 h533 => ?_)
  have h533 : r533 = xMember n P pl (xs (6 * i + 1)) (xs (6 * i + 2)) (xs (6 * i + 3)) := h533
  subst h533
  refine lv_icmp_eq (tgt := 854) hx hb dL_law_536 (by decide) (fun c536 => ?_) (fun c536 => ?_)
  · skip
    refine W.widen (k := 200 + 80 * (i + 1)) (n := 10000 + 1333 * (i + 1)) (by omega) (by omega) ?_
    exact KK n k P K ce ρ pl sn ad V H locs ls hX hM (gdX_s hG) hW hS (lv_sub hl [0, 1, 2, 3] rfl)
  · skip
    exact absurd rfl c536
