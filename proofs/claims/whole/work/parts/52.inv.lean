/-! what holds in every run goes on holding -/
def tbP (n k : Nat) (ρ : RuT) (π : PlT) : PlT := ((plTb n k ρ π).1, (plTb n k ρ π).2.1, pF π, pCh π, (plTb n k ρ π).2.2.1, pFo π, pBb π, (plTb n k ρ π).2.2.2.2.2, pHo π, pHm π, pHv π, pHs π, (plTb n k ρ π).2.2.2.1, (plTb n k ρ π).2.2.2.2.1)
def tbPI (n k : Nat) (ρ : RuT) : Nat → PlT → PlT
  | 0, π => π
  | i + 1, π => tbP n k ρ (tbPI n k ρ i π)
def enP (π : PlT) : PlT := (pM π, pK π, pF π, pCh π, pCo π, pFo π, false, pBn π, pHo π, pHm π, pHv π, pHs π, pNx π, pKn π)
theorem hisG_pop {n : Nat} {ho hm hv : Nat → Int32} {nx : Nat} {M : Nat → Nat → Int32} (hx : nx < 60) : ∀ i, i ≤ 59 → hisG n ho hm hv (nxD nx) (tbM n ho hm hv M (nxD nx)) i = hisG n ho hm hv nx M (i + 1)
  | 0, _ => by
    show tbM n ho hm hv M (nxD nx) = tbM n ho hm hv M (rix nx 0)
    rw [rix_0 hx]
  | i + 1, hi => by
    show tbM n ho hm hv (hisG n ho hm hv (nxD nx) (tbM n ho hm hv M (nxD nx)) i) (rix (nxD nx) i) = tbM n ho hm hv (hisG n ho hm hv nx M (i + 1)) (rix nx (i + 1))
    rw [hisG_pop hx i (by omega), rix_s hx (by omega)]
theorem hisG_push {n : Nat} {ho hm hv : Nat → Int32} {nx oo mm : Nat} {o mi v0 : Int32} {M M2 : Nat → Nat → Int32} (hx : nx < 60) (eo : o.toNatClampNeg = oo) (em : mi.toNatClampNeg = mm) (hp : putM n M2 mm oo v0 = M) : ∀ i, i ≤ 59 → hisG n (upd ho nx o) (upd hm nx mi) (upd hv nx v0) (nxU nx) M2 (i + 1) = hisG n ho hm hv nx M i
  | 0, _ => by
    show tbM n (upd ho nx o) (upd hm nx mi) (upd hv nx v0) M2 (rix (nxU nx) 0) = M
    rw [rix_U0 hx]
    unfold tbM
    rw [pk_us, pk_us, pk_us, eo, em, hp]
  | i + 1, hi => by
    show tbM n (upd ho nx o) (upd hm nx mi) (upd hv nx v0) (hisG n (upd ho nx o) (upd hm nx mi) (upd hv nx v0) (nxU nx) M2 (i + 1)) (rix (nxU nx) (i + 1)) = tbM n ho hm hv (hisG n ho hm hv nx M i) (rix nx i)
    rw [hisG_push hx eo em hp i (by omega), rix_Us hx (by omega)]
    unfold tbM
    rw [pk_un (rix_ne hx (by omega)), pk_un (rix_ne hx (by omega)), pk_un (rix_ne hx (by omega))]
theorem chK.mono {c c2 : Nat} {π π2 : PlT} (h : chK c π) (hc : c ≤ c2) (e : pCh π2 = pCh π) (hk : pKn π2 ≤ pKn π) : chK c2 π2 := by
  obtain ⟨x, h1, h2, h3⟩ := h
  exact ⟨x, by omega, by rw [e]; exact h2, fun q => h3 (by omega)⟩
theorem gd_tb {c n k : Nat} {ρ : RuT} {π : PlT} (h : gdP c n k π) (hn : n ≤ 40) (hk0 : 0 < pKn π) : gdP c n k (tbP n k ρ π) := by
  obtain ⟨⟨hZ, hb60, hnx, hkn, hbk, hOk⟩, hF, hH, hc⟩ := h
  refine ⟨⟨?_, ?_, nxD_lt hnx, ?_, ?_, hOK_pop hOk hnx hkn⟩, hF, ?_, hc.mono (Nat.le_refl _) rfl (Nat.sub_le _ _)⟩
  · obtain ⟨oo, mm, a1, a2, a3, a4⟩ := hOk 0 hk0
    rw [rix_0 hnx] at a3
    show Zt n (tbM n (pHo π) (pHm π) (pHv π) (pM π) (nxD (pNx π)))
    unfold tbM
    exact Zt_put hZ _ (by rw [a3, nI_clamp (by omega)]; exact a1)
  · show (if pBb π = true then pBn π - 1 else pBn π) ≤ 60
    split <;> omega
  · show pKn π - 1 ≤ 60
    omega
  · intro hb
    have hb : pBb π = true := hb
    have := hbk hb
    show (if pBb π = true then pBn π - 1 else pBn π) ≤ pKn π - 1
    rw [if_pos hb]
    omega
  · intro i hi
    have hi : i ≤ pKn π - 1 := hi
    show okM n (hisG n (pHo π) (pHm π) (pHv π) (nxD (pNx π)) (tbM n (pHo π) (pHm π) (pHv π) (pM π) (nxD (pNx π))) i)
    rw [hisG_pop hnx i (by omega)]
    exact hH (i + 1) (by omega)
theorem gd_tbI {c n k : Nat} {ρ : RuT} {π : PlT} (h : gdP c n k π) (hn : n ≤ 40) (hb : pBb π = true) : ∀ i, i ≤ pBn π → gdP c n k (tbPI n k ρ i π) ∧ pBb (tbPI n k ρ i π) = true ∧ pBn (tbPI n k ρ i π) = pBn π - i ∧ pKn (tbPI n k ρ i π) = pKn π - i
  | 0, _ => ⟨h, hb, rfl, rfl⟩
  | i + 1, hi => by
    obtain ⟨a1, a2, a3, a4⟩ := gd_tbI (ρ := ρ) h hn hb i (by omega)
    have hbk := h.1.2.2.2.2.1 hb
    refine ⟨gd_tb a1 hn (by omega), a2, ?_, ?_⟩
    · show (if pBb (tbPI n k ρ i π) = true then pBn (tbPI n k ρ i π) - 1 else pBn (tbPI n k ρ i π)) = _
      rw [if_pos a2, a3]; omega
    · show pKn (tbPI n k ρ i π) - 1 = _
      rw [a4]; omega
theorem tbPI_eq {n k : Nat} {ρ : RuT} {π : PlT} (hb : pBb π = true) : ∀ i, tbPI n k ρ i π = ((tbI n k ρ (pHo π) (pHm π) (pHv π) (pHs π) true i (pM π, pK π, pCo π, pNx π, pKn π, pBn π)).1, (tbI n k ρ (pHo π) (pHm π) (pHv π) (pHs π) true i (pM π, pK π, pCo π, pNx π, pKn π, pBn π)).2.1, pF π, pCh π, (tbI n k ρ (pHo π) (pHm π) (pHv π) (pHs π) true i (pM π, pK π, pCo π, pNx π, pKn π, pBn π)).2.2.1, pFo π, true, (tbI n k ρ (pHo π) (pHm π) (pHv π) (pHs π) true i (pM π, pK π, pCo π, pNx π, pKn π, pBn π)).2.2.2.2.2, pHo π, pHm π, pHv π, pHs π, (tbI n k ρ (pHo π) (pHm π) (pHv π) (pHs π) true i (pM π, pK π, pCo π, pNx π, pKn π, pBn π)).2.2.2.1, (tbI n k ρ (pHo π) (pHm π) (pHv π) (pHs π) true i (pM π, pK π, pCo π, pNx π, pKn π, pBn π)).2.2.2.2.1)
  | 0 => by
    obtain ⟨M, kp, fb, ch, co, fo, bb, bn, ho, hm, hv, hs, nx, kn⟩ := π
    have hb : bb = true := hb
    subst hb
    rfl
  | i + 1 => by
    show tbP n k ρ (tbPI n k ρ i π) = _
    rw [tbPI_eq hb i]
    rfl
theorem plEnd_eq {n k : Nat} {ρ : RuT} {π : PlT} {sb : Bool} (hb : pBb π = true) : plEnd n k ρ sb π = (nI (pBn π), enP (tbPI n k ρ (if sb = true then 0 else pBn π) π)) := by
  unfold plEnd
  rw [if_pos hb]
  congr 1
  rw [tbPI_eq hb]
  unfold plEy
  cases sb <;> rfl
theorem plUndo_eq {n k : Nat} {ρ : RuT} {π : PlT} (h : ¬ (if pBb π = true then nI (pBn π) else nI (pKn π)) = 0) : plUndo n k ρ π = (nI (pKn π - 1), tbP n k ρ π) := if_neg h
theorem gd_en {c n k : Nat} {π : PlT} (h : gdP c n k π) : gdP c n k (enP π) := by
  obtain ⟨⟨hZ, hb60, hnx, hkn, hbk, hOk⟩, hF, hH, hc⟩ := h
  exact ⟨⟨hZ, hb60, hnx, hkn, fun q => absurd (show false = true from q) (by decide), hOk⟩, hF, hH, hc⟩
theorem gdP.up {c n k : Nat} {π : PlT} (h : gdP c n k π) : gdP (c + 1) n k π := ⟨h.1, h.2.1, h.2.2.1, h.2.2.2.mono (Nat.le_succ _) rfl (Nat.le_refl _)⟩
theorem knU_le (x : Nat) : knU x ≤ 60 ∧ knU x ≤ x + 1 := by unfold knU; split <;> omega
theorem knU_mono {x y : Nat} (h : x ≤ y) : knU x ≤ knU y := by unfold knU; split <;> split <;> omega
theorem gd_change {c n k : Nat} {ce : Int32} {ρ : RuT} {o mi v : Int32} {π : PlT} (h : gdP c n k π) (hn : n ≤ 40) : gdP (c + 1) n k (plChange n k ce ρ o mi v π).2 := by
  unfold plChange
  by_cases ht : tkB n (pM π 2) o mi v = true
  · rw [if_pos ht]
    obtain ⟨oo, mm, hoo, eo, hm3, em⟩ := tkB_of ht (by omega)
    have eoc : o.toNatClampNeg = oo := by rw [eo]; exact nI_clamp (by omega)
    have emc : mi.toNatClampNeg = mm := by rw [em]; exact nI_clamp (by omega)
    have hok := h.ok
    obtain ⟨⟨hZ, hb60, hnx, hkn, hbk, hOk⟩, hF, hH, hc⟩ := h
    have hM3 : okM n (putM n (pM π) mm oo v) := hok.put hn hoo hm3 (by rw [← eo, ← em]; exact ht)
    refine ⟨⟨?_, ?_, nxU_lt hnx, (knU_le _).1, ?_, ?_⟩, hF, ?_, ?_⟩
    · show Zt n (putM n (pM π) mi.toNatClampNeg o.toNatClampNeg v)
      exact Zt_put hZ v (by omega)
    · show (if pBb π = true then knU (pBn π) else pBn π) ≤ 60
      have := (knU_le (pBn π)).1
      split <;> omega
    · intro hb
      have hb : pBb π = true := hb
      show (if pBb π = true then knU (pBn π) else pBn π) ≤ knU (pKn π)
      rw [if_pos hb]
      exact knU_mono (hbk hb)
    · intro i hi
      have hi : i < knU (pKn π) := hi
      have hu := knU_le (pKn π)
      show ∃ oo mm, oo < n ∧ mm < 3 ∧ upd (pHo π) (pNx π) o (rix (nxU (pNx π)) i) = nI oo ∧ upd (pHm π) (pNx π) mi (rix (nxU (pNx π)) i) = nI mm
      by_cases h0 : i = 0
      · subst h0
        rw [rix_U0 hnx, pk_us, pk_us]
        exact ⟨oo, mm, hoo, hm3, eo, em⟩
      · obtain ⟨j, rfl⟩ : ∃ j, i = j + 1 := ⟨i - 1, by omega⟩
        rw [rix_Us hnx (by omega), pk_un (rix_ne hnx (by omega)), pk_un (rix_ne hnx (by omega))]
        exact hOk j (by omega)
    · intro i hi
      have hi : i ≤ knU (pKn π) := hi
      have hu := knU_le (pKn π)
      show okM n (hisG n (upd (pHo π) (pNx π) o) (upd (pHm π) (pNx π) mi) (upd (pHv π) (pNx π) (pM π mi.toNatClampNeg o.toNatClampNeg)) (nxU (pNx π)) (putM n (pM π) mi.toNatClampNeg o.toNatClampNeg v) i)
      by_cases h0 : i = 0
      · subst h0
        rw [eoc, emc]
        exact hM3
      · obtain ⟨j, rfl⟩ : ∃ j, i = j + 1 := ⟨i - 1, by omega⟩
        rw [hisG_push (M := pM π) hnx rfl rfl (by rw [eoc, emc]; exact put_put hok hn hoo hm3 hM3) j (by omega)]
        exact hH j (by omega)
    · obtain ⟨x, h1, h2, h3⟩ := hc
      refine ⟨x + 1, by omega, ?_, fun _ => by omega⟩
      show pCh π + nI 1 = nI (x + 1)
      rw [h2]
      exact nI_add _ _
  · rw [if_neg ht]
    exact h.up
theorem gd_undo {c n k : Nat} {ρ : RuT} {π : PlT} (h : gdP c n k π) (hn : n ≤ 40) : gdP (c + 1) n k (plUndo n k ρ π).2 := by
  by_cases q : (if pBb π = true then nI (pBn π) else nI (pKn π)) = 0
  · unfold plUndo
    rw [if_pos q]
    exact h.up
  · rw [plUndo_eq q]
    refine (gd_tb h hn ?_).up
    by_cases hb : pBb π = true
    · rw [if_pos hb] at q
      have := h.1.2.2.2.2.1 hb
      have := h.1.2.1
      have := nI_ne' (b := 0) q (by omega) (by omega)
      omega
    · rw [if_neg hb] at q
      have := h.1.2.2.2.1
      have := nI_ne' (b := 0) q (by omega) (by omega)
      omega
theorem gd_begin {c n k : Nat} {π : PlT} (h : gdP c n k π) : gdP (c + 1) n k (plBegin π).2 := by
  unfold plBegin
  split
  · exact h.up
  · obtain ⟨⟨hZ, hb60, hnx, hkn, hbk, hOk⟩, hF, hH, hc⟩ := h.up
    exact ⟨⟨hZ, Nat.zero_le _, hnx, hkn, fun _ => Nat.zero_le _, hOk⟩, hF, hH, hc⟩
theorem gd_end {c n k : Nat} {ρ : RuT} {sb : Bool} {π : PlT} (h : gdP c n k π) (hn : n ≤ 40) : gdP (c + 1) n k (plEnd n k ρ sb π).2 := by
  by_cases hb : pBb π = true
  · rw [plEnd_eq hb]
    exact (gd_en (gd_tbI h hn hb _ (by split <;> omega)).1).up
  · unfold plEnd
    rw [if_neg hb]
    exact h.up
theorem gd_forget {c n k : Nat} {ri : Int32} {ib : Bool} {π : PlT} (h : gdP c n k π) (hk : k ≤ 12) : gdP (c + 1) n k (plForget k ri ib π).2 := by
  unfold plForget
  by_cases q : hasB k ri = true
  · rw [if_pos q]
    obtain ⟨hO, hF, hH, hc⟩ := h.up
    refine ⟨hO, fun r hr => ?_, hH, hc⟩
    have := (hasB_of q (by omega)).2
    show va_up (pF π) ri.toNatClampNeg ib r = false
    rw [va_up_ne _ _ (by omega)]
    exact hF r hr
  · rw [if_neg q]
    exact h.up
theorem gd_mend {c n k : Nat} {ρ : RuT} {ri : Int32} {π : PlT} (h : gdP c n k π) : gdP (c + 1) n k (plMend n k ρ ri π).2 := by
  unfold plMend
  split
  · obtain ⟨hO, hF, hH, hc⟩ := h.up
    exact ⟨hO, hF, hH, hc⟩
  · exact h.up
theorem nI_m1 {x : Nat} (h : x < 2147483648) : ¬ nI x = -1 := fun q => by
  have := congrArg Int32.toInt q
  rw [nI_toInt h, show (-1 : Int32).toInt = -1 from by decide] at this
  omega
theorem okM.add {n : Nat} {M : Nat → Nat → Int32} (h : okM n M) (hZ : Zt n M) (hn : n < 40) : okM (n + 1) (addM n M) := by
  obtain ⟨h0, h2, ⟨rk, ha⟩, hE, h1⟩ := h
  have r0 : addM n M 0 = M 0 := rfl
  have r1 : addM n M 1 = M 1 := rfl
  have r3 : addM n M 3 = M 3 := rfl
  have r2n : addM n M 2 n = -1 := pk_us
  have r2 : ∀ o, o < n → addM n M 2 o = M 2 o := fun o ho => pk_un (by omega)
  have z : ∀ m, M m n = 0 := fun m => hZ m n (Nat.le_refl n)
  have b0 : ∀ b : Int, 0 ≤ b → bI 0 b := fun b hb => ⟨by rw [Int32.toInt_zero]; omega, by rw [Int32.toInt_zero]; exact hb⟩
  have sp : ∀ o, o < n + 1 → o < n ∨ o = n := fun o ho => by omega
  refine ⟨fun o ho => ?_, fun o ho => ?_, ⟨rk, fun o ho b hb e => ?_⟩, fun o ho => ?_, fun o ho => ?_⟩
  · rcases sp o ho with q | q
    · rw [r0]; exact h0 o q
    · subst q; rw [r0, z]; exact b0 _ (by omega)
  · rcases sp o ho with q | q
    · rw [r2 o q]
      exact (h2 o q).imp id (fun ⟨b, hb, e⟩ => ⟨b, by omega, e⟩)
    · subst q; exact Or.inl r2n
  · rcases sp o ho with q | q
    · rw [r2 o q] at e
      rcases h2 o q with e2 | ⟨x, hx, e2⟩
      · rw [e2] at e
        exact absurd e.symm (nI_m1 (by omega))
      · have : b = x := nI_eq' (e.symm.trans e2) (by omega) (by omega)
        subst this
        exact ha o q b hx e2
    · subst q
      rw [r2n] at e
      exact absurd e.symm (nI_m1 (by omega))
  · unfold dueM
    rw [r3, r0]
    rcases sp o ho with q | q
    · rw [r2 o q, hE o q]
      unfold dueM
      rcases h2 o q with e2 | ⟨x, hx, e2⟩
      · rw [e2, neg1, neg1]
      · rw [e2, hasB_nI (by omega) (by omega), hasB_nI (by omega) (by omega)]
        simp [hx, show x < n + 1 by omega]
    · subst q
      rw [r2n, neg1, z, z]
      rfl
  · rcases sp o ho with q | q
    · rw [r1]; exact h1 o q
    · subst q; rw [r1, z]; exact b0 _ (by omega)
theorem gd_add {c n k : Nat} {ρ : RuT} {π : PlT} (h : gdP c n k π) (hn : n < 40) (h0 : pKn π = 0) : gdP (c + 1) (n + 1) k (plAdd n k ρ π) := by
  have hok := h.ok
  obtain ⟨⟨hZ, hb60, hnx, hkn, hbk, hOk⟩, hF, hH, hc⟩ := h.up
  refine ⟨⟨Zt_add hZ, hb60, hnx, hkn, hbk, fun i hi => ?_⟩, hF, fun i hi => ?_, hc⟩
  · have hi : i < pKn π := hi
    omega
  · have hi : i ≤ pKn π := hi
    have e : i = 0 := by omega
    subst e
    exact hok.add hZ hn
theorem gd_rule {c n k : Nat} {ρ : RuT} {π : PlT} (h : gdP c n k π) : gdP (c + 1) n (k + 1) (plRule n k ρ π) := by
  obtain ⟨hO, hF, hH, hc⟩ := h.up
  exact ⟨hO, fun r hr => hF r (by omega), hH, hc⟩
theorem gd_new {c n k : Nat} {π : PlT} (h : gdP c n k π) : gdP (c + 1) n k (plNew k π) := by
  have hok := h.ok
  refine ⟨⟨h.1.1, Nat.zero_le _, by show 0 < 60; omega, Nat.zero_le _, fun q => absurd (show false = true from q) (by decide), fun i hi => absurd hi (Nat.not_lt_zero _)⟩, fun r hr => ?_, fun i hi => ?_, ⟨0, Nat.zero_le _, rfl, fun q => absurd q (Nat.not_lt_zero _)⟩⟩
  · show cpU (fun _ => false) (pF π) k r = false
    unfold cpU
    rw [if_neg (by omega)]
  · have e : i = 0 := Nat.le_zero.mp hi
    subst e
    exact hok
theorem tb_plR {n k p : Nat} {ρ : RuT} {π : PlT} {c : Nat} {mem mem2 : Nat → Int32} {kpt : Nat → Int64} {fgt : Nat → Bool} {cha cos fnd : Nat → Int32} {isb : Nat → Bool} {bat kno oob ome onu : Nat → Int32} {oke : Nat → Int64} (h : plR k p π mem kpt fgt cha cos fnd isb bat kno oob ome onu oke) (hg : gdP c n k π) (hk12 : k ≤ 12) (hk0 : 0 < pKn π) (hv2 : viewR mem2 p (tbM n (pHo π) (pHm π) (pHv π) (pM π) (nxD (pNx π)))) :
    plR k p (tbP n k ρ π) mem2 (cpA oke kpt (12 * (60 * p + (pKn π - 1))) (12 * p) 12) fgt cha (upd cos p (cos p + nI (ctS ρ (pM π) (tbM n (pHo π) (pHm π) (pHv π) (pM π) (nxD (pNx π))) n k))) fnd isb (upd bat p (nI (if isb p = true then (if pBb π = true then pBn π else 0) - 1 else (if pBb π = true then pBn π else 0)))) (upd kno p (nI (pKn π - 1))) oob ome onu oke := by
  obtain ⟨hvw, hkp, hfg, ech, eco, efo, ebb, ebt, ekn, hhi⟩ := h
  obtain ⟨hZ, hb60, hnx, hkn, hbk, hOk⟩ := hg.1
  refine ⟨hv2, fun r hr => ?_, hfg, ech, ?_, efo, ebb, ?_, ?_, hisR_pop hhi hnx hkn⟩
  · rw [cpA_in (by omega)]
    show _ = va_cpy (pHs π (nxD (pNx π))) (pK π) 0 0 12 r
    rw [pk_cpy_in (Nat.zero_le _) (by omega), ← rix_0 hnx]
    have := (hhi 0 hk0).2.2.2 r hr
    rw [show pKn π - 1 - 0 = pKn π - 1 by omega] at this
    rw [this]
    congr 1
    omega
  · rw [pk_us, eco]
    rfl
  · rw [pk_us, ebb]
    show _ = nI (if pBb π = true then (if pBb π = true then pBn π - 1 else pBn π) else 0)
    by_cases q : pBb π = true
    · simp [q]
    · simp [q]
  · rw [pk_us]
    rfl
theorem updL_at {f g : Nat → Int64} {a r rr : Nat} {w : Int64} (h : f (a + r) = g r) : vp_updL f (a + rr) w (a + r) = vp_updL g rr w r := by
  unfold vp_updL
  by_cases q : r = rr
  · subst q; simp
  · rw [if_neg q, if_neg (by omega)]
    exact h
theorem tk_c {n : Nat} {g g2 : Nat → Int32} {o mi v : Int32} (h : ∀ o, o < n → g o = g2 o) (hn : n ≤ 40) : tkB n g o mi v = tkB n g2 o mi v := by
  unfold tkB
  rw [ld_congr h hn o n v]
theorem oth_s {w f : Nat → Int32} {M M2 : Nat → Nat → Int32} : ∀ n, (∀ m, m < 4 → ∀ o, o < n → w (4 * o + m) = M m o) → (∀ m, m < 4 → ∀ o, o < n → f (4 * o + m) = M2 m o) → oth w f (4 * n) = rdT (M 0) (M2 0) n + rdT (M 1) (M2 1) n + rdT (M 2) (M2 2) n + rdT (M 3) (M2 3) n
  | 0, _, _ => rfl
  | n + 1, h1, h2 => by
    have ih := oth_s n (fun m hm o ho => h1 m hm o (by omega)) (fun m hm o ho => h2 m hm o (by omega))
    rw [show 4 * (n + 1) = 4 * n + 1 + 1 + 1 + 1 by omega]
    unfold oth
    unfold oth
    unfold oth
    unfold oth
    unfold rdT
    rw [ih, show w (4 * n) = M 0 n from h1 0 (by omega) n (by omega), show f (4 * n) = M2 0 n from h2 0 (by omega) n (by omega), h1 1 (by omega) n (by omega), h2 1 (by omega) n (by omega), show 4 * n + 1 + 1 = 4 * n + 2 by omega, h1 2 (by omega) n (by omega), h2 2 (by omega) n (by omega), show 4 * n + 2 + 1 = 4 * n + 3 by omega, h1 3 (by omega) n (by omega), h2 3 (by omega) n (by omega)]
    omega
theorem oth_co {w f : Nat → Int32} {M M2 : Nat → Nat → Int32} {n : Nat} (h1 : ∀ m, m < 4 → ∀ o, o < n → w (4 * o + m) = M m o) (h2 : ∀ m, m < 4 → ∀ o, o < n → f (4 * o + m) = M2 m o) : oth w f (4 * n) = coT n M M2 4 := by
  rw [oth_s n h1 h2]
  show _ = 0 + rdT (M 0) (M2 0) n + rdT (M 1) (M2 1) n + rdT (M 2) (M2 2) n + rdT (M 3) (M2 3) n
  omega
theorem ctT_0 {kd : Nat} {f f2 g g2 : Nat → Int32} : ∀ n, ctT kd f f2 g g2 n = 0 → ∀ o, o < n → f o = f2 o ∧ (kd = 5 → g o = g2 o)
  | 0, _, o, ho => absurd ho (Nat.not_lt_zero _)
  | n + 1, h, o, ho => by
    unfold ctT at h
    by_cases q : ¬ f n = f2 n ∨ (kd = 5 ∧ ¬ g n = g2 n)
    · rw [if_pos q] at h; omega
    · rw [if_neg q] at h
      by_cases e : o = n
      · subst e
        refine ⟨Classical.byContradiction (fun a => q (Or.inl a)), fun k5 => Classical.byContradiction (fun a => q (Or.inr ⟨k5, a⟩))⟩
      · exact ctT_0 n (by omega) o (by omega)
theorem wth_g {kd : Nat} {bd wt : Int32} {f g g2 : Nat → Int32} {n : Nat} (h : kd < 5) : wth kd bd wt f g n = wth kd bd wt f g2 n := by
  unfold wth
  by_cases h0 : kd = 0
  · rw [if_pos h0, if_pos h0]
  rw [if_neg h0, if_neg h0]
  by_cases h1 : kd = 1
  · rw [if_pos h1, if_pos h1]
  rw [if_neg h1, if_neg h1]
  by_cases h2 : kd = 2
  · rw [if_pos h2, if_pos h2]
  rw [if_neg h2, if_neg h2]
  by_cases h3 : kd = 3
  · rw [if_pos h3, if_pos h3]
  rw [if_neg h3, if_neg h3]
  by_cases h4 : kd = 4
  · rw [if_pos h4, if_pos h4]
  omega
theorem ct_w {ρ : RuT} {r n : Nat} {M M2 : Nat → Nat → Int32} (hk : (ρ r).1 < 6) (hn : n ≤ 40) (h : ctR ρ r M M2 n = 0) : wthR ρ r M2 n = wthR ρ r M n := by
  have h2 := ctT_0 n h
  unfold wthR
  by_cases h5 : (ρ r).1 = 5
  · exact wth_c hn (fun o ho => (h2 o ho).1.symm) (fun o ho => ((h2 o ho).2 h5).symm)
  · rw [wth_g (g := M2 2) (g2 := M 2) (by omega)]
    exact wth_c hn (fun o ho => (h2 o ho).1.symm) (fun _ _ => rfl)
theorem gn_eq {ρ : RuT} {r n : Nat} {fb : Nat → Bool} {M M2 : Nat → Nat → Int32} (hk : (ρ r).1 < 6) (hn : n ≤ 40) : gnL ρ r fb M n M2 n = if fb r = true then 0 else wthR ρ r M2 n - wthR ρ r M n := by
  unfold gnL
  by_cases h : fb r = true
  · rw [if_pos h, if_pos (Or.inl h)]
  · rw [if_neg h]
    by_cases h2 : ctR ρ r M M2 n = 0
    · rw [if_pos (Or.inr h2), ct_w hk hn h2]
      simp
    · rw [if_neg (fun q => q.elim h h2)]
/-- what the reference brings to a score, rule by rule -/
def saR (ρ : RuT) (s0 : Int64) (fb : Nat → Bool) (lv : Int32) (M : Nat → Nat → Int32) (n : Nat) (M2 : Nat → Nat → Int32) : Nat → Int64
  | 0 => s0
  | r + 1 => saR ρ s0 fb lv M n M2 r + (if (ρ r).2.2.2.2 = lv ∧ ¬ fb r = true then wthR ρ r M2 n - wthR ρ r M n else 0)
theorem sa_sb {ρ : RuT} {kp : Nat → Int64} {fb : Nat → Bool} {lv : Int32} {k : Nat} {M : Nat → Nat → Int32} {n : Nat} {M2 : Nat → Nat → Int32} (hn : n ≤ 40) : ∀ i, (∀ r, r < i → (ρ r).1 < 6) → saR ρ (scL ρ kp lv k) fb lv M n M2 i = sbL ρ kp fb lv k M n M2 i
  | 0, _ => rfl
  | i + 1, h => by
    unfold saR sbL
    rw [sa_sb hn i (fun r hr => h r (by omega)), gn_eq (h i (by omega)) hn]
    by_cases h1 : (ρ i).2.2.2.2 = lv
    · rw [if_pos h1]
      by_cases h2 : fb i = true
      · rw [if_pos h2, if_neg (fun q => q.2 h2)]
      · rw [if_neg h2, if_pos ⟨h1, h2⟩]
    · rw [if_neg h1, if_neg (fun q => h1 q.1)]
      simp
theorem view_oth {mem2 : Nat → Int32} {pp n : Nat} {M2 : Nat → Nat → Int32} (hv : viewR mem2 pp M2) (hn : n ≤ 40) : ∀ m, m < 4 → ∀ o, o < n → (fun j => mem2 (160 * pp + j)) (4 * o + m) = M2 m o := fun m hm o ho => by
  show mem2 (160 * pp + (4 * o + m)) = _
  rw [← Nat.add_assoc]
  exact hv m hm o (by omega)
