/-! the reference: its arrays, and how they stand to what the class holds -/
def isA (ad : Nat → Nat) (V : Nat → Option va_E) (cy : Nat → ClassId) (n k P K : Nat) (ev : Int32) (ak : Nat → Int32) (al : Nat → Int32) (ab : Nat → Int32) (aw : Nat → Int32) (av : Nat → Int32) (mem : Nat → Int32) (kpt : Nat → Int64) (fgt : Nat → Bool) (cha : Nat → Int32) (cos : Nat → Int32) (fnd : Nat → Int32) (isb : Nat → Bool) (bat : Nat → Int32) (kno : Nat → Int32) (oob : Nat → Int32) (ome : Nat → Int32) (onu : Nat → Int32) (oke : Nat → Int64) (ksc : Nat → Int64) (kme : Nat → Int32) (kob : Nat → Int32) (was : Nat → Int32) (wwa : Nat → Int64) : Prop :=
  V 2000 = some (.inr (7, [.int (nI n), .int (nI k), .ref (ad (2002)), .ref (ad (2003)), .ref (ad (2004)), .ref (ad (2005)), .ref (ad (2006)), .int (nI P), .ref (ad (2008)), .ref (ad (2009)), .ref (ad (2010)), .ref (ad (2011)), .ref (ad (2012)), .ref (ad (2013)), .ref (ad (2014)), .ref (ad (2015)), .ref (ad (2016)), .ref (ad (2017)), .ref (ad (2018)), .ref (ad (2019)), .ref (ad (2020)), .int (ev), .int (nI K), .ref (ad (2023)), .ref (ad (2024)), .ref (ad (2025)), .ref (ad (2026)), .ref (ad (2027))])) ∧ V 2002 = some (.inl (cy 0, 12, .inl ak)) ∧ V 2003 = some (.inl (cy 0, 12, .inl al)) ∧ V 2004 = some (.inl (cy 0, 12, .inl ab)) ∧ V 2005 = some (.inl (cy 0, 12, .inl aw)) ∧ V 2006 = some (.inl (cy 0, 12, .inl av)) ∧ V 2008 = some (.inl (cy 0, 640, .inl mem)) ∧ V 2009 = some (.inl (cy 1, 48, .inr (.inl kpt))) ∧ V 2010 = some (.inl (cy 2, 48, .inl (fun r => b2i (fgt r)))) ∧ V 2011 = some (.inl (cy 0, 4, .inl cha)) ∧ V 2012 = some (.inl (cy 0, 4, .inl cos)) ∧ V 2013 = some (.inl (cy 0, 4, .inl fnd)) ∧ V 2014 = some (.inl (cy 2, 4, .inl (fun r => b2i (isb r)))) ∧ V 2015 = some (.inl (cy 0, 4, .inl bat)) ∧ V 2016 = some (.inl (cy 0, 4, .inl kno)) ∧ V 2017 = some (.inl (cy 0, 240, .inl oob)) ∧ V 2018 = some (.inl (cy 0, 240, .inl ome)) ∧ V 2019 = some (.inl (cy 0, 240, .inl onu)) ∧ V 2020 = some (.inl (cy 1, 2880, .inr (.inl oke))) ∧ V 2023 = some (.inl (cy 1, 60, .inr (.inl ksc))) ∧ V 2024 = some (.inl (cy 0, 3200, .inl kme)) ∧ V 2025 = some (.inl (cy 0, 20, .inl kob)) ∧ V 2026 = some (.inl (cy 0, 160, .inl was)) ∧ V 2027 = some (.inl (cy 1, 12, .inr (.inl wwa)))
def plR (k p : Nat) (π : PlT) (mem : Nat → Int32) (kpt : Nat → Int64) (fgt : Nat → Bool) (cha : Nat → Int32) (cos : Nat → Int32) (fnd : Nat → Int32) (isb : Nat → Bool) (bat : Nat → Int32) (kno : Nat → Int32) (oob : Nat → Int32) (ome : Nat → Int32) (onu : Nat → Int32) (oke : Nat → Int64) : Prop :=
  viewR mem p (pM π) ∧ (∀ r, r < k → kpt (12 * p + r) = pK π r) ∧ (∀ r, r < 12 → fgt (12 * p + r) = pF π r) ∧ cha p = pCh π ∧ cos p = pCo π ∧ fnd p = pFo π ∧ isb p = pBb π ∧ bat p = nI (if pBb π = true then pBn π else 0) ∧ kno p = nI (pKn π) ∧ hisR k p oob ome onu oke (pHo π) (pHm π) (pHv π) (pHs π) (pNx π) (pKn π)
def nwR (p : Nat) (cha : Nat → Int32) (cos : Nat → Int32) (fnd : Nat → Int32) (isb : Nat → Bool) (bat : Nat → Int32) (kno : Nat → Int32) : Prop := cha p = 0 ∧ cos p = 0 ∧ fnd p = -1 ∧ isb p = false ∧ bat p = 0 ∧ kno p = 0
def reP (k P : Nat) (pl : Nat → PlT) (mem : Nat → Int32) (kpt : Nat → Int64) (fgt : Nat → Bool) (cha : Nat → Int32) (cos : Nat → Int32) (fnd : Nat → Int32) (isb : Nat → Bool) (bat : Nat → Int32) (kno : Nat → Int32) (oob : Nat → Int32) (ome : Nat → Int32) (onu : Nat → Int32) (oke : Nat → Int64) : Prop := (∀ p, p < P → plR k p (pl p) mem kpt fgt cha cos fnd isb bat kno oob ome onu oke) ∧ ∀ p, P ≤ p → p < 4 → nwR p cha cos fnd isb bat kno
def reS (K : Nat) (sn : Nat → SnT) (ksc : Nat → Int64) (kme : Nat → Int32) (kob : Nat → Int32) : Prop := ∀ i, i < K → kob i = nI (sn i).1 ∧ (∀ m, m < 4 → ∀ o, o < 40 → kme (160 * i + 4 * o + m) = (sn i).2.1 m o) ∧ ∀ x, x < 3 → ksc (3 * i + x) = (sn i).2.2 x
def reR (k : Nat) (ρ : RuT) (ak al ab aw av : Nat → Int32) : Prop := ruleR k ρ ak al ab aw ∧ ∀ r, r < k → av r = (ρ r).2.2.2.2
def isM (ad : Nat → Nat) (V : Nat → Option va_E) (cy : Nat → ClassId) (n k P K : Nat) (ce : Int32) (ρ : RuT) (pl : Nat → PlT) (sn : Nat → SnT) : Prop :=
  ∃ (ak : Nat → Int32) (al : Nat → Int32) (ab : Nat → Int32) (aw : Nat → Int32) (av : Nat → Int32) (mem : Nat → Int32) (kpt : Nat → Int64) (fgt : Nat → Bool) (cha : Nat → Int32) (cos : Nat → Int32) (fnd : Nat → Int32) (isb : Nat → Bool) (bat : Nat → Int32) (kno : Nat → Int32) (oob : Nat → Int32) (ome : Nat → Int32) (onu : Nat → Int32) (oke : Nat → Int64) (ksc : Nat → Int64) (kme : Nat → Int32) (kob : Nat → Int32) (was : Nat → Int32) (wwa : Nat → Int64), isA ad V cy n k P K ce ak al ab aw av mem kpt fgt cha cos fnd isb bat kno oob ome onu oke ksc kme kob was wwa ∧ reR k ρ ak al ab aw av ∧ reP k P pl mem kpt fgt cha cos fnd isb bat kno oob ome onu oke ∧ reS K sn ksc kme kob
theorem plR.fr {k q p : Nat} {π : PlT} {mem : Nat → Int32} {kpt : Nat → Int64} {fgt : Nat → Bool} {cha : Nat → Int32} {cos : Nat → Int32} {fnd : Nat → Int32} {isb : Nat → Bool} {bat : Nat → Int32} {kno : Nat → Int32} {oob : Nat → Int32} {ome : Nat → Int32} {onu : Nat → Int32} {oke : Nat → Int64} {mem2 : Nat → Int32} {kpt2 : Nat → Int64} {fgt2 : Nat → Bool} {cha2 : Nat → Int32} {cos2 : Nat → Int32} {fnd2 : Nat → Int32} {isb2 : Nat → Bool} {bat2 : Nat → Int32} {kno2 : Nat → Int32} {oob2 : Nat → Int32} {ome2 : Nat → Int32} {onu2 : Nat → Int32} {oke2 : Nat → Int64} (h : plR k q π mem kpt fgt cha cos fnd isb bat kno oob ome onu oke) (hne : ¬ q = p) (hk : k ≤ 12) (fmem : ∀ j, (j < 160 * p ∨ 160 * p + 160 ≤ j) → mem2 j = mem j) (fkpt : ∀ j, (j < 12 * p ∨ 12 * p + 12 ≤ j) → kpt2 j = kpt j) (ffgt : ∀ j, (j < 12 * p ∨ 12 * p + 12 ≤ j) → fgt2 j = fgt j) (fcha : ∀ j, (¬ j = p) → cha2 j = cha j) (fcos : ∀ j, (¬ j = p) → cos2 j = cos j) (ffnd : ∀ j, (¬ j = p) → fnd2 j = fnd j) (fisb : ∀ j, (¬ j = p) → isb2 j = isb j) (fbat : ∀ j, (¬ j = p) → bat2 j = bat j) (fkno : ∀ j, (¬ j = p) → kno2 j = kno j) (foob : ∀ j, (j < 60 * p ∨ 60 * p + 60 ≤ j) → oob2 j = oob j) (fome : ∀ j, (j < 60 * p ∨ 60 * p + 60 ≤ j) → ome2 j = ome j) (fonu : ∀ j, (j < 60 * p ∨ 60 * p + 60 ≤ j) → onu2 j = onu j) (foke : ∀ j, (j < 12 * (60 * p) ∨ 12 * (60 * p + 60) ≤ j) → oke2 j = oke j) (hkn : pKn π ≤ 60) : plR k q π mem2 kpt2 fgt2 cha2 cos2 fnd2 isb2 bat2 kno2 oob2 ome2 onu2 oke2 := by
  obtain ⟨h1, h2, h3, h4, h5, h6, h7, h8, h9, h10⟩ := h
  refine ⟨fun m hm o ho => ?_, fun r hr => ?_, fun r hr => ?_, ?_, ?_, ?_, ?_, ?_, ?_, fun i hi => ?_⟩
  · rw [fmem _ (by omega)]; exact h1 m hm o ho
  · rw [fkpt _ (by omega)]; exact h2 r hr
  · rw [ffgt _ (by omega)]; exact h3 r hr
  · rw [fcha _ (by omega)]; exact h4
  · rw [fcos _ (by omega)]; exact h5
  · rw [ffnd _ (by omega)]; exact h6
  · rw [fisb _ (by omega)]; exact h7
  · rw [fbat _ (by omega)]; exact h8
  · rw [fkno _ (by omega)]; exact h9
  · obtain ⟨g1, g2, g3, g4⟩ := h10 i hi
    rw [foob _ (by omega), fome _ (by omega), fonu _ (by omega)]
    refine ⟨g1, g2, g3, fun r hr => ?_⟩
    rw [foke _ (by omega)]
    exact g4 r hr
theorem reP.up {k P p : Nat} {pl : Nat → PlT} {π : PlT} {mem : Nat → Int32} {kpt : Nat → Int64} {fgt : Nat → Bool} {cha : Nat → Int32} {cos : Nat → Int32} {fnd : Nat → Int32} {isb : Nat → Bool} {bat : Nat → Int32} {kno : Nat → Int32} {oob : Nat → Int32} {ome : Nat → Int32} {onu : Nat → Int32} {oke : Nat → Int64} {mem2 : Nat → Int32} {kpt2 : Nat → Int64} {fgt2 : Nat → Bool} {cha2 : Nat → Int32} {cos2 : Nat → Int32} {fnd2 : Nat → Int32} {isb2 : Nat → Bool} {bat2 : Nat → Int32} {kno2 : Nat → Int32} {oob2 : Nat → Int32} {ome2 : Nat → Int32} {onu2 : Nat → Int32} {oke2 : Nat → Int64} (h : reP k P pl mem kpt fgt cha cos fnd isb bat kno oob ome onu oke) (hp : p < P) (hk : k ≤ 12) (hkn : ∀ q, q < P → pKn (pl q) ≤ 60) (hπ : plR k p π mem2 kpt2 fgt2 cha2 cos2 fnd2 isb2 bat2 kno2 oob2 ome2 onu2 oke2) (fmem : ∀ j, (j < 160 * p ∨ 160 * p + 160 ≤ j) → mem2 j = mem j) (fkpt : ∀ j, (j < 12 * p ∨ 12 * p + 12 ≤ j) → kpt2 j = kpt j) (ffgt : ∀ j, (j < 12 * p ∨ 12 * p + 12 ≤ j) → fgt2 j = fgt j) (fcha : ∀ j, (¬ j = p) → cha2 j = cha j) (fcos : ∀ j, (¬ j = p) → cos2 j = cos j) (ffnd : ∀ j, (¬ j = p) → fnd2 j = fnd j) (fisb : ∀ j, (¬ j = p) → isb2 j = isb j) (fbat : ∀ j, (¬ j = p) → bat2 j = bat j) (fkno : ∀ j, (¬ j = p) → kno2 j = kno j) (foob : ∀ j, (j < 60 * p ∨ 60 * p + 60 ≤ j) → oob2 j = oob j) (fome : ∀ j, (j < 60 * p ∨ 60 * p + 60 ≤ j) → ome2 j = ome j) (fonu : ∀ j, (j < 60 * p ∨ 60 * p + 60 ≤ j) → onu2 j = onu j) (foke : ∀ j, (j < 12 * (60 * p) ∨ 12 * (60 * p + 60) ≤ j) → oke2 j = oke j) : reP k P (va_up pl p π) mem2 kpt2 fgt2 cha2 cos2 fnd2 isb2 bat2 kno2 oob2 ome2 onu2 oke2 := by
  refine ⟨fun q hq => ?_, fun q h1 h2 => ?_⟩
  · by_cases e : q = p
    · subst e; rw [va_up_self]; exact hπ
    · rw [va_up_ne _ _ e]
      exact (h.1 q hq).fr e hk fmem fkpt ffgt fcha fcos ffnd fisb fbat fkno foob fome fonu foke (hkn q hq)
  · obtain ⟨a1, a2, a3, a4, a5, a6⟩ := h.2 q h1 h2
    exact ⟨by rw [fcha _ (by omega)]; exact a1, by rw [fcos _ (by omega)]; exact a2, by rw [ffnd _ (by omega)]; exact a3, by rw [fisb _ (by omega)]; exact a4, by rw [fbat _ (by omega)]; exact a5, by rw [fkno _ (by omega)]; exact a6⟩
theorem isM.mv {ad : Nat → Nat} {V X : Nat → Option va_E} {ad2 : Nat → Nat} {cy : Nat → ClassId} {n k P K : Nat} {ce : Int32} {ρ : RuT} {pl : Nat → PlT} {sn : Nat → SnT} (h : isM ad V cy n k P K ce ρ pl sn) (hs : ∀ L, 2000 ≤ L → X L = V L ∧ ad2 L = ad L) : isM ad2 X cy n k P K ce ρ pl sn := by
  obtain ⟨ak, al, ab, aw, av, mem, kpt, fgt, cha, cos, fnd, isb, bat, kno, oob, ome, onu, oke, ksc, kme, kob, was, wwa, ⟨a0, a2002, a2003, a2004, a2005, a2006, a2008, a2009, a2010, a2011, a2012, a2013, a2014, a2015, a2016, a2017, a2018, a2019, a2020, a2023, a2024, a2025, a2026, a2027⟩, r1, r2, r3⟩ := h
  refine ⟨ak, al, ab, aw, av, mem, kpt, fgt, cha, cos, fnd, isb, bat, kno, oob, ome, onu, oke, ksc, kme, kob, was, wwa, ⟨?_, (hs 2002 (by omega)).1.trans a2002, (hs 2003 (by omega)).1.trans a2003, (hs 2004 (by omega)).1.trans a2004, (hs 2005 (by omega)).1.trans a2005, (hs 2006 (by omega)).1.trans a2006, (hs 2008 (by omega)).1.trans a2008, (hs 2009 (by omega)).1.trans a2009, (hs 2010 (by omega)).1.trans a2010, (hs 2011 (by omega)).1.trans a2011, (hs 2012 (by omega)).1.trans a2012, (hs 2013 (by omega)).1.trans a2013, (hs 2014 (by omega)).1.trans a2014, (hs 2015 (by omega)).1.trans a2015, (hs 2016 (by omega)).1.trans a2016, (hs 2017 (by omega)).1.trans a2017, (hs 2018 (by omega)).1.trans a2018, (hs 2019 (by omega)).1.trans a2019, (hs 2020 (by omega)).1.trans a2020, (hs 2023 (by omega)).1.trans a2023, (hs 2024 (by omega)).1.trans a2024, (hs 2025 (by omega)).1.trans a2025, (hs 2026 (by omega)).1.trans a2026, (hs 2027 (by omega)).1.trans a2027⟩, r1, r2, r3⟩
  rw [(hs 2002 (by omega)).2, (hs 2003 (by omega)).2, (hs 2004 (by omega)).2, (hs 2005 (by omega)).2, (hs 2006 (by omega)).2, (hs 2008 (by omega)).2, (hs 2009 (by omega)).2, (hs 2010 (by omega)).2, (hs 2011 (by omega)).2, (hs 2012 (by omega)).2, (hs 2013 (by omega)).2, (hs 2014 (by omega)).2, (hs 2015 (by omega)).2, (hs 2016 (by omega)).2, (hs 2017 (by omega)).2, (hs 2018 (by omega)).2, (hs 2019 (by omega)).2, (hs 2020 (by omega)).2, (hs 2023 (by omega)).2, (hs 2024 (by omega)).2, (hs 2025 (by omega)).2, (hs 2026 (by omega)).2, (hs 2027 (by omega)).2, (hs 2000 (by omega)).1]; exact a0
section XM
variable {ad : Nat → Nat} {V X : Nat → Option va_E} {cy : Nat → ClassId} {n k P K : Nat} {ce : Int32} {ρ : RuT} {pl : Nat → PlT} {sn : Nat → SnT} {pi r : Int32} {f : PlT → Int32 × PlT}
theorem xM_none (hM : isM ad V cy n k P K ce ρ pl sn) (hp : ¬ hasB P pi = true) : (-1 : Int32) = (xPl P pl pi f).1 ∧ (ad, V).1 = ad ∧ isM ad (ad, V).2 cy n k P K ce ρ (xPl P pl pi f).2 sn ∧ ∀ L, L < 2000 → (ad, V).2 L = V L := by
  unfold xPl
  rw [if_neg hp]
  exact ⟨rfl, rfl, hM, fun _ _ => rfl⟩
theorem xM_same (hM : isM ad V cy n k P K ce ρ pl sn) (hp : hasB P pi = true) (h : f (pl pi.toNatClampNeg) = (r, pl pi.toNatClampNeg)) : r = (xPl P pl pi f).1 ∧ (ad, V).1 = ad ∧ isM ad (ad, V).2 cy n k P K ce ρ (xPl P pl pi f).2 sn ∧ ∀ L, L < 2000 → (ad, V).2 L = V L := by
  unfold xPl
  rw [if_pos hp, h]
  refine ⟨rfl, rfl, ?_, fun _ _ => rfl⟩
  show isM ad V cy n k P K ce ρ (va_up pl pi.toNatClampNeg (pl pi.toNatClampNeg)) sn
  rw [up_id]
  exact hM
theorem xM_new {ad2 : Nat → Nat} (hp : hasB P pi = true) {π : PlT} (h : f (pl pi.toNatClampNeg) = (r, π)) (e : ad2 = ad) (hM : isM ad X cy n k P K ce ρ (va_up pl pi.toNatClampNeg π) sn) (hs : ∀ L, L < 2000 → X L = V L) : r = (xPl P pl pi f).1 ∧ (ad2, X).1 = ad ∧ isM ad (ad2, X).2 cy n k P K ce ρ (xPl P pl pi f).2 sn ∧ ∀ L, L < 2000 → (ad2, X).2 L = V L := by
  unfold xPl
  rw [if_pos hp, h]
  exact ⟨rfl, e, hM, hs⟩
end XM
/-! what holds in every run -/
/-- the rows that i steps back would bring -/
def hisG (n : Nat) (ho hm hv : Nat → Int32) (nx : Nat) (M : Nat → Nat → Int32) : Nat → Nat → Nat → Int32
  | 0 => M
  | i + 1 => tbM n ho hm hv (hisG n ho hm hv nx M i) (rix nx i)
def gdH (n : Nat) (ho hm hv : Nat → Int32) (nx kn : Nat) (M : Nat → Nat → Int32) : Prop := ∀ i, i ≤ kn → okM n (hisG n ho hm hv nx M i)
def chK (c : Nat) (π : PlT) : Prop := ∃ x, x ≤ c ∧ pCh π = nI x ∧ (0 < pKn π → 0 < x)
def gdP (c n k : Nat) (π : PlT) : Prop := okP n π ∧ (∀ r, k ≤ r → pF π r = false) ∧ gdH n (pHo π) (pHm π) (pHv π) (pNx π) (pKn π) (pM π) ∧ chK c π
def gdX (c n k P K : Nat) (ρ : RuT) (pl : Nat → PlT) (sn : Nat → SnT) : Prop := okX n k P K ρ pl sn ∧ okB k ρ ∧ ∀ q, q < P → gdP c n k (pl q)
theorem gdP.ok {c n k : Nat} {π : PlT} (h : gdP c n k π) : okM n (pM π) := h.2.2.1 0 (Nat.zero_le _)
